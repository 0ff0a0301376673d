theorem dX0_mostBy_0 : decode cX0_mostBy 0 = .ok (.iload_n 0, 1) := by decide +kernel
theorem dX0_mostBy_1 : decode cX0_mostBy 1 = .ok (.tableswitch 35 0 2 #[27, 29, 31], 27) := by decide +kernel
theorem dX0_mostBy_28 : decode cX0_mostBy 28 = .ok (.iconst 3, 1) := by decide +kernel
theorem dX0_mostBy_29 : decode cX0_mostBy 29 = .ok (.ireturn, 1) := by decide +kernel
theorem dX0_mostBy_30 : decode cX0_mostBy 30 = .ok (.iconst 1, 1) := by decide +kernel
theorem dX0_mostBy_31 : decode cX0_mostBy 31 = .ok (.ireturn, 1) := by decide +kernel
theorem dX0_mostBy_32 : decode cX0_mostBy 32 = .ok (.sipush 1998, 3) := by decide +kernel
theorem dX0_mostBy_35 : decode cX0_mostBy 35 = .ok (.ireturn, 1) := by decide +kernel
theorem dX0_mostBy_36 : decode cX0_mostBy 36 = .ok (.iload_n 1, 1) := by decide +kernel
theorem dX0_mostBy_37 : decode cX0_mostBy 37 = .ok (.iconst 1, 1) := by decide +kernel
theorem dX0_mostBy_38 : decode cX0_mostBy 38 = .ok (.isub, 1) := by decide +kernel
theorem dX0_mostBy_39 : decode cX0_mostBy 39 = .ok (.ireturn, 1) := by decide +kernel
theorem dX0_move_0 : decode cX0_move 0 = .ok (.aload_n 1, 1) := by decide +kernel
theorem dX0_move_1 : decode cX0_move 1 = .ok (.aload_n 0, 1) := by decide +kernel
theorem dX0_move_2 : decode cX0_move 2 = .ok (.invokevirtual 9, 3) := by decide +kernel
theorem dX0_move_5 : decode cX0_move 5 = .ok (.iconst 0, 1) := by decide +kernel
theorem dX0_move_6 : decode cX0_move 6 = .ok (.istore 4, 2) := by decide +kernel
theorem dX0_move_8 : decode cX0_move 8 = .ok (.iconst 0, 1) := by decide +kernel
theorem dX0_move_9 : decode cX0_move 9 = .ok (.istore 5, 2) := by decide +kernel
theorem dX0_move_11 : decode cX0_move 11 = .ok (.iload 5, 2) := by decide +kernel
theorem dX0_move_13 : decode cX0_move 13 = .ok (.aload_n 0, 1) := by decide +kernel
theorem dX0_move_14 : decode cX0_move 14 = .ok (.invokevirtual 15, 3) := by decide +kernel
theorem dX0_move_17 : decode cX0_move 17 = .ok (.if_icmp .ge 42, 3) := by decide +kernel
theorem dX0_move_20 : decode cX0_move 20 = .ok (.aload_n 1, 1) := by decide +kernel
theorem dX0_move_21 : decode cX0_move 21 = .ok (.aload_n 0, 1) := by decide +kernel
theorem dX0_move_22 : decode cX0_move 22 = .ok (.invokevirtual 19, 3) := by decide +kernel
theorem dX0_move_25 : decode cX0_move 25 = .ok (.iload_n 2, 1) := by decide +kernel
theorem dX0_move_26 : decode cX0_move 26 = .ok (.iload_n 3, 1) := by decide +kernel
theorem dX0_move_27 : decode cX0_move 27 = .ok (.iload 5, 2) := by decide +kernel
theorem dX0_move_29 : decode cX0_move 29 = .ok (.invokestatic 22, 3) := by decide +kernel
theorem dX0_move_32 : decode cX0_move 32 = .ok (.invokevirtual 28, 3) := by decide +kernel
theorem dX0_move_35 : decode cX0_move 35 = .ok (.istore 6, 2) := by decide +kernel
theorem dX0_move_37 : decode cX0_move 37 = .ok (.aload_n 0, 1) := by decide +kernel
theorem dX0_move_38 : decode cX0_move 38 = .ok (.iload 5, 2) := by decide +kernel
theorem dX0_move_40 : decode cX0_move 40 = .ok (.iload 6, 2) := by decide +kernel
theorem dX0_move_42 : decode cX0_move 42 = .ok (.invokevirtual 32, 3) := by decide +kernel
theorem dX0_move_45 : decode cX0_move 45 = .ok (.iload 6, 2) := by decide +kernel
theorem dX0_move_47 : decode cX0_move 47 = .ok (.if_icmp .eq 6, 3) := by decide +kernel
theorem dX0_move_50 : decode cX0_move 50 = .ok (.iinc 4 1, 3) := by decide +kernel
theorem dX0_move_53 : decode cX0_move 53 = .ok (.iinc 5 1, 3) := by decide +kernel
theorem dX0_move_56 : decode cX0_move 56 = .ok (.goto (-45), 3) := by decide +kernel
theorem dX0_move_59 : decode cX0_move 59 = .ok (.iload 4, 2) := by decide +kernel
theorem dX0_move_61 : decode cX0_move 61 = .ok (.ireturn, 1) := by decide +kernel
theorem dX0_aheadOf_0 : decode cX0_aheadOf 0 = .ok (.iload_n 1, 1) := by decide +kernel
theorem dX0_aheadOf_1 : decode cX0_aheadOf 1 = .ok (.tableswitch 76 0 5 #[39, 46, 76, 53, 61, 69], 39) := by decide +kernel
theorem dX0_aheadOf_40 : decode cX0_aheadOf 40 = .ok (.iload_n 0, 1) := by decide +kernel
theorem dX0_aheadOf_41 : decode cX0_aheadOf 41 = .ok (.iload_n 2, 1) := by decide +kernel
theorem dX0_aheadOf_42 : decode cX0_aheadOf 42 = .ok (.iload_n 3, 1) := by decide +kernel
theorem dX0_aheadOf_43 : decode cX0_aheadOf 43 = .ok (.invokestatic 36, 3) := by decide +kernel
theorem dX0_aheadOf_46 : decode cX0_aheadOf 46 = .ok (.ireturn, 1) := by decide +kernel
theorem dX0_aheadOf_47 : decode cX0_aheadOf 47 = .ok (.iload_n 0, 1) := by decide +kernel
theorem dX0_aheadOf_48 : decode cX0_aheadOf 48 = .ok (.iload_n 2, 1) := by decide +kernel
theorem dX0_aheadOf_49 : decode cX0_aheadOf 49 = .ok (.iload_n 3, 1) := by decide +kernel
theorem dX0_aheadOf_50 : decode cX0_aheadOf 50 = .ok (.invokestatic 42, 3) := by decide +kernel
theorem dX0_aheadOf_53 : decode cX0_aheadOf 53 = .ok (.ireturn, 1) := by decide +kernel
theorem dX0_aheadOf_54 : decode cX0_aheadOf 54 = .ok (.iload_n 0, 1) := by decide +kernel
theorem dX0_aheadOf_55 : decode cX0_aheadOf 55 = .ok (.iload_n 2, 1) := by decide +kernel
theorem dX0_aheadOf_56 : decode cX0_aheadOf 56 = .ok (.iconst 0, 1) := by decide +kernel
theorem dX0_aheadOf_57 : decode cX0_aheadOf 57 = .ok (.iload_n 3, 1) := by decide +kernel
theorem dX0_aheadOf_58 : decode cX0_aheadOf 58 = .ok (.invokestatic 45, 3) := by decide +kernel
theorem dX0_aheadOf_61 : decode cX0_aheadOf 61 = .ok (.ireturn, 1) := by decide +kernel
theorem dX0_aheadOf_62 : decode cX0_aheadOf 62 = .ok (.iload_n 0, 1) := by decide +kernel
theorem dX0_aheadOf_63 : decode cX0_aheadOf 63 = .ok (.iconst 0, 1) := by decide +kernel
theorem dX0_aheadOf_64 : decode cX0_aheadOf 64 = .ok (.iload_n 2, 1) := by decide +kernel
theorem dX0_aheadOf_65 : decode cX0_aheadOf 65 = .ok (.iload_n 3, 1) := by decide +kernel
theorem dX0_aheadOf_66 : decode cX0_aheadOf 66 = .ok (.invokestatic 45, 3) := by decide +kernel
theorem dX0_aheadOf_69 : decode cX0_aheadOf 69 = .ok (.ireturn, 1) := by decide +kernel
theorem dX0_aheadOf_70 : decode cX0_aheadOf 70 = .ok (.iload_n 0, 1) := by decide +kernel
theorem dX0_aheadOf_71 : decode cX0_aheadOf 71 = .ok (.iload_n 2, 1) := by decide +kernel
theorem dX0_aheadOf_72 : decode cX0_aheadOf 72 = .ok (.iload_n 3, 1) := by decide +kernel
theorem dX0_aheadOf_73 : decode cX0_aheadOf 73 = .ok (.invokestatic 48, 3) := by decide +kernel
theorem dX0_aheadOf_76 : decode cX0_aheadOf 76 = .ok (.ireturn, 1) := by decide +kernel
theorem dX0_aheadOf_77 : decode cX0_aheadOf 77 = .ok (.iload_n 3, 1) := by decide +kernel
theorem dX0_aheadOf_78 : decode cX0_aheadOf 78 = .ok (.ireturn, 1) := by decide +kernel
theorem dX0_canComplement_0 : decode cX0_canComplement 0 = .ok (.iconst 0, 1) := by decide +kernel
theorem dX0_canComplement_1 : decode cX0_canComplement 1 = .ok (.istore_n 2, 1) := by decide +kernel
theorem dX0_canComplement_2 : decode cX0_canComplement 2 = .ok (.iload_n 2, 1) := by decide +kernel
theorem dX0_canComplement_3 : decode cX0_canComplement 3 = .ok (.aload_n 0, 1) := by decide +kernel
theorem dX0_canComplement_4 : decode cX0_canComplement 4 = .ok (.invokevirtual 15, 3) := by decide +kernel
theorem dX0_canComplement_7 : decode cX0_canComplement 7 = .ok (.if_icmp .ge 37, 3) := by decide +kernel
theorem dX0_canComplement_10 : decode cX0_canComplement 10 = .ok (.aload_n 0, 1) := by decide +kernel
theorem dX0_canComplement_11 : decode cX0_canComplement 11 = .ok (.iload_n 2, 1) := by decide +kernel
theorem dX0_canComplement_12 : decode cX0_canComplement 12 = .ok (.invokevirtual 28, 3) := by decide +kernel
theorem dX0_canComplement_15 : decode cX0_canComplement 15 = .ok (.istore_n 3, 1) := by decide +kernel
theorem dX0_canComplement_16 : decode cX0_canComplement 16 = .ok (.iload_n 3, 1) := by decide +kernel
theorem dX0_canComplement_17 : decode cX0_canComplement 17 = .ok (.ifCond .eq 21, 3) := by decide +kernel
theorem dX0_canComplement_20 : decode cX0_canComplement 20 = .ok (.iload_n 1, 1) := by decide +kernel
theorem dX0_canComplement_21 : decode cX0_canComplement 21 = .ok (.iload_n 3, 1) := by decide +kernel
theorem dX0_canComplement_22 : decode cX0_canComplement 22 = .ok (.isub, 1) := by decide +kernel
theorem dX0_canComplement_23 : decode cX0_canComplement 23 = .ok (.iconst 1, 1) := by decide +kernel
theorem dX0_canComplement_24 : decode cX0_canComplement 24 = .ok (.if_icmp .lt 12, 3) := by decide +kernel
theorem dX0_canComplement_27 : decode cX0_canComplement 27 = .ok (.iload_n 1, 1) := by decide +kernel
theorem dX0_canComplement_28 : decode cX0_canComplement 28 = .ok (.iload_n 3, 1) := by decide +kernel
theorem dX0_canComplement_29 : decode cX0_canComplement 29 = .ok (.isub, 1) := by decide +kernel
theorem dX0_canComplement_30 : decode cX0_canComplement 30 = .ok (.sipush 999, 3) := by decide +kernel
theorem dX0_canComplement_33 : decode cX0_canComplement 33 = .ok (.if_icmp .le 5, 3) := by decide +kernel
theorem dX0_canComplement_36 : decode cX0_canComplement 36 = .ok (.iconst 0, 1) := by decide +kernel
theorem dX0_canComplement_37 : decode cX0_canComplement 37 = .ok (.ireturn, 1) := by decide +kernel
theorem dX0_canComplement_38 : decode cX0_canComplement 38 = .ok (.iinc 2 1, 3) := by decide +kernel
theorem dX0_canComplement_41 : decode cX0_canComplement 41 = .ok (.goto (-39), 3) := by decide +kernel
theorem dX0_canComplement_44 : decode cX0_canComplement 44 = .ok (.iconst 1, 1) := by decide +kernel
theorem dX0_canComplement_45 : decode cX0_canComplement 45 = .ok (.ireturn, 1) := by decide +kernel
theorem dX0_complement_0 : decode cX0_complement 0 = .ok (.iconst 0, 1) := by decide +kernel
theorem dX0_complement_1 : decode cX0_complement 1 = .ok (.istore_n 2, 1) := by decide +kernel
theorem dX0_complement_2 : decode cX0_complement 2 = .ok (.iconst 0, 1) := by decide +kernel
theorem dX0_complement_3 : decode cX0_complement 3 = .ok (.istore_n 3, 1) := by decide +kernel
theorem dX0_complement_4 : decode cX0_complement 4 = .ok (.iload_n 3, 1) := by decide +kernel
theorem dX0_complement_5 : decode cX0_complement 5 = .ok (.aload_n 0, 1) := by decide +kernel
theorem dX0_complement_6 : decode cX0_complement 6 = .ok (.invokevirtual 15, 3) := by decide +kernel
theorem dX0_complement_9 : decode cX0_complement 9 = .ok (.if_icmp .ge 40, 3) := by decide +kernel
theorem dX0_complement_12 : decode cX0_complement 12 = .ok (.aload_n 0, 1) := by decide +kernel
theorem dX0_complement_13 : decode cX0_complement 13 = .ok (.iload_n 3, 1) := by decide +kernel
theorem dX0_complement_14 : decode cX0_complement 14 = .ok (.invokevirtual 28, 3) := by decide +kernel
theorem dX0_complement_17 : decode cX0_complement 17 = .ok (.istore 4, 2) := by decide +kernel
theorem dX0_complement_19 : decode cX0_complement 19 = .ok (.iload 4, 2) := by decide +kernel
theorem dX0_complement_21 : decode cX0_complement 21 = .ok (.ifCond .eq 22, 3) := by decide +kernel
theorem dX0_complement_24 : decode cX0_complement 24 = .ok (.aload_n 0, 1) := by decide +kernel
theorem dX0_complement_25 : decode cX0_complement 25 = .ok (.iload_n 3, 1) := by decide +kernel
theorem dX0_complement_26 : decode cX0_complement 26 = .ok (.iload_n 1, 1) := by decide +kernel
theorem dX0_complement_27 : decode cX0_complement 27 = .ok (.iload 4, 2) := by decide +kernel
theorem dX0_complement_29 : decode cX0_complement 29 = .ok (.isub, 1) := by decide +kernel
theorem dX0_complement_30 : decode cX0_complement 30 = .ok (.invokevirtual 32, 3) := by decide +kernel
theorem dX0_complement_33 : decode cX0_complement 33 = .ok (.iload_n 1, 1) := by decide +kernel
theorem dX0_complement_34 : decode cX0_complement 34 = .ok (.iload 4, 2) := by decide +kernel
theorem dX0_complement_36 : decode cX0_complement 36 = .ok (.isub, 1) := by decide +kernel
theorem dX0_complement_37 : decode cX0_complement 37 = .ok (.if_icmp .eq 6, 3) := by decide +kernel
theorem dX0_complement_40 : decode cX0_complement 40 = .ok (.iinc 2 1, 3) := by decide +kernel
theorem dX0_complement_43 : decode cX0_complement 43 = .ok (.iinc 3 1, 3) := by decide +kernel
theorem dX0_complement_46 : decode cX0_complement 46 = .ok (.goto (-42), 3) := by decide +kernel
theorem dX0_complement_49 : decode cX0_complement 49 = .ok (.iload_n 2, 1) := by decide +kernel
theorem dX0_complement_50 : decode cX0_complement 50 = .ok (.ireturn, 1) := by decide +kernel
theorem dX1_init_0 : decode cX1_init 0 = .ok (.aload_n 0, 1) := by decide +kernel
theorem dX1_init_1 : decode cX1_init 1 = .ok (.invokespecial 3, 3) := by decide +kernel
theorem dX1_init_4 : decode cX1_init 4 = .ok (.aload_n 0, 1) := by decide +kernel
theorem dX1_init_5 : decode cX1_init 5 = .ok (.bipush 81, 2) := by decide +kernel
theorem dX1_init_7 : decode cX1_init 7 = .ok (.newarray .int, 2) := by decide +kernel
theorem dX1_init_9 : decode cX1_init 9 = .ok (.putfield 9, 3) := by decide +kernel
theorem dX1_init_12 : decode cX1_init 12 = .ok (.aload_n 0, 1) := by decide +kernel
theorem dX1_init_13 : decode cX1_init 13 = .ok (.iconst 1, 1) := by decide +kernel
theorem dX1_init_14 : decode cX1_init 14 = .ok (.putfield 15, 3) := by decide +kernel
theorem dX1_init_17 : decode cX1_init 17 = .ok (.return_, 1) := by decide +kernel
theorem dX1_begin_0 : decode cX1_begin 0 = .ok (.aload_n 0, 1) := by decide +kernel
theorem dX1_begin_1 : decode cX1_begin 1 = .ok (.iload_n 1, 1) := by decide +kernel
theorem dX1_begin_2 : decode cX1_begin 2 = .ok (.putfield 15, 3) := by decide +kernel
theorem dX1_begin_5 : decode cX1_begin 5 = .ok (.iconst 0, 1) := by decide +kernel
theorem dX1_begin_6 : decode cX1_begin 6 = .ok (.istore_n 2, 1) := by decide +kernel
theorem dX1_begin_7 : decode cX1_begin 7 = .ok (.iload_n 2, 1) := by decide +kernel
theorem dX1_begin_8 : decode cX1_begin 8 = .ok (.aload_n 0, 1) := by decide +kernel
theorem dX1_begin_9 : decode cX1_begin 9 = .ok (.getfield 9, 3) := by decide +kernel
theorem dX1_begin_12 : decode cX1_begin 12 = .ok (.arraylength, 1) := by decide +kernel
theorem dX1_begin_13 : decode cX1_begin 13 = .ok (.if_icmp .ge 16, 3) := by decide +kernel
theorem dX1_begin_16 : decode cX1_begin 16 = .ok (.aload_n 0, 1) := by decide +kernel
theorem dX1_begin_17 : decode cX1_begin 17 = .ok (.getfield 9, 3) := by decide +kernel
theorem dX1_begin_20 : decode cX1_begin 20 = .ok (.iload_n 2, 1) := by decide +kernel
theorem dX1_begin_21 : decode cX1_begin 21 = .ok (.iconst 0, 1) := by decide +kernel
theorem dX1_begin_22 : decode cX1_begin 22 = .ok (.iastore, 1) := by decide +kernel
theorem dX1_begin_23 : decode cX1_begin 23 = .ok (.iinc 2 1, 3) := by decide +kernel
theorem dX1_begin_26 : decode cX1_begin 26 = .ok (.goto (-19), 3) := by decide +kernel
theorem dX1_begin_29 : decode cX1_begin 29 = .ok (.return_, 1) := by decide +kernel
theorem dX1_copyFrom_0 : decode cX1_copyFrom 0 = .ok (.aload_n 0, 1) := by decide +kernel
theorem dX1_copyFrom_1 : decode cX1_copyFrom 1 = .ok (.aload_n 1, 1) := by decide +kernel
theorem dX1_copyFrom_2 : decode cX1_copyFrom 2 = .ok (.invokevirtual 19, 3) := by decide +kernel
theorem dX1_copyFrom_5 : decode cX1_copyFrom 5 = .ok (.invokevirtual 22, 3) := by decide +kernel
theorem dX1_copyFrom_8 : decode cX1_copyFrom 8 = .ok (.iconst 0, 1) := by decide +kernel
theorem dX1_copyFrom_9 : decode cX1_copyFrom 9 = .ok (.istore_n 2, 1) := by decide +kernel
theorem dX1_copyFrom_10 : decode cX1_copyFrom 10 = .ok (.iload_n 2, 1) := by decide +kernel
theorem dX1_copyFrom_11 : decode cX1_copyFrom 11 = .ok (.aload_n 0, 1) := by decide +kernel
theorem dX1_copyFrom_12 : decode cX1_copyFrom 12 = .ok (.invokevirtual 26, 3) := by decide +kernel
theorem dX1_copyFrom_15 : decode cX1_copyFrom 15 = .ok (.if_icmp .ge 20, 3) := by decide +kernel
theorem dX1_copyFrom_18 : decode cX1_copyFrom 18 = .ok (.aload_n 0, 1) := by decide +kernel
theorem dX1_copyFrom_19 : decode cX1_copyFrom 19 = .ok (.iload_n 2, 1) := by decide +kernel
theorem dX1_copyFrom_20 : decode cX1_copyFrom 20 = .ok (.aload_n 1, 1) := by decide +kernel
theorem dX1_copyFrom_21 : decode cX1_copyFrom 21 = .ok (.iload_n 2, 1) := by decide +kernel
theorem dX1_copyFrom_22 : decode cX1_copyFrom 22 = .ok (.invokevirtual 29, 3) := by decide +kernel
theorem dX1_copyFrom_25 : decode cX1_copyFrom 25 = .ok (.invokevirtual 33, 3) := by decide +kernel
theorem dX1_copyFrom_28 : decode cX1_copyFrom 28 = .ok (.pop, 1) := by decide +kernel
theorem dX1_copyFrom_29 : decode cX1_copyFrom 29 = .ok (.iinc 2 1, 3) := by decide +kernel
theorem dX1_copyFrom_32 : decode cX1_copyFrom 32 = .ok (.goto (-22), 3) := by decide +kernel
theorem dX1_copyFrom_35 : decode cX1_copyFrom 35 = .ok (.return_, 1) := by decide +kernel
theorem dX1_side_0 : decode cX1_side 0 = .ok (.aload_n 0, 1) := by decide +kernel
theorem dX1_side_1 : decode cX1_side 1 = .ok (.getfield 15, 3) := by decide +kernel
theorem dX1_side_4 : decode cX1_side 4 = .ok (.ireturn, 1) := by decide +kernel
theorem dX1_size_0 : decode cX1_size 0 = .ok (.aload_n 0, 1) := by decide +kernel
theorem dX1_size_1 : decode cX1_size 1 = .ok (.getfield 15, 3) := by decide +kernel
theorem dX1_size_4 : decode cX1_size 4 = .ok (.aload_n 0, 1) := by decide +kernel
theorem dX1_size_5 : decode cX1_size 5 = .ok (.getfield 15, 3) := by decide +kernel
theorem dX1_size_8 : decode cX1_size 8 = .ok (.imul, 1) := by decide +kernel
theorem dX1_size_9 : decode cX1_size 9 = .ok (.ireturn, 1) := by decide +kernel
theorem dX1_placeOf_0 : decode cX1_placeOf 0 = .ok (.aload_n 0, 1) := by decide +kernel
theorem dX1_placeOf_1 : decode cX1_placeOf 1 = .ok (.getfield 15, 3) := by decide +kernel
theorem dX1_placeOf_4 : decode cX1_placeOf 4 = .ok (.iload_n 1, 1) := by decide +kernel
theorem dX1_placeOf_5 : decode cX1_placeOf 5 = .ok (.iload_n 2, 1) := by decide +kernel
theorem dX1_placeOf_6 : decode cX1_placeOf 6 = .ok (.invokestatic 37, 3) := by decide +kernel
theorem dX1_placeOf_9 : decode cX1_placeOf 9 = .ok (.ireturn, 1) := by decide +kernel
theorem dX1_read_0 : decode cX1_read 0 = .ok (.iload_n 1, 1) := by decide +kernel
theorem dX1_read_1 : decode cX1_read 1 = .ok (.ifCond .lt 21, 3) := by decide +kernel
theorem dX1_read_4 : decode cX1_read 4 = .ok (.iload_n 1, 1) := by decide +kernel
theorem dX1_read_5 : decode cX1_read 5 = .ok (.aload_n 0, 1) := by decide +kernel
theorem dX1_read_6 : decode cX1_read 6 = .ok (.getfield 9, 3) := by decide +kernel
theorem dX1_read_9 : decode cX1_read 9 = .ok (.arraylength, 1) := by decide +kernel
theorem dX1_read_10 : decode cX1_read 10 = .ok (.if_icmp .ge 12, 3) := by decide +kernel
theorem dX1_read_13 : decode cX1_read 13 = .ok (.aload_n 0, 1) := by decide +kernel
theorem dX1_read_14 : decode cX1_read 14 = .ok (.getfield 9, 3) := by decide +kernel
theorem dX1_read_17 : decode cX1_read 17 = .ok (.iload_n 1, 1) := by decide +kernel
theorem dX1_read_18 : decode cX1_read 18 = .ok (.iaload, 1) := by decide +kernel
theorem dX1_read_19 : decode cX1_read 19 = .ok (.goto 4, 3) := by decide +kernel
theorem dX1_read_22 : decode cX1_read 22 = .ok (.iconst 0, 1) := by decide +kernel
theorem dX1_read_23 : decode cX1_read 23 = .ok (.ireturn, 1) := by decide +kernel
theorem dX1_write_0 : decode cX1_write 0 = .ok (.iload_n 1, 1) := by decide +kernel
theorem dX1_write_1 : decode cX1_write 1 = .ok (.ifCond .lt 12, 3) := by decide +kernel
theorem dX1_write_4 : decode cX1_write 4 = .ok (.iload_n 1, 1) := by decide +kernel
theorem dX1_write_5 : decode cX1_write 5 = .ok (.aload_n 0, 1) := by decide +kernel
theorem dX1_write_6 : decode cX1_write 6 = .ok (.getfield 9, 3) := by decide +kernel
theorem dX1_write_9 : decode cX1_write 9 = .ok (.arraylength, 1) := by decide +kernel
theorem dX1_write_10 : decode cX1_write 10 = .ok (.if_icmp .lt 5, 3) := by decide +kernel
theorem dX1_write_13 : decode cX1_write 13 = .ok (.iconst 0, 1) := by decide +kernel
theorem dX1_write_14 : decode cX1_write 14 = .ok (.ireturn, 1) := by decide +kernel
theorem dX1_write_15 : decode cX1_write 15 = .ok (.aload_n 0, 1) := by decide +kernel
theorem dX1_write_16 : decode cX1_write 16 = .ok (.getfield 9, 3) := by decide +kernel
theorem dX1_write_19 : decode cX1_write 19 = .ok (.iload_n 1, 1) := by decide +kernel
theorem dX1_write_20 : decode cX1_write 20 = .ok (.iaload, 1) := by decide +kernel
theorem dX1_write_21 : decode cX1_write 21 = .ok (.istore_n 3, 1) := by decide +kernel
theorem dX1_write_22 : decode cX1_write 22 = .ok (.aload_n 0, 1) := by decide +kernel
theorem dX1_write_23 : decode cX1_write 23 = .ok (.getfield 9, 3) := by decide +kernel
theorem dX1_write_26 : decode cX1_write 26 = .ok (.iload_n 1, 1) := by decide +kernel
theorem dX1_write_27 : decode cX1_write 27 = .ok (.iload_n 2, 1) := by decide +kernel
theorem dX1_write_28 : decode cX1_write 28 = .ok (.iastore, 1) := by decide +kernel
theorem dX1_write_29 : decode cX1_write 29 = .ok (.iload_n 3, 1) := by decide +kernel
theorem dX1_write_30 : decode cX1_write 30 = .ok (.ireturn, 1) := by decide +kernel
theorem dX1_countOf_0 : decode cX1_countOf 0 = .ok (.iconst 0, 1) := by decide +kernel
theorem dX1_countOf_1 : decode cX1_countOf 1 = .ok (.istore_n 2, 1) := by decide +kernel
theorem dX1_countOf_2 : decode cX1_countOf 2 = .ok (.iconst 0, 1) := by decide +kernel
theorem dX1_countOf_3 : decode cX1_countOf 3 = .ok (.istore_n 3, 1) := by decide +kernel
theorem dX1_countOf_4 : decode cX1_countOf 4 = .ok (.iload_n 3, 1) := by decide +kernel
theorem dX1_countOf_5 : decode cX1_countOf 5 = .ok (.aload_n 0, 1) := by decide +kernel
theorem dX1_countOf_6 : decode cX1_countOf 6 = .ok (.invokevirtual 26, 3) := by decide +kernel
theorem dX1_countOf_9 : decode cX1_countOf 9 = .ok (.if_icmp .ge 21, 3) := by decide +kernel
theorem dX1_countOf_12 : decode cX1_countOf 12 = .ok (.aload_n 0, 1) := by decide +kernel
theorem dX1_countOf_13 : decode cX1_countOf 13 = .ok (.iload_n 3, 1) := by decide +kernel
theorem dX1_countOf_14 : decode cX1_countOf 14 = .ok (.invokevirtual 29, 3) := by decide +kernel
theorem dX1_countOf_17 : decode cX1_countOf 17 = .ok (.iload_n 1, 1) := by decide +kernel
theorem dX1_countOf_18 : decode cX1_countOf 18 = .ok (.if_icmp .ne 6, 3) := by decide +kernel
theorem dX1_countOf_21 : decode cX1_countOf 21 = .ok (.iinc 2 1, 3) := by decide +kernel
theorem dX1_countOf_24 : decode cX1_countOf 24 = .ok (.iinc 3 1, 3) := by decide +kernel
theorem dX1_countOf_27 : decode cX1_countOf 27 = .ok (.goto (-23), 3) := by decide +kernel
theorem dX1_countOf_30 : decode cX1_countOf 30 = .ok (.iload_n 2, 1) := by decide +kernel
theorem dX1_countOf_31 : decode cX1_countOf 31 = .ok (.ireturn, 1) := by decide +kernel
theorem dX1_highest_0 : decode cX1_highest 0 = .ok (.iconst 0, 1) := by decide +kernel
theorem dX1_highest_1 : decode cX1_highest 1 = .ok (.istore_n 1, 1) := by decide +kernel
theorem dX1_highest_2 : decode cX1_highest 2 = .ok (.iconst 0, 1) := by decide +kernel
theorem dX1_highest_3 : decode cX1_highest 3 = .ok (.istore_n 2, 1) := by decide +kernel
theorem dX1_highest_4 : decode cX1_highest 4 = .ok (.iload_n 2, 1) := by decide +kernel
theorem dX1_highest_5 : decode cX1_highest 5 = .ok (.aload_n 0, 1) := by decide +kernel
theorem dX1_highest_6 : decode cX1_highest 6 = .ok (.invokevirtual 26, 3) := by decide +kernel
theorem dX1_highest_9 : decode cX1_highest 9 = .ok (.if_icmp .ge 19, 3) := by decide +kernel
theorem dX1_highest_12 : decode cX1_highest 12 = .ok (.iload_n 1, 1) := by decide +kernel
theorem dX1_highest_13 : decode cX1_highest 13 = .ok (.aload_n 0, 1) := by decide +kernel
theorem dX1_highest_14 : decode cX1_highest 14 = .ok (.iload_n 2, 1) := by decide +kernel
theorem dX1_highest_15 : decode cX1_highest 15 = .ok (.invokevirtual 29, 3) := by decide +kernel
theorem dX1_highest_18 : decode cX1_highest 18 = .ok (.invokestatic 43, 3) := by decide +kernel
theorem dX1_highest_21 : decode cX1_highest 21 = .ok (.istore_n 1, 1) := by decide +kernel
theorem dX1_highest_22 : decode cX1_highest 22 = .ok (.iinc 2 1, 3) := by decide +kernel
theorem dX1_highest_25 : decode cX1_highest 25 = .ok (.goto (-21), 3) := by decide +kernel
theorem dX1_highest_28 : decode cX1_highest 28 = .ok (.iload_n 1, 1) := by decide +kernel
theorem dX1_highest_29 : decode cX1_highest 29 = .ok (.ireturn, 1) := by decide +kernel
theorem dX1_lineSum_0 : decode cX1_lineSum 0 = .ok (.iconst 0, 1) := by decide +kernel
theorem dX1_lineSum_1 : decode cX1_lineSum 1 = .ok (.istore_n 3, 1) := by decide +kernel
theorem dX1_lineSum_2 : decode cX1_lineSum 2 = .ok (.iconst 0, 1) := by decide +kernel
theorem dX1_lineSum_3 : decode cX1_lineSum 3 = .ok (.istore 4, 2) := by decide +kernel
theorem dX1_lineSum_5 : decode cX1_lineSum 5 = .ok (.iload 4, 2) := by decide +kernel
theorem dX1_lineSum_7 : decode cX1_lineSum 7 = .ok (.aload_n 0, 1) := by decide +kernel
theorem dX1_lineSum_8 : decode cX1_lineSum 8 = .ok (.getfield 15, 3) := by decide +kernel
theorem dX1_lineSum_11 : decode cX1_lineSum 11 = .ok (.if_icmp .ge 27, 3) := by decide +kernel
theorem dX1_lineSum_14 : decode cX1_lineSum 14 = .ok (.iload_n 3, 1) := by decide +kernel
theorem dX1_lineSum_15 : decode cX1_lineSum 15 = .ok (.aload_n 0, 1) := by decide +kernel
theorem dX1_lineSum_16 : decode cX1_lineSum 16 = .ok (.aload_n 0, 1) := by decide +kernel
theorem dX1_lineSum_17 : decode cX1_lineSum 17 = .ok (.getfield 15, 3) := by decide +kernel
theorem dX1_lineSum_20 : decode cX1_lineSum 20 = .ok (.iload_n 1, 1) := by decide +kernel
theorem dX1_lineSum_21 : decode cX1_lineSum 21 = .ok (.iload_n 2, 1) := by decide +kernel
theorem dX1_lineSum_22 : decode cX1_lineSum 22 = .ok (.iload 4, 2) := by decide +kernel
theorem dX1_lineSum_24 : decode cX1_lineSum 24 = .ok (.invokestatic 48, 3) := by decide +kernel
theorem dX1_lineSum_27 : decode cX1_lineSum 27 = .ok (.invokevirtual 29, 3) := by decide +kernel
theorem dX1_lineSum_30 : decode cX1_lineSum 30 = .ok (.iadd, 1) := by decide +kernel
theorem dX1_lineSum_31 : decode cX1_lineSum 31 = .ok (.istore_n 3, 1) := by decide +kernel
theorem dX1_lineSum_32 : decode cX1_lineSum 32 = .ok (.iinc 4 1, 3) := by decide +kernel
theorem dX1_lineSum_35 : decode cX1_lineSum 35 = .ok (.goto (-30), 3) := by decide +kernel
theorem dX1_lineSum_38 : decode cX1_lineSum 38 = .ok (.iload_n 3, 1) := by decide +kernel
theorem dX1_lineSum_39 : decode cX1_lineSum 39 = .ok (.ireturn, 1) := by decide +kernel
theorem dX1_linePower_0 : decode cX1_linePower 0 = .ok (.iconst 0, 1) := by decide +kernel
theorem dX1_linePower_1 : decode cX1_linePower 1 = .ok (.istore_n 3, 1) := by decide +kernel
theorem dX1_linePower_2 : decode cX1_linePower 2 = .ok (.iconst 0, 1) := by decide +kernel
theorem dX1_linePower_3 : decode cX1_linePower 3 = .ok (.istore 4, 2) := by decide +kernel
theorem dX1_linePower_5 : decode cX1_linePower 5 = .ok (.iload 4, 2) := by decide +kernel
theorem dX1_linePower_7 : decode cX1_linePower 7 = .ok (.aload_n 0, 1) := by decide +kernel
theorem dX1_linePower_8 : decode cX1_linePower 8 = .ok (.getfield 15, 3) := by decide +kernel
theorem dX1_linePower_11 : decode cX1_linePower 11 = .ok (.if_icmp .ge 34, 3) := by decide +kernel
theorem dX1_linePower_14 : decode cX1_linePower 14 = .ok (.aload_n 0, 1) := by decide +kernel
theorem dX1_linePower_15 : decode cX1_linePower 15 = .ok (.aload_n 0, 1) := by decide +kernel
theorem dX1_linePower_16 : decode cX1_linePower 16 = .ok (.getfield 15, 3) := by decide +kernel
theorem dX1_linePower_19 : decode cX1_linePower 19 = .ok (.iload_n 1, 1) := by decide +kernel
theorem dX1_linePower_20 : decode cX1_linePower 20 = .ok (.iload_n 2, 1) := by decide +kernel
theorem dX1_linePower_21 : decode cX1_linePower 21 = .ok (.iload 4, 2) := by decide +kernel
theorem dX1_linePower_23 : decode cX1_linePower 23 = .ok (.invokestatic 48, 3) := by decide +kernel
theorem dX1_linePower_26 : decode cX1_linePower 26 = .ok (.invokevirtual 29, 3) := by decide +kernel
theorem dX1_linePower_29 : decode cX1_linePower 29 = .ok (.istore 5, 2) := by decide +kernel
theorem dX1_linePower_31 : decode cX1_linePower 31 = .ok (.iload_n 3, 1) := by decide +kernel
theorem dX1_linePower_32 : decode cX1_linePower 32 = .ok (.iload 5, 2) := by decide +kernel
theorem dX1_linePower_34 : decode cX1_linePower 34 = .ok (.iload 5, 2) := by decide +kernel
theorem dX1_linePower_36 : decode cX1_linePower 36 = .ok (.imul, 1) := by decide +kernel
theorem dX1_linePower_37 : decode cX1_linePower 37 = .ok (.iadd, 1) := by decide +kernel
theorem dX1_linePower_38 : decode cX1_linePower 38 = .ok (.istore_n 3, 1) := by decide +kernel
theorem dX1_linePower_39 : decode cX1_linePower 39 = .ok (.iinc 4 1, 3) := by decide +kernel
theorem dX1_linePower_42 : decode cX1_linePower 42 = .ok (.goto (-37), 3) := by decide +kernel
theorem dX1_linePower_45 : decode cX1_linePower 45 = .ok (.iload_n 3, 1) := by decide +kernel
theorem dX1_linePower_46 : decode cX1_linePower 46 = .ok (.ireturn, 1) := by decide +kernel
theorem dX2_numberIn_0 : decode cX2_numberIn 0 = .ok (.aload_n 0, 1) := by decide +kernel
theorem dX2_numberIn_1 : decode cX2_numberIn 1 = .ok (.invokevirtual 7, 3) := by decide +kernel
theorem dX2_numberIn_4 : decode cX2_numberIn 4 = .ok (.iload_n 1, 1) := by decide +kernel
theorem dX2_numberIn_5 : decode cX2_numberIn 5 = .ok (.iconst 4, 1) := by decide +kernel
theorem dX2_numberIn_6 : decode cX2_numberIn 6 = .ok (.irem, 1) := by decide +kernel
theorem dX2_numberIn_7 : decode cX2_numberIn 7 = .ok (.iload_n 2, 1) := by decide +kernel
theorem dX2_numberIn_8 : decode cX2_numberIn 8 = .ok (.invokestatic 13, 3) := by decide +kernel
theorem dX2_numberIn_11 : decode cX2_numberIn 11 = .ok (.istore_n 3, 1) := by decide +kernel
theorem dX2_numberIn_12 : decode cX2_numberIn 12 = .ok (.aload_n 0, 1) := by decide +kernel
theorem dX2_numberIn_13 : decode cX2_numberIn 13 = .ok (.aload_n 0, 1) := by decide +kernel
theorem dX2_numberIn_14 : decode cX2_numberIn 14 = .ok (.invokevirtual 7, 3) := by decide +kernel
theorem dX2_numberIn_17 : decode cX2_numberIn 17 = .ok (.iload_n 1, 1) := by decide +kernel
theorem dX2_numberIn_18 : decode cX2_numberIn 18 = .ok (.iconst 4, 1) := by decide +kernel
theorem dX2_numberIn_19 : decode cX2_numberIn 19 = .ok (.idiv, 1) := by decide +kernel
theorem dX2_numberIn_20 : decode cX2_numberIn 20 = .ok (.iload_n 3, 1) := by decide +kernel
theorem dX2_numberIn_21 : decode cX2_numberIn 21 = .ok (.invokestatic 19, 3) := by decide +kernel
theorem dX2_numberIn_24 : decode cX2_numberIn 24 = .ok (.invokevirtual 22, 3) := by decide +kernel
theorem dX2_numberIn_27 : decode cX2_numberIn 27 = .ok (.ireturn, 1) := by decide +kernel
theorem dX2_areKin_0 : decode cX2_areKin 0 = .ok (.iconst 0, 1) := by decide +kernel
theorem dX2_areKin_1 : decode cX2_areKin 1 = .ok (.istore_n 2, 1) := by decide +kernel
theorem dX2_areKin_2 : decode cX2_areKin 2 = .ok (.iload_n 2, 1) := by decide +kernel
theorem dX2_areKin_3 : decode cX2_areKin 3 = .ok (.bipush 8, 2) := by decide +kernel
theorem dX2_areKin_5 : decode cX2_areKin 5 = .ok (.if_icmp .ge 20, 3) := by decide +kernel
theorem dX2_areKin_8 : decode cX2_areKin 8 = .ok (.aload_n 0, 1) := by decide +kernel
theorem dX2_areKin_9 : decode cX2_areKin 9 = .ok (.iload_n 2, 1) := by decide +kernel
theorem dX2_areKin_10 : decode cX2_areKin 10 = .ok (.aload_n 1, 1) := by decide +kernel
theorem dX2_areKin_11 : decode cX2_areKin 11 = .ok (.invokestatic 28, 3) := by decide +kernel
theorem dX2_areKin_14 : decode cX2_areKin 14 = .ok (.ifCond .eq 5, 3) := by decide +kernel
theorem dX2_areKin_17 : decode cX2_areKin 17 = .ok (.iconst 1, 1) := by decide +kernel
theorem dX2_areKin_18 : decode cX2_areKin 18 = .ok (.ireturn, 1) := by decide +kernel
theorem dX2_areKin_19 : decode cX2_areKin 19 = .ok (.iinc 2 1, 3) := by decide +kernel
theorem dX2_areKin_22 : decode cX2_areKin 22 = .ok (.goto (-20), 3) := by decide +kernel
theorem dX2_areKin_25 : decode cX2_areKin 25 = .ok (.iconst 0, 1) := by decide +kernel
theorem dX2_areKin_26 : decode cX2_areKin 26 = .ok (.ireturn, 1) := by decide +kernel
theorem dX2_countLike_0 : decode cX2_countLike 0 = .ok (.iconst 0, 1) := by decide +kernel
theorem dX2_countLike_1 : decode cX2_countLike 1 = .ok (.istore_n 1, 1) := by decide +kernel
theorem dX2_countLike_2 : decode cX2_countLike 2 = .ok (.iconst 0, 1) := by decide +kernel
theorem dX2_countLike_3 : decode cX2_countLike 3 = .ok (.istore_n 2, 1) := by decide +kernel
theorem dX2_countLike_4 : decode cX2_countLike 4 = .ok (.iload_n 2, 1) := by decide +kernel
theorem dX2_countLike_5 : decode cX2_countLike 5 = .ok (.bipush 8, 2) := by decide +kernel
theorem dX2_countLike_7 : decode cX2_countLike 7 = .ok (.if_icmp .ge 21, 3) := by decide +kernel
theorem dX2_countLike_10 : decode cX2_countLike 10 = .ok (.aload_n 0, 1) := by decide +kernel
theorem dX2_countLike_11 : decode cX2_countLike 11 = .ok (.iload_n 2, 1) := by decide +kernel
theorem dX2_countLike_12 : decode cX2_countLike 12 = .ok (.aload_n 0, 1) := by decide +kernel
theorem dX2_countLike_13 : decode cX2_countLike 13 = .ok (.invokestatic 28, 3) := by decide +kernel
theorem dX2_countLike_16 : decode cX2_countLike 16 = .ok (.ifCond .eq 6, 3) := by decide +kernel
theorem dX2_countLike_19 : decode cX2_countLike 19 = .ok (.iinc 1 1, 3) := by decide +kernel
theorem dX2_countLike_22 : decode cX2_countLike 22 = .ok (.iinc 2 1, 3) := by decide +kernel
theorem dX2_countLike_25 : decode cX2_countLike 25 = .ok (.goto (-21), 3) := by decide +kernel
theorem dX2_countLike_28 : decode cX2_countLike 28 = .ok (.iload_n 1, 1) := by decide +kernel
theorem dX2_countLike_29 : decode cX2_countLike 29 = .ok (.ireturn, 1) := by decide +kernel
theorem dX2_isForm_0 : decode cX2_isForm 0 = .ok (.aload_n 0, 1) := by decide +kernel
theorem dX2_isForm_1 : decode cX2_isForm 1 = .ok (.invokevirtual 7, 3) := by decide +kernel
theorem dX2_isForm_4 : decode cX2_isForm 4 = .ok (.aload_n 2, 1) := by decide +kernel
theorem dX2_isForm_5 : decode cX2_isForm 5 = .ok (.invokevirtual 7, 3) := by decide +kernel
theorem dX2_isForm_8 : decode cX2_isForm 8 = .ok (.if_icmp .eq 5, 3) := by decide +kernel
theorem dX2_isForm_11 : decode cX2_isForm 11 = .ok (.iconst 0, 1) := by decide +kernel
theorem dX2_isForm_12 : decode cX2_isForm 12 = .ok (.ireturn, 1) := by decide +kernel
theorem dX2_isForm_13 : decode cX2_isForm 13 = .ok (.iconst 0, 1) := by decide +kernel
theorem dX2_isForm_14 : decode cX2_isForm 14 = .ok (.istore_n 3, 1) := by decide +kernel
theorem dX2_isForm_15 : decode cX2_isForm 15 = .ok (.iload_n 3, 1) := by decide +kernel
theorem dX2_isForm_16 : decode cX2_isForm 16 = .ok (.aload_n 0, 1) := by decide +kernel
theorem dX2_isForm_17 : decode cX2_isForm 17 = .ok (.invokevirtual 32, 3) := by decide +kernel
theorem dX2_isForm_20 : decode cX2_isForm 20 = .ok (.if_icmp .ge 25, 3) := by decide +kernel
theorem dX2_isForm_23 : decode cX2_isForm 23 = .ok (.aload_n 0, 1) := by decide +kernel
theorem dX2_isForm_24 : decode cX2_isForm 24 = .ok (.iload_n 1, 1) := by decide +kernel
theorem dX2_isForm_25 : decode cX2_isForm 25 = .ok (.iload_n 3, 1) := by decide +kernel
theorem dX2_isForm_26 : decode cX2_isForm 26 = .ok (.invokestatic 35, 3) := by decide +kernel
theorem dX2_isForm_29 : decode cX2_isForm 29 = .ok (.aload_n 2, 1) := by decide +kernel
theorem dX2_isForm_30 : decode cX2_isForm 30 = .ok (.iload_n 3, 1) := by decide +kernel
theorem dX2_isForm_31 : decode cX2_isForm 31 = .ok (.invokevirtual 22, 3) := by decide +kernel
theorem dX2_isForm_34 : decode cX2_isForm 34 = .ok (.if_icmp .eq 5, 3) := by decide +kernel
theorem dX2_isForm_37 : decode cX2_isForm 37 = .ok (.iconst 0, 1) := by decide +kernel
theorem dX2_isForm_38 : decode cX2_isForm 38 = .ok (.ireturn, 1) := by decide +kernel
theorem dX2_isForm_39 : decode cX2_isForm 39 = .ok (.iinc 3 1, 3) := by decide +kernel
theorem dX2_isForm_42 : decode cX2_isForm 42 = .ok (.goto (-27), 3) := by decide +kernel
theorem dX2_isForm_45 : decode cX2_isForm 45 = .ok (.iconst 1, 1) := by decide +kernel
theorem dX2_isForm_46 : decode cX2_isForm 46 = .ok (.ireturn, 1) := by decide +kernel
theorem dX2_leastOf_0 : decode cX2_leastOf 0 = .ok (.iconst 0, 1) := by decide +kernel
theorem dX2_leastOf_1 : decode cX2_leastOf 1 = .ok (.istore_n 1, 1) := by decide +kernel
theorem dX2_leastOf_2 : decode cX2_leastOf 2 = .ok (.iconst 1, 1) := by decide +kernel
theorem dX2_leastOf_3 : decode cX2_leastOf 3 = .ok (.istore_n 2, 1) := by decide +kernel
theorem dX2_leastOf_4 : decode cX2_leastOf 4 = .ok (.iload_n 2, 1) := by decide +kernel
theorem dX2_leastOf_5 : decode cX2_leastOf 5 = .ok (.bipush 8, 2) := by decide +kernel
theorem dX2_leastOf_7 : decode cX2_leastOf 7 = .ok (.if_icmp .ge 20, 3) := by decide +kernel
theorem dX2_leastOf_10 : decode cX2_leastOf 10 = .ok (.aload_n 0, 1) := by decide +kernel
theorem dX2_leastOf_11 : decode cX2_leastOf 11 = .ok (.iload_n 2, 1) := by decide +kernel
theorem dX2_leastOf_12 : decode cX2_leastOf 12 = .ok (.iload_n 1, 1) := by decide +kernel
theorem dX2_leastOf_13 : decode cX2_leastOf 13 = .ok (.invokestatic 39, 3) := by decide +kernel
theorem dX2_leastOf_16 : decode cX2_leastOf 16 = .ok (.ifCond .eq 5, 3) := by decide +kernel
theorem dX2_leastOf_19 : decode cX2_leastOf 19 = .ok (.iload_n 2, 1) := by decide +kernel
theorem dX2_leastOf_20 : decode cX2_leastOf 20 = .ok (.istore_n 1, 1) := by decide +kernel
theorem dX2_leastOf_21 : decode cX2_leastOf 21 = .ok (.iinc 2 1, 3) := by decide +kernel
theorem dX2_leastOf_24 : decode cX2_leastOf 24 = .ok (.goto (-20), 3) := by decide +kernel
theorem dX2_leastOf_27 : decode cX2_leastOf 27 = .ok (.iload_n 1, 1) := by decide +kernel
theorem dX2_leastOf_28 : decode cX2_leastOf 28 = .ok (.ireturn, 1) := by decide +kernel
theorem dX2_isLower_0 : decode cX2_isLower 0 = .ok (.iconst 0, 1) := by decide +kernel
theorem dX2_isLower_1 : decode cX2_isLower 1 = .ok (.istore_n 3, 1) := by decide +kernel
theorem dX2_isLower_2 : decode cX2_isLower 2 = .ok (.iload_n 3, 1) := by decide +kernel
theorem dX2_isLower_3 : decode cX2_isLower 3 = .ok (.aload_n 0, 1) := by decide +kernel
theorem dX2_isLower_4 : decode cX2_isLower 4 = .ok (.invokevirtual 32, 3) := by decide +kernel
theorem dX2_isLower_7 : decode cX2_isLower 7 = .ok (.if_icmp .ge 45, 3) := by decide +kernel
theorem dX2_isLower_10 : decode cX2_isLower 10 = .ok (.aload_n 0, 1) := by decide +kernel
theorem dX2_isLower_11 : decode cX2_isLower 11 = .ok (.iload_n 1, 1) := by decide +kernel
theorem dX2_isLower_12 : decode cX2_isLower 12 = .ok (.iload_n 3, 1) := by decide +kernel
theorem dX2_isLower_13 : decode cX2_isLower 13 = .ok (.invokestatic 35, 3) := by decide +kernel
theorem dX2_isLower_16 : decode cX2_isLower 16 = .ok (.istore 4, 2) := by decide +kernel
theorem dX2_isLower_18 : decode cX2_isLower 18 = .ok (.aload_n 0, 1) := by decide +kernel
theorem dX2_isLower_19 : decode cX2_isLower 19 = .ok (.iload_n 2, 1) := by decide +kernel
theorem dX2_isLower_20 : decode cX2_isLower 20 = .ok (.iload_n 3, 1) := by decide +kernel
theorem dX2_isLower_21 : decode cX2_isLower 21 = .ok (.invokestatic 35, 3) := by decide +kernel
theorem dX2_isLower_24 : decode cX2_isLower 24 = .ok (.istore 5, 2) := by decide +kernel
theorem dX2_isLower_26 : decode cX2_isLower 26 = .ok (.iload 4, 2) := by decide +kernel
theorem dX2_isLower_28 : decode cX2_isLower 28 = .ok (.iload 5, 2) := by decide +kernel
theorem dX2_isLower_30 : decode cX2_isLower 30 = .ok (.if_icmp .eq 16, 3) := by decide +kernel
theorem dX2_isLower_33 : decode cX2_isLower 33 = .ok (.iload 4, 2) := by decide +kernel
theorem dX2_isLower_35 : decode cX2_isLower 35 = .ok (.iload 5, 2) := by decide +kernel
theorem dX2_isLower_37 : decode cX2_isLower 37 = .ok (.if_icmp .ge 7, 3) := by decide +kernel
theorem dX2_isLower_40 : decode cX2_isLower 40 = .ok (.iconst 1, 1) := by decide +kernel
theorem dX2_isLower_41 : decode cX2_isLower 41 = .ok (.goto 4, 3) := by decide +kernel
theorem dX2_isLower_44 : decode cX2_isLower 44 = .ok (.iconst 0, 1) := by decide +kernel
theorem dX2_isLower_45 : decode cX2_isLower 45 = .ok (.ireturn, 1) := by decide +kernel
theorem dX2_isLower_46 : decode cX2_isLower 46 = .ok (.iinc 3 1, 3) := by decide +kernel
theorem dX2_isLower_49 : decode cX2_isLower 49 = .ok (.goto (-47), 3) := by decide +kernel
theorem dX2_isLower_52 : decode cX2_isLower 52 = .ok (.iconst 0, 1) := by decide +kernel
theorem dX2_isLower_53 : decode cX2_isLower 53 = .ok (.ireturn, 1) := by decide +kernel
theorem dX3_init_0 : decode cX3_init 0 = .ok (.aload_n 0, 1) := by decide +kernel
theorem dX3_init_1 : decode cX3_init 1 = .ok (.invokespecial 1, 3) := by decide +kernel
theorem dX3_init_4 : decode cX3_init 4 = .ok (.aload_n 0, 1) := by decide +kernel
theorem dX3_init_5 : decode cX3_init 5 = .ok (.bipush 8, 2) := by decide +kernel
theorem dX3_init_7 : decode cX3_init 7 = .ok (.newarray .int, 2) := by decide +kernel
theorem dX3_init_9 : decode cX3_init 9 = .ok (.putfield 9, 3) := by decide +kernel
theorem dX3_init_12 : decode cX3_init 12 = .ok (.return_, 1) := by decide +kernel
theorem dX3_fewestOf_0 : decode cX3_fewestOf 0 = .ok (.iconst 0, 1) := by decide +kernel
theorem dX3_fewestOf_1 : decode cX3_fewestOf 1 = .ok (.istore_n 2, 1) := by decide +kernel
theorem dX3_fewestOf_2 : decode cX3_fewestOf 2 = .ok (.iload_n 2, 1) := by decide +kernel
theorem dX3_fewestOf_3 : decode cX3_fewestOf 3 = .ok (.aload_n 0, 1) := by decide +kernel
theorem dX3_fewestOf_4 : decode cX3_fewestOf 4 = .ok (.getfield 9, 3) := by decide +kernel
theorem dX3_fewestOf_7 : decode cX3_fewestOf 7 = .ok (.arraylength, 1) := by decide +kernel
theorem dX3_fewestOf_8 : decode cX3_fewestOf 8 = .ok (.if_icmp .ge 20, 3) := by decide +kernel
theorem dX3_fewestOf_11 : decode cX3_fewestOf 11 = .ok (.aload_n 0, 1) := by decide +kernel
theorem dX3_fewestOf_12 : decode cX3_fewestOf 12 = .ok (.getfield 9, 3) := by decide +kernel
theorem dX3_fewestOf_15 : decode cX3_fewestOf 15 = .ok (.iload_n 2, 1) := by decide +kernel
theorem dX3_fewestOf_16 : decode cX3_fewestOf 16 = .ok (.aload_n 1, 1) := by decide +kernel
theorem dX3_fewestOf_17 : decode cX3_fewestOf 17 = .ok (.iload_n 2, 1) := by decide +kernel
theorem dX3_fewestOf_18 : decode cX3_fewestOf 18 = .ok (.invokestatic 15, 3) := by decide +kernel
theorem dX3_fewestOf_21 : decode cX3_fewestOf 21 = .ok (.iastore, 1) := by decide +kernel
theorem dX3_fewestOf_22 : decode cX3_fewestOf 22 = .ok (.iinc 2 1, 3) := by decide +kernel
theorem dX3_fewestOf_25 : decode cX3_fewestOf 25 = .ok (.goto (-23), 3) := by decide +kernel
theorem dX3_fewestOf_28 : decode cX3_fewestOf 28 = .ok (.iconst 1, 1) := by decide +kernel
theorem dX3_fewestOf_29 : decode cX3_fewestOf 29 = .ok (.aload_n 1, 1) := by decide +kernel
theorem dX3_fewestOf_30 : decode cX3_fewestOf 30 = .ok (.invokevirtual 19, 3) := by decide +kernel
theorem dX3_fewestOf_33 : decode cX3_fewestOf 33 = .ok (.ishl, 1) := by decide +kernel
theorem dX3_fewestOf_34 : decode cX3_fewestOf 34 = .ok (.iconst 1, 1) := by decide +kernel
theorem dX3_fewestOf_35 : decode cX3_fewestOf 35 = .ok (.isub, 1) := by decide +kernel
theorem dX3_fewestOf_36 : decode cX3_fewestOf 36 = .ok (.istore_n 2, 1) := by decide +kernel
theorem dX3_fewestOf_37 : decode cX3_fewestOf 37 = .ok (.iload_n 2, 1) := by decide +kernel
theorem dX3_fewestOf_38 : decode cX3_fewestOf 38 = .ok (.istore_n 3, 1) := by decide +kernel
theorem dX3_fewestOf_39 : decode cX3_fewestOf 39 = .ok (.iconst 0, 1) := by decide +kernel
theorem dX3_fewestOf_40 : decode cX3_fewestOf 40 = .ok (.istore 4, 2) := by decide +kernel
theorem dX3_fewestOf_42 : decode cX3_fewestOf 42 = .ok (.iload 4, 2) := by decide +kernel
theorem dX3_fewestOf_44 : decode cX3_fewestOf 44 = .ok (.iload_n 2, 1) := by decide +kernel
theorem dX3_fewestOf_45 : decode cX3_fewestOf 45 = .ok (.if_icmp .ge 33, 3) := by decide +kernel
theorem dX3_fewestOf_48 : decode cX3_fewestOf 48 = .ok (.iload 4, 2) := by decide +kernel
theorem dX3_fewestOf_50 : decode cX3_fewestOf 50 = .ok (.invokestatic 25, 3) := by decide +kernel
theorem dX3_fewestOf_53 : decode cX3_fewestOf 53 = .ok (.iload_n 3, 1) := by decide +kernel
theorem dX3_fewestOf_54 : decode cX3_fewestOf 54 = .ok (.invokestatic 25, 3) := by decide +kernel
theorem dX3_fewestOf_57 : decode cX3_fewestOf 57 = .ok (.if_icmp .ge 15, 3) := by decide +kernel
theorem dX3_fewestOf_60 : decode cX3_fewestOf 60 = .ok (.aload_n 0, 1) := by decide +kernel
theorem dX3_fewestOf_61 : decode cX3_fewestOf 61 = .ok (.iload 4, 2) := by decide +kernel
theorem dX3_fewestOf_63 : decode cX3_fewestOf 63 = .ok (.invokevirtual 31, 3) := by decide +kernel
theorem dX3_fewestOf_66 : decode cX3_fewestOf 66 = .ok (.ifCond .eq 6, 3) := by decide +kernel
theorem dX3_fewestOf_69 : decode cX3_fewestOf 69 = .ok (.iload 4, 2) := by decide +kernel
theorem dX3_fewestOf_71 : decode cX3_fewestOf 71 = .ok (.istore_n 3, 1) := by decide +kernel
theorem dX3_fewestOf_72 : decode cX3_fewestOf 72 = .ok (.iinc 4 1, 3) := by decide +kernel
theorem dX3_fewestOf_75 : decode cX3_fewestOf 75 = .ok (.goto (-33), 3) := by decide +kernel
theorem dX3_fewestOf_78 : decode cX3_fewestOf 78 = .ok (.iload_n 3, 1) := by decide +kernel
theorem dX3_fewestOf_79 : decode cX3_fewestOf 79 = .ok (.ireturn, 1) := by decide +kernel
theorem dX3_differenceOf_0 : decode cX3_differenceOf 0 = .ok (.iconst 0, 1) := by decide +kernel
theorem dX3_differenceOf_1 : decode cX3_differenceOf 1 = .ok (.istore_n 2, 1) := by decide +kernel
theorem dX3_differenceOf_2 : decode cX3_differenceOf 2 = .ok (.iconst 0, 1) := by decide +kernel
theorem dX3_differenceOf_3 : decode cX3_differenceOf 3 = .ok (.istore_n 3, 1) := by decide +kernel
theorem dX3_differenceOf_4 : decode cX3_differenceOf 4 = .ok (.iload_n 3, 1) := by decide +kernel
theorem dX3_differenceOf_5 : decode cX3_differenceOf 5 = .ok (.aload_n 0, 1) := by decide +kernel
theorem dX3_differenceOf_6 : decode cX3_differenceOf 6 = .ok (.invokevirtual 19, 3) := by decide +kernel
theorem dX3_differenceOf_9 : decode cX3_differenceOf 9 = .ok (.if_icmp .ge 29, 3) := by decide +kernel
theorem dX3_differenceOf_12 : decode cX3_differenceOf 12 = .ok (.aload_n 0, 1) := by decide +kernel
theorem dX3_differenceOf_13 : decode cX3_differenceOf 13 = .ok (.iload_n 1, 1) := by decide +kernel
theorem dX3_differenceOf_14 : decode cX3_differenceOf 14 = .ok (.iload_n 3, 1) := by decide +kernel
theorem dX3_differenceOf_15 : decode cX3_differenceOf 15 = .ok (.invokestatic 35, 3) := by decide +kernel
theorem dX3_differenceOf_18 : decode cX3_differenceOf 18 = .ok (.aload_n 0, 1) := by decide +kernel
theorem dX3_differenceOf_19 : decode cX3_differenceOf 19 = .ok (.iload_n 3, 1) := by decide +kernel
theorem dX3_differenceOf_20 : decode cX3_differenceOf 20 = .ok (.invokevirtual 39, 3) := by decide +kernel
theorem dX3_differenceOf_23 : decode cX3_differenceOf 23 = .ok (.if_icmp .eq 9, 3) := by decide +kernel
theorem dX3_differenceOf_26 : decode cX3_differenceOf 26 = .ok (.iload_n 2, 1) := by decide +kernel
theorem dX3_differenceOf_27 : decode cX3_differenceOf 27 = .ok (.iconst 1, 1) := by decide +kernel
theorem dX3_differenceOf_28 : decode cX3_differenceOf 28 = .ok (.iload_n 3, 1) := by decide +kernel
theorem dX3_differenceOf_29 : decode cX3_differenceOf 29 = .ok (.ishl, 1) := by decide +kernel
theorem dX3_differenceOf_30 : decode cX3_differenceOf 30 = .ok (.ior, 1) := by decide +kernel
theorem dX3_differenceOf_31 : decode cX3_differenceOf 31 = .ok (.istore_n 2, 1) := by decide +kernel
theorem dX3_differenceOf_32 : decode cX3_differenceOf 32 = .ok (.iinc 3 1, 3) := by decide +kernel
theorem dX3_differenceOf_35 : decode cX3_differenceOf 35 = .ok (.goto (-31), 3) := by decide +kernel
theorem dX3_differenceOf_38 : decode cX3_differenceOf 38 = .ok (.iload_n 2, 1) := by decide +kernel
theorem dX3_differenceOf_39 : decode cX3_differenceOf 39 = .ok (.ireturn, 1) := by decide +kernel
theorem dX3_tellsAllApart_0 : decode cX3_tellsAllApart 0 = .ok (.aload_n 0, 1) := by decide +kernel
theorem dX3_tellsAllApart_1 : decode cX3_tellsAllApart 1 = .ok (.getfield 9, 3) := by decide +kernel
theorem dX3_tellsAllApart_4 : decode cX3_tellsAllApart 4 = .ok (.astore_n 2, 1) := by decide +kernel
theorem dX3_tellsAllApart_5 : decode cX3_tellsAllApart 5 = .ok (.aload_n 2, 1) := by decide +kernel
theorem dX3_tellsAllApart_6 : decode cX3_tellsAllApart 6 = .ok (.arraylength, 1) := by decide +kernel
theorem dX3_tellsAllApart_7 : decode cX3_tellsAllApart 7 = .ok (.istore_n 3, 1) := by decide +kernel
theorem dX3_tellsAllApart_8 : decode cX3_tellsAllApart 8 = .ok (.iconst 0, 1) := by decide +kernel
theorem dX3_tellsAllApart_9 : decode cX3_tellsAllApart 9 = .ok (.istore 4, 2) := by decide +kernel
theorem dX3_tellsAllApart_11 : decode cX3_tellsAllApart 11 = .ok (.iload 4, 2) := by decide +kernel
theorem dX3_tellsAllApart_13 : decode cX3_tellsAllApart 13 = .ok (.iload_n 3, 1) := by decide +kernel
theorem dX3_tellsAllApart_14 : decode cX3_tellsAllApart 14 = .ok (.if_icmp .ge 29, 3) := by decide +kernel
theorem dX3_tellsAllApart_17 : decode cX3_tellsAllApart 17 = .ok (.aload_n 2, 1) := by decide +kernel
theorem dX3_tellsAllApart_18 : decode cX3_tellsAllApart 18 = .ok (.iload 4, 2) := by decide +kernel
theorem dX3_tellsAllApart_20 : decode cX3_tellsAllApart 20 = .ok (.iaload, 1) := by decide +kernel
theorem dX3_tellsAllApart_21 : decode cX3_tellsAllApart 21 = .ok (.istore 5, 2) := by decide +kernel
theorem dX3_tellsAllApart_23 : decode cX3_tellsAllApart 23 = .ok (.iload 5, 2) := by decide +kernel
theorem dX3_tellsAllApart_25 : decode cX3_tellsAllApart 25 = .ok (.ifCond .eq 12, 3) := by decide +kernel
theorem dX3_tellsAllApart_28 : decode cX3_tellsAllApart 28 = .ok (.iload 5, 2) := by decide +kernel
theorem dX3_tellsAllApart_30 : decode cX3_tellsAllApart 30 = .ok (.iload_n 1, 1) := by decide +kernel
theorem dX3_tellsAllApart_31 : decode cX3_tellsAllApart 31 = .ok (.iand, 1) := by decide +kernel
theorem dX3_tellsAllApart_32 : decode cX3_tellsAllApart 32 = .ok (.ifCond .ne 5, 3) := by decide +kernel
theorem dX3_tellsAllApart_35 : decode cX3_tellsAllApart 35 = .ok (.iconst 0, 1) := by decide +kernel
theorem dX3_tellsAllApart_36 : decode cX3_tellsAllApart 36 = .ok (.ireturn, 1) := by decide +kernel
theorem dX3_tellsAllApart_37 : decode cX3_tellsAllApart 37 = .ok (.iinc 4 1, 3) := by decide +kernel
theorem dX3_tellsAllApart_40 : decode cX3_tellsAllApart 40 = .ok (.goto (-29), 3) := by decide +kernel
theorem dX3_tellsAllApart_43 : decode cX3_tellsAllApart 43 = .ok (.iconst 1, 1) := by decide +kernel
theorem dX3_tellsAllApart_44 : decode cX3_tellsAllApart 44 = .ok (.ireturn, 1) := by decide +kernel
theorem dX4_heldBy_0 : decode cX4_heldBy 0 = .ok (.iconst 0, 1) := by decide +kernel
theorem dX4_heldBy_1 : decode cX4_heldBy 1 = .ok (.istore_n 1, 1) := by decide +kernel
theorem dX4_heldBy_2 : decode cX4_heldBy 2 = .ok (.iconst 0, 1) := by decide +kernel
theorem dX4_heldBy_3 : decode cX4_heldBy 3 = .ok (.istore_n 2, 1) := by decide +kernel
theorem dX4_heldBy_4 : decode cX4_heldBy 4 = .ok (.iload_n 2, 1) := by decide +kernel
theorem dX4_heldBy_5 : decode cX4_heldBy 5 = .ok (.bipush 8, 2) := by decide +kernel
theorem dX4_heldBy_7 : decode cX4_heldBy 7 = .ok (.if_icmp .ge 25, 3) := by decide +kernel
theorem dX4_heldBy_10 : decode cX4_heldBy 10 = .ok (.aload_n 0, 1) := by decide +kernel
theorem dX4_heldBy_11 : decode cX4_heldBy 11 = .ok (.iconst 1, 1) := by decide +kernel
theorem dX4_heldBy_12 : decode cX4_heldBy 12 = .ok (.iload_n 2, 1) := by decide +kernel
theorem dX4_heldBy_13 : decode cX4_heldBy 13 = .ok (.ishl, 1) := by decide +kernel
theorem dX4_heldBy_14 : decode cX4_heldBy 14 = .ok (.invokestatic 11, 3) := by decide +kernel
theorem dX4_heldBy_17 : decode cX4_heldBy 17 = .ok (.ifCond .eq 9, 3) := by decide +kernel
theorem dX4_heldBy_20 : decode cX4_heldBy 20 = .ok (.iload_n 1, 1) := by decide +kernel
theorem dX4_heldBy_21 : decode cX4_heldBy 21 = .ok (.iconst 1, 1) := by decide +kernel
theorem dX4_heldBy_22 : decode cX4_heldBy 22 = .ok (.iload_n 2, 1) := by decide +kernel
theorem dX4_heldBy_23 : decode cX4_heldBy 23 = .ok (.ishl, 1) := by decide +kernel
theorem dX4_heldBy_24 : decode cX4_heldBy 24 = .ok (.ior, 1) := by decide +kernel
theorem dX4_heldBy_25 : decode cX4_heldBy 25 = .ok (.istore_n 1, 1) := by decide +kernel
theorem dX4_heldBy_26 : decode cX4_heldBy 26 = .ok (.iinc 2 1, 3) := by decide +kernel
theorem dX4_heldBy_29 : decode cX4_heldBy 29 = .ok (.goto (-25), 3) := by decide +kernel
theorem dX4_heldBy_32 : decode cX4_heldBy 32 = .ok (.iload_n 1, 1) := by decide +kernel
theorem dX4_heldBy_33 : decode cX4_heldBy 33 = .ok (.ireturn, 1) := by decide +kernel
theorem dX4_isMagic_0 : decode cX4_isMagic 0 = .ok (.aload_n 0, 1) := by decide +kernel
theorem dX4_isMagic_1 : decode cX4_isMagic 1 = .ok (.iconst 0, 1) := by decide +kernel
theorem dX4_isMagic_2 : decode cX4_isMagic 2 = .ok (.iconst 0, 1) := by decide +kernel
theorem dX4_isMagic_3 : decode cX4_isMagic 3 = .ok (.invokevirtual 15, 3) := by decide +kernel
theorem dX4_isMagic_6 : decode cX4_isMagic 6 = .ok (.istore_n 1, 1) := by decide +kernel
theorem dX4_isMagic_7 : decode cX4_isMagic 7 = .ok (.aload_n 0, 1) := by decide +kernel
theorem dX4_isMagic_8 : decode cX4_isMagic 8 = .ok (.iconst 0, 1) := by decide +kernel
theorem dX4_isMagic_9 : decode cX4_isMagic 9 = .ok (.iload_n 1, 1) := by decide +kernel
theorem dX4_isMagic_10 : decode cX4_isMagic 10 = .ok (.invokestatic 21, 3) := by decide +kernel
theorem dX4_isMagic_13 : decode cX4_isMagic 13 = .ok (.ifCond .eq 24, 3) := by decide +kernel
theorem dX4_isMagic_16 : decode cX4_isMagic 16 = .ok (.aload_n 0, 1) := by decide +kernel
theorem dX4_isMagic_17 : decode cX4_isMagic 17 = .ok (.iconst 1, 1) := by decide +kernel
theorem dX4_isMagic_18 : decode cX4_isMagic 18 = .ok (.iload_n 1, 1) := by decide +kernel
theorem dX4_isMagic_19 : decode cX4_isMagic 19 = .ok (.invokestatic 21, 3) := by decide +kernel
theorem dX4_isMagic_22 : decode cX4_isMagic 22 = .ok (.ifCond .eq 15, 3) := by decide +kernel
theorem dX4_isMagic_25 : decode cX4_isMagic 25 = .ok (.aload_n 0, 1) := by decide +kernel
theorem dX4_isMagic_26 : decode cX4_isMagic 26 = .ok (.iload_n 1, 1) := by decide +kernel
theorem dX4_isMagic_27 : decode cX4_isMagic 27 = .ok (.invokestatic 25, 3) := by decide +kernel
theorem dX4_isMagic_30 : decode cX4_isMagic 30 = .ok (.ifCond .eq 7, 3) := by decide +kernel
theorem dX4_isMagic_33 : decode cX4_isMagic 33 = .ok (.iconst 1, 1) := by decide +kernel
theorem dX4_isMagic_34 : decode cX4_isMagic 34 = .ok (.goto 4, 3) := by decide +kernel
theorem dX4_isMagic_37 : decode cX4_isMagic 37 = .ok (.iconst 0, 1) := by decide +kernel
theorem dX4_isMagic_38 : decode cX4_isMagic 38 = .ok (.ireturn, 1) := by decide +kernel
theorem dX4_isNormal_0 : decode cX4_isNormal 0 = .ok (.iconst 1, 1) := by decide +kernel
theorem dX4_isNormal_1 : decode cX4_isNormal 1 = .ok (.istore_n 1, 1) := by decide +kernel
theorem dX4_isNormal_2 : decode cX4_isNormal 2 = .ok (.iload_n 1, 1) := by decide +kernel
theorem dX4_isNormal_3 : decode cX4_isNormal 3 = .ok (.aload_n 0, 1) := by decide +kernel
theorem dX4_isNormal_4 : decode cX4_isNormal 4 = .ok (.invokevirtual 28, 3) := by decide +kernel
theorem dX4_isNormal_7 : decode cX4_isNormal 7 = .ok (.if_icmp .gt 20, 3) := by decide +kernel
theorem dX4_isNormal_10 : decode cX4_isNormal 10 = .ok (.aload_n 0, 1) := by decide +kernel
theorem dX4_isNormal_11 : decode cX4_isNormal 11 = .ok (.iload_n 1, 1) := by decide +kernel
theorem dX4_isNormal_12 : decode cX4_isNormal 12 = .ok (.invokevirtual 32, 3) := by decide +kernel
theorem dX4_isNormal_15 : decode cX4_isNormal 15 = .ok (.iconst 1, 1) := by decide +kernel
theorem dX4_isNormal_16 : decode cX4_isNormal 16 = .ok (.if_icmp .eq 5, 3) := by decide +kernel
theorem dX4_isNormal_19 : decode cX4_isNormal 19 = .ok (.iconst 0, 1) := by decide +kernel
theorem dX4_isNormal_20 : decode cX4_isNormal 20 = .ok (.ireturn, 1) := by decide +kernel
theorem dX4_isNormal_21 : decode cX4_isNormal 21 = .ok (.iinc 1 1, 3) := by decide +kernel
theorem dX4_isNormal_24 : decode cX4_isNormal 24 = .ok (.goto (-22), 3) := by decide +kernel
theorem dX4_isNormal_27 : decode cX4_isNormal 27 = .ok (.iconst 1, 1) := by decide +kernel
theorem dX4_isNormal_28 : decode cX4_isNormal 28 = .ok (.ireturn, 1) := by decide +kernel
theorem dX4_holds_0 : decode cX4_holds 0 = .ok (.aload_n 0, 1) := by decide +kernel
theorem dX4_holds_1 : decode cX4_holds 1 = .ok (.iconst 0, 1) := by decide +kernel
theorem dX4_holds_2 : decode cX4_holds 2 = .ok (.iconst 0, 1) := by decide +kernel
theorem dX4_holds_3 : decode cX4_holds 3 = .ok (.invokevirtual 15, 3) := by decide +kernel
theorem dX4_holds_6 : decode cX4_holds 6 = .ok (.istore_n 2, 1) := by decide +kernel
theorem dX4_holds_7 : decode cX4_holds 7 = .ok (.iload_n 1, 1) := by decide +kernel
theorem dX4_holds_8 : decode cX4_holds 8 = .ok (.lookupswitch 149 #[(1, 76), (2, 90), (4, 97), (8, 104), (16, 110), (32, 134), (64, 139), (128, 144)], 76) := by decide +kernel
theorem dX4_holds_84 : decode cX4_holds 84 = .ok (.aload_n 0, 1) := by decide +kernel
theorem dX4_holds_85 : decode cX4_holds 85 = .ok (.iconst 0, 1) := by decide +kernel
theorem dX4_holds_86 : decode cX4_holds 86 = .ok (.invokevirtual 32, 3) := by decide +kernel
theorem dX4_holds_89 : decode cX4_holds 89 = .ok (.ifCond .ne 7, 3) := by decide +kernel
theorem dX4_holds_92 : decode cX4_holds 92 = .ok (.iconst 1, 1) := by decide +kernel
theorem dX4_holds_93 : decode cX4_holds 93 = .ok (.goto 4, 3) := by decide +kernel
theorem dX4_holds_96 : decode cX4_holds 96 = .ok (.iconst 0, 1) := by decide +kernel
theorem dX4_holds_97 : decode cX4_holds 97 = .ok (.ireturn, 1) := by decide +kernel
theorem dX4_holds_98 : decode cX4_holds 98 = .ok (.aload_n 0, 1) := by decide +kernel
theorem dX4_holds_99 : decode cX4_holds 99 = .ok (.iconst 0, 1) := by decide +kernel
theorem dX4_holds_100 : decode cX4_holds 100 = .ok (.iload_n 2, 1) := by decide +kernel
theorem dX4_holds_101 : decode cX4_holds 101 = .ok (.invokestatic 21, 3) := by decide +kernel
theorem dX4_holds_104 : decode cX4_holds 104 = .ok (.ireturn, 1) := by decide +kernel
theorem dX4_holds_105 : decode cX4_holds 105 = .ok (.aload_n 0, 1) := by decide +kernel
theorem dX4_holds_106 : decode cX4_holds 106 = .ok (.iconst 1, 1) := by decide +kernel
theorem dX4_holds_107 : decode cX4_holds 107 = .ok (.iload_n 2, 1) := by decide +kernel
theorem dX4_holds_108 : decode cX4_holds 108 = .ok (.invokestatic 21, 3) := by decide +kernel
theorem dX4_holds_111 : decode cX4_holds 111 = .ok (.ireturn, 1) := by decide +kernel
theorem dX4_holds_112 : decode cX4_holds 112 = .ok (.aload_n 0, 1) := by decide +kernel
theorem dX4_holds_113 : decode cX4_holds 113 = .ok (.iload_n 2, 1) := by decide +kernel
theorem dX4_holds_114 : decode cX4_holds 114 = .ok (.invokestatic 25, 3) := by decide +kernel
theorem dX4_holds_117 : decode cX4_holds 117 = .ok (.ireturn, 1) := by decide +kernel
theorem dX4_holds_118 : decode cX4_holds 118 = .ok (.aload_n 0, 1) := by decide +kernel
theorem dX4_holds_119 : decode cX4_holds 119 = .ok (.iconst 2, 1) := by decide +kernel
theorem dX4_holds_120 : decode cX4_holds 120 = .ok (.iload_n 2, 1) := by decide +kernel
theorem dX4_holds_121 : decode cX4_holds 121 = .ok (.invokestatic 21, 3) := by decide +kernel
theorem dX4_holds_124 : decode cX4_holds 124 = .ok (.ifCond .eq 16, 3) := by decide +kernel
theorem dX4_holds_127 : decode cX4_holds 127 = .ok (.aload_n 0, 1) := by decide +kernel
theorem dX4_holds_128 : decode cX4_holds 128 = .ok (.iconst 3, 1) := by decide +kernel
theorem dX4_holds_129 : decode cX4_holds 129 = .ok (.iload_n 2, 1) := by decide +kernel
theorem dX4_holds_130 : decode cX4_holds 130 = .ok (.invokestatic 21, 3) := by decide +kernel
theorem dX4_holds_133 : decode cX4_holds 133 = .ok (.ifCond .eq 7, 3) := by decide +kernel
theorem dX4_holds_136 : decode cX4_holds 136 = .ok (.iconst 1, 1) := by decide +kernel
theorem dX4_holds_137 : decode cX4_holds 137 = .ok (.goto 4, 3) := by decide +kernel
theorem dX4_holds_140 : decode cX4_holds 140 = .ok (.iconst 0, 1) := by decide +kernel
theorem dX4_holds_141 : decode cX4_holds 141 = .ok (.ireturn, 1) := by decide +kernel
theorem dX4_holds_142 : decode cX4_holds 142 = .ok (.aload_n 0, 1) := by decide +kernel
theorem dX4_holds_143 : decode cX4_holds 143 = .ok (.invokestatic 36, 3) := by decide +kernel
theorem dX4_holds_146 : decode cX4_holds 146 = .ok (.ireturn, 1) := by decide +kernel
theorem dX4_holds_147 : decode cX4_holds 147 = .ok (.aload_n 0, 1) := by decide +kernel
theorem dX4_holds_148 : decode cX4_holds 148 = .ok (.invokestatic 40, 3) := by decide +kernel
theorem dX4_holds_151 : decode cX4_holds 151 = .ok (.ireturn, 1) := by decide +kernel
theorem dX4_holds_152 : decode cX4_holds 152 = .ok (.aload_n 0, 1) := by decide +kernel
theorem dX4_holds_153 : decode cX4_holds 153 = .ok (.invokestatic 43, 3) := by decide +kernel
theorem dX4_holds_156 : decode cX4_holds 156 = .ok (.ireturn, 1) := by decide +kernel
theorem dX4_holds_157 : decode cX4_holds 157 = .ok (.iconst 0, 1) := by decide +kernel
theorem dX4_holds_158 : decode cX4_holds 158 = .ok (.ireturn, 1) := by decide +kernel
theorem dX4_areDiagonalsAt_0 : decode cX4_areDiagonalsAt 0 = .ok (.aload_n 0, 1) := by decide +kernel
theorem dX4_areDiagonalsAt_1 : decode cX4_areDiagonalsAt 1 = .ok (.iconst 2, 1) := by decide +kernel
theorem dX4_areDiagonalsAt_2 : decode cX4_areDiagonalsAt 2 = .ok (.iconst 0, 1) := by decide +kernel
theorem dX4_areDiagonalsAt_3 : decode cX4_areDiagonalsAt 3 = .ok (.invokevirtual 15, 3) := by decide +kernel
theorem dX4_areDiagonalsAt_6 : decode cX4_areDiagonalsAt 6 = .ok (.iload_n 1, 1) := by decide +kernel
theorem dX4_areDiagonalsAt_7 : decode cX4_areDiagonalsAt 7 = .ok (.if_icmp .ne 22, 3) := by decide +kernel
theorem dX4_areDiagonalsAt_10 : decode cX4_areDiagonalsAt 10 = .ok (.aload_n 0, 1) := by decide +kernel
theorem dX4_areDiagonalsAt_11 : decode cX4_areDiagonalsAt 11 = .ok (.iconst 3, 1) := by decide +kernel
theorem dX4_areDiagonalsAt_12 : decode cX4_areDiagonalsAt 12 = .ok (.aload_n 0, 1) := by decide +kernel
theorem dX4_areDiagonalsAt_13 : decode cX4_areDiagonalsAt 13 = .ok (.invokevirtual 46, 3) := by decide +kernel
theorem dX4_areDiagonalsAt_16 : decode cX4_areDiagonalsAt 16 = .ok (.iconst 1, 1) := by decide +kernel
theorem dX4_areDiagonalsAt_17 : decode cX4_areDiagonalsAt 17 = .ok (.isub, 1) := by decide +kernel
theorem dX4_areDiagonalsAt_18 : decode cX4_areDiagonalsAt 18 = .ok (.invokevirtual 15, 3) := by decide +kernel
theorem dX4_areDiagonalsAt_21 : decode cX4_areDiagonalsAt 21 = .ok (.iload_n 1, 1) := by decide +kernel
theorem dX4_areDiagonalsAt_22 : decode cX4_areDiagonalsAt 22 = .ok (.if_icmp .ne 7, 3) := by decide +kernel
theorem dX4_areDiagonalsAt_25 : decode cX4_areDiagonalsAt 25 = .ok (.iconst 1, 1) := by decide +kernel
theorem dX4_areDiagonalsAt_26 : decode cX4_areDiagonalsAt 26 = .ok (.goto 4, 3) := by decide +kernel
theorem dX4_areDiagonalsAt_29 : decode cX4_areDiagonalsAt 29 = .ok (.iconst 0, 1) := by decide +kernel
theorem dX4_areDiagonalsAt_30 : decode cX4_areDiagonalsAt 30 = .ok (.ireturn, 1) := by decide +kernel
theorem dX4_areLinesAt_0 : decode cX4_areLinesAt 0 = .ok (.iconst 0, 1) := by decide +kernel
theorem dX4_areLinesAt_1 : decode cX4_areLinesAt 1 = .ok (.istore_n 3, 1) := by decide +kernel
theorem dX4_areLinesAt_2 : decode cX4_areLinesAt 2 = .ok (.iload_n 3, 1) := by decide +kernel
theorem dX4_areLinesAt_3 : decode cX4_areLinesAt 3 = .ok (.aload_n 0, 1) := by decide +kernel
theorem dX4_areLinesAt_4 : decode cX4_areLinesAt 4 = .ok (.invokevirtual 46, 3) := by decide +kernel
theorem dX4_areLinesAt_7 : decode cX4_areLinesAt 7 = .ok (.if_icmp .ge 21, 3) := by decide +kernel
theorem dX4_areLinesAt_10 : decode cX4_areLinesAt 10 = .ok (.aload_n 0, 1) := by decide +kernel
theorem dX4_areLinesAt_11 : decode cX4_areLinesAt 11 = .ok (.iload_n 1, 1) := by decide +kernel
theorem dX4_areLinesAt_12 : decode cX4_areLinesAt 12 = .ok (.iload_n 3, 1) := by decide +kernel
theorem dX4_areLinesAt_13 : decode cX4_areLinesAt 13 = .ok (.invokevirtual 15, 3) := by decide +kernel
theorem dX4_areLinesAt_16 : decode cX4_areLinesAt 16 = .ok (.iload_n 2, 1) := by decide +kernel
theorem dX4_areLinesAt_17 : decode cX4_areLinesAt 17 = .ok (.if_icmp .eq 5, 3) := by decide +kernel
theorem dX4_areLinesAt_20 : decode cX4_areLinesAt 20 = .ok (.iconst 0, 1) := by decide +kernel
theorem dX4_areLinesAt_21 : decode cX4_areLinesAt 21 = .ok (.ireturn, 1) := by decide +kernel
theorem dX4_areLinesAt_22 : decode cX4_areLinesAt 22 = .ok (.iinc 3 1, 3) := by decide +kernel
theorem dX4_areLinesAt_25 : decode cX4_areLinesAt 25 = .ok (.goto (-23), 3) := by decide +kernel
theorem dX4_areLinesAt_28 : decode cX4_areLinesAt 28 = .ok (.iconst 1, 1) := by decide +kernel
theorem dX4_areLinesAt_29 : decode cX4_areLinesAt 29 = .ok (.ireturn, 1) := by decide +kernel
theorem dX4_areOppositesAlike_0 : decode cX4_areOppositesAlike 0 = .ok (.aload_n 0, 1) := by decide +kernel
theorem dX4_areOppositesAlike_1 : decode cX4_areOppositesAlike 1 = .ok (.invokevirtual 28, 3) := by decide +kernel
theorem dX4_areOppositesAlike_4 : decode cX4_areOppositesAlike 4 = .ok (.iconst 1, 1) := by decide +kernel
theorem dX4_areOppositesAlike_5 : decode cX4_areOppositesAlike 5 = .ok (.isub, 1) := by decide +kernel
theorem dX4_areOppositesAlike_6 : decode cX4_areOppositesAlike 6 = .ok (.istore_n 1, 1) := by decide +kernel
theorem dX4_areOppositesAlike_7 : decode cX4_areOppositesAlike 7 = .ok (.aload_n 0, 1) := by decide +kernel
theorem dX4_areOppositesAlike_8 : decode cX4_areOppositesAlike 8 = .ok (.iconst 0, 1) := by decide +kernel
theorem dX4_areOppositesAlike_9 : decode cX4_areOppositesAlike 9 = .ok (.invokevirtual 49, 3) := by decide +kernel
theorem dX4_areOppositesAlike_12 : decode cX4_areOppositesAlike 12 = .ok (.aload_n 0, 1) := by decide +kernel
theorem dX4_areOppositesAlike_13 : decode cX4_areOppositesAlike 13 = .ok (.iload_n 1, 1) := by decide +kernel
theorem dX4_areOppositesAlike_14 : decode cX4_areOppositesAlike 14 = .ok (.invokevirtual 49, 3) := by decide +kernel
theorem dX4_areOppositesAlike_17 : decode cX4_areOppositesAlike 17 = .ok (.iadd, 1) := by decide +kernel
theorem dX4_areOppositesAlike_18 : decode cX4_areOppositesAlike 18 = .ok (.istore_n 2, 1) := by decide +kernel
theorem dX4_areOppositesAlike_19 : decode cX4_areOppositesAlike 19 = .ok (.iconst 0, 1) := by decide +kernel
theorem dX4_areOppositesAlike_20 : decode cX4_areOppositesAlike 20 = .ok (.istore_n 3, 1) := by decide +kernel
theorem dX4_areOppositesAlike_21 : decode cX4_areOppositesAlike 21 = .ok (.iload_n 3, 1) := by decide +kernel
theorem dX4_areOppositesAlike_22 : decode cX4_areOppositesAlike 22 = .ok (.iload_n 1, 1) := by decide +kernel
theorem dX4_areOppositesAlike_23 : decode cX4_areOppositesAlike 23 = .ok (.if_icmp .gt 28, 3) := by decide +kernel
theorem dX4_areOppositesAlike_26 : decode cX4_areOppositesAlike 26 = .ok (.aload_n 0, 1) := by decide +kernel
theorem dX4_areOppositesAlike_27 : decode cX4_areOppositesAlike 27 = .ok (.iload_n 3, 1) := by decide +kernel
theorem dX4_areOppositesAlike_28 : decode cX4_areOppositesAlike 28 = .ok (.invokevirtual 49, 3) := by decide +kernel
theorem dX4_areOppositesAlike_31 : decode cX4_areOppositesAlike 31 = .ok (.aload_n 0, 1) := by decide +kernel
theorem dX4_areOppositesAlike_32 : decode cX4_areOppositesAlike 32 = .ok (.iload_n 1, 1) := by decide +kernel
theorem dX4_areOppositesAlike_33 : decode cX4_areOppositesAlike 33 = .ok (.iload_n 3, 1) := by decide +kernel
theorem dX4_areOppositesAlike_34 : decode cX4_areOppositesAlike 34 = .ok (.isub, 1) := by decide +kernel
theorem dX4_areOppositesAlike_35 : decode cX4_areOppositesAlike 35 = .ok (.invokevirtual 49, 3) := by decide +kernel
theorem dX4_areOppositesAlike_38 : decode cX4_areOppositesAlike 38 = .ok (.iadd, 1) := by decide +kernel
theorem dX4_areOppositesAlike_39 : decode cX4_areOppositesAlike 39 = .ok (.iload_n 2, 1) := by decide +kernel
theorem dX4_areOppositesAlike_40 : decode cX4_areOppositesAlike 40 = .ok (.if_icmp .eq 5, 3) := by decide +kernel
theorem dX4_areOppositesAlike_43 : decode cX4_areOppositesAlike 43 = .ok (.iconst 0, 1) := by decide +kernel
theorem dX4_areOppositesAlike_44 : decode cX4_areOppositesAlike 44 = .ok (.ireturn, 1) := by decide +kernel
theorem dX4_areOppositesAlike_45 : decode cX4_areOppositesAlike 45 = .ok (.iinc 3 1, 3) := by decide +kernel
theorem dX4_areOppositesAlike_48 : decode cX4_areOppositesAlike 48 = .ok (.goto (-27), 3) := by decide +kernel
theorem dX4_areOppositesAlike_51 : decode cX4_areOppositesAlike 51 = .ok (.iconst 1, 1) := by decide +kernel
theorem dX4_areOppositesAlike_52 : decode cX4_areOppositesAlike 52 = .ok (.ireturn, 1) := by decide +kernel
theorem dX4_arePowersAlike_0 : decode cX4_arePowersAlike 0 = .ok (.aload_n 0, 1) := by decide +kernel
theorem dX4_arePowersAlike_1 : decode cX4_arePowersAlike 1 = .ok (.iconst 0, 1) := by decide +kernel
theorem dX4_arePowersAlike_2 : decode cX4_arePowersAlike 2 = .ok (.iconst 0, 1) := by decide +kernel
theorem dX4_arePowersAlike_3 : decode cX4_arePowersAlike 3 = .ok (.invokevirtual 52, 3) := by decide +kernel
theorem dX4_arePowersAlike_6 : decode cX4_arePowersAlike 6 = .ok (.istore_n 1, 1) := by decide +kernel
theorem dX4_arePowersAlike_7 : decode cX4_arePowersAlike 7 = .ok (.iconst 0, 1) := by decide +kernel
theorem dX4_arePowersAlike_8 : decode cX4_arePowersAlike 8 = .ok (.istore_n 2, 1) := by decide +kernel
theorem dX4_arePowersAlike_9 : decode cX4_arePowersAlike 9 = .ok (.iload_n 2, 1) := by decide +kernel
theorem dX4_arePowersAlike_10 : decode cX4_arePowersAlike 10 = .ok (.aload_n 0, 1) := by decide +kernel
theorem dX4_arePowersAlike_11 : decode cX4_arePowersAlike 11 = .ok (.invokevirtual 46, 3) := by decide +kernel
theorem dX4_arePowersAlike_14 : decode cX4_arePowersAlike 14 = .ok (.if_icmp .ge 31, 3) := by decide +kernel
theorem dX4_arePowersAlike_17 : decode cX4_arePowersAlike 17 = .ok (.aload_n 0, 1) := by decide +kernel
theorem dX4_arePowersAlike_18 : decode cX4_arePowersAlike 18 = .ok (.iconst 0, 1) := by decide +kernel
theorem dX4_arePowersAlike_19 : decode cX4_arePowersAlike 19 = .ok (.iload_n 2, 1) := by decide +kernel
theorem dX4_arePowersAlike_20 : decode cX4_arePowersAlike 20 = .ok (.invokevirtual 52, 3) := by decide +kernel
theorem dX4_arePowersAlike_23 : decode cX4_arePowersAlike 23 = .ok (.iload_n 1, 1) := by decide +kernel
theorem dX4_arePowersAlike_24 : decode cX4_arePowersAlike 24 = .ok (.if_icmp .ne 13, 3) := by decide +kernel
theorem dX4_arePowersAlike_27 : decode cX4_arePowersAlike 27 = .ok (.aload_n 0, 1) := by decide +kernel
theorem dX4_arePowersAlike_28 : decode cX4_arePowersAlike 28 = .ok (.iconst 1, 1) := by decide +kernel
theorem dX4_arePowersAlike_29 : decode cX4_arePowersAlike 29 = .ok (.iload_n 2, 1) := by decide +kernel
theorem dX4_arePowersAlike_30 : decode cX4_arePowersAlike 30 = .ok (.invokevirtual 52, 3) := by decide +kernel
theorem dX4_arePowersAlike_33 : decode cX4_arePowersAlike 33 = .ok (.iload_n 1, 1) := by decide +kernel
theorem dX4_arePowersAlike_34 : decode cX4_arePowersAlike 34 = .ok (.if_icmp .eq 5, 3) := by decide +kernel
theorem dX4_arePowersAlike_37 : decode cX4_arePowersAlike 37 = .ok (.iconst 0, 1) := by decide +kernel
theorem dX4_arePowersAlike_38 : decode cX4_arePowersAlike 38 = .ok (.ireturn, 1) := by decide +kernel
theorem dX4_arePowersAlike_39 : decode cX4_arePowersAlike 39 = .ok (.iinc 2 1, 3) := by decide +kernel
theorem dX4_arePowersAlike_42 : decode cX4_arePowersAlike 42 = .ok (.goto (-33), 3) := by decide +kernel
theorem dX4_arePowersAlike_45 : decode cX4_arePowersAlike 45 = .ok (.iconst 1, 1) := by decide +kernel
theorem dX4_arePowersAlike_46 : decode cX4_arePowersAlike 46 = .ok (.ireturn, 1) := by decide +kernel
theorem dX5_holdsFor_0 : decode cX5_holdsFor 0 = .ok (.iload_n 0, 1) := by decide +kernel
theorem dX5_holdsFor_1 : decode cX5_holdsFor 1 = .ok (.tableswitch 92 0 3 #[31, 44, 61, 80], 31) := by decide +kernel
theorem dX5_holdsFor_32 : decode cX5_holdsFor 32 = .ok (.iload_n 1, 1) := by decide +kernel
theorem dX5_holdsFor_33 : decode cX5_holdsFor 33 = .ok (.iconst 2, 1) := by decide +kernel
theorem dX5_holdsFor_34 : decode cX5_holdsFor 34 = .ok (.irem, 1) := by decide +kernel
theorem dX5_holdsFor_35 : decode cX5_holdsFor 35 = .ok (.iconst 1, 1) := by decide +kernel
theorem dX5_holdsFor_36 : decode cX5_holdsFor 36 = .ok (.if_icmp .ne 7, 3) := by decide +kernel
theorem dX5_holdsFor_39 : decode cX5_holdsFor 39 = .ok (.iconst 1, 1) := by decide +kernel
theorem dX5_holdsFor_40 : decode cX5_holdsFor 40 = .ok (.goto 4, 3) := by decide +kernel
theorem dX5_holdsFor_43 : decode cX5_holdsFor 43 = .ok (.iconst 0, 1) := by decide +kernel
theorem dX5_holdsFor_44 : decode cX5_holdsFor 44 = .ok (.ireturn, 1) := by decide +kernel
theorem dX5_holdsFor_45 : decode cX5_holdsFor 45 = .ok (.iload_n 1, 1) := by decide +kernel
theorem dX5_holdsFor_46 : decode cX5_holdsFor 46 = .ok (.iconst 4, 1) := by decide +kernel
theorem dX5_holdsFor_47 : decode cX5_holdsFor 47 = .ok (.if_icmp .eq 9, 3) := by decide +kernel
theorem dX5_holdsFor_50 : decode cX5_holdsFor 50 = .ok (.iload_n 1, 1) := by decide +kernel
theorem dX5_holdsFor_51 : decode cX5_holdsFor 51 = .ok (.bipush 8, 2) := by decide +kernel
theorem dX5_holdsFor_53 : decode cX5_holdsFor 53 = .ok (.if_icmp .ne 7, 3) := by decide +kernel
theorem dX5_holdsFor_56 : decode cX5_holdsFor 56 = .ok (.iconst 1, 1) := by decide +kernel
theorem dX5_holdsFor_57 : decode cX5_holdsFor 57 = .ok (.goto 4, 3) := by decide +kernel
theorem dX5_holdsFor_60 : decode cX5_holdsFor 60 = .ok (.iconst 0, 1) := by decide +kernel
theorem dX5_holdsFor_61 : decode cX5_holdsFor 61 = .ok (.ireturn, 1) := by decide +kernel
theorem dX5_holdsFor_62 : decode cX5_holdsFor 62 = .ok (.iload_n 1, 1) := by decide +kernel
theorem dX5_holdsFor_63 : decode cX5_holdsFor 63 = .ok (.iconst 2, 1) := by decide +kernel
theorem dX5_holdsFor_64 : decode cX5_holdsFor 64 = .ok (.irem, 1) := by decide +kernel
theorem dX5_holdsFor_65 : decode cX5_holdsFor 65 = .ok (.iconst 1, 1) := by decide +kernel
theorem dX5_holdsFor_66 : decode cX5_holdsFor 66 = .ok (.if_icmp .ne 13, 3) := by decide +kernel
theorem dX5_holdsFor_69 : decode cX5_holdsFor 69 = .ok (.iload_n 1, 1) := by decide +kernel
theorem dX5_holdsFor_70 : decode cX5_holdsFor 70 = .ok (.iconst 3, 1) := by decide +kernel
theorem dX5_holdsFor_71 : decode cX5_holdsFor 71 = .ok (.irem, 1) := by decide +kernel
theorem dX5_holdsFor_72 : decode cX5_holdsFor 72 = .ok (.ifCond .eq 7, 3) := by decide +kernel
theorem dX5_holdsFor_75 : decode cX5_holdsFor 75 = .ok (.iconst 1, 1) := by decide +kernel
theorem dX5_holdsFor_76 : decode cX5_holdsFor 76 = .ok (.goto 4, 3) := by decide +kernel
theorem dX5_holdsFor_79 : decode cX5_holdsFor 79 = .ok (.iconst 0, 1) := by decide +kernel
theorem dX5_holdsFor_80 : decode cX5_holdsFor 80 = .ok (.ireturn, 1) := by decide +kernel
theorem dX5_holdsFor_81 : decode cX5_holdsFor 81 = .ok (.iload_n 1, 1) := by decide +kernel
theorem dX5_holdsFor_82 : decode cX5_holdsFor 82 = .ok (.bipush 6, 2) := by decide +kernel
theorem dX5_holdsFor_84 : decode cX5_holdsFor 84 = .ok (.if_icmp .ne 7, 3) := by decide +kernel
theorem dX5_holdsFor_87 : decode cX5_holdsFor 87 = .ok (.iconst 1, 1) := by decide +kernel
theorem dX5_holdsFor_88 : decode cX5_holdsFor 88 = .ok (.goto 4, 3) := by decide +kernel
theorem dX5_holdsFor_91 : decode cX5_holdsFor 91 = .ok (.iconst 0, 1) := by decide +kernel
theorem dX5_holdsFor_92 : decode cX5_holdsFor 92 = .ok (.ireturn, 1) := by decide +kernel
theorem dX5_holdsFor_93 : decode cX5_holdsFor 93 = .ok (.iconst 0, 1) := by decide +kernel
theorem dX5_holdsFor_94 : decode cX5_holdsFor 94 = .ok (.ireturn, 1) := by decide +kernel
theorem dX5_lay_0 : decode cX5_lay 0 = .ok (.iload_n 0, 1) := by decide +kernel
theorem dX5_lay_1 : decode cX5_lay 1 = .ok (.tableswitch 48 0 2 #[27, 34, 41], 27) := by decide +kernel
theorem dX5_lay_28 : decode cX5_lay 28 = .ok (.aload_n 1, 1) := by decide +kernel
theorem dX5_lay_29 : decode cX5_lay 29 = .ok (.invokestatic 9, 3) := by decide +kernel
theorem dX5_lay_32 : decode cX5_lay 32 = .ok (.goto 22, 3) := by decide +kernel
theorem dX5_lay_35 : decode cX5_lay 35 = .ok (.aload_n 1, 1) := by decide +kernel
theorem dX5_lay_36 : decode cX5_lay 36 = .ok (.invokestatic 15, 3) := by decide +kernel
theorem dX5_lay_39 : decode cX5_lay 39 = .ok (.goto 15, 3) := by decide +kernel
theorem dX5_lay_42 : decode cX5_lay 42 = .ok (.aload_n 1, 1) := by decide +kernel
theorem dX5_lay_43 : decode cX5_lay 43 = .ok (.invokestatic 18, 3) := by decide +kernel
theorem dX5_lay_46 : decode cX5_lay 46 = .ok (.goto 8, 3) := by decide +kernel
theorem dX5_lay_49 : decode cX5_lay 49 = .ok (.aload_n 1, 1) := by decide +kernel
theorem dX5_lay_50 : decode cX5_lay 50 = .ok (.aload_n 2, 1) := by decide +kernel
theorem dX5_lay_51 : decode cX5_lay 51 = .ok (.invokestatic 21, 3) := by decide +kernel
theorem dX5_lay_54 : decode cX5_lay 54 = .ok (.return_, 1) := by decide +kernel
theorem dX5_laySiege_0 : decode cX5_laySiege 0 = .ok (.aload_n 0, 1) := by decide +kernel
theorem dX5_laySiege_1 : decode cX5_laySiege 1 = .ok (.invokevirtual 25, 3) := by decide +kernel
theorem dX5_laySiege_4 : decode cX5_laySiege 4 = .ok (.istore_n 1, 1) := by decide +kernel
theorem dX5_laySiege_5 : decode cX5_laySiege 5 = .ok (.iconst 0, 1) := by decide +kernel
theorem dX5_laySiege_6 : decode cX5_laySiege 6 = .ok (.istore_n 2, 1) := by decide +kernel
theorem dX5_laySiege_7 : decode cX5_laySiege 7 = .ok (.iload_n 1, 1) := by decide +kernel
theorem dX5_laySiege_8 : decode cX5_laySiege 8 = .ok (.iconst 2, 1) := by decide +kernel
theorem dX5_laySiege_9 : decode cX5_laySiege 9 = .ok (.idiv, 1) := by decide +kernel
theorem dX5_laySiege_10 : decode cX5_laySiege 10 = .ok (.istore_n 3, 1) := by decide +kernel
theorem dX5_laySiege_11 : decode cX5_laySiege 11 = .ok (.iconst 1, 1) := by decide +kernel
theorem dX5_laySiege_12 : decode cX5_laySiege 12 = .ok (.istore 4, 2) := by decide +kernel
theorem dX5_laySiege_14 : decode cX5_laySiege 14 = .ok (.iload 4, 2) := by decide +kernel
theorem dX5_laySiege_16 : decode cX5_laySiege 16 = .ok (.aload_n 0, 1) := by decide +kernel
theorem dX5_laySiege_17 : decode cX5_laySiege 17 = .ok (.invokevirtual 31, 3) := by decide +kernel
theorem dX5_laySiege_20 : decode cX5_laySiege 20 = .ok (.if_icmp .gt 72, 3) := by decide +kernel
theorem dX5_laySiege_23 : decode cX5_laySiege 23 = .ok (.aload_n 0, 1) := by decide +kernel
theorem dX5_laySiege_24 : decode cX5_laySiege 24 = .ok (.aload_n 0, 1) := by decide +kernel
theorem dX5_laySiege_25 : decode cX5_laySiege 25 = .ok (.iload_n 2, 1) := by decide +kernel
theorem dX5_laySiege_26 : decode cX5_laySiege 26 = .ok (.iload_n 3, 1) := by decide +kernel
theorem dX5_laySiege_27 : decode cX5_laySiege 27 = .ok (.invokevirtual 34, 3) := by decide +kernel
theorem dX5_laySiege_30 : decode cX5_laySiege 30 = .ok (.iload 4, 2) := by decide +kernel
theorem dX5_laySiege_32 : decode cX5_laySiege 32 = .ok (.invokevirtual 38, 3) := by decide +kernel
theorem dX5_laySiege_35 : decode cX5_laySiege 35 = .ok (.pop, 1) := by decide +kernel
theorem dX5_laySiege_36 : decode cX5_laySiege 36 = .ok (.iload_n 2, 1) := by decide +kernel
theorem dX5_laySiege_37 : decode cX5_laySiege 37 = .ok (.iconst 1, 1) := by decide +kernel
theorem dX5_laySiege_38 : decode cX5_laySiege 38 = .ok (.isub, 1) := by decide +kernel
theorem dX5_laySiege_39 : decode cX5_laySiege 39 = .ok (.iload_n 1, 1) := by decide +kernel
theorem dX5_laySiege_40 : decode cX5_laySiege 40 = .ok (.invokestatic 41, 3) := by decide +kernel
theorem dX5_laySiege_43 : decode cX5_laySiege 43 = .ok (.istore 5, 2) := by decide +kernel
theorem dX5_laySiege_45 : decode cX5_laySiege 45 = .ok (.iload_n 3, 1) := by decide +kernel
theorem dX5_laySiege_46 : decode cX5_laySiege 46 = .ok (.iconst 1, 1) := by decide +kernel
theorem dX5_laySiege_47 : decode cX5_laySiege 47 = .ok (.iadd, 1) := by decide +kernel
theorem dX5_laySiege_48 : decode cX5_laySiege 48 = .ok (.iload_n 1, 1) := by decide +kernel
theorem dX5_laySiege_49 : decode cX5_laySiege 49 = .ok (.invokestatic 41, 3) := by decide +kernel
theorem dX5_laySiege_52 : decode cX5_laySiege 52 = .ok (.istore 6, 2) := by decide +kernel
theorem dX5_laySiege_54 : decode cX5_laySiege 54 = .ok (.aload_n 0, 1) := by decide +kernel
theorem dX5_laySiege_55 : decode cX5_laySiege 55 = .ok (.aload_n 0, 1) := by decide +kernel
theorem dX5_laySiege_56 : decode cX5_laySiege 56 = .ok (.iload 5, 2) := by decide +kernel
theorem dX5_laySiege_58 : decode cX5_laySiege 58 = .ok (.iload 6, 2) := by decide +kernel
theorem dX5_laySiege_60 : decode cX5_laySiege 60 = .ok (.invokevirtual 34, 3) := by decide +kernel
theorem dX5_laySiege_63 : decode cX5_laySiege 63 = .ok (.invokevirtual 46, 3) := by decide +kernel
theorem dX5_laySiege_66 : decode cX5_laySiege 66 = .ok (.ifCond .ne 12, 3) := by decide +kernel
theorem dX5_laySiege_69 : decode cX5_laySiege 69 = .ok (.iload 5, 2) := by decide +kernel
theorem dX5_laySiege_71 : decode cX5_laySiege 71 = .ok (.istore_n 2, 1) := by decide +kernel
theorem dX5_laySiege_72 : decode cX5_laySiege 72 = .ok (.iload 6, 2) := by decide +kernel
theorem dX5_laySiege_74 : decode cX5_laySiege 74 = .ok (.istore_n 3, 1) := by decide +kernel
theorem dX5_laySiege_75 : decode cX5_laySiege 75 = .ok (.goto 11, 3) := by decide +kernel
theorem dX5_laySiege_78 : decode cX5_laySiege 78 = .ok (.iload_n 2, 1) := by decide +kernel
theorem dX5_laySiege_79 : decode cX5_laySiege 79 = .ok (.iconst 1, 1) := by decide +kernel
theorem dX5_laySiege_80 : decode cX5_laySiege 80 = .ok (.iadd, 1) := by decide +kernel
theorem dX5_laySiege_81 : decode cX5_laySiege 81 = .ok (.iload_n 1, 1) := by decide +kernel
theorem dX5_laySiege_82 : decode cX5_laySiege 82 = .ok (.invokestatic 41, 3) := by decide +kernel
theorem dX5_laySiege_85 : decode cX5_laySiege 85 = .ok (.istore_n 2, 1) := by decide +kernel
theorem dX5_laySiege_86 : decode cX5_laySiege 86 = .ok (.iinc 4 1, 3) := by decide +kernel
theorem dX5_laySiege_89 : decode cX5_laySiege 89 = .ok (.goto (-75), 3) := by decide +kernel
theorem dX5_laySiege_92 : decode cX5_laySiege 92 = .ok (.return_, 1) := by decide +kernel
theorem dX5_layCross_0 : decode cX5_layCross 0 = .ok (.aload_n 0, 1) := by decide +kernel
theorem dX5_layCross_1 : decode cX5_layCross 1 = .ok (.invokevirtual 25, 3) := by decide +kernel
theorem dX5_layCross_4 : decode cX5_layCross 4 = .ok (.istore_n 1, 1) := by decide +kernel
theorem dX5_layCross_5 : decode cX5_layCross 5 = .ok (.iconst 0, 1) := by decide +kernel
theorem dX5_layCross_6 : decode cX5_layCross 6 = .ok (.istore_n 2, 1) := by decide +kernel
theorem dX5_layCross_7 : decode cX5_layCross 7 = .ok (.iload_n 2, 1) := by decide +kernel
theorem dX5_layCross_8 : decode cX5_layCross 8 = .ok (.aload_n 0, 1) := by decide +kernel
theorem dX5_layCross_9 : decode cX5_layCross 9 = .ok (.invokevirtual 31, 3) := by decide +kernel
theorem dX5_layCross_12 : decode cX5_layCross 12 = .ok (.if_icmp .ge 70, 3) := by decide +kernel
theorem dX5_layCross_15 : decode cX5_layCross 15 = .ok (.iload_n 1, 1) := by decide +kernel
theorem dX5_layCross_16 : decode cX5_layCross 16 = .ok (.iload_n 2, 1) := by decide +kernel
theorem dX5_layCross_17 : decode cX5_layCross 17 = .ok (.invokestatic 50, 3) := by decide +kernel
theorem dX5_layCross_20 : decode cX5_layCross 20 = .ok (.iconst 4, 1) := by decide +kernel
theorem dX5_layCross_21 : decode cX5_layCross 21 = .ok (.irem, 1) := by decide +kernel
theorem dX5_layCross_22 : decode cX5_layCross 22 = .ok (.istore_n 3, 1) := by decide +kernel
theorem dX5_layCross_23 : decode cX5_layCross 23 = .ok (.iload_n 1, 1) := by decide +kernel
theorem dX5_layCross_24 : decode cX5_layCross 24 = .ok (.iload_n 2, 1) := by decide +kernel
theorem dX5_layCross_25 : decode cX5_layCross 25 = .ok (.invokestatic 53, 3) := by decide +kernel
theorem dX5_layCross_28 : decode cX5_layCross 28 = .ok (.iconst 4, 1) := by decide +kernel
theorem dX5_layCross_29 : decode cX5_layCross 29 = .ok (.irem, 1) := by decide +kernel
theorem dX5_layCross_30 : decode cX5_layCross 30 = .ok (.istore 4, 2) := by decide +kernel
theorem dX5_layCross_32 : decode cX5_layCross 32 = .ok (.iload_n 3, 1) := by decide +kernel
theorem dX5_layCross_33 : decode cX5_layCross 33 = .ok (.iload 4, 2) := by decide +kernel
theorem dX5_layCross_35 : decode cX5_layCross 35 = .ok (.if_icmp .eq 11, 3) := by decide +kernel
theorem dX5_layCross_38 : decode cX5_layCross 38 = .ok (.iload_n 3, 1) := by decide +kernel
theorem dX5_layCross_39 : decode cX5_layCross 39 = .ok (.iload 4, 2) := by decide +kernel
theorem dX5_layCross_41 : decode cX5_layCross 41 = .ok (.iadd, 1) := by decide +kernel
theorem dX5_layCross_42 : decode cX5_layCross 42 = .ok (.iconst 3, 1) := by decide +kernel
theorem dX5_layCross_43 : decode cX5_layCross 43 = .ok (.if_icmp .ne 7, 3) := by decide +kernel
theorem dX5_layCross_46 : decode cX5_layCross 46 = .ok (.iconst 1, 1) := by decide +kernel
theorem dX5_layCross_47 : decode cX5_layCross 47 = .ok (.goto 4, 3) := by decide +kernel
theorem dX5_layCross_50 : decode cX5_layCross 50 = .ok (.iconst 0, 1) := by decide +kernel
theorem dX5_layCross_51 : decode cX5_layCross 51 = .ok (.istore 5, 2) := by decide +kernel
theorem dX5_layCross_53 : decode cX5_layCross 53 = .ok (.aload_n 0, 1) := by decide +kernel
theorem dX5_layCross_54 : decode cX5_layCross 54 = .ok (.iload_n 2, 1) := by decide +kernel
theorem dX5_layCross_55 : decode cX5_layCross 55 = .ok (.iload 5, 2) := by decide +kernel
theorem dX5_layCross_57 : decode cX5_layCross 57 = .ok (.ifCond .eq 12, 3) := by decide +kernel
theorem dX5_layCross_60 : decode cX5_layCross 60 = .ok (.aload_n 0, 1) := by decide +kernel
theorem dX5_layCross_61 : decode cX5_layCross 61 = .ok (.invokevirtual 31, 3) := by decide +kernel
theorem dX5_layCross_64 : decode cX5_layCross 64 = .ok (.iload_n 2, 1) := by decide +kernel
theorem dX5_layCross_65 : decode cX5_layCross 65 = .ok (.isub, 1) := by decide +kernel
theorem dX5_layCross_66 : decode cX5_layCross 66 = .ok (.goto 6, 3) := by decide +kernel
theorem dX5_layCross_69 : decode cX5_layCross 69 = .ok (.iload_n 2, 1) := by decide +kernel
theorem dX5_layCross_70 : decode cX5_layCross 70 = .ok (.iconst 1, 1) := by decide +kernel
theorem dX5_layCross_71 : decode cX5_layCross 71 = .ok (.iadd, 1) := by decide +kernel
theorem dX5_layCross_72 : decode cX5_layCross 72 = .ok (.invokevirtual 38, 3) := by decide +kernel
theorem dX5_layCross_75 : decode cX5_layCross 75 = .ok (.pop, 1) := by decide +kernel
theorem dX5_layCross_76 : decode cX5_layCross 76 = .ok (.iinc 2 1, 3) := by decide +kernel
theorem dX5_layCross_79 : decode cX5_layCross 79 = .ok (.goto (-72), 3) := by decide +kernel
theorem dX5_layCross_82 : decode cX5_layCross 82 = .ok (.return_, 1) := by decide +kernel
theorem dX5_layDigits_0 : decode cX5_layDigits 0 = .ok (.aload_n 0, 1) := by decide +kernel
theorem dX5_layDigits_1 : decode cX5_layDigits 1 = .ok (.invokevirtual 25, 3) := by decide +kernel
theorem dX5_layDigits_4 : decode cX5_layDigits 4 = .ok (.istore_n 1, 1) := by decide +kernel
theorem dX5_layDigits_5 : decode cX5_layDigits 5 = .ok (.iconst 0, 1) := by decide +kernel
theorem dX5_layDigits_6 : decode cX5_layDigits 6 = .ok (.istore_n 2, 1) := by decide +kernel
theorem dX5_layDigits_7 : decode cX5_layDigits 7 = .ok (.iload_n 2, 1) := by decide +kernel
theorem dX5_layDigits_8 : decode cX5_layDigits 8 = .ok (.iload_n 1, 1) := by decide +kernel
theorem dX5_layDigits_9 : decode cX5_layDigits 9 = .ok (.if_icmp .ge 64, 3) := by decide +kernel
theorem dX5_layDigits_12 : decode cX5_layDigits 12 = .ok (.iconst 0, 1) := by decide +kernel
theorem dX5_layDigits_13 : decode cX5_layDigits 13 = .ok (.istore_n 3, 1) := by decide +kernel
theorem dX5_layDigits_14 : decode cX5_layDigits 14 = .ok (.iload_n 3, 1) := by decide +kernel
theorem dX5_layDigits_15 : decode cX5_layDigits 15 = .ok (.iload_n 1, 1) := by decide +kernel
theorem dX5_layDigits_16 : decode cX5_layDigits 16 = .ok (.if_icmp .ge 51, 3) := by decide +kernel
theorem dX5_layDigits_19 : decode cX5_layDigits 19 = .ok (.iload_n 2, 1) := by decide +kernel
theorem dX5_layDigits_20 : decode cX5_layDigits 20 = .ok (.iconst 2, 1) := by decide +kernel
theorem dX5_layDigits_21 : decode cX5_layDigits 21 = .ok (.iload_n 3, 1) := by decide +kernel
theorem dX5_layDigits_22 : decode cX5_layDigits 22 = .ok (.imul, 1) := by decide +kernel
theorem dX5_layDigits_23 : decode cX5_layDigits 23 = .ok (.iadd, 1) := by decide +kernel
theorem dX5_layDigits_24 : decode cX5_layDigits 24 = .ok (.iload_n 1, 1) := by decide +kernel
theorem dX5_layDigits_25 : decode cX5_layDigits 25 = .ok (.invokestatic 41, 3) := by decide +kernel
theorem dX5_layDigits_28 : decode cX5_layDigits 28 = .ok (.istore 4, 2) := by decide +kernel
theorem dX5_layDigits_30 : decode cX5_layDigits 30 = .ok (.iconst 2, 1) := by decide +kernel
theorem dX5_layDigits_31 : decode cX5_layDigits 31 = .ok (.iload_n 2, 1) := by decide +kernel
theorem dX5_layDigits_32 : decode cX5_layDigits 32 = .ok (.imul, 1) := by decide +kernel
theorem dX5_layDigits_33 : decode cX5_layDigits 33 = .ok (.iload_n 3, 1) := by decide +kernel
theorem dX5_layDigits_34 : decode cX5_layDigits 34 = .ok (.iadd, 1) := by decide +kernel
theorem dX5_layDigits_35 : decode cX5_layDigits 35 = .ok (.iload_n 1, 1) := by decide +kernel
theorem dX5_layDigits_36 : decode cX5_layDigits 36 = .ok (.invokestatic 41, 3) := by decide +kernel
theorem dX5_layDigits_39 : decode cX5_layDigits 39 = .ok (.istore 5, 2) := by decide +kernel
theorem dX5_layDigits_41 : decode cX5_layDigits 41 = .ok (.aload_n 0, 1) := by decide +kernel
theorem dX5_layDigits_42 : decode cX5_layDigits 42 = .ok (.aload_n 0, 1) := by decide +kernel
theorem dX5_layDigits_43 : decode cX5_layDigits 43 = .ok (.iload_n 2, 1) := by decide +kernel
theorem dX5_layDigits_44 : decode cX5_layDigits 44 = .ok (.iload_n 3, 1) := by decide +kernel
theorem dX5_layDigits_45 : decode cX5_layDigits 45 = .ok (.invokevirtual 34, 3) := by decide +kernel
theorem dX5_layDigits_48 : decode cX5_layDigits 48 = .ok (.iload_n 1, 1) := by decide +kernel
theorem dX5_layDigits_49 : decode cX5_layDigits 49 = .ok (.iload 4, 2) := by decide +kernel
theorem dX5_layDigits_51 : decode cX5_layDigits 51 = .ok (.imul, 1) := by decide +kernel
theorem dX5_layDigits_52 : decode cX5_layDigits 52 = .ok (.iload 5, 2) := by decide +kernel
theorem dX5_layDigits_54 : decode cX5_layDigits 54 = .ok (.iadd, 1) := by decide +kernel
theorem dX5_layDigits_55 : decode cX5_layDigits 55 = .ok (.iconst 1, 1) := by decide +kernel
theorem dX5_layDigits_56 : decode cX5_layDigits 56 = .ok (.iadd, 1) := by decide +kernel
theorem dX5_layDigits_57 : decode cX5_layDigits 57 = .ok (.invokevirtual 38, 3) := by decide +kernel
theorem dX5_layDigits_60 : decode cX5_layDigits 60 = .ok (.pop, 1) := by decide +kernel
theorem dX5_layDigits_61 : decode cX5_layDigits 61 = .ok (.iinc 3 1, 3) := by decide +kernel
theorem dX5_layDigits_64 : decode cX5_layDigits 64 = .ok (.goto (-50), 3) := by decide +kernel
theorem dX5_layDigits_67 : decode cX5_layDigits 67 = .ok (.iinc 2 1, 3) := by decide +kernel
theorem dX5_layDigits_70 : decode cX5_layDigits 70 = .ok (.goto (-63), 3) := by decide +kernel
theorem dX5_layDigits_73 : decode cX5_layDigits 73 = .ok (.return_, 1) := by decide +kernel
theorem dX5_layLux_0 : decode cX5_layLux 0 = .ok (.aload_n 1, 1) := by decide +kernel
theorem dX5_layLux_1 : decode cX5_layLux 1 = .ok (.iconst 3, 1) := by decide +kernel
theorem dX5_layLux_2 : decode cX5_layLux 2 = .ok (.invokevirtual 56, 3) := by decide +kernel
theorem dX5_layLux_5 : decode cX5_layLux 5 = .ok (.aload_n 1, 1) := by decide +kernel
theorem dX5_layLux_6 : decode cX5_layLux 6 = .ok (.invokestatic 9, 3) := by decide +kernel
theorem dX5_layLux_9 : decode cX5_layLux 9 = .ok (.iconst 0, 1) := by decide +kernel
theorem dX5_layLux_10 : decode cX5_layLux 10 = .ok (.istore_n 2, 1) := by decide +kernel
theorem dX5_layLux_11 : decode cX5_layLux 11 = .ok (.iload_n 2, 1) := by decide +kernel
theorem dX5_layLux_12 : decode cX5_layLux 12 = .ok (.iconst 3, 1) := by decide +kernel
theorem dX5_layLux_13 : decode cX5_layLux 13 = .ok (.if_icmp .ge 163, 3) := by decide +kernel
theorem dX5_layLux_16 : decode cX5_layLux 16 = .ok (.iconst 0, 1) := by decide +kernel
theorem dX5_layLux_17 : decode cX5_layLux 17 = .ok (.istore_n 3, 1) := by decide +kernel
theorem dX5_layLux_18 : decode cX5_layLux 18 = .ok (.iload_n 3, 1) := by decide +kernel
theorem dX5_layLux_19 : decode cX5_layLux 19 = .ok (.iconst 3, 1) := by decide +kernel
theorem dX5_layLux_20 : decode cX5_layLux 20 = .ok (.if_icmp .ge 150, 3) := by decide +kernel
theorem dX5_layLux_23 : decode cX5_layLux 23 = .ok (.iconst 4, 1) := by decide +kernel
theorem dX5_layLux_24 : decode cX5_layLux 24 = .ok (.aload_n 1, 1) := by decide +kernel
theorem dX5_layLux_25 : decode cX5_layLux 25 = .ok (.aload_n 1, 1) := by decide +kernel
theorem dX5_layLux_26 : decode cX5_layLux 26 = .ok (.iload_n 2, 1) := by decide +kernel
theorem dX5_layLux_27 : decode cX5_layLux 27 = .ok (.iload_n 3, 1) := by decide +kernel
theorem dX5_layLux_28 : decode cX5_layLux 28 = .ok (.invokevirtual 34, 3) := by decide +kernel
theorem dX5_layLux_31 : decode cX5_layLux 31 = .ok (.invokevirtual 46, 3) := by decide +kernel
theorem dX5_layLux_34 : decode cX5_layLux 34 = .ok (.iconst 1, 1) := by decide +kernel
theorem dX5_layLux_35 : decode cX5_layLux 35 = .ok (.isub, 1) := by decide +kernel
theorem dX5_layLux_36 : decode cX5_layLux 36 = .ok (.imul, 1) := by decide +kernel
theorem dX5_layLux_37 : decode cX5_layLux 37 = .ok (.istore 4, 2) := by decide +kernel
theorem dX5_layLux_39 : decode cX5_layLux 39 = .ok (.iload_n 2, 1) := by decide +kernel
theorem dX5_layLux_40 : decode cX5_layLux 40 = .ok (.iconst 1, 1) := by decide +kernel
theorem dX5_layLux_41 : decode cX5_layLux 41 = .ok (.if_icmp .ne 8, 3) := by decide +kernel
theorem dX5_layLux_44 : decode cX5_layLux 44 = .ok (.iload_n 3, 1) := by decide +kernel
theorem dX5_layLux_45 : decode cX5_layLux 45 = .ok (.iconst 1, 1) := by decide +kernel
theorem dX5_layLux_46 : decode cX5_layLux 46 = .ok (.if_icmp .eq 13, 3) := by decide +kernel
theorem dX5_layLux_49 : decode cX5_layLux 49 = .ok (.iload_n 2, 1) := by decide +kernel
theorem dX5_layLux_50 : decode cX5_layLux 50 = .ok (.iconst 2, 1) := by decide +kernel
theorem dX5_layLux_51 : decode cX5_layLux 51 = .ok (.if_icmp .ne 12, 3) := by decide +kernel
theorem dX5_layLux_54 : decode cX5_layLux 54 = .ok (.iload_n 3, 1) := by decide +kernel
theorem dX5_layLux_55 : decode cX5_layLux 55 = .ok (.iconst 1, 1) := by decide +kernel
theorem dX5_layLux_56 : decode cX5_layLux 56 = .ok (.if_icmp .eq 7, 3) := by decide +kernel
theorem dX5_layLux_59 : decode cX5_layLux 59 = .ok (.iconst 1, 1) := by decide +kernel
theorem dX5_layLux_60 : decode cX5_layLux 60 = .ok (.goto 4, 3) := by decide +kernel
theorem dX5_layLux_63 : decode cX5_layLux 63 = .ok (.iconst 0, 1) := by decide +kernel
theorem dX5_layLux_64 : decode cX5_layLux 64 = .ok (.istore 5, 2) := by decide +kernel
theorem dX5_layLux_66 : decode cX5_layLux 66 = .ok (.aload_n 0, 1) := by decide +kernel
theorem dX5_layLux_67 : decode cX5_layLux 67 = .ok (.iconst 2, 1) := by decide +kernel
theorem dX5_layLux_68 : decode cX5_layLux 68 = .ok (.iload_n 2, 1) := by decide +kernel
theorem dX5_layLux_69 : decode cX5_layLux 69 = .ok (.imul, 1) := by decide +kernel
theorem dX5_layLux_70 : decode cX5_layLux 70 = .ok (.iconst 2, 1) := by decide +kernel
theorem dX5_layLux_71 : decode cX5_layLux 71 = .ok (.iload_n 3, 1) := by decide +kernel
theorem dX5_layLux_72 : decode cX5_layLux 72 = .ok (.imul, 1) := by decide +kernel
theorem dX5_layLux_73 : decode cX5_layLux 73 = .ok (.invokevirtual 34, 3) := by decide +kernel
theorem dX5_layLux_76 : decode cX5_layLux 76 = .ok (.istore 6, 2) := by decide +kernel
theorem dX5_layLux_78 : decode cX5_layLux 78 = .ok (.aload_n 0, 1) := by decide +kernel
theorem dX5_layLux_79 : decode cX5_layLux 79 = .ok (.iconst 2, 1) := by decide +kernel
theorem dX5_layLux_80 : decode cX5_layLux 80 = .ok (.iload_n 2, 1) := by decide +kernel
theorem dX5_layLux_81 : decode cX5_layLux 81 = .ok (.imul, 1) := by decide +kernel
theorem dX5_layLux_82 : decode cX5_layLux 82 = .ok (.iconst 1, 1) := by decide +kernel
theorem dX5_layLux_83 : decode cX5_layLux 83 = .ok (.iadd, 1) := by decide +kernel
theorem dX5_layLux_84 : decode cX5_layLux 84 = .ok (.iconst 2, 1) := by decide +kernel
theorem dX5_layLux_85 : decode cX5_layLux 85 = .ok (.iload_n 3, 1) := by decide +kernel
theorem dX5_layLux_86 : decode cX5_layLux 86 = .ok (.imul, 1) := by decide +kernel
theorem dX5_layLux_87 : decode cX5_layLux 87 = .ok (.invokevirtual 34, 3) := by decide +kernel
theorem dX5_layLux_90 : decode cX5_layLux 90 = .ok (.istore 7, 2) := by decide +kernel
theorem dX5_layLux_92 : decode cX5_layLux 92 = .ok (.aload_n 0, 1) := by decide +kernel
theorem dX5_layLux_93 : decode cX5_layLux 93 = .ok (.iload 6, 2) := by decide +kernel
theorem dX5_layLux_95 : decode cX5_layLux 95 = .ok (.iload 5, 2) := by decide +kernel
theorem dX5_layLux_97 : decode cX5_layLux 97 = .ok (.ifCond .eq 10, 3) := by decide +kernel
theorem dX5_layLux_100 : decode cX5_layLux 100 = .ok (.iload 4, 2) := by decide +kernel
theorem dX5_layLux_102 : decode cX5_layLux 102 = .ok (.iconst 1, 1) := by decide +kernel
theorem dX5_layLux_103 : decode cX5_layLux 103 = .ok (.iadd, 1) := by decide +kernel
theorem dX5_layLux_104 : decode cX5_layLux 104 = .ok (.goto 7, 3) := by decide +kernel
theorem dX5_layLux_107 : decode cX5_layLux 107 = .ok (.iload 4, 2) := by decide +kernel
theorem dX5_layLux_109 : decode cX5_layLux 109 = .ok (.iconst 4, 1) := by decide +kernel
theorem dX5_layLux_110 : decode cX5_layLux 110 = .ok (.iadd, 1) := by decide +kernel
theorem dX5_layLux_111 : decode cX5_layLux 111 = .ok (.invokevirtual 38, 3) := by decide +kernel
theorem dX5_layLux_114 : decode cX5_layLux 114 = .ok (.pop, 1) := by decide +kernel
theorem dX5_layLux_115 : decode cX5_layLux 115 = .ok (.aload_n 0, 1) := by decide +kernel
theorem dX5_layLux_116 : decode cX5_layLux 116 = .ok (.iload 6, 2) := by decide +kernel
theorem dX5_layLux_118 : decode cX5_layLux 118 = .ok (.iconst 1, 1) := by decide +kernel
theorem dX5_layLux_119 : decode cX5_layLux 119 = .ok (.iadd, 1) := by decide +kernel
theorem dX5_layLux_120 : decode cX5_layLux 120 = .ok (.iload 5, 2) := by decide +kernel
theorem dX5_layLux_122 : decode cX5_layLux 122 = .ok (.ifCond .eq 10, 3) := by decide +kernel
theorem dX5_layLux_125 : decode cX5_layLux 125 = .ok (.iload 4, 2) := by decide +kernel
theorem dX5_layLux_127 : decode cX5_layLux 127 = .ok (.iconst 4, 1) := by decide +kernel
theorem dX5_layLux_128 : decode cX5_layLux 128 = .ok (.iadd, 1) := by decide +kernel
theorem dX5_layLux_129 : decode cX5_layLux 129 = .ok (.goto 7, 3) := by decide +kernel
theorem dX5_layLux_132 : decode cX5_layLux 132 = .ok (.iload 4, 2) := by decide +kernel
theorem dX5_layLux_134 : decode cX5_layLux 134 = .ok (.iconst 1, 1) := by decide +kernel
theorem dX5_layLux_135 : decode cX5_layLux 135 = .ok (.iadd, 1) := by decide +kernel
theorem dX5_layLux_136 : decode cX5_layLux 136 = .ok (.invokevirtual 38, 3) := by decide +kernel
theorem dX5_layLux_139 : decode cX5_layLux 139 = .ok (.pop, 1) := by decide +kernel
theorem dX5_layLux_140 : decode cX5_layLux 140 = .ok (.aload_n 0, 1) := by decide +kernel
theorem dX5_layLux_141 : decode cX5_layLux 141 = .ok (.iload 7, 2) := by decide +kernel
theorem dX5_layLux_143 : decode cX5_layLux 143 = .ok (.iload 4, 2) := by decide +kernel
theorem dX5_layLux_145 : decode cX5_layLux 145 = .ok (.iconst 2, 1) := by decide +kernel
theorem dX5_layLux_146 : decode cX5_layLux 146 = .ok (.iadd, 1) := by decide +kernel
theorem dX5_layLux_147 : decode cX5_layLux 147 = .ok (.invokevirtual 38, 3) := by decide +kernel
theorem dX5_layLux_150 : decode cX5_layLux 150 = .ok (.pop, 1) := by decide +kernel
theorem dX5_layLux_151 : decode cX5_layLux 151 = .ok (.aload_n 0, 1) := by decide +kernel
theorem dX5_layLux_152 : decode cX5_layLux 152 = .ok (.iload 7, 2) := by decide +kernel
theorem dX5_layLux_154 : decode cX5_layLux 154 = .ok (.iconst 1, 1) := by decide +kernel
theorem dX5_layLux_155 : decode cX5_layLux 155 = .ok (.iadd, 1) := by decide +kernel
theorem dX5_layLux_156 : decode cX5_layLux 156 = .ok (.iload 4, 2) := by decide +kernel
theorem dX5_layLux_158 : decode cX5_layLux 158 = .ok (.iconst 3, 1) := by decide +kernel
theorem dX5_layLux_159 : decode cX5_layLux 159 = .ok (.iadd, 1) := by decide +kernel
theorem dX5_layLux_160 : decode cX5_layLux 160 = .ok (.invokevirtual 38, 3) := by decide +kernel
theorem dX5_layLux_163 : decode cX5_layLux 163 = .ok (.pop, 1) := by decide +kernel
theorem dX5_layLux_164 : decode cX5_layLux 164 = .ok (.iinc 3 1, 3) := by decide +kernel
theorem dX5_layLux_167 : decode cX5_layLux 167 = .ok (.goto (-149), 3) := by decide +kernel
theorem dX5_layLux_170 : decode cX5_layLux 170 = .ok (.iinc 2 1, 3) := by decide +kernel
theorem dX5_layLux_173 : decode cX5_layLux 173 = .ok (.goto (-162), 3) := by decide +kernel
theorem dX5_layLux_176 : decode cX5_layLux 176 = .ok (.return_, 1) := by decide +kernel
theorem dX6_areOrthogonal_0 : decode cX6_areOrthogonal 0 = .ok (.iconst 0, 1) := by decide +kernel
theorem dX6_areOrthogonal_1 : decode cX6_areOrthogonal 1 = .ok (.istore_n 2, 1) := by decide +kernel
theorem dX6_areOrthogonal_2 : decode cX6_areOrthogonal 2 = .ok (.iload_n 2, 1) := by decide +kernel
theorem dX6_areOrthogonal_3 : decode cX6_areOrthogonal 3 = .ok (.aload_n 0, 1) := by decide +kernel
theorem dX6_areOrthogonal_4 : decode cX6_areOrthogonal 4 = .ok (.invokevirtual 9, 3) := by decide +kernel
theorem dX6_areOrthogonal_7 : decode cX6_areOrthogonal 7 = .ok (.if_icmp .ge 50, 3) := by decide +kernel
theorem dX6_areOrthogonal_10 : decode cX6_areOrthogonal 10 = .ok (.iconst 0, 1) := by decide +kernel
theorem dX6_areOrthogonal_11 : decode cX6_areOrthogonal 11 = .ok (.istore_n 3, 1) := by decide +kernel
theorem dX6_areOrthogonal_12 : decode cX6_areOrthogonal 12 = .ok (.iload_n 3, 1) := by decide +kernel
theorem dX6_areOrthogonal_13 : decode cX6_areOrthogonal 13 = .ok (.iload_n 2, 1) := by decide +kernel
theorem dX6_areOrthogonal_14 : decode cX6_areOrthogonal 14 = .ok (.if_icmp .ge 37, 3) := by decide +kernel
theorem dX6_areOrthogonal_17 : decode cX6_areOrthogonal 17 = .ok (.aload_n 0, 1) := by decide +kernel
theorem dX6_areOrthogonal_18 : decode cX6_areOrthogonal 18 = .ok (.iload_n 2, 1) := by decide +kernel
theorem dX6_areOrthogonal_19 : decode cX6_areOrthogonal 19 = .ok (.invokevirtual 15, 3) := by decide +kernel
theorem dX6_areOrthogonal_22 : decode cX6_areOrthogonal 22 = .ok (.aload_n 0, 1) := by decide +kernel
theorem dX6_areOrthogonal_23 : decode cX6_areOrthogonal 23 = .ok (.iload_n 3, 1) := by decide +kernel
theorem dX6_areOrthogonal_24 : decode cX6_areOrthogonal 24 = .ok (.invokevirtual 15, 3) := by decide +kernel
theorem dX6_areOrthogonal_27 : decode cX6_areOrthogonal 27 = .ok (.if_icmp .ne 18, 3) := by decide +kernel
theorem dX6_areOrthogonal_30 : decode cX6_areOrthogonal 30 = .ok (.aload_n 1, 1) := by decide +kernel
theorem dX6_areOrthogonal_31 : decode cX6_areOrthogonal 31 = .ok (.iload_n 2, 1) := by decide +kernel
theorem dX6_areOrthogonal_32 : decode cX6_areOrthogonal 32 = .ok (.invokevirtual 15, 3) := by decide +kernel
theorem dX6_areOrthogonal_35 : decode cX6_areOrthogonal 35 = .ok (.aload_n 1, 1) := by decide +kernel
theorem dX6_areOrthogonal_36 : decode cX6_areOrthogonal 36 = .ok (.iload_n 3, 1) := by decide +kernel
theorem dX6_areOrthogonal_37 : decode cX6_areOrthogonal 37 = .ok (.invokevirtual 15, 3) := by decide +kernel
theorem dX6_areOrthogonal_40 : decode cX6_areOrthogonal 40 = .ok (.if_icmp .ne 5, 3) := by decide +kernel
theorem dX6_areOrthogonal_43 : decode cX6_areOrthogonal 43 = .ok (.iconst 0, 1) := by decide +kernel
theorem dX6_areOrthogonal_44 : decode cX6_areOrthogonal 44 = .ok (.ireturn, 1) := by decide +kernel
theorem dX6_areOrthogonal_45 : decode cX6_areOrthogonal 45 = .ok (.iinc 3 1, 3) := by decide +kernel
theorem dX6_areOrthogonal_48 : decode cX6_areOrthogonal 48 = .ok (.goto (-36), 3) := by decide +kernel
theorem dX6_areOrthogonal_51 : decode cX6_areOrthogonal 51 = .ok (.iinc 2 1, 3) := by decide +kernel
theorem dX6_areOrthogonal_54 : decode cX6_areOrthogonal 54 = .ok (.goto (-52), 3) := by decide +kernel
theorem dX6_areOrthogonal_57 : decode cX6_areOrthogonal 57 = .ok (.iconst 1, 1) := by decide +kernel
theorem dX6_areOrthogonal_58 : decode cX6_areOrthogonal 58 = .ok (.ireturn, 1) := by decide +kernel
theorem dX6_canStack_0 : decode cX6_canStack 0 = .ok (.aload_n 0, 1) := by decide +kernel
theorem dX6_canStack_1 : decode cX6_canStack 1 = .ok (.invokevirtual 19, 3) := by decide +kernel
theorem dX6_canStack_4 : decode cX6_canStack 4 = .ok (.istore_n 2, 1) := by decide +kernel
theorem dX6_canStack_5 : decode cX6_canStack 5 = .ok (.iload_n 2, 1) := by decide +kernel
theorem dX6_canStack_6 : decode cX6_canStack 6 = .ok (.aload_n 1, 1) := by decide +kernel
theorem dX6_canStack_7 : decode cX6_canStack 7 = .ok (.invokevirtual 19, 3) := by decide +kernel
theorem dX6_canStack_10 : decode cX6_canStack 10 = .ok (.if_icmp .ne 31, 3) := by decide +kernel
theorem dX6_canStack_13 : decode cX6_canStack 13 = .ok (.aload_n 0, 1) := by decide +kernel
theorem dX6_canStack_14 : decode cX6_canStack 14 = .ok (.aload_n 1, 1) := by decide +kernel
theorem dX6_canStack_15 : decode cX6_canStack 15 = .ok (.invokestatic 22, 3) := by decide +kernel
theorem dX6_canStack_18 : decode cX6_canStack 18 = .ok (.ifCond .eq 23, 3) := by decide +kernel
theorem dX6_canStack_21 : decode cX6_canStack 21 = .ok (.aload_n 0, 1) := by decide +kernel
theorem dX6_canStack_22 : decode cX6_canStack 22 = .ok (.invokevirtual 28, 3) := by decide +kernel
theorem dX6_canStack_25 : decode cX6_canStack 25 = .ok (.iload_n 2, 1) := by decide +kernel
theorem dX6_canStack_26 : decode cX6_canStack 26 = .ok (.if_icmp .gt 15, 3) := by decide +kernel
theorem dX6_canStack_29 : decode cX6_canStack 29 = .ok (.aload_n 1, 1) := by decide +kernel
theorem dX6_canStack_30 : decode cX6_canStack 30 = .ok (.invokevirtual 28, 3) := by decide +kernel
theorem dX6_canStack_33 : decode cX6_canStack 33 = .ok (.iload_n 2, 1) := by decide +kernel
theorem dX6_canStack_34 : decode cX6_canStack 34 = .ok (.if_icmp .gt 7, 3) := by decide +kernel
theorem dX6_canStack_37 : decode cX6_canStack 37 = .ok (.iconst 1, 1) := by decide +kernel
theorem dX6_canStack_38 : decode cX6_canStack 38 = .ok (.goto 4, 3) := by decide +kernel
theorem dX6_canStack_41 : decode cX6_canStack 41 = .ok (.iconst 0, 1) := by decide +kernel
theorem dX6_canStack_42 : decode cX6_canStack 42 = .ok (.ireturn, 1) := by decide +kernel
theorem dX6_layStack_0 : decode cX6_layStack 0 = .ok (.iconst 0, 1) := by decide +kernel
theorem dX6_layStack_1 : decode cX6_layStack 1 = .ok (.istore_n 3, 1) := by decide +kernel
theorem dX6_layStack_2 : decode cX6_layStack 2 = .ok (.iload_n 3, 1) := by decide +kernel
theorem dX6_layStack_3 : decode cX6_layStack 3 = .ok (.aload_n 0, 1) := by decide +kernel
theorem dX6_layStack_4 : decode cX6_layStack 4 = .ok (.invokevirtual 9, 3) := by decide +kernel
theorem dX6_layStack_7 : decode cX6_layStack 7 = .ok (.if_icmp .ge 33, 3) := by decide +kernel
theorem dX6_layStack_10 : decode cX6_layStack 10 = .ok (.aload_n 0, 1) := by decide +kernel
theorem dX6_layStack_11 : decode cX6_layStack 11 = .ok (.iload_n 3, 1) := by decide +kernel
theorem dX6_layStack_12 : decode cX6_layStack 12 = .ok (.aload_n 1, 1) := by decide +kernel
theorem dX6_layStack_13 : decode cX6_layStack 13 = .ok (.invokevirtual 19, 3) := by decide +kernel
theorem dX6_layStack_16 : decode cX6_layStack 16 = .ok (.aload_n 1, 1) := by decide +kernel
theorem dX6_layStack_17 : decode cX6_layStack 17 = .ok (.iload_n 3, 1) := by decide +kernel
theorem dX6_layStack_18 : decode cX6_layStack 18 = .ok (.invokevirtual 15, 3) := by decide +kernel
theorem dX6_layStack_21 : decode cX6_layStack 21 = .ok (.iconst 1, 1) := by decide +kernel
theorem dX6_layStack_22 : decode cX6_layStack 22 = .ok (.isub, 1) := by decide +kernel
theorem dX6_layStack_23 : decode cX6_layStack 23 = .ok (.imul, 1) := by decide +kernel
theorem dX6_layStack_24 : decode cX6_layStack 24 = .ok (.aload_n 2, 1) := by decide +kernel
theorem dX6_layStack_25 : decode cX6_layStack 25 = .ok (.iload_n 3, 1) := by decide +kernel
theorem dX6_layStack_26 : decode cX6_layStack 26 = .ok (.invokevirtual 15, 3) := by decide +kernel
theorem dX6_layStack_29 : decode cX6_layStack 29 = .ok (.iadd, 1) := by decide +kernel
theorem dX6_layStack_30 : decode cX6_layStack 30 = .ok (.invokevirtual 31, 3) := by decide +kernel
theorem dX6_layStack_33 : decode cX6_layStack 33 = .ok (.pop, 1) := by decide +kernel
theorem dX6_layStack_34 : decode cX6_layStack 34 = .ok (.iinc 3 1, 3) := by decide +kernel
theorem dX6_layStack_37 : decode cX6_layStack 37 = .ok (.goto (-35), 3) := by decide +kernel
theorem dX6_layStack_40 : decode cX6_layStack 40 = .ok (.return_, 1) := by decide +kernel
theorem dX6_canMultiply_0 : decode cX6_canMultiply 0 = .ok (.aload_n 0, 1) := by decide +kernel
theorem dX6_canMultiply_1 : decode cX6_canMultiply 1 = .ok (.invokevirtual 19, 3) := by decide +kernel
theorem dX6_canMultiply_4 : decode cX6_canMultiply 4 = .ok (.aload_n 1, 1) := by decide +kernel
theorem dX6_canMultiply_5 : decode cX6_canMultiply 5 = .ok (.invokevirtual 19, 3) := by decide +kernel
theorem dX6_canMultiply_8 : decode cX6_canMultiply 8 = .ok (.imul, 1) := by decide +kernel
theorem dX6_canMultiply_9 : decode cX6_canMultiply 9 = .ok (.bipush 9, 2) := by decide +kernel
theorem dX6_canMultiply_11 : decode cX6_canMultiply 11 = .ok (.if_icmp .gt 33, 3) := by decide +kernel
theorem dX6_canMultiply_14 : decode cX6_canMultiply 14 = .ok (.aload_n 0, 1) := by decide +kernel
theorem dX6_canMultiply_15 : decode cX6_canMultiply 15 = .ok (.aload_n 1, 1) := by decide +kernel
theorem dX6_canMultiply_16 : decode cX6_canMultiply 16 = .ok (.invokestatic 22, 3) := by decide +kernel
theorem dX6_canMultiply_19 : decode cX6_canMultiply 19 = .ok (.ifCond .eq 25, 3) := by decide +kernel
theorem dX6_canMultiply_22 : decode cX6_canMultiply 22 = .ok (.aload_n 1, 1) := by decide +kernel
theorem dX6_canMultiply_23 : decode cX6_canMultiply 23 = .ok (.aload_n 0, 1) := by decide +kernel
theorem dX6_canMultiply_24 : decode cX6_canMultiply 24 = .ok (.invokevirtual 28, 3) := by decide +kernel
theorem dX6_canMultiply_27 : decode cX6_canMultiply 27 = .ok (.aload_n 1, 1) := by decide +kernel
theorem dX6_canMultiply_28 : decode cX6_canMultiply 28 = .ok (.invokevirtual 28, 3) := by decide +kernel
theorem dX6_canMultiply_31 : decode cX6_canMultiply 31 = .ok (.invokestatic 35, 3) := by decide +kernel
theorem dX6_canMultiply_34 : decode cX6_canMultiply 34 = .ok (.sipush 999, 3) := by decide +kernel
theorem dX6_canMultiply_37 : decode cX6_canMultiply 37 = .ok (.if_icmp .gt 7, 3) := by decide +kernel
theorem dX6_canMultiply_40 : decode cX6_canMultiply 40 = .ok (.iconst 1, 1) := by decide +kernel
theorem dX6_canMultiply_41 : decode cX6_canMultiply 41 = .ok (.goto 4, 3) := by decide +kernel
theorem dX6_canMultiply_44 : decode cX6_canMultiply 44 = .ok (.iconst 0, 1) := by decide +kernel
theorem dX6_canMultiply_45 : decode cX6_canMultiply 45 = .ok (.ireturn, 1) := by decide +kernel
theorem dX6_layProduct_0 : decode cX6_layProduct 0 = .ok (.aload_n 2, 1) := by decide +kernel
theorem dX6_layProduct_1 : decode cX6_layProduct 1 = .ok (.invokevirtual 19, 3) := by decide +kernel
theorem dX6_layProduct_4 : decode cX6_layProduct 4 = .ok (.istore_n 3, 1) := by decide +kernel
theorem dX6_layProduct_5 : decode cX6_layProduct 5 = .ok (.iconst 0, 1) := by decide +kernel
theorem dX6_layProduct_6 : decode cX6_layProduct 6 = .ok (.istore 4, 2) := by decide +kernel
theorem dX6_layProduct_8 : decode cX6_layProduct 8 = .ok (.iload 4, 2) := by decide +kernel
theorem dX6_layProduct_10 : decode cX6_layProduct 10 = .ok (.aload_n 0, 1) := by decide +kernel
theorem dX6_layProduct_11 : decode cX6_layProduct 11 = .ok (.invokevirtual 9, 3) := by decide +kernel
theorem dX6_layProduct_14 : decode cX6_layProduct 14 = .ok (.if_icmp .ge 90, 3) := by decide +kernel
theorem dX6_layProduct_17 : decode cX6_layProduct 17 = .ok (.aload_n 0, 1) := by decide +kernel
theorem dX6_layProduct_18 : decode cX6_layProduct 18 = .ok (.invokevirtual 19, 3) := by decide +kernel
theorem dX6_layProduct_21 : decode cX6_layProduct 21 = .ok (.iload 4, 2) := by decide +kernel
theorem dX6_layProduct_23 : decode cX6_layProduct 23 = .ok (.invokestatic 39, 3) := by decide +kernel
theorem dX6_layProduct_26 : decode cX6_layProduct 26 = .ok (.istore 5, 2) := by decide +kernel
theorem dX6_layProduct_28 : decode cX6_layProduct 28 = .ok (.aload_n 0, 1) := by decide +kernel
theorem dX6_layProduct_29 : decode cX6_layProduct 29 = .ok (.invokevirtual 19, 3) := by decide +kernel
theorem dX6_layProduct_32 : decode cX6_layProduct 32 = .ok (.iload 4, 2) := by decide +kernel
theorem dX6_layProduct_34 : decode cX6_layProduct 34 = .ok (.invokestatic 44, 3) := by decide +kernel
theorem dX6_layProduct_37 : decode cX6_layProduct 37 = .ok (.istore 6, 2) := by decide +kernel
theorem dX6_layProduct_39 : decode cX6_layProduct 39 = .ok (.aload_n 1, 1) := by decide +kernel
theorem dX6_layProduct_40 : decode cX6_layProduct 40 = .ok (.aload_n 1, 1) := by decide +kernel
theorem dX6_layProduct_41 : decode cX6_layProduct 41 = .ok (.iload_n 3, 1) := by decide +kernel
theorem dX6_layProduct_42 : decode cX6_layProduct 42 = .ok (.iload 5, 2) := by decide +kernel
theorem dX6_layProduct_44 : decode cX6_layProduct 44 = .ok (.invokestatic 39, 3) := by decide +kernel
theorem dX6_layProduct_47 : decode cX6_layProduct 47 = .ok (.iload_n 3, 1) := by decide +kernel
theorem dX6_layProduct_48 : decode cX6_layProduct 48 = .ok (.iload 6, 2) := by decide +kernel
theorem dX6_layProduct_50 : decode cX6_layProduct 50 = .ok (.invokestatic 39, 3) := by decide +kernel
theorem dX6_layProduct_53 : decode cX6_layProduct 53 = .ok (.invokevirtual 47, 3) := by decide +kernel
theorem dX6_layProduct_56 : decode cX6_layProduct 56 = .ok (.invokevirtual 15, 3) := by decide +kernel
theorem dX6_layProduct_59 : decode cX6_layProduct 59 = .ok (.istore 7, 2) := by decide +kernel
theorem dX6_layProduct_61 : decode cX6_layProduct 61 = .ok (.aload_n 2, 1) := by decide +kernel
theorem dX6_layProduct_62 : decode cX6_layProduct 62 = .ok (.aload_n 2, 1) := by decide +kernel
theorem dX6_layProduct_63 : decode cX6_layProduct 63 = .ok (.iload 5, 2) := by decide +kernel
theorem dX6_layProduct_65 : decode cX6_layProduct 65 = .ok (.iload_n 3, 1) := by decide +kernel
theorem dX6_layProduct_66 : decode cX6_layProduct 66 = .ok (.invokestatic 50, 3) := by decide +kernel
theorem dX6_layProduct_69 : decode cX6_layProduct 69 = .ok (.iload 6, 2) := by decide +kernel
theorem dX6_layProduct_71 : decode cX6_layProduct 71 = .ok (.iload_n 3, 1) := by decide +kernel
theorem dX6_layProduct_72 : decode cX6_layProduct 72 = .ok (.invokestatic 50, 3) := by decide +kernel
theorem dX6_layProduct_75 : decode cX6_layProduct 75 = .ok (.invokevirtual 47, 3) := by decide +kernel
theorem dX6_layProduct_78 : decode cX6_layProduct 78 = .ok (.invokevirtual 15, 3) := by decide +kernel
theorem dX6_layProduct_81 : decode cX6_layProduct 81 = .ok (.istore 8, 2) := by decide +kernel
theorem dX6_layProduct_83 : decode cX6_layProduct 83 = .ok (.aload_n 0, 1) := by decide +kernel
theorem dX6_layProduct_84 : decode cX6_layProduct 84 = .ok (.iload 4, 2) := by decide +kernel
theorem dX6_layProduct_86 : decode cX6_layProduct 86 = .ok (.aload_n 2, 1) := by decide +kernel
theorem dX6_layProduct_87 : decode cX6_layProduct 87 = .ok (.iload 7, 2) := by decide +kernel
theorem dX6_layProduct_89 : decode cX6_layProduct 89 = .ok (.iload 8, 2) := by decide +kernel
theorem dX6_layProduct_91 : decode cX6_layProduct 91 = .ok (.invokestatic 35, 3) := by decide +kernel
theorem dX6_layProduct_94 : decode cX6_layProduct 94 = .ok (.invokevirtual 31, 3) := by decide +kernel
theorem dX6_layProduct_97 : decode cX6_layProduct 97 = .ok (.pop, 1) := by decide +kernel
theorem dX6_layProduct_98 : decode cX6_layProduct 98 = .ok (.iinc 4 1, 3) := by decide +kernel
theorem dX6_layProduct_101 : decode cX6_layProduct 101 = .ok (.goto (-93), 3) := by decide +kernel
theorem dX6_layProduct_104 : decode cX6_layProduct 104 = .ok (.return_, 1) := by decide +kernel
theorem dX6_multiplied_0 : decode cX6_multiplied 0 = .ok (.aload_n 0, 1) := by decide +kernel
theorem dX6_multiplied_1 : decode cX6_multiplied 1 = .ok (.invokevirtual 9, 3) := by decide +kernel
theorem dX6_multiplied_4 : decode cX6_multiplied 4 = .ok (.iload_n 1, 1) := by decide +kernel
theorem dX6_multiplied_5 : decode cX6_multiplied 5 = .ok (.iconst 1, 1) := by decide +kernel
theorem dX6_multiplied_6 : decode cX6_multiplied 6 = .ok (.isub, 1) := by decide +kernel
theorem dX6_multiplied_7 : decode cX6_multiplied 7 = .ok (.imul, 1) := by decide +kernel
theorem dX6_multiplied_8 : decode cX6_multiplied 8 = .ok (.iload_n 2, 1) := by decide +kernel
theorem dX6_multiplied_9 : decode cX6_multiplied 9 = .ok (.iadd, 1) := by decide +kernel
theorem dX6_multiplied_10 : decode cX6_multiplied 10 = .ok (.ireturn, 1) := by decide +kernel
theorem dX6_areBothFull_0 : decode cX6_areBothFull 0 = .ok (.aload_n 0, 1) := by decide +kernel
theorem dX6_areBothFull_1 : decode cX6_areBothFull 1 = .ok (.iconst 0, 1) := by decide +kernel
theorem dX6_areBothFull_2 : decode cX6_areBothFull 2 = .ok (.invokevirtual 53, 3) := by decide +kernel
theorem dX6_areBothFull_5 : decode cX6_areBothFull 5 = .ok (.ifCond .ne 15, 3) := by decide +kernel
theorem dX6_areBothFull_8 : decode cX6_areBothFull 8 = .ok (.aload_n 1, 1) := by decide +kernel
theorem dX6_areBothFull_9 : decode cX6_areBothFull 9 = .ok (.iconst 0, 1) := by decide +kernel
theorem dX6_areBothFull_10 : decode cX6_areBothFull 10 = .ok (.invokevirtual 53, 3) := by decide +kernel
theorem dX6_areBothFull_13 : decode cX6_areBothFull 13 = .ok (.ifCond .ne 7, 3) := by decide +kernel
theorem dX6_areBothFull_16 : decode cX6_areBothFull 16 = .ok (.iconst 1, 1) := by decide +kernel
theorem dX6_areBothFull_17 : decode cX6_areBothFull 17 = .ok (.goto 4, 3) := by decide +kernel
theorem dX6_areBothFull_20 : decode cX6_areBothFull 20 = .ok (.iconst 0, 1) := by decide +kernel
theorem dX6_areBothFull_21 : decode cX6_areBothFull 21 = .ok (.ireturn, 1) := by decide +kernel
theorem dX7_of_0 : decode cX7_of 0 = .ok (.iload_n 0, 1) := by decide +kernel
theorem dX7_of_1 : decode cX7_of 1 = .ok (.iload_n 1, 1) := by decide +kernel
theorem dX7_of_2 : decode cX7_of 2 = .ok (.imul, 1) := by decide +kernel
theorem dX7_of_3 : decode cX7_of 3 = .ok (.iload_n 2, 1) := by decide +kernel
theorem dX7_of_4 : decode cX7_of 4 = .ok (.iadd, 1) := by decide +kernel
theorem dX7_of_5 : decode cX7_of 5 = .ok (.ireturn, 1) := by decide +kernel
theorem dX7_rowOf_0 : decode cX7_rowOf 0 = .ok (.iload_n 0, 1) := by decide +kernel
theorem dX7_rowOf_1 : decode cX7_rowOf 1 = .ok (.iconst 1, 1) := by decide +kernel
theorem dX7_rowOf_2 : decode cX7_rowOf 2 = .ok (.if_icmp .ge 7, 3) := by decide +kernel
theorem dX7_rowOf_5 : decode cX7_rowOf 5 = .ok (.iconst 0, 1) := by decide +kernel
theorem dX7_rowOf_6 : decode cX7_rowOf 6 = .ok (.goto 6, 3) := by decide +kernel
theorem dX7_rowOf_9 : decode cX7_rowOf 9 = .ok (.iload_n 1, 1) := by decide +kernel
theorem dX7_rowOf_10 : decode cX7_rowOf 10 = .ok (.iload_n 0, 1) := by decide +kernel
theorem dX7_rowOf_11 : decode cX7_rowOf 11 = .ok (.idiv, 1) := by decide +kernel
theorem dX7_rowOf_12 : decode cX7_rowOf 12 = .ok (.ireturn, 1) := by decide +kernel
theorem dX7_columnOf_0 : decode cX7_columnOf 0 = .ok (.iload_n 0, 1) := by decide +kernel
theorem dX7_columnOf_1 : decode cX7_columnOf 1 = .ok (.iconst 1, 1) := by decide +kernel
theorem dX7_columnOf_2 : decode cX7_columnOf 2 = .ok (.if_icmp .ge 7, 3) := by decide +kernel
theorem dX7_columnOf_5 : decode cX7_columnOf 5 = .ok (.iconst 0, 1) := by decide +kernel
theorem dX7_columnOf_6 : decode cX7_columnOf 6 = .ok (.goto 6, 3) := by decide +kernel
theorem dX7_columnOf_9 : decode cX7_columnOf 9 = .ok (.iload_n 1, 1) := by decide +kernel
theorem dX7_columnOf_10 : decode cX7_columnOf 10 = .ok (.iload_n 0, 1) := by decide +kernel
theorem dX7_columnOf_11 : decode cX7_columnOf 11 = .ok (.irem, 1) := by decide +kernel
theorem dX7_columnOf_12 : decode cX7_columnOf 12 = .ok (.ireturn, 1) := by decide +kernel
theorem dX7_wrap_0 : decode cX7_wrap 0 = .ok (.iload_n 1, 1) := by decide +kernel
theorem dX7_wrap_1 : decode cX7_wrap 1 = .ok (.iconst 1, 1) := by decide +kernel
theorem dX7_wrap_2 : decode cX7_wrap 2 = .ok (.if_icmp .ge 7, 3) := by decide +kernel
theorem dX7_wrap_5 : decode cX7_wrap 5 = .ok (.iconst 0, 1) := by decide +kernel
theorem dX7_wrap_6 : decode cX7_wrap 6 = .ok (.goto 8, 3) := by decide +kernel
theorem dX7_wrap_9 : decode cX7_wrap 9 = .ok (.iload_n 0, 1) := by decide +kernel
theorem dX7_wrap_10 : decode cX7_wrap 10 = .ok (.iload_n 1, 1) := by decide +kernel
theorem dX7_wrap_11 : decode cX7_wrap 11 = .ok (.invokestatic 9, 3) := by decide +kernel
theorem dX7_wrap_14 : decode cX7_wrap 14 = .ok (.ireturn, 1) := by decide +kernel
theorem dX7_onLine_0 : decode cX7_onLine 0 = .ok (.iload_n 0, 1) := by decide +kernel
theorem dX7_onLine_1 : decode cX7_onLine 1 = .ok (.iconst 1, 1) := by decide +kernel
theorem dX7_onLine_2 : decode cX7_onLine 2 = .ok (.if_icmp .ge 5, 3) := by decide +kernel
theorem dX7_onLine_5 : decode cX7_onLine 5 = .ok (.iconst 0, 1) := by decide +kernel
theorem dX7_onLine_6 : decode cX7_onLine 6 = .ok (.ireturn, 1) := by decide +kernel
theorem dX7_onLine_7 : decode cX7_onLine 7 = .ok (.iload_n 1, 1) := by decide +kernel
theorem dX7_onLine_8 : decode cX7_onLine 8 = .ok (.tableswitch 50 0 2 #[28, 34, 40], 28) := by decide +kernel
theorem dX7_onLine_36 : decode cX7_onLine 36 = .ok (.iload_n 0, 1) := by decide +kernel
theorem dX7_onLine_37 : decode cX7_onLine 37 = .ok (.iload_n 2, 1) := by decide +kernel
theorem dX7_onLine_38 : decode cX7_onLine 38 = .ok (.imul, 1) := by decide +kernel
theorem dX7_onLine_39 : decode cX7_onLine 39 = .ok (.iload_n 3, 1) := by decide +kernel
theorem dX7_onLine_40 : decode cX7_onLine 40 = .ok (.iadd, 1) := by decide +kernel
theorem dX7_onLine_41 : decode cX7_onLine 41 = .ok (.ireturn, 1) := by decide +kernel
theorem dX7_onLine_42 : decode cX7_onLine 42 = .ok (.iload_n 0, 1) := by decide +kernel
theorem dX7_onLine_43 : decode cX7_onLine 43 = .ok (.iload_n 3, 1) := by decide +kernel
theorem dX7_onLine_44 : decode cX7_onLine 44 = .ok (.imul, 1) := by decide +kernel
theorem dX7_onLine_45 : decode cX7_onLine 45 = .ok (.iload_n 2, 1) := by decide +kernel
theorem dX7_onLine_46 : decode cX7_onLine 46 = .ok (.iadd, 1) := by decide +kernel
theorem dX7_onLine_47 : decode cX7_onLine 47 = .ok (.ireturn, 1) := by decide +kernel
theorem dX7_onLine_48 : decode cX7_onLine 48 = .ok (.iload_n 0, 1) := by decide +kernel
theorem dX7_onLine_49 : decode cX7_onLine 49 = .ok (.iload_n 3, 1) := by decide +kernel
theorem dX7_onLine_50 : decode cX7_onLine 50 = .ok (.imul, 1) := by decide +kernel
theorem dX7_onLine_51 : decode cX7_onLine 51 = .ok (.iload_n 2, 1) := by decide +kernel
theorem dX7_onLine_52 : decode cX7_onLine 52 = .ok (.iload_n 3, 1) := by decide +kernel
theorem dX7_onLine_53 : decode cX7_onLine 53 = .ok (.iadd, 1) := by decide +kernel
theorem dX7_onLine_54 : decode cX7_onLine 54 = .ok (.iload_n 0, 1) := by decide +kernel
theorem dX7_onLine_55 : decode cX7_onLine 55 = .ok (.irem, 1) := by decide +kernel
theorem dX7_onLine_56 : decode cX7_onLine 56 = .ok (.iadd, 1) := by decide +kernel
theorem dX7_onLine_57 : decode cX7_onLine 57 = .ok (.ireturn, 1) := by decide +kernel
theorem dX7_onLine_58 : decode cX7_onLine 58 = .ok (.iload_n 0, 1) := by decide +kernel
theorem dX7_onLine_59 : decode cX7_onLine 59 = .ok (.iload_n 3, 1) := by decide +kernel
theorem dX7_onLine_60 : decode cX7_onLine 60 = .ok (.imul, 1) := by decide +kernel
theorem dX7_onLine_61 : decode cX7_onLine 61 = .ok (.iload_n 2, 1) := by decide +kernel
theorem dX7_onLine_62 : decode cX7_onLine 62 = .ok (.iload_n 3, 1) := by decide +kernel
theorem dX7_onLine_63 : decode cX7_onLine 63 = .ok (.isub, 1) := by decide +kernel
theorem dX7_onLine_64 : decode cX7_onLine 64 = .ok (.iload_n 0, 1) := by decide +kernel
theorem dX7_onLine_65 : decode cX7_onLine 65 = .ok (.iadd, 1) := by decide +kernel
theorem dX7_onLine_66 : decode cX7_onLine 66 = .ok (.iload_n 0, 1) := by decide +kernel
theorem dX7_onLine_67 : decode cX7_onLine 67 = .ok (.irem, 1) := by decide +kernel
theorem dX7_onLine_68 : decode cX7_onLine 68 = .ok (.iadd, 1) := by decide +kernel
theorem dX7_onLine_69 : decode cX7_onLine 69 = .ok (.ireturn, 1) := by decide +kernel
theorem dX7_aheadOfTurn_0 : decode cX7_aheadOfTurn 0 = .ok (.iload_n 0, 1) := by decide +kernel
theorem dX7_aheadOfTurn_1 : decode cX7_aheadOfTurn 1 = .ok (.iload_n 2, 1) := by decide +kernel
theorem dX7_aheadOfTurn_2 : decode cX7_aheadOfTurn 2 = .ok (.invokestatic 15, 3) := by decide +kernel
theorem dX7_aheadOfTurn_5 : decode cX7_aheadOfTurn 5 = .ok (.istore_n 3, 1) := by decide +kernel
theorem dX7_aheadOfTurn_6 : decode cX7_aheadOfTurn 6 = .ok (.iload_n 0, 1) := by decide +kernel
theorem dX7_aheadOfTurn_7 : decode cX7_aheadOfTurn 7 = .ok (.iload_n 2, 1) := by decide +kernel
theorem dX7_aheadOfTurn_8 : decode cX7_aheadOfTurn 8 = .ok (.invokestatic 20, 3) := by decide +kernel
theorem dX7_aheadOfTurn_11 : decode cX7_aheadOfTurn 11 = .ok (.istore 4, 2) := by decide +kernel
theorem dX7_aheadOfTurn_13 : decode cX7_aheadOfTurn 13 = .ok (.iload_n 0, 1) := by decide +kernel
theorem dX7_aheadOfTurn_14 : decode cX7_aheadOfTurn 14 = .ok (.iconst 1, 1) := by decide +kernel
theorem dX7_aheadOfTurn_15 : decode cX7_aheadOfTurn 15 = .ok (.isub, 1) := by decide +kernel
theorem dX7_aheadOfTurn_16 : decode cX7_aheadOfTurn 16 = .ok (.istore 5, 2) := by decide +kernel
theorem dX7_aheadOfTurn_18 : decode cX7_aheadOfTurn 18 = .ok (.iload_n 1, 1) := by decide +kernel
theorem dX7_aheadOfTurn_19 : decode cX7_aheadOfTurn 19 = .ok (.tableswitch 61 1 3 #[25, 36, 50], 25) := by decide +kernel
theorem dX7_aheadOfTurn_44 : decode cX7_aheadOfTurn 44 = .ok (.iload_n 0, 1) := by decide +kernel
theorem dX7_aheadOfTurn_45 : decode cX7_aheadOfTurn 45 = .ok (.iload 5, 2) := by decide +kernel
theorem dX7_aheadOfTurn_47 : decode cX7_aheadOfTurn 47 = .ok (.iload 4, 2) := by decide +kernel
theorem dX7_aheadOfTurn_49 : decode cX7_aheadOfTurn 49 = .ok (.isub, 1) := by decide +kernel
theorem dX7_aheadOfTurn_50 : decode cX7_aheadOfTurn 50 = .ok (.iload_n 3, 1) := by decide +kernel
theorem dX7_aheadOfTurn_51 : decode cX7_aheadOfTurn 51 = .ok (.invokestatic 23, 3) := by decide +kernel
theorem dX7_aheadOfTurn_54 : decode cX7_aheadOfTurn 54 = .ok (.ireturn, 1) := by decide +kernel
theorem dX7_aheadOfTurn_55 : decode cX7_aheadOfTurn 55 = .ok (.iload_n 0, 1) := by decide +kernel
theorem dX7_aheadOfTurn_56 : decode cX7_aheadOfTurn 56 = .ok (.iload 5, 2) := by decide +kernel
theorem dX7_aheadOfTurn_58 : decode cX7_aheadOfTurn 58 = .ok (.iload_n 3, 1) := by decide +kernel
theorem dX7_aheadOfTurn_59 : decode cX7_aheadOfTurn 59 = .ok (.isub, 1) := by decide +kernel
theorem dX7_aheadOfTurn_60 : decode cX7_aheadOfTurn 60 = .ok (.iload 5, 2) := by decide +kernel
theorem dX7_aheadOfTurn_62 : decode cX7_aheadOfTurn 62 = .ok (.iload 4, 2) := by decide +kernel
theorem dX7_aheadOfTurn_64 : decode cX7_aheadOfTurn 64 = .ok (.isub, 1) := by decide +kernel
theorem dX7_aheadOfTurn_65 : decode cX7_aheadOfTurn 65 = .ok (.invokestatic 23, 3) := by decide +kernel
theorem dX7_aheadOfTurn_68 : decode cX7_aheadOfTurn 68 = .ok (.ireturn, 1) := by decide +kernel
theorem dX7_aheadOfTurn_69 : decode cX7_aheadOfTurn 69 = .ok (.iload_n 0, 1) := by decide +kernel
theorem dX7_aheadOfTurn_70 : decode cX7_aheadOfTurn 70 = .ok (.iload 4, 2) := by decide +kernel
theorem dX7_aheadOfTurn_72 : decode cX7_aheadOfTurn 72 = .ok (.iload 5, 2) := by decide +kernel
theorem dX7_aheadOfTurn_74 : decode cX7_aheadOfTurn 74 = .ok (.iload_n 3, 1) := by decide +kernel
theorem dX7_aheadOfTurn_75 : decode cX7_aheadOfTurn 75 = .ok (.isub, 1) := by decide +kernel
theorem dX7_aheadOfTurn_76 : decode cX7_aheadOfTurn 76 = .ok (.invokestatic 23, 3) := by decide +kernel
theorem dX7_aheadOfTurn_79 : decode cX7_aheadOfTurn 79 = .ok (.ireturn, 1) := by decide +kernel
theorem dX7_aheadOfTurn_80 : decode cX7_aheadOfTurn 80 = .ok (.iload_n 2, 1) := by decide +kernel
theorem dX7_aheadOfTurn_81 : decode cX7_aheadOfTurn 81 = .ok (.ireturn, 1) := by decide +kernel
theorem dX7_aheadOfFlip_0 : decode cX7_aheadOfFlip 0 = .ok (.iload_n 1, 1) := by decide +kernel
theorem dX7_aheadOfFlip_1 : decode cX7_aheadOfFlip 1 = .ok (.ifCond .ne 7, 3) := by decide +kernel
theorem dX7_aheadOfFlip_4 : decode cX7_aheadOfFlip 4 = .ok (.iload_n 2, 1) := by decide +kernel
theorem dX7_aheadOfFlip_5 : decode cX7_aheadOfFlip 5 = .ok (.goto 21, 3) := by decide +kernel
theorem dX7_aheadOfFlip_8 : decode cX7_aheadOfFlip 8 = .ok (.iload_n 0, 1) := by decide +kernel
theorem dX7_aheadOfFlip_9 : decode cX7_aheadOfFlip 9 = .ok (.iload_n 0, 1) := by decide +kernel
theorem dX7_aheadOfFlip_10 : decode cX7_aheadOfFlip 10 = .ok (.iload_n 2, 1) := by decide +kernel
theorem dX7_aheadOfFlip_11 : decode cX7_aheadOfFlip 11 = .ok (.invokestatic 15, 3) := by decide +kernel
theorem dX7_aheadOfFlip_14 : decode cX7_aheadOfFlip 14 = .ok (.iload_n 0, 1) := by decide +kernel
theorem dX7_aheadOfFlip_15 : decode cX7_aheadOfFlip 15 = .ok (.iconst 1, 1) := by decide +kernel
theorem dX7_aheadOfFlip_16 : decode cX7_aheadOfFlip 16 = .ok (.isub, 1) := by decide +kernel
theorem dX7_aheadOfFlip_17 : decode cX7_aheadOfFlip 17 = .ok (.iload_n 0, 1) := by decide +kernel
theorem dX7_aheadOfFlip_18 : decode cX7_aheadOfFlip 18 = .ok (.iload_n 2, 1) := by decide +kernel
theorem dX7_aheadOfFlip_19 : decode cX7_aheadOfFlip 19 = .ok (.invokestatic 20, 3) := by decide +kernel
theorem dX7_aheadOfFlip_22 : decode cX7_aheadOfFlip 22 = .ok (.isub, 1) := by decide +kernel
theorem dX7_aheadOfFlip_23 : decode cX7_aheadOfFlip 23 = .ok (.invokestatic 23, 3) := by decide +kernel
theorem dX7_aheadOfFlip_26 : decode cX7_aheadOfFlip 26 = .ok (.ireturn, 1) := by decide +kernel
theorem dX7_aheadOfShift_0 : decode cX7_aheadOfShift 0 = .ok (.iload_n 0, 1) := by decide +kernel
theorem dX7_aheadOfShift_1 : decode cX7_aheadOfShift 1 = .ok (.iload_n 0, 1) := by decide +kernel
theorem dX7_aheadOfShift_2 : decode cX7_aheadOfShift 2 = .ok (.iload_n 3, 1) := by decide +kernel
theorem dX7_aheadOfShift_3 : decode cX7_aheadOfShift 3 = .ok (.invokestatic 15, 3) := by decide +kernel
theorem dX7_aheadOfShift_6 : decode cX7_aheadOfShift 6 = .ok (.iload_n 1, 1) := by decide +kernel
theorem dX7_aheadOfShift_7 : decode cX7_aheadOfShift 7 = .ok (.isub, 1) := by decide +kernel
theorem dX7_aheadOfShift_8 : decode cX7_aheadOfShift 8 = .ok (.iload_n 0, 1) := by decide +kernel
theorem dX7_aheadOfShift_9 : decode cX7_aheadOfShift 9 = .ok (.invokestatic 27, 3) := by decide +kernel
theorem dX7_aheadOfShift_12 : decode cX7_aheadOfShift 12 = .ok (.iload_n 0, 1) := by decide +kernel
theorem dX7_aheadOfShift_13 : decode cX7_aheadOfShift 13 = .ok (.iload_n 3, 1) := by decide +kernel
theorem dX7_aheadOfShift_14 : decode cX7_aheadOfShift 14 = .ok (.invokestatic 20, 3) := by decide +kernel
theorem dX7_aheadOfShift_17 : decode cX7_aheadOfShift 17 = .ok (.iload_n 2, 1) := by decide +kernel
theorem dX7_aheadOfShift_18 : decode cX7_aheadOfShift 18 = .ok (.isub, 1) := by decide +kernel
theorem dX7_aheadOfShift_19 : decode cX7_aheadOfShift 19 = .ok (.iload_n 0, 1) := by decide +kernel
theorem dX7_aheadOfShift_20 : decode cX7_aheadOfShift 20 = .ok (.invokestatic 27, 3) := by decide +kernel
theorem dX7_aheadOfShift_23 : decode cX7_aheadOfShift 23 = .ok (.invokestatic 23, 3) := by decide +kernel
theorem dX7_aheadOfShift_26 : decode cX7_aheadOfShift 26 = .ok (.ireturn, 1) := by decide +kernel
theorem dX7_aheadOfPairs_0 : decode cX7_aheadOfPairs 0 = .ok (.iload_n 0, 1) := by decide +kernel
theorem dX7_aheadOfPairs_1 : decode cX7_aheadOfPairs 1 = .ok (.iload_n 0, 1) := by decide +kernel
theorem dX7_aheadOfPairs_2 : decode cX7_aheadOfPairs 2 = .ok (.iload_n 1, 1) := by decide +kernel
theorem dX7_aheadOfPairs_3 : decode cX7_aheadOfPairs 3 = .ok (.iload_n 0, 1) := by decide +kernel
theorem dX7_aheadOfPairs_4 : decode cX7_aheadOfPairs 4 = .ok (.iload_n 2, 1) := by decide +kernel
theorem dX7_aheadOfPairs_5 : decode cX7_aheadOfPairs 5 = .ok (.invokestatic 15, 3) := by decide +kernel
theorem dX7_aheadOfPairs_8 : decode cX7_aheadOfPairs 8 = .ok (.invokestatic 30, 3) := by decide +kernel
theorem dX7_aheadOfPairs_11 : decode cX7_aheadOfPairs 11 = .ok (.iload_n 0, 1) := by decide +kernel
theorem dX7_aheadOfPairs_12 : decode cX7_aheadOfPairs 12 = .ok (.iload_n 1, 1) := by decide +kernel
theorem dX7_aheadOfPairs_13 : decode cX7_aheadOfPairs 13 = .ok (.iload_n 0, 1) := by decide +kernel
theorem dX7_aheadOfPairs_14 : decode cX7_aheadOfPairs 14 = .ok (.iload_n 2, 1) := by decide +kernel
theorem dX7_aheadOfPairs_15 : decode cX7_aheadOfPairs 15 = .ok (.invokestatic 20, 3) := by decide +kernel
theorem dX7_aheadOfPairs_18 : decode cX7_aheadOfPairs 18 = .ok (.invokestatic 30, 3) := by decide +kernel
theorem dX7_aheadOfPairs_21 : decode cX7_aheadOfPairs 21 = .ok (.invokestatic 23, 3) := by decide +kernel
theorem dX7_aheadOfPairs_24 : decode cX7_aheadOfPairs 24 = .ok (.ireturn, 1) := by decide +kernel
theorem dX7_swapped_0 : decode cX7_swapped 0 = .ok (.iload_n 0, 1) := by decide +kernel
theorem dX7_swapped_1 : decode cX7_swapped 1 = .ok (.iconst 1, 1) := by decide +kernel
theorem dX7_swapped_2 : decode cX7_swapped 2 = .ok (.isub, 1) := by decide +kernel
theorem dX7_swapped_3 : decode cX7_swapped 3 = .ok (.istore_n 3, 1) := by decide +kernel
theorem dX7_swapped_4 : decode cX7_swapped 4 = .ok (.iload_n 2, 1) := by decide +kernel
theorem dX7_swapped_5 : decode cX7_swapped 5 = .ok (.iload_n 1, 1) := by decide +kernel
theorem dX7_swapped_6 : decode cX7_swapped 6 = .ok (.if_icmp .eq 10, 3) := by decide +kernel
theorem dX7_swapped_9 : decode cX7_swapped 9 = .ok (.iload_n 2, 1) := by decide +kernel
theorem dX7_swapped_10 : decode cX7_swapped 10 = .ok (.iload_n 3, 1) := by decide +kernel
theorem dX7_swapped_11 : decode cX7_swapped 11 = .ok (.iload_n 1, 1) := by decide +kernel
theorem dX7_swapped_12 : decode cX7_swapped 12 = .ok (.isub, 1) := by decide +kernel
theorem dX7_swapped_13 : decode cX7_swapped 13 = .ok (.if_icmp .ne 9, 3) := by decide +kernel
theorem dX7_swapped_16 : decode cX7_swapped 16 = .ok (.iload_n 3, 1) := by decide +kernel
theorem dX7_swapped_17 : decode cX7_swapped 17 = .ok (.iload_n 2, 1) := by decide +kernel
theorem dX7_swapped_18 : decode cX7_swapped 18 = .ok (.isub, 1) := by decide +kernel
theorem dX7_swapped_19 : decode cX7_swapped 19 = .ok (.goto 4, 3) := by decide +kernel
theorem dX7_swapped_22 : decode cX7_swapped 22 = .ok (.iload_n 2, 1) := by decide +kernel
theorem dX7_swapped_23 : decode cX7_swapped 23 = .ok (.ireturn, 1) := by decide +kernel
theorem dX8_init_0 : decode cX8_init 0 = .ok (.aload_n 0, 1) := by decide +kernel
theorem dX8_init_1 : decode cX8_init 1 = .ok (.invokespecial 3, 3) := by decide +kernel
theorem dX8_init_4 : decode cX8_init 4 = .ok (.aload_n 0, 1) := by decide +kernel
theorem dX8_init_5 : decode cX8_init 5 = .ok (.bipush 16, 2) := by decide +kernel
theorem dX8_init_7 : decode cX8_init 7 = .ok (.newarray .int, 2) := by decide +kernel
theorem dX8_init_9 : decode cX8_init 9 = .ok (.putfield 11, 3) := by decide +kernel
theorem dX8_init_12 : decode cX8_init 12 = .ok (.aload_n 0, 1) := by decide +kernel
theorem dX8_init_13 : decode cX8_init 13 = .ok (.bipush 17, 2) := by decide +kernel
theorem dX8_init_15 : decode cX8_init 15 = .ok (.newarray .boolean, 2) := by decide +kernel
theorem dX8_init_17 : decode cX8_init 17 = .ok (.putfield 15, 3) := by decide +kernel
theorem dX8_init_20 : decode cX8_init 20 = .ok (.aload_n 0, 1) := by decide +kernel
theorem dX8_init_21 : decode cX8_init 21 = .ok (.bipush 10, 2) := by decide +kernel
theorem dX8_init_23 : decode cX8_init 23 = .ok (.newarray .int, 2) := by decide +kernel
theorem dX8_init_25 : decode cX8_init 25 = .ok (.putfield 19, 3) := by decide +kernel
theorem dX8_init_28 : decode cX8_init 28 = .ok (.aload_n 0, 1) := by decide +kernel
theorem dX8_init_29 : decode cX8_init 29 = .ok (.bipush 10, 2) := by decide +kernel
theorem dX8_init_31 : decode cX8_init 31 = .ok (.newarray .int, 2) := by decide +kernel
theorem dX8_init_33 : decode cX8_init 33 = .ok (.putfield 22, 3) := by decide +kernel
theorem dX8_init_36 : decode cX8_init 36 = .ok (.aload_n 0, 1) := by decide +kernel
theorem dX8_init_37 : decode cX8_init 37 = .ok (.bipush 64, 2) := by decide +kernel
theorem dX8_init_39 : decode cX8_init 39 = .ok (.newarray .int, 2) := by decide +kernel
theorem dX8_init_41 : decode cX8_init 41 = .ok (.putfield 25, 3) := by decide +kernel
theorem dX8_init_44 : decode cX8_init 44 = .ok (.aload_n 0, 1) := by decide +kernel
theorem dX8_init_45 : decode cX8_init 45 = .ok (.bipush 16, 2) := by decide +kernel
theorem dX8_init_47 : decode cX8_init 47 = .ok (.newarray .int, 2) := by decide +kernel
theorem dX8_init_49 : decode cX8_init 49 = .ok (.putfield 28, 3) := by decide +kernel
theorem dX8_init_52 : decode cX8_init 52 = .ok (.aload_n 0, 1) := by decide +kernel
theorem dX8_init_53 : decode cX8_init 53 = .ok (.iconst 1, 1) := by decide +kernel
theorem dX8_init_54 : decode cX8_init 54 = .ok (.putfield 31, 3) := by decide +kernel
theorem dX8_init_57 : decode cX8_init 57 = .ok (.return_, 1) := by decide +kernel
theorem dX8_load_0 : decode cX8_load 0 = .ok (.aload_n 0, 1) := by decide +kernel
theorem dX8_load_1 : decode cX8_load 1 = .ok (.aload_n 1, 1) := by decide +kernel
theorem dX8_load_2 : decode cX8_load 2 = .ok (.invokevirtual 35, 3) := by decide +kernel
theorem dX8_load_5 : decode cX8_load 5 = .ok (.invokevirtual 40, 3) := by decide +kernel
theorem dX8_load_8 : decode cX8_load 8 = .ok (.iconst 0, 1) := by decide +kernel
theorem dX8_load_9 : decode cX8_load 9 = .ok (.istore_n 2, 1) := by decide +kernel
theorem dX8_load_10 : decode cX8_load 10 = .ok (.iload_n 2, 1) := by decide +kernel
theorem dX8_load_11 : decode cX8_load 11 = .ok (.aload_n 1, 1) := by decide +kernel
theorem dX8_load_12 : decode cX8_load 12 = .ok (.invokevirtual 44, 3) := by decide +kernel
theorem dX8_load_15 : decode cX8_load 15 = .ok (.if_icmp .ge 49, 3) := by decide +kernel
theorem dX8_load_18 : decode cX8_load 18 = .ok (.aload_n 1, 1) := by decide +kernel
theorem dX8_load_19 : decode cX8_load 19 = .ok (.iload_n 2, 1) := by decide +kernel
theorem dX8_load_20 : decode cX8_load 20 = .ok (.invokevirtual 47, 3) := by decide +kernel
theorem dX8_load_23 : decode cX8_load 23 = .ok (.istore_n 3, 1) := by decide +kernel
theorem dX8_load_24 : decode cX8_load 24 = .ok (.iload_n 3, 1) := by decide +kernel
theorem dX8_load_25 : decode cX8_load 25 = .ok (.ifCond .ne 11, 3) := by decide +kernel
theorem dX8_load_28 : decode cX8_load 28 = .ok (.aload_n 0, 1) := by decide +kernel
theorem dX8_load_29 : decode cX8_load 29 = .ok (.iload_n 2, 1) := by decide +kernel
theorem dX8_load_30 : decode cX8_load 30 = .ok (.invokevirtual 51, 3) := by decide +kernel
theorem dX8_load_33 : decode cX8_load 33 = .ok (.goto 25, 3) := by decide +kernel
theorem dX8_load_36 : decode cX8_load 36 = .ok (.aload_n 0, 1) := by decide +kernel
theorem dX8_load_37 : decode cX8_load 37 = .ok (.iload_n 3, 1) := by decide +kernel
theorem dX8_load_38 : decode cX8_load 38 = .ok (.invokevirtual 54, 3) := by decide +kernel
theorem dX8_load_41 : decode cX8_load 41 = .ok (.ifCond .eq 12, 3) := by decide +kernel
theorem dX8_load_44 : decode cX8_load 44 = .ok (.aload_n 0, 1) := by decide +kernel
theorem dX8_load_45 : decode cX8_load 45 = .ok (.iload_n 2, 1) := by decide +kernel
theorem dX8_load_46 : decode cX8_load 46 = .ok (.iload_n 3, 1) := by decide +kernel
theorem dX8_load_47 : decode cX8_load 47 = .ok (.invokevirtual 58, 3) := by decide +kernel
theorem dX8_load_50 : decode cX8_load 50 = .ok (.goto 8, 3) := by decide +kernel
theorem dX8_load_53 : decode cX8_load 53 = .ok (.aload_n 0, 1) := by decide +kernel
theorem dX8_load_54 : decode cX8_load 54 = .ok (.iconst 1, 1) := by decide +kernel
theorem dX8_load_55 : decode cX8_load 55 = .ok (.putfield 62, 3) := by decide +kernel
theorem dX8_load_58 : decode cX8_load 58 = .ok (.iinc 2 1, 3) := by decide +kernel
theorem dX8_load_61 : decode cX8_load 61 = .ok (.goto (-51), 3) := by decide +kernel
theorem dX8_load_64 : decode cX8_load 64 = .ok (.return_, 1) := by decide +kernel
theorem dX8_begin_0 : decode cX8_begin 0 = .ok (.aload_n 0, 1) := by decide +kernel
theorem dX8_begin_1 : decode cX8_begin 1 = .ok (.iload_n 1, 1) := by decide +kernel
theorem dX8_begin_2 : decode cX8_begin 2 = .ok (.putfield 31, 3) := by decide +kernel
theorem dX8_begin_5 : decode cX8_begin 5 = .ok (.aload_n 0, 1) := by decide +kernel
theorem dX8_begin_6 : decode cX8_begin 6 = .ok (.aload_n 0, 1) := by decide +kernel
theorem dX8_begin_7 : decode cX8_begin 7 = .ok (.getfield 31, 3) := by decide +kernel
theorem dX8_begin_10 : decode cX8_begin 10 = .ok (.aload_n 0, 1) := by decide +kernel
theorem dX8_begin_11 : decode cX8_begin 11 = .ok (.getfield 31, 3) := by decide +kernel
theorem dX8_begin_14 : decode cX8_begin 14 = .ok (.aload_n 0, 1) := by decide +kernel
theorem dX8_begin_15 : decode cX8_begin 15 = .ok (.getfield 31, 3) := by decide +kernel
theorem dX8_begin_18 : decode cX8_begin 18 = .ok (.imul, 1) := by decide +kernel
theorem dX8_begin_19 : decode cX8_begin 19 = .ok (.iconst 1, 1) := by decide +kernel
theorem dX8_begin_20 : decode cX8_begin 20 = .ok (.iadd, 1) := by decide +kernel
theorem dX8_begin_21 : decode cX8_begin 21 = .ok (.imul, 1) := by decide +kernel
theorem dX8_begin_22 : decode cX8_begin 22 = .ok (.iconst 2, 1) := by decide +kernel
theorem dX8_begin_23 : decode cX8_begin 23 = .ok (.idiv, 1) := by decide +kernel
theorem dX8_begin_24 : decode cX8_begin 24 = .ok (.putfield 66, 3) := by decide +kernel
theorem dX8_begin_27 : decode cX8_begin 27 = .ok (.aload_n 0, 1) := by decide +kernel
theorem dX8_begin_28 : decode cX8_begin 28 = .ok (.iconst 0, 1) := by decide +kernel
theorem dX8_begin_29 : decode cX8_begin 29 = .ok (.putfield 62, 3) := by decide +kernel
theorem dX8_begin_32 : decode cX8_begin 32 = .ok (.aload_n 0, 1) := by decide +kernel
theorem dX8_begin_33 : decode cX8_begin 33 = .ok (.iconst 0, 1) := by decide +kernel
theorem dX8_begin_34 : decode cX8_begin 34 = .ok (.putfield 69, 3) := by decide +kernel
theorem dX8_begin_37 : decode cX8_begin 37 = .ok (.iconst 0, 1) := by decide +kernel
theorem dX8_begin_38 : decode cX8_begin 38 = .ok (.istore_n 2, 1) := by decide +kernel
theorem dX8_begin_39 : decode cX8_begin 39 = .ok (.iload_n 2, 1) := by decide +kernel
theorem dX8_begin_40 : decode cX8_begin 40 = .ok (.aload_n 0, 1) := by decide +kernel
theorem dX8_begin_41 : decode cX8_begin 41 = .ok (.getfield 15, 3) := by decide +kernel
theorem dX8_begin_44 : decode cX8_begin 44 = .ok (.arraylength, 1) := by decide +kernel
theorem dX8_begin_45 : decode cX8_begin 45 = .ok (.if_icmp .ge 16, 3) := by decide +kernel
theorem dX8_begin_48 : decode cX8_begin 48 = .ok (.aload_n 0, 1) := by decide +kernel
theorem dX8_begin_49 : decode cX8_begin 49 = .ok (.getfield 15, 3) := by decide +kernel
theorem dX8_begin_52 : decode cX8_begin 52 = .ok (.iload_n 2, 1) := by decide +kernel
theorem dX8_begin_53 : decode cX8_begin 53 = .ok (.iconst 0, 1) := by decide +kernel
theorem dX8_begin_54 : decode cX8_begin 54 = .ok (.bastore, 1) := by decide +kernel
theorem dX8_begin_55 : decode cX8_begin 55 = .ok (.iinc 2 1, 3) := by decide +kernel
theorem dX8_begin_58 : decode cX8_begin 58 = .ok (.goto (-19), 3) := by decide +kernel
theorem dX8_begin_61 : decode cX8_begin 61 = .ok (.iconst 0, 1) := by decide +kernel
theorem dX8_begin_62 : decode cX8_begin 62 = .ok (.istore_n 2, 1) := by decide +kernel
theorem dX8_begin_63 : decode cX8_begin 63 = .ok (.iload_n 2, 1) := by decide +kernel
theorem dX8_begin_64 : decode cX8_begin 64 = .ok (.aload_n 0, 1) := by decide +kernel
theorem dX8_begin_65 : decode cX8_begin 65 = .ok (.getfield 19, 3) := by decide +kernel
theorem dX8_begin_68 : decode cX8_begin 68 = .ok (.arraylength, 1) := by decide +kernel
theorem dX8_begin_69 : decode cX8_begin 69 = .ok (.if_icmp .ge 35, 3) := by decide +kernel
theorem dX8_begin_72 : decode cX8_begin 72 = .ok (.iload_n 2, 1) := by decide +kernel
theorem dX8_begin_73 : decode cX8_begin 73 = .ok (.aload_n 0, 1) := by decide +kernel
theorem dX8_begin_74 : decode cX8_begin 74 = .ok (.getfield 22, 3) := by decide +kernel
theorem dX8_begin_77 : decode cX8_begin 77 = .ok (.arraylength, 1) := by decide +kernel
theorem dX8_begin_78 : decode cX8_begin 78 = .ok (.if_icmp .ge 26, 3) := by decide +kernel
theorem dX8_begin_81 : decode cX8_begin 81 = .ok (.aload_n 0, 1) := by decide +kernel
theorem dX8_begin_82 : decode cX8_begin 82 = .ok (.getfield 19, 3) := by decide +kernel
theorem dX8_begin_85 : decode cX8_begin 85 = .ok (.iload_n 2, 1) := by decide +kernel
theorem dX8_begin_86 : decode cX8_begin 86 = .ok (.iconst 0, 1) := by decide +kernel
theorem dX8_begin_87 : decode cX8_begin 87 = .ok (.iastore, 1) := by decide +kernel
theorem dX8_begin_88 : decode cX8_begin 88 = .ok (.aload_n 0, 1) := by decide +kernel
theorem dX8_begin_89 : decode cX8_begin 89 = .ok (.getfield 22, 3) := by decide +kernel
theorem dX8_begin_92 : decode cX8_begin 92 = .ok (.iload_n 2, 1) := by decide +kernel
theorem dX8_begin_93 : decode cX8_begin 93 = .ok (.aload_n 0, 1) := by decide +kernel
theorem dX8_begin_94 : decode cX8_begin 94 = .ok (.getfield 31, 3) := by decide +kernel
theorem dX8_begin_97 : decode cX8_begin 97 = .ok (.iastore, 1) := by decide +kernel
theorem dX8_begin_98 : decode cX8_begin 98 = .ok (.iinc 2 1, 3) := by decide +kernel
theorem dX8_begin_101 : decode cX8_begin 101 = .ok (.goto (-38), 3) := by decide +kernel
theorem dX8_begin_104 : decode cX8_begin 104 = .ok (.iconst 0, 1) := by decide +kernel
theorem dX8_begin_105 : decode cX8_begin 105 = .ok (.istore_n 2, 1) := by decide +kernel
theorem dX8_begin_106 : decode cX8_begin 106 = .ok (.iload_n 2, 1) := by decide +kernel
theorem dX8_begin_107 : decode cX8_begin 107 = .ok (.aload_n 0, 1) := by decide +kernel
theorem dX8_begin_108 : decode cX8_begin 108 = .ok (.getfield 25, 3) := by decide +kernel
theorem dX8_begin_111 : decode cX8_begin 111 = .ok (.arraylength, 1) := by decide +kernel
theorem dX8_begin_112 : decode cX8_begin 112 = .ok (.if_icmp .ge 25, 3) := by decide +kernel
theorem dX8_begin_115 : decode cX8_begin 115 = .ok (.aload_n 0, 1) := by decide +kernel
theorem dX8_begin_116 : decode cX8_begin 116 = .ok (.getfield 25, 3) := by decide +kernel
theorem dX8_begin_119 : decode cX8_begin 119 = .ok (.iload_n 2, 1) := by decide +kernel
theorem dX8_begin_120 : decode cX8_begin 120 = .ok (.aload_n 0, 1) := by decide +kernel
theorem dX8_begin_121 : decode cX8_begin 121 = .ok (.iload_n 2, 1) := by decide +kernel
theorem dX8_begin_122 : decode cX8_begin 122 = .ok (.iconst 4, 1) := by decide +kernel
theorem dX8_begin_123 : decode cX8_begin 123 = .ok (.idiv, 1) := by decide +kernel
theorem dX8_begin_124 : decode cX8_begin 124 = .ok (.iload_n 2, 1) := by decide +kernel
theorem dX8_begin_125 : decode cX8_begin 125 = .ok (.iconst 4, 1) := by decide +kernel
theorem dX8_begin_126 : decode cX8_begin 126 = .ok (.irem, 1) := by decide +kernel
theorem dX8_begin_127 : decode cX8_begin 127 = .ok (.invokevirtual 72, 3) := by decide +kernel
theorem dX8_begin_130 : decode cX8_begin 130 = .ok (.iastore, 1) := by decide +kernel
theorem dX8_begin_131 : decode cX8_begin 131 = .ok (.iinc 2 1, 3) := by decide +kernel
theorem dX8_begin_134 : decode cX8_begin 134 = .ok (.goto (-28), 3) := by decide +kernel
theorem dX8_begin_137 : decode cX8_begin 137 = .ok (.return_, 1) := by decide +kernel
theorem dX8_lineThrough_0 : decode cX8_lineThrough 0 = .ok (.aload_n 0, 1) := by decide +kernel
theorem dX8_lineThrough_1 : decode cX8_lineThrough 1 = .ok (.getfield 31, 3) := by decide +kernel
theorem dX8_lineThrough_4 : decode cX8_lineThrough 4 = .ok (.iload_n 1, 1) := by decide +kernel
theorem dX8_lineThrough_5 : decode cX8_lineThrough 5 = .ok (.invokestatic 76, 3) := by decide +kernel
theorem dX8_lineThrough_8 : decode cX8_lineThrough 8 = .ok (.istore_n 3, 1) := by decide +kernel
theorem dX8_lineThrough_9 : decode cX8_lineThrough 9 = .ok (.aload_n 0, 1) := by decide +kernel
theorem dX8_lineThrough_10 : decode cX8_lineThrough 10 = .ok (.getfield 31, 3) := by decide +kernel
theorem dX8_lineThrough_13 : decode cX8_lineThrough 13 = .ok (.iload_n 1, 1) := by decide +kernel
theorem dX8_lineThrough_14 : decode cX8_lineThrough 14 = .ok (.invokestatic 81, 3) := by decide +kernel
theorem dX8_lineThrough_17 : decode cX8_lineThrough 17 = .ok (.istore 4, 2) := by decide +kernel
theorem dX8_lineThrough_19 : decode cX8_lineThrough 19 = .ok (.iload_n 2, 1) := by decide +kernel
theorem dX8_lineThrough_20 : decode cX8_lineThrough 20 = .ok (.tableswitch 55 0 2 #[28, 30, 38], 28) := by decide +kernel
theorem dX8_lineThrough_48 : decode cX8_lineThrough 48 = .ok (.iload_n 3, 1) := by decide +kernel
theorem dX8_lineThrough_49 : decode cX8_lineThrough 49 = .ok (.ireturn, 1) := by decide +kernel
theorem dX8_lineThrough_50 : decode cX8_lineThrough 50 = .ok (.aload_n 0, 1) := by decide +kernel
theorem dX8_lineThrough_51 : decode cX8_lineThrough 51 = .ok (.getfield 31, 3) := by decide +kernel
theorem dX8_lineThrough_54 : decode cX8_lineThrough 54 = .ok (.iload 4, 2) := by decide +kernel
theorem dX8_lineThrough_56 : decode cX8_lineThrough 56 = .ok (.iadd, 1) := by decide +kernel
theorem dX8_lineThrough_57 : decode cX8_lineThrough 57 = .ok (.ireturn, 1) := by decide +kernel
theorem dX8_lineThrough_58 : decode cX8_lineThrough 58 = .ok (.iload_n 3, 1) := by decide +kernel
theorem dX8_lineThrough_59 : decode cX8_lineThrough 59 = .ok (.iload 4, 2) := by decide +kernel
theorem dX8_lineThrough_61 : decode cX8_lineThrough 61 = .ok (.if_icmp .ne 12, 3) := by decide +kernel
theorem dX8_lineThrough_64 : decode cX8_lineThrough 64 = .ok (.iconst 2, 1) := by decide +kernel
theorem dX8_lineThrough_65 : decode cX8_lineThrough 65 = .ok (.aload_n 0, 1) := by decide +kernel
theorem dX8_lineThrough_66 : decode cX8_lineThrough 66 = .ok (.getfield 31, 3) := by decide +kernel
theorem dX8_lineThrough_69 : decode cX8_lineThrough 69 = .ok (.imul, 1) := by decide +kernel
theorem dX8_lineThrough_70 : decode cX8_lineThrough 70 = .ok (.goto 4, 3) := by decide +kernel
theorem dX8_lineThrough_73 : decode cX8_lineThrough 73 = .ok (.iconst (-1), 1) := by decide +kernel
theorem dX8_lineThrough_74 : decode cX8_lineThrough 74 = .ok (.ireturn, 1) := by decide +kernel
theorem dX8_lineThrough_75 : decode cX8_lineThrough 75 = .ok (.iload_n 3, 1) := by decide +kernel
theorem dX8_lineThrough_76 : decode cX8_lineThrough 76 = .ok (.iload 4, 2) := by decide +kernel
theorem dX8_lineThrough_78 : decode cX8_lineThrough 78 = .ok (.iadd, 1) := by decide +kernel
theorem dX8_lineThrough_79 : decode cX8_lineThrough 79 = .ok (.aload_n 0, 1) := by decide +kernel
theorem dX8_lineThrough_80 : decode cX8_lineThrough 80 = .ok (.getfield 31, 3) := by decide +kernel
theorem dX8_lineThrough_83 : decode cX8_lineThrough 83 = .ok (.iconst 1, 1) := by decide +kernel
theorem dX8_lineThrough_84 : decode cX8_lineThrough 84 = .ok (.isub, 1) := by decide +kernel
theorem dX8_lineThrough_85 : decode cX8_lineThrough 85 = .ok (.if_icmp .ne 14, 3) := by decide +kernel
theorem dX8_lineThrough_88 : decode cX8_lineThrough 88 = .ok (.iconst 2, 1) := by decide +kernel
theorem dX8_lineThrough_89 : decode cX8_lineThrough 89 = .ok (.aload_n 0, 1) := by decide +kernel
theorem dX8_lineThrough_90 : decode cX8_lineThrough 90 = .ok (.getfield 31, 3) := by decide +kernel
theorem dX8_lineThrough_93 : decode cX8_lineThrough 93 = .ok (.imul, 1) := by decide +kernel
theorem dX8_lineThrough_94 : decode cX8_lineThrough 94 = .ok (.iconst 1, 1) := by decide +kernel
theorem dX8_lineThrough_95 : decode cX8_lineThrough 95 = .ok (.iadd, 1) := by decide +kernel
theorem dX8_lineThrough_96 : decode cX8_lineThrough 96 = .ok (.goto 4, 3) := by decide +kernel
theorem dX8_lineThrough_99 : decode cX8_lineThrough 99 = .ok (.iconst (-1), 1) := by decide +kernel
theorem dX8_lineThrough_100 : decode cX8_lineThrough 100 = .ok (.ireturn, 1) := by decide +kernel
theorem dX8_addEmpty_0 : decode cX8_addEmpty 0 = .ok (.aload_n 0, 1) := by decide +kernel
theorem dX8_addEmpty_1 : decode cX8_addEmpty 1 = .ok (.getfield 69, 3) := by decide +kernel
theorem dX8_addEmpty_4 : decode cX8_addEmpty 4 = .ok (.ifCond .lt 35, 3) := by decide +kernel
theorem dX8_addEmpty_7 : decode cX8_addEmpty 7 = .ok (.aload_n 0, 1) := by decide +kernel
theorem dX8_addEmpty_8 : decode cX8_addEmpty 8 = .ok (.getfield 69, 3) := by decide +kernel
theorem dX8_addEmpty_11 : decode cX8_addEmpty 11 = .ok (.aload_n 0, 1) := by decide +kernel
theorem dX8_addEmpty_12 : decode cX8_addEmpty 12 = .ok (.getfield 28, 3) := by decide +kernel
theorem dX8_addEmpty_15 : decode cX8_addEmpty 15 = .ok (.arraylength, 1) := by decide +kernel
theorem dX8_addEmpty_16 : decode cX8_addEmpty 16 = .ok (.if_icmp .ge 23, 3) := by decide +kernel
theorem dX8_addEmpty_19 : decode cX8_addEmpty 19 = .ok (.aload_n 0, 1) := by decide +kernel
theorem dX8_addEmpty_20 : decode cX8_addEmpty 20 = .ok (.getfield 28, 3) := by decide +kernel
theorem dX8_addEmpty_23 : decode cX8_addEmpty 23 = .ok (.aload_n 0, 1) := by decide +kernel
theorem dX8_addEmpty_24 : decode cX8_addEmpty 24 = .ok (.getfield 69, 3) := by decide +kernel
theorem dX8_addEmpty_27 : decode cX8_addEmpty 27 = .ok (.iload_n 1, 1) := by decide +kernel
theorem dX8_addEmpty_28 : decode cX8_addEmpty 28 = .ok (.iastore, 1) := by decide +kernel
theorem dX8_addEmpty_29 : decode cX8_addEmpty 29 = .ok (.aload_n 0, 1) := by decide +kernel
theorem dX8_addEmpty_30 : decode cX8_addEmpty 30 = .ok (.dup, 1) := by decide +kernel
theorem dX8_addEmpty_31 : decode cX8_addEmpty 31 = .ok (.getfield 69, 3) := by decide +kernel
theorem dX8_addEmpty_34 : decode cX8_addEmpty 34 = .ok (.iconst 1, 1) := by decide +kernel
theorem dX8_addEmpty_35 : decode cX8_addEmpty 35 = .ok (.iadd, 1) := by decide +kernel
theorem dX8_addEmpty_36 : decode cX8_addEmpty 36 = .ok (.putfield 69, 3) := by decide +kernel
theorem dX8_addEmpty_39 : decode cX8_addEmpty 39 = .ok (.return_, 1) := by decide +kernel
theorem dX8_countAll_0 : decode cX8_countAll 0 = .ok (.aload_n 0, 1) := by decide +kernel
theorem dX8_countAll_1 : decode cX8_countAll 1 = .ok (.iconst (-1), 1) := by decide +kernel
theorem dX8_countAll_2 : decode cX8_countAll 2 = .ok (.iconst 0, 1) := by decide +kernel
theorem dX8_countAll_3 : decode cX8_countAll 3 = .ok (.invokevirtual 84, 3) := by decide +kernel
theorem dX8_countAll_6 : decode cX8_countAll 6 = .ok (.aload_n 0, 1) := by decide +kernel
theorem dX8_countAll_7 : decode cX8_countAll 7 = .ok (.getfield 87, 3) := by decide +kernel
theorem dX8_countAll_10 : decode cX8_countAll 10 = .ok (.ireturn, 1) := by decide +kernel
theorem dX8_numberIn_0 : decode cX8_numberIn 0 = .ok (.aload_n 0, 1) := by decide +kernel
theorem dX8_numberIn_1 : decode cX8_numberIn 1 = .ok (.iload_n 1, 1) := by decide +kernel
theorem dX8_numberIn_2 : decode cX8_numberIn 2 = .ok (.iload_n 2, 1) := by decide +kernel
theorem dX8_numberIn_3 : decode cX8_numberIn 3 = .ok (.invokevirtual 84, 3) := by decide +kernel
theorem dX8_numberIn_6 : decode cX8_numberIn 6 = .ok (.aload_n 0, 1) := by decide +kernel
theorem dX8_numberIn_7 : decode cX8_numberIn 7 = .ok (.getfield 90, 3) := by decide +kernel
theorem dX8_numberIn_10 : decode cX8_numberIn 10 = .ok (.ireturn, 1) := by decide +kernel
theorem dX8_seek_0 : decode cX8_seek 0 = .ok (.aload_n 0, 1) := by decide +kernel
theorem dX8_seek_1 : decode cX8_seek 1 = .ok (.iload_n 1, 1) := by decide +kernel
theorem dX8_seek_2 : decode cX8_seek 2 = .ok (.putfield 93, 3) := by decide +kernel
theorem dX8_seek_5 : decode cX8_seek 5 = .ok (.aload_n 0, 1) := by decide +kernel
theorem dX8_seek_6 : decode cX8_seek 6 = .ok (.iload_n 2, 1) := by decide +kernel
theorem dX8_seek_7 : decode cX8_seek 7 = .ok (.putfield 96, 3) := by decide +kernel
theorem dX8_seek_10 : decode cX8_seek 10 = .ok (.aload_n 0, 1) := by decide +kernel
theorem dX8_seek_11 : decode cX8_seek 11 = .ok (.iconst 0, 1) := by decide +kernel
theorem dX8_seek_12 : decode cX8_seek 12 = .ok (.putfield 87, 3) := by decide +kernel
theorem dX8_seek_15 : decode cX8_seek 15 = .ok (.aload_n 0, 1) := by decide +kernel
theorem dX8_seek_16 : decode cX8_seek 16 = .ok (.iconst (-1), 1) := by decide +kernel
theorem dX8_seek_17 : decode cX8_seek 17 = .ok (.putfield 90, 3) := by decide +kernel
theorem dX8_seek_20 : decode cX8_seek 20 = .ok (.aload_n 0, 1) := by decide +kernel
theorem dX8_seek_21 : decode cX8_seek 21 = .ok (.invokevirtual 99, 3) := by decide +kernel
theorem dX8_seek_24 : decode cX8_seek 24 = .ok (.ifCond .eq 8, 3) := by decide +kernel
theorem dX8_seek_27 : decode cX8_seek 27 = .ok (.aload_n 0, 1) := by decide +kernel
theorem dX8_seek_28 : decode cX8_seek 28 = .ok (.iconst 0, 1) := by decide +kernel
theorem dX8_seek_29 : decode cX8_seek 29 = .ok (.invokestatic 103, 3) := by decide +kernel
theorem dX8_seek_32 : decode cX8_seek 32 = .ok (.return_, 1) := by decide +kernel
theorem dX8_fillFrom_0 : decode cX8_fillFrom 0 = .ok (.iload_n 1, 1) := by decide +kernel
theorem dX8_fillFrom_1 : decode cX8_fillFrom 1 = .ok (.aload_n 0, 1) := by decide +kernel
theorem dX8_fillFrom_2 : decode cX8_fillFrom 2 = .ok (.getfield 69, 3) := by decide +kernel
theorem dX8_fillFrom_5 : decode cX8_fillFrom 5 = .ok (.if_icmp .ge 16, 3) := by decide +kernel
theorem dX8_fillFrom_8 : decode cX8_fillFrom 8 = .ok (.iload_n 1, 1) := by decide +kernel
theorem dX8_fillFrom_9 : decode cX8_fillFrom 9 = .ok (.aload_n 0, 1) := by decide +kernel
theorem dX8_fillFrom_10 : decode cX8_fillFrom 10 = .ok (.getfield 28, 3) := by decide +kernel
theorem dX8_fillFrom_13 : decode cX8_fillFrom 13 = .ok (.arraylength, 1) := by decide +kernel
theorem dX8_fillFrom_14 : decode cX8_fillFrom 14 = .ok (.if_icmp .ge 7, 3) := by decide +kernel
theorem dX8_fillFrom_17 : decode cX8_fillFrom 17 = .ok (.iload_n 1, 1) := by decide +kernel
theorem dX8_fillFrom_18 : decode cX8_fillFrom 18 = .ok (.ifCond .ge 8, 3) := by decide +kernel
theorem dX8_fillFrom_21 : decode cX8_fillFrom 21 = .ok (.aload_n 0, 1) := by decide +kernel
theorem dX8_fillFrom_22 : decode cX8_fillFrom 22 = .ok (.invokevirtual 107, 3) := by decide +kernel
theorem dX8_fillFrom_25 : decode cX8_fillFrom 25 = .ok (.return_, 1) := by decide +kernel
theorem dX8_fillFrom_26 : decode cX8_fillFrom 26 = .ok (.aload_n 0, 1) := by decide +kernel
theorem dX8_fillFrom_27 : decode cX8_fillFrom 27 = .ok (.getfield 28, 3) := by decide +kernel
theorem dX8_fillFrom_30 : decode cX8_fillFrom 30 = .ok (.iload_n 1, 1) := by decide +kernel
theorem dX8_fillFrom_31 : decode cX8_fillFrom 31 = .ok (.iaload, 1) := by decide +kernel
theorem dX8_fillFrom_32 : decode cX8_fillFrom 32 = .ok (.istore_n 2, 1) := by decide +kernel
theorem dX8_fillFrom_33 : decode cX8_fillFrom 33 = .ok (.aload_n 0, 1) := by decide +kernel
theorem dX8_fillFrom_34 : decode cX8_fillFrom 34 = .ok (.iload_n 2, 1) := by decide +kernel
theorem dX8_fillFrom_35 : decode cX8_fillFrom 35 = .ok (.invokevirtual 110, 3) := by decide +kernel
theorem dX8_fillFrom_38 : decode cX8_fillFrom 38 = .ok (.istore_n 3, 1) := by decide +kernel
theorem dX8_fillFrom_39 : decode cX8_fillFrom 39 = .ok (.aload_n 0, 1) := by decide +kernel
theorem dX8_fillFrom_40 : decode cX8_fillFrom 40 = .ok (.iload_n 2, 1) := by decide +kernel
theorem dX8_fillFrom_41 : decode cX8_fillFrom 41 = .ok (.invokevirtual 113, 3) := by decide +kernel
theorem dX8_fillFrom_44 : decode cX8_fillFrom 44 = .ok (.istore 4, 2) := by decide +kernel
theorem dX8_fillFrom_46 : decode cX8_fillFrom 46 = .ok (.iload 4, 2) := by decide +kernel
theorem dX8_fillFrom_48 : decode cX8_fillFrom 48 = .ok (.iload_n 3, 1) := by decide +kernel
theorem dX8_fillFrom_49 : decode cX8_fillFrom 49 = .ok (.if_icmp .gt 47, 3) := by decide +kernel
theorem dX8_fillFrom_52 : decode cX8_fillFrom 52 = .ok (.aload_n 0, 1) := by decide +kernel
theorem dX8_fillFrom_53 : decode cX8_fillFrom 53 = .ok (.getfield 90, 3) := by decide +kernel
theorem dX8_fillFrom_56 : decode cX8_fillFrom 56 = .ok (.iconst (-1), 1) := by decide +kernel
theorem dX8_fillFrom_57 : decode cX8_fillFrom 57 = .ok (.if_icmp .ne 39, 3) := by decide +kernel
theorem dX8_fillFrom_60 : decode cX8_fillFrom 60 = .ok (.aload_n 0, 1) := by decide +kernel
theorem dX8_fillFrom_61 : decode cX8_fillFrom 61 = .ok (.iload 4, 2) := by decide +kernel
theorem dX8_fillFrom_63 : decode cX8_fillFrom 63 = .ok (.invokevirtual 54, 3) := by decide +kernel
theorem dX8_fillFrom_66 : decode cX8_fillFrom 66 = .ok (.ifCond .eq 24, 3) := by decide +kernel
theorem dX8_fillFrom_69 : decode cX8_fillFrom 69 = .ok (.aload_n 0, 1) := by decide +kernel
theorem dX8_fillFrom_70 : decode cX8_fillFrom 70 = .ok (.iload_n 2, 1) := by decide +kernel
theorem dX8_fillFrom_71 : decode cX8_fillFrom 71 = .ok (.iload 4, 2) := by decide +kernel
theorem dX8_fillFrom_73 : decode cX8_fillFrom 73 = .ok (.invokevirtual 58, 3) := by decide +kernel
theorem dX8_fillFrom_76 : decode cX8_fillFrom 76 = .ok (.aload_n 0, 1) := by decide +kernel
theorem dX8_fillFrom_77 : decode cX8_fillFrom 77 = .ok (.iload_n 1, 1) := by decide +kernel
theorem dX8_fillFrom_78 : decode cX8_fillFrom 78 = .ok (.iconst 1, 1) := by decide +kernel
theorem dX8_fillFrom_79 : decode cX8_fillFrom 79 = .ok (.iadd, 1) := by decide +kernel
theorem dX8_fillFrom_80 : decode cX8_fillFrom 80 = .ok (.invokestatic 103, 3) := by decide +kernel
theorem dX8_fillFrom_83 : decode cX8_fillFrom 83 = .ok (.aload_n 0, 1) := by decide +kernel
theorem dX8_fillFrom_84 : decode cX8_fillFrom 84 = .ok (.iload_n 2, 1) := by decide +kernel
theorem dX8_fillFrom_85 : decode cX8_fillFrom 85 = .ok (.iload 4, 2) := by decide +kernel
theorem dX8_fillFrom_87 : decode cX8_fillFrom 87 = .ok (.invokevirtual 116, 3) := by decide +kernel
theorem dX8_fillFrom_90 : decode cX8_fillFrom 90 = .ok (.iinc 4 1, 3) := by decide +kernel
theorem dX8_fillFrom_93 : decode cX8_fillFrom 93 = .ok (.goto (-47), 3) := by decide +kernel
theorem dX8_fillFrom_96 : decode cX8_fillFrom 96 = .ok (.return_, 1) := by decide +kernel
theorem dX8_meet_0 : decode cX8_meet 0 = .ok (.aload_n 0, 1) := by decide +kernel
theorem dX8_meet_1 : decode cX8_meet 1 = .ok (.getfield 87, 3) := by decide +kernel
theorem dX8_meet_4 : decode cX8_meet 4 = .ok (.aload_n 0, 1) := by decide +kernel
theorem dX8_meet_5 : decode cX8_meet 5 = .ok (.getfield 93, 3) := by decide +kernel
theorem dX8_meet_8 : decode cX8_meet 8 = .ok (.if_icmp .ne 35, 3) := by decide +kernel
theorem dX8_meet_11 : decode cX8_meet 11 = .ok (.aload_n 0, 1) := by decide +kernel
theorem dX8_meet_12 : decode cX8_meet 12 = .ok (.getfield 96, 3) := by decide +kernel
theorem dX8_meet_15 : decode cX8_meet 15 = .ok (.ifCond .lt 28, 3) := by decide +kernel
theorem dX8_meet_18 : decode cX8_meet 18 = .ok (.aload_n 0, 1) := by decide +kernel
theorem dX8_meet_19 : decode cX8_meet 19 = .ok (.getfield 96, 3) := by decide +kernel
theorem dX8_meet_22 : decode cX8_meet 22 = .ok (.aload_n 0, 1) := by decide +kernel
theorem dX8_meet_23 : decode cX8_meet 23 = .ok (.getfield 11, 3) := by decide +kernel
theorem dX8_meet_26 : decode cX8_meet 26 = .ok (.arraylength, 1) := by decide +kernel
theorem dX8_meet_27 : decode cX8_meet 27 = .ok (.if_icmp .ge 16, 3) := by decide +kernel
theorem dX8_meet_30 : decode cX8_meet 30 = .ok (.aload_n 0, 1) := by decide +kernel
theorem dX8_meet_31 : decode cX8_meet 31 = .ok (.aload_n 0, 1) := by decide +kernel
theorem dX8_meet_32 : decode cX8_meet 32 = .ok (.getfield 11, 3) := by decide +kernel
theorem dX8_meet_35 : decode cX8_meet 35 = .ok (.aload_n 0, 1) := by decide +kernel
theorem dX8_meet_36 : decode cX8_meet 36 = .ok (.getfield 96, 3) := by decide +kernel
theorem dX8_meet_39 : decode cX8_meet 39 = .ok (.iaload, 1) := by decide +kernel
theorem dX8_meet_40 : decode cX8_meet 40 = .ok (.putfield 90, 3) := by decide +kernel
theorem dX8_meet_43 : decode cX8_meet 43 = .ok (.aload_n 0, 1) := by decide +kernel
theorem dX8_meet_44 : decode cX8_meet 44 = .ok (.dup, 1) := by decide +kernel
theorem dX8_meet_45 : decode cX8_meet 45 = .ok (.getfield 87, 3) := by decide +kernel
theorem dX8_meet_48 : decode cX8_meet 48 = .ok (.iconst 1, 1) := by decide +kernel
theorem dX8_meet_49 : decode cX8_meet 49 = .ok (.iadd, 1) := by decide +kernel
theorem dX8_meet_50 : decode cX8_meet 50 = .ok (.putfield 87, 3) := by decide +kernel
theorem dX8_meet_53 : decode cX8_meet 53 = .ok (.return_, 1) := by decide +kernel
theorem dX8_estimateFrom_0 : decode cX8_estimateFrom 0 = .ok (.aload_n 0, 1) := by decide +kernel
theorem dX8_estimateFrom_1 : decode cX8_estimateFrom 1 = .ok (.invokevirtual 99, 3) := by decide +kernel
theorem dX8_estimateFrom_4 : decode cX8_estimateFrom 4 = .ok (.ifCond .ne 5, 3) := by decide +kernel
theorem dX8_estimateFrom_7 : decode cX8_estimateFrom 7 = .ok (.lconst 0, 1) := by decide +kernel
theorem dX8_estimateFrom_8 : decode cX8_estimateFrom 8 = .ok (.lreturn, 1) := by decide +kernel
theorem dX8_estimateFrom_9 : decode cX8_estimateFrom 9 = .ok (.lconst 1, 1) := by decide +kernel
theorem dX8_estimateFrom_10 : decode cX8_estimateFrom 10 = .ok (.lstore_n 2, 1) := by decide +kernel
theorem dX8_estimateFrom_11 : decode cX8_estimateFrom 11 = .ok (.iload_n 1, 1) := by decide +kernel
theorem dX8_estimateFrom_12 : decode cX8_estimateFrom 12 = .ok (.istore 4, 2) := by decide +kernel
theorem dX8_estimateFrom_14 : decode cX8_estimateFrom 14 = .ok (.iconst 0, 1) := by decide +kernel
theorem dX8_estimateFrom_15 : decode cX8_estimateFrom 15 = .ok (.istore 5, 2) := by decide +kernel
theorem dX8_estimateFrom_17 : decode cX8_estimateFrom 17 = .ok (.iload 5, 2) := by decide +kernel
theorem dX8_estimateFrom_19 : decode cX8_estimateFrom 19 = .ok (.aload_n 0, 1) := by decide +kernel
theorem dX8_estimateFrom_20 : decode cX8_estimateFrom 20 = .ok (.getfield 69, 3) := by decide +kernel
theorem dX8_estimateFrom_23 : decode cX8_estimateFrom 23 = .ok (.if_icmp .ge 91, 3) := by decide +kernel
theorem dX8_estimateFrom_26 : decode cX8_estimateFrom 26 = .ok (.iload 5, 2) := by decide +kernel
theorem dX8_estimateFrom_28 : decode cX8_estimateFrom 28 = .ok (.aload_n 0, 1) := by decide +kernel
theorem dX8_estimateFrom_29 : decode cX8_estimateFrom 29 = .ok (.getfield 28, 3) := by decide +kernel
theorem dX8_estimateFrom_32 : decode cX8_estimateFrom 32 = .ok (.arraylength, 1) := by decide +kernel
theorem dX8_estimateFrom_33 : decode cX8_estimateFrom 33 = .ok (.if_icmp .ge 81, 3) := by decide +kernel
theorem dX8_estimateFrom_36 : decode cX8_estimateFrom 36 = .ok (.lload_n 2, 1) := by decide +kernel
theorem dX8_estimateFrom_37 : decode cX8_estimateFrom 37 = .ok (.lconst 0, 1) := by decide +kernel
theorem dX8_estimateFrom_38 : decode cX8_estimateFrom 38 = .ok (.lcmp, 1) := by decide +kernel
theorem dX8_estimateFrom_39 : decode cX8_estimateFrom 39 = .ok (.ifCond .le 75, 3) := by decide +kernel
theorem dX8_estimateFrom_42 : decode cX8_estimateFrom 42 = .ok (.aload_n 0, 1) := by decide +kernel
theorem dX8_estimateFrom_43 : decode cX8_estimateFrom 43 = .ok (.aload_n 0, 1) := by decide +kernel
theorem dX8_estimateFrom_44 : decode cX8_estimateFrom 44 = .ok (.getfield 28, 3) := by decide +kernel
theorem dX8_estimateFrom_47 : decode cX8_estimateFrom 47 = .ok (.iload 5, 2) := by decide +kernel
theorem dX8_estimateFrom_49 : decode cX8_estimateFrom 49 = .ok (.iaload, 1) := by decide +kernel
theorem dX8_estimateFrom_50 : decode cX8_estimateFrom 50 = .ok (.invokevirtual 119, 3) := by decide +kernel
theorem dX8_estimateFrom_53 : decode cX8_estimateFrom 53 = .ok (.istore 6, 2) := by decide +kernel
theorem dX8_estimateFrom_55 : decode cX8_estimateFrom 55 = .ok (.lload_n 2, 1) := by decide +kernel
theorem dX8_estimateFrom_56 : decode cX8_estimateFrom 56 = .ok (.iload 6, 2) := by decide +kernel
theorem dX8_estimateFrom_58 : decode cX8_estimateFrom 58 = .ok (.i2l, 1) := by decide +kernel
theorem dX8_estimateFrom_59 : decode cX8_estimateFrom 59 = .ok (.lmul, 1) := by decide +kernel
theorem dX8_estimateFrom_60 : decode cX8_estimateFrom 60 = .ok (.lstore_n 2, 1) := by decide +kernel
theorem dX8_estimateFrom_61 : decode cX8_estimateFrom 61 = .ok (.sipush 25173, 3) := by decide +kernel
theorem dX8_estimateFrom_64 : decode cX8_estimateFrom 64 = .ok (.iload 4, 2) := by decide +kernel
theorem dX8_estimateFrom_66 : decode cX8_estimateFrom 66 = .ok (.imul, 1) := by decide +kernel
theorem dX8_estimateFrom_67 : decode cX8_estimateFrom 67 = .ok (.sipush 13849, 3) := by decide +kernel
theorem dX8_estimateFrom_70 : decode cX8_estimateFrom 70 = .ok (.iadd, 1) := by decide +kernel
theorem dX8_estimateFrom_71 : decode cX8_estimateFrom 71 = .ok (.ldc 122, 2) := by decide +kernel
theorem dX8_estimateFrom_73 : decode cX8_estimateFrom 73 = .ok (.irem, 1) := by decide +kernel
theorem dX8_estimateFrom_74 : decode cX8_estimateFrom 74 = .ok (.istore 4, 2) := by decide +kernel
theorem dX8_estimateFrom_76 : decode cX8_estimateFrom 76 = .ok (.iload 6, 2) := by decide +kernel
theorem dX8_estimateFrom_78 : decode cX8_estimateFrom 78 = .ok (.ifCond .le 30, 3) := by decide +kernel
theorem dX8_estimateFrom_81 : decode cX8_estimateFrom 81 = .ok (.aload_n 0, 1) := by decide +kernel
theorem dX8_estimateFrom_82 : decode cX8_estimateFrom 82 = .ok (.aload_n 0, 1) := by decide +kernel
theorem dX8_estimateFrom_83 : decode cX8_estimateFrom 83 = .ok (.getfield 28, 3) := by decide +kernel
theorem dX8_estimateFrom_86 : decode cX8_estimateFrom 86 = .ok (.iload 5, 2) := by decide +kernel
theorem dX8_estimateFrom_88 : decode cX8_estimateFrom 88 = .ok (.iaload, 1) := by decide +kernel
theorem dX8_estimateFrom_89 : decode cX8_estimateFrom 89 = .ok (.aload_n 0, 1) := by decide +kernel
theorem dX8_estimateFrom_90 : decode cX8_estimateFrom 90 = .ok (.aload_n 0, 1) := by decide +kernel
theorem dX8_estimateFrom_91 : decode cX8_estimateFrom 91 = .ok (.getfield 28, 3) := by decide +kernel
theorem dX8_estimateFrom_94 : decode cX8_estimateFrom 94 = .ok (.iload 5, 2) := by decide +kernel
theorem dX8_estimateFrom_96 : decode cX8_estimateFrom 96 = .ok (.iaload, 1) := by decide +kernel
theorem dX8_estimateFrom_97 : decode cX8_estimateFrom 97 = .ok (.iload 4, 2) := by decide +kernel
theorem dX8_estimateFrom_99 : decode cX8_estimateFrom 99 = .ok (.iload 6, 2) := by decide +kernel
theorem dX8_estimateFrom_101 : decode cX8_estimateFrom 101 = .ok (.irem, 1) := by decide +kernel
theorem dX8_estimateFrom_102 : decode cX8_estimateFrom 102 = .ok (.invokevirtual 123, 3) := by decide +kernel
theorem dX8_estimateFrom_105 : decode cX8_estimateFrom 105 = .ok (.invokevirtual 58, 3) := by decide +kernel
theorem dX8_estimateFrom_108 : decode cX8_estimateFrom 108 = .ok (.iinc 5 1, 3) := by decide +kernel
theorem dX8_estimateFrom_111 : decode cX8_estimateFrom 111 = .ok (.goto (-94), 3) := by decide +kernel
theorem dX8_estimateFrom_114 : decode cX8_estimateFrom 114 = .ok (.lload_n 2, 1) := by decide +kernel
theorem dX8_estimateFrom_115 : decode cX8_estimateFrom 115 = .ok (.lreturn, 1) := by decide +kernel
theorem dX8_countChoices_0 : decode cX8_countChoices 0 = .ok (.iconst 0, 1) := by decide +kernel
theorem dX8_countChoices_1 : decode cX8_countChoices 1 = .ok (.istore_n 2, 1) := by decide +kernel
theorem dX8_countChoices_2 : decode cX8_countChoices 2 = .ok (.aload_n 0, 1) := by decide +kernel
theorem dX8_countChoices_3 : decode cX8_countChoices 3 = .ok (.iload_n 1, 1) := by decide +kernel
theorem dX8_countChoices_4 : decode cX8_countChoices 4 = .ok (.invokevirtual 110, 3) := by decide +kernel
theorem dX8_countChoices_7 : decode cX8_countChoices 7 = .ok (.istore_n 3, 1) := by decide +kernel
theorem dX8_countChoices_8 : decode cX8_countChoices 8 = .ok (.aload_n 0, 1) := by decide +kernel
theorem dX8_countChoices_9 : decode cX8_countChoices 9 = .ok (.iload_n 1, 1) := by decide +kernel
theorem dX8_countChoices_10 : decode cX8_countChoices 10 = .ok (.invokevirtual 113, 3) := by decide +kernel
theorem dX8_countChoices_13 : decode cX8_countChoices 13 = .ok (.istore 4, 2) := by decide +kernel
theorem dX8_countChoices_15 : decode cX8_countChoices 15 = .ok (.iload 4, 2) := by decide +kernel
theorem dX8_countChoices_17 : decode cX8_countChoices 17 = .ok (.iload_n 3, 1) := by decide +kernel
theorem dX8_countChoices_18 : decode cX8_countChoices 18 = .ok (.if_icmp .gt 21, 3) := by decide +kernel
theorem dX8_countChoices_21 : decode cX8_countChoices 21 = .ok (.aload_n 0, 1) := by decide +kernel
theorem dX8_countChoices_22 : decode cX8_countChoices 22 = .ok (.iload 4, 2) := by decide +kernel
theorem dX8_countChoices_24 : decode cX8_countChoices 24 = .ok (.invokevirtual 54, 3) := by decide +kernel
theorem dX8_countChoices_27 : decode cX8_countChoices 27 = .ok (.ifCond .eq 6, 3) := by decide +kernel
theorem dX8_countChoices_30 : decode cX8_countChoices 30 = .ok (.iinc 2 1, 3) := by decide +kernel
theorem dX8_countChoices_33 : decode cX8_countChoices 33 = .ok (.iinc 4 1, 3) := by decide +kernel
theorem dX8_countChoices_36 : decode cX8_countChoices 36 = .ok (.goto (-21), 3) := by decide +kernel
theorem dX8_countChoices_39 : decode cX8_countChoices 39 = .ok (.iload_n 2, 1) := by decide +kernel
theorem dX8_countChoices_40 : decode cX8_countChoices 40 = .ok (.ireturn, 1) := by decide +kernel
theorem dX8_choiceAt_0 : decode cX8_choiceAt 0 = .ok (.iconst 0, 1) := by decide +kernel
theorem dX8_choiceAt_1 : decode cX8_choiceAt 1 = .ok (.istore_n 3, 1) := by decide +kernel
theorem dX8_choiceAt_2 : decode cX8_choiceAt 2 = .ok (.aload_n 0, 1) := by decide +kernel
theorem dX8_choiceAt_3 : decode cX8_choiceAt 3 = .ok (.iload_n 1, 1) := by decide +kernel
theorem dX8_choiceAt_4 : decode cX8_choiceAt 4 = .ok (.invokevirtual 110, 3) := by decide +kernel
theorem dX8_choiceAt_7 : decode cX8_choiceAt 7 = .ok (.istore 4, 2) := by decide +kernel
theorem dX8_choiceAt_9 : decode cX8_choiceAt 9 = .ok (.aload_n 0, 1) := by decide +kernel
theorem dX8_choiceAt_10 : decode cX8_choiceAt 10 = .ok (.iload_n 1, 1) := by decide +kernel
theorem dX8_choiceAt_11 : decode cX8_choiceAt 11 = .ok (.invokevirtual 113, 3) := by decide +kernel
theorem dX8_choiceAt_14 : decode cX8_choiceAt 14 = .ok (.istore 5, 2) := by decide +kernel
theorem dX8_choiceAt_16 : decode cX8_choiceAt 16 = .ok (.iload 5, 2) := by decide +kernel
theorem dX8_choiceAt_18 : decode cX8_choiceAt 18 = .ok (.iload 4, 2) := by decide +kernel
theorem dX8_choiceAt_20 : decode cX8_choiceAt 20 = .ok (.if_icmp .gt 29, 3) := by decide +kernel
theorem dX8_choiceAt_23 : decode cX8_choiceAt 23 = .ok (.aload_n 0, 1) := by decide +kernel
theorem dX8_choiceAt_24 : decode cX8_choiceAt 24 = .ok (.iload 5, 2) := by decide +kernel
theorem dX8_choiceAt_26 : decode cX8_choiceAt 26 = .ok (.invokevirtual 54, 3) := by decide +kernel
theorem dX8_choiceAt_29 : decode cX8_choiceAt 29 = .ok (.ifCond .eq 14, 3) := by decide +kernel
theorem dX8_choiceAt_32 : decode cX8_choiceAt 32 = .ok (.iload_n 3, 1) := by decide +kernel
theorem dX8_choiceAt_33 : decode cX8_choiceAt 33 = .ok (.iload_n 2, 1) := by decide +kernel
theorem dX8_choiceAt_34 : decode cX8_choiceAt 34 = .ok (.if_icmp .ne 6, 3) := by decide +kernel
theorem dX8_choiceAt_37 : decode cX8_choiceAt 37 = .ok (.iload 5, 2) := by decide +kernel
theorem dX8_choiceAt_39 : decode cX8_choiceAt 39 = .ok (.ireturn, 1) := by decide +kernel
theorem dX8_choiceAt_40 : decode cX8_choiceAt 40 = .ok (.iinc 3 1, 3) := by decide +kernel
theorem dX8_choiceAt_43 : decode cX8_choiceAt 43 = .ok (.iinc 5 1, 3) := by decide +kernel
theorem dX8_choiceAt_46 : decode cX8_choiceAt 46 = .ok (.goto (-30), 3) := by decide +kernel
theorem dX8_choiceAt_49 : decode cX8_choiceAt 49 = .ok (.iconst 0, 1) := by decide +kernel
theorem dX8_choiceAt_50 : decode cX8_choiceAt 50 = .ok (.ireturn, 1) := by decide +kernel
theorem dX8_fits_0 : decode cX8_fits 0 = .ok (.aload_n 0, 1) := by decide +kernel
theorem dX8_fits_1 : decode cX8_fits 1 = .ok (.getfield 62, 3) := by decide +kernel
theorem dX8_fits_4 : decode cX8_fits 4 = .ok (.ifCond .eq 5, 3) := by decide +kernel
theorem dX8_fits_7 : decode cX8_fits 7 = .ok (.iconst 0, 1) := by decide +kernel
theorem dX8_fits_8 : decode cX8_fits 8 = .ok (.ireturn, 1) := by decide +kernel
theorem dX8_fits_9 : decode cX8_fits 9 = .ok (.iconst 0, 1) := by decide +kernel
theorem dX8_fits_10 : decode cX8_fits 10 = .ok (.istore_n 1, 1) := by decide +kernel
theorem dX8_fits_11 : decode cX8_fits 11 = .ok (.iload_n 1, 1) := by decide +kernel
theorem dX8_fits_12 : decode cX8_fits 12 = .ok (.iconst 2, 1) := by decide +kernel
theorem dX8_fits_13 : decode cX8_fits 13 = .ok (.aload_n 0, 1) := by decide +kernel
theorem dX8_fits_14 : decode cX8_fits 14 = .ok (.getfield 31, 3) := by decide +kernel
theorem dX8_fits_17 : decode cX8_fits 17 = .ok (.imul, 1) := by decide +kernel
theorem dX8_fits_18 : decode cX8_fits 18 = .ok (.iconst 2, 1) := by decide +kernel
theorem dX8_fits_19 : decode cX8_fits 19 = .ok (.iadd, 1) := by decide +kernel
theorem dX8_fits_20 : decode cX8_fits 20 = .ok (.if_icmp .ge 57, 3) := by decide +kernel
theorem dX8_fits_23 : decode cX8_fits 23 = .ok (.aload_n 0, 1) := by decide +kernel
theorem dX8_fits_24 : decode cX8_fits 24 = .ok (.iload_n 1, 1) := by decide +kernel
theorem dX8_fits_25 : decode cX8_fits 25 = .ok (.invokevirtual 126, 3) := by decide +kernel
theorem dX8_fits_28 : decode cX8_fits 28 = .ok (.ifCond .eq 49, 3) := by decide +kernel
theorem dX8_fits_31 : decode cX8_fits 31 = .ok (.aload_n 0, 1) := by decide +kernel
theorem dX8_fits_32 : decode cX8_fits 32 = .ok (.getfield 22, 3) := by decide +kernel
theorem dX8_fits_35 : decode cX8_fits 35 = .ok (.iload_n 1, 1) := by decide +kernel
theorem dX8_fits_36 : decode cX8_fits 36 = .ok (.iaload, 1) := by decide +kernel
theorem dX8_fits_37 : decode cX8_fits 37 = .ok (.ifCond .ne 19, 3) := by decide +kernel
theorem dX8_fits_40 : decode cX8_fits 40 = .ok (.aload_n 0, 1) := by decide +kernel
theorem dX8_fits_41 : decode cX8_fits 41 = .ok (.getfield 19, 3) := by decide +kernel
theorem dX8_fits_44 : decode cX8_fits 44 = .ok (.iload_n 1, 1) := by decide +kernel
theorem dX8_fits_45 : decode cX8_fits 45 = .ok (.iaload, 1) := by decide +kernel
theorem dX8_fits_46 : decode cX8_fits 46 = .ok (.aload_n 0, 1) := by decide +kernel
theorem dX8_fits_47 : decode cX8_fits 47 = .ok (.getfield 66, 3) := by decide +kernel
theorem dX8_fits_50 : decode cX8_fits 50 = .ok (.if_icmp .eq 21, 3) := by decide +kernel
theorem dX8_fits_53 : decode cX8_fits 53 = .ok (.goto 16, 3) := by decide +kernel
theorem dX8_fits_56 : decode cX8_fits 56 = .ok (.aload_n 0, 1) := by decide +kernel
theorem dX8_fits_57 : decode cX8_fits 57 = .ok (.getfield 19, 3) := by decide +kernel
theorem dX8_fits_60 : decode cX8_fits 60 = .ok (.iload_n 1, 1) := by decide +kernel
theorem dX8_fits_61 : decode cX8_fits 61 = .ok (.iaload, 1) := by decide +kernel
theorem dX8_fits_62 : decode cX8_fits 62 = .ok (.aload_n 0, 1) := by decide +kernel
theorem dX8_fits_63 : decode cX8_fits 63 = .ok (.getfield 66, 3) := by decide +kernel
theorem dX8_fits_66 : decode cX8_fits 66 = .ok (.if_icmp .lt 5, 3) := by decide +kernel
theorem dX8_fits_69 : decode cX8_fits 69 = .ok (.iconst 0, 1) := by decide +kernel
theorem dX8_fits_70 : decode cX8_fits 70 = .ok (.ireturn, 1) := by decide +kernel
theorem dX8_fits_71 : decode cX8_fits 71 = .ok (.iinc 1 1, 3) := by decide +kernel
theorem dX8_fits_74 : decode cX8_fits 74 = .ok (.goto (-63), 3) := by decide +kernel
theorem dX8_fits_77 : decode cX8_fits 77 = .ok (.iconst 1, 1) := by decide +kernel
theorem dX8_fits_78 : decode cX8_fits 78 = .ok (.ireturn, 1) := by decide +kernel
theorem dX8_lowestAt_0 : decode cX8_lowestAt 0 = .ok (.iconst 1, 1) := by decide +kernel
theorem dX8_lowestAt_1 : decode cX8_lowestAt 1 = .ok (.istore_n 2, 1) := by decide +kernel
theorem dX8_lowestAt_2 : decode cX8_lowestAt 2 = .ok (.iconst 0, 1) := by decide +kernel
theorem dX8_lowestAt_3 : decode cX8_lowestAt 3 = .ok (.istore_n 3, 1) := by decide +kernel
theorem dX8_lowestAt_4 : decode cX8_lowestAt 4 = .ok (.iload_n 3, 1) := by decide +kernel
theorem dX8_lowestAt_5 : decode cX8_lowestAt 5 = .ok (.iconst 4, 1) := by decide +kernel
theorem dX8_lowestAt_6 : decode cX8_lowestAt 6 = .ok (.if_icmp .ge 54, 3) := by decide +kernel
theorem dX8_lowestAt_9 : decode cX8_lowestAt 9 = .ok (.aload_n 0, 1) := by decide +kernel
theorem dX8_lowestAt_10 : decode cX8_lowestAt 10 = .ok (.iload_n 1, 1) := by decide +kernel
theorem dX8_lowestAt_11 : decode cX8_lowestAt 11 = .ok (.iload_n 3, 1) := by decide +kernel
theorem dX8_lowestAt_12 : decode cX8_lowestAt 12 = .ok (.invokevirtual 129, 3) := by decide +kernel
theorem dX8_lowestAt_15 : decode cX8_lowestAt 15 = .ok (.istore 4, 2) := by decide +kernel
theorem dX8_lowestAt_17 : decode cX8_lowestAt 17 = .ok (.aload_n 0, 1) := by decide +kernel
theorem dX8_lowestAt_18 : decode cX8_lowestAt 18 = .ok (.iload 4, 2) := by decide +kernel
theorem dX8_lowestAt_20 : decode cX8_lowestAt 20 = .ok (.invokevirtual 126, 3) := by decide +kernel
theorem dX8_lowestAt_23 : decode cX8_lowestAt 23 = .ok (.ifCond .eq 31, 3) := by decide +kernel
theorem dX8_lowestAt_26 : decode cX8_lowestAt 26 = .ok (.aload_n 0, 1) := by decide +kernel
theorem dX8_lowestAt_27 : decode cX8_lowestAt 27 = .ok (.getfield 22, 3) := by decide +kernel
theorem dX8_lowestAt_30 : decode cX8_lowestAt 30 = .ok (.iload 4, 2) := by decide +kernel
theorem dX8_lowestAt_32 : decode cX8_lowestAt 32 = .ok (.iaload, 1) := by decide +kernel
theorem dX8_lowestAt_33 : decode cX8_lowestAt 33 = .ok (.iconst 1, 1) := by decide +kernel
theorem dX8_lowestAt_34 : decode cX8_lowestAt 34 = .ok (.if_icmp .ne 20, 3) := by decide +kernel
theorem dX8_lowestAt_37 : decode cX8_lowestAt 37 = .ok (.iload_n 2, 1) := by decide +kernel
theorem dX8_lowestAt_38 : decode cX8_lowestAt 38 = .ok (.aload_n 0, 1) := by decide +kernel
theorem dX8_lowestAt_39 : decode cX8_lowestAt 39 = .ok (.getfield 66, 3) := by decide +kernel
theorem dX8_lowestAt_42 : decode cX8_lowestAt 42 = .ok (.aload_n 0, 1) := by decide +kernel
theorem dX8_lowestAt_43 : decode cX8_lowestAt 43 = .ok (.getfield 19, 3) := by decide +kernel
theorem dX8_lowestAt_46 : decode cX8_lowestAt 46 = .ok (.iload 4, 2) := by decide +kernel
theorem dX8_lowestAt_48 : decode cX8_lowestAt 48 = .ok (.iaload, 1) := by decide +kernel
theorem dX8_lowestAt_49 : decode cX8_lowestAt 49 = .ok (.isub, 1) := by decide +kernel
theorem dX8_lowestAt_50 : decode cX8_lowestAt 50 = .ok (.invokestatic 132, 3) := by decide +kernel
theorem dX8_lowestAt_53 : decode cX8_lowestAt 53 = .ok (.istore_n 2, 1) := by decide +kernel
theorem dX8_lowestAt_54 : decode cX8_lowestAt 54 = .ok (.iinc 3 1, 3) := by decide +kernel
theorem dX8_lowestAt_57 : decode cX8_lowestAt 57 = .ok (.goto (-53), 3) := by decide +kernel
theorem dX8_lowestAt_60 : decode cX8_lowestAt 60 = .ok (.iload_n 2, 1) := by decide +kernel
theorem dX8_lowestAt_61 : decode cX8_lowestAt 61 = .ok (.ireturn, 1) := by decide +kernel
theorem dX8_highestAt_0 : decode cX8_highestAt 0 = .ok (.aload_n 0, 1) := by decide +kernel
theorem dX8_highestAt_1 : decode cX8_highestAt 1 = .ok (.getfield 31, 3) := by decide +kernel
theorem dX8_highestAt_4 : decode cX8_highestAt 4 = .ok (.aload_n 0, 1) := by decide +kernel
theorem dX8_highestAt_5 : decode cX8_highestAt 5 = .ok (.getfield 31, 3) := by decide +kernel
theorem dX8_highestAt_8 : decode cX8_highestAt 8 = .ok (.imul, 1) := by decide +kernel
theorem dX8_highestAt_9 : decode cX8_highestAt 9 = .ok (.istore_n 2, 1) := by decide +kernel
theorem dX8_highestAt_10 : decode cX8_highestAt 10 = .ok (.iconst 0, 1) := by decide +kernel
theorem dX8_highestAt_11 : decode cX8_highestAt 11 = .ok (.istore_n 3, 1) := by decide +kernel
theorem dX8_highestAt_12 : decode cX8_highestAt 12 = .ok (.iload_n 3, 1) := by decide +kernel
theorem dX8_highestAt_13 : decode cX8_highestAt 13 = .ok (.iconst 4, 1) := by decide +kernel
theorem dX8_highestAt_14 : decode cX8_highestAt 14 = .ok (.if_icmp .ge 65, 3) := by decide +kernel
theorem dX8_highestAt_17 : decode cX8_highestAt 17 = .ok (.aload_n 0, 1) := by decide +kernel
theorem dX8_highestAt_18 : decode cX8_highestAt 18 = .ok (.iload_n 1, 1) := by decide +kernel
theorem dX8_highestAt_19 : decode cX8_highestAt 19 = .ok (.iload_n 3, 1) := by decide +kernel
theorem dX8_highestAt_20 : decode cX8_highestAt 20 = .ok (.invokevirtual 129, 3) := by decide +kernel
theorem dX8_highestAt_23 : decode cX8_highestAt 23 = .ok (.istore 4, 2) := by decide +kernel
theorem dX8_highestAt_25 : decode cX8_highestAt 25 = .ok (.aload_n 0, 1) := by decide +kernel
theorem dX8_highestAt_26 : decode cX8_highestAt 26 = .ok (.iload 4, 2) := by decide +kernel
theorem dX8_highestAt_28 : decode cX8_highestAt 28 = .ok (.invokevirtual 126, 3) := by decide +kernel
theorem dX8_highestAt_31 : decode cX8_highestAt 31 = .ok (.ifCond .eq 42, 3) := by decide +kernel
theorem dX8_highestAt_34 : decode cX8_highestAt 34 = .ok (.aload_n 0, 1) := by decide +kernel
theorem dX8_highestAt_35 : decode cX8_highestAt 35 = .ok (.getfield 66, 3) := by decide +kernel
theorem dX8_highestAt_38 : decode cX8_highestAt 38 = .ok (.aload_n 0, 1) := by decide +kernel
theorem dX8_highestAt_39 : decode cX8_highestAt 39 = .ok (.getfield 19, 3) := by decide +kernel
theorem dX8_highestAt_42 : decode cX8_highestAt 42 = .ok (.iload 4, 2) := by decide +kernel
theorem dX8_highestAt_44 : decode cX8_highestAt 44 = .ok (.iaload, 1) := by decide +kernel
theorem dX8_highestAt_45 : decode cX8_highestAt 45 = .ok (.isub, 1) := by decide +kernel
theorem dX8_highestAt_46 : decode cX8_highestAt 46 = .ok (.istore 5, 2) := by decide +kernel
theorem dX8_highestAt_48 : decode cX8_highestAt 48 = .ok (.iload_n 2, 1) := by decide +kernel
theorem dX8_highestAt_49 : decode cX8_highestAt 49 = .ok (.aload_n 0, 1) := by decide +kernel
theorem dX8_highestAt_50 : decode cX8_highestAt 50 = .ok (.getfield 22, 3) := by decide +kernel
theorem dX8_highestAt_53 : decode cX8_highestAt 53 = .ok (.iload 4, 2) := by decide +kernel
theorem dX8_highestAt_55 : decode cX8_highestAt 55 = .ok (.iaload, 1) := by decide +kernel
theorem dX8_highestAt_56 : decode cX8_highestAt 56 = .ok (.iconst 1, 1) := by decide +kernel
theorem dX8_highestAt_57 : decode cX8_highestAt 57 = .ok (.if_icmp .ne 8, 3) := by decide +kernel
theorem dX8_highestAt_60 : decode cX8_highestAt 60 = .ok (.iload 5, 2) := by decide +kernel
theorem dX8_highestAt_62 : decode cX8_highestAt 62 = .ok (.goto 7, 3) := by decide +kernel
theorem dX8_highestAt_65 : decode cX8_highestAt 65 = .ok (.iload 5, 2) := by decide +kernel
theorem dX8_highestAt_67 : decode cX8_highestAt 67 = .ok (.iconst 1, 1) := by decide +kernel
theorem dX8_highestAt_68 : decode cX8_highestAt 68 = .ok (.isub, 1) := by decide +kernel
theorem dX8_highestAt_69 : decode cX8_highestAt 69 = .ok (.invokestatic 137, 3) := by decide +kernel
theorem dX8_highestAt_72 : decode cX8_highestAt 72 = .ok (.istore_n 2, 1) := by decide +kernel
theorem dX8_highestAt_73 : decode cX8_highestAt 73 = .ok (.iinc 3 1, 3) := by decide +kernel
theorem dX8_highestAt_76 : decode cX8_highestAt 76 = .ok (.goto (-64), 3) := by decide +kernel
theorem dX8_highestAt_79 : decode cX8_highestAt 79 = .ok (.iload_n 2, 1) := by decide +kernel
theorem dX8_highestAt_80 : decode cX8_highestAt 80 = .ok (.ireturn, 1) := by decide +kernel
theorem dX8_lay_0 : decode cX8_lay 0 = .ok (.iload_n 1, 1) := by decide +kernel
theorem dX8_lay_1 : decode cX8_lay 1 = .ok (.ifCond .lt 41, 3) := by decide +kernel
theorem dX8_lay_4 : decode cX8_lay 4 = .ok (.iload_n 1, 1) := by decide +kernel
theorem dX8_lay_5 : decode cX8_lay 5 = .ok (.aload_n 0, 1) := by decide +kernel
theorem dX8_lay_6 : decode cX8_lay 6 = .ok (.getfield 11, 3) := by decide +kernel
theorem dX8_lay_9 : decode cX8_lay 9 = .ok (.arraylength, 1) := by decide +kernel
theorem dX8_lay_10 : decode cX8_lay 10 = .ok (.if_icmp .ge 32, 3) := by decide +kernel
theorem dX8_lay_13 : decode cX8_lay 13 = .ok (.aload_n 0, 1) := by decide +kernel
theorem dX8_lay_14 : decode cX8_lay 14 = .ok (.iload_n 2, 1) := by decide +kernel
theorem dX8_lay_15 : decode cX8_lay 15 = .ok (.invokevirtual 54, 3) := by decide +kernel
theorem dX8_lay_18 : decode cX8_lay 18 = .ok (.ifCond .eq 24, 3) := by decide +kernel
theorem dX8_lay_21 : decode cX8_lay 21 = .ok (.aload_n 0, 1) := by decide +kernel
theorem dX8_lay_22 : decode cX8_lay 22 = .ok (.getfield 11, 3) := by decide +kernel
theorem dX8_lay_25 : decode cX8_lay 25 = .ok (.iload_n 1, 1) := by decide +kernel
theorem dX8_lay_26 : decode cX8_lay 26 = .ok (.iload_n 2, 1) := by decide +kernel
theorem dX8_lay_27 : decode cX8_lay 27 = .ok (.iastore, 1) := by decide +kernel
theorem dX8_lay_28 : decode cX8_lay 28 = .ok (.aload_n 0, 1) := by decide +kernel
theorem dX8_lay_29 : decode cX8_lay 29 = .ok (.getfield 15, 3) := by decide +kernel
theorem dX8_lay_32 : decode cX8_lay 32 = .ok (.iload_n 2, 1) := by decide +kernel
theorem dX8_lay_33 : decode cX8_lay 33 = .ok (.iconst 1, 1) := by decide +kernel
theorem dX8_lay_34 : decode cX8_lay 34 = .ok (.bastore, 1) := by decide +kernel
theorem dX8_lay_35 : decode cX8_lay 35 = .ok (.aload_n 0, 1) := by decide +kernel
theorem dX8_lay_36 : decode cX8_lay 36 = .ok (.iload_n 1, 1) := by decide +kernel
theorem dX8_lay_37 : decode cX8_lay 37 = .ok (.iload_n 2, 1) := by decide +kernel
theorem dX8_lay_38 : decode cX8_lay 38 = .ok (.iconst (-1), 1) := by decide +kernel
theorem dX8_lay_39 : decode cX8_lay 39 = .ok (.invokevirtual 140, 3) := by decide +kernel
theorem dX8_lay_42 : decode cX8_lay 42 = .ok (.return_, 1) := by decide +kernel
theorem dX8_lift_0 : decode cX8_lift 0 = .ok (.iload_n 2, 1) := by decide +kernel
theorem dX8_lift_1 : decode cX8_lift 1 = .ok (.ifCond .lt 27, 3) := by decide +kernel
theorem dX8_lift_4 : decode cX8_lift 4 = .ok (.iload_n 2, 1) := by decide +kernel
theorem dX8_lift_5 : decode cX8_lift 5 = .ok (.aload_n 0, 1) := by decide +kernel
theorem dX8_lift_6 : decode cX8_lift 6 = .ok (.getfield 15, 3) := by decide +kernel
theorem dX8_lift_9 : decode cX8_lift 9 = .ok (.arraylength, 1) := by decide +kernel
theorem dX8_lift_10 : decode cX8_lift 10 = .ok (.if_icmp .ge 18, 3) := by decide +kernel
theorem dX8_lift_13 : decode cX8_lift 13 = .ok (.aload_n 0, 1) := by decide +kernel
theorem dX8_lift_14 : decode cX8_lift 14 = .ok (.getfield 15, 3) := by decide +kernel
theorem dX8_lift_17 : decode cX8_lift 17 = .ok (.iload_n 2, 1) := by decide +kernel
theorem dX8_lift_18 : decode cX8_lift 18 = .ok (.iconst 0, 1) := by decide +kernel
theorem dX8_lift_19 : decode cX8_lift 19 = .ok (.bastore, 1) := by decide +kernel
theorem dX8_lift_20 : decode cX8_lift 20 = .ok (.aload_n 0, 1) := by decide +kernel
theorem dX8_lift_21 : decode cX8_lift 21 = .ok (.iload_n 1, 1) := by decide +kernel
theorem dX8_lift_22 : decode cX8_lift 22 = .ok (.iload_n 2, 1) := by decide +kernel
theorem dX8_lift_23 : decode cX8_lift 23 = .ok (.ineg, 1) := by decide +kernel
theorem dX8_lift_24 : decode cX8_lift 24 = .ok (.iconst 1, 1) := by decide +kernel
theorem dX8_lift_25 : decode cX8_lift 25 = .ok (.invokevirtual 140, 3) := by decide +kernel
theorem dX8_lift_28 : decode cX8_lift 28 = .ok (.return_, 1) := by decide +kernel
theorem dX8_tally_0 : decode cX8_tally 0 = .ok (.iconst 0, 1) := by decide +kernel
theorem dX8_tally_1 : decode cX8_tally 1 = .ok (.istore 4, 2) := by decide +kernel
theorem dX8_tally_3 : decode cX8_tally 3 = .ok (.iload 4, 2) := by decide +kernel
theorem dX8_tally_5 : decode cX8_tally 5 = .ok (.iconst 4, 1) := by decide +kernel
theorem dX8_tally_6 : decode cX8_tally 6 = .ok (.if_icmp .ge 49, 3) := by decide +kernel
theorem dX8_tally_9 : decode cX8_tally 9 = .ok (.aload_n 0, 1) := by decide +kernel
theorem dX8_tally_10 : decode cX8_tally 10 = .ok (.iload_n 1, 1) := by decide +kernel
theorem dX8_tally_11 : decode cX8_tally 11 = .ok (.iload 4, 2) := by decide +kernel
theorem dX8_tally_13 : decode cX8_tally 13 = .ok (.invokevirtual 129, 3) := by decide +kernel
theorem dX8_tally_16 : decode cX8_tally 16 = .ok (.istore 5, 2) := by decide +kernel
theorem dX8_tally_18 : decode cX8_tally 18 = .ok (.aload_n 0, 1) := by decide +kernel
theorem dX8_tally_19 : decode cX8_tally 19 = .ok (.iload 5, 2) := by decide +kernel
theorem dX8_tally_21 : decode cX8_tally 21 = .ok (.invokevirtual 126, 3) := by decide +kernel
theorem dX8_tally_24 : decode cX8_tally 24 = .ok (.ifCond .eq 25, 3) := by decide +kernel
theorem dX8_tally_27 : decode cX8_tally 27 = .ok (.aload_n 0, 1) := by decide +kernel
theorem dX8_tally_28 : decode cX8_tally 28 = .ok (.getfield 19, 3) := by decide +kernel
theorem dX8_tally_31 : decode cX8_tally 31 = .ok (.iload 5, 2) := by decide +kernel
theorem dX8_tally_33 : decode cX8_tally 33 = .ok (.dup2, 1) := by decide +kernel
theorem dX8_tally_34 : decode cX8_tally 34 = .ok (.iaload, 1) := by decide +kernel
theorem dX8_tally_35 : decode cX8_tally 35 = .ok (.iload_n 2, 1) := by decide +kernel
theorem dX8_tally_36 : decode cX8_tally 36 = .ok (.iadd, 1) := by decide +kernel
theorem dX8_tally_37 : decode cX8_tally 37 = .ok (.iastore, 1) := by decide +kernel
theorem dX8_tally_38 : decode cX8_tally 38 = .ok (.aload_n 0, 1) := by decide +kernel
theorem dX8_tally_39 : decode cX8_tally 39 = .ok (.getfield 22, 3) := by decide +kernel
theorem dX8_tally_42 : decode cX8_tally 42 = .ok (.iload 5, 2) := by decide +kernel
theorem dX8_tally_44 : decode cX8_tally 44 = .ok (.dup2, 1) := by decide +kernel
theorem dX8_tally_45 : decode cX8_tally 45 = .ok (.iaload, 1) := by decide +kernel
theorem dX8_tally_46 : decode cX8_tally 46 = .ok (.iload_n 3, 1) := by decide +kernel
theorem dX8_tally_47 : decode cX8_tally 47 = .ok (.iadd, 1) := by decide +kernel
theorem dX8_tally_48 : decode cX8_tally 48 = .ok (.iastore, 1) := by decide +kernel
theorem dX8_tally_49 : decode cX8_tally 49 = .ok (.iinc 4 1, 3) := by decide +kernel
theorem dX8_tally_52 : decode cX8_tally 52 = .ok (.goto (-49), 3) := by decide +kernel
theorem dX8_tally_55 : decode cX8_tally 55 = .ok (.return_, 1) := by decide +kernel
theorem dX8_lineAt_0 : decode cX8_lineAt 0 = .ok (.iload_n 1, 1) := by decide +kernel
theorem dX8_lineAt_1 : decode cX8_lineAt 1 = .ok (.iconst 4, 1) := by decide +kernel
theorem dX8_lineAt_2 : decode cX8_lineAt 2 = .ok (.imul, 1) := by decide +kernel
theorem dX8_lineAt_3 : decode cX8_lineAt 3 = .ok (.iload_n 2, 1) := by decide +kernel
theorem dX8_lineAt_4 : decode cX8_lineAt 4 = .ok (.iadd, 1) := by decide +kernel
theorem dX8_lineAt_5 : decode cX8_lineAt 5 = .ok (.istore_n 3, 1) := by decide +kernel
theorem dX8_lineAt_6 : decode cX8_lineAt 6 = .ok (.iload_n 3, 1) := by decide +kernel
theorem dX8_lineAt_7 : decode cX8_lineAt 7 = .ok (.ifCond .lt 21, 3) := by decide +kernel
theorem dX8_lineAt_10 : decode cX8_lineAt 10 = .ok (.iload_n 3, 1) := by decide +kernel
theorem dX8_lineAt_11 : decode cX8_lineAt 11 = .ok (.aload_n 0, 1) := by decide +kernel
theorem dX8_lineAt_12 : decode cX8_lineAt 12 = .ok (.getfield 25, 3) := by decide +kernel
theorem dX8_lineAt_15 : decode cX8_lineAt 15 = .ok (.arraylength, 1) := by decide +kernel
theorem dX8_lineAt_16 : decode cX8_lineAt 16 = .ok (.if_icmp .ge 12, 3) := by decide +kernel
theorem dX8_lineAt_19 : decode cX8_lineAt 19 = .ok (.aload_n 0, 1) := by decide +kernel
theorem dX8_lineAt_20 : decode cX8_lineAt 20 = .ok (.getfield 25, 3) := by decide +kernel
theorem dX8_lineAt_23 : decode cX8_lineAt 23 = .ok (.iload_n 3, 1) := by decide +kernel
theorem dX8_lineAt_24 : decode cX8_lineAt 24 = .ok (.iaload, 1) := by decide +kernel
theorem dX8_lineAt_25 : decode cX8_lineAt 25 = .ok (.goto 4, 3) := by decide +kernel
theorem dX8_lineAt_28 : decode cX8_lineAt 28 = .ok (.iconst (-1), 1) := by decide +kernel
theorem dX8_lineAt_29 : decode cX8_lineAt 29 = .ok (.ireturn, 1) := by decide +kernel
theorem dX8_isLine_0 : decode cX8_isLine 0 = .ok (.iload_n 1, 1) := by decide +kernel
theorem dX8_isLine_1 : decode cX8_isLine 1 = .ok (.ifCond .lt 25, 3) := by decide +kernel
theorem dX8_isLine_4 : decode cX8_isLine 4 = .ok (.iload_n 1, 1) := by decide +kernel
theorem dX8_isLine_5 : decode cX8_isLine 5 = .ok (.aload_n 0, 1) := by decide +kernel
theorem dX8_isLine_6 : decode cX8_isLine 6 = .ok (.getfield 19, 3) := by decide +kernel
theorem dX8_isLine_9 : decode cX8_isLine 9 = .ok (.arraylength, 1) := by decide +kernel
theorem dX8_isLine_10 : decode cX8_isLine 10 = .ok (.if_icmp .ge 16, 3) := by decide +kernel
theorem dX8_isLine_13 : decode cX8_isLine 13 = .ok (.iload_n 1, 1) := by decide +kernel
theorem dX8_isLine_14 : decode cX8_isLine 14 = .ok (.aload_n 0, 1) := by decide +kernel
theorem dX8_isLine_15 : decode cX8_isLine 15 = .ok (.getfield 22, 3) := by decide +kernel
theorem dX8_isLine_18 : decode cX8_isLine 18 = .ok (.arraylength, 1) := by decide +kernel
theorem dX8_isLine_19 : decode cX8_isLine 19 = .ok (.if_icmp .ge 7, 3) := by decide +kernel
theorem dX8_isLine_22 : decode cX8_isLine 22 = .ok (.iconst 1, 1) := by decide +kernel
theorem dX8_isLine_23 : decode cX8_isLine 23 = .ok (.goto 4, 3) := by decide +kernel
theorem dX8_isLine_26 : decode cX8_isLine 26 = .ok (.iconst 0, 1) := by decide +kernel
theorem dX8_isLine_27 : decode cX8_isLine 27 = .ok (.ireturn, 1) := by decide +kernel
theorem dX8_isFree_0 : decode cX8_isFree 0 = .ok (.iload_n 1, 1) := by decide +kernel
theorem dX8_isFree_1 : decode cX8_isFree 1 = .ok (.iconst 1, 1) := by decide +kernel
theorem dX8_isFree_2 : decode cX8_isFree 2 = .ok (.if_icmp .lt 38, 3) := by decide +kernel
theorem dX8_isFree_5 : decode cX8_isFree 5 = .ok (.iload_n 1, 1) := by decide +kernel
theorem dX8_isFree_6 : decode cX8_isFree 6 = .ok (.aload_n 0, 1) := by decide +kernel
theorem dX8_isFree_7 : decode cX8_isFree 7 = .ok (.getfield 31, 3) := by decide +kernel
theorem dX8_isFree_10 : decode cX8_isFree 10 = .ok (.aload_n 0, 1) := by decide +kernel
theorem dX8_isFree_11 : decode cX8_isFree 11 = .ok (.getfield 31, 3) := by decide +kernel
theorem dX8_isFree_14 : decode cX8_isFree 14 = .ok (.imul, 1) := by decide +kernel
theorem dX8_isFree_15 : decode cX8_isFree 15 = .ok (.if_icmp .gt 25, 3) := by decide +kernel
theorem dX8_isFree_18 : decode cX8_isFree 18 = .ok (.iload_n 1, 1) := by decide +kernel
theorem dX8_isFree_19 : decode cX8_isFree 19 = .ok (.aload_n 0, 1) := by decide +kernel
theorem dX8_isFree_20 : decode cX8_isFree 20 = .ok (.getfield 15, 3) := by decide +kernel
theorem dX8_isFree_23 : decode cX8_isFree 23 = .ok (.arraylength, 1) := by decide +kernel
theorem dX8_isFree_24 : decode cX8_isFree 24 = .ok (.if_icmp .ge 16, 3) := by decide +kernel
theorem dX8_isFree_27 : decode cX8_isFree 27 = .ok (.aload_n 0, 1) := by decide +kernel
theorem dX8_isFree_28 : decode cX8_isFree 28 = .ok (.getfield 15, 3) := by decide +kernel
theorem dX8_isFree_31 : decode cX8_isFree 31 = .ok (.iload_n 1, 1) := by decide +kernel
theorem dX8_isFree_32 : decode cX8_isFree 32 = .ok (.baload, 1) := by decide +kernel
theorem dX8_isFree_33 : decode cX8_isFree 33 = .ok (.ifCond .ne 7, 3) := by decide +kernel
theorem dX8_isFree_36 : decode cX8_isFree 36 = .ok (.iconst 1, 1) := by decide +kernel
theorem dX8_isFree_37 : decode cX8_isFree 37 = .ok (.goto 4, 3) := by decide +kernel
theorem dX8_isFree_40 : decode cX8_isFree 40 = .ok (.iconst 0, 1) := by decide +kernel
theorem dX8_isFree_41 : decode cX8_isFree 41 = .ok (.ireturn, 1) := by decide +kernel
theorem dX9_tell_0 : decode cX9_tell 0 = .ok (.aload_n 0, 1) := by decide +kernel
theorem dX9_tell_1 : decode cX9_tell 1 = .ok (.invokevirtual 9, 3) := by decide +kernel
theorem dX9_tell_4 : decode cX9_tell 4 = .ok (.iconst 1, 1) := by decide +kernel
theorem dX9_tell_5 : decode cX9_tell 5 = .ok (.if_icmp .ne 13, 3) := by decide +kernel
theorem dX9_tell_8 : decode cX9_tell 8 = .ok (.aload_n 0, 1) := by decide +kernel
theorem dX9_tell_9 : decode cX9_tell 9 = .ok (.iconst 0, 1) := by decide +kernel
theorem dX9_tell_10 : decode cX9_tell 10 = .ok (.invokevirtual 15, 3) := by decide +kernel
theorem dX9_tell_13 : decode cX9_tell 13 = .ok (.iload_n 1, 1) := by decide +kernel
theorem dX9_tell_14 : decode cX9_tell 14 = .ok (.invokestatic 19, 3) := by decide +kernel
theorem dX9_tell_17 : decode cX9_tell 17 = .ok (.ireturn, 1) := by decide +kernel
theorem dX9_tell_18 : decode cX9_tell 18 = .ok (.iconst 0, 1) := by decide +kernel
theorem dX9_tell_19 : decode cX9_tell 19 = .ok (.istore_n 2, 1) := by decide +kernel
theorem dX9_tell_20 : decode cX9_tell 20 = .ok (.iconst 0, 1) := by decide +kernel
theorem dX9_tell_21 : decode cX9_tell 21 = .ok (.istore_n 3, 1) := by decide +kernel
theorem dX9_tell_22 : decode cX9_tell 22 = .ok (.iload_n 3, 1) := by decide +kernel
theorem dX9_tell_23 : decode cX9_tell 23 = .ok (.aload_n 0, 1) := by decide +kernel
theorem dX9_tell_24 : decode cX9_tell 24 = .ok (.invokevirtual 25, 3) := by decide +kernel
theorem dX9_tell_27 : decode cX9_tell 27 = .ok (.if_icmp .ge 41, 3) := by decide +kernel
theorem dX9_tell_30 : decode cX9_tell 30 = .ok (.aload_n 0, 1) := by decide +kernel
theorem dX9_tell_31 : decode cX9_tell 31 = .ok (.iload_n 3, 1) := by decide +kernel
theorem dX9_tell_32 : decode cX9_tell 32 = .ok (.invokestatic 28, 3) := by decide +kernel
theorem dX9_tell_35 : decode cX9_tell 35 = .ok (.istore 4, 2) := by decide +kernel
theorem dX9_tell_37 : decode cX9_tell 37 = .ok (.iload 4, 2) := by decide +kernel
theorem dX9_tell_39 : decode cX9_tell 39 = .ok (.iconst (-1), 1) := by decide +kernel
theorem dX9_tell_40 : decode cX9_tell 40 = .ok (.if_icmp .eq 22, 3) := by decide +kernel
theorem dX9_tell_43 : decode cX9_tell 43 = .ok (.iload_n 1, 1) := by decide +kernel
theorem dX9_tell_44 : decode cX9_tell 44 = .ok (.ifCond .eq 15, 3) := by decide +kernel
theorem dX9_tell_47 : decode cX9_tell 47 = .ok (.iload_n 1, 1) := by decide +kernel
theorem dX9_tell_48 : decode cX9_tell 48 = .ok (.iconst 1, 1) := by decide +kernel
theorem dX9_tell_49 : decode cX9_tell 49 = .ok (.if_icmp .ne 7, 3) := by decide +kernel
theorem dX9_tell_52 : decode cX9_tell 52 = .ok (.iload_n 3, 1) := by decide +kernel
theorem dX9_tell_53 : decode cX9_tell 53 = .ok (.goto 5, 3) := by decide +kernel
theorem dX9_tell_56 : decode cX9_tell 56 = .ok (.iload 4, 2) := by decide +kernel
theorem dX9_tell_58 : decode cX9_tell 58 = .ok (.ireturn, 1) := by decide +kernel
theorem dX9_tell_59 : decode cX9_tell 59 = .ok (.iinc 2 1, 3) := by decide +kernel
theorem dX9_tell_62 : decode cX9_tell 62 = .ok (.iinc 3 1, 3) := by decide +kernel
theorem dX9_tell_65 : decode cX9_tell 65 = .ok (.goto (-43), 3) := by decide +kernel
theorem dX9_tell_68 : decode cX9_tell 68 = .ok (.iload_n 1, 1) := by decide +kernel
theorem dX9_tell_69 : decode cX9_tell 69 = .ok (.ifCond .ne 7, 3) := by decide +kernel
theorem dX9_tell_72 : decode cX9_tell 72 = .ok (.iload_n 2, 1) := by decide +kernel
theorem dX9_tell_73 : decode cX9_tell 73 = .ok (.goto 4, 3) := by decide +kernel
theorem dX9_tell_76 : decode cX9_tell 76 = .ok (.iconst (-1), 1) := by decide +kernel
theorem dX9_tell_77 : decode cX9_tell 77 = .ok (.ireturn, 1) := by decide +kernel
theorem dX9_tellOfOnePoint_0 : decode cX9_tellOfOnePoint 0 = .ok (.iload_n 1, 1) := by decide +kernel
theorem dX9_tellOfOnePoint_1 : decode cX9_tellOfOnePoint 1 = .ok (.lookupswitch 43 #[(0, 27), (1, 41)], 27) := by decide +kernel
theorem dX9_tellOfOnePoint_28 : decode cX9_tellOfOnePoint 28 = .ok (.iload_n 0, 1) := by decide +kernel
theorem dX9_tellOfOnePoint_29 : decode cX9_tellOfOnePoint 29 = .ok (.ifCond .ne 9, 3) := by decide +kernel
theorem dX9_tellOfOnePoint_32 : decode cX9_tellOfOnePoint 32 = .ok (.sipush 999, 3) := by decide +kernel
theorem dX9_tellOfOnePoint_35 : decode cX9_tellOfOnePoint 35 = .ok (.goto 6, 3) := by decide +kernel
theorem dX9_tellOfOnePoint_38 : decode cX9_tellOfOnePoint 38 = .ok (.sipush 998, 3) := by decide +kernel
theorem dX9_tellOfOnePoint_41 : decode cX9_tellOfOnePoint 41 = .ok (.ireturn, 1) := by decide +kernel
theorem dX9_tellOfOnePoint_42 : decode cX9_tellOfOnePoint 42 = .ok (.iconst 0, 1) := by decide +kernel
theorem dX9_tellOfOnePoint_43 : decode cX9_tellOfOnePoint 43 = .ok (.ireturn, 1) := by decide +kernel
theorem dX9_tellOfOnePoint_44 : decode cX9_tellOfOnePoint 44 = .ok (.iload_n 0, 1) := by decide +kernel
theorem dX9_tellOfOnePoint_45 : decode cX9_tellOfOnePoint 45 = .ok (.iconst 1, 1) := by decide +kernel
theorem dX9_tellOfOnePoint_46 : decode cX9_tellOfOnePoint 46 = .ok (.if_icmp .ne 7, 3) := by decide +kernel
theorem dX9_tellOfOnePoint_49 : decode cX9_tellOfOnePoint 49 = .ok (.iconst 2, 1) := by decide +kernel
theorem dX9_tellOfOnePoint_50 : decode cX9_tellOfOnePoint 50 = .ok (.goto 4, 3) := by decide +kernel
theorem dX9_tellOfOnePoint_53 : decode cX9_tellOfOnePoint 53 = .ok (.iconst 1, 1) := by decide +kernel
theorem dX9_tellOfOnePoint_54 : decode cX9_tellOfOnePoint 54 = .ok (.ireturn, 1) := by decide +kernel
theorem dX9_mendingAt_0 : decode cX9_mendingAt 0 = .ok (.aload_n 0, 1) := by decide +kernel
theorem dX9_mendingAt_1 : decode cX9_mendingAt 1 = .ok (.invokevirtual 9, 3) := by decide +kernel
theorem dX9_mendingAt_4 : decode cX9_mendingAt 4 = .ok (.iload_n 1, 1) := by decide +kernel
theorem dX9_mendingAt_5 : decode cX9_mendingAt 5 = .ok (.invokestatic 32, 3) := by decide +kernel
theorem dX9_mendingAt_8 : decode cX9_mendingAt 8 = .ok (.istore_n 2, 1) := by decide +kernel
theorem dX9_mendingAt_9 : decode cX9_mendingAt 9 = .ok (.iload_n 2, 1) := by decide +kernel
theorem dX9_mendingAt_10 : decode cX9_mendingAt 10 = .ok (.ifCond .ne 7, 3) := by decide +kernel
theorem dX9_mendingAt_13 : decode cX9_mendingAt 13 = .ok (.iconst 1, 1) := by decide +kernel
theorem dX9_mendingAt_14 : decode cX9_mendingAt 14 = .ok (.goto 4, 3) := by decide +kernel
theorem dX9_mendingAt_17 : decode cX9_mendingAt 17 = .ok (.iconst 0, 1) := by decide +kernel
theorem dX9_mendingAt_18 : decode cX9_mendingAt 18 = .ok (.istore_n 3, 1) := by decide +kernel
theorem dX9_mendingAt_19 : decode cX9_mendingAt 19 = .ok (.aload_n 0, 1) := by decide +kernel
theorem dX9_mendingAt_20 : decode cX9_mendingAt 20 = .ok (.iload_n 1, 1) := by decide +kernel
theorem dX9_mendingAt_21 : decode cX9_mendingAt 21 = .ok (.invokevirtual 15, 3) := by decide +kernel
theorem dX9_mendingAt_24 : decode cX9_mendingAt 24 = .ok (.istore 4, 2) := by decide +kernel
theorem dX9_mendingAt_26 : decode cX9_mendingAt 26 = .ok (.iload 4, 2) := by decide +kernel
theorem dX9_mendingAt_28 : decode cX9_mendingAt 28 = .ok (.aload_n 0, 1) := by decide +kernel
theorem dX9_mendingAt_29 : decode cX9_mendingAt 29 = .ok (.iconst 0, 1) := by decide +kernel
theorem dX9_mendingAt_30 : decode cX9_mendingAt 30 = .ok (.iload_n 3, 1) := by decide +kernel
theorem dX9_mendingAt_31 : decode cX9_mendingAt 31 = .ok (.invokevirtual 37, 3) := by decide +kernel
theorem dX9_mendingAt_34 : decode cX9_mendingAt 34 = .ok (.iadd, 1) := by decide +kernel
theorem dX9_mendingAt_35 : decode cX9_mendingAt 35 = .ok (.aload_n 0, 1) := by decide +kernel
theorem dX9_mendingAt_36 : decode cX9_mendingAt 36 = .ok (.iconst 0, 1) := by decide +kernel
theorem dX9_mendingAt_37 : decode cX9_mendingAt 37 = .ok (.iload_n 2, 1) := by decide +kernel
theorem dX9_mendingAt_38 : decode cX9_mendingAt 38 = .ok (.invokevirtual 37, 3) := by decide +kernel
theorem dX9_mendingAt_41 : decode cX9_mendingAt 41 = .ok (.isub, 1) := by decide +kernel
theorem dX9_mendingAt_42 : decode cX9_mendingAt 42 = .ok (.istore 5, 2) := by decide +kernel
theorem dX9_mendingAt_44 : decode cX9_mendingAt 44 = .ok (.iload 5, 2) := by decide +kernel
theorem dX9_mendingAt_46 : decode cX9_mendingAt 46 = .ok (.iload 4, 2) := by decide +kernel
theorem dX9_mendingAt_48 : decode cX9_mendingAt 48 = .ok (.if_icmp .eq 17, 3) := by decide +kernel
theorem dX9_mendingAt_51 : decode cX9_mendingAt 51 = .ok (.iload 5, 2) := by decide +kernel
theorem dX9_mendingAt_53 : decode cX9_mendingAt 53 = .ok (.iconst 1, 1) := by decide +kernel
theorem dX9_mendingAt_54 : decode cX9_mendingAt 54 = .ok (.if_icmp .lt 11, 3) := by decide +kernel
theorem dX9_mendingAt_57 : decode cX9_mendingAt 57 = .ok (.iload 5, 2) := by decide +kernel
theorem dX9_mendingAt_59 : decode cX9_mendingAt 59 = .ok (.sipush 999, 3) := by decide +kernel
theorem dX9_mendingAt_62 : decode cX9_mendingAt 62 = .ok (.if_icmp .le 5, 3) := by decide +kernel
theorem dX9_mendingAt_65 : decode cX9_mendingAt 65 = .ok (.iconst (-1), 1) := by decide +kernel
theorem dX9_mendingAt_66 : decode cX9_mendingAt 66 = .ok (.ireturn, 1) := by decide +kernel
theorem dX9_mendingAt_67 : decode cX9_mendingAt 67 = .ok (.aload_n 0, 1) := by decide +kernel
theorem dX9_mendingAt_68 : decode cX9_mendingAt 68 = .ok (.iload_n 1, 1) := by decide +kernel
theorem dX9_mendingAt_69 : decode cX9_mendingAt 69 = .ok (.iload 5, 2) := by decide +kernel
theorem dX9_mendingAt_71 : decode cX9_mendingAt 71 = .ok (.invokevirtual 40, 3) := by decide +kernel
theorem dX9_mendingAt_74 : decode cX9_mendingAt 74 = .ok (.pop, 1) := by decide +kernel
theorem dX9_mendingAt_75 : decode cX9_mendingAt 75 = .ok (.aload_n 0, 1) := by decide +kernel
theorem dX9_mendingAt_76 : decode cX9_mendingAt 76 = .ok (.invokestatic 43, 3) := by decide +kernel
theorem dX9_mendingAt_79 : decode cX9_mendingAt 79 = .ok (.istore 6, 2) := by decide +kernel
theorem dX9_mendingAt_81 : decode cX9_mendingAt 81 = .ok (.aload_n 0, 1) := by decide +kernel
theorem dX9_mendingAt_82 : decode cX9_mendingAt 82 = .ok (.iload_n 1, 1) := by decide +kernel
theorem dX9_mendingAt_83 : decode cX9_mendingAt 83 = .ok (.iload 4, 2) := by decide +kernel
theorem dX9_mendingAt_85 : decode cX9_mendingAt 85 = .ok (.invokevirtual 40, 3) := by decide +kernel
theorem dX9_mendingAt_88 : decode cX9_mendingAt 88 = .ok (.pop, 1) := by decide +kernel
theorem dX9_mendingAt_89 : decode cX9_mendingAt 89 = .ok (.iload 6, 2) := by decide +kernel
theorem dX9_mendingAt_91 : decode cX9_mendingAt 91 = .ok (.ifCond .eq 8, 3) := by decide +kernel
theorem dX9_mendingAt_94 : decode cX9_mendingAt 94 = .ok (.iload 5, 2) := by decide +kernel
theorem dX9_mendingAt_96 : decode cX9_mendingAt 96 = .ok (.goto 4, 3) := by decide +kernel
theorem dX9_mendingAt_99 : decode cX9_mendingAt 99 = .ok (.iconst (-1), 1) := by decide +kernel
theorem dX9_mendingAt_100 : decode cX9_mendingAt 100 = .ok (.ireturn, 1) := by decide +kernel
theorem dX10_init_0 : decode cX10_init 0 = .ok (.aload_n 0, 1) := by decide +kernel
theorem dX10_init_1 : decode cX10_init 1 = .ok (.invokespecial 5, 3) := by decide +kernel
theorem dX10_init_4 : decode cX10_init 4 = .ok (.aload_n 0, 1) := by decide +kernel
theorem dX10_init_5 : decode cX10_init 5 = .ok (.bipush 38, 2) := by decide +kernel
theorem dX10_init_7 : decode cX10_init 7 = .ok (.bipush 38, 2) := by decide +kernel
theorem dX10_init_9 : decode cX10_init 9 = .ok (.multianewarray 11 2, 4) := by decide +kernel
theorem dX10_init_13 : decode cX10_init 13 = .ok (.putfield 13, 3) := by decide +kernel
theorem dX10_init_16 : decode cX10_init 16 = .ok (.aload_n 0, 1) := by decide +kernel
theorem dX10_init_17 : decode cX10_init 17 = .ok (.bipush 38, 2) := by decide +kernel
theorem dX10_init_19 : decode cX10_init 19 = .ok (.newarray .int, 2) := by decide +kernel
theorem dX10_init_21 : decode cX10_init 21 = .ok (.putfield 16, 3) := by decide +kernel
theorem dX10_init_24 : decode cX10_init 24 = .ok (.aload_n 0, 1) := by decide +kernel
theorem dX10_init_25 : decode cX10_init 25 = .ok (.bipush 38, 2) := by decide +kernel
theorem dX10_init_27 : decode cX10_init 27 = .ok (.newarray .int, 2) := by decide +kernel
theorem dX10_init_29 : decode cX10_init 29 = .ok (.putfield 20, 3) := by decide +kernel
theorem dX10_init_32 : decode cX10_init 32 = .ok (.aload_n 0, 1) := by decide +kernel
theorem dX10_init_33 : decode cX10_init 33 = .ok (.iconst 1, 1) := by decide +kernel
theorem dX10_init_34 : decode cX10_init 34 = .ok (.putfield 23, 3) := by decide +kernel
theorem dX10_init_37 : decode cX10_init 37 = .ok (.return_, 1) := by decide +kernel
theorem dX10_dimensionOf_0 : decode cX10_dimensionOf 0 = .ok (.aload_n 0, 1) := by decide +kernel
theorem dX10_dimensionOf_1 : decode cX10_dimensionOf 1 = .ok (.iload_n 1, 1) := by decide +kernel
theorem dX10_dimensionOf_2 : decode cX10_dimensionOf 2 = .ok (.putfield 23, 3) := by decide +kernel
theorem dX10_dimensionOf_5 : decode cX10_dimensionOf 5 = .ok (.aload_n 0, 1) := by decide +kernel
theorem dX10_dimensionOf_6 : decode cX10_dimensionOf 6 = .ok (.iconst 0, 1) := by decide +kernel
theorem dX10_dimensionOf_7 : decode cX10_dimensionOf 7 = .ok (.putfield 27, 3) := by decide +kernel
theorem dX10_dimensionOf_10 : decode cX10_dimensionOf 10 = .ok (.aload_n 0, 1) := by decide +kernel
theorem dX10_dimensionOf_11 : decode cX10_dimensionOf 11 = .ok (.getfield 23, 3) := by decide +kernel
theorem dX10_dimensionOf_14 : decode cX10_dimensionOf 14 = .ok (.aload_n 0, 1) := by decide +kernel
theorem dX10_dimensionOf_15 : decode cX10_dimensionOf 15 = .ok (.getfield 23, 3) := by decide +kernel
theorem dX10_dimensionOf_18 : decode cX10_dimensionOf 18 = .ok (.imul, 1) := by decide +kernel
theorem dX10_dimensionOf_19 : decode cX10_dimensionOf 19 = .ok (.istore_n 3, 1) := by decide +kernel
theorem dX10_dimensionOf_20 : decode cX10_dimensionOf 20 = .ok (.iload_n 2, 1) := by decide +kernel
theorem dX10_dimensionOf_21 : decode cX10_dimensionOf 21 = .ok (.bipush 30, 2) := by decide +kernel
theorem dX10_dimensionOf_23 : decode cX10_dimensionOf 23 = .ok (.iand, 1) := by decide +kernel
theorem dX10_dimensionOf_24 : decode cX10_dimensionOf 24 = .ok (.ifCond .eq 11, 3) := by decide +kernel
theorem dX10_dimensionOf_27 : decode cX10_dimensionOf 27 = .ok (.aload_n 0, 1) := by decide +kernel
theorem dX10_dimensionOf_28 : decode cX10_dimensionOf 28 = .ok (.iload_n 2, 1) := by decide +kernel
theorem dX10_dimensionOf_29 : decode cX10_dimensionOf 29 = .ok (.invokevirtual 30, 3) := by decide +kernel
theorem dX10_dimensionOf_32 : decode cX10_dimensionOf 32 = .ok (.iinc 3 1, 3) := by decide +kernel
theorem dX10_dimensionOf_35 : decode cX10_dimensionOf 35 = .ok (.iload_n 2, 1) := by decide +kernel
theorem dX10_dimensionOf_36 : decode cX10_dimensionOf 36 = .ok (.bipush 32, 2) := by decide +kernel
theorem dX10_dimensionOf_38 : decode cX10_dimensionOf 38 = .ok (.iand, 1) := by decide +kernel
theorem dX10_dimensionOf_39 : decode cX10_dimensionOf 39 = .ok (.ifCond .eq 10, 3) := by decide +kernel
theorem dX10_dimensionOf_42 : decode cX10_dimensionOf 42 = .ok (.aload_n 0, 1) := by decide +kernel
theorem dX10_dimensionOf_43 : decode cX10_dimensionOf 43 = .ok (.invokevirtual 34, 3) := by decide +kernel
theorem dX10_dimensionOf_46 : decode cX10_dimensionOf 46 = .ok (.iinc 3 1, 3) := by decide +kernel
theorem dX10_dimensionOf_49 : decode cX10_dimensionOf 49 = .ok (.iload_n 3, 1) := by decide +kernel
theorem dX10_dimensionOf_50 : decode cX10_dimensionOf 50 = .ok (.aload_n 0, 1) := by decide +kernel
theorem dX10_dimensionOf_51 : decode cX10_dimensionOf 51 = .ok (.getfield 27, 3) := by decide +kernel
theorem dX10_dimensionOf_54 : decode cX10_dimensionOf 54 = .ok (.isub, 1) := by decide +kernel
theorem dX10_dimensionOf_55 : decode cX10_dimensionOf 55 = .ok (.ireturn, 1) := by decide +kernel
theorem dX10_addLines_0 : decode cX10_addLines 0 = .ok (.iload_n 1, 1) := by decide +kernel
theorem dX10_addLines_1 : decode cX10_addLines 1 = .ok (.bipush 16, 2) := by decide +kernel
theorem dX10_addLines_3 : decode cX10_addLines 3 = .ok (.iand, 1) := by decide +kernel
theorem dX10_addLines_4 : decode cX10_addLines 4 = .ok (.ifCond .eq 7, 3) := by decide +kernel
theorem dX10_addLines_7 : decode cX10_addLines 7 = .ok (.iconst 1, 1) := by decide +kernel
theorem dX10_addLines_8 : decode cX10_addLines 8 = .ok (.goto 4, 3) := by decide +kernel
theorem dX10_addLines_11 : decode cX10_addLines 11 = .ok (.iconst 0, 1) := by decide +kernel
theorem dX10_addLines_12 : decode cX10_addLines 12 = .ok (.istore_n 2, 1) := by decide +kernel
theorem dX10_addLines_13 : decode cX10_addLines 13 = .ok (.iload_n 1, 1) := by decide +kernel
theorem dX10_addLines_14 : decode cX10_addLines 14 = .ok (.bipush 8, 2) := by decide +kernel
theorem dX10_addLines_16 : decode cX10_addLines 16 = .ok (.iand, 1) := by decide +kernel
theorem dX10_addLines_17 : decode cX10_addLines 17 = .ok (.ifCond .eq 7, 3) := by decide +kernel
theorem dX10_addLines_20 : decode cX10_addLines 20 = .ok (.iconst 1, 1) := by decide +kernel
theorem dX10_addLines_21 : decode cX10_addLines 21 = .ok (.goto 4, 3) := by decide +kernel
theorem dX10_addLines_24 : decode cX10_addLines 24 = .ok (.iconst 0, 1) := by decide +kernel
theorem dX10_addLines_25 : decode cX10_addLines 25 = .ok (.istore_n 3, 1) := by decide +kernel
theorem dX10_addLines_26 : decode cX10_addLines 26 = .ok (.iconst 0, 1) := by decide +kernel
theorem dX10_addLines_27 : decode cX10_addLines 27 = .ok (.istore 4, 2) := by decide +kernel
theorem dX10_addLines_29 : decode cX10_addLines 29 = .ok (.iload 4, 2) := by decide +kernel
theorem dX10_addLines_31 : decode cX10_addLines 31 = .ok (.aload_n 0, 1) := by decide +kernel
theorem dX10_addLines_32 : decode cX10_addLines 32 = .ok (.getfield 23, 3) := by decide +kernel
theorem dX10_addLines_35 : decode cX10_addLines 35 = .ok (.if_icmp .ge 81, 3) := by decide +kernel
theorem dX10_addLines_38 : decode cX10_addLines 38 = .ok (.iload_n 1, 1) := by decide +kernel
theorem dX10_addLines_39 : decode cX10_addLines 39 = .ok (.iconst 2, 1) := by decide +kernel
theorem dX10_addLines_40 : decode cX10_addLines 40 = .ok (.iand, 1) := by decide +kernel
theorem dX10_addLines_41 : decode cX10_addLines 41 = .ok (.ifCond .eq 10, 3) := by decide +kernel
theorem dX10_addLines_44 : decode cX10_addLines 44 = .ok (.aload_n 0, 1) := by decide +kernel
theorem dX10_addLines_45 : decode cX10_addLines 45 = .ok (.iconst 0, 1) := by decide +kernel
theorem dX10_addLines_46 : decode cX10_addLines 46 = .ok (.iload 4, 2) := by decide +kernel
theorem dX10_addLines_48 : decode cX10_addLines 48 = .ok (.invokevirtual 37, 3) := by decide +kernel
theorem dX10_addLines_51 : decode cX10_addLines 51 = .ok (.iload_n 1, 1) := by decide +kernel
theorem dX10_addLines_52 : decode cX10_addLines 52 = .ok (.iconst 4, 1) := by decide +kernel
theorem dX10_addLines_53 : decode cX10_addLines 53 = .ok (.iand, 1) := by decide +kernel
theorem dX10_addLines_54 : decode cX10_addLines 54 = .ok (.ifCond .eq 10, 3) := by decide +kernel
theorem dX10_addLines_57 : decode cX10_addLines 57 = .ok (.aload_n 0, 1) := by decide +kernel
theorem dX10_addLines_58 : decode cX10_addLines 58 = .ok (.iconst 1, 1) := by decide +kernel
theorem dX10_addLines_59 : decode cX10_addLines 59 = .ok (.iload 4, 2) := by decide +kernel
theorem dX10_addLines_61 : decode cX10_addLines 61 = .ok (.invokevirtual 37, 3) := by decide +kernel
theorem dX10_addLines_64 : decode cX10_addLines 64 = .ok (.iload_n 2, 1) := by decide +kernel
theorem dX10_addLines_65 : decode cX10_addLines 65 = .ok (.ifCond .ne 12, 3) := by decide +kernel
theorem dX10_addLines_68 : decode cX10_addLines 68 = .ok (.iload_n 3, 1) := by decide +kernel
theorem dX10_addLines_69 : decode cX10_addLines 69 = .ok (.ifCond .eq 15, 3) := by decide +kernel
theorem dX10_addLines_72 : decode cX10_addLines 72 = .ok (.iload 4, 2) := by decide +kernel
theorem dX10_addLines_74 : decode cX10_addLines 74 = .ok (.ifCond .ne 10, 3) := by decide +kernel
theorem dX10_addLines_77 : decode cX10_addLines 77 = .ok (.aload_n 0, 1) := by decide +kernel
theorem dX10_addLines_78 : decode cX10_addLines 78 = .ok (.iconst 2, 1) := by decide +kernel
theorem dX10_addLines_79 : decode cX10_addLines 79 = .ok (.iload 4, 2) := by decide +kernel
theorem dX10_addLines_81 : decode cX10_addLines 81 = .ok (.invokevirtual 37, 3) := by decide +kernel
theorem dX10_addLines_84 : decode cX10_addLines 84 = .ok (.iload_n 2, 1) := by decide +kernel
theorem dX10_addLines_85 : decode cX10_addLines 85 = .ok (.ifCond .ne 18, 3) := by decide +kernel
theorem dX10_addLines_88 : decode cX10_addLines 88 = .ok (.iload_n 3, 1) := by decide +kernel
theorem dX10_addLines_89 : decode cX10_addLines 89 = .ok (.ifCond .eq 21, 3) := by decide +kernel
theorem dX10_addLines_92 : decode cX10_addLines 92 = .ok (.iload 4, 2) := by decide +kernel
theorem dX10_addLines_94 : decode cX10_addLines 94 = .ok (.aload_n 0, 1) := by decide +kernel
theorem dX10_addLines_95 : decode cX10_addLines 95 = .ok (.getfield 23, 3) := by decide +kernel
theorem dX10_addLines_98 : decode cX10_addLines 98 = .ok (.iconst 1, 1) := by decide +kernel
theorem dX10_addLines_99 : decode cX10_addLines 99 = .ok (.isub, 1) := by decide +kernel
theorem dX10_addLines_100 : decode cX10_addLines 100 = .ok (.if_icmp .ne 10, 3) := by decide +kernel
theorem dX10_addLines_103 : decode cX10_addLines 103 = .ok (.aload_n 0, 1) := by decide +kernel
theorem dX10_addLines_104 : decode cX10_addLines 104 = .ok (.iconst 3, 1) := by decide +kernel
theorem dX10_addLines_105 : decode cX10_addLines 105 = .ok (.iload 4, 2) := by decide +kernel
theorem dX10_addLines_107 : decode cX10_addLines 107 = .ok (.invokevirtual 37, 3) := by decide +kernel
theorem dX10_addLines_110 : decode cX10_addLines 110 = .ok (.iinc 4 1, 3) := by decide +kernel
theorem dX10_addLines_113 : decode cX10_addLines 113 = .ok (.goto (-84), 3) := by decide +kernel
theorem dX10_addLines_116 : decode cX10_addLines 116 = .ok (.return_, 1) := by decide +kernel
theorem dX10_addLine_0 : decode cX10_addLine 0 = .ok (.aload_n 0, 1) := by decide +kernel
theorem dX10_addLine_1 : decode cX10_addLine 1 = .ok (.invokevirtual 41, 3) := by decide +kernel
theorem dX10_addLine_4 : decode cX10_addLine 4 = .ok (.iconst 0, 1) := by decide +kernel
theorem dX10_addLine_5 : decode cX10_addLine 5 = .ok (.istore_n 3, 1) := by decide +kernel
theorem dX10_addLine_6 : decode cX10_addLine 6 = .ok (.iload_n 3, 1) := by decide +kernel
theorem dX10_addLine_7 : decode cX10_addLine 7 = .ok (.aload_n 0, 1) := by decide +kernel
theorem dX10_addLine_8 : decode cX10_addLine 8 = .ok (.getfield 23, 3) := by decide +kernel
theorem dX10_addLine_11 : decode cX10_addLine 11 = .ok (.if_icmp .ge 24, 3) := by decide +kernel
theorem dX10_addLine_14 : decode cX10_addLine 14 = .ok (.aload_n 0, 1) := by decide +kernel
theorem dX10_addLine_15 : decode cX10_addLine 15 = .ok (.aload_n 0, 1) := by decide +kernel
theorem dX10_addLine_16 : decode cX10_addLine 16 = .ok (.getfield 23, 3) := by decide +kernel
theorem dX10_addLine_19 : decode cX10_addLine 19 = .ok (.iload_n 1, 1) := by decide +kernel
theorem dX10_addLine_20 : decode cX10_addLine 20 = .ok (.iload_n 2, 1) := by decide +kernel
theorem dX10_addLine_21 : decode cX10_addLine 21 = .ok (.iload_n 3, 1) := by decide +kernel
theorem dX10_addLine_22 : decode cX10_addLine 22 = .ok (.invokestatic 44, 3) := by decide +kernel
theorem dX10_addLine_25 : decode cX10_addLine 25 = .ok (.iconst 1, 1) := by decide +kernel
theorem dX10_addLine_26 : decode cX10_addLine 26 = .ok (.invokevirtual 50, 3) := by decide +kernel
theorem dX10_addLine_29 : decode cX10_addLine 29 = .ok (.iinc 3 1, 3) := by decide +kernel
theorem dX10_addLine_32 : decode cX10_addLine 32 = .ok (.goto (-26), 3) := by decide +kernel
theorem dX10_addLine_35 : decode cX10_addLine 35 = .ok (.aload_n 0, 1) := by decide +kernel
theorem dX10_addLine_36 : decode cX10_addLine 36 = .ok (.bipush 36, 2) := by decide +kernel
theorem dX10_addLine_38 : decode cX10_addLine 38 = .ok (.ldc 53, 2) := by decide +kernel
theorem dX10_addLine_40 : decode cX10_addLine 40 = .ok (.invokevirtual 50, 3) := by decide +kernel
theorem dX10_addLine_43 : decode cX10_addLine 43 = .ok (.aload_n 0, 1) := by decide +kernel
theorem dX10_addLine_44 : decode cX10_addLine 44 = .ok (.invokevirtual 54, 3) := by decide +kernel
theorem dX10_addLine_47 : decode cX10_addLine 47 = .ok (.return_, 1) := by decide +kernel
theorem dX10_addOpposites_0 : decode cX10_addOpposites 0 = .ok (.aload_n 0, 1) := by decide +kernel
theorem dX10_addOpposites_1 : decode cX10_addOpposites 1 = .ok (.getfield 23, 3) := by decide +kernel
theorem dX10_addOpposites_4 : decode cX10_addOpposites 4 = .ok (.aload_n 0, 1) := by decide +kernel
theorem dX10_addOpposites_5 : decode cX10_addOpposites 5 = .ok (.getfield 23, 3) := by decide +kernel
theorem dX10_addOpposites_8 : decode cX10_addOpposites 8 = .ok (.imul, 1) := by decide +kernel
theorem dX10_addOpposites_9 : decode cX10_addOpposites 9 = .ok (.iconst 1, 1) := by decide +kernel
theorem dX10_addOpposites_10 : decode cX10_addOpposites 10 = .ok (.isub, 1) := by decide +kernel
theorem dX10_addOpposites_11 : decode cX10_addOpposites 11 = .ok (.istore_n 1, 1) := by decide +kernel
theorem dX10_addOpposites_12 : decode cX10_addOpposites 12 = .ok (.iconst 0, 1) := by decide +kernel
theorem dX10_addOpposites_13 : decode cX10_addOpposites 13 = .ok (.istore_n 2, 1) := by decide +kernel
theorem dX10_addOpposites_14 : decode cX10_addOpposites 14 = .ok (.iload_n 2, 1) := by decide +kernel
theorem dX10_addOpposites_15 : decode cX10_addOpposites 15 = .ok (.iload_n 1, 1) := by decide +kernel
theorem dX10_addOpposites_16 : decode cX10_addOpposites 16 = .ok (.iload_n 2, 1) := by decide +kernel
theorem dX10_addOpposites_17 : decode cX10_addOpposites 17 = .ok (.isub, 1) := by decide +kernel
theorem dX10_addOpposites_18 : decode cX10_addOpposites 18 = .ok (.if_icmp .gt 39, 3) := by decide +kernel
theorem dX10_addOpposites_21 : decode cX10_addOpposites 21 = .ok (.aload_n 0, 1) := by decide +kernel
theorem dX10_addOpposites_22 : decode cX10_addOpposites 22 = .ok (.invokevirtual 41, 3) := by decide +kernel
theorem dX10_addOpposites_25 : decode cX10_addOpposites 25 = .ok (.aload_n 0, 1) := by decide +kernel
theorem dX10_addOpposites_26 : decode cX10_addOpposites 26 = .ok (.iload_n 2, 1) := by decide +kernel
theorem dX10_addOpposites_27 : decode cX10_addOpposites 27 = .ok (.iconst 1, 1) := by decide +kernel
theorem dX10_addOpposites_28 : decode cX10_addOpposites 28 = .ok (.invokevirtual 50, 3) := by decide +kernel
theorem dX10_addOpposites_31 : decode cX10_addOpposites 31 = .ok (.aload_n 0, 1) := by decide +kernel
theorem dX10_addOpposites_32 : decode cX10_addOpposites 32 = .ok (.iload_n 1, 1) := by decide +kernel
theorem dX10_addOpposites_33 : decode cX10_addOpposites 33 = .ok (.iload_n 2, 1) := by decide +kernel
theorem dX10_addOpposites_34 : decode cX10_addOpposites 34 = .ok (.isub, 1) := by decide +kernel
theorem dX10_addOpposites_35 : decode cX10_addOpposites 35 = .ok (.iconst 1, 1) := by decide +kernel
theorem dX10_addOpposites_36 : decode cX10_addOpposites 36 = .ok (.invokevirtual 50, 3) := by decide +kernel
theorem dX10_addOpposites_39 : decode cX10_addOpposites 39 = .ok (.aload_n 0, 1) := by decide +kernel
theorem dX10_addOpposites_40 : decode cX10_addOpposites 40 = .ok (.bipush 37, 2) := by decide +kernel
theorem dX10_addOpposites_42 : decode cX10_addOpposites 42 = .ok (.ldc 53, 2) := by decide +kernel
theorem dX10_addOpposites_44 : decode cX10_addOpposites 44 = .ok (.invokevirtual 50, 3) := by decide +kernel
theorem dX10_addOpposites_47 : decode cX10_addOpposites 47 = .ok (.aload_n 0, 1) := by decide +kernel
theorem dX10_addOpposites_48 : decode cX10_addOpposites 48 = .ok (.invokevirtual 54, 3) := by decide +kernel
theorem dX10_addOpposites_51 : decode cX10_addOpposites 51 = .ok (.iinc 2 1, 3) := by decide +kernel
theorem dX10_addOpposites_54 : decode cX10_addOpposites 54 = .ok (.goto (-40), 3) := by decide +kernel
theorem dX10_addOpposites_57 : decode cX10_addOpposites 57 = .ok (.return_, 1) := by decide +kernel
theorem dX10_clearRow_0 : decode cX10_clearRow 0 = .ok (.iconst 0, 1) := by decide +kernel
theorem dX10_clearRow_1 : decode cX10_clearRow 1 = .ok (.istore_n 1, 1) := by decide +kernel
theorem dX10_clearRow_2 : decode cX10_clearRow 2 = .ok (.iload_n 1, 1) := by decide +kernel
theorem dX10_clearRow_3 : decode cX10_clearRow 3 = .ok (.aload_n 0, 1) := by decide +kernel
theorem dX10_clearRow_4 : decode cX10_clearRow 4 = .ok (.getfield 20, 3) := by decide +kernel
theorem dX10_clearRow_7 : decode cX10_clearRow 7 = .ok (.arraylength, 1) := by decide +kernel
theorem dX10_clearRow_8 : decode cX10_clearRow 8 = .ok (.if_icmp .ge 16, 3) := by decide +kernel
theorem dX10_clearRow_11 : decode cX10_clearRow 11 = .ok (.aload_n 0, 1) := by decide +kernel
theorem dX10_clearRow_12 : decode cX10_clearRow 12 = .ok (.getfield 20, 3) := by decide +kernel
theorem dX10_clearRow_15 : decode cX10_clearRow 15 = .ok (.iload_n 1, 1) := by decide +kernel
theorem dX10_clearRow_16 : decode cX10_clearRow 16 = .ok (.iconst 0, 1) := by decide +kernel
theorem dX10_clearRow_17 : decode cX10_clearRow 17 = .ok (.iastore, 1) := by decide +kernel
theorem dX10_clearRow_18 : decode cX10_clearRow 18 = .ok (.iinc 1 1, 3) := by decide +kernel
theorem dX10_clearRow_21 : decode cX10_clearRow 21 = .ok (.goto (-19), 3) := by decide +kernel
theorem dX10_clearRow_24 : decode cX10_clearRow 24 = .ok (.return_, 1) := by decide +kernel
theorem dX10_addToRow_0 : decode cX10_addToRow 0 = .ok (.iload_n 1, 1) := by decide +kernel
theorem dX10_addToRow_1 : decode cX10_addToRow 1 = .ok (.ifCond .lt 22, 3) := by decide +kernel
theorem dX10_addToRow_4 : decode cX10_addToRow 4 = .ok (.iload_n 1, 1) := by decide +kernel
theorem dX10_addToRow_5 : decode cX10_addToRow 5 = .ok (.aload_n 0, 1) := by decide +kernel
theorem dX10_addToRow_6 : decode cX10_addToRow 6 = .ok (.getfield 20, 3) := by decide +kernel
theorem dX10_addToRow_9 : decode cX10_addToRow 9 = .ok (.arraylength, 1) := by decide +kernel
theorem dX10_addToRow_10 : decode cX10_addToRow 10 = .ok (.if_icmp .ge 13, 3) := by decide +kernel
theorem dX10_addToRow_13 : decode cX10_addToRow 13 = .ok (.aload_n 0, 1) := by decide +kernel
theorem dX10_addToRow_14 : decode cX10_addToRow 14 = .ok (.getfield 20, 3) := by decide +kernel
theorem dX10_addToRow_17 : decode cX10_addToRow 17 = .ok (.iload_n 1, 1) := by decide +kernel
theorem dX10_addToRow_18 : decode cX10_addToRow 18 = .ok (.dup2, 1) := by decide +kernel
theorem dX10_addToRow_19 : decode cX10_addToRow 19 = .ok (.iaload, 1) := by decide +kernel
theorem dX10_addToRow_20 : decode cX10_addToRow 20 = .ok (.iload_n 2, 1) := by decide +kernel
theorem dX10_addToRow_21 : decode cX10_addToRow 21 = .ok (.iadd, 1) := by decide +kernel
theorem dX10_addToRow_22 : decode cX10_addToRow 22 = .ok (.iastore, 1) := by decide +kernel
theorem dX10_addToRow_23 : decode cX10_addToRow 23 = .ok (.return_, 1) := by decide +kernel
theorem dX10_addRow_0 : decode cX10_addRow 0 = .ok (.iconst 0, 1) := by decide +kernel
theorem dX10_addRow_1 : decode cX10_addRow 1 = .ok (.istore_n 1, 1) := by decide +kernel
theorem dX10_addRow_2 : decode cX10_addRow 2 = .ok (.iload_n 1, 1) := by decide +kernel
theorem dX10_addRow_3 : decode cX10_addRow 3 = .ok (.aload_n 0, 1) := by decide +kernel
theorem dX10_addRow_4 : decode cX10_addRow 4 = .ok (.getfield 27, 3) := by decide +kernel
theorem dX10_addRow_7 : decode cX10_addRow 7 = .ok (.if_icmp .ge 43, 3) := by decide +kernel
theorem dX10_addRow_10 : decode cX10_addRow 10 = .ok (.iload_n 1, 1) := by decide +kernel
theorem dX10_addRow_11 : decode cX10_addRow 11 = .ok (.aload_n 0, 1) := by decide +kernel
theorem dX10_addRow_12 : decode cX10_addRow 12 = .ok (.getfield 13, 3) := by decide +kernel
theorem dX10_addRow_15 : decode cX10_addRow 15 = .ok (.arraylength, 1) := by decide +kernel
theorem dX10_addRow_16 : decode cX10_addRow 16 = .ok (.if_icmp .ge 34, 3) := by decide +kernel
theorem dX10_addRow_19 : decode cX10_addRow 19 = .ok (.iload_n 1, 1) := by decide +kernel
theorem dX10_addRow_20 : decode cX10_addRow 20 = .ok (.aload_n 0, 1) := by decide +kernel
theorem dX10_addRow_21 : decode cX10_addRow 21 = .ok (.getfield 16, 3) := by decide +kernel
theorem dX10_addRow_24 : decode cX10_addRow 24 = .ok (.arraylength, 1) := by decide +kernel
theorem dX10_addRow_25 : decode cX10_addRow 25 = .ok (.if_icmp .ge 25, 3) := by decide +kernel
theorem dX10_addRow_28 : decode cX10_addRow 28 = .ok (.aload_n 0, 1) := by decide +kernel
theorem dX10_addRow_29 : decode cX10_addRow 29 = .ok (.aload_n 0, 1) := by decide +kernel
theorem dX10_addRow_30 : decode cX10_addRow 30 = .ok (.getfield 13, 3) := by decide +kernel
theorem dX10_addRow_33 : decode cX10_addRow 33 = .ok (.iload_n 1, 1) := by decide +kernel
theorem dX10_addRow_34 : decode cX10_addRow 34 = .ok (.aaload, 1) := by decide +kernel
theorem dX10_addRow_35 : decode cX10_addRow 35 = .ok (.aload_n 0, 1) := by decide +kernel
theorem dX10_addRow_36 : decode cX10_addRow 36 = .ok (.getfield 16, 3) := by decide +kernel
theorem dX10_addRow_39 : decode cX10_addRow 39 = .ok (.iload_n 1, 1) := by decide +kernel
theorem dX10_addRow_40 : decode cX10_addRow 40 = .ok (.iaload, 1) := by decide +kernel
theorem dX10_addRow_41 : decode cX10_addRow 41 = .ok (.invokevirtual 57, 3) := by decide +kernel
theorem dX10_addRow_44 : decode cX10_addRow 44 = .ok (.iinc 1 1, 3) := by decide +kernel
theorem dX10_addRow_47 : decode cX10_addRow 47 = .ok (.goto (-45), 3) := by decide +kernel
theorem dX10_addRow_50 : decode cX10_addRow 50 = .ok (.aload_n 0, 1) := by decide +kernel
theorem dX10_addRow_51 : decode cX10_addRow 51 = .ok (.invokevirtual 61, 3) := by decide +kernel
theorem dX10_addRow_54 : decode cX10_addRow 54 = .ok (.istore_n 1, 1) := by decide +kernel
theorem dX10_addRow_55 : decode cX10_addRow 55 = .ok (.iload_n 1, 1) := by decide +kernel
theorem dX10_addRow_56 : decode cX10_addRow 56 = .ok (.iconst (-1), 1) := by decide +kernel
theorem dX10_addRow_57 : decode cX10_addRow 57 = .ok (.if_icmp .eq 67, 3) := by decide +kernel
theorem dX10_addRow_60 : decode cX10_addRow 60 = .ok (.aload_n 0, 1) := by decide +kernel
theorem dX10_addRow_61 : decode cX10_addRow 61 = .ok (.getfield 27, 3) := by decide +kernel
theorem dX10_addRow_64 : decode cX10_addRow 64 = .ok (.ifCond .lt 60, 3) := by decide +kernel
theorem dX10_addRow_67 : decode cX10_addRow 67 = .ok (.aload_n 0, 1) := by decide +kernel
theorem dX10_addRow_68 : decode cX10_addRow 68 = .ok (.getfield 27, 3) := by decide +kernel
theorem dX10_addRow_71 : decode cX10_addRow 71 = .ok (.aload_n 0, 1) := by decide +kernel
theorem dX10_addRow_72 : decode cX10_addRow 72 = .ok (.getfield 13, 3) := by decide +kernel
theorem dX10_addRow_75 : decode cX10_addRow 75 = .ok (.arraylength, 1) := by decide +kernel
theorem dX10_addRow_76 : decode cX10_addRow 76 = .ok (.if_icmp .ge 48, 3) := by decide +kernel
theorem dX10_addRow_79 : decode cX10_addRow 79 = .ok (.aload_n 0, 1) := by decide +kernel
theorem dX10_addRow_80 : decode cX10_addRow 80 = .ok (.getfield 27, 3) := by decide +kernel
theorem dX10_addRow_83 : decode cX10_addRow 83 = .ok (.aload_n 0, 1) := by decide +kernel
theorem dX10_addRow_84 : decode cX10_addRow 84 = .ok (.getfield 16, 3) := by decide +kernel
theorem dX10_addRow_87 : decode cX10_addRow 87 = .ok (.arraylength, 1) := by decide +kernel
theorem dX10_addRow_88 : decode cX10_addRow 88 = .ok (.if_icmp .ge 36, 3) := by decide +kernel
theorem dX10_addRow_91 : decode cX10_addRow 91 = .ok (.aload_n 0, 1) := by decide +kernel
theorem dX10_addRow_92 : decode cX10_addRow 92 = .ok (.getfield 16, 3) := by decide +kernel
theorem dX10_addRow_95 : decode cX10_addRow 95 = .ok (.aload_n 0, 1) := by decide +kernel
theorem dX10_addRow_96 : decode cX10_addRow 96 = .ok (.getfield 27, 3) := by decide +kernel
theorem dX10_addRow_99 : decode cX10_addRow 99 = .ok (.iload_n 1, 1) := by decide +kernel
theorem dX10_addRow_100 : decode cX10_addRow 100 = .ok (.iastore, 1) := by decide +kernel
theorem dX10_addRow_101 : decode cX10_addRow 101 = .ok (.aload_n 0, 1) := by decide +kernel
theorem dX10_addRow_102 : decode cX10_addRow 102 = .ok (.aload_n 0, 1) := by decide +kernel
theorem dX10_addRow_103 : decode cX10_addRow 103 = .ok (.getfield 13, 3) := by decide +kernel
theorem dX10_addRow_106 : decode cX10_addRow 106 = .ok (.aload_n 0, 1) := by decide +kernel
theorem dX10_addRow_107 : decode cX10_addRow 107 = .ok (.getfield 27, 3) := by decide +kernel
theorem dX10_addRow_110 : decode cX10_addRow 110 = .ok (.aaload, 1) := by decide +kernel
theorem dX10_addRow_111 : decode cX10_addRow 111 = .ok (.invokevirtual 65, 3) := by decide +kernel
theorem dX10_addRow_114 : decode cX10_addRow 114 = .ok (.aload_n 0, 1) := by decide +kernel
theorem dX10_addRow_115 : decode cX10_addRow 115 = .ok (.dup, 1) := by decide +kernel
theorem dX10_addRow_116 : decode cX10_addRow 116 = .ok (.getfield 27, 3) := by decide +kernel
theorem dX10_addRow_119 : decode cX10_addRow 119 = .ok (.iconst 1, 1) := by decide +kernel
theorem dX10_addRow_120 : decode cX10_addRow 120 = .ok (.iadd, 1) := by decide +kernel
theorem dX10_addRow_121 : decode cX10_addRow 121 = .ok (.putfield 27, 3) := by decide +kernel
theorem dX10_addRow_124 : decode cX10_addRow 124 = .ok (.return_, 1) := by decide +kernel
theorem dX10_reduceBy_0 : decode cX10_reduceBy 0 = .ok (.aload_n 1, 1) := by decide +kernel
theorem dX10_reduceBy_1 : decode cX10_reduceBy 1 = .ok (.ifnull 31, 3) := by decide +kernel
theorem dX10_reduceBy_4 : decode cX10_reduceBy 4 = .ok (.iload_n 2, 1) := by decide +kernel
theorem dX10_reduceBy_5 : decode cX10_reduceBy 5 = .ok (.ifCond .lt 27, 3) := by decide +kernel
theorem dX10_reduceBy_8 : decode cX10_reduceBy 8 = .ok (.iload_n 2, 1) := by decide +kernel
theorem dX10_reduceBy_9 : decode cX10_reduceBy 9 = .ok (.aload_n 1, 1) := by decide +kernel
theorem dX10_reduceBy_10 : decode cX10_reduceBy 10 = .ok (.arraylength, 1) := by decide +kernel
theorem dX10_reduceBy_11 : decode cX10_reduceBy 11 = .ok (.if_icmp .ge 21, 3) := by decide +kernel
theorem dX10_reduceBy_14 : decode cX10_reduceBy 14 = .ok (.iload_n 2, 1) := by decide +kernel
theorem dX10_reduceBy_15 : decode cX10_reduceBy 15 = .ok (.aload_n 0, 1) := by decide +kernel
theorem dX10_reduceBy_16 : decode cX10_reduceBy 16 = .ok (.getfield 20, 3) := by decide +kernel
theorem dX10_reduceBy_19 : decode cX10_reduceBy 19 = .ok (.arraylength, 1) := by decide +kernel
theorem dX10_reduceBy_20 : decode cX10_reduceBy 20 = .ok (.if_icmp .ge 12, 3) := by decide +kernel
theorem dX10_reduceBy_23 : decode cX10_reduceBy 23 = .ok (.aload_n 0, 1) := by decide +kernel
theorem dX10_reduceBy_24 : decode cX10_reduceBy 24 = .ok (.getfield 20, 3) := by decide +kernel
theorem dX10_reduceBy_27 : decode cX10_reduceBy 27 = .ok (.iload_n 2, 1) := by decide +kernel
theorem dX10_reduceBy_28 : decode cX10_reduceBy 28 = .ok (.iaload, 1) := by decide +kernel
theorem dX10_reduceBy_29 : decode cX10_reduceBy 29 = .ok (.ifCond .ne 4, 3) := by decide +kernel
theorem dX10_reduceBy_32 : decode cX10_reduceBy 32 = .ok (.return_, 1) := by decide +kernel
theorem dX10_reduceBy_33 : decode cX10_reduceBy 33 = .ok (.aload_n 1, 1) := by decide +kernel
theorem dX10_reduceBy_34 : decode cX10_reduceBy 34 = .ok (.iload_n 2, 1) := by decide +kernel
theorem dX10_reduceBy_35 : decode cX10_reduceBy 35 = .ok (.iaload, 1) := by decide +kernel
theorem dX10_reduceBy_36 : decode cX10_reduceBy 36 = .ok (.i2l, 1) := by decide +kernel
theorem dX10_reduceBy_37 : decode cX10_reduceBy 37 = .ok (.lstore_n 3, 1) := by decide +kernel
theorem dX10_reduceBy_38 : decode cX10_reduceBy 38 = .ok (.aload_n 0, 1) := by decide +kernel
theorem dX10_reduceBy_39 : decode cX10_reduceBy 39 = .ok (.getfield 20, 3) := by decide +kernel
theorem dX10_reduceBy_42 : decode cX10_reduceBy 42 = .ok (.iload_n 2, 1) := by decide +kernel
theorem dX10_reduceBy_43 : decode cX10_reduceBy 43 = .ok (.iaload, 1) := by decide +kernel
theorem dX10_reduceBy_44 : decode cX10_reduceBy 44 = .ok (.i2l, 1) := by decide +kernel
theorem dX10_reduceBy_45 : decode cX10_reduceBy 45 = .ok (.lstore 5, 2) := by decide +kernel
theorem dX10_reduceBy_47 : decode cX10_reduceBy 47 = .ok (.iconst 0, 1) := by decide +kernel
theorem dX10_reduceBy_48 : decode cX10_reduceBy 48 = .ok (.istore 7, 2) := by decide +kernel
theorem dX10_reduceBy_50 : decode cX10_reduceBy 50 = .ok (.iload 7, 2) := by decide +kernel
theorem dX10_reduceBy_52 : decode cX10_reduceBy 52 = .ok (.aload_n 0, 1) := by decide +kernel
theorem dX10_reduceBy_53 : decode cX10_reduceBy 53 = .ok (.getfield 20, 3) := by decide +kernel
theorem dX10_reduceBy_56 : decode cX10_reduceBy 56 = .ok (.arraylength, 1) := by decide +kernel
theorem dX10_reduceBy_57 : decode cX10_reduceBy 57 = .ok (.if_icmp .ge 49, 3) := by decide +kernel
theorem dX10_reduceBy_60 : decode cX10_reduceBy 60 = .ok (.iload 7, 2) := by decide +kernel
theorem dX10_reduceBy_62 : decode cX10_reduceBy 62 = .ok (.aload_n 1, 1) := by decide +kernel
theorem dX10_reduceBy_63 : decode cX10_reduceBy 63 = .ok (.arraylength, 1) := by decide +kernel
theorem dX10_reduceBy_64 : decode cX10_reduceBy 64 = .ok (.if_icmp .ge 42, 3) := by decide +kernel
theorem dX10_reduceBy_67 : decode cX10_reduceBy 67 = .ok (.aload_n 0, 1) := by decide +kernel
theorem dX10_reduceBy_68 : decode cX10_reduceBy 68 = .ok (.getfield 20, 3) := by decide +kernel
theorem dX10_reduceBy_71 : decode cX10_reduceBy 71 = .ok (.iload 7, 2) := by decide +kernel
theorem dX10_reduceBy_73 : decode cX10_reduceBy 73 = .ok (.aload_n 0, 1) := by decide +kernel
theorem dX10_reduceBy_74 : decode cX10_reduceBy 74 = .ok (.getfield 20, 3) := by decide +kernel
theorem dX10_reduceBy_77 : decode cX10_reduceBy 77 = .ok (.iload 7, 2) := by decide +kernel
theorem dX10_reduceBy_79 : decode cX10_reduceBy 79 = .ok (.iaload, 1) := by decide +kernel
theorem dX10_reduceBy_80 : decode cX10_reduceBy 80 = .ok (.i2l, 1) := by decide +kernel
theorem dX10_reduceBy_81 : decode cX10_reduceBy 81 = .ok (.lload_n 3, 1) := by decide +kernel
theorem dX10_reduceBy_82 : decode cX10_reduceBy 82 = .ok (.lmul, 1) := by decide +kernel
theorem dX10_reduceBy_83 : decode cX10_reduceBy 83 = .ok (.aload_n 1, 1) := by decide +kernel
theorem dX10_reduceBy_84 : decode cX10_reduceBy 84 = .ok (.iload 7, 2) := by decide +kernel
theorem dX10_reduceBy_86 : decode cX10_reduceBy 86 = .ok (.iaload, 1) := by decide +kernel
theorem dX10_reduceBy_87 : decode cX10_reduceBy 87 = .ok (.i2l, 1) := by decide +kernel
theorem dX10_reduceBy_88 : decode cX10_reduceBy 88 = .ok (.lload 5, 2) := by decide +kernel
theorem dX10_reduceBy_90 : decode cX10_reduceBy 90 = .ok (.lmul, 1) := by decide +kernel
theorem dX10_reduceBy_91 : decode cX10_reduceBy 91 = .ok (.lsub, 1) := by decide +kernel
theorem dX10_reduceBy_92 : decode cX10_reduceBy 92 = .ok (.ldc2_w 69, 3) := by decide +kernel
theorem dX10_reduceBy_95 : decode cX10_reduceBy 95 = .ok (.invokestatic 71, 3) := by decide +kernel
theorem dX10_reduceBy_98 : decode cX10_reduceBy 98 = .ok (.l2i, 1) := by decide +kernel
theorem dX10_reduceBy_99 : decode cX10_reduceBy 99 = .ok (.iastore, 1) := by decide +kernel
theorem dX10_reduceBy_100 : decode cX10_reduceBy 100 = .ok (.iinc 7 1, 3) := by decide +kernel
theorem dX10_reduceBy_103 : decode cX10_reduceBy 103 = .ok (.goto (-53), 3) := by decide +kernel
theorem dX10_reduceBy_106 : decode cX10_reduceBy 106 = .ok (.return_, 1) := by decide +kernel
theorem dX10_leadOfRow_0 : decode cX10_leadOfRow 0 = .ok (.iconst 0, 1) := by decide +kernel
theorem dX10_leadOfRow_1 : decode cX10_leadOfRow 1 = .ok (.istore_n 1, 1) := by decide +kernel
theorem dX10_leadOfRow_2 : decode cX10_leadOfRow 2 = .ok (.iload_n 1, 1) := by decide +kernel
theorem dX10_leadOfRow_3 : decode cX10_leadOfRow 3 = .ok (.aload_n 0, 1) := by decide +kernel
theorem dX10_leadOfRow_4 : decode cX10_leadOfRow 4 = .ok (.getfield 20, 3) := by decide +kernel
theorem dX10_leadOfRow_7 : decode cX10_leadOfRow 7 = .ok (.arraylength, 1) := by decide +kernel
theorem dX10_leadOfRow_8 : decode cX10_leadOfRow 8 = .ok (.if_icmp .ge 20, 3) := by decide +kernel
theorem dX10_leadOfRow_11 : decode cX10_leadOfRow 11 = .ok (.aload_n 0, 1) := by decide +kernel
theorem dX10_leadOfRow_12 : decode cX10_leadOfRow 12 = .ok (.getfield 20, 3) := by decide +kernel
theorem dX10_leadOfRow_15 : decode cX10_leadOfRow 15 = .ok (.iload_n 1, 1) := by decide +kernel
theorem dX10_leadOfRow_16 : decode cX10_leadOfRow 16 = .ok (.iaload, 1) := by decide +kernel
theorem dX10_leadOfRow_17 : decode cX10_leadOfRow 17 = .ok (.ifCond .eq 5, 3) := by decide +kernel
theorem dX10_leadOfRow_20 : decode cX10_leadOfRow 20 = .ok (.iload_n 1, 1) := by decide +kernel
theorem dX10_leadOfRow_21 : decode cX10_leadOfRow 21 = .ok (.ireturn, 1) := by decide +kernel
theorem dX10_leadOfRow_22 : decode cX10_leadOfRow 22 = .ok (.iinc 1 1, 3) := by decide +kernel
theorem dX10_leadOfRow_25 : decode cX10_leadOfRow 25 = .ok (.goto (-23), 3) := by decide +kernel
theorem dX10_leadOfRow_28 : decode cX10_leadOfRow 28 = .ok (.iconst (-1), 1) := by decide +kernel
theorem dX10_leadOfRow_29 : decode cX10_leadOfRow 29 = .ok (.ireturn, 1) := by decide +kernel
theorem dX10_copyRowTo_0 : decode cX10_copyRowTo 0 = .ok (.aload_n 1, 1) := by decide +kernel
theorem dX10_copyRowTo_1 : decode cX10_copyRowTo 1 = .ok (.ifnonnull 4, 3) := by decide +kernel
theorem dX10_copyRowTo_4 : decode cX10_copyRowTo 4 = .ok (.return_, 1) := by decide +kernel
theorem dX10_copyRowTo_5 : decode cX10_copyRowTo 5 = .ok (.iconst 0, 1) := by decide +kernel
theorem dX10_copyRowTo_6 : decode cX10_copyRowTo 6 = .ok (.istore_n 2, 1) := by decide +kernel
theorem dX10_copyRowTo_7 : decode cX10_copyRowTo 7 = .ok (.iload_n 2, 1) := by decide +kernel
theorem dX10_copyRowTo_8 : decode cX10_copyRowTo 8 = .ok (.aload_n 0, 1) := by decide +kernel
theorem dX10_copyRowTo_9 : decode cX10_copyRowTo 9 = .ok (.getfield 20, 3) := by decide +kernel
theorem dX10_copyRowTo_12 : decode cX10_copyRowTo 12 = .ok (.arraylength, 1) := by decide +kernel
theorem dX10_copyRowTo_13 : decode cX10_copyRowTo 13 = .ok (.if_icmp .ge 24, 3) := by decide +kernel
theorem dX10_copyRowTo_16 : decode cX10_copyRowTo 16 = .ok (.iload_n 2, 1) := by decide +kernel
theorem dX10_copyRowTo_17 : decode cX10_copyRowTo 17 = .ok (.aload_n 1, 1) := by decide +kernel
theorem dX10_copyRowTo_18 : decode cX10_copyRowTo 18 = .ok (.arraylength, 1) := by decide +kernel
theorem dX10_copyRowTo_19 : decode cX10_copyRowTo 19 = .ok (.if_icmp .ge 18, 3) := by decide +kernel
theorem dX10_copyRowTo_22 : decode cX10_copyRowTo 22 = .ok (.aload_n 1, 1) := by decide +kernel
theorem dX10_copyRowTo_23 : decode cX10_copyRowTo 23 = .ok (.iload_n 2, 1) := by decide +kernel
theorem dX10_copyRowTo_24 : decode cX10_copyRowTo 24 = .ok (.aload_n 0, 1) := by decide +kernel
theorem dX10_copyRowTo_25 : decode cX10_copyRowTo 25 = .ok (.getfield 20, 3) := by decide +kernel
theorem dX10_copyRowTo_28 : decode cX10_copyRowTo 28 = .ok (.iload_n 2, 1) := by decide +kernel
theorem dX10_copyRowTo_29 : decode cX10_copyRowTo 29 = .ok (.iaload, 1) := by decide +kernel
theorem dX10_copyRowTo_30 : decode cX10_copyRowTo 30 = .ok (.iastore, 1) := by decide +kernel
theorem dX10_copyRowTo_31 : decode cX10_copyRowTo 31 = .ok (.iinc 2 1, 3) := by decide +kernel
theorem dX10_copyRowTo_34 : decode cX10_copyRowTo 34 = .ok (.goto (-27), 3) := by decide +kernel
theorem dX10_copyRowTo_37 : decode cX10_copyRowTo 37 = .ok (.return_, 1) := by decide +kernel
theorem dX11_init_0 : decode cX11_init 0 = .ok (.aload_n 0, 1) := by decide +kernel
theorem dX11_init_1 : decode cX11_init 1 = .ok (.invokespecial 1, 3) := by decide +kernel
theorem dX11_init_4 : decode cX11_init 4 = .ok (.aload_n 0, 1) := by decide +kernel
theorem dX11_init_5 : decode cX11_init 5 = .ok (.bipush 8, 2) := by decide +kernel
theorem dX11_init_7 : decode cX11_init 7 = .ok (.anewarray 9, 3) := by decide +kernel
theorem dX11_init_10 : decode cX11_init 10 = .ok (.putfield 11, 3) := by decide +kernel
theorem dX11_init_13 : decode cX11_init 13 = .ok (.iconst 0, 1) := by decide +kernel
theorem dX11_init_14 : decode cX11_init 14 = .ok (.istore_n 1, 1) := by decide +kernel
theorem dX11_init_15 : decode cX11_init 15 = .ok (.iload_n 1, 1) := by decide +kernel
theorem dX11_init_16 : decode cX11_init 16 = .ok (.aload_n 0, 1) := by decide +kernel
theorem dX11_init_17 : decode cX11_init 17 = .ok (.getfield 11, 3) := by decide +kernel
theorem dX11_init_20 : decode cX11_init 20 = .ok (.arraylength, 1) := by decide +kernel
theorem dX11_init_21 : decode cX11_init 21 = .ok (.if_icmp .ge 22, 3) := by decide +kernel
theorem dX11_init_24 : decode cX11_init 24 = .ok (.aload_n 0, 1) := by decide +kernel
theorem dX11_init_25 : decode cX11_init 25 = .ok (.getfield 11, 3) := by decide +kernel
theorem dX11_init_28 : decode cX11_init 28 = .ok (.iload_n 1, 1) := by decide +kernel
theorem dX11_init_29 : decode cX11_init 29 = .ok (.new 9, 3) := by decide +kernel
theorem dX11_init_32 : decode cX11_init 32 = .ok (.dup, 1) := by decide +kernel
theorem dX11_init_33 : decode cX11_init 33 = .ok (.invokespecial 15, 3) := by decide +kernel
theorem dX11_init_36 : decode cX11_init 36 = .ok (.aastore, 1) := by decide +kernel
theorem dX11_init_37 : decode cX11_init 37 = .ok (.iinc 1 1, 3) := by decide +kernel
theorem dX11_init_40 : decode cX11_init 40 = .ok (.goto (-25), 3) := by decide +kernel
theorem dX11_init_43 : decode cX11_init 43 = .ok (.aload_n 0, 1) := by decide +kernel
theorem dX11_init_44 : decode cX11_init 44 = .ok (.new 9, 3) := by decide +kernel
theorem dX11_init_47 : decode cX11_init 47 = .ok (.dup, 1) := by decide +kernel
theorem dX11_init_48 : decode cX11_init 48 = .ok (.invokespecial 15, 3) := by decide +kernel
theorem dX11_init_51 : decode cX11_init 51 = .ok (.putfield 16, 3) := by decide +kernel
theorem dX11_init_54 : decode cX11_init 54 = .ok (.aload_n 0, 1) := by decide +kernel
theorem dX11_init_55 : decode cX11_init 55 = .ok (.new 20, 3) := by decide +kernel
theorem dX11_init_58 : decode cX11_init 58 = .ok (.dup, 1) := by decide +kernel
theorem dX11_init_59 : decode cX11_init 59 = .ok (.invokespecial 22, 3) := by decide +kernel
theorem dX11_init_62 : decode cX11_init 62 = .ok (.putfield 23, 3) := by decide +kernel
theorem dX11_init_65 : decode cX11_init 65 = .ok (.aload_n 0, 1) := by decide +kernel
theorem dX11_init_66 : decode cX11_init 66 = .ok (.new 27, 3) := by decide +kernel
theorem dX11_init_69 : decode cX11_init 69 = .ok (.dup, 1) := by decide +kernel
theorem dX11_init_70 : decode cX11_init 70 = .ok (.invokespecial 29, 3) := by decide +kernel
theorem dX11_init_73 : decode cX11_init 73 = .ok (.putfield 30, 3) := by decide +kernel
theorem dX11_init_76 : decode cX11_init 76 = .ok (.aload_n 0, 1) := by decide +kernel
theorem dX11_init_77 : decode cX11_init 77 = .ok (.new 34, 3) := by decide +kernel
theorem dX11_init_80 : decode cX11_init 80 = .ok (.dup, 1) := by decide +kernel
theorem dX11_init_81 : decode cX11_init 81 = .ok (.invokespecial 36, 3) := by decide +kernel
theorem dX11_init_84 : decode cX11_init 84 = .ok (.putfield 37, 3) := by decide +kernel
theorem dX11_init_87 : decode cX11_init 87 = .ok (.aload_n 0, 1) := by decide +kernel
theorem dX11_init_88 : decode cX11_init 88 = .ok (.iconst 0, 1) := by decide +kernel
theorem dX11_init_89 : decode cX11_init 89 = .ok (.putfield 41, 3) := by decide +kernel
theorem dX11_init_92 : decode cX11_init 92 = .ok (.return_, 1) := by decide +kernel
theorem dX11_square_0 : decode cX11_square 0 = .ok (.iload_n 1, 1) := by decide +kernel
theorem dX11_square_1 : decode cX11_square 1 = .ok (.iconst 1, 1) := by decide +kernel
theorem dX11_square_2 : decode cX11_square 2 = .ok (.bipush 9, 2) := by decide +kernel
theorem dX11_square_4 : decode cX11_square 4 = .ok (.invokestatic 45, 3) := by decide +kernel
theorem dX11_square_7 : decode cX11_square 7 = .ok (.aload_n 0, 1) := by decide +kernel
theorem dX11_square_8 : decode cX11_square 8 = .ok (.invokevirtual 49, 3) := by decide +kernel
theorem dX11_square_11 : decode cX11_square 11 = .ok (.aload_n 0, 1) := by decide +kernel
theorem dX11_square_12 : decode cX11_square 12 = .ok (.iload_n 1, 1) := by decide +kernel
theorem dX11_square_13 : decode cX11_square 13 = .ok (.invokevirtual 52, 3) := by decide +kernel
theorem dX11_square_16 : decode cX11_square 16 = .ok (.ireturn, 1) := by decide +kernel
theorem dX11_put_0 : decode cX11_put 0 = .ok (.aload_n 0, 1) := by decide +kernel
theorem dX11_put_1 : decode cX11_put 1 = .ok (.iload_n 1, 1) := by decide +kernel
theorem dX11_put_2 : decode cX11_put 2 = .ok (.invokevirtual 56, 3) := by decide +kernel
theorem dX11_put_5 : decode cX11_put 5 = .ok (.astore 5, 2) := by decide +kernel
theorem dX11_put_7 : decode cX11_put 7 = .ok (.aload 5, 2) := by decide +kernel
theorem dX11_put_9 : decode cX11_put 9 = .ok (.iload_n 2, 1) := by decide +kernel
theorem dX11_put_10 : decode cX11_put 10 = .ok (.iload_n 3, 1) := by decide +kernel
theorem dX11_put_11 : decode cX11_put 11 = .ok (.invokestatic 60, 3) := by decide +kernel
theorem dX11_put_14 : decode cX11_put 14 = .ok (.iload 4, 2) := by decide +kernel
theorem dX11_put_16 : decode cX11_put 16 = .ok (.iconst 0, 1) := by decide +kernel
theorem dX11_put_17 : decode cX11_put 17 = .ok (.sipush 999, 3) := by decide +kernel
theorem dX11_put_20 : decode cX11_put 20 = .ok (.invokestatic 45, 3) := by decide +kernel
theorem dX11_put_23 : decode cX11_put 23 = .ok (.aload 5, 2) := by decide +kernel
theorem dX11_put_25 : decode cX11_put 25 = .ok (.aload 5, 2) := by decide +kernel
theorem dX11_put_27 : decode cX11_put 27 = .ok (.iload_n 2, 1) := by decide +kernel
theorem dX11_put_28 : decode cX11_put 28 = .ok (.iload_n 3, 1) := by decide +kernel
theorem dX11_put_29 : decode cX11_put 29 = .ok (.invokevirtual 64, 3) := by decide +kernel
theorem dX11_put_32 : decode cX11_put 32 = .ok (.iload 4, 2) := by decide +kernel
theorem dX11_put_34 : decode cX11_put 34 = .ok (.invokevirtual 68, 3) := by decide +kernel
theorem dX11_put_37 : decode cX11_put 37 = .ok (.ireturn, 1) := by decide +kernel
theorem dX11_at_0 : decode cX11_at 0 = .ok (.aload_n 0, 1) := by decide +kernel
theorem dX11_at_1 : decode cX11_at 1 = .ok (.iload_n 1, 1) := by decide +kernel
theorem dX11_at_2 : decode cX11_at 2 = .ok (.invokevirtual 56, 3) := by decide +kernel
theorem dX11_at_5 : decode cX11_at 5 = .ok (.astore 4, 2) := by decide +kernel
theorem dX11_at_7 : decode cX11_at 7 = .ok (.aload 4, 2) := by decide +kernel
theorem dX11_at_9 : decode cX11_at 9 = .ok (.iload_n 2, 1) := by decide +kernel
theorem dX11_at_10 : decode cX11_at 10 = .ok (.iload_n 3, 1) := by decide +kernel
theorem dX11_at_11 : decode cX11_at 11 = .ok (.invokestatic 60, 3) := by decide +kernel
theorem dX11_at_14 : decode cX11_at 14 = .ok (.aload 4, 2) := by decide +kernel
theorem dX11_at_16 : decode cX11_at 16 = .ok (.aload 4, 2) := by decide +kernel
theorem dX11_at_18 : decode cX11_at 18 = .ok (.iload_n 2, 1) := by decide +kernel
theorem dX11_at_19 : decode cX11_at 19 = .ok (.iload_n 3, 1) := by decide +kernel
theorem dX11_at_20 : decode cX11_at 20 = .ok (.invokevirtual 64, 3) := by decide +kernel
theorem dX11_at_23 : decode cX11_at 23 = .ok (.invokevirtual 71, 3) := by decide +kernel
theorem dX11_at_26 : decode cX11_at 26 = .ok (.ireturn, 1) := by decide +kernel
theorem dX11_make_0 : decode cX11_make 0 = .ok (.iload_n 1, 1) := by decide +kernel
theorem dX11_make_1 : decode cX11_make 1 = .ok (.iconst 0, 1) := by decide +kernel
theorem dX11_make_2 : decode cX11_make 2 = .ok (.iconst 3, 1) := by decide +kernel
theorem dX11_make_3 : decode cX11_make 3 = .ok (.invokestatic 45, 3) := by decide +kernel
theorem dX11_make_6 : decode cX11_make 6 = .ok (.iload_n 2, 1) := by decide +kernel
theorem dX11_make_7 : decode cX11_make 7 = .ok (.iconst 1, 1) := by decide +kernel
theorem dX11_make_8 : decode cX11_make 8 = .ok (.bipush 9, 2) := by decide +kernel
theorem dX11_make_10 : decode cX11_make 10 = .ok (.invokestatic 45, 3) := by decide +kernel
theorem dX11_make_13 : decode cX11_make 13 = .ok (.iload_n 1, 1) := by decide +kernel
theorem dX11_make_14 : decode cX11_make 14 = .ok (.iload_n 2, 1) := by decide +kernel
theorem dX11_make_15 : decode cX11_make 15 = .ok (.invokestatic 74, 3) := by decide +kernel
theorem dX11_make_18 : decode cX11_make 18 = .ok (.invokestatic 80, 3) := by decide +kernel
theorem dX11_make_21 : decode cX11_make 21 = .ok (.aload_n 0, 1) := by decide +kernel
theorem dX11_make_22 : decode cX11_make 22 = .ok (.invokevirtual 49, 3) := by decide +kernel
theorem dX11_make_25 : decode cX11_make 25 = .ok (.aload_n 0, 1) := by decide +kernel
theorem dX11_make_26 : decode cX11_make 26 = .ok (.iload_n 2, 1) := by decide +kernel
theorem dX11_make_27 : decode cX11_make 27 = .ok (.invokevirtual 52, 3) := by decide +kernel
theorem dX11_make_30 : decode cX11_make 30 = .ok (.istore_n 3, 1) := by decide +kernel
theorem dX11_make_31 : decode cX11_make 31 = .ok (.iload_n 1, 1) := by decide +kernel
theorem dX11_make_32 : decode cX11_make 32 = .ok (.aload_n 0, 1) := by decide +kernel
theorem dX11_make_33 : decode cX11_make 33 = .ok (.iload_n 3, 1) := by decide +kernel
theorem dX11_make_34 : decode cX11_make 34 = .ok (.invokevirtual 56, 3) := by decide +kernel
theorem dX11_make_37 : decode cX11_make 37 = .ok (.aload_n 0, 1) := by decide +kernel
theorem dX11_make_38 : decode cX11_make 38 = .ok (.getfield 16, 3) := by decide +kernel
theorem dX11_make_41 : decode cX11_make 41 = .ok (.invokestatic 84, 3) := by decide +kernel
theorem dX11_make_44 : decode cX11_make 44 = .ok (.iload_n 3, 1) := by decide +kernel
theorem dX11_make_45 : decode cX11_make 45 = .ok (.ireturn, 1) := by decide +kernel
theorem dX11_laws_0 : decode cX11_laws 0 = .ok (.aload_n 0, 1) := by decide +kernel
theorem dX11_laws_1 : decode cX11_laws 1 = .ok (.iload_n 1, 1) := by decide +kernel
theorem dX11_laws_2 : decode cX11_laws 2 = .ok (.invokevirtual 56, 3) := by decide +kernel
theorem dX11_laws_5 : decode cX11_laws 5 = .ok (.invokestatic 88, 3) := by decide +kernel
theorem dX11_laws_8 : decode cX11_laws 8 = .ok (.ireturn, 1) := by decide +kernel
theorem dX11_sum_0 : decode cX11_sum 0 = .ok (.aload_n 0, 1) := by decide +kernel
theorem dX11_sum_1 : decode cX11_sum 1 = .ok (.iload_n 1, 1) := by decide +kernel
theorem dX11_sum_2 : decode cX11_sum 2 = .ok (.invokevirtual 56, 3) := by decide +kernel
theorem dX11_sum_5 : decode cX11_sum 5 = .ok (.astore 4, 2) := by decide +kernel
theorem dX11_sum_7 : decode cX11_sum 7 = .ok (.iload_n 2, 1) := by decide +kernel
theorem dX11_sum_8 : decode cX11_sum 8 = .ok (.iconst 0, 1) := by decide +kernel
theorem dX11_sum_9 : decode cX11_sum 9 = .ok (.iconst 3, 1) := by decide +kernel
theorem dX11_sum_10 : decode cX11_sum 10 = .ok (.invokestatic 45, 3) := by decide +kernel
theorem dX11_sum_13 : decode cX11_sum 13 = .ok (.iload_n 3, 1) := by decide +kernel
theorem dX11_sum_14 : decode cX11_sum 14 = .ok (.iconst 0, 1) := by decide +kernel
theorem dX11_sum_15 : decode cX11_sum 15 = .ok (.aload 4, 2) := by decide +kernel
theorem dX11_sum_17 : decode cX11_sum 17 = .ok (.invokevirtual 94, 3) := by decide +kernel
theorem dX11_sum_20 : decode cX11_sum 20 = .ok (.iconst 1, 1) := by decide +kernel
theorem dX11_sum_21 : decode cX11_sum 21 = .ok (.isub, 1) := by decide +kernel
theorem dX11_sum_22 : decode cX11_sum 22 = .ok (.invokestatic 45, 3) := by decide +kernel
theorem dX11_sum_25 : decode cX11_sum 25 = .ok (.aload 4, 2) := by decide +kernel
theorem dX11_sum_27 : decode cX11_sum 27 = .ok (.iload_n 2, 1) := by decide +kernel
theorem dX11_sum_28 : decode cX11_sum 28 = .ok (.iload_n 3, 1) := by decide +kernel
theorem dX11_sum_29 : decode cX11_sum 29 = .ok (.invokevirtual 98, 3) := by decide +kernel
