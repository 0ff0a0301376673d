theorem dX0_mostBy_0 : decode cX0_mostBy 0 = .ok (.iload_n 0, 1) := by decide +kernel
theorem dX0_mostBy_1 : decode cX0_mostBy 1 = .ok (.tableswitch 35 0 2 #[27, 29, 31], 27) := by decide +kernel
theorem dX0_mostBy_28 : decode cX0_mostBy 28 = .ok (.iconst 3, 1) := by decide +kernel
theorem dX0_mostBy_29 : decode cX0_mostBy 29 = .ok (.ireturn, 1) := by decide +kernel
theorem dX0_mostBy_30 : decode cX0_mostBy 30 = .ok (.iconst 1, 1) := by decide +kernel
theorem dX0_mostBy_31 : decode cX0_mostBy 31 = .ok (.ireturn, 1) := by decide +kernel
theorem dX0_mostBy_32 : decode cX0_mostBy 32 = .ok (.sipush 1998, 3) := by decide +kernel
theorem dX0_mostBy_35 : decode cX0_mostBy 35 = .ok (.ireturn, 1) := by decide +kernel
theorem dX0_mostBy_36 : decode cX0_mostBy 36 = .ok (.iload_n 1, 1) := by decide +kernel
theorem dX0_mostBy_37 : decode cX0_mostBy 37 = .ok (.iconst 1, 1) := by decide +kernel
theorem dX0_mostBy_38 : decode cX0_mostBy 38 = .ok (.isub, 1) := by decide +kernel
theorem dX0_mostBy_39 : decode cX0_mostBy 39 = .ok (.ireturn, 1) := by decide +kernel
theorem dX0_move_0 : decode cX0_move 0 = .ok (.aload_n 1, 1) := by decide +kernel
theorem dX0_move_1 : decode cX0_move 1 = .ok (.aload_n 0, 1) := by decide +kernel
theorem dX0_move_2 : decode cX0_move 2 = .ok (.invokevirtual 9, 3) := by decide +kernel
theorem dX0_move_5 : decode cX0_move 5 = .ok (.iconst 0, 1) := by decide +kernel
theorem dX0_move_6 : decode cX0_move 6 = .ok (.istore 4, 2) := by decide +kernel
theorem dX0_move_8 : decode cX0_move 8 = .ok (.iconst 0, 1) := by decide +kernel
theorem dX0_move_9 : decode cX0_move 9 = .ok (.istore 5, 2) := by decide +kernel
theorem dX0_move_11 : decode cX0_move 11 = .ok (.iload 5, 2) := by decide +kernel
theorem dX0_move_13 : decode cX0_move 13 = .ok (.aload_n 0, 1) := by decide +kernel
theorem dX0_move_14 : decode cX0_move 14 = .ok (.invokevirtual 15, 3) := by decide +kernel
theorem dX0_move_17 : decode cX0_move 17 = .ok (.if_icmp .ge 42, 3) := by decide +kernel
theorem dX0_move_20 : decode cX0_move 20 = .ok (.aload_n 1, 1) := by decide +kernel
theorem dX0_move_21 : decode cX0_move 21 = .ok (.aload_n 0, 1) := by decide +kernel
theorem dX0_move_22 : decode cX0_move 22 = .ok (.invokevirtual 19, 3) := by decide +kernel
theorem dX0_move_25 : decode cX0_move 25 = .ok (.iload_n 2, 1) := by decide +kernel
theorem dX0_move_26 : decode cX0_move 26 = .ok (.iload_n 3, 1) := by decide +kernel
theorem dX0_move_27 : decode cX0_move 27 = .ok (.iload 5, 2) := by decide +kernel
theorem dX0_move_29 : decode cX0_move 29 = .ok (.invokestatic 22, 3) := by decide +kernel
theorem dX0_move_32 : decode cX0_move 32 = .ok (.invokevirtual 28, 3) := by decide +kernel
theorem dX0_move_35 : decode cX0_move 35 = .ok (.istore 6, 2) := by decide +kernel
theorem dX0_move_37 : decode cX0_move 37 = .ok (.aload_n 0, 1) := by decide +kernel
theorem dX0_move_38 : decode cX0_move 38 = .ok (.iload 5, 2) := by decide +kernel
theorem dX0_move_40 : decode cX0_move 40 = .ok (.iload 6, 2) := by decide +kernel
theorem dX0_move_42 : decode cX0_move 42 = .ok (.invokevirtual 32, 3) := by decide +kernel
theorem dX0_move_45 : decode cX0_move 45 = .ok (.iload 6, 2) := by decide +kernel
theorem dX0_move_47 : decode cX0_move 47 = .ok (.if_icmp .eq 6, 3) := by decide +kernel
theorem dX0_move_50 : decode cX0_move 50 = .ok (.iinc 4 1, 3) := by decide +kernel
theorem dX0_move_53 : decode cX0_move 53 = .ok (.iinc 5 1, 3) := by decide +kernel
theorem dX0_move_56 : decode cX0_move 56 = .ok (.goto (-45), 3) := by decide +kernel
theorem dX0_move_59 : decode cX0_move 59 = .ok (.iload 4, 2) := by decide +kernel
theorem dX0_move_61 : decode cX0_move 61 = .ok (.ireturn, 1) := by decide +kernel
theorem dX0_aheadOf_0 : decode cX0_aheadOf 0 = .ok (.iload_n 1, 1) := by decide +kernel
theorem dX0_aheadOf_1 : decode cX0_aheadOf 1 = .ok (.tableswitch 76 0 5 #[39, 46, 76, 53, 61, 69], 39) := by decide +kernel
theorem dX0_aheadOf_40 : decode cX0_aheadOf 40 = .ok (.iload_n 0, 1) := by decide +kernel
theorem dX0_aheadOf_41 : decode cX0_aheadOf 41 = .ok (.iload_n 2, 1) := by decide +kernel
theorem dX0_aheadOf_42 : decode cX0_aheadOf 42 = .ok (.iload_n 3, 1) := by decide +kernel
theorem dX0_aheadOf_43 : decode cX0_aheadOf 43 = .ok (.invokestatic 36, 3) := by decide +kernel
theorem dX0_aheadOf_46 : decode cX0_aheadOf 46 = .ok (.ireturn, 1) := by decide +kernel
theorem dX0_aheadOf_47 : decode cX0_aheadOf 47 = .ok (.iload_n 0, 1) := by decide +kernel
theorem dX0_aheadOf_48 : decode cX0_aheadOf 48 = .ok (.iload_n 2, 1) := by decide +kernel
theorem dX0_aheadOf_49 : decode cX0_aheadOf 49 = .ok (.iload_n 3, 1) := by decide +kernel
theorem dX0_aheadOf_50 : decode cX0_aheadOf 50 = .ok (.invokestatic 42, 3) := by decide +kernel
theorem dX0_aheadOf_53 : decode cX0_aheadOf 53 = .ok (.ireturn, 1) := by decide +kernel
theorem dX0_aheadOf_54 : decode cX0_aheadOf 54 = .ok (.iload_n 0, 1) := by decide +kernel
theorem dX0_aheadOf_55 : decode cX0_aheadOf 55 = .ok (.iload_n 2, 1) := by decide +kernel
theorem dX0_aheadOf_56 : decode cX0_aheadOf 56 = .ok (.iconst 0, 1) := by decide +kernel
theorem dX0_aheadOf_57 : decode cX0_aheadOf 57 = .ok (.iload_n 3, 1) := by decide +kernel
theorem dX0_aheadOf_58 : decode cX0_aheadOf 58 = .ok (.invokestatic 45, 3) := by decide +kernel
theorem dX0_aheadOf_61 : decode cX0_aheadOf 61 = .ok (.ireturn, 1) := by decide +kernel
theorem dX0_aheadOf_62 : decode cX0_aheadOf 62 = .ok (.iload_n 0, 1) := by decide +kernel
theorem dX0_aheadOf_63 : decode cX0_aheadOf 63 = .ok (.iconst 0, 1) := by decide +kernel
theorem dX0_aheadOf_64 : decode cX0_aheadOf 64 = .ok (.iload_n 2, 1) := by decide +kernel
theorem dX0_aheadOf_65 : decode cX0_aheadOf 65 = .ok (.iload_n 3, 1) := by decide +kernel
theorem dX0_aheadOf_66 : decode cX0_aheadOf 66 = .ok (.invokestatic 45, 3) := by decide +kernel
theorem dX0_aheadOf_69 : decode cX0_aheadOf 69 = .ok (.ireturn, 1) := by decide +kernel
theorem dX0_aheadOf_70 : decode cX0_aheadOf 70 = .ok (.iload_n 0, 1) := by decide +kernel
theorem dX0_aheadOf_71 : decode cX0_aheadOf 71 = .ok (.iload_n 2, 1) := by decide +kernel
theorem dX0_aheadOf_72 : decode cX0_aheadOf 72 = .ok (.iload_n 3, 1) := by decide +kernel
theorem dX0_aheadOf_73 : decode cX0_aheadOf 73 = .ok (.invokestatic 48, 3) := by decide +kernel
theorem dX0_aheadOf_76 : decode cX0_aheadOf 76 = .ok (.ireturn, 1) := by decide +kernel
theorem dX0_aheadOf_77 : decode cX0_aheadOf 77 = .ok (.iload_n 3, 1) := by decide +kernel
theorem dX0_aheadOf_78 : decode cX0_aheadOf 78 = .ok (.ireturn, 1) := by decide +kernel
theorem dX0_canComplement_0 : decode cX0_canComplement 0 = .ok (.iconst 0, 1) := by decide +kernel
theorem dX0_canComplement_1 : decode cX0_canComplement 1 = .ok (.istore_n 2, 1) := by decide +kernel
theorem dX0_canComplement_2 : decode cX0_canComplement 2 = .ok (.iload_n 2, 1) := by decide +kernel
theorem dX0_canComplement_3 : decode cX0_canComplement 3 = .ok (.aload_n 0, 1) := by decide +kernel
theorem dX0_canComplement_4 : decode cX0_canComplement 4 = .ok (.invokevirtual 15, 3) := by decide +kernel
theorem dX0_canComplement_7 : decode cX0_canComplement 7 = .ok (.if_icmp .ge 37, 3) := by decide +kernel
theorem dX0_canComplement_10 : decode cX0_canComplement 10 = .ok (.aload_n 0, 1) := by decide +kernel
theorem dX0_canComplement_11 : decode cX0_canComplement 11 = .ok (.iload_n 2, 1) := by decide +kernel
theorem dX0_canComplement_12 : decode cX0_canComplement 12 = .ok (.invokevirtual 28, 3) := by decide +kernel
theorem dX0_canComplement_15 : decode cX0_canComplement 15 = .ok (.istore_n 3, 1) := by decide +kernel
theorem dX0_canComplement_16 : decode cX0_canComplement 16 = .ok (.iload_n 3, 1) := by decide +kernel
theorem dX0_canComplement_17 : decode cX0_canComplement 17 = .ok (.ifCond .eq 21, 3) := by decide +kernel
theorem dX0_canComplement_20 : decode cX0_canComplement 20 = .ok (.iload_n 1, 1) := by decide +kernel
theorem dX0_canComplement_21 : decode cX0_canComplement 21 = .ok (.iload_n 3, 1) := by decide +kernel
theorem dX0_canComplement_22 : decode cX0_canComplement 22 = .ok (.isub, 1) := by decide +kernel
theorem dX0_canComplement_23 : decode cX0_canComplement 23 = .ok (.iconst 1, 1) := by decide +kernel
theorem dX0_canComplement_24 : decode cX0_canComplement 24 = .ok (.if_icmp .lt 12, 3) := by decide +kernel
theorem dX0_canComplement_27 : decode cX0_canComplement 27 = .ok (.iload_n 1, 1) := by decide +kernel
theorem dX0_canComplement_28 : decode cX0_canComplement 28 = .ok (.iload_n 3, 1) := by decide +kernel
theorem dX0_canComplement_29 : decode cX0_canComplement 29 = .ok (.isub, 1) := by decide +kernel
theorem dX0_canComplement_30 : decode cX0_canComplement 30 = .ok (.sipush 999, 3) := by decide +kernel
theorem dX0_canComplement_33 : decode cX0_canComplement 33 = .ok (.if_icmp .le 5, 3) := by decide +kernel
theorem dX0_canComplement_36 : decode cX0_canComplement 36 = .ok (.iconst 0, 1) := by decide +kernel
theorem dX0_canComplement_37 : decode cX0_canComplement 37 = .ok (.ireturn, 1) := by decide +kernel
theorem dX0_canComplement_38 : decode cX0_canComplement 38 = .ok (.iinc 2 1, 3) := by decide +kernel
theorem dX0_canComplement_41 : decode cX0_canComplement 41 = .ok (.goto (-39), 3) := by decide +kernel
theorem dX0_canComplement_44 : decode cX0_canComplement 44 = .ok (.iconst 1, 1) := by decide +kernel
theorem dX0_canComplement_45 : decode cX0_canComplement 45 = .ok (.ireturn, 1) := by decide +kernel
theorem dX0_complement_0 : decode cX0_complement 0 = .ok (.iconst 0, 1) := by decide +kernel
theorem dX0_complement_1 : decode cX0_complement 1 = .ok (.istore_n 2, 1) := by decide +kernel
theorem dX0_complement_2 : decode cX0_complement 2 = .ok (.iconst 0, 1) := by decide +kernel
theorem dX0_complement_3 : decode cX0_complement 3 = .ok (.istore_n 3, 1) := by decide +kernel
theorem dX0_complement_4 : decode cX0_complement 4 = .ok (.iload_n 3, 1) := by decide +kernel
theorem dX0_complement_5 : decode cX0_complement 5 = .ok (.aload_n 0, 1) := by decide +kernel
theorem dX0_complement_6 : decode cX0_complement 6 = .ok (.invokevirtual 15, 3) := by decide +kernel
theorem dX0_complement_9 : decode cX0_complement 9 = .ok (.if_icmp .ge 40, 3) := by decide +kernel
theorem dX0_complement_12 : decode cX0_complement 12 = .ok (.aload_n 0, 1) := by decide +kernel
theorem dX0_complement_13 : decode cX0_complement 13 = .ok (.iload_n 3, 1) := by decide +kernel
theorem dX0_complement_14 : decode cX0_complement 14 = .ok (.invokevirtual 28, 3) := by decide +kernel
theorem dX0_complement_17 : decode cX0_complement 17 = .ok (.istore 4, 2) := by decide +kernel
theorem dX0_complement_19 : decode cX0_complement 19 = .ok (.iload 4, 2) := by decide +kernel
theorem dX0_complement_21 : decode cX0_complement 21 = .ok (.ifCond .eq 22, 3) := by decide +kernel
theorem dX0_complement_24 : decode cX0_complement 24 = .ok (.aload_n 0, 1) := by decide +kernel
theorem dX0_complement_25 : decode cX0_complement 25 = .ok (.iload_n 3, 1) := by decide +kernel
theorem dX0_complement_26 : decode cX0_complement 26 = .ok (.iload_n 1, 1) := by decide +kernel
theorem dX0_complement_27 : decode cX0_complement 27 = .ok (.iload 4, 2) := by decide +kernel
theorem dX0_complement_29 : decode cX0_complement 29 = .ok (.isub, 1) := by decide +kernel
theorem dX0_complement_30 : decode cX0_complement 30 = .ok (.invokevirtual 32, 3) := by decide +kernel
theorem dX0_complement_33 : decode cX0_complement 33 = .ok (.iload_n 1, 1) := by decide +kernel
theorem dX0_complement_34 : decode cX0_complement 34 = .ok (.iload 4, 2) := by decide +kernel
theorem dX0_complement_36 : decode cX0_complement 36 = .ok (.isub, 1) := by decide +kernel
theorem dX0_complement_37 : decode cX0_complement 37 = .ok (.if_icmp .eq 6, 3) := by decide +kernel
theorem dX0_complement_40 : decode cX0_complement 40 = .ok (.iinc 2 1, 3) := by decide +kernel
theorem dX0_complement_43 : decode cX0_complement 43 = .ok (.iinc 3 1, 3) := by decide +kernel
theorem dX0_complement_46 : decode cX0_complement 46 = .ok (.goto (-42), 3) := by decide +kernel
theorem dX0_complement_49 : decode cX0_complement 49 = .ok (.iload_n 2, 1) := by decide +kernel
theorem dX0_complement_50 : decode cX0_complement 50 = .ok (.ireturn, 1) := by decide +kernel
theorem dX1_init_0 : decode cX1_init 0 = .ok (.aload_n 0, 1) := by decide +kernel
theorem dX1_init_1 : decode cX1_init 1 = .ok (.invokespecial 3, 3) := by decide +kernel
theorem dX1_init_4 : decode cX1_init 4 = .ok (.aload_n 0, 1) := by decide +kernel
theorem dX1_init_5 : decode cX1_init 5 = .ok (.bipush 81, 2) := by decide +kernel
theorem dX1_init_7 : decode cX1_init 7 = .ok (.newarray .int, 2) := by decide +kernel
theorem dX1_init_9 : decode cX1_init 9 = .ok (.putfield 9, 3) := by decide +kernel
theorem dX1_init_12 : decode cX1_init 12 = .ok (.aload_n 0, 1) := by decide +kernel
theorem dX1_init_13 : decode cX1_init 13 = .ok (.iconst 1, 1) := by decide +kernel
theorem dX1_init_14 : decode cX1_init 14 = .ok (.putfield 15, 3) := by decide +kernel
theorem dX1_init_17 : decode cX1_init 17 = .ok (.return_, 1) := by decide +kernel
theorem dX1_begin_0 : decode cX1_begin 0 = .ok (.aload_n 0, 1) := by decide +kernel
theorem dX1_begin_1 : decode cX1_begin 1 = .ok (.iload_n 1, 1) := by decide +kernel
theorem dX1_begin_2 : decode cX1_begin 2 = .ok (.putfield 15, 3) := by decide +kernel
theorem dX1_begin_5 : decode cX1_begin 5 = .ok (.iconst 0, 1) := by decide +kernel
theorem dX1_begin_6 : decode cX1_begin 6 = .ok (.istore_n 2, 1) := by decide +kernel
theorem dX1_begin_7 : decode cX1_begin 7 = .ok (.iload_n 2, 1) := by decide +kernel
theorem dX1_begin_8 : decode cX1_begin 8 = .ok (.aload_n 0, 1) := by decide +kernel
theorem dX1_begin_9 : decode cX1_begin 9 = .ok (.getfield 9, 3) := by decide +kernel
theorem dX1_begin_12 : decode cX1_begin 12 = .ok (.arraylength, 1) := by decide +kernel
theorem dX1_begin_13 : decode cX1_begin 13 = .ok (.if_icmp .ge 16, 3) := by decide +kernel
theorem dX1_begin_16 : decode cX1_begin 16 = .ok (.aload_n 0, 1) := by decide +kernel
theorem dX1_begin_17 : decode cX1_begin 17 = .ok (.getfield 9, 3) := by decide +kernel
theorem dX1_begin_20 : decode cX1_begin 20 = .ok (.iload_n 2, 1) := by decide +kernel
theorem dX1_begin_21 : decode cX1_begin 21 = .ok (.iconst 0, 1) := by decide +kernel
theorem dX1_begin_22 : decode cX1_begin 22 = .ok (.iastore, 1) := by decide +kernel
theorem dX1_begin_23 : decode cX1_begin 23 = .ok (.iinc 2 1, 3) := by decide +kernel
theorem dX1_begin_26 : decode cX1_begin 26 = .ok (.goto (-19), 3) := by decide +kernel
theorem dX1_begin_29 : decode cX1_begin 29 = .ok (.return_, 1) := by decide +kernel
theorem dX1_copyFrom_0 : decode cX1_copyFrom 0 = .ok (.aload_n 0, 1) := by decide +kernel
theorem dX1_copyFrom_1 : decode cX1_copyFrom 1 = .ok (.aload_n 1, 1) := by decide +kernel
theorem dX1_copyFrom_2 : decode cX1_copyFrom 2 = .ok (.invokevirtual 19, 3) := by decide +kernel
theorem dX1_copyFrom_5 : decode cX1_copyFrom 5 = .ok (.invokevirtual 22, 3) := by decide +kernel
theorem dX1_copyFrom_8 : decode cX1_copyFrom 8 = .ok (.iconst 0, 1) := by decide +kernel
theorem dX1_copyFrom_9 : decode cX1_copyFrom 9 = .ok (.istore_n 2, 1) := by decide +kernel
theorem dX1_copyFrom_10 : decode cX1_copyFrom 10 = .ok (.iload_n 2, 1) := by decide +kernel
theorem dX1_copyFrom_11 : decode cX1_copyFrom 11 = .ok (.aload_n 0, 1) := by decide +kernel
theorem dX1_copyFrom_12 : decode cX1_copyFrom 12 = .ok (.invokevirtual 26, 3) := by decide +kernel
theorem dX1_copyFrom_15 : decode cX1_copyFrom 15 = .ok (.if_icmp .ge 20, 3) := by decide +kernel
theorem dX1_copyFrom_18 : decode cX1_copyFrom 18 = .ok (.aload_n 0, 1) := by decide +kernel
theorem dX1_copyFrom_19 : decode cX1_copyFrom 19 = .ok (.iload_n 2, 1) := by decide +kernel
theorem dX1_copyFrom_20 : decode cX1_copyFrom 20 = .ok (.aload_n 1, 1) := by decide +kernel
theorem dX1_copyFrom_21 : decode cX1_copyFrom 21 = .ok (.iload_n 2, 1) := by decide +kernel
theorem dX1_copyFrom_22 : decode cX1_copyFrom 22 = .ok (.invokevirtual 29, 3) := by decide +kernel
theorem dX1_copyFrom_25 : decode cX1_copyFrom 25 = .ok (.invokevirtual 33, 3) := by decide +kernel
theorem dX1_copyFrom_28 : decode cX1_copyFrom 28 = .ok (.pop, 1) := by decide +kernel
theorem dX1_copyFrom_29 : decode cX1_copyFrom 29 = .ok (.iinc 2 1, 3) := by decide +kernel
theorem dX1_copyFrom_32 : decode cX1_copyFrom 32 = .ok (.goto (-22), 3) := by decide +kernel
theorem dX1_copyFrom_35 : decode cX1_copyFrom 35 = .ok (.return_, 1) := by decide +kernel
theorem dX1_side_0 : decode cX1_side 0 = .ok (.aload_n 0, 1) := by decide +kernel
theorem dX1_side_1 : decode cX1_side 1 = .ok (.getfield 15, 3) := by decide +kernel
theorem dX1_side_4 : decode cX1_side 4 = .ok (.ireturn, 1) := by decide +kernel
theorem dX1_size_0 : decode cX1_size 0 = .ok (.aload_n 0, 1) := by decide +kernel
theorem dX1_size_1 : decode cX1_size 1 = .ok (.getfield 15, 3) := by decide +kernel
theorem dX1_size_4 : decode cX1_size 4 = .ok (.aload_n 0, 1) := by decide +kernel
theorem dX1_size_5 : decode cX1_size 5 = .ok (.getfield 15, 3) := by decide +kernel
theorem dX1_size_8 : decode cX1_size 8 = .ok (.imul, 1) := by decide +kernel
theorem dX1_size_9 : decode cX1_size 9 = .ok (.ireturn, 1) := by decide +kernel
theorem dX1_placeOf_0 : decode cX1_placeOf 0 = .ok (.aload_n 0, 1) := by decide +kernel
theorem dX1_placeOf_1 : decode cX1_placeOf 1 = .ok (.getfield 15, 3) := by decide +kernel
theorem dX1_placeOf_4 : decode cX1_placeOf 4 = .ok (.iload_n 1, 1) := by decide +kernel
theorem dX1_placeOf_5 : decode cX1_placeOf 5 = .ok (.iload_n 2, 1) := by decide +kernel
theorem dX1_placeOf_6 : decode cX1_placeOf 6 = .ok (.invokestatic 37, 3) := by decide +kernel
theorem dX1_placeOf_9 : decode cX1_placeOf 9 = .ok (.ireturn, 1) := by decide +kernel
theorem dX1_read_0 : decode cX1_read 0 = .ok (.iload_n 1, 1) := by decide +kernel
theorem dX1_read_1 : decode cX1_read 1 = .ok (.ifCond .lt 21, 3) := by decide +kernel
theorem dX1_read_4 : decode cX1_read 4 = .ok (.iload_n 1, 1) := by decide +kernel
theorem dX1_read_5 : decode cX1_read 5 = .ok (.aload_n 0, 1) := by decide +kernel
theorem dX1_read_6 : decode cX1_read 6 = .ok (.getfield 9, 3) := by decide +kernel
theorem dX1_read_9 : decode cX1_read 9 = .ok (.arraylength, 1) := by decide +kernel
theorem dX1_read_10 : decode cX1_read 10 = .ok (.if_icmp .ge 12, 3) := by decide +kernel
theorem dX1_read_13 : decode cX1_read 13 = .ok (.aload_n 0, 1) := by decide +kernel
theorem dX1_read_14 : decode cX1_read 14 = .ok (.getfield 9, 3) := by decide +kernel
theorem dX1_read_17 : decode cX1_read 17 = .ok (.iload_n 1, 1) := by decide +kernel
theorem dX1_read_18 : decode cX1_read 18 = .ok (.iaload, 1) := by decide +kernel
theorem dX1_read_19 : decode cX1_read 19 = .ok (.goto 4, 3) := by decide +kernel
theorem dX1_read_22 : decode cX1_read 22 = .ok (.iconst 0, 1) := by decide +kernel
theorem dX1_read_23 : decode cX1_read 23 = .ok (.ireturn, 1) := by decide +kernel
theorem dX1_write_0 : decode cX1_write 0 = .ok (.iload_n 1, 1) := by decide +kernel
theorem dX1_write_1 : decode cX1_write 1 = .ok (.ifCond .lt 12, 3) := by decide +kernel
theorem dX1_write_4 : decode cX1_write 4 = .ok (.iload_n 1, 1) := by decide +kernel
theorem dX1_write_5 : decode cX1_write 5 = .ok (.aload_n 0, 1) := by decide +kernel
theorem dX1_write_6 : decode cX1_write 6 = .ok (.getfield 9, 3) := by decide +kernel
theorem dX1_write_9 : decode cX1_write 9 = .ok (.arraylength, 1) := by decide +kernel
theorem dX1_write_10 : decode cX1_write 10 = .ok (.if_icmp .lt 5, 3) := by decide +kernel
theorem dX1_write_13 : decode cX1_write 13 = .ok (.iconst 0, 1) := by decide +kernel
theorem dX1_write_14 : decode cX1_write 14 = .ok (.ireturn, 1) := by decide +kernel
theorem dX1_write_15 : decode cX1_write 15 = .ok (.aload_n 0, 1) := by decide +kernel
theorem dX1_write_16 : decode cX1_write 16 = .ok (.getfield 9, 3) := by decide +kernel
theorem dX1_write_19 : decode cX1_write 19 = .ok (.iload_n 1, 1) := by decide +kernel
theorem dX1_write_20 : decode cX1_write 20 = .ok (.iaload, 1) := by decide +kernel
theorem dX1_write_21 : decode cX1_write 21 = .ok (.istore_n 3, 1) := by decide +kernel
theorem dX1_write_22 : decode cX1_write 22 = .ok (.aload_n 0, 1) := by decide +kernel
theorem dX1_write_23 : decode cX1_write 23 = .ok (.getfield 9, 3) := by decide +kernel
theorem dX1_write_26 : decode cX1_write 26 = .ok (.iload_n 1, 1) := by decide +kernel
theorem dX1_write_27 : decode cX1_write 27 = .ok (.iload_n 2, 1) := by decide +kernel
theorem dX1_write_28 : decode cX1_write 28 = .ok (.iastore, 1) := by decide +kernel
theorem dX1_write_29 : decode cX1_write 29 = .ok (.iload_n 3, 1) := by decide +kernel
theorem dX1_write_30 : decode cX1_write 30 = .ok (.ireturn, 1) := by decide +kernel
theorem dX1_countOf_0 : decode cX1_countOf 0 = .ok (.iconst 0, 1) := by decide +kernel
theorem dX1_countOf_1 : decode cX1_countOf 1 = .ok (.istore_n 2, 1) := by decide +kernel
theorem dX1_countOf_2 : decode cX1_countOf 2 = .ok (.iconst 0, 1) := by decide +kernel
theorem dX1_countOf_3 : decode cX1_countOf 3 = .ok (.istore_n 3, 1) := by decide +kernel
theorem dX1_countOf_4 : decode cX1_countOf 4 = .ok (.iload_n 3, 1) := by decide +kernel
theorem dX1_countOf_5 : decode cX1_countOf 5 = .ok (.aload_n 0, 1) := by decide +kernel
theorem dX1_countOf_6 : decode cX1_countOf 6 = .ok (.invokevirtual 26, 3) := by decide +kernel
theorem dX1_countOf_9 : decode cX1_countOf 9 = .ok (.if_icmp .ge 21, 3) := by decide +kernel
theorem dX1_countOf_12 : decode cX1_countOf 12 = .ok (.aload_n 0, 1) := by decide +kernel
theorem dX1_countOf_13 : decode cX1_countOf 13 = .ok (.iload_n 3, 1) := by decide +kernel
theorem dX1_countOf_14 : decode cX1_countOf 14 = .ok (.invokevirtual 29, 3) := by decide +kernel
theorem dX1_countOf_17 : decode cX1_countOf 17 = .ok (.iload_n 1, 1) := by decide +kernel
theorem dX1_countOf_18 : decode cX1_countOf 18 = .ok (.if_icmp .ne 6, 3) := by decide +kernel
theorem dX1_countOf_21 : decode cX1_countOf 21 = .ok (.iinc 2 1, 3) := by decide +kernel
theorem dX1_countOf_24 : decode cX1_countOf 24 = .ok (.iinc 3 1, 3) := by decide +kernel
theorem dX1_countOf_27 : decode cX1_countOf 27 = .ok (.goto (-23), 3) := by decide +kernel
theorem dX1_countOf_30 : decode cX1_countOf 30 = .ok (.iload_n 2, 1) := by decide +kernel
theorem dX1_countOf_31 : decode cX1_countOf 31 = .ok (.ireturn, 1) := by decide +kernel
theorem dX3_init_0 : decode cX3_init 0 = .ok (.aload_n 0, 1) := by decide +kernel
theorem dX3_init_1 : decode cX3_init 1 = .ok (.invokespecial 1, 3) := by decide +kernel
theorem dX3_init_4 : decode cX3_init 4 = .ok (.aload_n 0, 1) := by decide +kernel
theorem dX3_init_5 : decode cX3_init 5 = .ok (.bipush 8, 2) := by decide +kernel
theorem dX3_init_7 : decode cX3_init 7 = .ok (.newarray .int, 2) := by decide +kernel
theorem dX3_init_9 : decode cX3_init 9 = .ok (.putfield 9, 3) := by decide +kernel
theorem dX3_init_12 : decode cX3_init 12 = .ok (.return_, 1) := by decide +kernel
theorem dX5_holdsFor_0 : decode cX5_holdsFor 0 = .ok (.iload_n 0, 1) := by decide +kernel
theorem dX5_holdsFor_1 : decode cX5_holdsFor 1 = .ok (.tableswitch 92 0 3 #[31, 44, 61, 80], 31) := by decide +kernel
theorem dX5_holdsFor_32 : decode cX5_holdsFor 32 = .ok (.iload_n 1, 1) := by decide +kernel
theorem dX5_holdsFor_33 : decode cX5_holdsFor 33 = .ok (.iconst 2, 1) := by decide +kernel
theorem dX5_holdsFor_34 : decode cX5_holdsFor 34 = .ok (.irem, 1) := by decide +kernel
theorem dX5_holdsFor_35 : decode cX5_holdsFor 35 = .ok (.iconst 1, 1) := by decide +kernel
theorem dX5_holdsFor_36 : decode cX5_holdsFor 36 = .ok (.if_icmp .ne 7, 3) := by decide +kernel
theorem dX5_holdsFor_39 : decode cX5_holdsFor 39 = .ok (.iconst 1, 1) := by decide +kernel
theorem dX5_holdsFor_40 : decode cX5_holdsFor 40 = .ok (.goto 4, 3) := by decide +kernel
theorem dX5_holdsFor_43 : decode cX5_holdsFor 43 = .ok (.iconst 0, 1) := by decide +kernel
theorem dX5_holdsFor_44 : decode cX5_holdsFor 44 = .ok (.ireturn, 1) := by decide +kernel
theorem dX5_holdsFor_45 : decode cX5_holdsFor 45 = .ok (.iload_n 1, 1) := by decide +kernel
theorem dX5_holdsFor_46 : decode cX5_holdsFor 46 = .ok (.iconst 4, 1) := by decide +kernel
theorem dX5_holdsFor_47 : decode cX5_holdsFor 47 = .ok (.if_icmp .eq 9, 3) := by decide +kernel
theorem dX5_holdsFor_50 : decode cX5_holdsFor 50 = .ok (.iload_n 1, 1) := by decide +kernel
theorem dX5_holdsFor_51 : decode cX5_holdsFor 51 = .ok (.bipush 8, 2) := by decide +kernel
theorem dX5_holdsFor_53 : decode cX5_holdsFor 53 = .ok (.if_icmp .ne 7, 3) := by decide +kernel
theorem dX5_holdsFor_56 : decode cX5_holdsFor 56 = .ok (.iconst 1, 1) := by decide +kernel
theorem dX5_holdsFor_57 : decode cX5_holdsFor 57 = .ok (.goto 4, 3) := by decide +kernel
theorem dX5_holdsFor_60 : decode cX5_holdsFor 60 = .ok (.iconst 0, 1) := by decide +kernel
theorem dX5_holdsFor_61 : decode cX5_holdsFor 61 = .ok (.ireturn, 1) := by decide +kernel
theorem dX5_holdsFor_62 : decode cX5_holdsFor 62 = .ok (.iload_n 1, 1) := by decide +kernel
theorem dX5_holdsFor_63 : decode cX5_holdsFor 63 = .ok (.iconst 2, 1) := by decide +kernel
theorem dX5_holdsFor_64 : decode cX5_holdsFor 64 = .ok (.irem, 1) := by decide +kernel
theorem dX5_holdsFor_65 : decode cX5_holdsFor 65 = .ok (.iconst 1, 1) := by decide +kernel
theorem dX5_holdsFor_66 : decode cX5_holdsFor 66 = .ok (.if_icmp .ne 13, 3) := by decide +kernel
theorem dX5_holdsFor_69 : decode cX5_holdsFor 69 = .ok (.iload_n 1, 1) := by decide +kernel
theorem dX5_holdsFor_70 : decode cX5_holdsFor 70 = .ok (.iconst 3, 1) := by decide +kernel
theorem dX5_holdsFor_71 : decode cX5_holdsFor 71 = .ok (.irem, 1) := by decide +kernel
theorem dX5_holdsFor_72 : decode cX5_holdsFor 72 = .ok (.ifCond .eq 7, 3) := by decide +kernel
theorem dX5_holdsFor_75 : decode cX5_holdsFor 75 = .ok (.iconst 1, 1) := by decide +kernel
theorem dX5_holdsFor_76 : decode cX5_holdsFor 76 = .ok (.goto 4, 3) := by decide +kernel
theorem dX5_holdsFor_79 : decode cX5_holdsFor 79 = .ok (.iconst 0, 1) := by decide +kernel
theorem dX5_holdsFor_80 : decode cX5_holdsFor 80 = .ok (.ireturn, 1) := by decide +kernel
theorem dX5_holdsFor_81 : decode cX5_holdsFor 81 = .ok (.iload_n 1, 1) := by decide +kernel
theorem dX5_holdsFor_82 : decode cX5_holdsFor 82 = .ok (.bipush 6, 2) := by decide +kernel
theorem dX5_holdsFor_84 : decode cX5_holdsFor 84 = .ok (.if_icmp .ne 7, 3) := by decide +kernel
theorem dX5_holdsFor_87 : decode cX5_holdsFor 87 = .ok (.iconst 1, 1) := by decide +kernel
theorem dX5_holdsFor_88 : decode cX5_holdsFor 88 = .ok (.goto 4, 3) := by decide +kernel
theorem dX5_holdsFor_91 : decode cX5_holdsFor 91 = .ok (.iconst 0, 1) := by decide +kernel
theorem dX5_holdsFor_92 : decode cX5_holdsFor 92 = .ok (.ireturn, 1) := by decide +kernel
theorem dX5_holdsFor_93 : decode cX5_holdsFor 93 = .ok (.iconst 0, 1) := by decide +kernel
theorem dX5_holdsFor_94 : decode cX5_holdsFor 94 = .ok (.ireturn, 1) := by decide +kernel
theorem dX5_lay_0 : decode cX5_lay 0 = .ok (.iload_n 0, 1) := by decide +kernel
theorem dX5_lay_1 : decode cX5_lay 1 = .ok (.tableswitch 48 0 2 #[27, 34, 41], 27) := by decide +kernel
theorem dX5_lay_28 : decode cX5_lay 28 = .ok (.aload_n 1, 1) := by decide +kernel
theorem dX5_lay_29 : decode cX5_lay 29 = .ok (.invokestatic 9, 3) := by decide +kernel
theorem dX5_lay_32 : decode cX5_lay 32 = .ok (.goto 22, 3) := by decide +kernel
theorem dX5_lay_35 : decode cX5_lay 35 = .ok (.aload_n 1, 1) := by decide +kernel
theorem dX5_lay_36 : decode cX5_lay 36 = .ok (.invokestatic 15, 3) := by decide +kernel
theorem dX5_lay_39 : decode cX5_lay 39 = .ok (.goto 15, 3) := by decide +kernel
theorem dX5_lay_42 : decode cX5_lay 42 = .ok (.aload_n 1, 1) := by decide +kernel
theorem dX5_lay_43 : decode cX5_lay 43 = .ok (.invokestatic 18, 3) := by decide +kernel
theorem dX5_lay_46 : decode cX5_lay 46 = .ok (.goto 8, 3) := by decide +kernel
theorem dX5_lay_49 : decode cX5_lay 49 = .ok (.aload_n 1, 1) := by decide +kernel
theorem dX5_lay_50 : decode cX5_lay 50 = .ok (.aload_n 2, 1) := by decide +kernel
theorem dX5_lay_51 : decode cX5_lay 51 = .ok (.invokestatic 21, 3) := by decide +kernel
theorem dX5_lay_54 : decode cX5_lay 54 = .ok (.return_, 1) := by decide +kernel
theorem dX5_laySiege_0 : decode cX5_laySiege 0 = .ok (.aload_n 0, 1) := by decide +kernel
theorem dX5_laySiege_1 : decode cX5_laySiege 1 = .ok (.invokevirtual 25, 3) := by decide +kernel
theorem dX5_laySiege_4 : decode cX5_laySiege 4 = .ok (.istore_n 1, 1) := by decide +kernel
theorem dX5_laySiege_5 : decode cX5_laySiege 5 = .ok (.iconst 0, 1) := by decide +kernel
theorem dX5_laySiege_6 : decode cX5_laySiege 6 = .ok (.istore_n 2, 1) := by decide +kernel
theorem dX5_laySiege_7 : decode cX5_laySiege 7 = .ok (.iload_n 1, 1) := by decide +kernel
theorem dX5_laySiege_8 : decode cX5_laySiege 8 = .ok (.iconst 2, 1) := by decide +kernel
theorem dX5_laySiege_9 : decode cX5_laySiege 9 = .ok (.idiv, 1) := by decide +kernel
theorem dX5_laySiege_10 : decode cX5_laySiege 10 = .ok (.istore_n 3, 1) := by decide +kernel
theorem dX5_laySiege_11 : decode cX5_laySiege 11 = .ok (.iconst 1, 1) := by decide +kernel
theorem dX5_laySiege_12 : decode cX5_laySiege 12 = .ok (.istore 4, 2) := by decide +kernel
theorem dX5_laySiege_14 : decode cX5_laySiege 14 = .ok (.iload 4, 2) := by decide +kernel
theorem dX5_laySiege_16 : decode cX5_laySiege 16 = .ok (.aload_n 0, 1) := by decide +kernel
theorem dX5_laySiege_17 : decode cX5_laySiege 17 = .ok (.invokevirtual 31, 3) := by decide +kernel
theorem dX5_laySiege_20 : decode cX5_laySiege 20 = .ok (.if_icmp .gt 72, 3) := by decide +kernel
theorem dX5_laySiege_23 : decode cX5_laySiege 23 = .ok (.aload_n 0, 1) := by decide +kernel
theorem dX5_laySiege_24 : decode cX5_laySiege 24 = .ok (.aload_n 0, 1) := by decide +kernel
theorem dX5_laySiege_25 : decode cX5_laySiege 25 = .ok (.iload_n 2, 1) := by decide +kernel
theorem dX5_laySiege_26 : decode cX5_laySiege 26 = .ok (.iload_n 3, 1) := by decide +kernel
theorem dX5_laySiege_27 : decode cX5_laySiege 27 = .ok (.invokevirtual 34, 3) := by decide +kernel
theorem dX5_laySiege_30 : decode cX5_laySiege 30 = .ok (.iload 4, 2) := by decide +kernel
theorem dX5_laySiege_32 : decode cX5_laySiege 32 = .ok (.invokevirtual 38, 3) := by decide +kernel
theorem dX5_laySiege_35 : decode cX5_laySiege 35 = .ok (.pop, 1) := by decide +kernel
theorem dX5_laySiege_36 : decode cX5_laySiege 36 = .ok (.iload_n 2, 1) := by decide +kernel
theorem dX5_laySiege_37 : decode cX5_laySiege 37 = .ok (.iconst 1, 1) := by decide +kernel
theorem dX5_laySiege_38 : decode cX5_laySiege 38 = .ok (.isub, 1) := by decide +kernel
theorem dX5_laySiege_39 : decode cX5_laySiege 39 = .ok (.iload_n 1, 1) := by decide +kernel
theorem dX5_laySiege_40 : decode cX5_laySiege 40 = .ok (.invokestatic 41, 3) := by decide +kernel
theorem dX5_laySiege_43 : decode cX5_laySiege 43 = .ok (.istore 5, 2) := by decide +kernel
theorem dX5_laySiege_45 : decode cX5_laySiege 45 = .ok (.iload_n 3, 1) := by decide +kernel
theorem dX5_laySiege_46 : decode cX5_laySiege 46 = .ok (.iconst 1, 1) := by decide +kernel
theorem dX5_laySiege_47 : decode cX5_laySiege 47 = .ok (.iadd, 1) := by decide +kernel
theorem dX5_laySiege_48 : decode cX5_laySiege 48 = .ok (.iload_n 1, 1) := by decide +kernel
theorem dX5_laySiege_49 : decode cX5_laySiege 49 = .ok (.invokestatic 41, 3) := by decide +kernel
theorem dX5_laySiege_52 : decode cX5_laySiege 52 = .ok (.istore 6, 2) := by decide +kernel
theorem dX5_laySiege_54 : decode cX5_laySiege 54 = .ok (.aload_n 0, 1) := by decide +kernel
theorem dX5_laySiege_55 : decode cX5_laySiege 55 = .ok (.aload_n 0, 1) := by decide +kernel
theorem dX5_laySiege_56 : decode cX5_laySiege 56 = .ok (.iload 5, 2) := by decide +kernel
theorem dX5_laySiege_58 : decode cX5_laySiege 58 = .ok (.iload 6, 2) := by decide +kernel
theorem dX5_laySiege_60 : decode cX5_laySiege 60 = .ok (.invokevirtual 34, 3) := by decide +kernel
theorem dX5_laySiege_63 : decode cX5_laySiege 63 = .ok (.invokevirtual 46, 3) := by decide +kernel
theorem dX5_laySiege_66 : decode cX5_laySiege 66 = .ok (.ifCond .ne 12, 3) := by decide +kernel
theorem dX5_laySiege_69 : decode cX5_laySiege 69 = .ok (.iload 5, 2) := by decide +kernel
theorem dX5_laySiege_71 : decode cX5_laySiege 71 = .ok (.istore_n 2, 1) := by decide +kernel
theorem dX5_laySiege_72 : decode cX5_laySiege 72 = .ok (.iload 6, 2) := by decide +kernel
theorem dX5_laySiege_74 : decode cX5_laySiege 74 = .ok (.istore_n 3, 1) := by decide +kernel
theorem dX5_laySiege_75 : decode cX5_laySiege 75 = .ok (.goto 11, 3) := by decide +kernel
theorem dX5_laySiege_78 : decode cX5_laySiege 78 = .ok (.iload_n 2, 1) := by decide +kernel
theorem dX5_laySiege_79 : decode cX5_laySiege 79 = .ok (.iconst 1, 1) := by decide +kernel
theorem dX5_laySiege_80 : decode cX5_laySiege 80 = .ok (.iadd, 1) := by decide +kernel
theorem dX5_laySiege_81 : decode cX5_laySiege 81 = .ok (.iload_n 1, 1) := by decide +kernel
theorem dX5_laySiege_82 : decode cX5_laySiege 82 = .ok (.invokestatic 41, 3) := by decide +kernel
theorem dX5_laySiege_85 : decode cX5_laySiege 85 = .ok (.istore_n 2, 1) := by decide +kernel
theorem dX5_laySiege_86 : decode cX5_laySiege 86 = .ok (.iinc 4 1, 3) := by decide +kernel
theorem dX5_laySiege_89 : decode cX5_laySiege 89 = .ok (.goto (-75), 3) := by decide +kernel
theorem dX5_laySiege_92 : decode cX5_laySiege 92 = .ok (.return_, 1) := by decide +kernel
theorem dX5_layCross_0 : decode cX5_layCross 0 = .ok (.aload_n 0, 1) := by decide +kernel
theorem dX5_layCross_1 : decode cX5_layCross 1 = .ok (.invokevirtual 25, 3) := by decide +kernel
theorem dX5_layCross_4 : decode cX5_layCross 4 = .ok (.istore_n 1, 1) := by decide +kernel
theorem dX5_layCross_5 : decode cX5_layCross 5 = .ok (.iconst 0, 1) := by decide +kernel
theorem dX5_layCross_6 : decode cX5_layCross 6 = .ok (.istore_n 2, 1) := by decide +kernel
theorem dX5_layCross_7 : decode cX5_layCross 7 = .ok (.iload_n 2, 1) := by decide +kernel
theorem dX5_layCross_8 : decode cX5_layCross 8 = .ok (.aload_n 0, 1) := by decide +kernel
theorem dX5_layCross_9 : decode cX5_layCross 9 = .ok (.invokevirtual 31, 3) := by decide +kernel
theorem dX5_layCross_12 : decode cX5_layCross 12 = .ok (.if_icmp .ge 70, 3) := by decide +kernel
theorem dX5_layCross_15 : decode cX5_layCross 15 = .ok (.iload_n 1, 1) := by decide +kernel
theorem dX5_layCross_16 : decode cX5_layCross 16 = .ok (.iload_n 2, 1) := by decide +kernel
theorem dX5_layCross_17 : decode cX5_layCross 17 = .ok (.invokestatic 50, 3) := by decide +kernel
theorem dX5_layCross_20 : decode cX5_layCross 20 = .ok (.iconst 4, 1) := by decide +kernel
theorem dX5_layCross_21 : decode cX5_layCross 21 = .ok (.irem, 1) := by decide +kernel
theorem dX5_layCross_22 : decode cX5_layCross 22 = .ok (.istore_n 3, 1) := by decide +kernel
theorem dX5_layCross_23 : decode cX5_layCross 23 = .ok (.iload_n 1, 1) := by decide +kernel
theorem dX5_layCross_24 : decode cX5_layCross 24 = .ok (.iload_n 2, 1) := by decide +kernel
theorem dX5_layCross_25 : decode cX5_layCross 25 = .ok (.invokestatic 53, 3) := by decide +kernel
theorem dX5_layCross_28 : decode cX5_layCross 28 = .ok (.iconst 4, 1) := by decide +kernel
theorem dX5_layCross_29 : decode cX5_layCross 29 = .ok (.irem, 1) := by decide +kernel
theorem dX5_layCross_30 : decode cX5_layCross 30 = .ok (.istore 4, 2) := by decide +kernel
theorem dX5_layCross_32 : decode cX5_layCross 32 = .ok (.iload_n 3, 1) := by decide +kernel
theorem dX5_layCross_33 : decode cX5_layCross 33 = .ok (.iload 4, 2) := by decide +kernel
theorem dX5_layCross_35 : decode cX5_layCross 35 = .ok (.if_icmp .eq 11, 3) := by decide +kernel
theorem dX5_layCross_38 : decode cX5_layCross 38 = .ok (.iload_n 3, 1) := by decide +kernel
theorem dX5_layCross_39 : decode cX5_layCross 39 = .ok (.iload 4, 2) := by decide +kernel
theorem dX5_layCross_41 : decode cX5_layCross 41 = .ok (.iadd, 1) := by decide +kernel
theorem dX5_layCross_42 : decode cX5_layCross 42 = .ok (.iconst 3, 1) := by decide +kernel
theorem dX5_layCross_43 : decode cX5_layCross 43 = .ok (.if_icmp .ne 7, 3) := by decide +kernel
theorem dX5_layCross_46 : decode cX5_layCross 46 = .ok (.iconst 1, 1) := by decide +kernel
theorem dX5_layCross_47 : decode cX5_layCross 47 = .ok (.goto 4, 3) := by decide +kernel
theorem dX5_layCross_50 : decode cX5_layCross 50 = .ok (.iconst 0, 1) := by decide +kernel
theorem dX5_layCross_51 : decode cX5_layCross 51 = .ok (.istore 5, 2) := by decide +kernel
theorem dX5_layCross_53 : decode cX5_layCross 53 = .ok (.aload_n 0, 1) := by decide +kernel
theorem dX5_layCross_54 : decode cX5_layCross 54 = .ok (.iload_n 2, 1) := by decide +kernel
theorem dX5_layCross_55 : decode cX5_layCross 55 = .ok (.iload 5, 2) := by decide +kernel
theorem dX5_layCross_57 : decode cX5_layCross 57 = .ok (.ifCond .eq 12, 3) := by decide +kernel
theorem dX5_layCross_60 : decode cX5_layCross 60 = .ok (.aload_n 0, 1) := by decide +kernel
theorem dX5_layCross_61 : decode cX5_layCross 61 = .ok (.invokevirtual 31, 3) := by decide +kernel
theorem dX5_layCross_64 : decode cX5_layCross 64 = .ok (.iload_n 2, 1) := by decide +kernel
theorem dX5_layCross_65 : decode cX5_layCross 65 = .ok (.isub, 1) := by decide +kernel
theorem dX5_layCross_66 : decode cX5_layCross 66 = .ok (.goto 6, 3) := by decide +kernel
theorem dX5_layCross_69 : decode cX5_layCross 69 = .ok (.iload_n 2, 1) := by decide +kernel
theorem dX5_layCross_70 : decode cX5_layCross 70 = .ok (.iconst 1, 1) := by decide +kernel
theorem dX5_layCross_71 : decode cX5_layCross 71 = .ok (.iadd, 1) := by decide +kernel
theorem dX5_layCross_72 : decode cX5_layCross 72 = .ok (.invokevirtual 38, 3) := by decide +kernel
theorem dX5_layCross_75 : decode cX5_layCross 75 = .ok (.pop, 1) := by decide +kernel
theorem dX5_layCross_76 : decode cX5_layCross 76 = .ok (.iinc 2 1, 3) := by decide +kernel
theorem dX5_layCross_79 : decode cX5_layCross 79 = .ok (.goto (-72), 3) := by decide +kernel
theorem dX5_layCross_82 : decode cX5_layCross 82 = .ok (.return_, 1) := by decide +kernel
theorem dX5_layDigits_0 : decode cX5_layDigits 0 = .ok (.aload_n 0, 1) := by decide +kernel
theorem dX5_layDigits_1 : decode cX5_layDigits 1 = .ok (.invokevirtual 25, 3) := by decide +kernel
theorem dX5_layDigits_4 : decode cX5_layDigits 4 = .ok (.istore_n 1, 1) := by decide +kernel
theorem dX5_layDigits_5 : decode cX5_layDigits 5 = .ok (.iconst 0, 1) := by decide +kernel
theorem dX5_layDigits_6 : decode cX5_layDigits 6 = .ok (.istore_n 2, 1) := by decide +kernel
theorem dX5_layDigits_7 : decode cX5_layDigits 7 = .ok (.iload_n 2, 1) := by decide +kernel
theorem dX5_layDigits_8 : decode cX5_layDigits 8 = .ok (.iload_n 1, 1) := by decide +kernel
theorem dX5_layDigits_9 : decode cX5_layDigits 9 = .ok (.if_icmp .ge 64, 3) := by decide +kernel
theorem dX5_layDigits_12 : decode cX5_layDigits 12 = .ok (.iconst 0, 1) := by decide +kernel
theorem dX5_layDigits_13 : decode cX5_layDigits 13 = .ok (.istore_n 3, 1) := by decide +kernel
theorem dX5_layDigits_14 : decode cX5_layDigits 14 = .ok (.iload_n 3, 1) := by decide +kernel
theorem dX5_layDigits_15 : decode cX5_layDigits 15 = .ok (.iload_n 1, 1) := by decide +kernel
theorem dX5_layDigits_16 : decode cX5_layDigits 16 = .ok (.if_icmp .ge 51, 3) := by decide +kernel
theorem dX5_layDigits_19 : decode cX5_layDigits 19 = .ok (.iload_n 2, 1) := by decide +kernel
theorem dX5_layDigits_20 : decode cX5_layDigits 20 = .ok (.iconst 2, 1) := by decide +kernel
theorem dX5_layDigits_21 : decode cX5_layDigits 21 = .ok (.iload_n 3, 1) := by decide +kernel
theorem dX5_layDigits_22 : decode cX5_layDigits 22 = .ok (.imul, 1) := by decide +kernel
theorem dX5_layDigits_23 : decode cX5_layDigits 23 = .ok (.iadd, 1) := by decide +kernel
theorem dX5_layDigits_24 : decode cX5_layDigits 24 = .ok (.iload_n 1, 1) := by decide +kernel
theorem dX5_layDigits_25 : decode cX5_layDigits 25 = .ok (.invokestatic 41, 3) := by decide +kernel
theorem dX5_layDigits_28 : decode cX5_layDigits 28 = .ok (.istore 4, 2) := by decide +kernel
theorem dX5_layDigits_30 : decode cX5_layDigits 30 = .ok (.iconst 2, 1) := by decide +kernel
theorem dX5_layDigits_31 : decode cX5_layDigits 31 = .ok (.iload_n 2, 1) := by decide +kernel
theorem dX5_layDigits_32 : decode cX5_layDigits 32 = .ok (.imul, 1) := by decide +kernel
theorem dX5_layDigits_33 : decode cX5_layDigits 33 = .ok (.iload_n 3, 1) := by decide +kernel
theorem dX5_layDigits_34 : decode cX5_layDigits 34 = .ok (.iadd, 1) := by decide +kernel
theorem dX5_layDigits_35 : decode cX5_layDigits 35 = .ok (.iload_n 1, 1) := by decide +kernel
theorem dX5_layDigits_36 : decode cX5_layDigits 36 = .ok (.invokestatic 41, 3) := by decide +kernel
theorem dX5_layDigits_39 : decode cX5_layDigits 39 = .ok (.istore 5, 2) := by decide +kernel
theorem dX5_layDigits_41 : decode cX5_layDigits 41 = .ok (.aload_n 0, 1) := by decide +kernel
theorem dX5_layDigits_42 : decode cX5_layDigits 42 = .ok (.aload_n 0, 1) := by decide +kernel
theorem dX5_layDigits_43 : decode cX5_layDigits 43 = .ok (.iload_n 2, 1) := by decide +kernel
theorem dX5_layDigits_44 : decode cX5_layDigits 44 = .ok (.iload_n 3, 1) := by decide +kernel
theorem dX5_layDigits_45 : decode cX5_layDigits 45 = .ok (.invokevirtual 34, 3) := by decide +kernel
theorem dX5_layDigits_48 : decode cX5_layDigits 48 = .ok (.iload_n 1, 1) := by decide +kernel
theorem dX5_layDigits_49 : decode cX5_layDigits 49 = .ok (.iload 4, 2) := by decide +kernel
theorem dX5_layDigits_51 : decode cX5_layDigits 51 = .ok (.imul, 1) := by decide +kernel
theorem dX5_layDigits_52 : decode cX5_layDigits 52 = .ok (.iload 5, 2) := by decide +kernel
theorem dX5_layDigits_54 : decode cX5_layDigits 54 = .ok (.iadd, 1) := by decide +kernel
theorem dX5_layDigits_55 : decode cX5_layDigits 55 = .ok (.iconst 1, 1) := by decide +kernel
theorem dX5_layDigits_56 : decode cX5_layDigits 56 = .ok (.iadd, 1) := by decide +kernel
theorem dX5_layDigits_57 : decode cX5_layDigits 57 = .ok (.invokevirtual 38, 3) := by decide +kernel
theorem dX5_layDigits_60 : decode cX5_layDigits 60 = .ok (.pop, 1) := by decide +kernel
theorem dX5_layDigits_61 : decode cX5_layDigits 61 = .ok (.iinc 3 1, 3) := by decide +kernel
theorem dX5_layDigits_64 : decode cX5_layDigits 64 = .ok (.goto (-50), 3) := by decide +kernel
theorem dX5_layDigits_67 : decode cX5_layDigits 67 = .ok (.iinc 2 1, 3) := by decide +kernel
theorem dX5_layDigits_70 : decode cX5_layDigits 70 = .ok (.goto (-63), 3) := by decide +kernel
theorem dX5_layDigits_73 : decode cX5_layDigits 73 = .ok (.return_, 1) := by decide +kernel
theorem dX5_layLux_0 : decode cX5_layLux 0 = .ok (.aload_n 1, 1) := by decide +kernel
theorem dX5_layLux_1 : decode cX5_layLux 1 = .ok (.iconst 3, 1) := by decide +kernel
theorem dX5_layLux_2 : decode cX5_layLux 2 = .ok (.invokevirtual 56, 3) := by decide +kernel
theorem dX5_layLux_5 : decode cX5_layLux 5 = .ok (.aload_n 1, 1) := by decide +kernel
theorem dX5_layLux_6 : decode cX5_layLux 6 = .ok (.invokestatic 9, 3) := by decide +kernel
theorem dX5_layLux_9 : decode cX5_layLux 9 = .ok (.iconst 0, 1) := by decide +kernel
theorem dX5_layLux_10 : decode cX5_layLux 10 = .ok (.istore_n 2, 1) := by decide +kernel
theorem dX5_layLux_11 : decode cX5_layLux 11 = .ok (.iload_n 2, 1) := by decide +kernel
theorem dX5_layLux_12 : decode cX5_layLux 12 = .ok (.iconst 3, 1) := by decide +kernel
theorem dX5_layLux_13 : decode cX5_layLux 13 = .ok (.if_icmp .ge 163, 3) := by decide +kernel
theorem dX5_layLux_16 : decode cX5_layLux 16 = .ok (.iconst 0, 1) := by decide +kernel
theorem dX5_layLux_17 : decode cX5_layLux 17 = .ok (.istore_n 3, 1) := by decide +kernel
theorem dX5_layLux_18 : decode cX5_layLux 18 = .ok (.iload_n 3, 1) := by decide +kernel
theorem dX5_layLux_19 : decode cX5_layLux 19 = .ok (.iconst 3, 1) := by decide +kernel
theorem dX5_layLux_20 : decode cX5_layLux 20 = .ok (.if_icmp .ge 150, 3) := by decide +kernel
theorem dX5_layLux_23 : decode cX5_layLux 23 = .ok (.iconst 4, 1) := by decide +kernel
theorem dX5_layLux_24 : decode cX5_layLux 24 = .ok (.aload_n 1, 1) := by decide +kernel
theorem dX5_layLux_25 : decode cX5_layLux 25 = .ok (.aload_n 1, 1) := by decide +kernel
theorem dX5_layLux_26 : decode cX5_layLux 26 = .ok (.iload_n 2, 1) := by decide +kernel
theorem dX5_layLux_27 : decode cX5_layLux 27 = .ok (.iload_n 3, 1) := by decide +kernel
theorem dX5_layLux_28 : decode cX5_layLux 28 = .ok (.invokevirtual 34, 3) := by decide +kernel
theorem dX5_layLux_31 : decode cX5_layLux 31 = .ok (.invokevirtual 46, 3) := by decide +kernel
theorem dX5_layLux_34 : decode cX5_layLux 34 = .ok (.iconst 1, 1) := by decide +kernel
theorem dX5_layLux_35 : decode cX5_layLux 35 = .ok (.isub, 1) := by decide +kernel
theorem dX5_layLux_36 : decode cX5_layLux 36 = .ok (.imul, 1) := by decide +kernel
theorem dX5_layLux_37 : decode cX5_layLux 37 = .ok (.istore 4, 2) := by decide +kernel
theorem dX5_layLux_39 : decode cX5_layLux 39 = .ok (.iload_n 2, 1) := by decide +kernel
theorem dX5_layLux_40 : decode cX5_layLux 40 = .ok (.iconst 1, 1) := by decide +kernel
theorem dX5_layLux_41 : decode cX5_layLux 41 = .ok (.if_icmp .ne 8, 3) := by decide +kernel
theorem dX5_layLux_44 : decode cX5_layLux 44 = .ok (.iload_n 3, 1) := by decide +kernel
theorem dX5_layLux_45 : decode cX5_layLux 45 = .ok (.iconst 1, 1) := by decide +kernel
theorem dX5_layLux_46 : decode cX5_layLux 46 = .ok (.if_icmp .eq 13, 3) := by decide +kernel
theorem dX5_layLux_49 : decode cX5_layLux 49 = .ok (.iload_n 2, 1) := by decide +kernel
theorem dX5_layLux_50 : decode cX5_layLux 50 = .ok (.iconst 2, 1) := by decide +kernel
theorem dX5_layLux_51 : decode cX5_layLux 51 = .ok (.if_icmp .ne 12, 3) := by decide +kernel
theorem dX5_layLux_54 : decode cX5_layLux 54 = .ok (.iload_n 3, 1) := by decide +kernel
theorem dX5_layLux_55 : decode cX5_layLux 55 = .ok (.iconst 1, 1) := by decide +kernel
theorem dX5_layLux_56 : decode cX5_layLux 56 = .ok (.if_icmp .eq 7, 3) := by decide +kernel
theorem dX5_layLux_59 : decode cX5_layLux 59 = .ok (.iconst 1, 1) := by decide +kernel
theorem dX5_layLux_60 : decode cX5_layLux 60 = .ok (.goto 4, 3) := by decide +kernel
theorem dX5_layLux_63 : decode cX5_layLux 63 = .ok (.iconst 0, 1) := by decide +kernel
theorem dX5_layLux_64 : decode cX5_layLux 64 = .ok (.istore 5, 2) := by decide +kernel
theorem dX5_layLux_66 : decode cX5_layLux 66 = .ok (.aload_n 0, 1) := by decide +kernel
theorem dX5_layLux_67 : decode cX5_layLux 67 = .ok (.iconst 2, 1) := by decide +kernel
theorem dX5_layLux_68 : decode cX5_layLux 68 = .ok (.iload_n 2, 1) := by decide +kernel
theorem dX5_layLux_69 : decode cX5_layLux 69 = .ok (.imul, 1) := by decide +kernel
theorem dX5_layLux_70 : decode cX5_layLux 70 = .ok (.iconst 2, 1) := by decide +kernel
theorem dX5_layLux_71 : decode cX5_layLux 71 = .ok (.iload_n 3, 1) := by decide +kernel
theorem dX5_layLux_72 : decode cX5_layLux 72 = .ok (.imul, 1) := by decide +kernel
theorem dX5_layLux_73 : decode cX5_layLux 73 = .ok (.invokevirtual 34, 3) := by decide +kernel
theorem dX5_layLux_76 : decode cX5_layLux 76 = .ok (.istore 6, 2) := by decide +kernel
theorem dX5_layLux_78 : decode cX5_layLux 78 = .ok (.aload_n 0, 1) := by decide +kernel
theorem dX5_layLux_79 : decode cX5_layLux 79 = .ok (.iconst 2, 1) := by decide +kernel
theorem dX5_layLux_80 : decode cX5_layLux 80 = .ok (.iload_n 2, 1) := by decide +kernel
theorem dX5_layLux_81 : decode cX5_layLux 81 = .ok (.imul, 1) := by decide +kernel
theorem dX5_layLux_82 : decode cX5_layLux 82 = .ok (.iconst 1, 1) := by decide +kernel
theorem dX5_layLux_83 : decode cX5_layLux 83 = .ok (.iadd, 1) := by decide +kernel
theorem dX5_layLux_84 : decode cX5_layLux 84 = .ok (.iconst 2, 1) := by decide +kernel
theorem dX5_layLux_85 : decode cX5_layLux 85 = .ok (.iload_n 3, 1) := by decide +kernel
theorem dX5_layLux_86 : decode cX5_layLux 86 = .ok (.imul, 1) := by decide +kernel
theorem dX5_layLux_87 : decode cX5_layLux 87 = .ok (.invokevirtual 34, 3) := by decide +kernel
theorem dX5_layLux_90 : decode cX5_layLux 90 = .ok (.istore 7, 2) := by decide +kernel
theorem dX5_layLux_92 : decode cX5_layLux 92 = .ok (.aload_n 0, 1) := by decide +kernel
theorem dX5_layLux_93 : decode cX5_layLux 93 = .ok (.iload 6, 2) := by decide +kernel
theorem dX5_layLux_95 : decode cX5_layLux 95 = .ok (.iload 5, 2) := by decide +kernel
theorem dX5_layLux_97 : decode cX5_layLux 97 = .ok (.ifCond .eq 10, 3) := by decide +kernel
theorem dX5_layLux_100 : decode cX5_layLux 100 = .ok (.iload 4, 2) := by decide +kernel
theorem dX5_layLux_102 : decode cX5_layLux 102 = .ok (.iconst 1, 1) := by decide +kernel
theorem dX5_layLux_103 : decode cX5_layLux 103 = .ok (.iadd, 1) := by decide +kernel
theorem dX5_layLux_104 : decode cX5_layLux 104 = .ok (.goto 7, 3) := by decide +kernel
theorem dX5_layLux_107 : decode cX5_layLux 107 = .ok (.iload 4, 2) := by decide +kernel
theorem dX5_layLux_109 : decode cX5_layLux 109 = .ok (.iconst 4, 1) := by decide +kernel
theorem dX5_layLux_110 : decode cX5_layLux 110 = .ok (.iadd, 1) := by decide +kernel
theorem dX5_layLux_111 : decode cX5_layLux 111 = .ok (.invokevirtual 38, 3) := by decide +kernel
theorem dX5_layLux_114 : decode cX5_layLux 114 = .ok (.pop, 1) := by decide +kernel
theorem dX5_layLux_115 : decode cX5_layLux 115 = .ok (.aload_n 0, 1) := by decide +kernel
theorem dX5_layLux_116 : decode cX5_layLux 116 = .ok (.iload 6, 2) := by decide +kernel
theorem dX5_layLux_118 : decode cX5_layLux 118 = .ok (.iconst 1, 1) := by decide +kernel
theorem dX5_layLux_119 : decode cX5_layLux 119 = .ok (.iadd, 1) := by decide +kernel
theorem dX5_layLux_120 : decode cX5_layLux 120 = .ok (.iload 5, 2) := by decide +kernel
theorem dX5_layLux_122 : decode cX5_layLux 122 = .ok (.ifCond .eq 10, 3) := by decide +kernel
theorem dX5_layLux_125 : decode cX5_layLux 125 = .ok (.iload 4, 2) := by decide +kernel
theorem dX5_layLux_127 : decode cX5_layLux 127 = .ok (.iconst 4, 1) := by decide +kernel
theorem dX5_layLux_128 : decode cX5_layLux 128 = .ok (.iadd, 1) := by decide +kernel
theorem dX5_layLux_129 : decode cX5_layLux 129 = .ok (.goto 7, 3) := by decide +kernel
theorem dX5_layLux_132 : decode cX5_layLux 132 = .ok (.iload 4, 2) := by decide +kernel
theorem dX5_layLux_134 : decode cX5_layLux 134 = .ok (.iconst 1, 1) := by decide +kernel
theorem dX5_layLux_135 : decode cX5_layLux 135 = .ok (.iadd, 1) := by decide +kernel
theorem dX5_layLux_136 : decode cX5_layLux 136 = .ok (.invokevirtual 38, 3) := by decide +kernel
theorem dX5_layLux_139 : decode cX5_layLux 139 = .ok (.pop, 1) := by decide +kernel
theorem dX5_layLux_140 : decode cX5_layLux 140 = .ok (.aload_n 0, 1) := by decide +kernel
theorem dX5_layLux_141 : decode cX5_layLux 141 = .ok (.iload 7, 2) := by decide +kernel
theorem dX5_layLux_143 : decode cX5_layLux 143 = .ok (.iload 4, 2) := by decide +kernel
theorem dX5_layLux_145 : decode cX5_layLux 145 = .ok (.iconst 2, 1) := by decide +kernel
theorem dX5_layLux_146 : decode cX5_layLux 146 = .ok (.iadd, 1) := by decide +kernel
theorem dX5_layLux_147 : decode cX5_layLux 147 = .ok (.invokevirtual 38, 3) := by decide +kernel
theorem dX5_layLux_150 : decode cX5_layLux 150 = .ok (.pop, 1) := by decide +kernel
theorem dX5_layLux_151 : decode cX5_layLux 151 = .ok (.aload_n 0, 1) := by decide +kernel
theorem dX5_layLux_152 : decode cX5_layLux 152 = .ok (.iload 7, 2) := by decide +kernel
theorem dX5_layLux_154 : decode cX5_layLux 154 = .ok (.iconst 1, 1) := by decide +kernel
theorem dX5_layLux_155 : decode cX5_layLux 155 = .ok (.iadd, 1) := by decide +kernel
theorem dX5_layLux_156 : decode cX5_layLux 156 = .ok (.iload 4, 2) := by decide +kernel
theorem dX5_layLux_158 : decode cX5_layLux 158 = .ok (.iconst 3, 1) := by decide +kernel
theorem dX5_layLux_159 : decode cX5_layLux 159 = .ok (.iadd, 1) := by decide +kernel
theorem dX5_layLux_160 : decode cX5_layLux 160 = .ok (.invokevirtual 38, 3) := by decide +kernel
theorem dX5_layLux_163 : decode cX5_layLux 163 = .ok (.pop, 1) := by decide +kernel
theorem dX5_layLux_164 : decode cX5_layLux 164 = .ok (.iinc 3 1, 3) := by decide +kernel
theorem dX5_layLux_167 : decode cX5_layLux 167 = .ok (.goto (-149), 3) := by decide +kernel
theorem dX5_layLux_170 : decode cX5_layLux 170 = .ok (.iinc 2 1, 3) := by decide +kernel
theorem dX5_layLux_173 : decode cX5_layLux 173 = .ok (.goto (-162), 3) := by decide +kernel
theorem dX5_layLux_176 : decode cX5_layLux 176 = .ok (.return_, 1) := by decide +kernel
theorem dX7_of_0 : decode cX7_of 0 = .ok (.iload_n 0, 1) := by decide +kernel
theorem dX7_of_1 : decode cX7_of 1 = .ok (.iload_n 1, 1) := by decide +kernel
theorem dX7_of_2 : decode cX7_of 2 = .ok (.imul, 1) := by decide +kernel
theorem dX7_of_3 : decode cX7_of 3 = .ok (.iload_n 2, 1) := by decide +kernel
theorem dX7_of_4 : decode cX7_of 4 = .ok (.iadd, 1) := by decide +kernel
theorem dX7_of_5 : decode cX7_of 5 = .ok (.ireturn, 1) := by decide +kernel
theorem dX7_rowOf_0 : decode cX7_rowOf 0 = .ok (.iload_n 0, 1) := by decide +kernel
theorem dX7_rowOf_1 : decode cX7_rowOf 1 = .ok (.iconst 1, 1) := by decide +kernel
theorem dX7_rowOf_2 : decode cX7_rowOf 2 = .ok (.if_icmp .ge 7, 3) := by decide +kernel
theorem dX7_rowOf_5 : decode cX7_rowOf 5 = .ok (.iconst 0, 1) := by decide +kernel
theorem dX7_rowOf_6 : decode cX7_rowOf 6 = .ok (.goto 6, 3) := by decide +kernel
theorem dX7_rowOf_9 : decode cX7_rowOf 9 = .ok (.iload_n 1, 1) := by decide +kernel
theorem dX7_rowOf_10 : decode cX7_rowOf 10 = .ok (.iload_n 0, 1) := by decide +kernel
theorem dX7_rowOf_11 : decode cX7_rowOf 11 = .ok (.idiv, 1) := by decide +kernel
theorem dX7_rowOf_12 : decode cX7_rowOf 12 = .ok (.ireturn, 1) := by decide +kernel
theorem dX7_columnOf_0 : decode cX7_columnOf 0 = .ok (.iload_n 0, 1) := by decide +kernel
theorem dX7_columnOf_1 : decode cX7_columnOf 1 = .ok (.iconst 1, 1) := by decide +kernel
theorem dX7_columnOf_2 : decode cX7_columnOf 2 = .ok (.if_icmp .ge 7, 3) := by decide +kernel
theorem dX7_columnOf_5 : decode cX7_columnOf 5 = .ok (.iconst 0, 1) := by decide +kernel
theorem dX7_columnOf_6 : decode cX7_columnOf 6 = .ok (.goto 6, 3) := by decide +kernel
theorem dX7_columnOf_9 : decode cX7_columnOf 9 = .ok (.iload_n 1, 1) := by decide +kernel
theorem dX7_columnOf_10 : decode cX7_columnOf 10 = .ok (.iload_n 0, 1) := by decide +kernel
theorem dX7_columnOf_11 : decode cX7_columnOf 11 = .ok (.irem, 1) := by decide +kernel
theorem dX7_columnOf_12 : decode cX7_columnOf 12 = .ok (.ireturn, 1) := by decide +kernel
theorem dX7_wrap_0 : decode cX7_wrap 0 = .ok (.iload_n 1, 1) := by decide +kernel
theorem dX7_wrap_1 : decode cX7_wrap 1 = .ok (.iconst 1, 1) := by decide +kernel
theorem dX7_wrap_2 : decode cX7_wrap 2 = .ok (.if_icmp .ge 7, 3) := by decide +kernel
theorem dX7_wrap_5 : decode cX7_wrap 5 = .ok (.iconst 0, 1) := by decide +kernel
theorem dX7_wrap_6 : decode cX7_wrap 6 = .ok (.goto 8, 3) := by decide +kernel
theorem dX7_wrap_9 : decode cX7_wrap 9 = .ok (.iload_n 0, 1) := by decide +kernel
theorem dX7_wrap_10 : decode cX7_wrap 10 = .ok (.iload_n 1, 1) := by decide +kernel
theorem dX7_wrap_11 : decode cX7_wrap 11 = .ok (.invokestatic 9, 3) := by decide +kernel
theorem dX7_wrap_14 : decode cX7_wrap 14 = .ok (.ireturn, 1) := by decide +kernel
theorem dX7_aheadOfTurn_0 : decode cX7_aheadOfTurn 0 = .ok (.iload_n 0, 1) := by decide +kernel
theorem dX7_aheadOfTurn_1 : decode cX7_aheadOfTurn 1 = .ok (.iload_n 2, 1) := by decide +kernel
theorem dX7_aheadOfTurn_2 : decode cX7_aheadOfTurn 2 = .ok (.invokestatic 15, 3) := by decide +kernel
theorem dX7_aheadOfTurn_5 : decode cX7_aheadOfTurn 5 = .ok (.istore_n 3, 1) := by decide +kernel
theorem dX7_aheadOfTurn_6 : decode cX7_aheadOfTurn 6 = .ok (.iload_n 0, 1) := by decide +kernel
theorem dX7_aheadOfTurn_7 : decode cX7_aheadOfTurn 7 = .ok (.iload_n 2, 1) := by decide +kernel
theorem dX7_aheadOfTurn_8 : decode cX7_aheadOfTurn 8 = .ok (.invokestatic 20, 3) := by decide +kernel
theorem dX7_aheadOfTurn_11 : decode cX7_aheadOfTurn 11 = .ok (.istore 4, 2) := by decide +kernel
theorem dX7_aheadOfTurn_13 : decode cX7_aheadOfTurn 13 = .ok (.iload_n 0, 1) := by decide +kernel
theorem dX7_aheadOfTurn_14 : decode cX7_aheadOfTurn 14 = .ok (.iconst 1, 1) := by decide +kernel
theorem dX7_aheadOfTurn_15 : decode cX7_aheadOfTurn 15 = .ok (.isub, 1) := by decide +kernel
theorem dX7_aheadOfTurn_16 : decode cX7_aheadOfTurn 16 = .ok (.istore 5, 2) := by decide +kernel
theorem dX7_aheadOfTurn_18 : decode cX7_aheadOfTurn 18 = .ok (.iload_n 1, 1) := by decide +kernel
theorem dX7_aheadOfTurn_19 : decode cX7_aheadOfTurn 19 = .ok (.tableswitch 61 1 3 #[25, 36, 50], 25) := by decide +kernel
theorem dX7_aheadOfTurn_44 : decode cX7_aheadOfTurn 44 = .ok (.iload_n 0, 1) := by decide +kernel
theorem dX7_aheadOfTurn_45 : decode cX7_aheadOfTurn 45 = .ok (.iload 5, 2) := by decide +kernel
theorem dX7_aheadOfTurn_47 : decode cX7_aheadOfTurn 47 = .ok (.iload 4, 2) := by decide +kernel
theorem dX7_aheadOfTurn_49 : decode cX7_aheadOfTurn 49 = .ok (.isub, 1) := by decide +kernel
theorem dX7_aheadOfTurn_50 : decode cX7_aheadOfTurn 50 = .ok (.iload_n 3, 1) := by decide +kernel
theorem dX7_aheadOfTurn_51 : decode cX7_aheadOfTurn 51 = .ok (.invokestatic 23, 3) := by decide +kernel
theorem dX7_aheadOfTurn_54 : decode cX7_aheadOfTurn 54 = .ok (.ireturn, 1) := by decide +kernel
theorem dX7_aheadOfTurn_55 : decode cX7_aheadOfTurn 55 = .ok (.iload_n 0, 1) := by decide +kernel
theorem dX7_aheadOfTurn_56 : decode cX7_aheadOfTurn 56 = .ok (.iload 5, 2) := by decide +kernel
theorem dX7_aheadOfTurn_58 : decode cX7_aheadOfTurn 58 = .ok (.iload_n 3, 1) := by decide +kernel
theorem dX7_aheadOfTurn_59 : decode cX7_aheadOfTurn 59 = .ok (.isub, 1) := by decide +kernel
theorem dX7_aheadOfTurn_60 : decode cX7_aheadOfTurn 60 = .ok (.iload 5, 2) := by decide +kernel
theorem dX7_aheadOfTurn_62 : decode cX7_aheadOfTurn 62 = .ok (.iload 4, 2) := by decide +kernel
theorem dX7_aheadOfTurn_64 : decode cX7_aheadOfTurn 64 = .ok (.isub, 1) := by decide +kernel
theorem dX7_aheadOfTurn_65 : decode cX7_aheadOfTurn 65 = .ok (.invokestatic 23, 3) := by decide +kernel
theorem dX7_aheadOfTurn_68 : decode cX7_aheadOfTurn 68 = .ok (.ireturn, 1) := by decide +kernel
theorem dX7_aheadOfTurn_69 : decode cX7_aheadOfTurn 69 = .ok (.iload_n 0, 1) := by decide +kernel
theorem dX7_aheadOfTurn_70 : decode cX7_aheadOfTurn 70 = .ok (.iload 4, 2) := by decide +kernel
theorem dX7_aheadOfTurn_72 : decode cX7_aheadOfTurn 72 = .ok (.iload 5, 2) := by decide +kernel
theorem dX7_aheadOfTurn_74 : decode cX7_aheadOfTurn 74 = .ok (.iload_n 3, 1) := by decide +kernel
theorem dX7_aheadOfTurn_75 : decode cX7_aheadOfTurn 75 = .ok (.isub, 1) := by decide +kernel
theorem dX7_aheadOfTurn_76 : decode cX7_aheadOfTurn 76 = .ok (.invokestatic 23, 3) := by decide +kernel
theorem dX7_aheadOfTurn_79 : decode cX7_aheadOfTurn 79 = .ok (.ireturn, 1) := by decide +kernel
theorem dX7_aheadOfTurn_80 : decode cX7_aheadOfTurn 80 = .ok (.iload_n 2, 1) := by decide +kernel
theorem dX7_aheadOfTurn_81 : decode cX7_aheadOfTurn 81 = .ok (.ireturn, 1) := by decide +kernel
theorem dX7_aheadOfFlip_0 : decode cX7_aheadOfFlip 0 = .ok (.iload_n 1, 1) := by decide +kernel
theorem dX7_aheadOfFlip_1 : decode cX7_aheadOfFlip 1 = .ok (.ifCond .ne 7, 3) := by decide +kernel
theorem dX7_aheadOfFlip_4 : decode cX7_aheadOfFlip 4 = .ok (.iload_n 2, 1) := by decide +kernel
theorem dX7_aheadOfFlip_5 : decode cX7_aheadOfFlip 5 = .ok (.goto 21, 3) := by decide +kernel
theorem dX7_aheadOfFlip_8 : decode cX7_aheadOfFlip 8 = .ok (.iload_n 0, 1) := by decide +kernel
theorem dX7_aheadOfFlip_9 : decode cX7_aheadOfFlip 9 = .ok (.iload_n 0, 1) := by decide +kernel
theorem dX7_aheadOfFlip_10 : decode cX7_aheadOfFlip 10 = .ok (.iload_n 2, 1) := by decide +kernel
theorem dX7_aheadOfFlip_11 : decode cX7_aheadOfFlip 11 = .ok (.invokestatic 15, 3) := by decide +kernel
theorem dX7_aheadOfFlip_14 : decode cX7_aheadOfFlip 14 = .ok (.iload_n 0, 1) := by decide +kernel
theorem dX7_aheadOfFlip_15 : decode cX7_aheadOfFlip 15 = .ok (.iconst 1, 1) := by decide +kernel
theorem dX7_aheadOfFlip_16 : decode cX7_aheadOfFlip 16 = .ok (.isub, 1) := by decide +kernel
theorem dX7_aheadOfFlip_17 : decode cX7_aheadOfFlip 17 = .ok (.iload_n 0, 1) := by decide +kernel
theorem dX7_aheadOfFlip_18 : decode cX7_aheadOfFlip 18 = .ok (.iload_n 2, 1) := by decide +kernel
theorem dX7_aheadOfFlip_19 : decode cX7_aheadOfFlip 19 = .ok (.invokestatic 20, 3) := by decide +kernel
theorem dX7_aheadOfFlip_22 : decode cX7_aheadOfFlip 22 = .ok (.isub, 1) := by decide +kernel
theorem dX7_aheadOfFlip_23 : decode cX7_aheadOfFlip 23 = .ok (.invokestatic 23, 3) := by decide +kernel
theorem dX7_aheadOfFlip_26 : decode cX7_aheadOfFlip 26 = .ok (.ireturn, 1) := by decide +kernel
theorem dX7_aheadOfShift_0 : decode cX7_aheadOfShift 0 = .ok (.iload_n 0, 1) := by decide +kernel
theorem dX7_aheadOfShift_1 : decode cX7_aheadOfShift 1 = .ok (.iload_n 0, 1) := by decide +kernel
theorem dX7_aheadOfShift_2 : decode cX7_aheadOfShift 2 = .ok (.iload_n 3, 1) := by decide +kernel
theorem dX7_aheadOfShift_3 : decode cX7_aheadOfShift 3 = .ok (.invokestatic 15, 3) := by decide +kernel
theorem dX7_aheadOfShift_6 : decode cX7_aheadOfShift 6 = .ok (.iload_n 1, 1) := by decide +kernel
theorem dX7_aheadOfShift_7 : decode cX7_aheadOfShift 7 = .ok (.isub, 1) := by decide +kernel
theorem dX7_aheadOfShift_8 : decode cX7_aheadOfShift 8 = .ok (.iload_n 0, 1) := by decide +kernel
theorem dX7_aheadOfShift_9 : decode cX7_aheadOfShift 9 = .ok (.invokestatic 27, 3) := by decide +kernel
theorem dX7_aheadOfShift_12 : decode cX7_aheadOfShift 12 = .ok (.iload_n 0, 1) := by decide +kernel
theorem dX7_aheadOfShift_13 : decode cX7_aheadOfShift 13 = .ok (.iload_n 3, 1) := by decide +kernel
theorem dX7_aheadOfShift_14 : decode cX7_aheadOfShift 14 = .ok (.invokestatic 20, 3) := by decide +kernel
theorem dX7_aheadOfShift_17 : decode cX7_aheadOfShift 17 = .ok (.iload_n 2, 1) := by decide +kernel
theorem dX7_aheadOfShift_18 : decode cX7_aheadOfShift 18 = .ok (.isub, 1) := by decide +kernel
theorem dX7_aheadOfShift_19 : decode cX7_aheadOfShift 19 = .ok (.iload_n 0, 1) := by decide +kernel
theorem dX7_aheadOfShift_20 : decode cX7_aheadOfShift 20 = .ok (.invokestatic 27, 3) := by decide +kernel
theorem dX7_aheadOfShift_23 : decode cX7_aheadOfShift 23 = .ok (.invokestatic 23, 3) := by decide +kernel
theorem dX7_aheadOfShift_26 : decode cX7_aheadOfShift 26 = .ok (.ireturn, 1) := by decide +kernel
theorem dX7_aheadOfPairs_0 : decode cX7_aheadOfPairs 0 = .ok (.iload_n 0, 1) := by decide +kernel
theorem dX7_aheadOfPairs_1 : decode cX7_aheadOfPairs 1 = .ok (.iload_n 0, 1) := by decide +kernel
theorem dX7_aheadOfPairs_2 : decode cX7_aheadOfPairs 2 = .ok (.iload_n 1, 1) := by decide +kernel
theorem dX7_aheadOfPairs_3 : decode cX7_aheadOfPairs 3 = .ok (.iload_n 0, 1) := by decide +kernel
theorem dX7_aheadOfPairs_4 : decode cX7_aheadOfPairs 4 = .ok (.iload_n 2, 1) := by decide +kernel
theorem dX7_aheadOfPairs_5 : decode cX7_aheadOfPairs 5 = .ok (.invokestatic 15, 3) := by decide +kernel
theorem dX7_aheadOfPairs_8 : decode cX7_aheadOfPairs 8 = .ok (.invokestatic 30, 3) := by decide +kernel
theorem dX7_aheadOfPairs_11 : decode cX7_aheadOfPairs 11 = .ok (.iload_n 0, 1) := by decide +kernel
theorem dX7_aheadOfPairs_12 : decode cX7_aheadOfPairs 12 = .ok (.iload_n 1, 1) := by decide +kernel
theorem dX7_aheadOfPairs_13 : decode cX7_aheadOfPairs 13 = .ok (.iload_n 0, 1) := by decide +kernel
theorem dX7_aheadOfPairs_14 : decode cX7_aheadOfPairs 14 = .ok (.iload_n 2, 1) := by decide +kernel
theorem dX7_aheadOfPairs_15 : decode cX7_aheadOfPairs 15 = .ok (.invokestatic 20, 3) := by decide +kernel
theorem dX7_aheadOfPairs_18 : decode cX7_aheadOfPairs 18 = .ok (.invokestatic 30, 3) := by decide +kernel
theorem dX7_aheadOfPairs_21 : decode cX7_aheadOfPairs 21 = .ok (.invokestatic 23, 3) := by decide +kernel
theorem dX7_aheadOfPairs_24 : decode cX7_aheadOfPairs 24 = .ok (.ireturn, 1) := by decide +kernel
theorem dX7_swapped_0 : decode cX7_swapped 0 = .ok (.iload_n 0, 1) := by decide +kernel
theorem dX7_swapped_1 : decode cX7_swapped 1 = .ok (.iconst 1, 1) := by decide +kernel
theorem dX7_swapped_2 : decode cX7_swapped 2 = .ok (.isub, 1) := by decide +kernel
theorem dX7_swapped_3 : decode cX7_swapped 3 = .ok (.istore_n 3, 1) := by decide +kernel
theorem dX7_swapped_4 : decode cX7_swapped 4 = .ok (.iload_n 2, 1) := by decide +kernel
theorem dX7_swapped_5 : decode cX7_swapped 5 = .ok (.iload_n 1, 1) := by decide +kernel
theorem dX7_swapped_6 : decode cX7_swapped 6 = .ok (.if_icmp .eq 10, 3) := by decide +kernel
theorem dX7_swapped_9 : decode cX7_swapped 9 = .ok (.iload_n 2, 1) := by decide +kernel
theorem dX7_swapped_10 : decode cX7_swapped 10 = .ok (.iload_n 3, 1) := by decide +kernel
theorem dX7_swapped_11 : decode cX7_swapped 11 = .ok (.iload_n 1, 1) := by decide +kernel
theorem dX7_swapped_12 : decode cX7_swapped 12 = .ok (.isub, 1) := by decide +kernel
theorem dX7_swapped_13 : decode cX7_swapped 13 = .ok (.if_icmp .ne 9, 3) := by decide +kernel
theorem dX7_swapped_16 : decode cX7_swapped 16 = .ok (.iload_n 3, 1) := by decide +kernel
theorem dX7_swapped_17 : decode cX7_swapped 17 = .ok (.iload_n 2, 1) := by decide +kernel
theorem dX7_swapped_18 : decode cX7_swapped 18 = .ok (.isub, 1) := by decide +kernel
theorem dX7_swapped_19 : decode cX7_swapped 19 = .ok (.goto 4, 3) := by decide +kernel
theorem dX7_swapped_22 : decode cX7_swapped 22 = .ok (.iload_n 2, 1) := by decide +kernel
theorem dX7_swapped_23 : decode cX7_swapped 23 = .ok (.ireturn, 1) := by decide +kernel
theorem dX8_init_0 : decode cX8_init 0 = .ok (.aload_n 0, 1) := by decide +kernel
theorem dX8_init_1 : decode cX8_init 1 = .ok (.invokespecial 3, 3) := by decide +kernel
theorem dX8_init_4 : decode cX8_init 4 = .ok (.aload_n 0, 1) := by decide +kernel
theorem dX8_init_5 : decode cX8_init 5 = .ok (.bipush 16, 2) := by decide +kernel
theorem dX8_init_7 : decode cX8_init 7 = .ok (.newarray .int, 2) := by decide +kernel
theorem dX8_init_9 : decode cX8_init 9 = .ok (.putfield 11, 3) := by decide +kernel
theorem dX8_init_12 : decode cX8_init 12 = .ok (.aload_n 0, 1) := by decide +kernel
theorem dX8_init_13 : decode cX8_init 13 = .ok (.bipush 17, 2) := by decide +kernel
theorem dX8_init_15 : decode cX8_init 15 = .ok (.newarray .boolean, 2) := by decide +kernel
theorem dX8_init_17 : decode cX8_init 17 = .ok (.putfield 15, 3) := by decide +kernel
theorem dX8_init_20 : decode cX8_init 20 = .ok (.aload_n 0, 1) := by decide +kernel
theorem dX8_init_21 : decode cX8_init 21 = .ok (.bipush 10, 2) := by decide +kernel
theorem dX8_init_23 : decode cX8_init 23 = .ok (.newarray .int, 2) := by decide +kernel
theorem dX8_init_25 : decode cX8_init 25 = .ok (.putfield 19, 3) := by decide +kernel
theorem dX8_init_28 : decode cX8_init 28 = .ok (.aload_n 0, 1) := by decide +kernel
theorem dX8_init_29 : decode cX8_init 29 = .ok (.bipush 10, 2) := by decide +kernel
theorem dX8_init_31 : decode cX8_init 31 = .ok (.newarray .int, 2) := by decide +kernel
theorem dX8_init_33 : decode cX8_init 33 = .ok (.putfield 22, 3) := by decide +kernel
theorem dX8_init_36 : decode cX8_init 36 = .ok (.aload_n 0, 1) := by decide +kernel
theorem dX8_init_37 : decode cX8_init 37 = .ok (.bipush 64, 2) := by decide +kernel
theorem dX8_init_39 : decode cX8_init 39 = .ok (.newarray .int, 2) := by decide +kernel
theorem dX8_init_41 : decode cX8_init 41 = .ok (.putfield 25, 3) := by decide +kernel
theorem dX8_init_44 : decode cX8_init 44 = .ok (.aload_n 0, 1) := by decide +kernel
theorem dX8_init_45 : decode cX8_init 45 = .ok (.bipush 16, 2) := by decide +kernel
theorem dX8_init_47 : decode cX8_init 47 = .ok (.newarray .int, 2) := by decide +kernel
theorem dX8_init_49 : decode cX8_init 49 = .ok (.putfield 28, 3) := by decide +kernel
theorem dX8_init_52 : decode cX8_init 52 = .ok (.aload_n 0, 1) := by decide +kernel
theorem dX8_init_53 : decode cX8_init 53 = .ok (.iconst 1, 1) := by decide +kernel
theorem dX8_init_54 : decode cX8_init 54 = .ok (.putfield 31, 3) := by decide +kernel
theorem dX8_init_57 : decode cX8_init 57 = .ok (.return_, 1) := by decide +kernel
theorem dX8_load_0 : decode cX8_load 0 = .ok (.aload_n 0, 1) := by decide +kernel
theorem dX8_load_1 : decode cX8_load 1 = .ok (.aload_n 1, 1) := by decide +kernel
theorem dX8_load_2 : decode cX8_load 2 = .ok (.invokevirtual 35, 3) := by decide +kernel
theorem dX8_load_5 : decode cX8_load 5 = .ok (.invokevirtual 40, 3) := by decide +kernel
theorem dX8_load_8 : decode cX8_load 8 = .ok (.iconst 0, 1) := by decide +kernel
theorem dX8_load_9 : decode cX8_load 9 = .ok (.istore_n 2, 1) := by decide +kernel
theorem dX8_load_10 : decode cX8_load 10 = .ok (.iload_n 2, 1) := by decide +kernel
theorem dX8_load_11 : decode cX8_load 11 = .ok (.aload_n 1, 1) := by decide +kernel
theorem dX8_load_12 : decode cX8_load 12 = .ok (.invokevirtual 44, 3) := by decide +kernel
theorem dX8_load_15 : decode cX8_load 15 = .ok (.if_icmp .ge 49, 3) := by decide +kernel
theorem dX8_load_18 : decode cX8_load 18 = .ok (.aload_n 1, 1) := by decide +kernel
theorem dX8_load_19 : decode cX8_load 19 = .ok (.iload_n 2, 1) := by decide +kernel
theorem dX8_load_20 : decode cX8_load 20 = .ok (.invokevirtual 47, 3) := by decide +kernel
theorem dX8_load_23 : decode cX8_load 23 = .ok (.istore_n 3, 1) := by decide +kernel
theorem dX8_load_24 : decode cX8_load 24 = .ok (.iload_n 3, 1) := by decide +kernel
theorem dX8_load_25 : decode cX8_load 25 = .ok (.ifCond .ne 11, 3) := by decide +kernel
theorem dX8_load_28 : decode cX8_load 28 = .ok (.aload_n 0, 1) := by decide +kernel
theorem dX8_load_29 : decode cX8_load 29 = .ok (.iload_n 2, 1) := by decide +kernel
theorem dX8_load_30 : decode cX8_load 30 = .ok (.invokevirtual 51, 3) := by decide +kernel
theorem dX8_load_33 : decode cX8_load 33 = .ok (.goto 25, 3) := by decide +kernel
theorem dX8_load_36 : decode cX8_load 36 = .ok (.aload_n 0, 1) := by decide +kernel
theorem dX8_load_37 : decode cX8_load 37 = .ok (.iload_n 3, 1) := by decide +kernel
theorem dX8_load_38 : decode cX8_load 38 = .ok (.invokevirtual 54, 3) := by decide +kernel
theorem dX8_load_41 : decode cX8_load 41 = .ok (.ifCond .eq 12, 3) := by decide +kernel
theorem dX8_load_44 : decode cX8_load 44 = .ok (.aload_n 0, 1) := by decide +kernel
theorem dX8_load_45 : decode cX8_load 45 = .ok (.iload_n 2, 1) := by decide +kernel
theorem dX8_load_46 : decode cX8_load 46 = .ok (.iload_n 3, 1) := by decide +kernel
theorem dX8_load_47 : decode cX8_load 47 = .ok (.invokevirtual 58, 3) := by decide +kernel
theorem dX8_load_50 : decode cX8_load 50 = .ok (.goto 8, 3) := by decide +kernel
theorem dX8_load_53 : decode cX8_load 53 = .ok (.aload_n 0, 1) := by decide +kernel
theorem dX8_load_54 : decode cX8_load 54 = .ok (.iconst 1, 1) := by decide +kernel
theorem dX8_load_55 : decode cX8_load 55 = .ok (.putfield 62, 3) := by decide +kernel
theorem dX8_load_58 : decode cX8_load 58 = .ok (.iinc 2 1, 3) := by decide +kernel
theorem dX8_load_61 : decode cX8_load 61 = .ok (.goto (-51), 3) := by decide +kernel
theorem dX8_load_64 : decode cX8_load 64 = .ok (.return_, 1) := by decide +kernel
theorem dX8_begin_0 : decode cX8_begin 0 = .ok (.aload_n 0, 1) := by decide +kernel
theorem dX8_begin_1 : decode cX8_begin 1 = .ok (.iload_n 1, 1) := by decide +kernel
theorem dX8_begin_2 : decode cX8_begin 2 = .ok (.putfield 31, 3) := by decide +kernel
theorem dX8_begin_5 : decode cX8_begin 5 = .ok (.aload_n 0, 1) := by decide +kernel
theorem dX8_begin_6 : decode cX8_begin 6 = .ok (.aload_n 0, 1) := by decide +kernel
theorem dX8_begin_7 : decode cX8_begin 7 = .ok (.getfield 31, 3) := by decide +kernel
theorem dX8_begin_10 : decode cX8_begin 10 = .ok (.aload_n 0, 1) := by decide +kernel
theorem dX8_begin_11 : decode cX8_begin 11 = .ok (.getfield 31, 3) := by decide +kernel
theorem dX8_begin_14 : decode cX8_begin 14 = .ok (.aload_n 0, 1) := by decide +kernel
theorem dX8_begin_15 : decode cX8_begin 15 = .ok (.getfield 31, 3) := by decide +kernel
theorem dX8_begin_18 : decode cX8_begin 18 = .ok (.imul, 1) := by decide +kernel
theorem dX8_begin_19 : decode cX8_begin 19 = .ok (.iconst 1, 1) := by decide +kernel
theorem dX8_begin_20 : decode cX8_begin 20 = .ok (.iadd, 1) := by decide +kernel
theorem dX8_begin_21 : decode cX8_begin 21 = .ok (.imul, 1) := by decide +kernel
theorem dX8_begin_22 : decode cX8_begin 22 = .ok (.iconst 2, 1) := by decide +kernel
theorem dX8_begin_23 : decode cX8_begin 23 = .ok (.idiv, 1) := by decide +kernel
theorem dX8_begin_24 : decode cX8_begin 24 = .ok (.putfield 66, 3) := by decide +kernel
theorem dX8_begin_27 : decode cX8_begin 27 = .ok (.aload_n 0, 1) := by decide +kernel
theorem dX8_begin_28 : decode cX8_begin 28 = .ok (.iconst 0, 1) := by decide +kernel
theorem dX8_begin_29 : decode cX8_begin 29 = .ok (.putfield 62, 3) := by decide +kernel
theorem dX8_begin_32 : decode cX8_begin 32 = .ok (.aload_n 0, 1) := by decide +kernel
theorem dX8_begin_33 : decode cX8_begin 33 = .ok (.iconst 0, 1) := by decide +kernel
theorem dX8_begin_34 : decode cX8_begin 34 = .ok (.putfield 69, 3) := by decide +kernel
theorem dX8_begin_37 : decode cX8_begin 37 = .ok (.iconst 0, 1) := by decide +kernel
theorem dX8_begin_38 : decode cX8_begin 38 = .ok (.istore_n 2, 1) := by decide +kernel
theorem dX8_begin_39 : decode cX8_begin 39 = .ok (.iload_n 2, 1) := by decide +kernel
theorem dX8_begin_40 : decode cX8_begin 40 = .ok (.aload_n 0, 1) := by decide +kernel
theorem dX8_begin_41 : decode cX8_begin 41 = .ok (.getfield 15, 3) := by decide +kernel
theorem dX8_begin_44 : decode cX8_begin 44 = .ok (.arraylength, 1) := by decide +kernel
theorem dX8_begin_45 : decode cX8_begin 45 = .ok (.if_icmp .ge 16, 3) := by decide +kernel
theorem dX8_begin_48 : decode cX8_begin 48 = .ok (.aload_n 0, 1) := by decide +kernel
theorem dX8_begin_49 : decode cX8_begin 49 = .ok (.getfield 15, 3) := by decide +kernel
theorem dX8_begin_52 : decode cX8_begin 52 = .ok (.iload_n 2, 1) := by decide +kernel
theorem dX8_begin_53 : decode cX8_begin 53 = .ok (.iconst 0, 1) := by decide +kernel
theorem dX8_begin_54 : decode cX8_begin 54 = .ok (.bastore, 1) := by decide +kernel
theorem dX8_begin_55 : decode cX8_begin 55 = .ok (.iinc 2 1, 3) := by decide +kernel
theorem dX8_begin_58 : decode cX8_begin 58 = .ok (.goto (-19), 3) := by decide +kernel
theorem dX8_begin_61 : decode cX8_begin 61 = .ok (.iconst 0, 1) := by decide +kernel
theorem dX8_begin_62 : decode cX8_begin 62 = .ok (.istore_n 2, 1) := by decide +kernel
theorem dX8_begin_63 : decode cX8_begin 63 = .ok (.iload_n 2, 1) := by decide +kernel
theorem dX8_begin_64 : decode cX8_begin 64 = .ok (.aload_n 0, 1) := by decide +kernel
theorem dX8_begin_65 : decode cX8_begin 65 = .ok (.getfield 19, 3) := by decide +kernel
theorem dX8_begin_68 : decode cX8_begin 68 = .ok (.arraylength, 1) := by decide +kernel
theorem dX8_begin_69 : decode cX8_begin 69 = .ok (.if_icmp .ge 35, 3) := by decide +kernel
theorem dX8_begin_72 : decode cX8_begin 72 = .ok (.iload_n 2, 1) := by decide +kernel
theorem dX8_begin_73 : decode cX8_begin 73 = .ok (.aload_n 0, 1) := by decide +kernel
theorem dX8_begin_74 : decode cX8_begin 74 = .ok (.getfield 22, 3) := by decide +kernel
theorem dX8_begin_77 : decode cX8_begin 77 = .ok (.arraylength, 1) := by decide +kernel
theorem dX8_begin_78 : decode cX8_begin 78 = .ok (.if_icmp .ge 26, 3) := by decide +kernel
theorem dX8_begin_81 : decode cX8_begin 81 = .ok (.aload_n 0, 1) := by decide +kernel
theorem dX8_begin_82 : decode cX8_begin 82 = .ok (.getfield 19, 3) := by decide +kernel
theorem dX8_begin_85 : decode cX8_begin 85 = .ok (.iload_n 2, 1) := by decide +kernel
theorem dX8_begin_86 : decode cX8_begin 86 = .ok (.iconst 0, 1) := by decide +kernel
theorem dX8_begin_87 : decode cX8_begin 87 = .ok (.iastore, 1) := by decide +kernel
theorem dX8_begin_88 : decode cX8_begin 88 = .ok (.aload_n 0, 1) := by decide +kernel
theorem dX8_begin_89 : decode cX8_begin 89 = .ok (.getfield 22, 3) := by decide +kernel
theorem dX8_begin_92 : decode cX8_begin 92 = .ok (.iload_n 2, 1) := by decide +kernel
theorem dX8_begin_93 : decode cX8_begin 93 = .ok (.aload_n 0, 1) := by decide +kernel
theorem dX8_begin_94 : decode cX8_begin 94 = .ok (.getfield 31, 3) := by decide +kernel
theorem dX8_begin_97 : decode cX8_begin 97 = .ok (.iastore, 1) := by decide +kernel
theorem dX8_begin_98 : decode cX8_begin 98 = .ok (.iinc 2 1, 3) := by decide +kernel
theorem dX8_begin_101 : decode cX8_begin 101 = .ok (.goto (-38), 3) := by decide +kernel
theorem dX8_begin_104 : decode cX8_begin 104 = .ok (.iconst 0, 1) := by decide +kernel
theorem dX8_begin_105 : decode cX8_begin 105 = .ok (.istore_n 2, 1) := by decide +kernel
theorem dX8_begin_106 : decode cX8_begin 106 = .ok (.iload_n 2, 1) := by decide +kernel
theorem dX8_begin_107 : decode cX8_begin 107 = .ok (.aload_n 0, 1) := by decide +kernel
theorem dX8_begin_108 : decode cX8_begin 108 = .ok (.getfield 25, 3) := by decide +kernel
theorem dX8_begin_111 : decode cX8_begin 111 = .ok (.arraylength, 1) := by decide +kernel
theorem dX8_begin_112 : decode cX8_begin 112 = .ok (.if_icmp .ge 25, 3) := by decide +kernel
theorem dX8_begin_115 : decode cX8_begin 115 = .ok (.aload_n 0, 1) := by decide +kernel
theorem dX8_begin_116 : decode cX8_begin 116 = .ok (.getfield 25, 3) := by decide +kernel
theorem dX8_begin_119 : decode cX8_begin 119 = .ok (.iload_n 2, 1) := by decide +kernel
theorem dX8_begin_120 : decode cX8_begin 120 = .ok (.aload_n 0, 1) := by decide +kernel
theorem dX8_begin_121 : decode cX8_begin 121 = .ok (.iload_n 2, 1) := by decide +kernel
theorem dX8_begin_122 : decode cX8_begin 122 = .ok (.iconst 4, 1) := by decide +kernel
theorem dX8_begin_123 : decode cX8_begin 123 = .ok (.idiv, 1) := by decide +kernel
theorem dX8_begin_124 : decode cX8_begin 124 = .ok (.iload_n 2, 1) := by decide +kernel
theorem dX8_begin_125 : decode cX8_begin 125 = .ok (.iconst 4, 1) := by decide +kernel
theorem dX8_begin_126 : decode cX8_begin 126 = .ok (.irem, 1) := by decide +kernel
theorem dX8_begin_127 : decode cX8_begin 127 = .ok (.invokevirtual 72, 3) := by decide +kernel
theorem dX8_begin_130 : decode cX8_begin 130 = .ok (.iastore, 1) := by decide +kernel
theorem dX8_begin_131 : decode cX8_begin 131 = .ok (.iinc 2 1, 3) := by decide +kernel
theorem dX8_begin_134 : decode cX8_begin 134 = .ok (.goto (-28), 3) := by decide +kernel
theorem dX8_begin_137 : decode cX8_begin 137 = .ok (.return_, 1) := by decide +kernel
theorem dX8_lineThrough_0 : decode cX8_lineThrough 0 = .ok (.aload_n 0, 1) := by decide +kernel
theorem dX8_lineThrough_1 : decode cX8_lineThrough 1 = .ok (.getfield 31, 3) := by decide +kernel
theorem dX8_lineThrough_4 : decode cX8_lineThrough 4 = .ok (.iload_n 1, 1) := by decide +kernel
theorem dX8_lineThrough_5 : decode cX8_lineThrough 5 = .ok (.invokestatic 76, 3) := by decide +kernel
theorem dX8_lineThrough_8 : decode cX8_lineThrough 8 = .ok (.istore_n 3, 1) := by decide +kernel
theorem dX8_lineThrough_9 : decode cX8_lineThrough 9 = .ok (.aload_n 0, 1) := by decide +kernel
theorem dX8_lineThrough_10 : decode cX8_lineThrough 10 = .ok (.getfield 31, 3) := by decide +kernel
theorem dX8_lineThrough_13 : decode cX8_lineThrough 13 = .ok (.iload_n 1, 1) := by decide +kernel
theorem dX8_lineThrough_14 : decode cX8_lineThrough 14 = .ok (.invokestatic 81, 3) := by decide +kernel
theorem dX8_lineThrough_17 : decode cX8_lineThrough 17 = .ok (.istore 4, 2) := by decide +kernel
theorem dX8_lineThrough_19 : decode cX8_lineThrough 19 = .ok (.iload_n 2, 1) := by decide +kernel
theorem dX8_lineThrough_20 : decode cX8_lineThrough 20 = .ok (.tableswitch 55 0 2 #[28, 30, 38], 28) := by decide +kernel
theorem dX8_lineThrough_48 : decode cX8_lineThrough 48 = .ok (.iload_n 3, 1) := by decide +kernel
theorem dX8_lineThrough_49 : decode cX8_lineThrough 49 = .ok (.ireturn, 1) := by decide +kernel
theorem dX8_lineThrough_50 : decode cX8_lineThrough 50 = .ok (.aload_n 0, 1) := by decide +kernel
theorem dX8_lineThrough_51 : decode cX8_lineThrough 51 = .ok (.getfield 31, 3) := by decide +kernel
theorem dX8_lineThrough_54 : decode cX8_lineThrough 54 = .ok (.iload 4, 2) := by decide +kernel
theorem dX8_lineThrough_56 : decode cX8_lineThrough 56 = .ok (.iadd, 1) := by decide +kernel
theorem dX8_lineThrough_57 : decode cX8_lineThrough 57 = .ok (.ireturn, 1) := by decide +kernel
theorem dX8_lineThrough_58 : decode cX8_lineThrough 58 = .ok (.iload_n 3, 1) := by decide +kernel
theorem dX8_lineThrough_59 : decode cX8_lineThrough 59 = .ok (.iload 4, 2) := by decide +kernel
theorem dX8_lineThrough_61 : decode cX8_lineThrough 61 = .ok (.if_icmp .ne 12, 3) := by decide +kernel
theorem dX8_lineThrough_64 : decode cX8_lineThrough 64 = .ok (.iconst 2, 1) := by decide +kernel
theorem dX8_lineThrough_65 : decode cX8_lineThrough 65 = .ok (.aload_n 0, 1) := by decide +kernel
theorem dX8_lineThrough_66 : decode cX8_lineThrough 66 = .ok (.getfield 31, 3) := by decide +kernel
theorem dX8_lineThrough_69 : decode cX8_lineThrough 69 = .ok (.imul, 1) := by decide +kernel
theorem dX8_lineThrough_70 : decode cX8_lineThrough 70 = .ok (.goto 4, 3) := by decide +kernel
theorem dX8_lineThrough_73 : decode cX8_lineThrough 73 = .ok (.iconst (-1), 1) := by decide +kernel
theorem dX8_lineThrough_74 : decode cX8_lineThrough 74 = .ok (.ireturn, 1) := by decide +kernel
theorem dX8_lineThrough_75 : decode cX8_lineThrough 75 = .ok (.iload_n 3, 1) := by decide +kernel
theorem dX8_lineThrough_76 : decode cX8_lineThrough 76 = .ok (.iload 4, 2) := by decide +kernel
theorem dX8_lineThrough_78 : decode cX8_lineThrough 78 = .ok (.iadd, 1) := by decide +kernel
theorem dX8_lineThrough_79 : decode cX8_lineThrough 79 = .ok (.aload_n 0, 1) := by decide +kernel
theorem dX8_lineThrough_80 : decode cX8_lineThrough 80 = .ok (.getfield 31, 3) := by decide +kernel
theorem dX8_lineThrough_83 : decode cX8_lineThrough 83 = .ok (.iconst 1, 1) := by decide +kernel
theorem dX8_lineThrough_84 : decode cX8_lineThrough 84 = .ok (.isub, 1) := by decide +kernel
theorem dX8_lineThrough_85 : decode cX8_lineThrough 85 = .ok (.if_icmp .ne 14, 3) := by decide +kernel
theorem dX8_lineThrough_88 : decode cX8_lineThrough 88 = .ok (.iconst 2, 1) := by decide +kernel
theorem dX8_lineThrough_89 : decode cX8_lineThrough 89 = .ok (.aload_n 0, 1) := by decide +kernel
theorem dX8_lineThrough_90 : decode cX8_lineThrough 90 = .ok (.getfield 31, 3) := by decide +kernel
theorem dX8_lineThrough_93 : decode cX8_lineThrough 93 = .ok (.imul, 1) := by decide +kernel
theorem dX8_lineThrough_94 : decode cX8_lineThrough 94 = .ok (.iconst 1, 1) := by decide +kernel
theorem dX8_lineThrough_95 : decode cX8_lineThrough 95 = .ok (.iadd, 1) := by decide +kernel
theorem dX8_lineThrough_96 : decode cX8_lineThrough 96 = .ok (.goto 4, 3) := by decide +kernel
theorem dX8_lineThrough_99 : decode cX8_lineThrough 99 = .ok (.iconst (-1), 1) := by decide +kernel
theorem dX8_lineThrough_100 : decode cX8_lineThrough 100 = .ok (.ireturn, 1) := by decide +kernel
theorem dX8_addEmpty_0 : decode cX8_addEmpty 0 = .ok (.aload_n 0, 1) := by decide +kernel
theorem dX8_addEmpty_1 : decode cX8_addEmpty 1 = .ok (.getfield 69, 3) := by decide +kernel
theorem dX8_addEmpty_4 : decode cX8_addEmpty 4 = .ok (.ifCond .lt 35, 3) := by decide +kernel
theorem dX8_addEmpty_7 : decode cX8_addEmpty 7 = .ok (.aload_n 0, 1) := by decide +kernel
theorem dX8_addEmpty_8 : decode cX8_addEmpty 8 = .ok (.getfield 69, 3) := by decide +kernel
theorem dX8_addEmpty_11 : decode cX8_addEmpty 11 = .ok (.aload_n 0, 1) := by decide +kernel
theorem dX8_addEmpty_12 : decode cX8_addEmpty 12 = .ok (.getfield 28, 3) := by decide +kernel
theorem dX8_addEmpty_15 : decode cX8_addEmpty 15 = .ok (.arraylength, 1) := by decide +kernel
theorem dX8_addEmpty_16 : decode cX8_addEmpty 16 = .ok (.if_icmp .ge 23, 3) := by decide +kernel
theorem dX8_addEmpty_19 : decode cX8_addEmpty 19 = .ok (.aload_n 0, 1) := by decide +kernel
theorem dX8_addEmpty_20 : decode cX8_addEmpty 20 = .ok (.getfield 28, 3) := by decide +kernel
theorem dX8_addEmpty_23 : decode cX8_addEmpty 23 = .ok (.aload_n 0, 1) := by decide +kernel
theorem dX8_addEmpty_24 : decode cX8_addEmpty 24 = .ok (.getfield 69, 3) := by decide +kernel
theorem dX8_addEmpty_27 : decode cX8_addEmpty 27 = .ok (.iload_n 1, 1) := by decide +kernel
theorem dX8_addEmpty_28 : decode cX8_addEmpty 28 = .ok (.iastore, 1) := by decide +kernel
theorem dX8_addEmpty_29 : decode cX8_addEmpty 29 = .ok (.aload_n 0, 1) := by decide +kernel
theorem dX8_addEmpty_30 : decode cX8_addEmpty 30 = .ok (.dup, 1) := by decide +kernel
theorem dX8_addEmpty_31 : decode cX8_addEmpty 31 = .ok (.getfield 69, 3) := by decide +kernel
theorem dX8_addEmpty_34 : decode cX8_addEmpty 34 = .ok (.iconst 1, 1) := by decide +kernel
theorem dX8_addEmpty_35 : decode cX8_addEmpty 35 = .ok (.iadd, 1) := by decide +kernel
theorem dX8_addEmpty_36 : decode cX8_addEmpty 36 = .ok (.putfield 69, 3) := by decide +kernel
theorem dX8_addEmpty_39 : decode cX8_addEmpty 39 = .ok (.return_, 1) := by decide +kernel
theorem dX8_countAll_0 : decode cX8_countAll 0 = .ok (.aload_n 0, 1) := by decide +kernel
theorem dX8_countAll_1 : decode cX8_countAll 1 = .ok (.iconst (-1), 1) := by decide +kernel
theorem dX8_countAll_2 : decode cX8_countAll 2 = .ok (.iconst 0, 1) := by decide +kernel
theorem dX8_countAll_3 : decode cX8_countAll 3 = .ok (.invokevirtual 84, 3) := by decide +kernel
theorem dX8_countAll_6 : decode cX8_countAll 6 = .ok (.aload_n 0, 1) := by decide +kernel
theorem dX8_countAll_7 : decode cX8_countAll 7 = .ok (.getfield 87, 3) := by decide +kernel
theorem dX8_countAll_10 : decode cX8_countAll 10 = .ok (.ireturn, 1) := by decide +kernel
theorem dX8_numberIn_0 : decode cX8_numberIn 0 = .ok (.aload_n 0, 1) := by decide +kernel
theorem dX8_numberIn_1 : decode cX8_numberIn 1 = .ok (.iload_n 1, 1) := by decide +kernel
theorem dX8_numberIn_2 : decode cX8_numberIn 2 = .ok (.iload_n 2, 1) := by decide +kernel
theorem dX8_numberIn_3 : decode cX8_numberIn 3 = .ok (.invokevirtual 84, 3) := by decide +kernel
theorem dX8_numberIn_6 : decode cX8_numberIn 6 = .ok (.aload_n 0, 1) := by decide +kernel
theorem dX8_numberIn_7 : decode cX8_numberIn 7 = .ok (.getfield 90, 3) := by decide +kernel
theorem dX8_numberIn_10 : decode cX8_numberIn 10 = .ok (.ireturn, 1) := by decide +kernel
theorem dX8_seek_0 : decode cX8_seek 0 = .ok (.aload_n 0, 1) := by decide +kernel
theorem dX8_seek_1 : decode cX8_seek 1 = .ok (.iload_n 1, 1) := by decide +kernel
theorem dX8_seek_2 : decode cX8_seek 2 = .ok (.putfield 93, 3) := by decide +kernel
theorem dX8_seek_5 : decode cX8_seek 5 = .ok (.aload_n 0, 1) := by decide +kernel
theorem dX8_seek_6 : decode cX8_seek 6 = .ok (.iload_n 2, 1) := by decide +kernel
theorem dX8_seek_7 : decode cX8_seek 7 = .ok (.putfield 96, 3) := by decide +kernel
theorem dX8_seek_10 : decode cX8_seek 10 = .ok (.aload_n 0, 1) := by decide +kernel
theorem dX8_seek_11 : decode cX8_seek 11 = .ok (.iconst 0, 1) := by decide +kernel
theorem dX8_seek_12 : decode cX8_seek 12 = .ok (.putfield 87, 3) := by decide +kernel
theorem dX8_seek_15 : decode cX8_seek 15 = .ok (.aload_n 0, 1) := by decide +kernel
theorem dX8_seek_16 : decode cX8_seek 16 = .ok (.iconst (-1), 1) := by decide +kernel
theorem dX8_seek_17 : decode cX8_seek 17 = .ok (.putfield 90, 3) := by decide +kernel
theorem dX8_seek_20 : decode cX8_seek 20 = .ok (.aload_n 0, 1) := by decide +kernel
theorem dX8_seek_21 : decode cX8_seek 21 = .ok (.invokevirtual 99, 3) := by decide +kernel
theorem dX8_seek_24 : decode cX8_seek 24 = .ok (.ifCond .eq 8, 3) := by decide +kernel
theorem dX8_seek_27 : decode cX8_seek 27 = .ok (.aload_n 0, 1) := by decide +kernel
theorem dX8_seek_28 : decode cX8_seek 28 = .ok (.iconst 0, 1) := by decide +kernel
theorem dX8_seek_29 : decode cX8_seek 29 = .ok (.invokestatic 103, 3) := by decide +kernel
theorem dX8_seek_32 : decode cX8_seek 32 = .ok (.return_, 1) := by decide +kernel
theorem dX8_fillFrom_0 : decode cX8_fillFrom 0 = .ok (.iload_n 1, 1) := by decide +kernel
theorem dX8_fillFrom_1 : decode cX8_fillFrom 1 = .ok (.aload_n 0, 1) := by decide +kernel
theorem dX8_fillFrom_2 : decode cX8_fillFrom 2 = .ok (.getfield 69, 3) := by decide +kernel
theorem dX8_fillFrom_5 : decode cX8_fillFrom 5 = .ok (.if_icmp .ge 16, 3) := by decide +kernel
theorem dX8_fillFrom_8 : decode cX8_fillFrom 8 = .ok (.iload_n 1, 1) := by decide +kernel
theorem dX8_fillFrom_9 : decode cX8_fillFrom 9 = .ok (.aload_n 0, 1) := by decide +kernel
theorem dX8_fillFrom_10 : decode cX8_fillFrom 10 = .ok (.getfield 28, 3) := by decide +kernel
theorem dX8_fillFrom_13 : decode cX8_fillFrom 13 = .ok (.arraylength, 1) := by decide +kernel
theorem dX8_fillFrom_14 : decode cX8_fillFrom 14 = .ok (.if_icmp .ge 7, 3) := by decide +kernel
theorem dX8_fillFrom_17 : decode cX8_fillFrom 17 = .ok (.iload_n 1, 1) := by decide +kernel
theorem dX8_fillFrom_18 : decode cX8_fillFrom 18 = .ok (.ifCond .ge 8, 3) := by decide +kernel
theorem dX8_fillFrom_21 : decode cX8_fillFrom 21 = .ok (.aload_n 0, 1) := by decide +kernel
theorem dX8_fillFrom_22 : decode cX8_fillFrom 22 = .ok (.invokevirtual 107, 3) := by decide +kernel
theorem dX8_fillFrom_25 : decode cX8_fillFrom 25 = .ok (.return_, 1) := by decide +kernel
theorem dX8_fillFrom_26 : decode cX8_fillFrom 26 = .ok (.aload_n 0, 1) := by decide +kernel
theorem dX8_fillFrom_27 : decode cX8_fillFrom 27 = .ok (.getfield 28, 3) := by decide +kernel
theorem dX8_fillFrom_30 : decode cX8_fillFrom 30 = .ok (.iload_n 1, 1) := by decide +kernel
theorem dX8_fillFrom_31 : decode cX8_fillFrom 31 = .ok (.iaload, 1) := by decide +kernel
theorem dX8_fillFrom_32 : decode cX8_fillFrom 32 = .ok (.istore_n 2, 1) := by decide +kernel
theorem dX8_fillFrom_33 : decode cX8_fillFrom 33 = .ok (.aload_n 0, 1) := by decide +kernel
theorem dX8_fillFrom_34 : decode cX8_fillFrom 34 = .ok (.iload_n 2, 1) := by decide +kernel
theorem dX8_fillFrom_35 : decode cX8_fillFrom 35 = .ok (.invokevirtual 110, 3) := by decide +kernel
theorem dX8_fillFrom_38 : decode cX8_fillFrom 38 = .ok (.istore_n 3, 1) := by decide +kernel
theorem dX8_fillFrom_39 : decode cX8_fillFrom 39 = .ok (.aload_n 0, 1) := by decide +kernel
theorem dX8_fillFrom_40 : decode cX8_fillFrom 40 = .ok (.iload_n 2, 1) := by decide +kernel
theorem dX8_fillFrom_41 : decode cX8_fillFrom 41 = .ok (.invokevirtual 113, 3) := by decide +kernel
theorem dX8_fillFrom_44 : decode cX8_fillFrom 44 = .ok (.istore 4, 2) := by decide +kernel
theorem dX8_fillFrom_46 : decode cX8_fillFrom 46 = .ok (.iload 4, 2) := by decide +kernel
theorem dX8_fillFrom_48 : decode cX8_fillFrom 48 = .ok (.iload_n 3, 1) := by decide +kernel
theorem dX8_fillFrom_49 : decode cX8_fillFrom 49 = .ok (.if_icmp .gt 47, 3) := by decide +kernel
theorem dX8_fillFrom_52 : decode cX8_fillFrom 52 = .ok (.aload_n 0, 1) := by decide +kernel
theorem dX8_fillFrom_53 : decode cX8_fillFrom 53 = .ok (.getfield 90, 3) := by decide +kernel
theorem dX8_fillFrom_56 : decode cX8_fillFrom 56 = .ok (.iconst (-1), 1) := by decide +kernel
theorem dX8_fillFrom_57 : decode cX8_fillFrom 57 = .ok (.if_icmp .ne 39, 3) := by decide +kernel
theorem dX8_fillFrom_60 : decode cX8_fillFrom 60 = .ok (.aload_n 0, 1) := by decide +kernel
theorem dX8_fillFrom_61 : decode cX8_fillFrom 61 = .ok (.iload 4, 2) := by decide +kernel
theorem dX8_fillFrom_63 : decode cX8_fillFrom 63 = .ok (.invokevirtual 54, 3) := by decide +kernel
theorem dX8_fillFrom_66 : decode cX8_fillFrom 66 = .ok (.ifCond .eq 24, 3) := by decide +kernel
theorem dX8_fillFrom_69 : decode cX8_fillFrom 69 = .ok (.aload_n 0, 1) := by decide +kernel
theorem dX8_fillFrom_70 : decode cX8_fillFrom 70 = .ok (.iload_n 2, 1) := by decide +kernel
theorem dX8_fillFrom_71 : decode cX8_fillFrom 71 = .ok (.iload 4, 2) := by decide +kernel
theorem dX8_fillFrom_73 : decode cX8_fillFrom 73 = .ok (.invokevirtual 58, 3) := by decide +kernel
theorem dX8_fillFrom_76 : decode cX8_fillFrom 76 = .ok (.aload_n 0, 1) := by decide +kernel
theorem dX8_fillFrom_77 : decode cX8_fillFrom 77 = .ok (.iload_n 1, 1) := by decide +kernel
theorem dX8_fillFrom_78 : decode cX8_fillFrom 78 = .ok (.iconst 1, 1) := by decide +kernel
theorem dX8_fillFrom_79 : decode cX8_fillFrom 79 = .ok (.iadd, 1) := by decide +kernel
theorem dX8_fillFrom_80 : decode cX8_fillFrom 80 = .ok (.invokestatic 103, 3) := by decide +kernel
theorem dX8_fillFrom_83 : decode cX8_fillFrom 83 = .ok (.aload_n 0, 1) := by decide +kernel
theorem dX8_fillFrom_84 : decode cX8_fillFrom 84 = .ok (.iload_n 2, 1) := by decide +kernel
theorem dX8_fillFrom_85 : decode cX8_fillFrom 85 = .ok (.iload 4, 2) := by decide +kernel
theorem dX8_fillFrom_87 : decode cX8_fillFrom 87 = .ok (.invokevirtual 116, 3) := by decide +kernel
theorem dX8_fillFrom_90 : decode cX8_fillFrom 90 = .ok (.iinc 4 1, 3) := by decide +kernel
theorem dX8_fillFrom_93 : decode cX8_fillFrom 93 = .ok (.goto (-47), 3) := by decide +kernel
theorem dX8_fillFrom_96 : decode cX8_fillFrom 96 = .ok (.return_, 1) := by decide +kernel
theorem dX8_meet_0 : decode cX8_meet 0 = .ok (.aload_n 0, 1) := by decide +kernel
theorem dX8_meet_1 : decode cX8_meet 1 = .ok (.getfield 87, 3) := by decide +kernel
theorem dX8_meet_4 : decode cX8_meet 4 = .ok (.aload_n 0, 1) := by decide +kernel
theorem dX8_meet_5 : decode cX8_meet 5 = .ok (.getfield 93, 3) := by decide +kernel
theorem dX8_meet_8 : decode cX8_meet 8 = .ok (.if_icmp .ne 35, 3) := by decide +kernel
theorem dX8_meet_11 : decode cX8_meet 11 = .ok (.aload_n 0, 1) := by decide +kernel
theorem dX8_meet_12 : decode cX8_meet 12 = .ok (.getfield 96, 3) := by decide +kernel
theorem dX8_meet_15 : decode cX8_meet 15 = .ok (.ifCond .lt 28, 3) := by decide +kernel
theorem dX8_meet_18 : decode cX8_meet 18 = .ok (.aload_n 0, 1) := by decide +kernel
theorem dX8_meet_19 : decode cX8_meet 19 = .ok (.getfield 96, 3) := by decide +kernel
theorem dX8_meet_22 : decode cX8_meet 22 = .ok (.aload_n 0, 1) := by decide +kernel
theorem dX8_meet_23 : decode cX8_meet 23 = .ok (.getfield 11, 3) := by decide +kernel
theorem dX8_meet_26 : decode cX8_meet 26 = .ok (.arraylength, 1) := by decide +kernel
theorem dX8_meet_27 : decode cX8_meet 27 = .ok (.if_icmp .ge 16, 3) := by decide +kernel
theorem dX8_meet_30 : decode cX8_meet 30 = .ok (.aload_n 0, 1) := by decide +kernel
theorem dX8_meet_31 : decode cX8_meet 31 = .ok (.aload_n 0, 1) := by decide +kernel
theorem dX8_meet_32 : decode cX8_meet 32 = .ok (.getfield 11, 3) := by decide +kernel
theorem dX8_meet_35 : decode cX8_meet 35 = .ok (.aload_n 0, 1) := by decide +kernel
theorem dX8_meet_36 : decode cX8_meet 36 = .ok (.getfield 96, 3) := by decide +kernel
theorem dX8_meet_39 : decode cX8_meet 39 = .ok (.iaload, 1) := by decide +kernel
theorem dX8_meet_40 : decode cX8_meet 40 = .ok (.putfield 90, 3) := by decide +kernel
theorem dX8_meet_43 : decode cX8_meet 43 = .ok (.aload_n 0, 1) := by decide +kernel
theorem dX8_meet_44 : decode cX8_meet 44 = .ok (.dup, 1) := by decide +kernel
theorem dX8_meet_45 : decode cX8_meet 45 = .ok (.getfield 87, 3) := by decide +kernel
theorem dX8_meet_48 : decode cX8_meet 48 = .ok (.iconst 1, 1) := by decide +kernel
theorem dX8_meet_49 : decode cX8_meet 49 = .ok (.iadd, 1) := by decide +kernel
theorem dX8_meet_50 : decode cX8_meet 50 = .ok (.putfield 87, 3) := by decide +kernel
theorem dX8_meet_53 : decode cX8_meet 53 = .ok (.return_, 1) := by decide +kernel
theorem dX8_fits_0 : decode cX8_fits 0 = .ok (.aload_n 0, 1) := by decide +kernel
theorem dX8_fits_1 : decode cX8_fits 1 = .ok (.getfield 62, 3) := by decide +kernel
theorem dX8_fits_4 : decode cX8_fits 4 = .ok (.ifCond .eq 5, 3) := by decide +kernel
theorem dX8_fits_7 : decode cX8_fits 7 = .ok (.iconst 0, 1) := by decide +kernel
theorem dX8_fits_8 : decode cX8_fits 8 = .ok (.ireturn, 1) := by decide +kernel
theorem dX8_fits_9 : decode cX8_fits 9 = .ok (.iconst 0, 1) := by decide +kernel
theorem dX8_fits_10 : decode cX8_fits 10 = .ok (.istore_n 1, 1) := by decide +kernel
theorem dX8_fits_11 : decode cX8_fits 11 = .ok (.iload_n 1, 1) := by decide +kernel
theorem dX8_fits_12 : decode cX8_fits 12 = .ok (.iconst 2, 1) := by decide +kernel
theorem dX8_fits_13 : decode cX8_fits 13 = .ok (.aload_n 0, 1) := by decide +kernel
theorem dX8_fits_14 : decode cX8_fits 14 = .ok (.getfield 31, 3) := by decide +kernel
theorem dX8_fits_17 : decode cX8_fits 17 = .ok (.imul, 1) := by decide +kernel
theorem dX8_fits_18 : decode cX8_fits 18 = .ok (.iconst 2, 1) := by decide +kernel
theorem dX8_fits_19 : decode cX8_fits 19 = .ok (.iadd, 1) := by decide +kernel
theorem dX8_fits_20 : decode cX8_fits 20 = .ok (.if_icmp .ge 57, 3) := by decide +kernel
theorem dX8_fits_23 : decode cX8_fits 23 = .ok (.aload_n 0, 1) := by decide +kernel
theorem dX8_fits_24 : decode cX8_fits 24 = .ok (.iload_n 1, 1) := by decide +kernel
theorem dX8_fits_25 : decode cX8_fits 25 = .ok (.invokevirtual 126, 3) := by decide +kernel
theorem dX8_fits_28 : decode cX8_fits 28 = .ok (.ifCond .eq 49, 3) := by decide +kernel
theorem dX8_fits_31 : decode cX8_fits 31 = .ok (.aload_n 0, 1) := by decide +kernel
theorem dX8_fits_32 : decode cX8_fits 32 = .ok (.getfield 22, 3) := by decide +kernel
theorem dX8_fits_35 : decode cX8_fits 35 = .ok (.iload_n 1, 1) := by decide +kernel
theorem dX8_fits_36 : decode cX8_fits 36 = .ok (.iaload, 1) := by decide +kernel
theorem dX8_fits_37 : decode cX8_fits 37 = .ok (.ifCond .ne 19, 3) := by decide +kernel
theorem dX8_fits_40 : decode cX8_fits 40 = .ok (.aload_n 0, 1) := by decide +kernel
theorem dX8_fits_41 : decode cX8_fits 41 = .ok (.getfield 19, 3) := by decide +kernel
theorem dX8_fits_44 : decode cX8_fits 44 = .ok (.iload_n 1, 1) := by decide +kernel
theorem dX8_fits_45 : decode cX8_fits 45 = .ok (.iaload, 1) := by decide +kernel
theorem dX8_fits_46 : decode cX8_fits 46 = .ok (.aload_n 0, 1) := by decide +kernel
theorem dX8_fits_47 : decode cX8_fits 47 = .ok (.getfield 66, 3) := by decide +kernel
theorem dX8_fits_50 : decode cX8_fits 50 = .ok (.if_icmp .eq 21, 3) := by decide +kernel
theorem dX8_fits_53 : decode cX8_fits 53 = .ok (.goto 16, 3) := by decide +kernel
theorem dX8_fits_56 : decode cX8_fits 56 = .ok (.aload_n 0, 1) := by decide +kernel
theorem dX8_fits_57 : decode cX8_fits 57 = .ok (.getfield 19, 3) := by decide +kernel
theorem dX8_fits_60 : decode cX8_fits 60 = .ok (.iload_n 1, 1) := by decide +kernel
theorem dX8_fits_61 : decode cX8_fits 61 = .ok (.iaload, 1) := by decide +kernel
theorem dX8_fits_62 : decode cX8_fits 62 = .ok (.aload_n 0, 1) := by decide +kernel
theorem dX8_fits_63 : decode cX8_fits 63 = .ok (.getfield 66, 3) := by decide +kernel
theorem dX8_fits_66 : decode cX8_fits 66 = .ok (.if_icmp .lt 5, 3) := by decide +kernel
theorem dX8_fits_69 : decode cX8_fits 69 = .ok (.iconst 0, 1) := by decide +kernel
theorem dX8_fits_70 : decode cX8_fits 70 = .ok (.ireturn, 1) := by decide +kernel
theorem dX8_fits_71 : decode cX8_fits 71 = .ok (.iinc 1 1, 3) := by decide +kernel
theorem dX8_fits_74 : decode cX8_fits 74 = .ok (.goto (-63), 3) := by decide +kernel
theorem dX8_fits_77 : decode cX8_fits 77 = .ok (.iconst 1, 1) := by decide +kernel
theorem dX8_fits_78 : decode cX8_fits 78 = .ok (.ireturn, 1) := by decide +kernel
theorem dX8_lowestAt_0 : decode cX8_lowestAt 0 = .ok (.iconst 1, 1) := by decide +kernel
theorem dX8_lowestAt_1 : decode cX8_lowestAt 1 = .ok (.istore_n 2, 1) := by decide +kernel
theorem dX8_lowestAt_2 : decode cX8_lowestAt 2 = .ok (.iconst 0, 1) := by decide +kernel
theorem dX8_lowestAt_3 : decode cX8_lowestAt 3 = .ok (.istore_n 3, 1) := by decide +kernel
theorem dX8_lowestAt_4 : decode cX8_lowestAt 4 = .ok (.iload_n 3, 1) := by decide +kernel
theorem dX8_lowestAt_5 : decode cX8_lowestAt 5 = .ok (.iconst 4, 1) := by decide +kernel
theorem dX8_lowestAt_6 : decode cX8_lowestAt 6 = .ok (.if_icmp .ge 54, 3) := by decide +kernel
theorem dX8_lowestAt_9 : decode cX8_lowestAt 9 = .ok (.aload_n 0, 1) := by decide +kernel
theorem dX8_lowestAt_10 : decode cX8_lowestAt 10 = .ok (.iload_n 1, 1) := by decide +kernel
theorem dX8_lowestAt_11 : decode cX8_lowestAt 11 = .ok (.iload_n 3, 1) := by decide +kernel
theorem dX8_lowestAt_12 : decode cX8_lowestAt 12 = .ok (.invokevirtual 129, 3) := by decide +kernel
theorem dX8_lowestAt_15 : decode cX8_lowestAt 15 = .ok (.istore 4, 2) := by decide +kernel
theorem dX8_lowestAt_17 : decode cX8_lowestAt 17 = .ok (.aload_n 0, 1) := by decide +kernel
theorem dX8_lowestAt_18 : decode cX8_lowestAt 18 = .ok (.iload 4, 2) := by decide +kernel
theorem dX8_lowestAt_20 : decode cX8_lowestAt 20 = .ok (.invokevirtual 126, 3) := by decide +kernel
theorem dX8_lowestAt_23 : decode cX8_lowestAt 23 = .ok (.ifCond .eq 31, 3) := by decide +kernel
theorem dX8_lowestAt_26 : decode cX8_lowestAt 26 = .ok (.aload_n 0, 1) := by decide +kernel
theorem dX8_lowestAt_27 : decode cX8_lowestAt 27 = .ok (.getfield 22, 3) := by decide +kernel
theorem dX8_lowestAt_30 : decode cX8_lowestAt 30 = .ok (.iload 4, 2) := by decide +kernel
theorem dX8_lowestAt_32 : decode cX8_lowestAt 32 = .ok (.iaload, 1) := by decide +kernel
theorem dX8_lowestAt_33 : decode cX8_lowestAt 33 = .ok (.iconst 1, 1) := by decide +kernel
theorem dX8_lowestAt_34 : decode cX8_lowestAt 34 = .ok (.if_icmp .ne 20, 3) := by decide +kernel
theorem dX8_lowestAt_37 : decode cX8_lowestAt 37 = .ok (.iload_n 2, 1) := by decide +kernel
theorem dX8_lowestAt_38 : decode cX8_lowestAt 38 = .ok (.aload_n 0, 1) := by decide +kernel
theorem dX8_lowestAt_39 : decode cX8_lowestAt 39 = .ok (.getfield 66, 3) := by decide +kernel
theorem dX8_lowestAt_42 : decode cX8_lowestAt 42 = .ok (.aload_n 0, 1) := by decide +kernel
theorem dX8_lowestAt_43 : decode cX8_lowestAt 43 = .ok (.getfield 19, 3) := by decide +kernel
theorem dX8_lowestAt_46 : decode cX8_lowestAt 46 = .ok (.iload 4, 2) := by decide +kernel
theorem dX8_lowestAt_48 : decode cX8_lowestAt 48 = .ok (.iaload, 1) := by decide +kernel
theorem dX8_lowestAt_49 : decode cX8_lowestAt 49 = .ok (.isub, 1) := by decide +kernel
theorem dX8_lowestAt_50 : decode cX8_lowestAt 50 = .ok (.invokestatic 132, 3) := by decide +kernel
theorem dX8_lowestAt_53 : decode cX8_lowestAt 53 = .ok (.istore_n 2, 1) := by decide +kernel
theorem dX8_lowestAt_54 : decode cX8_lowestAt 54 = .ok (.iinc 3 1, 3) := by decide +kernel
theorem dX8_lowestAt_57 : decode cX8_lowestAt 57 = .ok (.goto (-53), 3) := by decide +kernel
theorem dX8_lowestAt_60 : decode cX8_lowestAt 60 = .ok (.iload_n 2, 1) := by decide +kernel
theorem dX8_lowestAt_61 : decode cX8_lowestAt 61 = .ok (.ireturn, 1) := by decide +kernel
theorem dX8_highestAt_0 : decode cX8_highestAt 0 = .ok (.aload_n 0, 1) := by decide +kernel
theorem dX8_highestAt_1 : decode cX8_highestAt 1 = .ok (.getfield 31, 3) := by decide +kernel
theorem dX8_highestAt_4 : decode cX8_highestAt 4 = .ok (.aload_n 0, 1) := by decide +kernel
theorem dX8_highestAt_5 : decode cX8_highestAt 5 = .ok (.getfield 31, 3) := by decide +kernel
theorem dX8_highestAt_8 : decode cX8_highestAt 8 = .ok (.imul, 1) := by decide +kernel
theorem dX8_highestAt_9 : decode cX8_highestAt 9 = .ok (.istore_n 2, 1) := by decide +kernel
theorem dX8_highestAt_10 : decode cX8_highestAt 10 = .ok (.iconst 0, 1) := by decide +kernel
theorem dX8_highestAt_11 : decode cX8_highestAt 11 = .ok (.istore_n 3, 1) := by decide +kernel
theorem dX8_highestAt_12 : decode cX8_highestAt 12 = .ok (.iload_n 3, 1) := by decide +kernel
theorem dX8_highestAt_13 : decode cX8_highestAt 13 = .ok (.iconst 4, 1) := by decide +kernel
theorem dX8_highestAt_14 : decode cX8_highestAt 14 = .ok (.if_icmp .ge 65, 3) := by decide +kernel
theorem dX8_highestAt_17 : decode cX8_highestAt 17 = .ok (.aload_n 0, 1) := by decide +kernel
theorem dX8_highestAt_18 : decode cX8_highestAt 18 = .ok (.iload_n 1, 1) := by decide +kernel
theorem dX8_highestAt_19 : decode cX8_highestAt 19 = .ok (.iload_n 3, 1) := by decide +kernel
theorem dX8_highestAt_20 : decode cX8_highestAt 20 = .ok (.invokevirtual 129, 3) := by decide +kernel
theorem dX8_highestAt_23 : decode cX8_highestAt 23 = .ok (.istore 4, 2) := by decide +kernel
theorem dX8_highestAt_25 : decode cX8_highestAt 25 = .ok (.aload_n 0, 1) := by decide +kernel
theorem dX8_highestAt_26 : decode cX8_highestAt 26 = .ok (.iload 4, 2) := by decide +kernel
theorem dX8_highestAt_28 : decode cX8_highestAt 28 = .ok (.invokevirtual 126, 3) := by decide +kernel
theorem dX8_highestAt_31 : decode cX8_highestAt 31 = .ok (.ifCond .eq 42, 3) := by decide +kernel
theorem dX8_highestAt_34 : decode cX8_highestAt 34 = .ok (.aload_n 0, 1) := by decide +kernel
theorem dX8_highestAt_35 : decode cX8_highestAt 35 = .ok (.getfield 66, 3) := by decide +kernel
theorem dX8_highestAt_38 : decode cX8_highestAt 38 = .ok (.aload_n 0, 1) := by decide +kernel
theorem dX8_highestAt_39 : decode cX8_highestAt 39 = .ok (.getfield 19, 3) := by decide +kernel
theorem dX8_highestAt_42 : decode cX8_highestAt 42 = .ok (.iload 4, 2) := by decide +kernel
theorem dX8_highestAt_44 : decode cX8_highestAt 44 = .ok (.iaload, 1) := by decide +kernel
theorem dX8_highestAt_45 : decode cX8_highestAt 45 = .ok (.isub, 1) := by decide +kernel
theorem dX8_highestAt_46 : decode cX8_highestAt 46 = .ok (.istore 5, 2) := by decide +kernel
theorem dX8_highestAt_48 : decode cX8_highestAt 48 = .ok (.iload_n 2, 1) := by decide +kernel
theorem dX8_highestAt_49 : decode cX8_highestAt 49 = .ok (.aload_n 0, 1) := by decide +kernel
theorem dX8_highestAt_50 : decode cX8_highestAt 50 = .ok (.getfield 22, 3) := by decide +kernel
theorem dX8_highestAt_53 : decode cX8_highestAt 53 = .ok (.iload 4, 2) := by decide +kernel
theorem dX8_highestAt_55 : decode cX8_highestAt 55 = .ok (.iaload, 1) := by decide +kernel
theorem dX8_highestAt_56 : decode cX8_highestAt 56 = .ok (.iconst 1, 1) := by decide +kernel
theorem dX8_highestAt_57 : decode cX8_highestAt 57 = .ok (.if_icmp .ne 8, 3) := by decide +kernel
theorem dX8_highestAt_60 : decode cX8_highestAt 60 = .ok (.iload 5, 2) := by decide +kernel
theorem dX8_highestAt_62 : decode cX8_highestAt 62 = .ok (.goto 7, 3) := by decide +kernel
theorem dX8_highestAt_65 : decode cX8_highestAt 65 = .ok (.iload 5, 2) := by decide +kernel
theorem dX8_highestAt_67 : decode cX8_highestAt 67 = .ok (.iconst 1, 1) := by decide +kernel
theorem dX8_highestAt_68 : decode cX8_highestAt 68 = .ok (.isub, 1) := by decide +kernel
theorem dX8_highestAt_69 : decode cX8_highestAt 69 = .ok (.invokestatic 137, 3) := by decide +kernel
theorem dX8_highestAt_72 : decode cX8_highestAt 72 = .ok (.istore_n 2, 1) := by decide +kernel
theorem dX8_highestAt_73 : decode cX8_highestAt 73 = .ok (.iinc 3 1, 3) := by decide +kernel
theorem dX8_highestAt_76 : decode cX8_highestAt 76 = .ok (.goto (-64), 3) := by decide +kernel
theorem dX8_highestAt_79 : decode cX8_highestAt 79 = .ok (.iload_n 2, 1) := by decide +kernel
theorem dX8_highestAt_80 : decode cX8_highestAt 80 = .ok (.ireturn, 1) := by decide +kernel
theorem dX8_lay_0 : decode cX8_lay 0 = .ok (.iload_n 1, 1) := by decide +kernel
theorem dX8_lay_1 : decode cX8_lay 1 = .ok (.ifCond .lt 41, 3) := by decide +kernel
theorem dX8_lay_4 : decode cX8_lay 4 = .ok (.iload_n 1, 1) := by decide +kernel
theorem dX8_lay_5 : decode cX8_lay 5 = .ok (.aload_n 0, 1) := by decide +kernel
theorem dX8_lay_6 : decode cX8_lay 6 = .ok (.getfield 11, 3) := by decide +kernel
theorem dX8_lay_9 : decode cX8_lay 9 = .ok (.arraylength, 1) := by decide +kernel
theorem dX8_lay_10 : decode cX8_lay 10 = .ok (.if_icmp .ge 32, 3) := by decide +kernel
theorem dX8_lay_13 : decode cX8_lay 13 = .ok (.aload_n 0, 1) := by decide +kernel
theorem dX8_lay_14 : decode cX8_lay 14 = .ok (.iload_n 2, 1) := by decide +kernel
theorem dX8_lay_15 : decode cX8_lay 15 = .ok (.invokevirtual 54, 3) := by decide +kernel
theorem dX8_lay_18 : decode cX8_lay 18 = .ok (.ifCond .eq 24, 3) := by decide +kernel
theorem dX8_lay_21 : decode cX8_lay 21 = .ok (.aload_n 0, 1) := by decide +kernel
theorem dX8_lay_22 : decode cX8_lay 22 = .ok (.getfield 11, 3) := by decide +kernel
theorem dX8_lay_25 : decode cX8_lay 25 = .ok (.iload_n 1, 1) := by decide +kernel
theorem dX8_lay_26 : decode cX8_lay 26 = .ok (.iload_n 2, 1) := by decide +kernel
theorem dX8_lay_27 : decode cX8_lay 27 = .ok (.iastore, 1) := by decide +kernel
theorem dX8_lay_28 : decode cX8_lay 28 = .ok (.aload_n 0, 1) := by decide +kernel
theorem dX8_lay_29 : decode cX8_lay 29 = .ok (.getfield 15, 3) := by decide +kernel
theorem dX8_lay_32 : decode cX8_lay 32 = .ok (.iload_n 2, 1) := by decide +kernel
theorem dX8_lay_33 : decode cX8_lay 33 = .ok (.iconst 1, 1) := by decide +kernel
theorem dX8_lay_34 : decode cX8_lay 34 = .ok (.bastore, 1) := by decide +kernel
theorem dX8_lay_35 : decode cX8_lay 35 = .ok (.aload_n 0, 1) := by decide +kernel
theorem dX8_lay_36 : decode cX8_lay 36 = .ok (.iload_n 1, 1) := by decide +kernel
theorem dX8_lay_37 : decode cX8_lay 37 = .ok (.iload_n 2, 1) := by decide +kernel
theorem dX8_lay_38 : decode cX8_lay 38 = .ok (.iconst (-1), 1) := by decide +kernel
theorem dX8_lay_39 : decode cX8_lay 39 = .ok (.invokevirtual 140, 3) := by decide +kernel
theorem dX8_lay_42 : decode cX8_lay 42 = .ok (.return_, 1) := by decide +kernel
theorem dX8_lift_0 : decode cX8_lift 0 = .ok (.iload_n 2, 1) := by decide +kernel
theorem dX8_lift_1 : decode cX8_lift 1 = .ok (.ifCond .lt 27, 3) := by decide +kernel
theorem dX8_lift_4 : decode cX8_lift 4 = .ok (.iload_n 2, 1) := by decide +kernel
theorem dX8_lift_5 : decode cX8_lift 5 = .ok (.aload_n 0, 1) := by decide +kernel
theorem dX8_lift_6 : decode cX8_lift 6 = .ok (.getfield 15, 3) := by decide +kernel
theorem dX8_lift_9 : decode cX8_lift 9 = .ok (.arraylength, 1) := by decide +kernel
theorem dX8_lift_10 : decode cX8_lift 10 = .ok (.if_icmp .ge 18, 3) := by decide +kernel
theorem dX8_lift_13 : decode cX8_lift 13 = .ok (.aload_n 0, 1) := by decide +kernel
theorem dX8_lift_14 : decode cX8_lift 14 = .ok (.getfield 15, 3) := by decide +kernel
theorem dX8_lift_17 : decode cX8_lift 17 = .ok (.iload_n 2, 1) := by decide +kernel
theorem dX8_lift_18 : decode cX8_lift 18 = .ok (.iconst 0, 1) := by decide +kernel
theorem dX8_lift_19 : decode cX8_lift 19 = .ok (.bastore, 1) := by decide +kernel
theorem dX8_lift_20 : decode cX8_lift 20 = .ok (.aload_n 0, 1) := by decide +kernel
theorem dX8_lift_21 : decode cX8_lift 21 = .ok (.iload_n 1, 1) := by decide +kernel
theorem dX8_lift_22 : decode cX8_lift 22 = .ok (.iload_n 2, 1) := by decide +kernel
theorem dX8_lift_23 : decode cX8_lift 23 = .ok (.ineg, 1) := by decide +kernel
theorem dX8_lift_24 : decode cX8_lift 24 = .ok (.iconst 1, 1) := by decide +kernel
theorem dX8_lift_25 : decode cX8_lift 25 = .ok (.invokevirtual 140, 3) := by decide +kernel
theorem dX8_lift_28 : decode cX8_lift 28 = .ok (.return_, 1) := by decide +kernel
theorem dX8_tally_0 : decode cX8_tally 0 = .ok (.iconst 0, 1) := by decide +kernel
theorem dX8_tally_1 : decode cX8_tally 1 = .ok (.istore 4, 2) := by decide +kernel
theorem dX8_tally_3 : decode cX8_tally 3 = .ok (.iload 4, 2) := by decide +kernel
theorem dX8_tally_5 : decode cX8_tally 5 = .ok (.iconst 4, 1) := by decide +kernel
theorem dX8_tally_6 : decode cX8_tally 6 = .ok (.if_icmp .ge 49, 3) := by decide +kernel
theorem dX8_tally_9 : decode cX8_tally 9 = .ok (.aload_n 0, 1) := by decide +kernel
theorem dX8_tally_10 : decode cX8_tally 10 = .ok (.iload_n 1, 1) := by decide +kernel
theorem dX8_tally_11 : decode cX8_tally 11 = .ok (.iload 4, 2) := by decide +kernel
theorem dX8_tally_13 : decode cX8_tally 13 = .ok (.invokevirtual 129, 3) := by decide +kernel
theorem dX8_tally_16 : decode cX8_tally 16 = .ok (.istore 5, 2) := by decide +kernel
theorem dX8_tally_18 : decode cX8_tally 18 = .ok (.aload_n 0, 1) := by decide +kernel
theorem dX8_tally_19 : decode cX8_tally 19 = .ok (.iload 5, 2) := by decide +kernel
theorem dX8_tally_21 : decode cX8_tally 21 = .ok (.invokevirtual 126, 3) := by decide +kernel
theorem dX8_tally_24 : decode cX8_tally 24 = .ok (.ifCond .eq 25, 3) := by decide +kernel
theorem dX8_tally_27 : decode cX8_tally 27 = .ok (.aload_n 0, 1) := by decide +kernel
theorem dX8_tally_28 : decode cX8_tally 28 = .ok (.getfield 19, 3) := by decide +kernel
theorem dX8_tally_31 : decode cX8_tally 31 = .ok (.iload 5, 2) := by decide +kernel
theorem dX8_tally_33 : decode cX8_tally 33 = .ok (.dup2, 1) := by decide +kernel
theorem dX8_tally_34 : decode cX8_tally 34 = .ok (.iaload, 1) := by decide +kernel
theorem dX8_tally_35 : decode cX8_tally 35 = .ok (.iload_n 2, 1) := by decide +kernel
theorem dX8_tally_36 : decode cX8_tally 36 = .ok (.iadd, 1) := by decide +kernel
theorem dX8_tally_37 : decode cX8_tally 37 = .ok (.iastore, 1) := by decide +kernel
theorem dX8_tally_38 : decode cX8_tally 38 = .ok (.aload_n 0, 1) := by decide +kernel
theorem dX8_tally_39 : decode cX8_tally 39 = .ok (.getfield 22, 3) := by decide +kernel
theorem dX8_tally_42 : decode cX8_tally 42 = .ok (.iload 5, 2) := by decide +kernel
theorem dX8_tally_44 : decode cX8_tally 44 = .ok (.dup2, 1) := by decide +kernel
theorem dX8_tally_45 : decode cX8_tally 45 = .ok (.iaload, 1) := by decide +kernel
theorem dX8_tally_46 : decode cX8_tally 46 = .ok (.iload_n 3, 1) := by decide +kernel
theorem dX8_tally_47 : decode cX8_tally 47 = .ok (.iadd, 1) := by decide +kernel
theorem dX8_tally_48 : decode cX8_tally 48 = .ok (.iastore, 1) := by decide +kernel
theorem dX8_tally_49 : decode cX8_tally 49 = .ok (.iinc 4 1, 3) := by decide +kernel
theorem dX8_tally_52 : decode cX8_tally 52 = .ok (.goto (-49), 3) := by decide +kernel
theorem dX8_tally_55 : decode cX8_tally 55 = .ok (.return_, 1) := by decide +kernel
theorem dX8_lineAt_0 : decode cX8_lineAt 0 = .ok (.iload_n 1, 1) := by decide +kernel
theorem dX8_lineAt_1 : decode cX8_lineAt 1 = .ok (.iconst 4, 1) := by decide +kernel
theorem dX8_lineAt_2 : decode cX8_lineAt 2 = .ok (.imul, 1) := by decide +kernel
theorem dX8_lineAt_3 : decode cX8_lineAt 3 = .ok (.iload_n 2, 1) := by decide +kernel
theorem dX8_lineAt_4 : decode cX8_lineAt 4 = .ok (.iadd, 1) := by decide +kernel
theorem dX8_lineAt_5 : decode cX8_lineAt 5 = .ok (.istore_n 3, 1) := by decide +kernel
theorem dX8_lineAt_6 : decode cX8_lineAt 6 = .ok (.iload_n 3, 1) := by decide +kernel
theorem dX8_lineAt_7 : decode cX8_lineAt 7 = .ok (.ifCond .lt 21, 3) := by decide +kernel
theorem dX8_lineAt_10 : decode cX8_lineAt 10 = .ok (.iload_n 3, 1) := by decide +kernel
theorem dX8_lineAt_11 : decode cX8_lineAt 11 = .ok (.aload_n 0, 1) := by decide +kernel
theorem dX8_lineAt_12 : decode cX8_lineAt 12 = .ok (.getfield 25, 3) := by decide +kernel
theorem dX8_lineAt_15 : decode cX8_lineAt 15 = .ok (.arraylength, 1) := by decide +kernel
theorem dX8_lineAt_16 : decode cX8_lineAt 16 = .ok (.if_icmp .ge 12, 3) := by decide +kernel
theorem dX8_lineAt_19 : decode cX8_lineAt 19 = .ok (.aload_n 0, 1) := by decide +kernel
theorem dX8_lineAt_20 : decode cX8_lineAt 20 = .ok (.getfield 25, 3) := by decide +kernel
theorem dX8_lineAt_23 : decode cX8_lineAt 23 = .ok (.iload_n 3, 1) := by decide +kernel
theorem dX8_lineAt_24 : decode cX8_lineAt 24 = .ok (.iaload, 1) := by decide +kernel
theorem dX8_lineAt_25 : decode cX8_lineAt 25 = .ok (.goto 4, 3) := by decide +kernel
theorem dX8_lineAt_28 : decode cX8_lineAt 28 = .ok (.iconst (-1), 1) := by decide +kernel
theorem dX8_lineAt_29 : decode cX8_lineAt 29 = .ok (.ireturn, 1) := by decide +kernel
theorem dX8_isLine_0 : decode cX8_isLine 0 = .ok (.iload_n 1, 1) := by decide +kernel
theorem dX8_isLine_1 : decode cX8_isLine 1 = .ok (.ifCond .lt 25, 3) := by decide +kernel
theorem dX8_isLine_4 : decode cX8_isLine 4 = .ok (.iload_n 1, 1) := by decide +kernel
theorem dX8_isLine_5 : decode cX8_isLine 5 = .ok (.aload_n 0, 1) := by decide +kernel
theorem dX8_isLine_6 : decode cX8_isLine 6 = .ok (.getfield 19, 3) := by decide +kernel
theorem dX8_isLine_9 : decode cX8_isLine 9 = .ok (.arraylength, 1) := by decide +kernel
theorem dX8_isLine_10 : decode cX8_isLine 10 = .ok (.if_icmp .ge 16, 3) := by decide +kernel
theorem dX8_isLine_13 : decode cX8_isLine 13 = .ok (.iload_n 1, 1) := by decide +kernel
theorem dX8_isLine_14 : decode cX8_isLine 14 = .ok (.aload_n 0, 1) := by decide +kernel
theorem dX8_isLine_15 : decode cX8_isLine 15 = .ok (.getfield 22, 3) := by decide +kernel
theorem dX8_isLine_18 : decode cX8_isLine 18 = .ok (.arraylength, 1) := by decide +kernel
theorem dX8_isLine_19 : decode cX8_isLine 19 = .ok (.if_icmp .ge 7, 3) := by decide +kernel
theorem dX8_isLine_22 : decode cX8_isLine 22 = .ok (.iconst 1, 1) := by decide +kernel
theorem dX8_isLine_23 : decode cX8_isLine 23 = .ok (.goto 4, 3) := by decide +kernel
theorem dX8_isLine_26 : decode cX8_isLine 26 = .ok (.iconst 0, 1) := by decide +kernel
theorem dX8_isLine_27 : decode cX8_isLine 27 = .ok (.ireturn, 1) := by decide +kernel
theorem dX8_isFree_0 : decode cX8_isFree 0 = .ok (.iload_n 1, 1) := by decide +kernel
theorem dX8_isFree_1 : decode cX8_isFree 1 = .ok (.iconst 1, 1) := by decide +kernel
theorem dX8_isFree_2 : decode cX8_isFree 2 = .ok (.if_icmp .lt 38, 3) := by decide +kernel
theorem dX8_isFree_5 : decode cX8_isFree 5 = .ok (.iload_n 1, 1) := by decide +kernel
theorem dX8_isFree_6 : decode cX8_isFree 6 = .ok (.aload_n 0, 1) := by decide +kernel
theorem dX8_isFree_7 : decode cX8_isFree 7 = .ok (.getfield 31, 3) := by decide +kernel
theorem dX8_isFree_10 : decode cX8_isFree 10 = .ok (.aload_n 0, 1) := by decide +kernel
theorem dX8_isFree_11 : decode cX8_isFree 11 = .ok (.getfield 31, 3) := by decide +kernel
theorem dX8_isFree_14 : decode cX8_isFree 14 = .ok (.imul, 1) := by decide +kernel
theorem dX8_isFree_15 : decode cX8_isFree 15 = .ok (.if_icmp .gt 25, 3) := by decide +kernel
theorem dX8_isFree_18 : decode cX8_isFree 18 = .ok (.iload_n 1, 1) := by decide +kernel
theorem dX8_isFree_19 : decode cX8_isFree 19 = .ok (.aload_n 0, 1) := by decide +kernel
theorem dX8_isFree_20 : decode cX8_isFree 20 = .ok (.getfield 15, 3) := by decide +kernel
theorem dX8_isFree_23 : decode cX8_isFree 23 = .ok (.arraylength, 1) := by decide +kernel
theorem dX8_isFree_24 : decode cX8_isFree 24 = .ok (.if_icmp .ge 16, 3) := by decide +kernel
theorem dX8_isFree_27 : decode cX8_isFree 27 = .ok (.aload_n 0, 1) := by decide +kernel
theorem dX8_isFree_28 : decode cX8_isFree 28 = .ok (.getfield 15, 3) := by decide +kernel
theorem dX8_isFree_31 : decode cX8_isFree 31 = .ok (.iload_n 1, 1) := by decide +kernel
theorem dX8_isFree_32 : decode cX8_isFree 32 = .ok (.baload, 1) := by decide +kernel
theorem dX8_isFree_33 : decode cX8_isFree 33 = .ok (.ifCond .ne 7, 3) := by decide +kernel
theorem dX8_isFree_36 : decode cX8_isFree 36 = .ok (.iconst 1, 1) := by decide +kernel
theorem dX8_isFree_37 : decode cX8_isFree 37 = .ok (.goto 4, 3) := by decide +kernel
theorem dX8_isFree_40 : decode cX8_isFree 40 = .ok (.iconst 0, 1) := by decide +kernel
theorem dX8_isFree_41 : decode cX8_isFree 41 = .ok (.ireturn, 1) := by decide +kernel
theorem dX10_init_0 : decode cX10_init 0 = .ok (.aload_n 0, 1) := by decide +kernel
theorem dX10_init_1 : decode cX10_init 1 = .ok (.invokespecial 5, 3) := by decide +kernel
theorem dX10_init_4 : decode cX10_init 4 = .ok (.aload_n 0, 1) := by decide +kernel
theorem dX10_init_5 : decode cX10_init 5 = .ok (.bipush 38, 2) := by decide +kernel
theorem dX10_init_7 : decode cX10_init 7 = .ok (.bipush 38, 2) := by decide +kernel
theorem dX10_init_9 : decode cX10_init 9 = .ok (.multianewarray 11 2, 4) := by decide +kernel
theorem dX10_init_13 : decode cX10_init 13 = .ok (.putfield 13, 3) := by decide +kernel
theorem dX10_init_16 : decode cX10_init 16 = .ok (.aload_n 0, 1) := by decide +kernel
theorem dX10_init_17 : decode cX10_init 17 = .ok (.bipush 38, 2) := by decide +kernel
theorem dX10_init_19 : decode cX10_init 19 = .ok (.newarray .int, 2) := by decide +kernel
theorem dX10_init_21 : decode cX10_init 21 = .ok (.putfield 16, 3) := by decide +kernel
theorem dX10_init_24 : decode cX10_init 24 = .ok (.aload_n 0, 1) := by decide +kernel
theorem dX10_init_25 : decode cX10_init 25 = .ok (.bipush 38, 2) := by decide +kernel
theorem dX10_init_27 : decode cX10_init 27 = .ok (.newarray .int, 2) := by decide +kernel
theorem dX10_init_29 : decode cX10_init 29 = .ok (.putfield 20, 3) := by decide +kernel
theorem dX10_init_32 : decode cX10_init 32 = .ok (.aload_n 0, 1) := by decide +kernel
theorem dX10_init_33 : decode cX10_init 33 = .ok (.iconst 1, 1) := by decide +kernel
theorem dX10_init_34 : decode cX10_init 34 = .ok (.putfield 23, 3) := by decide +kernel
theorem dX10_init_37 : decode cX10_init 37 = .ok (.return_, 1) := by decide +kernel
theorem dX11_init_0 : decode cX11_init 0 = .ok (.aload_n 0, 1) := by decide +kernel
theorem dX11_init_1 : decode cX11_init 1 = .ok (.invokespecial 1, 3) := by decide +kernel
theorem dX11_init_4 : decode cX11_init 4 = .ok (.aload_n 0, 1) := by decide +kernel
theorem dX11_init_5 : decode cX11_init 5 = .ok (.bipush 8, 2) := by decide +kernel
theorem dX11_init_7 : decode cX11_init 7 = .ok (.anewarray 9, 3) := by decide +kernel
theorem dX11_init_10 : decode cX11_init 10 = .ok (.putfield 11, 3) := by decide +kernel
theorem dX11_init_13 : decode cX11_init 13 = .ok (.iconst 0, 1) := by decide +kernel
theorem dX11_init_14 : decode cX11_init 14 = .ok (.istore_n 1, 1) := by decide +kernel
theorem dX11_init_15 : decode cX11_init 15 = .ok (.iload_n 1, 1) := by decide +kernel
theorem dX11_init_16 : decode cX11_init 16 = .ok (.aload_n 0, 1) := by decide +kernel
theorem dX11_init_17 : decode cX11_init 17 = .ok (.getfield 11, 3) := by decide +kernel
theorem dX11_init_20 : decode cX11_init 20 = .ok (.arraylength, 1) := by decide +kernel
theorem dX11_init_21 : decode cX11_init 21 = .ok (.if_icmp .ge 22, 3) := by decide +kernel
theorem dX11_init_24 : decode cX11_init 24 = .ok (.aload_n 0, 1) := by decide +kernel
theorem dX11_init_25 : decode cX11_init 25 = .ok (.getfield 11, 3) := by decide +kernel
theorem dX11_init_28 : decode cX11_init 28 = .ok (.iload_n 1, 1) := by decide +kernel
theorem dX11_init_29 : decode cX11_init 29 = .ok (.new 9, 3) := by decide +kernel
theorem dX11_init_32 : decode cX11_init 32 = .ok (.dup, 1) := by decide +kernel
theorem dX11_init_33 : decode cX11_init 33 = .ok (.invokespecial 15, 3) := by decide +kernel
theorem dX11_init_36 : decode cX11_init 36 = .ok (.aastore, 1) := by decide +kernel
theorem dX11_init_37 : decode cX11_init 37 = .ok (.iinc 1 1, 3) := by decide +kernel
theorem dX11_init_40 : decode cX11_init 40 = .ok (.goto (-25), 3) := by decide +kernel
theorem dX11_init_43 : decode cX11_init 43 = .ok (.aload_n 0, 1) := by decide +kernel
theorem dX11_init_44 : decode cX11_init 44 = .ok (.new 9, 3) := by decide +kernel
theorem dX11_init_47 : decode cX11_init 47 = .ok (.dup, 1) := by decide +kernel
theorem dX11_init_48 : decode cX11_init 48 = .ok (.invokespecial 15, 3) := by decide +kernel
theorem dX11_init_51 : decode cX11_init 51 = .ok (.putfield 16, 3) := by decide +kernel
theorem dX11_init_54 : decode cX11_init 54 = .ok (.aload_n 0, 1) := by decide +kernel
theorem dX11_init_55 : decode cX11_init 55 = .ok (.new 20, 3) := by decide +kernel
theorem dX11_init_58 : decode cX11_init 58 = .ok (.dup, 1) := by decide +kernel
theorem dX11_init_59 : decode cX11_init 59 = .ok (.invokespecial 22, 3) := by decide +kernel
theorem dX11_init_62 : decode cX11_init 62 = .ok (.putfield 23, 3) := by decide +kernel
theorem dX11_init_65 : decode cX11_init 65 = .ok (.aload_n 0, 1) := by decide +kernel
theorem dX11_init_66 : decode cX11_init 66 = .ok (.new 27, 3) := by decide +kernel
theorem dX11_init_69 : decode cX11_init 69 = .ok (.dup, 1) := by decide +kernel
theorem dX11_init_70 : decode cX11_init 70 = .ok (.invokespecial 29, 3) := by decide +kernel
theorem dX11_init_73 : decode cX11_init 73 = .ok (.putfield 30, 3) := by decide +kernel
theorem dX11_init_76 : decode cX11_init 76 = .ok (.aload_n 0, 1) := by decide +kernel
theorem dX11_init_77 : decode cX11_init 77 = .ok (.new 34, 3) := by decide +kernel
theorem dX11_init_80 : decode cX11_init 80 = .ok (.dup, 1) := by decide +kernel
theorem dX11_init_81 : decode cX11_init 81 = .ok (.invokespecial 36, 3) := by decide +kernel
theorem dX11_init_84 : decode cX11_init 84 = .ok (.putfield 37, 3) := by decide +kernel
theorem dX11_init_87 : decode cX11_init 87 = .ok (.aload_n 0, 1) := by decide +kernel
theorem dX11_init_88 : decode cX11_init 88 = .ok (.iconst 0, 1) := by decide +kernel
theorem dX11_init_89 : decode cX11_init 89 = .ok (.putfield 41, 3) := by decide +kernel
theorem dX11_init_92 : decode cX11_init 92 = .ok (.return_, 1) := by decide +kernel
theorem dX11_put_0 : decode cX11_put 0 = .ok (.aload_n 0, 1) := by decide +kernel
theorem dX11_put_1 : decode cX11_put 1 = .ok (.iload_n 1, 1) := by decide +kernel
theorem dX11_put_2 : decode cX11_put 2 = .ok (.invokevirtual 56, 3) := by decide +kernel
theorem dX11_put_5 : decode cX11_put 5 = .ok (.astore 5, 2) := by decide +kernel
theorem dX11_put_7 : decode cX11_put 7 = .ok (.aload 5, 2) := by decide +kernel
theorem dX11_put_9 : decode cX11_put 9 = .ok (.iload_n 2, 1) := by decide +kernel
theorem dX11_put_10 : decode cX11_put 10 = .ok (.iload_n 3, 1) := by decide +kernel
theorem dX11_put_11 : decode cX11_put 11 = .ok (.invokestatic 60, 3) := by decide +kernel
theorem dX11_put_14 : decode cX11_put 14 = .ok (.iload 4, 2) := by decide +kernel
theorem dX11_put_16 : decode cX11_put 16 = .ok (.iconst 0, 1) := by decide +kernel
theorem dX11_put_17 : decode cX11_put 17 = .ok (.sipush 999, 3) := by decide +kernel
theorem dX11_put_20 : decode cX11_put 20 = .ok (.invokestatic 45, 3) := by decide +kernel
theorem dX11_put_23 : decode cX11_put 23 = .ok (.aload 5, 2) := by decide +kernel
theorem dX11_put_25 : decode cX11_put 25 = .ok (.aload 5, 2) := by decide +kernel
theorem dX11_put_27 : decode cX11_put 27 = .ok (.iload_n 2, 1) := by decide +kernel
theorem dX11_put_28 : decode cX11_put 28 = .ok (.iload_n 3, 1) := by decide +kernel
theorem dX11_put_29 : decode cX11_put 29 = .ok (.invokevirtual 64, 3) := by decide +kernel
theorem dX11_put_32 : decode cX11_put 32 = .ok (.iload 4, 2) := by decide +kernel
theorem dX11_put_34 : decode cX11_put 34 = .ok (.invokevirtual 68, 3) := by decide +kernel
theorem dX11_put_37 : decode cX11_put 37 = .ok (.ireturn, 1) := by decide +kernel
theorem dX11_at_0 : decode cX11_at 0 = .ok (.aload_n 0, 1) := by decide +kernel
theorem dX11_at_1 : decode cX11_at 1 = .ok (.iload_n 1, 1) := by decide +kernel
theorem dX11_at_2 : decode cX11_at 2 = .ok (.invokevirtual 56, 3) := by decide +kernel
theorem dX11_at_5 : decode cX11_at 5 = .ok (.astore 4, 2) := by decide +kernel
theorem dX11_at_7 : decode cX11_at 7 = .ok (.aload 4, 2) := by decide +kernel
theorem dX11_at_9 : decode cX11_at 9 = .ok (.iload_n 2, 1) := by decide +kernel
theorem dX11_at_10 : decode cX11_at 10 = .ok (.iload_n 3, 1) := by decide +kernel
theorem dX11_at_11 : decode cX11_at 11 = .ok (.invokestatic 60, 3) := by decide +kernel
theorem dX11_at_14 : decode cX11_at 14 = .ok (.aload 4, 2) := by decide +kernel
theorem dX11_at_16 : decode cX11_at 16 = .ok (.aload 4, 2) := by decide +kernel
theorem dX11_at_18 : decode cX11_at 18 = .ok (.iload_n 2, 1) := by decide +kernel
theorem dX11_at_19 : decode cX11_at 19 = .ok (.iload_n 3, 1) := by decide +kernel
theorem dX11_at_20 : decode cX11_at 20 = .ok (.invokevirtual 64, 3) := by decide +kernel
theorem dX11_at_23 : decode cX11_at 23 = .ok (.invokevirtual 71, 3) := by decide +kernel
theorem dX11_at_26 : decode cX11_at 26 = .ok (.ireturn, 1) := by decide +kernel
theorem dX11_make_0 : decode cX11_make 0 = .ok (.iload_n 1, 1) := by decide +kernel
theorem dX11_make_1 : decode cX11_make 1 = .ok (.iconst 0, 1) := by decide +kernel
theorem dX11_make_2 : decode cX11_make 2 = .ok (.iconst 3, 1) := by decide +kernel
theorem dX11_make_3 : decode cX11_make 3 = .ok (.invokestatic 45, 3) := by decide +kernel
theorem dX11_make_6 : decode cX11_make 6 = .ok (.iload_n 2, 1) := by decide +kernel
theorem dX11_make_7 : decode cX11_make 7 = .ok (.iconst 1, 1) := by decide +kernel
theorem dX11_make_8 : decode cX11_make 8 = .ok (.bipush 9, 2) := by decide +kernel
theorem dX11_make_10 : decode cX11_make 10 = .ok (.invokestatic 45, 3) := by decide +kernel
theorem dX11_make_13 : decode cX11_make 13 = .ok (.iload_n 1, 1) := by decide +kernel
theorem dX11_make_14 : decode cX11_make 14 = .ok (.iload_n 2, 1) := by decide +kernel
theorem dX11_make_15 : decode cX11_make 15 = .ok (.invokestatic 74, 3) := by decide +kernel
theorem dX11_make_18 : decode cX11_make 18 = .ok (.invokestatic 80, 3) := by decide +kernel
theorem dX11_make_21 : decode cX11_make 21 = .ok (.aload_n 0, 1) := by decide +kernel
theorem dX11_make_22 : decode cX11_make 22 = .ok (.invokevirtual 49, 3) := by decide +kernel
theorem dX11_make_25 : decode cX11_make 25 = .ok (.aload_n 0, 1) := by decide +kernel
theorem dX11_make_26 : decode cX11_make 26 = .ok (.iload_n 2, 1) := by decide +kernel
theorem dX11_make_27 : decode cX11_make 27 = .ok (.invokevirtual 52, 3) := by decide +kernel
theorem dX11_make_30 : decode cX11_make 30 = .ok (.istore_n 3, 1) := by decide +kernel
theorem dX11_make_31 : decode cX11_make 31 = .ok (.iload_n 1, 1) := by decide +kernel
theorem dX11_make_32 : decode cX11_make 32 = .ok (.aload_n 0, 1) := by decide +kernel
theorem dX11_make_33 : decode cX11_make 33 = .ok (.iload_n 3, 1) := by decide +kernel
theorem dX11_make_34 : decode cX11_make 34 = .ok (.invokevirtual 56, 3) := by decide +kernel
theorem dX11_make_37 : decode cX11_make 37 = .ok (.aload_n 0, 1) := by decide +kernel
theorem dX11_make_38 : decode cX11_make 38 = .ok (.getfield 16, 3) := by decide +kernel
theorem dX11_make_41 : decode cX11_make 41 = .ok (.invokestatic 84, 3) := by decide +kernel
theorem dX11_make_44 : decode cX11_make 44 = .ok (.iload_n 3, 1) := by decide +kernel
theorem dX11_make_45 : decode cX11_make 45 = .ok (.ireturn, 1) := by decide +kernel
theorem dX11_change_0 : decode cX11_change 0 = .ok (.aload_n 0, 1) := by decide +kernel
theorem dX11_change_1 : decode cX11_change 1 = .ok (.iload_n 1, 1) := by decide +kernel
theorem dX11_change_2 : decode cX11_change 2 = .ok (.invokevirtual 56, 3) := by decide +kernel
theorem dX11_change_5 : decode cX11_change 5 = .ok (.astore 4, 2) := by decide +kernel
theorem dX11_change_7 : decode cX11_change 7 = .ok (.iload_n 2, 1) := by decide +kernel
theorem dX11_change_8 : decode cX11_change 8 = .ok (.iconst 0, 1) := by decide +kernel
theorem dX11_change_9 : decode cX11_change 9 = .ok (.iconst 5, 1) := by decide +kernel
theorem dX11_change_10 : decode cX11_change 10 = .ok (.invokestatic 45, 3) := by decide +kernel
theorem dX11_change_13 : decode cX11_change 13 = .ok (.iload_n 3, 1) := by decide +kernel
theorem dX11_change_14 : decode cX11_change 14 = .ok (.iconst 0, 1) := by decide +kernel
theorem dX11_change_15 : decode cX11_change 15 = .ok (.iload_n 2, 1) := by decide +kernel
theorem dX11_change_16 : decode cX11_change 16 = .ok (.aload 4, 2) := by decide +kernel
theorem dX11_change_18 : decode cX11_change 18 = .ok (.invokevirtual 94, 3) := by decide +kernel
theorem dX11_change_21 : decode cX11_change 21 = .ok (.invokestatic 101, 3) := by decide +kernel
theorem dX11_change_24 : decode cX11_change 24 = .ok (.invokestatic 45, 3) := by decide +kernel
theorem dX11_change_27 : decode cX11_change 27 = .ok (.iload_n 2, 1) := by decide +kernel
theorem dX11_change_28 : decode cX11_change 28 = .ok (.iconst 2, 1) := by decide +kernel
theorem dX11_change_29 : decode cX11_change 29 = .ok (.if_icmp .eq 15, 3) := by decide +kernel
theorem dX11_change_32 : decode cX11_change 32 = .ok (.aload 4, 2) := by decide +kernel
theorem dX11_change_34 : decode cX11_change 34 = .ok (.aload_n 0, 1) := by decide +kernel
theorem dX11_change_35 : decode cX11_change 35 = .ok (.getfield 16, 3) := by decide +kernel
theorem dX11_change_38 : decode cX11_change 38 = .ok (.iload_n 2, 1) := by decide +kernel
theorem dX11_change_39 : decode cX11_change 39 = .ok (.iload_n 3, 1) := by decide +kernel
theorem dX11_change_40 : decode cX11_change 40 = .ok (.invokestatic 106, 3) := by decide +kernel
theorem dX11_change_43 : decode cX11_change 43 = .ok (.ireturn, 1) := by decide +kernel
theorem dX11_change_44 : decode cX11_change 44 = .ok (.aload 4, 2) := by decide +kernel
theorem dX11_change_46 : decode cX11_change 46 = .ok (.iload_n 3, 1) := by decide +kernel
theorem dX11_change_47 : decode cX11_change 47 = .ok (.invokestatic 110, 3) := by decide +kernel
theorem dX11_change_50 : decode cX11_change 50 = .ok (.invokestatic 80, 3) := by decide +kernel
theorem dX11_change_53 : decode cX11_change 53 = .ok (.aload 4, 2) := by decide +kernel
theorem dX11_change_55 : decode cX11_change 55 = .ok (.iload_n 3, 1) := by decide +kernel
theorem dX11_change_56 : decode cX11_change 56 = .ok (.invokestatic 114, 3) := by decide +kernel
theorem dX11_change_59 : decode cX11_change 59 = .ok (.ireturn, 1) := by decide +kernel
theorem dX11_completions_0 : decode cX11_completions 0 = .ok (.aload_n 0, 1) := by decide +kernel
theorem dX11_completions_1 : decode cX11_completions 1 = .ok (.iload_n 1, 1) := by decide +kernel
theorem dX11_completions_2 : decode cX11_completions 2 = .ok (.invokevirtual 56, 3) := by decide +kernel
theorem dX11_completions_5 : decode cX11_completions 5 = .ok (.astore_n 2, 1) := by decide +kernel
theorem dX11_completions_6 : decode cX11_completions 6 = .ok (.aload_n 2, 1) := by decide +kernel
theorem dX11_completions_7 : decode cX11_completions 7 = .ok (.invokestatic 138, 3) := by decide +kernel
theorem dX11_completions_10 : decode cX11_completions 10 = .ok (.invokestatic 80, 3) := by decide +kernel
theorem dX11_completions_13 : decode cX11_completions 13 = .ok (.aload_n 0, 1) := by decide +kernel
theorem dX11_completions_14 : decode cX11_completions 14 = .ok (.getfield 23, 3) := by decide +kernel
theorem dX11_completions_17 : decode cX11_completions 17 = .ok (.aload_n 2, 1) := by decide +kernel
theorem dX11_completions_18 : decode cX11_completions 18 = .ok (.invokevirtual 142, 3) := by decide +kernel
theorem dX11_completions_21 : decode cX11_completions 21 = .ok (.aload_n 0, 1) := by decide +kernel
theorem dX11_completions_22 : decode cX11_completions 22 = .ok (.getfield 23, 3) := by decide +kernel
theorem dX11_completions_25 : decode cX11_completions 25 = .ok (.invokevirtual 146, 3) := by decide +kernel
theorem dX11_completions_28 : decode cX11_completions 28 = .ok (.ireturn, 1) := by decide +kernel
theorem dX11_completion_0 : decode cX11_completion 0 = .ok (.aload_n 0, 1) := by decide +kernel
theorem dX11_completion_1 : decode cX11_completion 1 = .ok (.iload_n 1, 1) := by decide +kernel
theorem dX11_completion_2 : decode cX11_completion 2 = .ok (.invokevirtual 56, 3) := by decide +kernel
theorem dX11_completion_5 : decode cX11_completion 5 = .ok (.astore 5, 2) := by decide +kernel
theorem dX11_completion_7 : decode cX11_completion 7 = .ok (.aload 5, 2) := by decide +kernel
theorem dX11_completion_9 : decode cX11_completion 9 = .ok (.iload_n 3, 1) := by decide +kernel
theorem dX11_completion_10 : decode cX11_completion 10 = .ok (.iload 4, 2) := by decide +kernel
theorem dX11_completion_12 : decode cX11_completion 12 = .ok (.invokestatic 60, 3) := by decide +kernel
theorem dX11_completion_15 : decode cX11_completion 15 = .ok (.iload_n 2, 1) := by decide +kernel
theorem dX11_completion_16 : decode cX11_completion 16 = .ok (.ifCond .ge 13, 3) := by decide +kernel
theorem dX11_completion_19 : decode cX11_completion 19 = .ok (.new 149, 3) := by decide +kernel
theorem dX11_completion_22 : decode cX11_completion 22 = .ok (.dup, 1) := by decide +kernel
theorem dX11_completion_23 : decode cX11_completion 23 = .ok (.ldc 151, 2) := by decide +kernel
theorem dX11_completion_25 : decode cX11_completion 25 = .ok (.invokespecial 153, 3) := by decide +kernel
theorem dX11_completion_28 : decode cX11_completion 28 = .ok (.athrow, 1) := by decide +kernel
theorem dX11_completion_29 : decode cX11_completion 29 = .ok (.aload 5, 2) := by decide +kernel
theorem dX11_completion_31 : decode cX11_completion 31 = .ok (.invokestatic 138, 3) := by decide +kernel
theorem dX11_completion_34 : decode cX11_completion 34 = .ok (.invokestatic 80, 3) := by decide +kernel
theorem dX11_completion_37 : decode cX11_completion 37 = .ok (.aload_n 0, 1) := by decide +kernel
theorem dX11_completion_38 : decode cX11_completion 38 = .ok (.getfield 23, 3) := by decide +kernel
theorem dX11_completion_41 : decode cX11_completion 41 = .ok (.aload 5, 2) := by decide +kernel
theorem dX11_completion_43 : decode cX11_completion 43 = .ok (.invokevirtual 142, 3) := by decide +kernel
theorem dX11_completion_46 : decode cX11_completion 46 = .ok (.aload_n 0, 1) := by decide +kernel
theorem dX11_completion_47 : decode cX11_completion 47 = .ok (.getfield 23, 3) := by decide +kernel
theorem dX11_completion_50 : decode cX11_completion 50 = .ok (.iload_n 2, 1) := by decide +kernel
theorem dX11_completion_51 : decode cX11_completion 51 = .ok (.aload 5, 2) := by decide +kernel
theorem dX11_completion_53 : decode cX11_completion 53 = .ok (.iload_n 3, 1) := by decide +kernel
theorem dX11_completion_54 : decode cX11_completion 54 = .ok (.iload 4, 2) := by decide +kernel
theorem dX11_completion_56 : decode cX11_completion 56 = .ok (.invokevirtual 64, 3) := by decide +kernel
theorem dX11_completion_59 : decode cX11_completion 59 = .ok (.invokevirtual 156, 3) := by decide +kernel
theorem dX11_completion_62 : decode cX11_completion 62 = .ok (.ireturn, 1) := by decide +kernel
theorem dX11_requireRange_0 : decode cX11_requireRange 0 = .ok (.iload_n 0, 1) := by decide +kernel
theorem dX11_requireRange_1 : decode cX11_requireRange 1 = .ok (.iload_n 1, 1) := by decide +kernel
theorem dX11_requireRange_2 : decode cX11_requireRange 2 = .ok (.if_icmp .lt 8, 3) := by decide +kernel
theorem dX11_requireRange_5 : decode cX11_requireRange 5 = .ok (.iload_n 0, 1) := by decide +kernel
theorem dX11_requireRange_6 : decode cX11_requireRange 6 = .ok (.iload_n 2, 1) := by decide +kernel
theorem dX11_requireRange_7 : decode cX11_requireRange 7 = .ok (.if_icmp .le 13, 3) := by decide +kernel
theorem dX11_requireRange_10 : decode cX11_requireRange 10 = .ok (.new 149, 3) := by decide +kernel
theorem dX11_requireRange_13 : decode cX11_requireRange 13 = .ok (.dup, 1) := by decide +kernel
theorem dX11_requireRange_14 : decode cX11_requireRange 14 = .ok (.ldc 209, 2) := by decide +kernel
theorem dX11_requireRange_16 : decode cX11_requireRange 16 = .ok (.invokespecial 153, 3) := by decide +kernel
theorem dX11_requireRange_19 : decode cX11_requireRange 19 = .ok (.athrow, 1) := by decide +kernel
theorem dX11_requireRange_20 : decode cX11_requireRange 20 = .ok (.return_, 1) := by decide +kernel
theorem dX11_requirePoint_0 : decode cX11_requirePoint 0 = .ok (.iload_n 1, 1) := by decide +kernel
theorem dX11_requirePoint_1 : decode cX11_requirePoint 1 = .ok (.ifCond .lt 23, 3) := by decide +kernel
theorem dX11_requirePoint_4 : decode cX11_requirePoint 4 = .ok (.iload_n 1, 1) := by decide +kernel
theorem dX11_requirePoint_5 : decode cX11_requirePoint 5 = .ok (.aload_n 0, 1) := by decide +kernel
theorem dX11_requirePoint_6 : decode cX11_requirePoint 6 = .ok (.invokevirtual 94, 3) := by decide +kernel
theorem dX11_requirePoint_9 : decode cX11_requirePoint 9 = .ok (.if_icmp .ge 15, 3) := by decide +kernel
theorem dX11_requirePoint_12 : decode cX11_requirePoint 12 = .ok (.iload_n 2, 1) := by decide +kernel
theorem dX11_requirePoint_13 : decode cX11_requirePoint 13 = .ok (.ifCond .lt 11, 3) := by decide +kernel
theorem dX11_requirePoint_16 : decode cX11_requirePoint 16 = .ok (.iload_n 2, 1) := by decide +kernel
theorem dX11_requirePoint_17 : decode cX11_requirePoint 17 = .ok (.aload_n 0, 1) := by decide +kernel
theorem dX11_requirePoint_18 : decode cX11_requirePoint 18 = .ok (.invokevirtual 94, 3) := by decide +kernel
theorem dX11_requirePoint_21 : decode cX11_requirePoint 21 = .ok (.if_icmp .lt 13, 3) := by decide +kernel
theorem dX11_requirePoint_24 : decode cX11_requirePoint 24 = .ok (.new 211, 3) := by decide +kernel
theorem dX11_requirePoint_27 : decode cX11_requirePoint 27 = .ok (.dup, 1) := by decide +kernel
theorem dX11_requirePoint_28 : decode cX11_requirePoint 28 = .ok (.ldc 213, 2) := by decide +kernel
theorem dX11_requirePoint_30 : decode cX11_requirePoint 30 = .ok (.invokespecial 215, 3) := by decide +kernel
theorem dX11_requirePoint_33 : decode cX11_requirePoint 33 = .ok (.athrow, 1) := by decide +kernel
theorem dX11_requirePoint_34 : decode cX11_requirePoint 34 = .ok (.return_, 1) := by decide +kernel
theorem dX11_requireState_0 : decode cX11_requireState 0 = .ok (.iload_n 0, 1) := by decide +kernel
theorem dX11_requireState_1 : decode cX11_requireState 1 = .ok (.ifCond .ne 13, 3) := by decide +kernel
theorem dX11_requireState_4 : decode cX11_requireState 4 = .ok (.new 216, 3) := by decide +kernel
theorem dX11_requireState_7 : decode cX11_requireState 7 = .ok (.dup, 1) := by decide +kernel
theorem dX11_requireState_8 : decode cX11_requireState 8 = .ok (.ldc 218, 2) := by decide +kernel
theorem dX11_requireState_10 : decode cX11_requireState 10 = .ok (.invokespecial 220, 3) := by decide +kernel
theorem dX11_requireState_13 : decode cX11_requireState 13 = .ok (.athrow, 1) := by decide +kernel
theorem dX11_requireState_14 : decode cX11_requireState 14 = .ok (.return_, 1) := by decide +kernel
theorem dX11_requireRoom_0 : decode cX11_requireRoom 0 = .ok (.aload_n 0, 1) := by decide +kernel
theorem dX11_requireRoom_1 : decode cX11_requireRoom 1 = .ok (.getfield 41, 3) := by decide +kernel
theorem dX11_requireRoom_4 : decode cX11_requireRoom 4 = .ok (.ifCond .lt 27, 3) := by decide +kernel
theorem dX11_requireRoom_7 : decode cX11_requireRoom 7 = .ok (.aload_n 0, 1) := by decide +kernel
theorem dX11_requireRoom_8 : decode cX11_requireRoom 8 = .ok (.getfield 41, 3) := by decide +kernel
theorem dX11_requireRoom_11 : decode cX11_requireRoom 11 = .ok (.aload_n 0, 1) := by decide +kernel
theorem dX11_requireRoom_12 : decode cX11_requireRoom 12 = .ok (.getfield 11, 3) := by decide +kernel
theorem dX11_requireRoom_15 : decode cX11_requireRoom 15 = .ok (.arraylength, 1) := by decide +kernel
theorem dX11_requireRoom_16 : decode cX11_requireRoom 16 = .ok (.if_icmp .ge 15, 3) := by decide +kernel
theorem dX11_requireRoom_19 : decode cX11_requireRoom 19 = .ok (.aload_n 0, 1) := by decide +kernel
theorem dX11_requireRoom_20 : decode cX11_requireRoom 20 = .ok (.getfield 11, 3) := by decide +kernel
theorem dX11_requireRoom_23 : decode cX11_requireRoom 23 = .ok (.aload_n 0, 1) := by decide +kernel
theorem dX11_requireRoom_24 : decode cX11_requireRoom 24 = .ok (.getfield 41, 3) := by decide +kernel
theorem dX11_requireRoom_27 : decode cX11_requireRoom 27 = .ok (.aaload, 1) := by decide +kernel
theorem dX11_requireRoom_28 : decode cX11_requireRoom 28 = .ok (.ifnonnull 13, 3) := by decide +kernel
theorem dX11_requireRoom_31 : decode cX11_requireRoom 31 = .ok (.new 216, 3) := by decide +kernel
theorem dX11_requireRoom_34 : decode cX11_requireRoom 34 = .ok (.dup, 1) := by decide +kernel
theorem dX11_requireRoom_35 : decode cX11_requireRoom 35 = .ok (.ldc 221, 2) := by decide +kernel
theorem dX11_requireRoom_37 : decode cX11_requireRoom 37 = .ok (.invokespecial 220, 3) := by decide +kernel
theorem dX11_requireRoom_40 : decode cX11_requireRoom 40 = .ok (.athrow, 1) := by decide +kernel
theorem dX11_requireRoom_41 : decode cX11_requireRoom 41 = .ok (.return_, 1) := by decide +kernel
theorem dX11_canBeCompleted_0 : decode cX11_canBeCompleted 0 = .ok (.aload_n 0, 1) := by decide +kernel
theorem dX11_canBeCompleted_1 : decode cX11_canBeCompleted 1 = .ok (.invokevirtual 94, 3) := by decide +kernel
theorem dX11_canBeCompleted_4 : decode cX11_canBeCompleted 4 = .ok (.iconst 4, 1) := by decide +kernel
theorem dX11_canBeCompleted_5 : decode cX11_canBeCompleted 5 = .ok (.if_icmp .gt 17, 3) := by decide +kernel
theorem dX11_canBeCompleted_8 : decode cX11_canBeCompleted 8 = .ok (.aload_n 0, 1) := by decide +kernel
theorem dX11_canBeCompleted_9 : decode cX11_canBeCompleted 9 = .ok (.iconst 0, 1) := by decide +kernel
theorem dX11_canBeCompleted_10 : decode cX11_canBeCompleted 10 = .ok (.invokevirtual 223, 3) := by decide +kernel
theorem dX11_canBeCompleted_13 : decode cX11_canBeCompleted 13 = .ok (.bipush 9, 2) := by decide +kernel
theorem dX11_canBeCompleted_15 : decode cX11_canBeCompleted 15 = .ok (.if_icmp .gt 7, 3) := by decide +kernel
theorem dX11_canBeCompleted_18 : decode cX11_canBeCompleted 18 = .ok (.iconst 1, 1) := by decide +kernel
theorem dX11_canBeCompleted_19 : decode cX11_canBeCompleted 19 = .ok (.goto 4, 3) := by decide +kernel
theorem dX11_canBeCompleted_22 : decode cX11_canBeCompleted 22 = .ok (.iconst 0, 1) := by decide +kernel
theorem dX11_canBeCompleted_23 : decode cX11_canBeCompleted 23 = .ok (.ireturn, 1) := by decide +kernel
theorem dX11_figureOf_0 : decode cX11_figureOf 0 = .ok (.iload_n 1, 1) := by decide +kernel
theorem dX11_figureOf_1 : decode cX11_figureOf 1 = .ok (.ifCond .lt 29, 3) := by decide +kernel
theorem dX11_figureOf_4 : decode cX11_figureOf 4 = .ok (.iload_n 1, 1) := by decide +kernel
theorem dX11_figureOf_5 : decode cX11_figureOf 5 = .ok (.aload_n 0, 1) := by decide +kernel
theorem dX11_figureOf_6 : decode cX11_figureOf 6 = .ok (.getfield 41, 3) := by decide +kernel
theorem dX11_figureOf_9 : decode cX11_figureOf 9 = .ok (.if_icmp .ge 21, 3) := by decide +kernel
theorem dX11_figureOf_12 : decode cX11_figureOf 12 = .ok (.iload_n 1, 1) := by decide +kernel
theorem dX11_figureOf_13 : decode cX11_figureOf 13 = .ok (.aload_n 0, 1) := by decide +kernel
theorem dX11_figureOf_14 : decode cX11_figureOf 14 = .ok (.getfield 11, 3) := by decide +kernel
theorem dX11_figureOf_17 : decode cX11_figureOf 17 = .ok (.arraylength, 1) := by decide +kernel
theorem dX11_figureOf_18 : decode cX11_figureOf 18 = .ok (.if_icmp .ge 12, 3) := by decide +kernel
theorem dX11_figureOf_21 : decode cX11_figureOf 21 = .ok (.aload_n 0, 1) := by decide +kernel
theorem dX11_figureOf_22 : decode cX11_figureOf 22 = .ok (.getfield 11, 3) := by decide +kernel
theorem dX11_figureOf_25 : decode cX11_figureOf 25 = .ok (.iload_n 1, 1) := by decide +kernel
theorem dX11_figureOf_26 : decode cX11_figureOf 26 = .ok (.aaload, 1) := by decide +kernel
theorem dX11_figureOf_27 : decode cX11_figureOf 27 = .ok (.ifnonnull 13, 3) := by decide +kernel
theorem dX11_figureOf_30 : decode cX11_figureOf 30 = .ok (.new 211, 3) := by decide +kernel
theorem dX11_figureOf_33 : decode cX11_figureOf 33 = .ok (.dup, 1) := by decide +kernel
theorem dX11_figureOf_34 : decode cX11_figureOf 34 = .ok (.ldc 226, 2) := by decide +kernel
theorem dX11_figureOf_36 : decode cX11_figureOf 36 = .ok (.invokespecial 215, 3) := by decide +kernel
theorem dX11_figureOf_39 : decode cX11_figureOf 39 = .ok (.athrow, 1) := by decide +kernel
theorem dX11_figureOf_40 : decode cX11_figureOf 40 = .ok (.aload_n 0, 1) := by decide +kernel
theorem dX11_figureOf_41 : decode cX11_figureOf 41 = .ok (.getfield 11, 3) := by decide +kernel
theorem dX11_figureOf_44 : decode cX11_figureOf 44 = .ok (.iload_n 1, 1) := by decide +kernel
theorem dX11_figureOf_45 : decode cX11_figureOf 45 = .ok (.aaload, 1) := by decide +kernel
theorem dX11_figureOf_46 : decode cX11_figureOf 46 = .ok (.areturn, 1) := by decide +kernel
theorem dX11_addFigure_0 : decode cX11_addFigure 0 = .ok (.aload_n 0, 1) := by decide +kernel
theorem dX11_addFigure_1 : decode cX11_addFigure 1 = .ok (.getfield 41, 3) := by decide +kernel
theorem dX11_addFigure_4 : decode cX11_addFigure 4 = .ok (.istore_n 2, 1) := by decide +kernel
theorem dX11_addFigure_5 : decode cX11_addFigure 5 = .ok (.iload_n 2, 1) := by decide +kernel
theorem dX11_addFigure_6 : decode cX11_addFigure 6 = .ok (.ifCond .lt 41, 3) := by decide +kernel
theorem dX11_addFigure_9 : decode cX11_addFigure 9 = .ok (.iload_n 2, 1) := by decide +kernel
theorem dX11_addFigure_10 : decode cX11_addFigure 10 = .ok (.aload_n 0, 1) := by decide +kernel
theorem dX11_addFigure_11 : decode cX11_addFigure 11 = .ok (.getfield 11, 3) := by decide +kernel
theorem dX11_addFigure_14 : decode cX11_addFigure 14 = .ok (.arraylength, 1) := by decide +kernel
theorem dX11_addFigure_15 : decode cX11_addFigure 15 = .ok (.if_icmp .ge 32, 3) := by decide +kernel
theorem dX11_addFigure_18 : decode cX11_addFigure 18 = .ok (.aload_n 0, 1) := by decide +kernel
theorem dX11_addFigure_19 : decode cX11_addFigure 19 = .ok (.getfield 11, 3) := by decide +kernel
theorem dX11_addFigure_22 : decode cX11_addFigure 22 = .ok (.iload_n 2, 1) := by decide +kernel
theorem dX11_addFigure_23 : decode cX11_addFigure 23 = .ok (.aaload, 1) := by decide +kernel
theorem dX11_addFigure_24 : decode cX11_addFigure 24 = .ok (.ifnull 23, 3) := by decide +kernel
theorem dX11_addFigure_27 : decode cX11_addFigure 27 = .ok (.aload_n 0, 1) := by decide +kernel
theorem dX11_addFigure_28 : decode cX11_addFigure 28 = .ok (.getfield 11, 3) := by decide +kernel
theorem dX11_addFigure_31 : decode cX11_addFigure 31 = .ok (.iload_n 2, 1) := by decide +kernel
theorem dX11_addFigure_32 : decode cX11_addFigure 32 = .ok (.aaload, 1) := by decide +kernel
theorem dX11_addFigure_33 : decode cX11_addFigure 33 = .ok (.iload_n 1, 1) := by decide +kernel
theorem dX11_addFigure_34 : decode cX11_addFigure 34 = .ok (.invokevirtual 228, 3) := by decide +kernel
theorem dX11_addFigure_37 : decode cX11_addFigure 37 = .ok (.aload_n 0, 1) := by decide +kernel
theorem dX11_addFigure_38 : decode cX11_addFigure 38 = .ok (.dup, 1) := by decide +kernel
theorem dX11_addFigure_39 : decode cX11_addFigure 39 = .ok (.getfield 41, 3) := by decide +kernel
theorem dX11_addFigure_42 : decode cX11_addFigure 42 = .ok (.iconst 1, 1) := by decide +kernel
theorem dX11_addFigure_43 : decode cX11_addFigure 43 = .ok (.iadd, 1) := by decide +kernel
theorem dX11_addFigure_44 : decode cX11_addFigure 44 = .ok (.putfield 41, 3) := by decide +kernel
theorem dX11_addFigure_47 : decode cX11_addFigure 47 = .ok (.iload_n 2, 1) := by decide +kernel
theorem dX11_addFigure_48 : decode cX11_addFigure 48 = .ok (.ireturn, 1) := by decide +kernel
theorem dJ9_floorMod_7cf53_0 : decode cJ9_floorMod_7cf53 0 = .ok (.iload_n 0, 1) := by decide +kernel
theorem dJ9_floorMod_7cf53_1 : decode cJ9_floorMod_7cf53 1 = .ok (.iload_n 1, 1) := by decide +kernel
theorem dJ9_floorMod_7cf53_2 : decode cJ9_floorMod_7cf53 2 = .ok (.irem, 1) := by decide +kernel
theorem dJ9_floorMod_7cf53_3 : decode cJ9_floorMod_7cf53 3 = .ok (.istore_n 2, 1) := by decide +kernel
theorem dJ9_floorMod_7cf53_4 : decode cJ9_floorMod_7cf53 4 = .ok (.iload_n 0, 1) := by decide +kernel
theorem dJ9_floorMod_7cf53_5 : decode cJ9_floorMod_7cf53 5 = .ok (.iload_n 1, 1) := by decide +kernel
theorem dJ9_floorMod_7cf53_6 : decode cJ9_floorMod_7cf53 6 = .ok (.ixor, 1) := by decide +kernel
theorem dJ9_floorMod_7cf53_7 : decode cJ9_floorMod_7cf53 7 = .ok (.ifCond .ge 11, 3) := by decide +kernel
theorem dJ9_floorMod_7cf53_10 : decode cJ9_floorMod_7cf53 10 = .ok (.iload_n 2, 1) := by decide +kernel
theorem dJ9_floorMod_7cf53_11 : decode cJ9_floorMod_7cf53 11 = .ok (.ifCond .eq 7, 3) := by decide +kernel
theorem dJ9_floorMod_7cf53_14 : decode cJ9_floorMod_7cf53 14 = .ok (.iload_n 2, 1) := by decide +kernel
theorem dJ9_floorMod_7cf53_15 : decode cJ9_floorMod_7cf53 15 = .ok (.iload_n 1, 1) := by decide +kernel
theorem dJ9_floorMod_7cf53_16 : decode cJ9_floorMod_7cf53 16 = .ok (.iadd, 1) := by decide +kernel
theorem dJ9_floorMod_7cf53_17 : decode cJ9_floorMod_7cf53 17 = .ok (.ireturn, 1) := by decide +kernel
theorem dJ9_floorMod_7cf53_18 : decode cJ9_floorMod_7cf53 18 = .ok (.iload_n 2, 1) := by decide +kernel
theorem dJ9_floorMod_7cf53_19 : decode cJ9_floorMod_7cf53 19 = .ok (.ireturn, 1) := by decide +kernel
theorem dJ9_max_7cf53_0 : decode cJ9_max_7cf53 0 = .ok (.iload_n 0, 1) := by decide +kernel
theorem dJ9_max_7cf53_1 : decode cJ9_max_7cf53 1 = .ok (.iload_n 1, 1) := by decide +kernel
theorem dJ9_max_7cf53_2 : decode cJ9_max_7cf53 2 = .ok (.if_icmp .lt 7, 3) := by decide +kernel
theorem dJ9_max_7cf53_5 : decode cJ9_max_7cf53 5 = .ok (.iload_n 0, 1) := by decide +kernel
theorem dJ9_max_7cf53_6 : decode cJ9_max_7cf53 6 = .ok (.goto 4, 3) := by decide +kernel
theorem dJ9_max_7cf53_9 : decode cJ9_max_7cf53 9 = .ok (.iload_n 1, 1) := by decide +kernel
theorem dJ9_max_7cf53_10 : decode cJ9_max_7cf53 10 = .ok (.ireturn, 1) := by decide +kernel
theorem dJ9_min_7cf53_0 : decode cJ9_min_7cf53 0 = .ok (.iload_n 0, 1) := by decide +kernel
theorem dJ9_min_7cf53_1 : decode cJ9_min_7cf53 1 = .ok (.iload_n 1, 1) := by decide +kernel
theorem dJ9_min_7cf53_2 : decode cJ9_min_7cf53 2 = .ok (.if_icmp .gt 7, 3) := by decide +kernel
theorem dJ9_min_7cf53_5 : decode cJ9_min_7cf53 5 = .ok (.iload_n 0, 1) := by decide +kernel
theorem dJ9_min_7cf53_6 : decode cJ9_min_7cf53 6 = .ok (.goto 4, 3) := by decide +kernel
theorem dJ9_min_7cf53_9 : decode cJ9_min_7cf53 9 = .ok (.iload_n 1, 1) := by decide +kernel
theorem dJ9_min_7cf53_10 : decode cJ9_min_7cf53 10 = .ok (.ireturn, 1) := by decide +kernel
theorem dL_told_0 : decode cL_told 0 = .ok (.iload_n 1, 1) := by decide +kernel
theorem dL_told_1 : decode cL_told 1 = .ok (.aload_n 0, 1) := by decide +kernel
theorem dL_told_2 : decode cL_told 2 = .ok (.arraylength, 1) := by decide +kernel
theorem dL_told_3 : decode cL_told 3 = .ok (.if_icmp .ge 9, 3) := by decide +kernel
theorem dL_told_6 : decode cL_told 6 = .ok (.aload_n 0, 1) := by decide +kernel
theorem dL_told_7 : decode cL_told 7 = .ok (.iload_n 1, 1) := by decide +kernel
theorem dL_told_8 : decode cL_told 8 = .ok (.iaload, 1) := by decide +kernel
theorem dL_told_9 : decode cL_told 9 = .ok (.goto 14, 3) := by decide +kernel
theorem dL_told_12 : decode cL_told 12 = .ok (.ldc 7, 2) := by decide +kernel
theorem dL_told_14 : decode cL_told 14 = .ok (.iload_n 1, 1) := by decide +kernel
theorem dL_told_15 : decode cL_told 15 = .ok (.iconst 3, 1) := by decide +kernel
theorem dL_told_16 : decode cL_told 16 = .ok (.iadd, 1) := by decide +kernel
theorem dL_told_17 : decode cL_told 17 = .ok (.imul, 1) := by decide +kernel
theorem dL_told_18 : decode cL_told 18 = .ok (.iload_n 1, 1) := by decide +kernel
theorem dL_told_19 : decode cL_told 19 = .ok (.bipush 8, 2) := by decide +kernel
theorem dL_told_21 : decode cL_told 21 = .ok (.iadd, 1) := by decide +kernel
theorem dL_told_22 : decode cL_told 22 = .ok (.imul, 1) := by decide +kernel
theorem dL_told_23 : decode cL_told 23 = .ok (.ldc 8, 2) := by decide +kernel
theorem dL_told_25 : decode cL_told 25 = .ok (.iand, 1) := by decide +kernel
theorem dL_told_26 : decode cL_told 26 = .ok (.ireturn, 1) := by decide +kernel
theorem dL_isSum_0 : decode cL_isSum 0 = .ok (.iconst 0, 1) := by decide +kernel
theorem dL_isSum_1 : decode cL_isSum 1 = .ok (.istore 4, 2) := by decide +kernel
theorem dL_isSum_3 : decode cL_isSum 3 = .ok (.iconst 0, 1) := by decide +kernel
theorem dL_isSum_4 : decode cL_isSum 4 = .ok (.istore 5, 2) := by decide +kernel
theorem dL_isSum_6 : decode cL_isSum 6 = .ok (.iload 5, 2) := by decide +kernel
theorem dL_isSum_8 : decode cL_isSum 8 = .ok (.iload_n 1, 1) := by decide +kernel
theorem dL_isSum_9 : decode cL_isSum 9 = .ok (.if_icmp .ge 22, 3) := by decide +kernel
theorem dL_isSum_12 : decode cL_isSum 12 = .ok (.iload 4, 2) := by decide +kernel
theorem dL_isSum_14 : decode cL_isSum 14 = .ok (.aload_n 0, 1) := by decide +kernel
theorem dL_isSum_15 : decode cL_isSum 15 = .ok (.iload_n 2, 1) := by decide +kernel
theorem dL_isSum_16 : decode cL_isSum 16 = .ok (.iload 5, 2) := by decide +kernel
theorem dL_isSum_18 : decode cL_isSum 18 = .ok (.iload_n 3, 1) := by decide +kernel
theorem dL_isSum_19 : decode cL_isSum 19 = .ok (.imul, 1) := by decide +kernel
theorem dL_isSum_20 : decode cL_isSum 20 = .ok (.iadd, 1) := by decide +kernel
theorem dL_isSum_21 : decode cL_isSum 21 = .ok (.iaload, 1) := by decide +kernel
theorem dL_isSum_22 : decode cL_isSum 22 = .ok (.iadd, 1) := by decide +kernel
theorem dL_isSum_23 : decode cL_isSum 23 = .ok (.istore 4, 2) := by decide +kernel
theorem dL_isSum_25 : decode cL_isSum 25 = .ok (.iinc 5 1, 3) := by decide +kernel
theorem dL_isSum_28 : decode cL_isSum 28 = .ok (.goto (-22), 3) := by decide +kernel
theorem dL_isSum_31 : decode cL_isSum 31 = .ok (.iload 4, 2) := by decide +kernel
theorem dL_isSum_33 : decode cL_isSum 33 = .ok (.iload_n 1, 1) := by decide +kernel
theorem dL_isSum_34 : decode cL_isSum 34 = .ok (.iload_n 1, 1) := by decide +kernel
theorem dL_isSum_35 : decode cL_isSum 35 = .ok (.iload_n 1, 1) := by decide +kernel
theorem dL_isSum_36 : decode cL_isSum 36 = .ok (.imul, 1) := by decide +kernel
theorem dL_isSum_37 : decode cL_isSum 37 = .ok (.iconst 1, 1) := by decide +kernel
theorem dL_isSum_38 : decode cL_isSum 38 = .ok (.iadd, 1) := by decide +kernel
theorem dL_isSum_39 : decode cL_isSum 39 = .ok (.imul, 1) := by decide +kernel
theorem dL_isSum_40 : decode cL_isSum 40 = .ok (.iconst 2, 1) := by decide +kernel
theorem dL_isSum_41 : decode cL_isSum 41 = .ok (.idiv, 1) := by decide +kernel
theorem dL_isSum_42 : decode cL_isSum 42 = .ok (.if_icmp .ne 7, 3) := by decide +kernel
theorem dL_isSum_45 : decode cL_isSum 45 = .ok (.iconst 1, 1) := by decide +kernel
theorem dL_isSum_46 : decode cL_isSum 46 = .ok (.goto 4, 3) := by decide +kernel
theorem dL_isSum_49 : decode cL_isSum 49 = .ok (.iconst 0, 1) := by decide +kernel
theorem dL_isSum_50 : decode cL_isSum 50 = .ok (.ireturn, 1) := by decide +kernel
theorem dL_isRight_0 : decode cL_isRight 0 = .ok (.iconst 0, 1) := by decide +kernel
theorem dL_isRight_1 : decode cL_isRight 1 = .ok (.istore_n 2, 1) := by decide +kernel
theorem dL_isRight_2 : decode cL_isRight 2 = .ok (.aload_n 0, 1) := by decide +kernel
theorem dL_isRight_3 : decode cL_isRight 3 = .ok (.iload_n 1, 1) := by decide +kernel
theorem dL_isRight_4 : decode cL_isRight 4 = .ok (.iconst 0, 1) := by decide +kernel
theorem dL_isRight_5 : decode cL_isRight 5 = .ok (.iload_n 1, 1) := by decide +kernel
theorem dL_isRight_6 : decode cL_isRight 6 = .ok (.iconst 1, 1) := by decide +kernel
theorem dL_isRight_7 : decode cL_isRight 7 = .ok (.iadd, 1) := by decide +kernel
theorem dL_isRight_8 : decode cL_isRight 8 = .ok (.invokestatic 9, 3) := by decide +kernel
theorem dL_isRight_11 : decode cL_isRight 11 = .ok (.ifCond .eq 21, 3) := by decide +kernel
theorem dL_isRight_14 : decode cL_isRight 14 = .ok (.aload_n 0, 1) := by decide +kernel
theorem dL_isRight_15 : decode cL_isRight 15 = .ok (.iload_n 1, 1) := by decide +kernel
theorem dL_isRight_16 : decode cL_isRight 16 = .ok (.iload_n 1, 1) := by decide +kernel
theorem dL_isRight_17 : decode cL_isRight 17 = .ok (.iconst 1, 1) := by decide +kernel
theorem dL_isRight_18 : decode cL_isRight 18 = .ok (.isub, 1) := by decide +kernel
theorem dL_isRight_19 : decode cL_isRight 19 = .ok (.iload_n 1, 1) := by decide +kernel
theorem dL_isRight_20 : decode cL_isRight 20 = .ok (.iconst 1, 1) := by decide +kernel
theorem dL_isRight_21 : decode cL_isRight 21 = .ok (.isub, 1) := by decide +kernel
theorem dL_isRight_22 : decode cL_isRight 22 = .ok (.invokestatic 9, 3) := by decide +kernel
theorem dL_isRight_25 : decode cL_isRight 25 = .ok (.ifCond .eq 7, 3) := by decide +kernel
theorem dL_isRight_28 : decode cL_isRight 28 = .ok (.iconst 1, 1) := by decide +kernel
theorem dL_isRight_29 : decode cL_isRight 29 = .ok (.goto 4, 3) := by decide +kernel
theorem dL_isRight_32 : decode cL_isRight 32 = .ok (.iconst 0, 1) := by decide +kernel
theorem dL_isRight_33 : decode cL_isRight 33 = .ok (.istore_n 3, 1) := by decide +kernel
theorem dL_isRight_34 : decode cL_isRight 34 = .ok (.iconst 0, 1) := by decide +kernel
theorem dL_isRight_35 : decode cL_isRight 35 = .ok (.istore 4, 2) := by decide +kernel
theorem dL_isRight_37 : decode cL_isRight 37 = .ok (.iload 4, 2) := by decide +kernel
theorem dL_isRight_39 : decode cL_isRight 39 = .ok (.iload_n 1, 1) := by decide +kernel
theorem dL_isRight_40 : decode cL_isRight 40 = .ok (.iload_n 1, 1) := by decide +kernel
theorem dL_isRight_41 : decode cL_isRight 41 = .ok (.imul, 1) := by decide +kernel
theorem dL_isRight_42 : decode cL_isRight 42 = .ok (.if_icmp .ge 65, 3) := by decide +kernel
theorem dL_isRight_45 : decode cL_isRight 45 = .ok (.iload_n 3, 1) := by decide +kernel
theorem dL_isRight_46 : decode cL_isRight 46 = .ok (.ifCond .eq 36, 3) := by decide +kernel
theorem dL_isRight_49 : decode cL_isRight 49 = .ok (.aload_n 0, 1) := by decide +kernel
theorem dL_isRight_50 : decode cL_isRight 50 = .ok (.iload 4, 2) := by decide +kernel
theorem dL_isRight_52 : decode cL_isRight 52 = .ok (.iaload, 1) := by decide +kernel
theorem dL_isRight_53 : decode cL_isRight 53 = .ok (.iconst 1, 1) := by decide +kernel
theorem dL_isRight_54 : decode cL_isRight 54 = .ok (.if_icmp .lt 28, 3) := by decide +kernel
theorem dL_isRight_57 : decode cL_isRight 57 = .ok (.aload_n 0, 1) := by decide +kernel
theorem dL_isRight_58 : decode cL_isRight 58 = .ok (.iload 4, 2) := by decide +kernel
theorem dL_isRight_60 : decode cL_isRight 60 = .ok (.iaload, 1) := by decide +kernel
theorem dL_isRight_61 : decode cL_isRight 61 = .ok (.iload_n 1, 1) := by decide +kernel
theorem dL_isRight_62 : decode cL_isRight 62 = .ok (.iload_n 1, 1) := by decide +kernel
theorem dL_isRight_63 : decode cL_isRight 63 = .ok (.imul, 1) := by decide +kernel
theorem dL_isRight_64 : decode cL_isRight 64 = .ok (.if_icmp .gt 18, 3) := by decide +kernel
theorem dL_isRight_67 : decode cL_isRight 67 = .ok (.iload_n 2, 1) := by decide +kernel
theorem dL_isRight_68 : decode cL_isRight 68 = .ok (.aload_n 0, 1) := by decide +kernel
theorem dL_isRight_69 : decode cL_isRight 69 = .ok (.iload 4, 2) := by decide +kernel
theorem dL_isRight_71 : decode cL_isRight 71 = .ok (.iaload, 1) := by decide +kernel
theorem dL_isRight_72 : decode cL_isRight 72 = .ok (.ishr, 1) := by decide +kernel
theorem dL_isRight_73 : decode cL_isRight 73 = .ok (.iconst 1, 1) := by decide +kernel
theorem dL_isRight_74 : decode cL_isRight 74 = .ok (.iand, 1) := by decide +kernel
theorem dL_isRight_75 : decode cL_isRight 75 = .ok (.ifCond .ne 7, 3) := by decide +kernel
theorem dL_isRight_78 : decode cL_isRight 78 = .ok (.iconst 1, 1) := by decide +kernel
theorem dL_isRight_79 : decode cL_isRight 79 = .ok (.goto 4, 3) := by decide +kernel
theorem dL_isRight_82 : decode cL_isRight 82 = .ok (.iconst 0, 1) := by decide +kernel
theorem dL_isRight_83 : decode cL_isRight 83 = .ok (.istore_n 3, 1) := by decide +kernel
theorem dL_isRight_84 : decode cL_isRight 84 = .ok (.iload_n 2, 1) := by decide +kernel
theorem dL_isRight_85 : decode cL_isRight 85 = .ok (.iload_n 3, 1) := by decide +kernel
theorem dL_isRight_86 : decode cL_isRight 86 = .ok (.ifCond .eq 12, 3) := by decide +kernel
theorem dL_isRight_89 : decode cL_isRight 89 = .ok (.iconst 1, 1) := by decide +kernel
theorem dL_isRight_90 : decode cL_isRight 90 = .ok (.aload_n 0, 1) := by decide +kernel
theorem dL_isRight_91 : decode cL_isRight 91 = .ok (.iload 4, 2) := by decide +kernel
theorem dL_isRight_93 : decode cL_isRight 93 = .ok (.iaload, 1) := by decide +kernel
theorem dL_isRight_94 : decode cL_isRight 94 = .ok (.ishl, 1) := by decide +kernel
theorem dL_isRight_95 : decode cL_isRight 95 = .ok (.goto 4, 3) := by decide +kernel
theorem dL_isRight_98 : decode cL_isRight 98 = .ok (.iconst 0, 1) := by decide +kernel
theorem dL_isRight_99 : decode cL_isRight 99 = .ok (.ior, 1) := by decide +kernel
theorem dL_isRight_100 : decode cL_isRight 100 = .ok (.istore_n 2, 1) := by decide +kernel
theorem dL_isRight_101 : decode cL_isRight 101 = .ok (.iinc 4 1, 3) := by decide +kernel
theorem dL_isRight_104 : decode cL_isRight 104 = .ok (.goto (-67), 3) := by decide +kernel
theorem dL_isRight_107 : decode cL_isRight 107 = .ok (.iconst 0, 1) := by decide +kernel
theorem dL_isRight_108 : decode cL_isRight 108 = .ok (.istore 4, 2) := by decide +kernel
theorem dL_isRight_110 : decode cL_isRight 110 = .ok (.iload 4, 2) := by decide +kernel
theorem dL_isRight_112 : decode cL_isRight 112 = .ok (.iload_n 1, 1) := by decide +kernel
theorem dL_isRight_113 : decode cL_isRight 113 = .ok (.if_icmp .ge 43, 3) := by decide +kernel
theorem dL_isRight_116 : decode cL_isRight 116 = .ok (.iload_n 3, 1) := by decide +kernel
theorem dL_isRight_117 : decode cL_isRight 117 = .ok (.ifCond .eq 31, 3) := by decide +kernel
theorem dL_isRight_120 : decode cL_isRight 120 = .ok (.aload_n 0, 1) := by decide +kernel
theorem dL_isRight_121 : decode cL_isRight 121 = .ok (.iload_n 1, 1) := by decide +kernel
theorem dL_isRight_122 : decode cL_isRight 122 = .ok (.iload_n 1, 1) := by decide +kernel
theorem dL_isRight_123 : decode cL_isRight 123 = .ok (.iload 4, 2) := by decide +kernel
theorem dL_isRight_125 : decode cL_isRight 125 = .ok (.imul, 1) := by decide +kernel
theorem dL_isRight_126 : decode cL_isRight 126 = .ok (.iconst 1, 1) := by decide +kernel
theorem dL_isRight_127 : decode cL_isRight 127 = .ok (.invokestatic 9, 3) := by decide +kernel
theorem dL_isRight_130 : decode cL_isRight 130 = .ok (.ifCond .eq 18, 3) := by decide +kernel
theorem dL_isRight_133 : decode cL_isRight 133 = .ok (.aload_n 0, 1) := by decide +kernel
theorem dL_isRight_134 : decode cL_isRight 134 = .ok (.iload_n 1, 1) := by decide +kernel
theorem dL_isRight_135 : decode cL_isRight 135 = .ok (.iload 4, 2) := by decide +kernel
theorem dL_isRight_137 : decode cL_isRight 137 = .ok (.iload_n 1, 1) := by decide +kernel
theorem dL_isRight_138 : decode cL_isRight 138 = .ok (.invokestatic 9, 3) := by decide +kernel
theorem dL_isRight_141 : decode cL_isRight 141 = .ok (.ifCond .eq 7, 3) := by decide +kernel
theorem dL_isRight_144 : decode cL_isRight 144 = .ok (.iconst 1, 1) := by decide +kernel
theorem dL_isRight_145 : decode cL_isRight 145 = .ok (.goto 4, 3) := by decide +kernel
theorem dL_isRight_148 : decode cL_isRight 148 = .ok (.iconst 0, 1) := by decide +kernel
theorem dL_isRight_149 : decode cL_isRight 149 = .ok (.istore_n 3, 1) := by decide +kernel
theorem dL_isRight_150 : decode cL_isRight 150 = .ok (.iinc 4 1, 3) := by decide +kernel
theorem dL_isRight_153 : decode cL_isRight 153 = .ok (.goto (-43), 3) := by decide +kernel
theorem dL_isRight_156 : decode cL_isRight 156 = .ok (.iload_n 3, 1) := by decide +kernel
theorem dL_isRight_157 : decode cL_isRight 157 = .ok (.ireturn, 1) := by decide +kernel
theorem dL_compare_0 : decode cL_compare 0 = .ok (.iconst 0, 1) := by decide +kernel
theorem dL_compare_1 : decode cL_compare 1 = .ok (.istore_n 3, 1) := by decide +kernel
theorem dL_compare_2 : decode cL_compare 2 = .ok (.iload_n 3, 1) := by decide +kernel
theorem dL_compare_3 : decode cL_compare 3 = .ok (.iload_n 2, 1) := by decide +kernel
theorem dL_compare_4 : decode cL_compare 4 = .ok (.iload_n 2, 1) := by decide +kernel
theorem dL_compare_5 : decode cL_compare 5 = .ok (.imul, 1) := by decide +kernel
theorem dL_compare_6 : decode cL_compare 6 = .ok (.if_icmp .ge 26, 3) := by decide +kernel
theorem dL_compare_9 : decode cL_compare 9 = .ok (.aload_n 0, 1) := by decide +kernel
theorem dL_compare_10 : decode cL_compare 10 = .ok (.iload_n 3, 1) := by decide +kernel
theorem dL_compare_11 : decode cL_compare 11 = .ok (.iaload, 1) := by decide +kernel
theorem dL_compare_12 : decode cL_compare 12 = .ok (.aload_n 1, 1) := by decide +kernel
theorem dL_compare_13 : decode cL_compare 13 = .ok (.iload_n 3, 1) := by decide +kernel
theorem dL_compare_14 : decode cL_compare 14 = .ok (.iaload, 1) := by decide +kernel
theorem dL_compare_15 : decode cL_compare 15 = .ok (.if_icmp .eq 11, 3) := by decide +kernel
theorem dL_compare_18 : decode cL_compare 18 = .ok (.aload_n 0, 1) := by decide +kernel
theorem dL_compare_19 : decode cL_compare 19 = .ok (.iload_n 3, 1) := by decide +kernel
theorem dL_compare_20 : decode cL_compare 20 = .ok (.iaload, 1) := by decide +kernel
theorem dL_compare_21 : decode cL_compare 21 = .ok (.aload_n 1, 1) := by decide +kernel
theorem dL_compare_22 : decode cL_compare 22 = .ok (.iload_n 3, 1) := by decide +kernel
theorem dL_compare_23 : decode cL_compare 23 = .ok (.iaload, 1) := by decide +kernel
theorem dL_compare_24 : decode cL_compare 24 = .ok (.isub, 1) := by decide +kernel
theorem dL_compare_25 : decode cL_compare 25 = .ok (.ireturn, 1) := by decide +kernel
theorem dL_compare_26 : decode cL_compare 26 = .ok (.iinc 3 1, 3) := by decide +kernel
theorem dL_compare_29 : decode cL_compare 29 = .ok (.goto (-27), 3) := by decide +kernel
theorem dL_compare_32 : decode cL_compare 32 = .ok (.iconst 0, 1) := by decide +kernel
theorem dL_compare_33 : decode cL_compare 33 = .ok (.ireturn, 1) := by decide +kernel
theorem dL_areCompletions_0 : decode cL_areCompletions 0 = .ok (.aload_n 0, 1) := by decide +kernel
theorem dL_areCompletions_1 : decode cL_areCompletions 1 = .ok (.iload_n 1, 1) := by decide +kernel
theorem dL_areCompletions_2 : decode cL_areCompletions 2 = .ok (.invokevirtual 15, 3) := by decide +kernel
theorem dL_areCompletions_5 : decode cL_areCompletions 5 = .ok (.istore 5, 2) := by decide +kernel
theorem dL_areCompletions_7 : decode cL_areCompletions 7 = .ok (.bipush 16, 2) := by decide +kernel
theorem dL_areCompletions_9 : decode cL_areCompletions 9 = .ok (.newarray .int, 2) := by decide +kernel
theorem dL_areCompletions_11 : decode cL_areCompletions 11 = .ok (.astore 6, 2) := by decide +kernel
theorem dL_areCompletions_13 : decode cL_areCompletions 13 = .ok (.bipush 16, 2) := by decide +kernel
theorem dL_areCompletions_15 : decode cL_areCompletions 15 = .ok (.newarray .int, 2) := by decide +kernel
theorem dL_areCompletions_17 : decode cL_areCompletions 17 = .ok (.astore 7, 2) := by decide +kernel
theorem dL_areCompletions_19 : decode cL_areCompletions 19 = .ok (.iload 5, 2) := by decide +kernel
theorem dL_areCompletions_21 : decode cL_areCompletions 21 = .ok (.iconst 1, 1) := by decide +kernel
theorem dL_areCompletions_22 : decode cL_areCompletions 22 = .ok (.if_icmp .lt 20, 3) := by decide +kernel
theorem dL_areCompletions_25 : decode cL_areCompletions 25 = .ok (.aload_n 0, 1) := by decide +kernel
theorem dL_areCompletions_26 : decode cL_areCompletions 26 = .ok (.iload_n 1, 1) := by decide +kernel
theorem dL_areCompletions_27 : decode cL_areCompletions 27 = .ok (.iload 5, 2) := by decide +kernel
theorem dL_areCompletions_29 : decode cL_areCompletions 29 = .ok (.iconst 0, 1) := by decide +kernel
theorem dL_areCompletions_30 : decode cL_areCompletions 30 = .ok (.iconst 0, 1) := by decide +kernel
theorem dL_areCompletions_31 : decode cL_areCompletions 31 = .ok (.invokevirtual 21, 3) := by decide +kernel
theorem dL_areCompletions_34 : decode cL_areCompletions 34 = .ok (.iconst (-1), 1) := by decide +kernel
theorem dL_areCompletions_35 : decode cL_areCompletions 35 = .ok (.if_icmp .ne 7, 3) := by decide +kernel
theorem dL_areCompletions_38 : decode cL_areCompletions 38 = .ok (.iconst 1, 1) := by decide +kernel
theorem dL_areCompletions_39 : decode cL_areCompletions 39 = .ok (.goto 4, 3) := by decide +kernel
theorem dL_areCompletions_42 : decode cL_areCompletions 42 = .ok (.iconst 0, 1) := by decide +kernel
theorem dL_areCompletions_43 : decode cL_areCompletions 43 = .ok (.istore 8, 2) := by decide +kernel
theorem dL_areCompletions_45 : decode cL_areCompletions 45 = .ok (.iload 5, 2) := by decide +kernel
theorem dL_areCompletions_47 : decode cL_areCompletions 47 = .ok (.bipush 6, 2) := by decide +kernel
theorem dL_areCompletions_49 : decode cL_areCompletions 49 = .ok (.if_icmp .le 7, 3) := by decide +kernel
theorem dL_areCompletions_52 : decode cL_areCompletions 52 = .ok (.iconst 1, 1) := by decide +kernel
theorem dL_areCompletions_53 : decode cL_areCompletions 53 = .ok (.goto 4, 3) := by decide +kernel
theorem dL_areCompletions_56 : decode cL_areCompletions 56 = .ok (.iconst 0, 1) := by decide +kernel
theorem dL_areCompletions_57 : decode cL_areCompletions 57 = .ok (.istore 9, 2) := by decide +kernel
theorem dL_areCompletions_59 : decode cL_areCompletions 59 = .ok (.iconst 0, 1) := by decide +kernel
theorem dL_areCompletions_60 : decode cL_areCompletions 60 = .ok (.istore 10, 2) := by decide +kernel
theorem dL_areCompletions_62 : decode cL_areCompletions 62 = .ok (.iload 10, 2) := by decide +kernel
theorem dL_areCompletions_64 : decode cL_areCompletions 64 = .ok (.iload 5, 2) := by decide +kernel
theorem dL_areCompletions_66 : decode cL_areCompletions 66 = .ok (.if_icmp .ge 179, 3) := by decide +kernel
theorem dL_areCompletions_69 : decode cL_areCompletions 69 = .ok (.iload 10, 2) := by decide +kernel
theorem dL_areCompletions_71 : decode cL_areCompletions 71 = .ok (.bipush 6, 2) := by decide +kernel
theorem dL_areCompletions_73 : decode cL_areCompletions 73 = .ok (.if_icmp .ge 172, 3) := by decide +kernel
theorem dL_areCompletions_76 : decode cL_areCompletions 76 = .ok (.iload 8, 2) := by decide +kernel
theorem dL_areCompletions_78 : decode cL_areCompletions 78 = .ok (.ifCond .eq 167, 3) := by decide +kernel
theorem dL_areCompletions_81 : decode cL_areCompletions 81 = .ok (.iconst 0, 1) := by decide +kernel
theorem dL_areCompletions_82 : decode cL_areCompletions 82 = .ok (.istore 11, 2) := by decide +kernel
theorem dL_areCompletions_84 : decode cL_areCompletions 84 = .ok (.iload 11, 2) := by decide +kernel
theorem dL_areCompletions_86 : decode cL_areCompletions 86 = .ok (.iload_n 2, 1) := by decide +kernel
theorem dL_areCompletions_87 : decode cL_areCompletions 87 = .ok (.iload_n 2, 1) := by decide +kernel
theorem dL_areCompletions_88 : decode cL_areCompletions 88 = .ok (.imul, 1) := by decide +kernel
theorem dL_areCompletions_89 : decode cL_areCompletions 89 = .ok (.if_icmp .ge 64, 3) := by decide +kernel
theorem dL_areCompletions_92 : decode cL_areCompletions 92 = .ok (.aload 6, 2) := by decide +kernel
theorem dL_areCompletions_94 : decode cL_areCompletions 94 = .ok (.iload 11, 2) := by decide +kernel
theorem dL_areCompletions_96 : decode cL_areCompletions 96 = .ok (.aload_n 0, 1) := by decide +kernel
theorem dL_areCompletions_97 : decode cL_areCompletions 97 = .ok (.iload_n 1, 1) := by decide +kernel
theorem dL_areCompletions_98 : decode cL_areCompletions 98 = .ok (.iload 10, 2) := by decide +kernel
theorem dL_areCompletions_100 : decode cL_areCompletions 100 = .ok (.iload 11, 2) := by decide +kernel
theorem dL_areCompletions_102 : decode cL_areCompletions 102 = .ok (.iload_n 2, 1) := by decide +kernel
theorem dL_areCompletions_103 : decode cL_areCompletions 103 = .ok (.idiv, 1) := by decide +kernel
theorem dL_areCompletions_104 : decode cL_areCompletions 104 = .ok (.iload 11, 2) := by decide +kernel
theorem dL_areCompletions_106 : decode cL_areCompletions 106 = .ok (.iload_n 2, 1) := by decide +kernel
theorem dL_areCompletions_107 : decode cL_areCompletions 107 = .ok (.irem, 1) := by decide +kernel
theorem dL_areCompletions_108 : decode cL_areCompletions 108 = .ok (.invokevirtual 21, 3) := by decide +kernel
theorem dL_areCompletions_111 : decode cL_areCompletions 111 = .ok (.iastore, 1) := by decide +kernel
theorem dL_areCompletions_112 : decode cL_areCompletions 112 = .ok (.iload 8, 2) := by decide +kernel
theorem dL_areCompletions_114 : decode cL_areCompletions 114 = .ok (.ifCond .eq 30, 3) := by decide +kernel
theorem dL_areCompletions_117 : decode cL_areCompletions 117 = .ok (.iload 4, 2) := by decide +kernel
theorem dL_areCompletions_119 : decode cL_areCompletions 119 = .ok (.iload 11, 2) := by decide +kernel
theorem dL_areCompletions_121 : decode cL_areCompletions 121 = .ok (.ishr, 1) := by decide +kernel
theorem dL_areCompletions_122 : decode cL_areCompletions 122 = .ok (.iconst 1, 1) := by decide +kernel
theorem dL_areCompletions_123 : decode cL_areCompletions 123 = .ok (.iand, 1) := by decide +kernel
theorem dL_areCompletions_124 : decode cL_areCompletions 124 = .ok (.iconst 1, 1) := by decide +kernel
theorem dL_areCompletions_125 : decode cL_areCompletions 125 = .ok (.if_icmp .eq 15, 3) := by decide +kernel
theorem dL_areCompletions_128 : decode cL_areCompletions 128 = .ok (.aload 6, 2) := by decide +kernel
theorem dL_areCompletions_130 : decode cL_areCompletions 130 = .ok (.iload 11, 2) := by decide +kernel
theorem dL_areCompletions_132 : decode cL_areCompletions 132 = .ok (.iaload, 1) := by decide +kernel
theorem dL_areCompletions_133 : decode cL_areCompletions 133 = .ok (.aload_n 3, 1) := by decide +kernel
theorem dL_areCompletions_134 : decode cL_areCompletions 134 = .ok (.iload 11, 2) := by decide +kernel
theorem dL_areCompletions_136 : decode cL_areCompletions 136 = .ok (.iaload, 1) := by decide +kernel
theorem dL_areCompletions_137 : decode cL_areCompletions 137 = .ok (.if_icmp .ne 7, 3) := by decide +kernel
theorem dL_areCompletions_140 : decode cL_areCompletions 140 = .ok (.iconst 1, 1) := by decide +kernel
theorem dL_areCompletions_141 : decode cL_areCompletions 141 = .ok (.goto 4, 3) := by decide +kernel
theorem dL_areCompletions_144 : decode cL_areCompletions 144 = .ok (.iconst 0, 1) := by decide +kernel
theorem dL_areCompletions_145 : decode cL_areCompletions 145 = .ok (.istore 8, 2) := by decide +kernel
theorem dL_areCompletions_147 : decode cL_areCompletions 147 = .ok (.iinc 11 1, 3) := by decide +kernel
theorem dL_areCompletions_150 : decode cL_areCompletions 150 = .ok (.goto (-66), 3) := by decide +kernel
theorem dL_areCompletions_153 : decode cL_areCompletions 153 = .ok (.iload 8, 2) := by decide +kernel
theorem dL_areCompletions_155 : decode cL_areCompletions 155 = .ok (.ifCond .eq 32, 3) := by decide +kernel
theorem dL_areCompletions_158 : decode cL_areCompletions 158 = .ok (.aload 6, 2) := by decide +kernel
theorem dL_areCompletions_160 : decode cL_areCompletions 160 = .ok (.iload_n 2, 1) := by decide +kernel
theorem dL_areCompletions_161 : decode cL_areCompletions 161 = .ok (.invokestatic 25, 3) := by decide +kernel
theorem dL_areCompletions_164 : decode cL_areCompletions 164 = .ok (.ifCond .eq 23, 3) := by decide +kernel
theorem dL_areCompletions_167 : decode cL_areCompletions 167 = .ok (.iload 10, 2) := by decide +kernel
theorem dL_areCompletions_169 : decode cL_areCompletions 169 = .ok (.ifCond .eq 14, 3) := by decide +kernel
theorem dL_areCompletions_172 : decode cL_areCompletions 172 = .ok (.aload 7, 2) := by decide +kernel
theorem dL_areCompletions_174 : decode cL_areCompletions 174 = .ok (.aload 6, 2) := by decide +kernel
theorem dL_areCompletions_176 : decode cL_areCompletions 176 = .ok (.iload_n 2, 1) := by decide +kernel
theorem dL_areCompletions_177 : decode cL_areCompletions 177 = .ok (.invokestatic 29, 3) := by decide +kernel
theorem dL_areCompletions_180 : decode cL_areCompletions 180 = .ok (.ifCond .ge 7, 3) := by decide +kernel
theorem dL_areCompletions_183 : decode cL_areCompletions 183 = .ok (.iconst 1, 1) := by decide +kernel
theorem dL_areCompletions_184 : decode cL_areCompletions 184 = .ok (.goto 4, 3) := by decide +kernel
theorem dL_areCompletions_187 : decode cL_areCompletions 187 = .ok (.iconst 0, 1) := by decide +kernel
theorem dL_areCompletions_188 : decode cL_areCompletions 188 = .ok (.istore 8, 2) := by decide +kernel
theorem dL_areCompletions_190 : decode cL_areCompletions 190 = .ok (.iload 9, 2) := by decide +kernel
theorem dL_areCompletions_192 : decode cL_areCompletions 192 = .ok (.ifCond .ne 13, 3) := by decide +kernel
theorem dL_areCompletions_195 : decode cL_areCompletions 195 = .ok (.aload 6, 2) := by decide +kernel
theorem dL_areCompletions_197 : decode cL_areCompletions 197 = .ok (.aload_n 3, 1) := by decide +kernel
theorem dL_areCompletions_198 : decode cL_areCompletions 198 = .ok (.iload_n 2, 1) := by decide +kernel
theorem dL_areCompletions_199 : decode cL_areCompletions 199 = .ok (.invokestatic 29, 3) := by decide +kernel
theorem dL_areCompletions_202 : decode cL_areCompletions 202 = .ok (.ifCond .ne 7, 3) := by decide +kernel
theorem dL_areCompletions_205 : decode cL_areCompletions 205 = .ok (.iconst 1, 1) := by decide +kernel
theorem dL_areCompletions_206 : decode cL_areCompletions 206 = .ok (.goto 4, 3) := by decide +kernel
theorem dL_areCompletions_209 : decode cL_areCompletions 209 = .ok (.iconst 0, 1) := by decide +kernel
theorem dL_areCompletions_210 : decode cL_areCompletions 210 = .ok (.istore 9, 2) := by decide +kernel
theorem dL_areCompletions_212 : decode cL_areCompletions 212 = .ok (.iconst 0, 1) := by decide +kernel
theorem dL_areCompletions_213 : decode cL_areCompletions 213 = .ok (.istore 11, 2) := by decide +kernel
theorem dL_areCompletions_215 : decode cL_areCompletions 215 = .ok (.iload 11, 2) := by decide +kernel
theorem dL_areCompletions_217 : decode cL_areCompletions 217 = .ok (.iload_n 2, 1) := by decide +kernel
theorem dL_areCompletions_218 : decode cL_areCompletions 218 = .ok (.iload_n 2, 1) := by decide +kernel
theorem dL_areCompletions_219 : decode cL_areCompletions 219 = .ok (.imul, 1) := by decide +kernel
theorem dL_areCompletions_220 : decode cL_areCompletions 220 = .ok (.if_icmp .ge 19, 3) := by decide +kernel
theorem dL_areCompletions_223 : decode cL_areCompletions 223 = .ok (.aload 7, 2) := by decide +kernel
theorem dL_areCompletions_225 : decode cL_areCompletions 225 = .ok (.iload 11, 2) := by decide +kernel
theorem dL_areCompletions_227 : decode cL_areCompletions 227 = .ok (.aload 6, 2) := by decide +kernel
theorem dL_areCompletions_229 : decode cL_areCompletions 229 = .ok (.iload 11, 2) := by decide +kernel
theorem dL_areCompletions_231 : decode cL_areCompletions 231 = .ok (.iaload, 1) := by decide +kernel
theorem dL_areCompletions_232 : decode cL_areCompletions 232 = .ok (.iastore, 1) := by decide +kernel
theorem dL_areCompletions_233 : decode cL_areCompletions 233 = .ok (.iinc 11 1, 3) := by decide +kernel
theorem dL_areCompletions_236 : decode cL_areCompletions 236 = .ok (.goto (-21), 3) := by decide +kernel
theorem dL_areCompletions_239 : decode cL_areCompletions 239 = .ok (.iinc 10 1, 3) := by decide +kernel
theorem dL_areCompletions_242 : decode cL_areCompletions 242 = .ok (.goto (-180), 3) := by decide +kernel
theorem dL_areCompletions_245 : decode cL_areCompletions 245 = .ok (.iload 8, 2) := by decide +kernel
theorem dL_areCompletions_247 : decode cL_areCompletions 247 = .ok (.ifCond .eq 12, 3) := by decide +kernel
theorem dL_areCompletions_250 : decode cL_areCompletions 250 = .ok (.iload 9, 2) := by decide +kernel
theorem dL_areCompletions_252 : decode cL_areCompletions 252 = .ok (.ifCond .eq 7, 3) := by decide +kernel
theorem dL_areCompletions_255 : decode cL_areCompletions 255 = .ok (.iconst 1, 1) := by decide +kernel
theorem dL_areCompletions_256 : decode cL_areCompletions 256 = .ok (.goto 4, 3) := by decide +kernel
theorem dL_areCompletions_259 : decode cL_areCompletions 259 = .ok (.iconst 0, 1) := by decide +kernel
theorem dL_areCompletions_260 : decode cL_areCompletions 260 = .ok (.ireturn, 1) := by decide +kernel
theorem dL_law_0 : decode cL_law 0 = .ok (.new 16, 3) := by decide +kernel
theorem dL_law_3 : decode cL_law 3 = .ok (.dup, 1) := by decide +kernel
theorem dL_law_4 : decode cL_law 4 = .ok (.invokespecial 33, 3) := by decide +kernel
theorem dL_law_7 : decode cL_law 7 = .ok (.astore_n 1, 1) := by decide +kernel
theorem dL_law_8 : decode cL_law 8 = .ok (.bipush 16, 2) := by decide +kernel
theorem dL_law_10 : decode cL_law 10 = .ok (.newarray .int, 2) := by decide +kernel
theorem dL_law_12 : decode cL_law 12 = .ok (.astore_n 2, 1) := by decide +kernel
theorem dL_law_13 : decode cL_law 13 = .ok (.aload_n 1, 1) := by decide +kernel
theorem dL_law_14 : decode cL_law 14 = .ok (.iconst 0, 1) := by decide +kernel
theorem dL_law_15 : decode cL_law 15 = .ok (.iconst 3, 1) := by decide +kernel
theorem dL_law_16 : decode cL_law 16 = .ok (.invokevirtual 34, 3) := by decide +kernel
theorem dL_law_19 : decode cL_law 19 = .ok (.ifCond .ne 17, 3) := by decide +kernel
theorem dL_law_22 : decode cL_law 22 = .ok (.aload_n 1, 1) := by decide +kernel
theorem dL_law_23 : decode cL_law 23 = .ok (.iconst 1, 1) := by decide +kernel
theorem dL_law_24 : decode cL_law 24 = .ok (.iconst 4, 1) := by decide +kernel
theorem dL_law_25 : decode cL_law 25 = .ok (.invokevirtual 34, 3) := by decide +kernel
theorem dL_law_28 : decode cL_law 28 = .ok (.iconst 1, 1) := by decide +kernel
theorem dL_law_29 : decode cL_law 29 = .ok (.if_icmp .ne 7, 3) := by decide +kernel
theorem dL_law_32 : decode cL_law 32 = .ok (.iconst 1, 1) := by decide +kernel
theorem dL_law_33 : decode cL_law 33 = .ok (.goto 4, 3) := by decide +kernel
theorem dL_law_36 : decode cL_law 36 = .ok (.iconst 0, 1) := by decide +kernel
theorem dL_law_37 : decode cL_law 37 = .ok (.istore_n 3, 1) := by decide +kernel
theorem dL_law_38 : decode cL_law 38 = .ok (.iconst 0, 1) := by decide +kernel
theorem dL_law_39 : decode cL_law 39 = .ok (.istore 4, 2) := by decide +kernel
theorem dL_law_41 : decode cL_law 41 = .ok (.iload 4, 2) := by decide +kernel
theorem dL_law_43 : decode cL_law 43 = .ok (.bipush 6, 2) := by decide +kernel
theorem dL_law_45 : decode cL_law 45 = .ok (.if_icmp .ge 348, 3) := by decide +kernel
theorem dL_law_48 : decode cL_law 48 = .ok (.iload_n 3, 1) := by decide +kernel
theorem dL_law_49 : decode cL_law 49 = .ok (.ifCond .eq 344, 3) := by decide +kernel
theorem dL_law_52 : decode cL_law 52 = .ok (.aload_n 0, 1) := by decide +kernel
theorem dL_law_53 : decode cL_law 53 = .ok (.iload 4, 2) := by decide +kernel
theorem dL_law_55 : decode cL_law 55 = .ok (.invokestatic 38, 3) := by decide +kernel
theorem dL_law_58 : decode cL_law 58 = .ok (.istore 5, 2) := by decide +kernel
theorem dL_law_60 : decode cL_law 60 = .ok (.iload 5, 2) := by decide +kernel
theorem dL_law_62 : decode cL_law 62 = .ok (.iconst 2, 1) := by decide +kernel
theorem dL_law_63 : decode cL_law 63 = .ok (.irem, 1) := by decide +kernel
theorem dL_law_64 : decode cL_law 64 = .ok (.istore 6, 2) := by decide +kernel
theorem dL_law_66 : decode cL_law 66 = .ok (.iconst 3, 1) := by decide +kernel
theorem dL_law_67 : decode cL_law 67 = .ok (.iload 6, 2) := by decide +kernel
theorem dL_law_69 : decode cL_law 69 = .ok (.iadd, 1) := by decide +kernel
theorem dL_law_70 : decode cL_law 70 = .ok (.istore 7, 2) := by decide +kernel
theorem dL_law_72 : decode cL_law 72 = .ok (.aload_n 1, 1) := by decide +kernel
theorem dL_law_73 : decode cL_law 73 = .ok (.iload 6, 2) := by decide +kernel
theorem dL_law_75 : decode cL_law 75 = .ok (.iconst 0, 1) := by decide +kernel
theorem dL_law_76 : decode cL_law 76 = .ok (.iload 5, 2) := by decide +kernel
theorem dL_law_78 : decode cL_law 78 = .ok (.iconst 2, 1) := by decide +kernel
theorem dL_law_79 : decode cL_law 79 = .ok (.idiv, 1) := by decide +kernel
theorem dL_law_80 : decode cL_law 80 = .ok (.iconst 4, 1) := by decide +kernel
theorem dL_law_81 : decode cL_law 81 = .ok (.irem, 1) := by decide +kernel
theorem dL_law_82 : decode cL_law 82 = .ok (.invokevirtual 42, 3) := by decide +kernel
theorem dL_law_85 : decode cL_law 85 = .ok (.pop, 1) := by decide +kernel
theorem dL_law_86 : decode cL_law 86 = .ok (.aload_n 1, 1) := by decide +kernel
theorem dL_law_87 : decode cL_law 87 = .ok (.iload 6, 2) := by decide +kernel
theorem dL_law_89 : decode cL_law 89 = .ok (.iconst 1, 1) := by decide +kernel
theorem dL_law_90 : decode cL_law 90 = .ok (.iload 5, 2) := by decide +kernel
theorem dL_law_92 : decode cL_law 92 = .ok (.bipush 8, 2) := by decide +kernel
theorem dL_law_94 : decode cL_law 94 = .ok (.idiv, 1) := by decide +kernel
theorem dL_law_95 : decode cL_law 95 = .ok (.iconst 2, 1) := by decide +kernel
theorem dL_law_96 : decode cL_law 96 = .ok (.irem, 1) := by decide +kernel
theorem dL_law_97 : decode cL_law 97 = .ok (.invokevirtual 42, 3) := by decide +kernel
theorem dL_law_100 : decode cL_law 100 = .ok (.pop, 1) := by decide +kernel
theorem dL_law_101 : decode cL_law 101 = .ok (.aload_n 1, 1) := by decide +kernel
theorem dL_law_102 : decode cL_law 102 = .ok (.iload 6, 2) := by decide +kernel
theorem dL_law_104 : decode cL_law 104 = .ok (.iconst 2, 1) := by decide +kernel
theorem dL_law_105 : decode cL_law 105 = .ok (.iload 7, 2) := by decide +kernel
theorem dL_law_107 : decode cL_law 107 = .ok (.iload 7, 2) := by decide +kernel
theorem dL_law_109 : decode cL_law 109 = .ok (.imul, 1) := by decide +kernel
theorem dL_law_110 : decode cL_law 110 = .ok (.iconst 1, 1) := by decide +kernel
theorem dL_law_111 : decode cL_law 111 = .ok (.iadd, 1) := by decide +kernel
theorem dL_law_112 : decode cL_law 112 = .ok (.invokevirtual 42, 3) := by decide +kernel
theorem dL_law_115 : decode cL_law 115 = .ok (.pop, 1) := by decide +kernel
theorem dL_law_116 : decode cL_law 116 = .ok (.iload 6, 2) := by decide +kernel
theorem dL_law_118 : decode cL_law 118 = .ok (.iconst 1, 1) := by decide +kernel
theorem dL_law_119 : decode cL_law 119 = .ok (.if_icmp .ne 18, 3) := by decide +kernel
theorem dL_law_122 : decode cL_law 122 = .ok (.aload_n 1, 1) := by decide +kernel
theorem dL_law_123 : decode cL_law 123 = .ok (.iload 6, 2) := by decide +kernel
theorem dL_law_125 : decode cL_law 125 = .ok (.iconst 5, 1) := by decide +kernel
theorem dL_law_126 : decode cL_law 126 = .ok (.iload 5, 2) := by decide +kernel
theorem dL_law_128 : decode cL_law 128 = .ok (.bipush 32, 2) := by decide +kernel
theorem dL_law_130 : decode cL_law 130 = .ok (.idiv, 1) := by decide +kernel
theorem dL_law_131 : decode cL_law 131 = .ok (.iconst 4, 1) := by decide +kernel
theorem dL_law_132 : decode cL_law 132 = .ok (.irem, 1) := by decide +kernel
theorem dL_law_133 : decode cL_law 133 = .ok (.invokevirtual 42, 3) := by decide +kernel
theorem dL_law_136 : decode cL_law 136 = .ok (.pop, 1) := by decide +kernel
theorem dL_law_137 : decode cL_law 137 = .ok (.iconst 0, 1) := by decide +kernel
theorem dL_law_138 : decode cL_law 138 = .ok (.istore 8, 2) := by decide +kernel
theorem dL_law_140 : decode cL_law 140 = .ok (.iconst 0, 1) := by decide +kernel
theorem dL_law_141 : decode cL_law 141 = .ok (.istore 9, 2) := by decide +kernel
theorem dL_law_143 : decode cL_law 143 = .ok (.iload 9, 2) := by decide +kernel
theorem dL_law_145 : decode cL_law 145 = .ok (.iload 7, 2) := by decide +kernel
theorem dL_law_147 : decode cL_law 147 = .ok (.iload 7, 2) := by decide +kernel
theorem dL_law_149 : decode cL_law 149 = .ok (.imul, 1) := by decide +kernel
theorem dL_law_150 : decode cL_law 150 = .ok (.if_icmp .ge 29, 3) := by decide +kernel
theorem dL_law_153 : decode cL_law 153 = .ok (.aload_n 2, 1) := by decide +kernel
theorem dL_law_154 : decode cL_law 154 = .ok (.iload 9, 2) := by decide +kernel
theorem dL_law_156 : decode cL_law 156 = .ok (.aload_n 1, 1) := by decide +kernel
theorem dL_law_157 : decode cL_law 157 = .ok (.iload 6, 2) := by decide +kernel
theorem dL_law_159 : decode cL_law 159 = .ok (.iload 9, 2) := by decide +kernel
theorem dL_law_161 : decode cL_law 161 = .ok (.iload 7, 2) := by decide +kernel
theorem dL_law_163 : decode cL_law 163 = .ok (.idiv, 1) := by decide +kernel
theorem dL_law_164 : decode cL_law 164 = .ok (.iload 9, 2) := by decide +kernel
theorem dL_law_166 : decode cL_law 166 = .ok (.iload 7, 2) := by decide +kernel
theorem dL_law_168 : decode cL_law 168 = .ok (.irem, 1) := by decide +kernel
theorem dL_law_169 : decode cL_law 169 = .ok (.invokevirtual 46, 3) := by decide +kernel
theorem dL_law_172 : decode cL_law 172 = .ok (.iastore, 1) := by decide +kernel
theorem dL_law_173 : decode cL_law 173 = .ok (.iinc 9 1, 3) := by decide +kernel
theorem dL_law_176 : decode cL_law 176 = .ok (.goto (-33), 3) := by decide +kernel
theorem dL_law_179 : decode cL_law 179 = .ok (.iload 7, 2) := by decide +kernel
theorem dL_law_181 : decode cL_law 181 = .ok (.iconst 3, 1) := by decide +kernel
theorem dL_law_182 : decode cL_law 182 = .ok (.if_icmp .ne 15, 3) := by decide +kernel
theorem dL_law_185 : decode cL_law 185 = .ok (.iload 5, 2) := by decide +kernel
theorem dL_law_187 : decode cL_law 187 = .ok (.sipush 128, 3) := by decide +kernel
theorem dL_law_190 : decode cL_law 190 = .ok (.idiv, 1) := by decide +kernel
theorem dL_law_191 : decode cL_law 191 = .ok (.bipush 10, 2) := by decide +kernel
theorem dL_law_193 : decode cL_law 193 = .ok (.irem, 1) := by decide +kernel
theorem dL_law_194 : decode cL_law 194 = .ok (.goto 12, 3) := by decide +kernel
theorem dL_law_197 : decode cL_law 197 = .ok (.iload 5, 2) := by decide +kernel
theorem dL_law_199 : decode cL_law 199 = .ok (.sipush 128, 3) := by decide +kernel
theorem dL_law_202 : decode cL_law 202 = .ok (.idiv, 1) := by decide +kernel
theorem dL_law_203 : decode cL_law 203 = .ok (.bipush 7, 2) := by decide +kernel
theorem dL_law_205 : decode cL_law 205 = .ok (.irem, 1) := by decide +kernel
theorem dL_law_206 : decode cL_law 206 = .ok (.istore 9, 2) := by decide +kernel
theorem dL_law_208 : decode cL_law 208 = .ok (.iconst 0, 1) := by decide +kernel
theorem dL_law_209 : decode cL_law 209 = .ok (.istore 10, 2) := by decide +kernel
theorem dL_law_211 : decode cL_law 211 = .ok (.iload 10, 2) := by decide +kernel
theorem dL_law_213 : decode cL_law 213 = .ok (.iload 9, 2) := by decide +kernel
theorem dL_law_215 : decode cL_law 215 = .ok (.if_icmp .ge 59, 3) := by decide +kernel
theorem dL_law_218 : decode cL_law 218 = .ok (.aload_n 0, 1) := by decide +kernel
theorem dL_law_219 : decode cL_law 219 = .ok (.bipush 6, 2) := by decide +kernel
theorem dL_law_221 : decode cL_law 221 = .ok (.bipush 9, 2) := by decide +kernel
theorem dL_law_223 : decode cL_law 223 = .ok (.iload 4, 2) := by decide +kernel
theorem dL_law_225 : decode cL_law 225 = .ok (.imul, 1) := by decide +kernel
theorem dL_law_226 : decode cL_law 226 = .ok (.iadd, 1) := by decide +kernel
theorem dL_law_227 : decode cL_law 227 = .ok (.iload 10, 2) := by decide +kernel
theorem dL_law_229 : decode cL_law 229 = .ok (.iadd, 1) := by decide +kernel
theorem dL_law_230 : decode cL_law 230 = .ok (.invokestatic 38, 3) := by decide +kernel
theorem dL_law_233 : decode cL_law 233 = .ok (.iload 7, 2) := by decide +kernel
theorem dL_law_235 : decode cL_law 235 = .ok (.iload 7, 2) := by decide +kernel
theorem dL_law_237 : decode cL_law 237 = .ok (.imul, 1) := by decide +kernel
theorem dL_law_238 : decode cL_law 238 = .ok (.irem, 1) := by decide +kernel
theorem dL_law_239 : decode cL_law 239 = .ok (.istore 11, 2) := by decide +kernel
theorem dL_law_241 : decode cL_law 241 = .ok (.iload 8, 2) := by decide +kernel
theorem dL_law_243 : decode cL_law 243 = .ok (.iconst 1, 1) := by decide +kernel
theorem dL_law_244 : decode cL_law 244 = .ok (.iload 11, 2) := by decide +kernel
theorem dL_law_246 : decode cL_law 246 = .ok (.ishl, 1) := by decide +kernel
theorem dL_law_247 : decode cL_law 247 = .ok (.ior, 1) := by decide +kernel
theorem dL_law_248 : decode cL_law 248 = .ok (.istore 8, 2) := by decide +kernel
theorem dL_law_250 : decode cL_law 250 = .ok (.aload_n 1, 1) := by decide +kernel
theorem dL_law_251 : decode cL_law 251 = .ok (.iload 6, 2) := by decide +kernel
theorem dL_law_253 : decode cL_law 253 = .ok (.iload 11, 2) := by decide +kernel
theorem dL_law_255 : decode cL_law 255 = .ok (.iload 7, 2) := by decide +kernel
theorem dL_law_257 : decode cL_law 257 = .ok (.idiv, 1) := by decide +kernel
theorem dL_law_258 : decode cL_law 258 = .ok (.iload 11, 2) := by decide +kernel
theorem dL_law_260 : decode cL_law 260 = .ok (.iload 7, 2) := by decide +kernel
theorem dL_law_262 : decode cL_law 262 = .ok (.irem, 1) := by decide +kernel
theorem dL_law_263 : decode cL_law 263 = .ok (.iconst 0, 1) := by decide +kernel
theorem dL_law_264 : decode cL_law 264 = .ok (.invokevirtual 49, 3) := by decide +kernel
theorem dL_law_267 : decode cL_law 267 = .ok (.pop, 1) := by decide +kernel
theorem dL_law_268 : decode cL_law 268 = .ok (.iinc 10 1, 3) := by decide +kernel
theorem dL_law_271 : decode cL_law 271 = .ok (.goto (-60), 3) := by decide +kernel
theorem dL_law_274 : decode cL_law 274 = .ok (.aload_n 2, 1) := by decide +kernel
theorem dL_law_275 : decode cL_law 275 = .ok (.iload 7, 2) := by decide +kernel
theorem dL_law_277 : decode cL_law 277 = .ok (.invokestatic 25, 3) := by decide +kernel
theorem dL_law_280 : decode cL_law 280 = .ok (.ifCond .eq 21, 3) := by decide +kernel
theorem dL_law_283 : decode cL_law 283 = .ok (.aload_n 1, 1) := by decide +kernel
theorem dL_law_284 : decode cL_law 284 = .ok (.iload 6, 2) := by decide +kernel
theorem dL_law_286 : decode cL_law 286 = .ok (.iload 7, 2) := by decide +kernel
theorem dL_law_288 : decode cL_law 288 = .ok (.aload_n 2, 1) := by decide +kernel
theorem dL_law_289 : decode cL_law 289 = .ok (.iload 8, 2) := by decide +kernel
theorem dL_law_291 : decode cL_law 291 = .ok (.invokestatic 52, 3) := by decide +kernel
theorem dL_law_294 : decode cL_law 294 = .ok (.ifCond .eq 7, 3) := by decide +kernel
theorem dL_law_297 : decode cL_law 297 = .ok (.iconst 1, 1) := by decide +kernel
theorem dL_law_298 : decode cL_law 298 = .ok (.goto 4, 3) := by decide +kernel
theorem dL_law_301 : decode cL_law 301 = .ok (.iconst 0, 1) := by decide +kernel
theorem dL_law_302 : decode cL_law 302 = .ok (.istore_n 3, 1) := by decide +kernel
theorem dL_law_303 : decode cL_law 303 = .ok (.iconst 0, 1) := by decide +kernel
theorem dL_law_304 : decode cL_law 304 = .ok (.istore 10, 2) := by decide +kernel
theorem dL_law_306 : decode cL_law 306 = .ok (.iload 10, 2) := by decide +kernel
theorem dL_law_308 : decode cL_law 308 = .ok (.iload 7, 2) := by decide +kernel
theorem dL_law_310 : decode cL_law 310 = .ok (.iload 7, 2) := by decide +kernel
theorem dL_law_312 : decode cL_law 312 = .ok (.imul, 1) := by decide +kernel
theorem dL_law_313 : decode cL_law 313 = .ok (.if_icmp .ge 30, 3) := by decide +kernel
theorem dL_law_316 : decode cL_law 316 = .ok (.aload_n 1, 1) := by decide +kernel
theorem dL_law_317 : decode cL_law 317 = .ok (.iload 6, 2) := by decide +kernel
theorem dL_law_319 : decode cL_law 319 = .ok (.iload 10, 2) := by decide +kernel
theorem dL_law_321 : decode cL_law 321 = .ok (.iload 7, 2) := by decide +kernel
theorem dL_law_323 : decode cL_law 323 = .ok (.idiv, 1) := by decide +kernel
theorem dL_law_324 : decode cL_law 324 = .ok (.iload 10, 2) := by decide +kernel
theorem dL_law_326 : decode cL_law 326 = .ok (.iload 7, 2) := by decide +kernel
theorem dL_law_328 : decode cL_law 328 = .ok (.irem, 1) := by decide +kernel
theorem dL_law_329 : decode cL_law 329 = .ok (.aload_n 2, 1) := by decide +kernel
theorem dL_law_330 : decode cL_law 330 = .ok (.iload 10, 2) := by decide +kernel
theorem dL_law_332 : decode cL_law 332 = .ok (.iaload, 1) := by decide +kernel
theorem dL_law_333 : decode cL_law 333 = .ok (.invokevirtual 49, 3) := by decide +kernel
theorem dL_law_336 : decode cL_law 336 = .ok (.pop, 1) := by decide +kernel
theorem dL_law_337 : decode cL_law 337 = .ok (.iinc 10 1, 3) := by decide +kernel
theorem dL_law_340 : decode cL_law 340 = .ok (.goto (-34), 3) := by decide +kernel
theorem dL_law_343 : decode cL_law 343 = .ok (.iload_n 3, 1) := by decide +kernel
theorem dL_law_344 : decode cL_law 344 = .ok (.ifCond .eq 41, 3) := by decide +kernel
theorem dL_law_347 : decode cL_law 347 = .ok (.aload_n 1, 1) := by decide +kernel
theorem dL_law_348 : decode cL_law 348 = .ok (.iload 6, 2) := by decide +kernel
theorem dL_law_350 : decode cL_law 350 = .ok (.invokevirtual 15, 3) := by decide +kernel
theorem dL_law_353 : decode cL_law 353 = .ok (.iconst 1, 1) := by decide +kernel
theorem dL_law_354 : decode cL_law 354 = .ok (.if_icmp .ne 31, 3) := by decide +kernel
theorem dL_law_357 : decode cL_law 357 = .ok (.aload_n 1, 1) := by decide +kernel
theorem dL_law_358 : decode cL_law 358 = .ok (.iload 6, 2) := by decide +kernel
theorem dL_law_360 : decode cL_law 360 = .ok (.iconst 0, 1) := by decide +kernel
theorem dL_law_361 : decode cL_law 361 = .ok (.iload 7, 2) := by decide +kernel
theorem dL_law_363 : decode cL_law 363 = .ok (.iconst 1, 1) := by decide +kernel
theorem dL_law_364 : decode cL_law 364 = .ok (.isub, 1) := by decide +kernel
theorem dL_law_365 : decode cL_law 365 = .ok (.iconst 0, 1) := by decide +kernel
theorem dL_law_366 : decode cL_law 366 = .ok (.invokevirtual 21, 3) := by decide +kernel
theorem dL_law_369 : decode cL_law 369 = .ok (.aload_n 2, 1) := by decide +kernel
theorem dL_law_370 : decode cL_law 370 = .ok (.iload 7, 2) := by decide +kernel
theorem dL_law_372 : decode cL_law 372 = .ok (.iload 7, 2) := by decide +kernel
theorem dL_law_374 : decode cL_law 374 = .ok (.iconst 1, 1) := by decide +kernel
theorem dL_law_375 : decode cL_law 375 = .ok (.isub, 1) := by decide +kernel
theorem dL_law_376 : decode cL_law 376 = .ok (.imul, 1) := by decide +kernel
theorem dL_law_377 : decode cL_law 377 = .ok (.iaload, 1) := by decide +kernel
theorem dL_law_378 : decode cL_law 378 = .ok (.if_icmp .ne 7, 3) := by decide +kernel
theorem dL_law_381 : decode cL_law 381 = .ok (.iconst 1, 1) := by decide +kernel
theorem dL_law_382 : decode cL_law 382 = .ok (.goto 4, 3) := by decide +kernel
theorem dL_law_385 : decode cL_law 385 = .ok (.iconst 0, 1) := by decide +kernel
theorem dL_law_386 : decode cL_law 386 = .ok (.istore_n 3, 1) := by decide +kernel
theorem dL_law_387 : decode cL_law 387 = .ok (.iinc 4 1, 3) := by decide +kernel
theorem dL_law_390 : decode cL_law 390 = .ok (.goto (-349), 3) := by decide +kernel
theorem dL_law_393 : decode cL_law 393 = .ok (.iload_n 3, 1) := by decide +kernel
theorem dL_law_394 : decode cL_law 394 = .ok (.ireturn, 1) := by decide +kernel
