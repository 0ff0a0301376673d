theorem dX11_sum_32 : decode cX11_sum 32 = .ok (.ireturn, 1) := by decide +kernel
theorem dX11_change_0 : decode cX11_change 0 = .ok (.aload_n 0, 1) := by decide +kernel
theorem dX11_change_1 : decode cX11_change 1 = .ok (.iload_n 1, 1) := by decide +kernel
theorem dX11_change_2 : decode cX11_change 2 = .ok (.invokevirtual 56, 3) := by decide +kernel
theorem dX11_change_5 : decode cX11_change 5 = .ok (.astore 4, 2) := by decide +kernel
theorem dX11_change_7 : decode cX11_change 7 = .ok (.iload_n 2, 1) := by decide +kernel
theorem dX11_change_8 : decode cX11_change 8 = .ok (.iconst 0, 1) := by decide +kernel
theorem dX11_change_9 : decode cX11_change 9 = .ok (.iconst 5, 1) := by decide +kernel
theorem dX11_change_10 : decode cX11_change 10 = .ok (.invokestatic 45, 3) := by decide +kernel
theorem dX11_change_13 : decode cX11_change 13 = .ok (.iload_n 3, 1) := by decide +kernel
theorem dX11_change_14 : decode cX11_change 14 = .ok (.iconst 0, 1) := by decide +kernel
theorem dX11_change_15 : decode cX11_change 15 = .ok (.iload_n 2, 1) := by decide +kernel
theorem dX11_change_16 : decode cX11_change 16 = .ok (.aload 4, 2) := by decide +kernel
theorem dX11_change_18 : decode cX11_change 18 = .ok (.invokevirtual 94, 3) := by decide +kernel
theorem dX11_change_21 : decode cX11_change 21 = .ok (.invokestatic 101, 3) := by decide +kernel
theorem dX11_change_24 : decode cX11_change 24 = .ok (.invokestatic 45, 3) := by decide +kernel
theorem dX11_change_27 : decode cX11_change 27 = .ok (.iload_n 2, 1) := by decide +kernel
theorem dX11_change_28 : decode cX11_change 28 = .ok (.iconst 2, 1) := by decide +kernel
theorem dX11_change_29 : decode cX11_change 29 = .ok (.if_icmp .eq 15, 3) := by decide +kernel
theorem dX11_change_32 : decode cX11_change 32 = .ok (.aload 4, 2) := by decide +kernel
theorem dX11_change_34 : decode cX11_change 34 = .ok (.aload_n 0, 1) := by decide +kernel
theorem dX11_change_35 : decode cX11_change 35 = .ok (.getfield 16, 3) := by decide +kernel
theorem dX11_change_38 : decode cX11_change 38 = .ok (.iload_n 2, 1) := by decide +kernel
theorem dX11_change_39 : decode cX11_change 39 = .ok (.iload_n 3, 1) := by decide +kernel
theorem dX11_change_40 : decode cX11_change 40 = .ok (.invokestatic 106, 3) := by decide +kernel
theorem dX11_change_43 : decode cX11_change 43 = .ok (.ireturn, 1) := by decide +kernel
theorem dX11_change_44 : decode cX11_change 44 = .ok (.aload 4, 2) := by decide +kernel
theorem dX11_change_46 : decode cX11_change 46 = .ok (.iload_n 3, 1) := by decide +kernel
theorem dX11_change_47 : decode cX11_change 47 = .ok (.invokestatic 110, 3) := by decide +kernel
theorem dX11_change_50 : decode cX11_change 50 = .ok (.invokestatic 80, 3) := by decide +kernel
theorem dX11_change_53 : decode cX11_change 53 = .ok (.aload 4, 2) := by decide +kernel
theorem dX11_change_55 : decode cX11_change 55 = .ok (.iload_n 3, 1) := by decide +kernel
theorem dX11_change_56 : decode cX11_change 56 = .ok (.invokestatic 114, 3) := by decide +kernel
theorem dX11_change_59 : decode cX11_change 59 = .ok (.ireturn, 1) := by decide +kernel
theorem dX11_same_0 : decode cX11_same 0 = .ok (.aload_n 0, 1) := by decide +kernel
theorem dX11_same_1 : decode cX11_same 1 = .ok (.iload_n 1, 1) := by decide +kernel
theorem dX11_same_2 : decode cX11_same 2 = .ok (.invokevirtual 56, 3) := by decide +kernel
theorem dX11_same_5 : decode cX11_same 5 = .ok (.astore_n 3, 1) := by decide +kernel
theorem dX11_same_6 : decode cX11_same 6 = .ok (.aload_n 3, 1) := by decide +kernel
theorem dX11_same_7 : decode cX11_same 7 = .ok (.aload_n 0, 1) := by decide +kernel
theorem dX11_same_8 : decode cX11_same 8 = .ok (.iload_n 2, 1) := by decide +kernel
theorem dX11_same_9 : decode cX11_same 9 = .ok (.invokevirtual 56, 3) := by decide +kernel
theorem dX11_same_12 : decode cX11_same 12 = .ok (.invokestatic 118, 3) := by decide +kernel
theorem dX11_same_15 : decode cX11_same 15 = .ok (.ireturn, 1) := by decide +kernel
theorem dX11_least_0 : decode cX11_least 0 = .ok (.aload_n 0, 1) := by decide +kernel
theorem dX11_least_1 : decode cX11_least 1 = .ok (.iload_n 1, 1) := by decide +kernel
theorem dX11_least_2 : decode cX11_least 2 = .ok (.invokevirtual 56, 3) := by decide +kernel
theorem dX11_least_5 : decode cX11_least 5 = .ok (.astore 4, 2) := by decide +kernel
theorem dX11_least_7 : decode cX11_least 7 = .ok (.aload 4, 2) := by decide +kernel
theorem dX11_least_9 : decode cX11_least 9 = .ok (.iload_n 2, 1) := by decide +kernel
theorem dX11_least_10 : decode cX11_least 10 = .ok (.iload_n 3, 1) := by decide +kernel
theorem dX11_least_11 : decode cX11_least 11 = .ok (.invokestatic 60, 3) := by decide +kernel
theorem dX11_least_14 : decode cX11_least 14 = .ok (.aload 4, 2) := by decide +kernel
theorem dX11_least_16 : decode cX11_least 16 = .ok (.aload 4, 2) := by decide +kernel
theorem dX11_least_18 : decode cX11_least 18 = .ok (.invokestatic 124, 3) := by decide +kernel
theorem dX11_least_21 : decode cX11_least 21 = .ok (.aload 4, 2) := by decide +kernel
theorem dX11_least_23 : decode cX11_least 23 = .ok (.iload_n 2, 1) := by decide +kernel
theorem dX11_least_24 : decode cX11_least 24 = .ok (.iload_n 3, 1) := by decide +kernel
theorem dX11_least_25 : decode cX11_least 25 = .ok (.invokevirtual 64, 3) := by decide +kernel
theorem dX11_least_28 : decode cX11_least 28 = .ok (.invokestatic 127, 3) := by decide +kernel
theorem dX11_least_31 : decode cX11_least 31 = .ok (.ireturn, 1) := by decide +kernel
theorem dX11_kin_0 : decode cX11_kin 0 = .ok (.aload_n 0, 1) := by decide +kernel
theorem dX11_kin_1 : decode cX11_kin 1 = .ok (.iload_n 1, 1) := by decide +kernel
theorem dX11_kin_2 : decode cX11_kin 2 = .ok (.invokevirtual 56, 3) := by decide +kernel
theorem dX11_kin_5 : decode cX11_kin 5 = .ok (.invokestatic 131, 3) := by decide +kernel
theorem dX11_kin_8 : decode cX11_kin 8 = .ok (.ireturn, 1) := by decide +kernel
theorem dX11_classes_0 : decode cX11_classes 0 = .ok (.iconst 0, 1) := by decide +kernel
theorem dX11_classes_1 : decode cX11_classes 1 = .ok (.istore_n 1, 1) := by decide +kernel
theorem dX11_classes_2 : decode cX11_classes 2 = .ok (.iconst 0, 1) := by decide +kernel
theorem dX11_classes_3 : decode cX11_classes 3 = .ok (.istore_n 2, 1) := by decide +kernel
theorem dX11_classes_4 : decode cX11_classes 4 = .ok (.iload_n 2, 1) := by decide +kernel
theorem dX11_classes_5 : decode cX11_classes 5 = .ok (.aload_n 0, 1) := by decide +kernel
theorem dX11_classes_6 : decode cX11_classes 6 = .ok (.getfield 41, 3) := by decide +kernel
theorem dX11_classes_9 : decode cX11_classes 9 = .ok (.if_icmp .ge 20, 3) := by decide +kernel
theorem dX11_classes_12 : decode cX11_classes 12 = .ok (.aload_n 0, 1) := by decide +kernel
theorem dX11_classes_13 : decode cX11_classes 13 = .ok (.iload_n 2, 1) := by decide +kernel
theorem dX11_classes_14 : decode cX11_classes 14 = .ok (.invokevirtual 134, 3) := by decide +kernel
theorem dX11_classes_17 : decode cX11_classes 17 = .ok (.ifCond .ne 6, 3) := by decide +kernel
theorem dX11_classes_20 : decode cX11_classes 20 = .ok (.iinc 1 1, 3) := by decide +kernel
theorem dX11_classes_23 : decode cX11_classes 23 = .ok (.iinc 2 1, 3) := by decide +kernel
theorem dX11_classes_26 : decode cX11_classes 26 = .ok (.goto (-22), 3) := by decide +kernel
theorem dX11_classes_29 : decode cX11_classes 29 = .ok (.iload_n 1, 1) := by decide +kernel
theorem dX11_classes_30 : decode cX11_classes 30 = .ok (.ireturn, 1) := by decide +kernel
theorem dX11_completions_0 : decode cX11_completions 0 = .ok (.aload_n 0, 1) := by decide +kernel
theorem dX11_completions_1 : decode cX11_completions 1 = .ok (.iload_n 1, 1) := by decide +kernel
theorem dX11_completions_2 : decode cX11_completions 2 = .ok (.invokevirtual 56, 3) := by decide +kernel
theorem dX11_completions_5 : decode cX11_completions 5 = .ok (.astore_n 2, 1) := by decide +kernel
theorem dX11_completions_6 : decode cX11_completions 6 = .ok (.aload_n 2, 1) := by decide +kernel
theorem dX11_completions_7 : decode cX11_completions 7 = .ok (.invokestatic 138, 3) := by decide +kernel
theorem dX11_completions_10 : decode cX11_completions 10 = .ok (.invokestatic 80, 3) := by decide +kernel
theorem dX11_completions_13 : decode cX11_completions 13 = .ok (.aload_n 0, 1) := by decide +kernel
theorem dX11_completions_14 : decode cX11_completions 14 = .ok (.getfield 23, 3) := by decide +kernel
theorem dX11_completions_17 : decode cX11_completions 17 = .ok (.aload_n 2, 1) := by decide +kernel
theorem dX11_completions_18 : decode cX11_completions 18 = .ok (.invokevirtual 142, 3) := by decide +kernel
theorem dX11_completions_21 : decode cX11_completions 21 = .ok (.aload_n 0, 1) := by decide +kernel
theorem dX11_completions_22 : decode cX11_completions 22 = .ok (.getfield 23, 3) := by decide +kernel
theorem dX11_completions_25 : decode cX11_completions 25 = .ok (.invokevirtual 146, 3) := by decide +kernel
theorem dX11_completions_28 : decode cX11_completions 28 = .ok (.ireturn, 1) := by decide +kernel
theorem dX11_completion_0 : decode cX11_completion 0 = .ok (.aload_n 0, 1) := by decide +kernel
theorem dX11_completion_1 : decode cX11_completion 1 = .ok (.iload_n 1, 1) := by decide +kernel
theorem dX11_completion_2 : decode cX11_completion 2 = .ok (.invokevirtual 56, 3) := by decide +kernel
theorem dX11_completion_5 : decode cX11_completion 5 = .ok (.astore 5, 2) := by decide +kernel
theorem dX11_completion_7 : decode cX11_completion 7 = .ok (.aload 5, 2) := by decide +kernel
theorem dX11_completion_9 : decode cX11_completion 9 = .ok (.iload_n 3, 1) := by decide +kernel
theorem dX11_completion_10 : decode cX11_completion 10 = .ok (.iload 4, 2) := by decide +kernel
theorem dX11_completion_12 : decode cX11_completion 12 = .ok (.invokestatic 60, 3) := by decide +kernel
theorem dX11_completion_15 : decode cX11_completion 15 = .ok (.iload_n 2, 1) := by decide +kernel
theorem dX11_completion_16 : decode cX11_completion 16 = .ok (.ifCond .ge 13, 3) := by decide +kernel
theorem dX11_completion_19 : decode cX11_completion 19 = .ok (.new 149, 3) := by decide +kernel
theorem dX11_completion_22 : decode cX11_completion 22 = .ok (.dup, 1) := by decide +kernel
theorem dX11_completion_23 : decode cX11_completion 23 = .ok (.ldc 151, 2) := by decide +kernel
theorem dX11_completion_25 : decode cX11_completion 25 = .ok (.invokespecial 153, 3) := by decide +kernel
theorem dX11_completion_28 : decode cX11_completion 28 = .ok (.athrow, 1) := by decide +kernel
theorem dX11_completion_29 : decode cX11_completion 29 = .ok (.aload 5, 2) := by decide +kernel
theorem dX11_completion_31 : decode cX11_completion 31 = .ok (.invokestatic 138, 3) := by decide +kernel
theorem dX11_completion_34 : decode cX11_completion 34 = .ok (.invokestatic 80, 3) := by decide +kernel
theorem dX11_completion_37 : decode cX11_completion 37 = .ok (.aload_n 0, 1) := by decide +kernel
theorem dX11_completion_38 : decode cX11_completion 38 = .ok (.getfield 23, 3) := by decide +kernel
theorem dX11_completion_41 : decode cX11_completion 41 = .ok (.aload 5, 2) := by decide +kernel
theorem dX11_completion_43 : decode cX11_completion 43 = .ok (.invokevirtual 142, 3) := by decide +kernel
theorem dX11_completion_46 : decode cX11_completion 46 = .ok (.aload_n 0, 1) := by decide +kernel
theorem dX11_completion_47 : decode cX11_completion 47 = .ok (.getfield 23, 3) := by decide +kernel
theorem dX11_completion_50 : decode cX11_completion 50 = .ok (.iload_n 2, 1) := by decide +kernel
theorem dX11_completion_51 : decode cX11_completion 51 = .ok (.aload 5, 2) := by decide +kernel
theorem dX11_completion_53 : decode cX11_completion 53 = .ok (.iload_n 3, 1) := by decide +kernel
theorem dX11_completion_54 : decode cX11_completion 54 = .ok (.iload 4, 2) := by decide +kernel
theorem dX11_completion_56 : decode cX11_completion 56 = .ok (.invokevirtual 64, 3) := by decide +kernel
theorem dX11_completion_59 : decode cX11_completion 59 = .ok (.invokevirtual 156, 3) := by decide +kernel
theorem dX11_completion_62 : decode cX11_completion 62 = .ok (.ireturn, 1) := by decide +kernel
theorem dX11_estimate_0 : decode cX11_estimate 0 = .ok (.aload_n 0, 1) := by decide +kernel
theorem dX11_estimate_1 : decode cX11_estimate 1 = .ok (.iload_n 1, 1) := by decide +kernel
theorem dX11_estimate_2 : decode cX11_estimate 2 = .ok (.invokevirtual 56, 3) := by decide +kernel
theorem dX11_estimate_5 : decode cX11_estimate 5 = .ok (.astore_n 3, 1) := by decide +kernel
theorem dX11_estimate_6 : decode cX11_estimate 6 = .ok (.iload_n 2, 1) := by decide +kernel
theorem dX11_estimate_7 : decode cX11_estimate 7 = .ok (.iconst 0, 1) := by decide +kernel
theorem dX11_estimate_8 : decode cX11_estimate 8 = .ok (.ldc 158, 2) := by decide +kernel
theorem dX11_estimate_10 : decode cX11_estimate 10 = .ok (.invokestatic 45, 3) := by decide +kernel
theorem dX11_estimate_13 : decode cX11_estimate 13 = .ok (.aload_n 3, 1) := by decide +kernel
theorem dX11_estimate_14 : decode cX11_estimate 14 = .ok (.invokevirtual 94, 3) := by decide +kernel
theorem dX11_estimate_17 : decode cX11_estimate 17 = .ok (.iconst 4, 1) := by decide +kernel
theorem dX11_estimate_18 : decode cX11_estimate 18 = .ok (.if_icmp .gt 7, 3) := by decide +kernel
theorem dX11_estimate_21 : decode cX11_estimate 21 = .ok (.iconst 1, 1) := by decide +kernel
theorem dX11_estimate_22 : decode cX11_estimate 22 = .ok (.goto 4, 3) := by decide +kernel
theorem dX11_estimate_25 : decode cX11_estimate 25 = .ok (.iconst 0, 1) := by decide +kernel
theorem dX11_estimate_26 : decode cX11_estimate 26 = .ok (.invokestatic 80, 3) := by decide +kernel
theorem dX11_estimate_29 : decode cX11_estimate 29 = .ok (.aload_n 0, 1) := by decide +kernel
theorem dX11_estimate_30 : decode cX11_estimate 30 = .ok (.getfield 23, 3) := by decide +kernel
theorem dX11_estimate_33 : decode cX11_estimate 33 = .ok (.aload_n 3, 1) := by decide +kernel
theorem dX11_estimate_34 : decode cX11_estimate 34 = .ok (.invokevirtual 142, 3) := by decide +kernel
theorem dX11_estimate_37 : decode cX11_estimate 37 = .ok (.aload_n 0, 1) := by decide +kernel
theorem dX11_estimate_38 : decode cX11_estimate 38 = .ok (.getfield 23, 3) := by decide +kernel
theorem dX11_estimate_41 : decode cX11_estimate 41 = .ok (.iload_n 2, 1) := by decide +kernel
theorem dX11_estimate_42 : decode cX11_estimate 42 = .ok (.invokevirtual 159, 3) := by decide +kernel
theorem dX11_estimate_45 : decode cX11_estimate 45 = .ok (.lreturn, 1) := by decide +kernel
theorem dX11_givens_0 : decode cX11_givens 0 = .ok (.aload_n 0, 1) := by decide +kernel
theorem dX11_givens_1 : decode cX11_givens 1 = .ok (.iload_n 1, 1) := by decide +kernel
theorem dX11_givens_2 : decode cX11_givens 2 = .ok (.invokevirtual 56, 3) := by decide +kernel
theorem dX11_givens_5 : decode cX11_givens 5 = .ok (.astore_n 3, 1) := by decide +kernel
theorem dX11_givens_6 : decode cX11_givens 6 = .ok (.aload_n 3, 1) := by decide +kernel
theorem dX11_givens_7 : decode cX11_givens 7 = .ok (.invokevirtual 94, 3) := by decide +kernel
theorem dX11_givens_10 : decode cX11_givens 10 = .ok (.iconst 3, 1) := by decide +kernel
theorem dX11_givens_11 : decode cX11_givens 11 = .ok (.if_icmp .gt 21, 3) := by decide +kernel
theorem dX11_givens_14 : decode cX11_givens 14 = .ok (.aload_n 3, 1) := by decide +kernel
theorem dX11_givens_15 : decode cX11_givens 15 = .ok (.invokestatic 163, 3) := by decide +kernel
theorem dX11_givens_18 : decode cX11_givens 18 = .ok (.ifCond .eq 14, 3) := by decide +kernel
theorem dX11_givens_21 : decode cX11_givens 21 = .ok (.aload_n 3, 1) := by decide +kernel
theorem dX11_givens_22 : decode cX11_givens 22 = .ok (.invokestatic 166, 3) := by decide +kernel
theorem dX11_givens_25 : decode cX11_givens 25 = .ok (.ifCond .eq 7, 3) := by decide +kernel
theorem dX11_givens_28 : decode cX11_givens 28 = .ok (.iconst 1, 1) := by decide +kernel
theorem dX11_givens_29 : decode cX11_givens 29 = .ok (.goto 4, 3) := by decide +kernel
theorem dX11_givens_32 : decode cX11_givens 32 = .ok (.iconst 0, 1) := by decide +kernel
theorem dX11_givens_33 : decode cX11_givens 33 = .ok (.invokestatic 80, 3) := by decide +kernel
theorem dX11_givens_36 : decode cX11_givens 36 = .ok (.aload_n 0, 1) := by decide +kernel
theorem dX11_givens_37 : decode cX11_givens 37 = .ok (.getfield 30, 3) := by decide +kernel
theorem dX11_givens_40 : decode cX11_givens 40 = .ok (.aload_n 3, 1) := by decide +kernel
theorem dX11_givens_41 : decode cX11_givens 41 = .ok (.invokevirtual 169, 3) := by decide +kernel
theorem dX11_givens_44 : decode cX11_givens 44 = .ok (.istore 4, 2) := by decide +kernel
theorem dX11_givens_46 : decode cX11_givens 46 = .ok (.iload_n 2, 1) := by decide +kernel
theorem dX11_givens_47 : decode cX11_givens 47 = .ok (.ifCond .eq 8, 3) := by decide +kernel
theorem dX11_givens_50 : decode cX11_givens 50 = .ok (.iload 4, 2) := by decide +kernel
theorem dX11_givens_52 : decode cX11_givens 52 = .ok (.goto 8, 3) := by decide +kernel
theorem dX11_givens_55 : decode cX11_givens 55 = .ok (.iload 4, 2) := by decide +kernel
theorem dX11_givens_57 : decode cX11_givens 57 = .ok (.invokestatic 172, 3) := by decide +kernel
theorem dX11_givens_60 : decode cX11_givens 60 = .ok (.ireturn, 1) := by decide +kernel
theorem dX11_slip_0 : decode cX11_slip 0 = .ok (.aload_n 0, 1) := by decide +kernel
theorem dX11_slip_1 : decode cX11_slip 1 = .ok (.iload_n 1, 1) := by decide +kernel
theorem dX11_slip_2 : decode cX11_slip 2 = .ok (.invokevirtual 56, 3) := by decide +kernel
theorem dX11_slip_5 : decode cX11_slip 5 = .ok (.astore_n 3, 1) := by decide +kernel
theorem dX11_slip_6 : decode cX11_slip 6 = .ok (.iload_n 2, 1) := by decide +kernel
theorem dX11_slip_7 : decode cX11_slip 7 = .ok (.iconst 0, 1) := by decide +kernel
theorem dX11_slip_8 : decode cX11_slip 8 = .ok (.iconst 2, 1) := by decide +kernel
theorem dX11_slip_9 : decode cX11_slip 9 = .ok (.invokestatic 45, 3) := by decide +kernel
theorem dX11_slip_12 : decode cX11_slip 12 = .ok (.aload_n 3, 1) := by decide +kernel
theorem dX11_slip_13 : decode cX11_slip 13 = .ok (.iload_n 2, 1) := by decide +kernel
theorem dX11_slip_14 : decode cX11_slip 14 = .ok (.invokestatic 179, 3) := by decide +kernel
theorem dX11_slip_17 : decode cX11_slip 17 = .ok (.ireturn, 1) := by decide +kernel
theorem dX11_orthogonal_0 : decode cX11_orthogonal 0 = .ok (.aload_n 0, 1) := by decide +kernel
theorem dX11_orthogonal_1 : decode cX11_orthogonal 1 = .ok (.iload_n 1, 1) := by decide +kernel
theorem dX11_orthogonal_2 : decode cX11_orthogonal 2 = .ok (.invokevirtual 56, 3) := by decide +kernel
theorem dX11_orthogonal_5 : decode cX11_orthogonal 5 = .ok (.astore_n 3, 1) := by decide +kernel
theorem dX11_orthogonal_6 : decode cX11_orthogonal 6 = .ok (.aload_n 0, 1) := by decide +kernel
theorem dX11_orthogonal_7 : decode cX11_orthogonal 7 = .ok (.iload_n 2, 1) := by decide +kernel
theorem dX11_orthogonal_8 : decode cX11_orthogonal 8 = .ok (.invokevirtual 56, 3) := by decide +kernel
theorem dX11_orthogonal_11 : decode cX11_orthogonal 11 = .ok (.astore 4, 2) := by decide +kernel
theorem dX11_orthogonal_13 : decode cX11_orthogonal 13 = .ok (.aload_n 3, 1) := by decide +kernel
theorem dX11_orthogonal_14 : decode cX11_orthogonal 14 = .ok (.invokevirtual 94, 3) := by decide +kernel
theorem dX11_orthogonal_17 : decode cX11_orthogonal 17 = .ok (.aload 4, 2) := by decide +kernel
theorem dX11_orthogonal_19 : decode cX11_orthogonal 19 = .ok (.invokevirtual 94, 3) := by decide +kernel
theorem dX11_orthogonal_22 : decode cX11_orthogonal 22 = .ok (.if_icmp .ne 7, 3) := by decide +kernel
theorem dX11_orthogonal_25 : decode cX11_orthogonal 25 = .ok (.iconst 1, 1) := by decide +kernel
theorem dX11_orthogonal_26 : decode cX11_orthogonal 26 = .ok (.goto 4, 3) := by decide +kernel
theorem dX11_orthogonal_29 : decode cX11_orthogonal 29 = .ok (.iconst 0, 1) := by decide +kernel
theorem dX11_orthogonal_30 : decode cX11_orthogonal 30 = .ok (.invokestatic 80, 3) := by decide +kernel
theorem dX11_orthogonal_33 : decode cX11_orthogonal 33 = .ok (.aload_n 3, 1) := by decide +kernel
theorem dX11_orthogonal_34 : decode cX11_orthogonal 34 = .ok (.aload 4, 2) := by decide +kernel
theorem dX11_orthogonal_36 : decode cX11_orthogonal 36 = .ok (.invokestatic 182, 3) := by decide +kernel
theorem dX11_orthogonal_39 : decode cX11_orthogonal 39 = .ok (.ireturn, 1) := by decide +kernel
theorem dX11_stack_0 : decode cX11_stack 0 = .ok (.aload_n 0, 1) := by decide +kernel
theorem dX11_stack_1 : decode cX11_stack 1 = .ok (.iload_n 1, 1) := by decide +kernel
theorem dX11_stack_2 : decode cX11_stack 2 = .ok (.invokevirtual 56, 3) := by decide +kernel
theorem dX11_stack_5 : decode cX11_stack 5 = .ok (.astore_n 3, 1) := by decide +kernel
theorem dX11_stack_6 : decode cX11_stack 6 = .ok (.aload_n 0, 1) := by decide +kernel
theorem dX11_stack_7 : decode cX11_stack 7 = .ok (.iload_n 2, 1) := by decide +kernel
theorem dX11_stack_8 : decode cX11_stack 8 = .ok (.invokevirtual 56, 3) := by decide +kernel
theorem dX11_stack_11 : decode cX11_stack 11 = .ok (.astore 4, 2) := by decide +kernel
theorem dX11_stack_13 : decode cX11_stack 13 = .ok (.aload_n 3, 1) := by decide +kernel
theorem dX11_stack_14 : decode cX11_stack 14 = .ok (.aload 4, 2) := by decide +kernel
theorem dX11_stack_16 : decode cX11_stack 16 = .ok (.invokestatic 187, 3) := by decide +kernel
theorem dX11_stack_19 : decode cX11_stack 19 = .ok (.invokestatic 80, 3) := by decide +kernel
theorem dX11_stack_22 : decode cX11_stack 22 = .ok (.aload_n 0, 1) := by decide +kernel
theorem dX11_stack_23 : decode cX11_stack 23 = .ok (.invokevirtual 49, 3) := by decide +kernel
theorem dX11_stack_26 : decode cX11_stack 26 = .ok (.aload_n 0, 1) := by decide +kernel
theorem dX11_stack_27 : decode cX11_stack 27 = .ok (.aload_n 3, 1) := by decide +kernel
theorem dX11_stack_28 : decode cX11_stack 28 = .ok (.invokevirtual 94, 3) := by decide +kernel
theorem dX11_stack_31 : decode cX11_stack 31 = .ok (.invokevirtual 52, 3) := by decide +kernel
theorem dX11_stack_34 : decode cX11_stack 34 = .ok (.istore 5, 2) := by decide +kernel
theorem dX11_stack_36 : decode cX11_stack 36 = .ok (.aload_n 0, 1) := by decide +kernel
theorem dX11_stack_37 : decode cX11_stack 37 = .ok (.iload 5, 2) := by decide +kernel
theorem dX11_stack_39 : decode cX11_stack 39 = .ok (.invokevirtual 56, 3) := by decide +kernel
theorem dX11_stack_42 : decode cX11_stack 42 = .ok (.aload_n 3, 1) := by decide +kernel
theorem dX11_stack_43 : decode cX11_stack 43 = .ok (.aload 4, 2) := by decide +kernel
theorem dX11_stack_45 : decode cX11_stack 45 = .ok (.invokestatic 190, 3) := by decide +kernel
theorem dX11_stack_48 : decode cX11_stack 48 = .ok (.iload 5, 2) := by decide +kernel
theorem dX11_stack_50 : decode cX11_stack 50 = .ok (.ireturn, 1) := by decide +kernel
theorem dX11_product_0 : decode cX11_product 0 = .ok (.aload_n 0, 1) := by decide +kernel
theorem dX11_product_1 : decode cX11_product 1 = .ok (.iload_n 1, 1) := by decide +kernel
theorem dX11_product_2 : decode cX11_product 2 = .ok (.invokevirtual 56, 3) := by decide +kernel
theorem dX11_product_5 : decode cX11_product 5 = .ok (.astore_n 3, 1) := by decide +kernel
theorem dX11_product_6 : decode cX11_product 6 = .ok (.aload_n 0, 1) := by decide +kernel
theorem dX11_product_7 : decode cX11_product 7 = .ok (.iload_n 2, 1) := by decide +kernel
theorem dX11_product_8 : decode cX11_product 8 = .ok (.invokevirtual 56, 3) := by decide +kernel
theorem dX11_product_11 : decode cX11_product 11 = .ok (.astore 4, 2) := by decide +kernel
theorem dX11_product_13 : decode cX11_product 13 = .ok (.aload_n 3, 1) := by decide +kernel
theorem dX11_product_14 : decode cX11_product 14 = .ok (.aload 4, 2) := by decide +kernel
theorem dX11_product_16 : decode cX11_product 16 = .ok (.invokestatic 194, 3) := by decide +kernel
theorem dX11_product_19 : decode cX11_product 19 = .ok (.invokestatic 80, 3) := by decide +kernel
theorem dX11_product_22 : decode cX11_product 22 = .ok (.aload_n 0, 1) := by decide +kernel
theorem dX11_product_23 : decode cX11_product 23 = .ok (.invokevirtual 49, 3) := by decide +kernel
theorem dX11_product_26 : decode cX11_product 26 = .ok (.aload_n 0, 1) := by decide +kernel
theorem dX11_product_27 : decode cX11_product 27 = .ok (.aload_n 3, 1) := by decide +kernel
theorem dX11_product_28 : decode cX11_product 28 = .ok (.invokevirtual 94, 3) := by decide +kernel
theorem dX11_product_31 : decode cX11_product 31 = .ok (.aload 4, 2) := by decide +kernel
theorem dX11_product_33 : decode cX11_product 33 = .ok (.invokevirtual 94, 3) := by decide +kernel
theorem dX11_product_36 : decode cX11_product 36 = .ok (.imul, 1) := by decide +kernel
theorem dX11_product_37 : decode cX11_product 37 = .ok (.invokevirtual 52, 3) := by decide +kernel
theorem dX11_product_40 : decode cX11_product 40 = .ok (.istore 5, 2) := by decide +kernel
theorem dX11_product_42 : decode cX11_product 42 = .ok (.aload_n 0, 1) := by decide +kernel
theorem dX11_product_43 : decode cX11_product 43 = .ok (.iload 5, 2) := by decide +kernel
theorem dX11_product_45 : decode cX11_product 45 = .ok (.invokevirtual 56, 3) := by decide +kernel
theorem dX11_product_48 : decode cX11_product 48 = .ok (.aload_n 3, 1) := by decide +kernel
theorem dX11_product_49 : decode cX11_product 49 = .ok (.aload 4, 2) := by decide +kernel
theorem dX11_product_51 : decode cX11_product 51 = .ok (.invokestatic 197, 3) := by decide +kernel
theorem dX11_product_54 : decode cX11_product 54 = .ok (.iload 5, 2) := by decide +kernel
theorem dX11_product_56 : decode cX11_product 56 = .ok (.ireturn, 1) := by decide +kernel
theorem dX11_crossings_0 : decode cX11_crossings 0 = .ok (.aload_n 0, 1) := by decide +kernel
theorem dX11_crossings_1 : decode cX11_crossings 1 = .ok (.iload_n 1, 1) := by decide +kernel
theorem dX11_crossings_2 : decode cX11_crossings 2 = .ok (.invokevirtual 56, 3) := by decide +kernel
theorem dX11_crossings_5 : decode cX11_crossings 5 = .ok (.astore_n 3, 1) := by decide +kernel
theorem dX11_crossings_6 : decode cX11_crossings 6 = .ok (.iload_n 2, 1) := by decide +kernel
theorem dX11_crossings_7 : decode cX11_crossings 7 = .ok (.iconst 0, 1) := by decide +kernel
theorem dX11_crossings_8 : decode cX11_crossings 8 = .ok (.sipush 8991, 3) := by decide +kernel
theorem dX11_crossings_11 : decode cX11_crossings 11 = .ok (.invokestatic 45, 3) := by decide +kernel
theorem dX11_crossings_14 : decode cX11_crossings 14 = .ok (.aload_n 3, 1) := by decide +kernel
theorem dX11_crossings_15 : decode cX11_crossings 15 = .ok (.invokevirtual 94, 3) := by decide +kernel
theorem dX11_crossings_18 : decode cX11_crossings 18 = .ok (.bipush 6, 2) := by decide +kernel
theorem dX11_crossings_20 : decode cX11_crossings 20 = .ok (.if_icmp .gt 7, 3) := by decide +kernel
theorem dX11_crossings_23 : decode cX11_crossings 23 = .ok (.iconst 1, 1) := by decide +kernel
theorem dX11_crossings_24 : decode cX11_crossings 24 = .ok (.goto 4, 3) := by decide +kernel
theorem dX11_crossings_27 : decode cX11_crossings 27 = .ok (.iconst 0, 1) := by decide +kernel
theorem dX11_crossings_28 : decode cX11_crossings 28 = .ok (.invokestatic 80, 3) := by decide +kernel
theorem dX11_crossings_31 : decode cX11_crossings 31 = .ok (.aload_n 3, 1) := by decide +kernel
theorem dX11_crossings_32 : decode cX11_crossings 32 = .ok (.iconst 0, 1) := by decide +kernel
theorem dX11_crossings_33 : decode cX11_crossings 33 = .ok (.iconst 0, 1) := by decide +kernel
theorem dX11_crossings_34 : decode cX11_crossings 34 = .ok (.iload_n 2, 1) := by decide +kernel
theorem dX11_crossings_35 : decode cX11_crossings 35 = .ok (.invokestatic 200, 3) := by decide +kernel
theorem dX11_crossings_38 : decode cX11_crossings 38 = .ok (.ireturn, 1) := by decide +kernel
theorem dX11_dimension_0 : decode cX11_dimension 0 = .ok (.iload_n 1, 1) := by decide +kernel
theorem dX11_dimension_1 : decode cX11_dimension 1 = .ok (.iconst 1, 1) := by decide +kernel
theorem dX11_dimension_2 : decode cX11_dimension 2 = .ok (.bipush 6, 2) := by decide +kernel
theorem dX11_dimension_4 : decode cX11_dimension 4 = .ok (.invokestatic 45, 3) := by decide +kernel
theorem dX11_dimension_7 : decode cX11_dimension 7 = .ok (.iload_n 2, 1) := by decide +kernel
theorem dX11_dimension_8 : decode cX11_dimension 8 = .ok (.bipush (-63), 2) := by decide +kernel
theorem dX11_dimension_10 : decode cX11_dimension 10 = .ok (.iand, 1) := by decide +kernel
theorem dX11_dimension_11 : decode cX11_dimension 11 = .ok (.ifCond .eq 13, 3) := by decide +kernel
theorem dX11_dimension_14 : decode cX11_dimension 14 = .ok (.new 149, 3) := by decide +kernel
theorem dX11_dimension_17 : decode cX11_dimension 17 = .ok (.dup, 1) := by decide +kernel
theorem dX11_dimension_18 : decode cX11_dimension 18 = .ok (.ldc 204, 2) := by decide +kernel
theorem dX11_dimension_20 : decode cX11_dimension 20 = .ok (.invokespecial 153, 3) := by decide +kernel
theorem dX11_dimension_23 : decode cX11_dimension 23 = .ok (.athrow, 1) := by decide +kernel
theorem dX11_dimension_24 : decode cX11_dimension 24 = .ok (.aload_n 0, 1) := by decide +kernel
theorem dX11_dimension_25 : decode cX11_dimension 25 = .ok (.getfield 37, 3) := by decide +kernel
theorem dX11_dimension_28 : decode cX11_dimension 28 = .ok (.iload_n 1, 1) := by decide +kernel
theorem dX11_dimension_29 : decode cX11_dimension 29 = .ok (.iload_n 2, 1) := by decide +kernel
theorem dX11_dimension_30 : decode cX11_dimension 30 = .ok (.invokevirtual 206, 3) := by decide +kernel
theorem dX11_dimension_33 : decode cX11_dimension 33 = .ok (.ireturn, 1) := by decide +kernel
theorem dX11_requireRange_0 : decode cX11_requireRange 0 = .ok (.iload_n 0, 1) := by decide +kernel
theorem dX11_requireRange_1 : decode cX11_requireRange 1 = .ok (.iload_n 1, 1) := by decide +kernel
theorem dX11_requireRange_2 : decode cX11_requireRange 2 = .ok (.if_icmp .lt 8, 3) := by decide +kernel
theorem dX11_requireRange_5 : decode cX11_requireRange 5 = .ok (.iload_n 0, 1) := by decide +kernel
theorem dX11_requireRange_6 : decode cX11_requireRange 6 = .ok (.iload_n 2, 1) := by decide +kernel
theorem dX11_requireRange_7 : decode cX11_requireRange 7 = .ok (.if_icmp .le 13, 3) := by decide +kernel
theorem dX11_requireRange_10 : decode cX11_requireRange 10 = .ok (.new 149, 3) := by decide +kernel
theorem dX11_requireRange_13 : decode cX11_requireRange 13 = .ok (.dup, 1) := by decide +kernel
theorem dX11_requireRange_14 : decode cX11_requireRange 14 = .ok (.ldc 209, 2) := by decide +kernel
theorem dX11_requireRange_16 : decode cX11_requireRange 16 = .ok (.invokespecial 153, 3) := by decide +kernel
theorem dX11_requireRange_19 : decode cX11_requireRange 19 = .ok (.athrow, 1) := by decide +kernel
theorem dX11_requireRange_20 : decode cX11_requireRange 20 = .ok (.return_, 1) := by decide +kernel
theorem dX11_requirePoint_0 : decode cX11_requirePoint 0 = .ok (.iload_n 1, 1) := by decide +kernel
theorem dX11_requirePoint_1 : decode cX11_requirePoint 1 = .ok (.ifCond .lt 23, 3) := by decide +kernel
theorem dX11_requirePoint_4 : decode cX11_requirePoint 4 = .ok (.iload_n 1, 1) := by decide +kernel
theorem dX11_requirePoint_5 : decode cX11_requirePoint 5 = .ok (.aload_n 0, 1) := by decide +kernel
theorem dX11_requirePoint_6 : decode cX11_requirePoint 6 = .ok (.invokevirtual 94, 3) := by decide +kernel
theorem dX11_requirePoint_9 : decode cX11_requirePoint 9 = .ok (.if_icmp .ge 15, 3) := by decide +kernel
theorem dX11_requirePoint_12 : decode cX11_requirePoint 12 = .ok (.iload_n 2, 1) := by decide +kernel
theorem dX11_requirePoint_13 : decode cX11_requirePoint 13 = .ok (.ifCond .lt 11, 3) := by decide +kernel
theorem dX11_requirePoint_16 : decode cX11_requirePoint 16 = .ok (.iload_n 2, 1) := by decide +kernel
theorem dX11_requirePoint_17 : decode cX11_requirePoint 17 = .ok (.aload_n 0, 1) := by decide +kernel
theorem dX11_requirePoint_18 : decode cX11_requirePoint 18 = .ok (.invokevirtual 94, 3) := by decide +kernel
theorem dX11_requirePoint_21 : decode cX11_requirePoint 21 = .ok (.if_icmp .lt 13, 3) := by decide +kernel
theorem dX11_requirePoint_24 : decode cX11_requirePoint 24 = .ok (.new 211, 3) := by decide +kernel
theorem dX11_requirePoint_27 : decode cX11_requirePoint 27 = .ok (.dup, 1) := by decide +kernel
theorem dX11_requirePoint_28 : decode cX11_requirePoint 28 = .ok (.ldc 213, 2) := by decide +kernel
theorem dX11_requirePoint_30 : decode cX11_requirePoint 30 = .ok (.invokespecial 215, 3) := by decide +kernel
theorem dX11_requirePoint_33 : decode cX11_requirePoint 33 = .ok (.athrow, 1) := by decide +kernel
theorem dX11_requirePoint_34 : decode cX11_requirePoint 34 = .ok (.return_, 1) := by decide +kernel
theorem dX11_requireState_0 : decode cX11_requireState 0 = .ok (.iload_n 0, 1) := by decide +kernel
theorem dX11_requireState_1 : decode cX11_requireState 1 = .ok (.ifCond .ne 13, 3) := by decide +kernel
theorem dX11_requireState_4 : decode cX11_requireState 4 = .ok (.new 216, 3) := by decide +kernel
theorem dX11_requireState_7 : decode cX11_requireState 7 = .ok (.dup, 1) := by decide +kernel
theorem dX11_requireState_8 : decode cX11_requireState 8 = .ok (.ldc 218, 2) := by decide +kernel
theorem dX11_requireState_10 : decode cX11_requireState 10 = .ok (.invokespecial 220, 3) := by decide +kernel
theorem dX11_requireState_13 : decode cX11_requireState 13 = .ok (.athrow, 1) := by decide +kernel
theorem dX11_requireState_14 : decode cX11_requireState 14 = .ok (.return_, 1) := by decide +kernel
theorem dX11_requireRoom_0 : decode cX11_requireRoom 0 = .ok (.aload_n 0, 1) := by decide +kernel
theorem dX11_requireRoom_1 : decode cX11_requireRoom 1 = .ok (.getfield 41, 3) := by decide +kernel
theorem dX11_requireRoom_4 : decode cX11_requireRoom 4 = .ok (.ifCond .lt 27, 3) := by decide +kernel
theorem dX11_requireRoom_7 : decode cX11_requireRoom 7 = .ok (.aload_n 0, 1) := by decide +kernel
theorem dX11_requireRoom_8 : decode cX11_requireRoom 8 = .ok (.getfield 41, 3) := by decide +kernel
theorem dX11_requireRoom_11 : decode cX11_requireRoom 11 = .ok (.aload_n 0, 1) := by decide +kernel
theorem dX11_requireRoom_12 : decode cX11_requireRoom 12 = .ok (.getfield 11, 3) := by decide +kernel
theorem dX11_requireRoom_15 : decode cX11_requireRoom 15 = .ok (.arraylength, 1) := by decide +kernel
theorem dX11_requireRoom_16 : decode cX11_requireRoom 16 = .ok (.if_icmp .ge 15, 3) := by decide +kernel
theorem dX11_requireRoom_19 : decode cX11_requireRoom 19 = .ok (.aload_n 0, 1) := by decide +kernel
theorem dX11_requireRoom_20 : decode cX11_requireRoom 20 = .ok (.getfield 11, 3) := by decide +kernel
theorem dX11_requireRoom_23 : decode cX11_requireRoom 23 = .ok (.aload_n 0, 1) := by decide +kernel
theorem dX11_requireRoom_24 : decode cX11_requireRoom 24 = .ok (.getfield 41, 3) := by decide +kernel
theorem dX11_requireRoom_27 : decode cX11_requireRoom 27 = .ok (.aaload, 1) := by decide +kernel
theorem dX11_requireRoom_28 : decode cX11_requireRoom 28 = .ok (.ifnonnull 13, 3) := by decide +kernel
theorem dX11_requireRoom_31 : decode cX11_requireRoom 31 = .ok (.new 216, 3) := by decide +kernel
theorem dX11_requireRoom_34 : decode cX11_requireRoom 34 = .ok (.dup, 1) := by decide +kernel
theorem dX11_requireRoom_35 : decode cX11_requireRoom 35 = .ok (.ldc 221, 2) := by decide +kernel
theorem dX11_requireRoom_37 : decode cX11_requireRoom 37 = .ok (.invokespecial 220, 3) := by decide +kernel
theorem dX11_requireRoom_40 : decode cX11_requireRoom 40 = .ok (.athrow, 1) := by decide +kernel
theorem dX11_requireRoom_41 : decode cX11_requireRoom 41 = .ok (.return_, 1) := by decide +kernel
theorem dX11_canBeCompleted_0 : decode cX11_canBeCompleted 0 = .ok (.aload_n 0, 1) := by decide +kernel
theorem dX11_canBeCompleted_1 : decode cX11_canBeCompleted 1 = .ok (.invokevirtual 94, 3) := by decide +kernel
theorem dX11_canBeCompleted_4 : decode cX11_canBeCompleted 4 = .ok (.iconst 4, 1) := by decide +kernel
theorem dX11_canBeCompleted_5 : decode cX11_canBeCompleted 5 = .ok (.if_icmp .gt 17, 3) := by decide +kernel
theorem dX11_canBeCompleted_8 : decode cX11_canBeCompleted 8 = .ok (.aload_n 0, 1) := by decide +kernel
theorem dX11_canBeCompleted_9 : decode cX11_canBeCompleted 9 = .ok (.iconst 0, 1) := by decide +kernel
theorem dX11_canBeCompleted_10 : decode cX11_canBeCompleted 10 = .ok (.invokevirtual 223, 3) := by decide +kernel
theorem dX11_canBeCompleted_13 : decode cX11_canBeCompleted 13 = .ok (.bipush 9, 2) := by decide +kernel
theorem dX11_canBeCompleted_15 : decode cX11_canBeCompleted 15 = .ok (.if_icmp .gt 7, 3) := by decide +kernel
theorem dX11_canBeCompleted_18 : decode cX11_canBeCompleted 18 = .ok (.iconst 1, 1) := by decide +kernel
theorem dX11_canBeCompleted_19 : decode cX11_canBeCompleted 19 = .ok (.goto 4, 3) := by decide +kernel
theorem dX11_canBeCompleted_22 : decode cX11_canBeCompleted 22 = .ok (.iconst 0, 1) := by decide +kernel
theorem dX11_canBeCompleted_23 : decode cX11_canBeCompleted 23 = .ok (.ireturn, 1) := by decide +kernel
theorem dX11_figureOf_0 : decode cX11_figureOf 0 = .ok (.iload_n 1, 1) := by decide +kernel
theorem dX11_figureOf_1 : decode cX11_figureOf 1 = .ok (.ifCond .lt 29, 3) := by decide +kernel
theorem dX11_figureOf_4 : decode cX11_figureOf 4 = .ok (.iload_n 1, 1) := by decide +kernel
theorem dX11_figureOf_5 : decode cX11_figureOf 5 = .ok (.aload_n 0, 1) := by decide +kernel
theorem dX11_figureOf_6 : decode cX11_figureOf 6 = .ok (.getfield 41, 3) := by decide +kernel
theorem dX11_figureOf_9 : decode cX11_figureOf 9 = .ok (.if_icmp .ge 21, 3) := by decide +kernel
theorem dX11_figureOf_12 : decode cX11_figureOf 12 = .ok (.iload_n 1, 1) := by decide +kernel
theorem dX11_figureOf_13 : decode cX11_figureOf 13 = .ok (.aload_n 0, 1) := by decide +kernel
theorem dX11_figureOf_14 : decode cX11_figureOf 14 = .ok (.getfield 11, 3) := by decide +kernel
theorem dX11_figureOf_17 : decode cX11_figureOf 17 = .ok (.arraylength, 1) := by decide +kernel
theorem dX11_figureOf_18 : decode cX11_figureOf 18 = .ok (.if_icmp .ge 12, 3) := by decide +kernel
theorem dX11_figureOf_21 : decode cX11_figureOf 21 = .ok (.aload_n 0, 1) := by decide +kernel
theorem dX11_figureOf_22 : decode cX11_figureOf 22 = .ok (.getfield 11, 3) := by decide +kernel
theorem dX11_figureOf_25 : decode cX11_figureOf 25 = .ok (.iload_n 1, 1) := by decide +kernel
theorem dX11_figureOf_26 : decode cX11_figureOf 26 = .ok (.aaload, 1) := by decide +kernel
theorem dX11_figureOf_27 : decode cX11_figureOf 27 = .ok (.ifnonnull 13, 3) := by decide +kernel
theorem dX11_figureOf_30 : decode cX11_figureOf 30 = .ok (.new 211, 3) := by decide +kernel
theorem dX11_figureOf_33 : decode cX11_figureOf 33 = .ok (.dup, 1) := by decide +kernel
theorem dX11_figureOf_34 : decode cX11_figureOf 34 = .ok (.ldc 226, 2) := by decide +kernel
theorem dX11_figureOf_36 : decode cX11_figureOf 36 = .ok (.invokespecial 215, 3) := by decide +kernel
theorem dX11_figureOf_39 : decode cX11_figureOf 39 = .ok (.athrow, 1) := by decide +kernel
theorem dX11_figureOf_40 : decode cX11_figureOf 40 = .ok (.aload_n 0, 1) := by decide +kernel
theorem dX11_figureOf_41 : decode cX11_figureOf 41 = .ok (.getfield 11, 3) := by decide +kernel
theorem dX11_figureOf_44 : decode cX11_figureOf 44 = .ok (.iload_n 1, 1) := by decide +kernel
theorem dX11_figureOf_45 : decode cX11_figureOf 45 = .ok (.aaload, 1) := by decide +kernel
theorem dX11_figureOf_46 : decode cX11_figureOf 46 = .ok (.areturn, 1) := by decide +kernel
theorem dX11_addFigure_0 : decode cX11_addFigure 0 = .ok (.aload_n 0, 1) := by decide +kernel
theorem dX11_addFigure_1 : decode cX11_addFigure 1 = .ok (.getfield 41, 3) := by decide +kernel
theorem dX11_addFigure_4 : decode cX11_addFigure 4 = .ok (.istore_n 2, 1) := by decide +kernel
theorem dX11_addFigure_5 : decode cX11_addFigure 5 = .ok (.iload_n 2, 1) := by decide +kernel
theorem dX11_addFigure_6 : decode cX11_addFigure 6 = .ok (.ifCond .lt 41, 3) := by decide +kernel
theorem dX11_addFigure_9 : decode cX11_addFigure 9 = .ok (.iload_n 2, 1) := by decide +kernel
theorem dX11_addFigure_10 : decode cX11_addFigure 10 = .ok (.aload_n 0, 1) := by decide +kernel
theorem dX11_addFigure_11 : decode cX11_addFigure 11 = .ok (.getfield 11, 3) := by decide +kernel
theorem dX11_addFigure_14 : decode cX11_addFigure 14 = .ok (.arraylength, 1) := by decide +kernel
theorem dX11_addFigure_15 : decode cX11_addFigure 15 = .ok (.if_icmp .ge 32, 3) := by decide +kernel
theorem dX11_addFigure_18 : decode cX11_addFigure 18 = .ok (.aload_n 0, 1) := by decide +kernel
theorem dX11_addFigure_19 : decode cX11_addFigure 19 = .ok (.getfield 11, 3) := by decide +kernel
theorem dX11_addFigure_22 : decode cX11_addFigure 22 = .ok (.iload_n 2, 1) := by decide +kernel
theorem dX11_addFigure_23 : decode cX11_addFigure 23 = .ok (.aaload, 1) := by decide +kernel
theorem dX11_addFigure_24 : decode cX11_addFigure 24 = .ok (.ifnull 23, 3) := by decide +kernel
theorem dX11_addFigure_27 : decode cX11_addFigure 27 = .ok (.aload_n 0, 1) := by decide +kernel
theorem dX11_addFigure_28 : decode cX11_addFigure 28 = .ok (.getfield 11, 3) := by decide +kernel
theorem dX11_addFigure_31 : decode cX11_addFigure 31 = .ok (.iload_n 2, 1) := by decide +kernel
theorem dX11_addFigure_32 : decode cX11_addFigure 32 = .ok (.aaload, 1) := by decide +kernel
theorem dX11_addFigure_33 : decode cX11_addFigure 33 = .ok (.iload_n 1, 1) := by decide +kernel
theorem dX11_addFigure_34 : decode cX11_addFigure 34 = .ok (.invokevirtual 228, 3) := by decide +kernel
theorem dX11_addFigure_37 : decode cX11_addFigure 37 = .ok (.aload_n 0, 1) := by decide +kernel
theorem dX11_addFigure_38 : decode cX11_addFigure 38 = .ok (.dup, 1) := by decide +kernel
theorem dX11_addFigure_39 : decode cX11_addFigure 39 = .ok (.getfield 41, 3) := by decide +kernel
theorem dX11_addFigure_42 : decode cX11_addFigure 42 = .ok (.iconst 1, 1) := by decide +kernel
theorem dX11_addFigure_43 : decode cX11_addFigure 43 = .ok (.iadd, 1) := by decide +kernel
theorem dX11_addFigure_44 : decode cX11_addFigure 44 = .ok (.putfield 41, 3) := by decide +kernel
theorem dX11_addFigure_47 : decode cX11_addFigure 47 = .ok (.iload_n 2, 1) := by decide +kernel
theorem dX11_addFigure_48 : decode cX11_addFigure 48 = .ok (.ireturn, 1) := by decide +kernel
theorem dX11_hasEarlierKin_0 : decode cX11_hasEarlierKin 0 = .ok (.iconst 0, 1) := by decide +kernel
theorem dX11_hasEarlierKin_1 : decode cX11_hasEarlierKin 1 = .ok (.istore_n 2, 1) := by decide +kernel
theorem dX11_hasEarlierKin_2 : decode cX11_hasEarlierKin 2 = .ok (.iload_n 2, 1) := by decide +kernel
theorem dX11_hasEarlierKin_3 : decode cX11_hasEarlierKin 3 = .ok (.iload_n 1, 1) := by decide +kernel
theorem dX11_hasEarlierKin_4 : decode cX11_hasEarlierKin 4 = .ok (.if_icmp .ge 27, 3) := by decide +kernel
theorem dX11_hasEarlierKin_7 : decode cX11_hasEarlierKin 7 = .ok (.aload_n 0, 1) := by decide +kernel
theorem dX11_hasEarlierKin_8 : decode cX11_hasEarlierKin 8 = .ok (.iload_n 2, 1) := by decide +kernel
theorem dX11_hasEarlierKin_9 : decode cX11_hasEarlierKin 9 = .ok (.invokevirtual 56, 3) := by decide +kernel
theorem dX11_hasEarlierKin_12 : decode cX11_hasEarlierKin 12 = .ok (.aload_n 0, 1) := by decide +kernel
theorem dX11_hasEarlierKin_13 : decode cX11_hasEarlierKin 13 = .ok (.iload_n 1, 1) := by decide +kernel
theorem dX11_hasEarlierKin_14 : decode cX11_hasEarlierKin 14 = .ok (.invokevirtual 56, 3) := by decide +kernel
theorem dX11_hasEarlierKin_17 : decode cX11_hasEarlierKin 17 = .ok (.invokestatic 118, 3) := by decide +kernel
theorem dX11_hasEarlierKin_20 : decode cX11_hasEarlierKin 20 = .ok (.ifCond .eq 5, 3) := by decide +kernel
theorem dX11_hasEarlierKin_23 : decode cX11_hasEarlierKin 23 = .ok (.iconst 1, 1) := by decide +kernel
theorem dX11_hasEarlierKin_24 : decode cX11_hasEarlierKin 24 = .ok (.ireturn, 1) := by decide +kernel
theorem dX11_hasEarlierKin_25 : decode cX11_hasEarlierKin 25 = .ok (.iinc 2 1, 3) := by decide +kernel
theorem dX11_hasEarlierKin_28 : decode cX11_hasEarlierKin 28 = .ok (.goto (-26), 3) := by decide +kernel
theorem dX11_hasEarlierKin_31 : decode cX11_hasEarlierKin 31 = .ok (.iconst 0, 1) := by decide +kernel
theorem dX11_hasEarlierKin_32 : decode cX11_hasEarlierKin 32 = .ok (.ireturn, 1) := by decide +kernel
theorem dX11_countCrossings_0 : decode cX11_countCrossings 0 = .ok (.iload_n 1, 1) := by decide +kernel
theorem dX11_countCrossings_1 : decode cX11_countCrossings 1 = .ok (.aload_n 0, 1) := by decide +kernel
theorem dX11_countCrossings_2 : decode cX11_countCrossings 2 = .ok (.invokevirtual 94, 3) := by decide +kernel
theorem dX11_countCrossings_5 : decode cX11_countCrossings 5 = .ok (.if_icmp .ge 9, 3) := by decide +kernel
theorem dX11_countCrossings_8 : decode cX11_countCrossings 8 = .ok (.iload_n 1, 1) := by decide +kernel
theorem dX11_countCrossings_9 : decode cX11_countCrossings 9 = .ok (.bipush 6, 2) := by decide +kernel
theorem dX11_countCrossings_11 : decode cX11_countCrossings 11 = .ok (.if_icmp .lt 13, 3) := by decide +kernel
theorem dX11_countCrossings_14 : decode cX11_countCrossings 14 = .ok (.iload_n 3, 1) := by decide +kernel
theorem dX11_countCrossings_15 : decode cX11_countCrossings 15 = .ok (.ifCond .ne 7, 3) := by decide +kernel
theorem dX11_countCrossings_18 : decode cX11_countCrossings 18 = .ok (.iconst 1, 1) := by decide +kernel
theorem dX11_countCrossings_19 : decode cX11_countCrossings 19 = .ok (.goto 4, 3) := by decide +kernel
theorem dX11_countCrossings_22 : decode cX11_countCrossings 22 = .ok (.iconst 0, 1) := by decide +kernel
theorem dX11_countCrossings_23 : decode cX11_countCrossings 23 = .ok (.ireturn, 1) := by decide +kernel
theorem dX11_countCrossings_24 : decode cX11_countCrossings 24 = .ok (.iconst 0, 1) := by decide +kernel
theorem dX11_countCrossings_25 : decode cX11_countCrossings 25 = .ok (.istore 4, 2) := by decide +kernel
theorem dX11_countCrossings_27 : decode cX11_countCrossings 27 = .ok (.iconst 0, 1) := by decide +kernel
theorem dX11_countCrossings_28 : decode cX11_countCrossings 28 = .ok (.istore 5, 2) := by decide +kernel
theorem dX11_countCrossings_30 : decode cX11_countCrossings 30 = .ok (.iload 5, 2) := by decide +kernel
theorem dX11_countCrossings_32 : decode cX11_countCrossings 32 = .ok (.aload_n 0, 1) := by decide +kernel
theorem dX11_countCrossings_33 : decode cX11_countCrossings 33 = .ok (.invokevirtual 94, 3) := by decide +kernel
theorem dX11_countCrossings_36 : decode cX11_countCrossings 36 = .ok (.if_icmp .ge 61, 3) := by decide +kernel
theorem dX11_countCrossings_39 : decode cX11_countCrossings 39 = .ok (.iconst 1, 1) := by decide +kernel
theorem dX11_countCrossings_40 : decode cX11_countCrossings 40 = .ok (.iload 5, 2) := by decide +kernel
theorem dX11_countCrossings_42 : decode cX11_countCrossings 42 = .ok (.ishl, 1) := by decide +kernel
theorem dX11_countCrossings_43 : decode cX11_countCrossings 43 = .ok (.istore 6, 2) := by decide +kernel
theorem dX11_countCrossings_45 : decode cX11_countCrossings 45 = .ok (.aload_n 0, 1) := by decide +kernel
theorem dX11_countCrossings_46 : decode cX11_countCrossings 46 = .ok (.aload_n 0, 1) := by decide +kernel
theorem dX11_countCrossings_47 : decode cX11_countCrossings 47 = .ok (.iload_n 1, 1) := by decide +kernel
theorem dX11_countCrossings_48 : decode cX11_countCrossings 48 = .ok (.iload 5, 2) := by decide +kernel
theorem dX11_countCrossings_50 : decode cX11_countCrossings 50 = .ok (.invokevirtual 64, 3) := by decide +kernel
theorem dX11_countCrossings_53 : decode cX11_countCrossings 53 = .ok (.invokevirtual 71, 3) := by decide +kernel
theorem dX11_countCrossings_56 : decode cX11_countCrossings 56 = .ok (.istore 7, 2) := by decide +kernel
theorem dX11_countCrossings_58 : decode cX11_countCrossings 58 = .ok (.iload_n 2, 1) := by decide +kernel
theorem dX11_countCrossings_59 : decode cX11_countCrossings 59 = .ok (.iload 6, 2) := by decide +kernel
theorem dX11_countCrossings_61 : decode cX11_countCrossings 61 = .ok (.iand, 1) := by decide +kernel
theorem dX11_countCrossings_62 : decode cX11_countCrossings 62 = .ok (.ifCond .ne 29, 3) := by decide +kernel
theorem dX11_countCrossings_65 : decode cX11_countCrossings 65 = .ok (.iload 7, 2) := by decide +kernel
theorem dX11_countCrossings_67 : decode cX11_countCrossings 67 = .ok (.iload_n 3, 1) := by decide +kernel
theorem dX11_countCrossings_68 : decode cX11_countCrossings 68 = .ok (.if_icmp .gt 23, 3) := by decide +kernel
theorem dX11_countCrossings_71 : decode cX11_countCrossings 71 = .ok (.iload 4, 2) := by decide +kernel
theorem dX11_countCrossings_73 : decode cX11_countCrossings 73 = .ok (.aload_n 0, 1) := by decide +kernel
theorem dX11_countCrossings_74 : decode cX11_countCrossings 74 = .ok (.iload_n 1, 1) := by decide +kernel
theorem dX11_countCrossings_75 : decode cX11_countCrossings 75 = .ok (.iconst 1, 1) := by decide +kernel
theorem dX11_countCrossings_76 : decode cX11_countCrossings 76 = .ok (.iadd, 1) := by decide +kernel
theorem dX11_countCrossings_77 : decode cX11_countCrossings 77 = .ok (.iload_n 2, 1) := by decide +kernel
theorem dX11_countCrossings_78 : decode cX11_countCrossings 78 = .ok (.iload 6, 2) := by decide +kernel
theorem dX11_countCrossings_80 : decode cX11_countCrossings 80 = .ok (.ior, 1) := by decide +kernel
theorem dX11_countCrossings_81 : decode cX11_countCrossings 81 = .ok (.iload_n 3, 1) := by decide +kernel
theorem dX11_countCrossings_82 : decode cX11_countCrossings 82 = .ok (.iload 7, 2) := by decide +kernel
theorem dX11_countCrossings_84 : decode cX11_countCrossings 84 = .ok (.isub, 1) := by decide +kernel
theorem dX11_countCrossings_85 : decode cX11_countCrossings 85 = .ok (.invokestatic 200, 3) := by decide +kernel
theorem dX11_countCrossings_88 : decode cX11_countCrossings 88 = .ok (.iadd, 1) := by decide +kernel
theorem dX11_countCrossings_89 : decode cX11_countCrossings 89 = .ok (.istore 4, 2) := by decide +kernel
theorem dX11_countCrossings_91 : decode cX11_countCrossings 91 = .ok (.iinc 5 1, 3) := by decide +kernel
theorem dX11_countCrossings_94 : decode cX11_countCrossings 94 = .ok (.goto (-64), 3) := by decide +kernel
theorem dX11_countCrossings_97 : decode cX11_countCrossings 97 = .ok (.iload 4, 2) := by decide +kernel
theorem dX11_countCrossings_99 : decode cX11_countCrossings 99 = .ok (.ireturn, 1) := by decide +kernel
theorem dX12_init_0 : decode cX12_init 0 = .ok (.aload_n 0, 1) := by decide +kernel
theorem dX12_init_1 : decode cX12_init 1 = .ok (.invokespecial 1, 3) := by decide +kernel
theorem dX12_init_4 : decode cX12_init 4 = .ok (.aload_n 0, 1) := by decide +kernel
theorem dX12_init_5 : decode cX12_init 5 = .ok (.bipush 8, 2) := by decide +kernel
theorem dX12_init_7 : decode cX12_init 7 = .ok (.newarray .int, 2) := by decide +kernel
theorem dX12_init_9 : decode cX12_init 9 = .ok (.putfield 7, 3) := by decide +kernel
theorem dX12_init_12 : decode cX12_init 12 = .ok (.aload_n 0, 1) := by decide +kernel
theorem dX12_init_13 : decode cX12_init 13 = .ok (.sipush 648, 3) := by decide +kernel
theorem dX12_init_16 : decode cX12_init 16 = .ok (.newarray .int, 2) := by decide +kernel
theorem dX12_init_18 : decode cX12_init 18 = .ok (.putfield 13, 3) := by decide +kernel
theorem dX12_init_21 : decode cX12_init 21 = .ok (.aload_n 0, 1) := by decide +kernel
theorem dX12_init_22 : decode cX12_init 22 = .ok (.bipush 81, 2) := by decide +kernel
theorem dX12_init_24 : decode cX12_init 24 = .ok (.newarray .int, 2) := by decide +kernel
theorem dX12_init_26 : decode cX12_init 26 = .ok (.putfield 16, 3) := by decide +kernel
theorem dX12_init_29 : decode cX12_init 29 = .ok (.aload_n 0, 1) := by decide +kernel
theorem dX12_init_30 : decode cX12_init 30 = .ok (.bipush 16, 2) := by decide +kernel
theorem dX12_init_32 : decode cX12_init 32 = .ok (.newarray .int, 2) := by decide +kernel
theorem dX12_init_34 : decode cX12_init 34 = .ok (.putfield 19, 3) := by decide +kernel
theorem dX12_init_37 : decode cX12_init 37 = .ok (.aload_n 0, 1) := by decide +kernel
theorem dX12_init_38 : decode cX12_init 38 = .ok (.bipush 16, 2) := by decide +kernel
theorem dX12_init_40 : decode cX12_init 40 = .ok (.newarray .int, 2) := by decide +kernel
theorem dX12_init_42 : decode cX12_init 42 = .ok (.putfield 22, 3) := by decide +kernel
theorem dX12_init_45 : decode cX12_init 45 = .ok (.aload_n 0, 1) := by decide +kernel
theorem dX12_init_46 : decode cX12_init 46 = .ok (.bipush 16, 2) := by decide +kernel
theorem dX12_init_48 : decode cX12_init 48 = .ok (.newarray .int, 2) := by decide +kernel
theorem dX12_init_50 : decode cX12_init 50 = .ok (.putfield 25, 3) := by decide +kernel
theorem dX12_init_53 : decode cX12_init 53 = .ok (.aload_n 0, 1) := by decide +kernel
theorem dX12_init_54 : decode cX12_init 54 = .ok (.bipush 16, 2) := by decide +kernel
theorem dX12_init_56 : decode cX12_init 56 = .ok (.newarray .int, 2) := by decide +kernel
theorem dX12_init_58 : decode cX12_init 58 = .ok (.putfield 28, 3) := by decide +kernel
theorem dX12_init_61 : decode cX12_init 61 = .ok (.aload_n 0, 1) := by decide +kernel
theorem dX12_init_62 : decode cX12_init 62 = .ok (.bipush 6, 2) := by decide +kernel
theorem dX12_init_64 : decode cX12_init 64 = .ok (.newarray .int, 2) := by decide +kernel
theorem dX12_init_66 : decode cX12_init 66 = .ok (.putfield 31, 3) := by decide +kernel
theorem dX12_init_69 : decode cX12_init 69 = .ok (.aload_n 0, 1) := by decide +kernel
theorem dX12_init_70 : decode cX12_init 70 = .ok (.bipush 36, 2) := by decide +kernel
theorem dX12_init_72 : decode cX12_init 72 = .ok (.newarray .long, 2) := by decide +kernel
theorem dX12_init_74 : decode cX12_init 74 = .ok (.putfield 34, 3) := by decide +kernel
theorem dX12_init_77 : decode cX12_init 77 = .ok (.aload_n 0, 1) := by decide +kernel
theorem dX12_init_78 : decode cX12_init 78 = .ok (.bipush 36, 2) := by decide +kernel
theorem dX12_init_80 : decode cX12_init 80 = .ok (.newarray .long, 2) := by decide +kernel
theorem dX12_init_82 : decode cX12_init 82 = .ok (.putfield 38, 3) := by decide +kernel
theorem dX12_init_85 : decode cX12_init 85 = .ok (.aload_n 0, 1) := by decide +kernel
theorem dX12_init_86 : decode cX12_init 86 = .ok (.sipush 1296, 3) := by decide +kernel
theorem dX12_init_89 : decode cX12_init 89 = .ok (.newarray .long, 2) := by decide +kernel
theorem dX12_init_91 : decode cX12_init 91 = .ok (.putfield 41, 3) := by decide +kernel
theorem dX12_init_94 : decode cX12_init 94 = .ok (.aload_n 0, 1) := by decide +kernel
theorem dX12_init_95 : decode cX12_init 95 = .ok (.bipush 36, 2) := by decide +kernel
theorem dX12_init_97 : decode cX12_init 97 = .ok (.newarray .boolean, 2) := by decide +kernel
theorem dX12_init_99 : decode cX12_init 99 = .ok (.putfield 44, 3) := by decide +kernel
theorem dX12_init_102 : decode cX12_init 102 = .ok (.return_, 1) := by decide +kernel
theorem dX12_thrown_0 : decode cX12_thrown 0 = .ok (.aload_n 0, 1) := by decide +kernel
theorem dX12_thrown_1 : decode cX12_thrown 1 = .ok (.getfield 48, 3) := by decide +kernel
theorem dX12_thrown_4 : decode cX12_thrown 4 = .ok (.ireturn, 1) := by decide +kernel
theorem dX12_isFine_0 : decode cX12_isFine 0 = .ok (.aload_n 0, 1) := by decide +kernel
theorem dX12_isFine_1 : decode cX12_isFine 1 = .ok (.iload_n 1, 1) := by decide +kernel
theorem dX12_isFine_2 : decode cX12_isFine 2 = .ok (.putfield 48, 3) := by decide +kernel
theorem dX12_isFine_5 : decode cX12_isFine 5 = .ok (.iload_n 1, 1) := by decide +kernel
theorem dX12_isFine_6 : decode cX12_isFine 6 = .ok (.ifCond .ne 7, 3) := by decide +kernel
theorem dX12_isFine_9 : decode cX12_isFine 9 = .ok (.iconst 1, 1) := by decide +kernel
theorem dX12_isFine_10 : decode cX12_isFine 10 = .ok (.goto 4, 3) := by decide +kernel
theorem dX12_isFine_13 : decode cX12_isFine 13 = .ok (.iconst 0, 1) := by decide +kernel
theorem dX12_isFine_14 : decode cX12_isFine 14 = .ok (.ireturn, 1) := by decide +kernel
theorem dX12_in_0 : decode cX12_in 0 = .ok (.iload_n 0, 1) := by decide +kernel
theorem dX12_in_1 : decode cX12_in 1 = .ok (.iload_n 1, 1) := by decide +kernel
theorem dX12_in_2 : decode cX12_in 2 = .ok (.if_icmp .lt 12, 3) := by decide +kernel
theorem dX12_in_5 : decode cX12_in 5 = .ok (.iload_n 0, 1) := by decide +kernel
theorem dX12_in_6 : decode cX12_in 6 = .ok (.iload_n 2, 1) := by decide +kernel
theorem dX12_in_7 : decode cX12_in 7 = .ok (.if_icmp .gt 7, 3) := by decide +kernel
theorem dX12_in_10 : decode cX12_in 10 = .ok (.iconst 1, 1) := by decide +kernel
theorem dX12_in_11 : decode cX12_in 11 = .ok (.goto 4, 3) := by decide +kernel
theorem dX12_in_14 : decode cX12_in 14 = .ok (.iconst 0, 1) := by decide +kernel
theorem dX12_in_15 : decode cX12_in 15 = .ok (.ireturn, 1) := by decide +kernel
theorem dX12_isSquare_0 : decode cX12_isSquare 0 = .ok (.iload_n 1, 1) := by decide +kernel
theorem dX12_isSquare_1 : decode cX12_isSquare 1 = .ok (.iconst 0, 1) := by decide +kernel
theorem dX12_isSquare_2 : decode cX12_isSquare 2 = .ok (.aload_n 0, 1) := by decide +kernel
theorem dX12_isSquare_3 : decode cX12_isSquare 3 = .ok (.getfield 52, 3) := by decide +kernel
theorem dX12_isSquare_6 : decode cX12_isSquare 6 = .ok (.iconst 1, 1) := by decide +kernel
theorem dX12_isSquare_7 : decode cX12_isSquare 7 = .ok (.isub, 1) := by decide +kernel
theorem dX12_isSquare_8 : decode cX12_isSquare 8 = .ok (.invokestatic 55, 3) := by decide +kernel
theorem dX12_isSquare_11 : decode cX12_isSquare 11 = .ok (.ireturn, 1) := by decide +kernel
theorem dX12_isPoint_0 : decode cX12_isPoint 0 = .ok (.aload_n 0, 1) := by decide +kernel
theorem dX12_isPoint_1 : decode cX12_isPoint 1 = .ok (.iload_n 1, 1) := by decide +kernel
theorem dX12_isPoint_2 : decode cX12_isPoint 2 = .ok (.invokevirtual 59, 3) := by decide +kernel
theorem dX12_isPoint_5 : decode cX12_isPoint 5 = .ok (.ifCond .eq 39, 3) := by decide +kernel
theorem dX12_isPoint_8 : decode cX12_isPoint 8 = .ok (.iload_n 2, 1) := by decide +kernel
theorem dX12_isPoint_9 : decode cX12_isPoint 9 = .ok (.iconst 0, 1) := by decide +kernel
theorem dX12_isPoint_10 : decode cX12_isPoint 10 = .ok (.aload_n 0, 1) := by decide +kernel
theorem dX12_isPoint_11 : decode cX12_isPoint 11 = .ok (.getfield 7, 3) := by decide +kernel
theorem dX12_isPoint_14 : decode cX12_isPoint 14 = .ok (.iload_n 1, 1) := by decide +kernel
theorem dX12_isPoint_15 : decode cX12_isPoint 15 = .ok (.iaload, 1) := by decide +kernel
theorem dX12_isPoint_16 : decode cX12_isPoint 16 = .ok (.iconst 1, 1) := by decide +kernel
theorem dX12_isPoint_17 : decode cX12_isPoint 17 = .ok (.isub, 1) := by decide +kernel
theorem dX12_isPoint_18 : decode cX12_isPoint 18 = .ok (.invokestatic 55, 3) := by decide +kernel
theorem dX12_isPoint_21 : decode cX12_isPoint 21 = .ok (.ifCond .eq 23, 3) := by decide +kernel
theorem dX12_isPoint_24 : decode cX12_isPoint 24 = .ok (.iload_n 3, 1) := by decide +kernel
theorem dX12_isPoint_25 : decode cX12_isPoint 25 = .ok (.iconst 0, 1) := by decide +kernel
theorem dX12_isPoint_26 : decode cX12_isPoint 26 = .ok (.aload_n 0, 1) := by decide +kernel
theorem dX12_isPoint_27 : decode cX12_isPoint 27 = .ok (.getfield 7, 3) := by decide +kernel
theorem dX12_isPoint_30 : decode cX12_isPoint 30 = .ok (.iload_n 1, 1) := by decide +kernel
theorem dX12_isPoint_31 : decode cX12_isPoint 31 = .ok (.iaload, 1) := by decide +kernel
theorem dX12_isPoint_32 : decode cX12_isPoint 32 = .ok (.iconst 1, 1) := by decide +kernel
theorem dX12_isPoint_33 : decode cX12_isPoint 33 = .ok (.isub, 1) := by decide +kernel
theorem dX12_isPoint_34 : decode cX12_isPoint 34 = .ok (.invokestatic 55, 3) := by decide +kernel
theorem dX12_isPoint_37 : decode cX12_isPoint 37 = .ok (.ifCond .eq 7, 3) := by decide +kernel
theorem dX12_isPoint_40 : decode cX12_isPoint 40 = .ok (.iconst 1, 1) := by decide +kernel
theorem dX12_isPoint_41 : decode cX12_isPoint 41 = .ok (.goto 4, 3) := by decide +kernel
theorem dX12_isPoint_44 : decode cX12_isPoint 44 = .ok (.iconst 0, 1) := by decide +kernel
theorem dX12_isPoint_45 : decode cX12_isPoint 45 = .ok (.ireturn, 1) := by decide +kernel
theorem dX12_areaOf_0 : decode cX12_areaOf 0 = .ok (.aload_n 0, 1) := by decide +kernel
theorem dX12_areaOf_1 : decode cX12_areaOf 1 = .ok (.getfield 7, 3) := by decide +kernel
theorem dX12_areaOf_4 : decode cX12_areaOf 4 = .ok (.iload_n 1, 1) := by decide +kernel
theorem dX12_areaOf_5 : decode cX12_areaOf 5 = .ok (.iaload, 1) := by decide +kernel
theorem dX12_areaOf_6 : decode cX12_areaOf 6 = .ok (.aload_n 0, 1) := by decide +kernel
theorem dX12_areaOf_7 : decode cX12_areaOf 7 = .ok (.getfield 7, 3) := by decide +kernel
theorem dX12_areaOf_10 : decode cX12_areaOf 10 = .ok (.iload_n 1, 1) := by decide +kernel
theorem dX12_areaOf_11 : decode cX12_areaOf 11 = .ok (.iaload, 1) := by decide +kernel
theorem dX12_areaOf_12 : decode cX12_areaOf 12 = .ok (.imul, 1) := by decide +kernel
theorem dX12_areaOf_13 : decode cX12_areaOf 13 = .ok (.ireturn, 1) := by decide +kernel
theorem dX12_numberAt_0 : decode cX12_numberAt 0 = .ok (.aload_n 0, 1) := by decide +kernel
theorem dX12_numberAt_1 : decode cX12_numberAt 1 = .ok (.getfield 13, 3) := by decide +kernel
theorem dX12_numberAt_4 : decode cX12_numberAt 4 = .ok (.bipush 81, 2) := by decide +kernel
theorem dX12_numberAt_6 : decode cX12_numberAt 6 = .ok (.iload_n 1, 1) := by decide +kernel
theorem dX12_numberAt_7 : decode cX12_numberAt 7 = .ok (.imul, 1) := by decide +kernel
theorem dX12_numberAt_8 : decode cX12_numberAt 8 = .ok (.aload_n 0, 1) := by decide +kernel
theorem dX12_numberAt_9 : decode cX12_numberAt 9 = .ok (.getfield 7, 3) := by decide +kernel
theorem dX12_numberAt_12 : decode cX12_numberAt 12 = .ok (.iload_n 1, 1) := by decide +kernel
theorem dX12_numberAt_13 : decode cX12_numberAt 13 = .ok (.iaload, 1) := by decide +kernel
theorem dX12_numberAt_14 : decode cX12_numberAt 14 = .ok (.iload_n 2, 1) := by decide +kernel
theorem dX12_numberAt_15 : decode cX12_numberAt 15 = .ok (.imul, 1) := by decide +kernel
theorem dX12_numberAt_16 : decode cX12_numberAt 16 = .ok (.iadd, 1) := by decide +kernel
theorem dX12_numberAt_17 : decode cX12_numberAt 17 = .ok (.iload_n 3, 1) := by decide +kernel
theorem dX12_numberAt_18 : decode cX12_numberAt 18 = .ok (.iadd, 1) := by decide +kernel
theorem dX12_numberAt_19 : decode cX12_numberAt 19 = .ok (.iaload, 1) := by decide +kernel
theorem dX12_numberAt_20 : decode cX12_numberAt 20 = .ok (.ireturn, 1) := by decide +kernel
theorem dX12_lay_0 : decode cX12_lay 0 = .ok (.aload_n 0, 1) := by decide +kernel
theorem dX12_lay_1 : decode cX12_lay 1 = .ok (.getfield 7, 3) := by decide +kernel
theorem dX12_lay_4 : decode cX12_lay 4 = .ok (.aload_n 0, 1) := by decide +kernel
theorem dX12_lay_5 : decode cX12_lay 5 = .ok (.getfield 52, 3) := by decide +kernel
theorem dX12_lay_8 : decode cX12_lay 8 = .ok (.iload_n 1, 1) := by decide +kernel
theorem dX12_lay_9 : decode cX12_lay 9 = .ok (.iastore, 1) := by decide +kernel
theorem dX12_lay_10 : decode cX12_lay 10 = .ok (.iconst 0, 1) := by decide +kernel
theorem dX12_lay_11 : decode cX12_lay 11 = .ok (.istore_n 2, 1) := by decide +kernel
theorem dX12_lay_12 : decode cX12_lay 12 = .ok (.iload_n 2, 1) := by decide +kernel
theorem dX12_lay_13 : decode cX12_lay 13 = .ok (.bipush 81, 2) := by decide +kernel
theorem dX12_lay_15 : decode cX12_lay 15 = .ok (.if_icmp .ge 40, 3) := by decide +kernel
theorem dX12_lay_18 : decode cX12_lay 18 = .ok (.aload_n 0, 1) := by decide +kernel
theorem dX12_lay_19 : decode cX12_lay 19 = .ok (.getfield 13, 3) := by decide +kernel
theorem dX12_lay_22 : decode cX12_lay 22 = .ok (.bipush 81, 2) := by decide +kernel
theorem dX12_lay_24 : decode cX12_lay 24 = .ok (.aload_n 0, 1) := by decide +kernel
theorem dX12_lay_25 : decode cX12_lay 25 = .ok (.getfield 52, 3) := by decide +kernel
theorem dX12_lay_28 : decode cX12_lay 28 = .ok (.imul, 1) := by decide +kernel
theorem dX12_lay_29 : decode cX12_lay 29 = .ok (.iload_n 2, 1) := by decide +kernel
theorem dX12_lay_30 : decode cX12_lay 30 = .ok (.iadd, 1) := by decide +kernel
theorem dX12_lay_31 : decode cX12_lay 31 = .ok (.iload_n 2, 1) := by decide +kernel
theorem dX12_lay_32 : decode cX12_lay 32 = .ok (.iload_n 1, 1) := by decide +kernel
theorem dX12_lay_33 : decode cX12_lay 33 = .ok (.iload_n 1, 1) := by decide +kernel
theorem dX12_lay_34 : decode cX12_lay 34 = .ok (.imul, 1) := by decide +kernel
theorem dX12_lay_35 : decode cX12_lay 35 = .ok (.if_icmp .ge 12, 3) := by decide +kernel
theorem dX12_lay_38 : decode cX12_lay 38 = .ok (.aload_n 0, 1) := by decide +kernel
theorem dX12_lay_39 : decode cX12_lay 39 = .ok (.getfield 16, 3) := by decide +kernel
theorem dX12_lay_42 : decode cX12_lay 42 = .ok (.iload_n 2, 1) := by decide +kernel
theorem dX12_lay_43 : decode cX12_lay 43 = .ok (.iaload, 1) := by decide +kernel
theorem dX12_lay_44 : decode cX12_lay 44 = .ok (.goto 4, 3) := by decide +kernel
theorem dX12_lay_47 : decode cX12_lay 47 = .ok (.iconst 0, 1) := by decide +kernel
theorem dX12_lay_48 : decode cX12_lay 48 = .ok (.iastore, 1) := by decide +kernel
theorem dX12_lay_49 : decode cX12_lay 49 = .ok (.iinc 2 1, 3) := by decide +kernel
theorem dX12_lay_52 : decode cX12_lay 52 = .ok (.goto (-40), 3) := by decide +kernel
theorem dX12_lay_55 : decode cX12_lay 55 = .ok (.aload_n 0, 1) := by decide +kernel
theorem dX12_lay_56 : decode cX12_lay 56 = .ok (.dup, 1) := by decide +kernel
theorem dX12_lay_57 : decode cX12_lay 57 = .ok (.getfield 52, 3) := by decide +kernel
theorem dX12_lay_60 : decode cX12_lay 60 = .ok (.iconst 1, 1) := by decide +kernel
theorem dX12_lay_61 : decode cX12_lay 61 = .ok (.iadd, 1) := by decide +kernel
theorem dX12_lay_62 : decode cX12_lay 62 = .ok (.putfield 52, 3) := by decide +kernel
theorem dX12_lay_65 : decode cX12_lay 65 = .ok (.aload_n 0, 1) := by decide +kernel
theorem dX12_lay_66 : decode cX12_lay 66 = .ok (.getfield 52, 3) := by decide +kernel
theorem dX12_lay_69 : decode cX12_lay 69 = .ok (.iconst 1, 1) := by decide +kernel
theorem dX12_lay_70 : decode cX12_lay 70 = .ok (.isub, 1) := by decide +kernel
theorem dX12_lay_71 : decode cX12_lay 71 = .ok (.ireturn, 1) := by decide +kernel
theorem dX12_wipe_0 : decode cX12_wipe 0 = .ok (.iconst 0, 1) := by decide +kernel
theorem dX12_wipe_1 : decode cX12_wipe 1 = .ok (.istore_n 1, 1) := by decide +kernel
theorem dX12_wipe_2 : decode cX12_wipe 2 = .ok (.iload_n 1, 1) := by decide +kernel
theorem dX12_wipe_3 : decode cX12_wipe 3 = .ok (.bipush 81, 2) := by decide +kernel
theorem dX12_wipe_5 : decode cX12_wipe 5 = .ok (.if_icmp .ge 16, 3) := by decide +kernel
theorem dX12_wipe_8 : decode cX12_wipe 8 = .ok (.aload_n 0, 1) := by decide +kernel
theorem dX12_wipe_9 : decode cX12_wipe 9 = .ok (.getfield 16, 3) := by decide +kernel
theorem dX12_wipe_12 : decode cX12_wipe 12 = .ok (.iload_n 1, 1) := by decide +kernel
theorem dX12_wipe_13 : decode cX12_wipe 13 = .ok (.iconst 0, 1) := by decide +kernel
theorem dX12_wipe_14 : decode cX12_wipe 14 = .ok (.iastore, 1) := by decide +kernel
theorem dX12_wipe_15 : decode cX12_wipe 15 = .ok (.iinc 1 1, 3) := by decide +kernel
theorem dX12_wipe_18 : decode cX12_wipe 18 = .ok (.goto (-16), 3) := by decide +kernel
theorem dX12_wipe_21 : decode cX12_wipe 21 = .ok (.return_, 1) := by decide +kernel
theorem dX12_square_0 : decode cX12_square 0 = .ok (.aload_n 0, 1) := by decide +kernel
theorem dX12_square_1 : decode cX12_square 1 = .ok (.iload_n 1, 1) := by decide +kernel
theorem dX12_square_2 : decode cX12_square 2 = .ok (.iconst 1, 1) := by decide +kernel
theorem dX12_square_3 : decode cX12_square 3 = .ok (.bipush 9, 2) := by decide +kernel
theorem dX12_square_5 : decode cX12_square 5 = .ok (.invokestatic 55, 3) := by decide +kernel
theorem dX12_square_8 : decode cX12_square 8 = .ok (.ifCond .ne 7, 3) := by decide +kernel
theorem dX12_square_11 : decode cX12_square 11 = .ok (.iconst 1, 1) := by decide +kernel
theorem dX12_square_12 : decode cX12_square 12 = .ok (.goto 17, 3) := by decide +kernel
theorem dX12_square_15 : decode cX12_square 15 = .ok (.aload_n 0, 1) := by decide +kernel
theorem dX12_square_16 : decode cX12_square 16 = .ok (.getfield 52, 3) := by decide +kernel
theorem dX12_square_19 : decode cX12_square 19 = .ok (.bipush 8, 2) := by decide +kernel
theorem dX12_square_21 : decode cX12_square 21 = .ok (.if_icmp .ne 7, 3) := by decide +kernel
theorem dX12_square_24 : decode cX12_square 24 = .ok (.iconst 2, 1) := by decide +kernel
theorem dX12_square_25 : decode cX12_square 25 = .ok (.goto 4, 3) := by decide +kernel
theorem dX12_square_28 : decode cX12_square 28 = .ok (.iconst 0, 1) := by decide +kernel
theorem dX12_square_29 : decode cX12_square 29 = .ok (.invokevirtual 63, 3) := by decide +kernel
theorem dX12_square_32 : decode cX12_square 32 = .ok (.ifCond .ne 5, 3) := by decide +kernel
theorem dX12_square_35 : decode cX12_square 35 = .ok (.iconst 0, 1) := by decide +kernel
theorem dX12_square_36 : decode cX12_square 36 = .ok (.ireturn, 1) := by decide +kernel
theorem dX12_square_37 : decode cX12_square 37 = .ok (.aload_n 0, 1) := by decide +kernel
theorem dX12_square_38 : decode cX12_square 38 = .ok (.invokevirtual 66, 3) := by decide +kernel
theorem dX12_square_41 : decode cX12_square 41 = .ok (.aload_n 0, 1) := by decide +kernel
theorem dX12_square_42 : decode cX12_square 42 = .ok (.iload_n 1, 1) := by decide +kernel
theorem dX12_square_43 : decode cX12_square 43 = .ok (.invokevirtual 69, 3) := by decide +kernel
theorem dX12_square_46 : decode cX12_square 46 = .ok (.ireturn, 1) := by decide +kernel
theorem dX12_put_0 : decode cX12_put 0 = .ok (.aload_n 0, 1) := by decide +kernel
theorem dX12_put_1 : decode cX12_put 1 = .ok (.aload_n 0, 1) := by decide +kernel
theorem dX12_put_2 : decode cX12_put 2 = .ok (.iload_n 1, 1) := by decide +kernel
theorem dX12_put_3 : decode cX12_put 3 = .ok (.iload_n 2, 1) := by decide +kernel
theorem dX12_put_4 : decode cX12_put 4 = .ok (.iload_n 3, 1) := by decide +kernel
theorem dX12_put_5 : decode cX12_put 5 = .ok (.invokevirtual 73, 3) := by decide +kernel
theorem dX12_put_8 : decode cX12_put 8 = .ok (.ifCond .ne 7, 3) := by decide +kernel
theorem dX12_put_11 : decode cX12_put 11 = .ok (.iconst 1, 1) := by decide +kernel
theorem dX12_put_12 : decode cX12_put 12 = .ok (.goto 20, 3) := by decide +kernel
theorem dX12_put_15 : decode cX12_put 15 = .ok (.iload 4, 2) := by decide +kernel
theorem dX12_put_17 : decode cX12_put 17 = .ok (.iconst 0, 1) := by decide +kernel
theorem dX12_put_18 : decode cX12_put 18 = .ok (.sipush 999, 3) := by decide +kernel
theorem dX12_put_21 : decode cX12_put 21 = .ok (.invokestatic 55, 3) := by decide +kernel
theorem dX12_put_24 : decode cX12_put 24 = .ok (.ifCond .ne 7, 3) := by decide +kernel
theorem dX12_put_27 : decode cX12_put 27 = .ok (.iconst 2, 1) := by decide +kernel
theorem dX12_put_28 : decode cX12_put 28 = .ok (.goto 4, 3) := by decide +kernel
theorem dX12_put_31 : decode cX12_put 31 = .ok (.iconst 0, 1) := by decide +kernel
theorem dX12_put_32 : decode cX12_put 32 = .ok (.invokevirtual 63, 3) := by decide +kernel
theorem dX12_put_35 : decode cX12_put 35 = .ok (.ifCond .ne 5, 3) := by decide +kernel
theorem dX12_put_38 : decode cX12_put 38 = .ok (.iconst 0, 1) := by decide +kernel
theorem dX12_put_39 : decode cX12_put 39 = .ok (.ireturn, 1) := by decide +kernel
theorem dX12_put_40 : decode cX12_put 40 = .ok (.bipush 81, 2) := by decide +kernel
theorem dX12_put_42 : decode cX12_put 42 = .ok (.iload_n 1, 1) := by decide +kernel
theorem dX12_put_43 : decode cX12_put 43 = .ok (.imul, 1) := by decide +kernel
theorem dX12_put_44 : decode cX12_put 44 = .ok (.aload_n 0, 1) := by decide +kernel
theorem dX12_put_45 : decode cX12_put 45 = .ok (.getfield 7, 3) := by decide +kernel
theorem dX12_put_48 : decode cX12_put 48 = .ok (.iload_n 1, 1) := by decide +kernel
theorem dX12_put_49 : decode cX12_put 49 = .ok (.iaload, 1) := by decide +kernel
theorem dX12_put_50 : decode cX12_put 50 = .ok (.iload_n 2, 1) := by decide +kernel
theorem dX12_put_51 : decode cX12_put 51 = .ok (.imul, 1) := by decide +kernel
theorem dX12_put_52 : decode cX12_put 52 = .ok (.iadd, 1) := by decide +kernel
theorem dX12_put_53 : decode cX12_put 53 = .ok (.iload_n 3, 1) := by decide +kernel
theorem dX12_put_54 : decode cX12_put 54 = .ok (.iadd, 1) := by decide +kernel
theorem dX12_put_55 : decode cX12_put 55 = .ok (.istore 5, 2) := by decide +kernel
theorem dX12_put_57 : decode cX12_put 57 = .ok (.aload_n 0, 1) := by decide +kernel
theorem dX12_put_58 : decode cX12_put 58 = .ok (.getfield 13, 3) := by decide +kernel
theorem dX12_put_61 : decode cX12_put 61 = .ok (.iload 5, 2) := by decide +kernel
theorem dX12_put_63 : decode cX12_put 63 = .ok (.iaload, 1) := by decide +kernel
theorem dX12_put_64 : decode cX12_put 64 = .ok (.istore 6, 2) := by decide +kernel
theorem dX12_put_66 : decode cX12_put 66 = .ok (.aload_n 0, 1) := by decide +kernel
theorem dX12_put_67 : decode cX12_put 67 = .ok (.getfield 13, 3) := by decide +kernel
theorem dX12_put_70 : decode cX12_put 70 = .ok (.iload 5, 2) := by decide +kernel
theorem dX12_put_72 : decode cX12_put 72 = .ok (.iload 4, 2) := by decide +kernel
theorem dX12_put_74 : decode cX12_put 74 = .ok (.iastore, 1) := by decide +kernel
theorem dX12_put_75 : decode cX12_put 75 = .ok (.iload 6, 2) := by decide +kernel
theorem dX12_put_77 : decode cX12_put 77 = .ok (.ireturn, 1) := by decide +kernel
theorem dX12_at_0 : decode cX12_at 0 = .ok (.aload_n 0, 1) := by decide +kernel
theorem dX12_at_1 : decode cX12_at 1 = .ok (.aload_n 0, 1) := by decide +kernel
theorem dX12_at_2 : decode cX12_at 2 = .ok (.iload_n 1, 1) := by decide +kernel
theorem dX12_at_3 : decode cX12_at 3 = .ok (.iload_n 2, 1) := by decide +kernel
theorem dX12_at_4 : decode cX12_at 4 = .ok (.iload_n 3, 1) := by decide +kernel
theorem dX12_at_5 : decode cX12_at 5 = .ok (.invokevirtual 73, 3) := by decide +kernel
theorem dX12_at_8 : decode cX12_at 8 = .ok (.ifCond .eq 7, 3) := by decide +kernel
theorem dX12_at_11 : decode cX12_at 11 = .ok (.iconst 0, 1) := by decide +kernel
theorem dX12_at_12 : decode cX12_at 12 = .ok (.goto 4, 3) := by decide +kernel
theorem dX12_at_15 : decode cX12_at 15 = .ok (.iconst 1, 1) := by decide +kernel
theorem dX12_at_16 : decode cX12_at 16 = .ok (.invokevirtual 63, 3) := by decide +kernel
theorem dX12_at_19 : decode cX12_at 19 = .ok (.ifCond .eq 13, 3) := by decide +kernel
theorem dX12_at_22 : decode cX12_at 22 = .ok (.aload_n 0, 1) := by decide +kernel
theorem dX12_at_23 : decode cX12_at 23 = .ok (.iload_n 1, 1) := by decide +kernel
theorem dX12_at_24 : decode cX12_at 24 = .ok (.iload_n 2, 1) := by decide +kernel
theorem dX12_at_25 : decode cX12_at 25 = .ok (.iload_n 3, 1) := by decide +kernel
theorem dX12_at_26 : decode cX12_at 26 = .ok (.invokevirtual 76, 3) := by decide +kernel
theorem dX12_at_29 : decode cX12_at 29 = .ok (.goto 4, 3) := by decide +kernel
theorem dX12_at_32 : decode cX12_at 32 = .ok (.iconst 0, 1) := by decide +kernel
theorem dX12_at_33 : decode cX12_at 33 = .ok (.ireturn, 1) := by decide +kernel
theorem dX12_siege_0 : decode cX12_siege 0 = .ok (.aload_n 0, 1) := by decide +kernel
theorem dX12_siege_1 : decode cX12_siege 1 = .ok (.invokevirtual 66, 3) := by decide +kernel
theorem dX12_siege_4 : decode cX12_siege 4 = .ok (.iconst 0, 1) := by decide +kernel
theorem dX12_siege_5 : decode cX12_siege 5 = .ok (.istore_n 2, 1) := by decide +kernel
theorem dX12_siege_6 : decode cX12_siege 6 = .ok (.iload_n 1, 1) := by decide +kernel
theorem dX12_siege_7 : decode cX12_siege 7 = .ok (.iconst 2, 1) := by decide +kernel
theorem dX12_siege_8 : decode cX12_siege 8 = .ok (.idiv, 1) := by decide +kernel
theorem dX12_siege_9 : decode cX12_siege 9 = .ok (.istore_n 3, 1) := by decide +kernel
theorem dX12_siege_10 : decode cX12_siege 10 = .ok (.iconst 1, 1) := by decide +kernel
theorem dX12_siege_11 : decode cX12_siege 11 = .ok (.istore 4, 2) := by decide +kernel
theorem dX12_siege_13 : decode cX12_siege 13 = .ok (.iload 4, 2) := by decide +kernel
theorem dX12_siege_15 : decode cX12_siege 15 = .ok (.iload_n 1, 1) := by decide +kernel
theorem dX12_siege_16 : decode cX12_siege 16 = .ok (.iload_n 1, 1) := by decide +kernel
theorem dX12_siege_17 : decode cX12_siege 17 = .ok (.imul, 1) := by decide +kernel
theorem dX12_siege_18 : decode cX12_siege 18 = .ok (.if_icmp .gt 111, 3) := by decide +kernel
theorem dX12_siege_21 : decode cX12_siege 21 = .ok (.aload_n 0, 1) := by decide +kernel
theorem dX12_siege_22 : decode cX12_siege 22 = .ok (.getfield 16, 3) := by decide +kernel
theorem dX12_siege_25 : decode cX12_siege 25 = .ok (.iload_n 1, 1) := by decide +kernel
theorem dX12_siege_26 : decode cX12_siege 26 = .ok (.iload_n 2, 1) := by decide +kernel
theorem dX12_siege_27 : decode cX12_siege 27 = .ok (.imul, 1) := by decide +kernel
theorem dX12_siege_28 : decode cX12_siege 28 = .ok (.iload_n 3, 1) := by decide +kernel
theorem dX12_siege_29 : decode cX12_siege 29 = .ok (.iadd, 1) := by decide +kernel
theorem dX12_siege_30 : decode cX12_siege 30 = .ok (.iload 4, 2) := by decide +kernel
theorem dX12_siege_32 : decode cX12_siege 32 = .ok (.iastore, 1) := by decide +kernel
theorem dX12_siege_33 : decode cX12_siege 33 = .ok (.iload_n 2, 1) := by decide +kernel
theorem dX12_siege_34 : decode cX12_siege 34 = .ok (.ifCond .ne 9, 3) := by decide +kernel
theorem dX12_siege_37 : decode cX12_siege 37 = .ok (.iload_n 1, 1) := by decide +kernel
theorem dX12_siege_38 : decode cX12_siege 38 = .ok (.iconst 1, 1) := by decide +kernel
theorem dX12_siege_39 : decode cX12_siege 39 = .ok (.isub, 1) := by decide +kernel
theorem dX12_siege_40 : decode cX12_siege 40 = .ok (.goto 6, 3) := by decide +kernel
theorem dX12_siege_43 : decode cX12_siege 43 = .ok (.iload_n 2, 1) := by decide +kernel
theorem dX12_siege_44 : decode cX12_siege 44 = .ok (.iconst 1, 1) := by decide +kernel
theorem dX12_siege_45 : decode cX12_siege 45 = .ok (.isub, 1) := by decide +kernel
theorem dX12_siege_46 : decode cX12_siege 46 = .ok (.istore 5, 2) := by decide +kernel
theorem dX12_siege_48 : decode cX12_siege 48 = .ok (.iload_n 3, 1) := by decide +kernel
theorem dX12_siege_49 : decode cX12_siege 49 = .ok (.iload_n 1, 1) := by decide +kernel
theorem dX12_siege_50 : decode cX12_siege 50 = .ok (.iconst 1, 1) := by decide +kernel
theorem dX12_siege_51 : decode cX12_siege 51 = .ok (.isub, 1) := by decide +kernel
theorem dX12_siege_52 : decode cX12_siege 52 = .ok (.if_icmp .ne 7, 3) := by decide +kernel
theorem dX12_siege_55 : decode cX12_siege 55 = .ok (.iconst 0, 1) := by decide +kernel
theorem dX12_siege_56 : decode cX12_siege 56 = .ok (.goto 6, 3) := by decide +kernel
theorem dX12_siege_59 : decode cX12_siege 59 = .ok (.iload_n 3, 1) := by decide +kernel
theorem dX12_siege_60 : decode cX12_siege 60 = .ok (.iconst 1, 1) := by decide +kernel
theorem dX12_siege_61 : decode cX12_siege 61 = .ok (.iadd, 1) := by decide +kernel
theorem dX12_siege_62 : decode cX12_siege 62 = .ok (.istore 6, 2) := by decide +kernel
theorem dX12_siege_64 : decode cX12_siege 64 = .ok (.aload_n 0, 1) := by decide +kernel
theorem dX12_siege_65 : decode cX12_siege 65 = .ok (.getfield 16, 3) := by decide +kernel
theorem dX12_siege_68 : decode cX12_siege 68 = .ok (.iload_n 1, 1) := by decide +kernel
theorem dX12_siege_69 : decode cX12_siege 69 = .ok (.iload 5, 2) := by decide +kernel
theorem dX12_siege_71 : decode cX12_siege 71 = .ok (.imul, 1) := by decide +kernel
theorem dX12_siege_72 : decode cX12_siege 72 = .ok (.iload 6, 2) := by decide +kernel
theorem dX12_siege_74 : decode cX12_siege 74 = .ok (.iadd, 1) := by decide +kernel
theorem dX12_siege_75 : decode cX12_siege 75 = .ok (.iaload, 1) := by decide +kernel
theorem dX12_siege_76 : decode cX12_siege 76 = .ok (.ifCond .ne 7, 3) := by decide +kernel
theorem dX12_siege_79 : decode cX12_siege 79 = .ok (.iconst 1, 1) := by decide +kernel
theorem dX12_siege_80 : decode cX12_siege 80 = .ok (.goto 4, 3) := by decide +kernel
theorem dX12_siege_83 : decode cX12_siege 83 = .ok (.iconst 0, 1) := by decide +kernel
theorem dX12_siege_84 : decode cX12_siege 84 = .ok (.istore 7, 2) := by decide +kernel
theorem dX12_siege_86 : decode cX12_siege 86 = .ok (.iload 7, 2) := by decide +kernel
theorem dX12_siege_88 : decode cX12_siege 88 = .ok (.ifCond .eq 8, 3) := by decide +kernel
theorem dX12_siege_91 : decode cX12_siege 91 = .ok (.iload 5, 2) := by decide +kernel
theorem dX12_siege_93 : decode cX12_siege 93 = .ok (.goto 17, 3) := by decide +kernel
theorem dX12_siege_96 : decode cX12_siege 96 = .ok (.iload_n 2, 1) := by decide +kernel
theorem dX12_siege_97 : decode cX12_siege 97 = .ok (.iload_n 1, 1) := by decide +kernel
theorem dX12_siege_98 : decode cX12_siege 98 = .ok (.iconst 1, 1) := by decide +kernel
theorem dX12_siege_99 : decode cX12_siege 99 = .ok (.isub, 1) := by decide +kernel
theorem dX12_siege_100 : decode cX12_siege 100 = .ok (.if_icmp .ne 7, 3) := by decide +kernel
theorem dX12_siege_103 : decode cX12_siege 103 = .ok (.iconst 0, 1) := by decide +kernel
theorem dX12_siege_104 : decode cX12_siege 104 = .ok (.goto 6, 3) := by decide +kernel
theorem dX12_siege_107 : decode cX12_siege 107 = .ok (.iload_n 2, 1) := by decide +kernel
theorem dX12_siege_108 : decode cX12_siege 108 = .ok (.iconst 1, 1) := by decide +kernel
theorem dX12_siege_109 : decode cX12_siege 109 = .ok (.iadd, 1) := by decide +kernel
theorem dX12_siege_110 : decode cX12_siege 110 = .ok (.istore_n 2, 1) := by decide +kernel
theorem dX12_siege_111 : decode cX12_siege 111 = .ok (.iload 7, 2) := by decide +kernel
theorem dX12_siege_113 : decode cX12_siege 113 = .ok (.ifCond .eq 8, 3) := by decide +kernel
theorem dX12_siege_116 : decode cX12_siege 116 = .ok (.iload 6, 2) := by decide +kernel
theorem dX12_siege_118 : decode cX12_siege 118 = .ok (.goto 4, 3) := by decide +kernel
theorem dX12_siege_121 : decode cX12_siege 121 = .ok (.iload_n 3, 1) := by decide +kernel
theorem dX12_siege_122 : decode cX12_siege 122 = .ok (.istore_n 3, 1) := by decide +kernel
theorem dX12_siege_123 : decode cX12_siege 123 = .ok (.iinc 4 1, 3) := by decide +kernel
theorem dX12_siege_126 : decode cX12_siege 126 = .ok (.goto (-113), 3) := by decide +kernel
theorem dX12_siege_129 : decode cX12_siege 129 = .ok (.return_, 1) := by decide +kernel
theorem dX12_cross_0 : decode cX12_cross 0 = .ok (.iconst 0, 1) := by decide +kernel
theorem dX12_cross_1 : decode cX12_cross 1 = .ok (.istore_n 2, 1) := by decide +kernel
theorem dX12_cross_2 : decode cX12_cross 2 = .ok (.iload_n 2, 1) := by decide +kernel
theorem dX12_cross_3 : decode cX12_cross 3 = .ok (.iload_n 1, 1) := by decide +kernel
theorem dX12_cross_4 : decode cX12_cross 4 = .ok (.iload_n 1, 1) := by decide +kernel
theorem dX12_cross_5 : decode cX12_cross 5 = .ok (.imul, 1) := by decide +kernel
theorem dX12_cross_6 : decode cX12_cross 6 = .ok (.if_icmp .ge 53, 3) := by decide +kernel
theorem dX12_cross_9 : decode cX12_cross 9 = .ok (.iload_n 2, 1) := by decide +kernel
theorem dX12_cross_10 : decode cX12_cross 10 = .ok (.iload_n 1, 1) := by decide +kernel
theorem dX12_cross_11 : decode cX12_cross 11 = .ok (.idiv, 1) := by decide +kernel
theorem dX12_cross_12 : decode cX12_cross 12 = .ok (.iconst 4, 1) := by decide +kernel
theorem dX12_cross_13 : decode cX12_cross 13 = .ok (.irem, 1) := by decide +kernel
theorem dX12_cross_14 : decode cX12_cross 14 = .ok (.istore_n 3, 1) := by decide +kernel
theorem dX12_cross_15 : decode cX12_cross 15 = .ok (.iload_n 2, 1) := by decide +kernel
theorem dX12_cross_16 : decode cX12_cross 16 = .ok (.iload_n 1, 1) := by decide +kernel
theorem dX12_cross_17 : decode cX12_cross 17 = .ok (.irem, 1) := by decide +kernel
theorem dX12_cross_18 : decode cX12_cross 18 = .ok (.iconst 4, 1) := by decide +kernel
theorem dX12_cross_19 : decode cX12_cross 19 = .ok (.irem, 1) := by decide +kernel
theorem dX12_cross_20 : decode cX12_cross 20 = .ok (.istore 4, 2) := by decide +kernel
theorem dX12_cross_22 : decode cX12_cross 22 = .ok (.aload_n 0, 1) := by decide +kernel
theorem dX12_cross_23 : decode cX12_cross 23 = .ok (.getfield 16, 3) := by decide +kernel
theorem dX12_cross_26 : decode cX12_cross 26 = .ok (.iload_n 2, 1) := by decide +kernel
theorem dX12_cross_27 : decode cX12_cross 27 = .ok (.iload_n 3, 1) := by decide +kernel
theorem dX12_cross_28 : decode cX12_cross 28 = .ok (.iload 4, 2) := by decide +kernel
theorem dX12_cross_30 : decode cX12_cross 30 = .ok (.if_icmp .eq 11, 3) := by decide +kernel
theorem dX12_cross_33 : decode cX12_cross 33 = .ok (.iload_n 3, 1) := by decide +kernel
theorem dX12_cross_34 : decode cX12_cross 34 = .ok (.iload 4, 2) := by decide +kernel
theorem dX12_cross_36 : decode cX12_cross 36 = .ok (.iadd, 1) := by decide +kernel
theorem dX12_cross_37 : decode cX12_cross 37 = .ok (.iconst 3, 1) := by decide +kernel
theorem dX12_cross_38 : decode cX12_cross 38 = .ok (.if_icmp .ne 11, 3) := by decide +kernel
theorem dX12_cross_41 : decode cX12_cross 41 = .ok (.iload_n 1, 1) := by decide +kernel
theorem dX12_cross_42 : decode cX12_cross 42 = .ok (.iload_n 1, 1) := by decide +kernel
theorem dX12_cross_43 : decode cX12_cross 43 = .ok (.imul, 1) := by decide +kernel
theorem dX12_cross_44 : decode cX12_cross 44 = .ok (.iload_n 2, 1) := by decide +kernel
theorem dX12_cross_45 : decode cX12_cross 45 = .ok (.isub, 1) := by decide +kernel
theorem dX12_cross_46 : decode cX12_cross 46 = .ok (.goto 6, 3) := by decide +kernel
theorem dX12_cross_49 : decode cX12_cross 49 = .ok (.iload_n 2, 1) := by decide +kernel
theorem dX12_cross_50 : decode cX12_cross 50 = .ok (.iconst 1, 1) := by decide +kernel
theorem dX12_cross_51 : decode cX12_cross 51 = .ok (.iadd, 1) := by decide +kernel
theorem dX12_cross_52 : decode cX12_cross 52 = .ok (.iastore, 1) := by decide +kernel
theorem dX12_cross_53 : decode cX12_cross 53 = .ok (.iinc 2 1, 3) := by decide +kernel
theorem dX12_cross_56 : decode cX12_cross 56 = .ok (.goto (-54), 3) := by decide +kernel
theorem dX12_cross_59 : decode cX12_cross 59 = .ok (.return_, 1) := by decide +kernel
theorem dX12_digits_0 : decode cX12_digits 0 = .ok (.iconst 0, 1) := by decide +kernel
theorem dX12_digits_1 : decode cX12_digits 1 = .ok (.istore_n 2, 1) := by decide +kernel
theorem dX12_digits_2 : decode cX12_digits 2 = .ok (.iload_n 2, 1) := by decide +kernel
theorem dX12_digits_3 : decode cX12_digits 3 = .ok (.iload_n 1, 1) := by decide +kernel
theorem dX12_digits_4 : decode cX12_digits 4 = .ok (.iload_n 1, 1) := by decide +kernel
theorem dX12_digits_5 : decode cX12_digits 5 = .ok (.imul, 1) := by decide +kernel
theorem dX12_digits_6 : decode cX12_digits 6 = .ok (.if_icmp .ge 45, 3) := by decide +kernel
theorem dX12_digits_9 : decode cX12_digits 9 = .ok (.iload_n 2, 1) := by decide +kernel
theorem dX12_digits_10 : decode cX12_digits 10 = .ok (.iload_n 1, 1) := by decide +kernel
theorem dX12_digits_11 : decode cX12_digits 11 = .ok (.idiv, 1) := by decide +kernel
theorem dX12_digits_12 : decode cX12_digits 12 = .ok (.istore_n 3, 1) := by decide +kernel
theorem dX12_digits_13 : decode cX12_digits 13 = .ok (.iload_n 2, 1) := by decide +kernel
theorem dX12_digits_14 : decode cX12_digits 14 = .ok (.iload_n 1, 1) := by decide +kernel
theorem dX12_digits_15 : decode cX12_digits 15 = .ok (.irem, 1) := by decide +kernel
theorem dX12_digits_16 : decode cX12_digits 16 = .ok (.istore 4, 2) := by decide +kernel
theorem dX12_digits_18 : decode cX12_digits 18 = .ok (.aload_n 0, 1) := by decide +kernel
theorem dX12_digits_19 : decode cX12_digits 19 = .ok (.getfield 16, 3) := by decide +kernel
theorem dX12_digits_22 : decode cX12_digits 22 = .ok (.iload_n 2, 1) := by decide +kernel
theorem dX12_digits_23 : decode cX12_digits 23 = .ok (.iload_n 1, 1) := by decide +kernel
theorem dX12_digits_24 : decode cX12_digits 24 = .ok (.iload_n 3, 1) := by decide +kernel
theorem dX12_digits_25 : decode cX12_digits 25 = .ok (.iconst 2, 1) := by decide +kernel
theorem dX12_digits_26 : decode cX12_digits 26 = .ok (.iload 4, 2) := by decide +kernel
theorem dX12_digits_28 : decode cX12_digits 28 = .ok (.imul, 1) := by decide +kernel
theorem dX12_digits_29 : decode cX12_digits 29 = .ok (.iadd, 1) := by decide +kernel
theorem dX12_digits_30 : decode cX12_digits 30 = .ok (.iload_n 1, 1) := by decide +kernel
theorem dX12_digits_31 : decode cX12_digits 31 = .ok (.irem, 1) := by decide +kernel
theorem dX12_digits_32 : decode cX12_digits 32 = .ok (.imul, 1) := by decide +kernel
theorem dX12_digits_33 : decode cX12_digits 33 = .ok (.iconst 2, 1) := by decide +kernel
theorem dX12_digits_34 : decode cX12_digits 34 = .ok (.iload_n 3, 1) := by decide +kernel
theorem dX12_digits_35 : decode cX12_digits 35 = .ok (.imul, 1) := by decide +kernel
theorem dX12_digits_36 : decode cX12_digits 36 = .ok (.iload 4, 2) := by decide +kernel
theorem dX12_digits_38 : decode cX12_digits 38 = .ok (.iadd, 1) := by decide +kernel
theorem dX12_digits_39 : decode cX12_digits 39 = .ok (.iload_n 1, 1) := by decide +kernel
theorem dX12_digits_40 : decode cX12_digits 40 = .ok (.irem, 1) := by decide +kernel
theorem dX12_digits_41 : decode cX12_digits 41 = .ok (.iadd, 1) := by decide +kernel
theorem dX12_digits_42 : decode cX12_digits 42 = .ok (.iconst 1, 1) := by decide +kernel
theorem dX12_digits_43 : decode cX12_digits 43 = .ok (.iadd, 1) := by decide +kernel
theorem dX12_digits_44 : decode cX12_digits 44 = .ok (.iastore, 1) := by decide +kernel
theorem dX12_digits_45 : decode cX12_digits 45 = .ok (.iinc 2 1, 3) := by decide +kernel
theorem dX12_digits_48 : decode cX12_digits 48 = .ok (.goto (-46), 3) := by decide +kernel
theorem dX12_digits_51 : decode cX12_digits 51 = .ok (.return_, 1) := by decide +kernel
theorem dX12_lux_0 : decode cX12_lux 0 = .ok (.aload_n 0, 1) := by decide +kernel
theorem dX12_lux_1 : decode cX12_lux 1 = .ok (.iconst 3, 1) := by decide +kernel
theorem dX12_lux_2 : decode cX12_lux 2 = .ok (.invokevirtual 80, 3) := by decide +kernel
theorem dX12_lux_5 : decode cX12_lux 5 = .ok (.iconst 0, 1) := by decide +kernel
theorem dX12_lux_6 : decode cX12_lux 6 = .ok (.istore_n 1, 1) := by decide +kernel
theorem dX12_lux_7 : decode cX12_lux 7 = .ok (.iload_n 1, 1) := by decide +kernel
theorem dX12_lux_8 : decode cX12_lux 8 = .ok (.bipush 9, 2) := by decide +kernel
theorem dX12_lux_10 : decode cX12_lux 10 = .ok (.if_icmp .ge 21, 3) := by decide +kernel
theorem dX12_lux_13 : decode cX12_lux 13 = .ok (.aload_n 0, 1) := by decide +kernel
theorem dX12_lux_14 : decode cX12_lux 14 = .ok (.getfield 19, 3) := by decide +kernel
theorem dX12_lux_17 : decode cX12_lux 17 = .ok (.iload_n 1, 1) := by decide +kernel
theorem dX12_lux_18 : decode cX12_lux 18 = .ok (.aload_n 0, 1) := by decide +kernel
theorem dX12_lux_19 : decode cX12_lux 19 = .ok (.getfield 16, 3) := by decide +kernel
theorem dX12_lux_22 : decode cX12_lux 22 = .ok (.iload_n 1, 1) := by decide +kernel
theorem dX12_lux_23 : decode cX12_lux 23 = .ok (.iaload, 1) := by decide +kernel
theorem dX12_lux_24 : decode cX12_lux 24 = .ok (.iastore, 1) := by decide +kernel
theorem dX12_lux_25 : decode cX12_lux 25 = .ok (.iinc 1 1, 3) := by decide +kernel
theorem dX12_lux_28 : decode cX12_lux 28 = .ok (.goto (-21), 3) := by decide +kernel
theorem dX12_lux_31 : decode cX12_lux 31 = .ok (.iconst 0, 1) := by decide +kernel
theorem dX12_lux_32 : decode cX12_lux 32 = .ok (.istore_n 1, 1) := by decide +kernel
theorem dX12_lux_33 : decode cX12_lux 33 = .ok (.iload_n 1, 1) := by decide +kernel
theorem dX12_lux_34 : decode cX12_lux 34 = .ok (.bipush 9, 2) := by decide +kernel
theorem dX12_lux_36 : decode cX12_lux 36 = .ok (.if_icmp .ge 142, 3) := by decide +kernel
theorem dX12_lux_39 : decode cX12_lux 39 = .ok (.iload_n 1, 1) := by decide +kernel
theorem dX12_lux_40 : decode cX12_lux 40 = .ok (.iconst 3, 1) := by decide +kernel
theorem dX12_lux_41 : decode cX12_lux 41 = .ok (.idiv, 1) := by decide +kernel
theorem dX12_lux_42 : decode cX12_lux 42 = .ok (.istore_n 2, 1) := by decide +kernel
theorem dX12_lux_43 : decode cX12_lux 43 = .ok (.iload_n 1, 1) := by decide +kernel
theorem dX12_lux_44 : decode cX12_lux 44 = .ok (.iconst 3, 1) := by decide +kernel
theorem dX12_lux_45 : decode cX12_lux 45 = .ok (.irem, 1) := by decide +kernel
theorem dX12_lux_46 : decode cX12_lux 46 = .ok (.istore_n 3, 1) := by decide +kernel
theorem dX12_lux_47 : decode cX12_lux 47 = .ok (.iconst 4, 1) := by decide +kernel
theorem dX12_lux_48 : decode cX12_lux 48 = .ok (.aload_n 0, 1) := by decide +kernel
theorem dX12_lux_49 : decode cX12_lux 49 = .ok (.getfield 19, 3) := by decide +kernel
theorem dX12_lux_52 : decode cX12_lux 52 = .ok (.iload_n 1, 1) := by decide +kernel
theorem dX12_lux_53 : decode cX12_lux 53 = .ok (.iaload, 1) := by decide +kernel
theorem dX12_lux_54 : decode cX12_lux 54 = .ok (.iconst 1, 1) := by decide +kernel
theorem dX12_lux_55 : decode cX12_lux 55 = .ok (.isub, 1) := by decide +kernel
theorem dX12_lux_56 : decode cX12_lux 56 = .ok (.imul, 1) := by decide +kernel
theorem dX12_lux_57 : decode cX12_lux 57 = .ok (.istore 4, 2) := by decide +kernel
theorem dX12_lux_59 : decode cX12_lux 59 = .ok (.bipush 12, 2) := by decide +kernel
theorem dX12_lux_61 : decode cX12_lux 61 = .ok (.iload_n 2, 1) := by decide +kernel
theorem dX12_lux_62 : decode cX12_lux 62 = .ok (.imul, 1) := by decide +kernel
theorem dX12_lux_63 : decode cX12_lux 63 = .ok (.iconst 2, 1) := by decide +kernel
theorem dX12_lux_64 : decode cX12_lux 64 = .ok (.iload_n 3, 1) := by decide +kernel
theorem dX12_lux_65 : decode cX12_lux 65 = .ok (.imul, 1) := by decide +kernel
theorem dX12_lux_66 : decode cX12_lux 66 = .ok (.iadd, 1) := by decide +kernel
theorem dX12_lux_67 : decode cX12_lux 67 = .ok (.istore 5, 2) := by decide +kernel
theorem dX12_lux_69 : decode cX12_lux 69 = .ok (.iload_n 2, 1) := by decide +kernel
theorem dX12_lux_70 : decode cX12_lux 70 = .ok (.iconst 1, 1) := by decide +kernel
theorem dX12_lux_71 : decode cX12_lux 71 = .ok (.if_icmp .ne 8, 3) := by decide +kernel
theorem dX12_lux_74 : decode cX12_lux 74 = .ok (.iload_n 3, 1) := by decide +kernel
theorem dX12_lux_75 : decode cX12_lux 75 = .ok (.iconst 1, 1) := by decide +kernel
theorem dX12_lux_76 : decode cX12_lux 76 = .ok (.if_icmp .eq 13, 3) := by decide +kernel
theorem dX12_lux_79 : decode cX12_lux 79 = .ok (.iload_n 2, 1) := by decide +kernel
theorem dX12_lux_80 : decode cX12_lux 80 = .ok (.iconst 2, 1) := by decide +kernel
theorem dX12_lux_81 : decode cX12_lux 81 = .ok (.if_icmp .ne 12, 3) := by decide +kernel
theorem dX12_lux_84 : decode cX12_lux 84 = .ok (.iload_n 3, 1) := by decide +kernel
theorem dX12_lux_85 : decode cX12_lux 85 = .ok (.iconst 1, 1) := by decide +kernel
theorem dX12_lux_86 : decode cX12_lux 86 = .ok (.if_icmp .eq 7, 3) := by decide +kernel
theorem dX12_lux_89 : decode cX12_lux 89 = .ok (.iconst 1, 1) := by decide +kernel
theorem dX12_lux_90 : decode cX12_lux 90 = .ok (.goto 4, 3) := by decide +kernel
theorem dX12_lux_93 : decode cX12_lux 93 = .ok (.iconst 0, 1) := by decide +kernel
theorem dX12_lux_94 : decode cX12_lux 94 = .ok (.istore 6, 2) := by decide +kernel
theorem dX12_lux_96 : decode cX12_lux 96 = .ok (.aload_n 0, 1) := by decide +kernel
theorem dX12_lux_97 : decode cX12_lux 97 = .ok (.getfield 16, 3) := by decide +kernel
theorem dX12_lux_100 : decode cX12_lux 100 = .ok (.iload 5, 2) := by decide +kernel
theorem dX12_lux_102 : decode cX12_lux 102 = .ok (.iload 6, 2) := by decide +kernel
theorem dX12_lux_104 : decode cX12_lux 104 = .ok (.ifCond .eq 10, 3) := by decide +kernel
theorem dX12_lux_107 : decode cX12_lux 107 = .ok (.iload 4, 2) := by decide +kernel
theorem dX12_lux_109 : decode cX12_lux 109 = .ok (.iconst 1, 1) := by decide +kernel
theorem dX12_lux_110 : decode cX12_lux 110 = .ok (.iadd, 1) := by decide +kernel
theorem dX12_lux_111 : decode cX12_lux 111 = .ok (.goto 7, 3) := by decide +kernel
theorem dX12_lux_114 : decode cX12_lux 114 = .ok (.iload 4, 2) := by decide +kernel
theorem dX12_lux_116 : decode cX12_lux 116 = .ok (.iconst 4, 1) := by decide +kernel
theorem dX12_lux_117 : decode cX12_lux 117 = .ok (.iadd, 1) := by decide +kernel
theorem dX12_lux_118 : decode cX12_lux 118 = .ok (.iastore, 1) := by decide +kernel
theorem dX12_lux_119 : decode cX12_lux 119 = .ok (.aload_n 0, 1) := by decide +kernel
theorem dX12_lux_120 : decode cX12_lux 120 = .ok (.getfield 16, 3) := by decide +kernel
theorem dX12_lux_123 : decode cX12_lux 123 = .ok (.iload 5, 2) := by decide +kernel
theorem dX12_lux_125 : decode cX12_lux 125 = .ok (.iconst 1, 1) := by decide +kernel
theorem dX12_lux_126 : decode cX12_lux 126 = .ok (.iadd, 1) := by decide +kernel
theorem dX12_lux_127 : decode cX12_lux 127 = .ok (.iload 6, 2) := by decide +kernel
theorem dX12_lux_129 : decode cX12_lux 129 = .ok (.ifCond .eq 10, 3) := by decide +kernel
theorem dX12_lux_132 : decode cX12_lux 132 = .ok (.iload 4, 2) := by decide +kernel
theorem dX12_lux_134 : decode cX12_lux 134 = .ok (.iconst 4, 1) := by decide +kernel
theorem dX12_lux_135 : decode cX12_lux 135 = .ok (.iadd, 1) := by decide +kernel
theorem dX12_lux_136 : decode cX12_lux 136 = .ok (.goto 7, 3) := by decide +kernel
theorem dX12_lux_139 : decode cX12_lux 139 = .ok (.iload 4, 2) := by decide +kernel
theorem dX12_lux_141 : decode cX12_lux 141 = .ok (.iconst 1, 1) := by decide +kernel
theorem dX12_lux_142 : decode cX12_lux 142 = .ok (.iadd, 1) := by decide +kernel
theorem dX12_lux_143 : decode cX12_lux 143 = .ok (.iastore, 1) := by decide +kernel
theorem dX12_lux_144 : decode cX12_lux 144 = .ok (.aload_n 0, 1) := by decide +kernel
theorem dX12_lux_145 : decode cX12_lux 145 = .ok (.getfield 16, 3) := by decide +kernel
theorem dX12_lux_148 : decode cX12_lux 148 = .ok (.iload 5, 2) := by decide +kernel
theorem dX12_lux_150 : decode cX12_lux 150 = .ok (.bipush 6, 2) := by decide +kernel
theorem dX12_lux_152 : decode cX12_lux 152 = .ok (.iadd, 1) := by decide +kernel
theorem dX12_lux_153 : decode cX12_lux 153 = .ok (.iload 4, 2) := by decide +kernel
theorem dX12_lux_155 : decode cX12_lux 155 = .ok (.iconst 2, 1) := by decide +kernel
theorem dX12_lux_156 : decode cX12_lux 156 = .ok (.iadd, 1) := by decide +kernel
theorem dX12_lux_157 : decode cX12_lux 157 = .ok (.iastore, 1) := by decide +kernel
theorem dX12_lux_158 : decode cX12_lux 158 = .ok (.aload_n 0, 1) := by decide +kernel
theorem dX12_lux_159 : decode cX12_lux 159 = .ok (.getfield 16, 3) := by decide +kernel
theorem dX12_lux_162 : decode cX12_lux 162 = .ok (.iload 5, 2) := by decide +kernel
theorem dX12_lux_164 : decode cX12_lux 164 = .ok (.bipush 7, 2) := by decide +kernel
theorem dX12_lux_166 : decode cX12_lux 166 = .ok (.iadd, 1) := by decide +kernel
theorem dX12_lux_167 : decode cX12_lux 167 = .ok (.iload 4, 2) := by decide +kernel
theorem dX12_lux_169 : decode cX12_lux 169 = .ok (.iconst 3, 1) := by decide +kernel
theorem dX12_lux_170 : decode cX12_lux 170 = .ok (.iadd, 1) := by decide +kernel
theorem dX12_lux_171 : decode cX12_lux 171 = .ok (.iastore, 1) := by decide +kernel
theorem dX12_lux_172 : decode cX12_lux 172 = .ok (.iinc 1 1, 3) := by decide +kernel
theorem dX12_lux_175 : decode cX12_lux 175 = .ok (.goto (-142), 3) := by decide +kernel
theorem dX12_lux_178 : decode cX12_lux 178 = .ok (.return_, 1) := by decide +kernel
theorem dX12_doesHold_0 : decode cX12_doesHold 0 = .ok (.iload_n 0, 1) := by decide +kernel
theorem dX12_doesHold_1 : decode cX12_doesHold 1 = .ok (.tableswitch 76 0 2 #[27, 40, 57], 27) := by decide +kernel
theorem dX12_doesHold_28 : decode cX12_doesHold 28 = .ok (.iload_n 1, 1) := by decide +kernel
theorem dX12_doesHold_29 : decode cX12_doesHold 29 = .ok (.iconst 2, 1) := by decide +kernel
theorem dX12_doesHold_30 : decode cX12_doesHold 30 = .ok (.irem, 1) := by decide +kernel
theorem dX12_doesHold_31 : decode cX12_doesHold 31 = .ok (.iconst 1, 1) := by decide +kernel
theorem dX12_doesHold_32 : decode cX12_doesHold 32 = .ok (.if_icmp .ne 7, 3) := by decide +kernel
theorem dX12_doesHold_35 : decode cX12_doesHold 35 = .ok (.iconst 1, 1) := by decide +kernel
theorem dX12_doesHold_36 : decode cX12_doesHold 36 = .ok (.goto 4, 3) := by decide +kernel
theorem dX12_doesHold_39 : decode cX12_doesHold 39 = .ok (.iconst 0, 1) := by decide +kernel
theorem dX12_doesHold_40 : decode cX12_doesHold 40 = .ok (.ireturn, 1) := by decide +kernel
theorem dX12_doesHold_41 : decode cX12_doesHold 41 = .ok (.iload_n 1, 1) := by decide +kernel
theorem dX12_doesHold_42 : decode cX12_doesHold 42 = .ok (.iconst 4, 1) := by decide +kernel
theorem dX12_doesHold_43 : decode cX12_doesHold 43 = .ok (.if_icmp .eq 9, 3) := by decide +kernel
theorem dX12_doesHold_46 : decode cX12_doesHold 46 = .ok (.iload_n 1, 1) := by decide +kernel
theorem dX12_doesHold_47 : decode cX12_doesHold 47 = .ok (.bipush 8, 2) := by decide +kernel
theorem dX12_doesHold_49 : decode cX12_doesHold 49 = .ok (.if_icmp .ne 7, 3) := by decide +kernel
theorem dX12_doesHold_52 : decode cX12_doesHold 52 = .ok (.iconst 1, 1) := by decide +kernel
theorem dX12_doesHold_53 : decode cX12_doesHold 53 = .ok (.goto 4, 3) := by decide +kernel
theorem dX12_doesHold_56 : decode cX12_doesHold 56 = .ok (.iconst 0, 1) := by decide +kernel
theorem dX12_doesHold_57 : decode cX12_doesHold 57 = .ok (.ireturn, 1) := by decide +kernel
theorem dX12_doesHold_58 : decode cX12_doesHold 58 = .ok (.iload_n 1, 1) := by decide +kernel
theorem dX12_doesHold_59 : decode cX12_doesHold 59 = .ok (.iconst 2, 1) := by decide +kernel
theorem dX12_doesHold_60 : decode cX12_doesHold 60 = .ok (.irem, 1) := by decide +kernel
theorem dX12_doesHold_61 : decode cX12_doesHold 61 = .ok (.iconst 1, 1) := by decide +kernel
theorem dX12_doesHold_62 : decode cX12_doesHold 62 = .ok (.if_icmp .ne 13, 3) := by decide +kernel
theorem dX12_doesHold_65 : decode cX12_doesHold 65 = .ok (.iload_n 1, 1) := by decide +kernel
theorem dX12_doesHold_66 : decode cX12_doesHold 66 = .ok (.iconst 3, 1) := by decide +kernel
theorem dX12_doesHold_67 : decode cX12_doesHold 67 = .ok (.irem, 1) := by decide +kernel
theorem dX12_doesHold_68 : decode cX12_doesHold 68 = .ok (.ifCond .eq 7, 3) := by decide +kernel
theorem dX12_doesHold_71 : decode cX12_doesHold 71 = .ok (.iconst 1, 1) := by decide +kernel
theorem dX12_doesHold_72 : decode cX12_doesHold 72 = .ok (.goto 4, 3) := by decide +kernel
theorem dX12_doesHold_75 : decode cX12_doesHold 75 = .ok (.iconst 0, 1) := by decide +kernel
theorem dX12_doesHold_76 : decode cX12_doesHold 76 = .ok (.ireturn, 1) := by decide +kernel
theorem dX12_doesHold_77 : decode cX12_doesHold 77 = .ok (.iload_n 1, 1) := by decide +kernel
theorem dX12_doesHold_78 : decode cX12_doesHold 78 = .ok (.bipush 6, 2) := by decide +kernel
theorem dX12_doesHold_80 : decode cX12_doesHold 80 = .ok (.if_icmp .ne 7, 3) := by decide +kernel
theorem dX12_doesHold_83 : decode cX12_doesHold 83 = .ok (.iconst 1, 1) := by decide +kernel
theorem dX12_doesHold_84 : decode cX12_doesHold 84 = .ok (.goto 4, 3) := by decide +kernel
theorem dX12_doesHold_87 : decode cX12_doesHold 87 = .ok (.iconst 0, 1) := by decide +kernel
theorem dX12_doesHold_88 : decode cX12_doesHold 88 = .ok (.ireturn, 1) := by decide +kernel
theorem dX12_make_0 : decode cX12_make 0 = .ok (.iload_n 1, 1) := by decide +kernel
theorem dX12_make_1 : decode cX12_make 1 = .ok (.iconst 0, 1) := by decide +kernel
theorem dX12_make_2 : decode cX12_make 2 = .ok (.iconst 3, 1) := by decide +kernel
theorem dX12_make_3 : decode cX12_make 3 = .ok (.invokestatic 55, 3) := by decide +kernel
theorem dX12_make_6 : decode cX12_make 6 = .ok (.ifCond .eq 17, 3) := by decide +kernel
theorem dX12_make_9 : decode cX12_make 9 = .ok (.iload_n 2, 1) := by decide +kernel
theorem dX12_make_10 : decode cX12_make 10 = .ok (.iconst 1, 1) := by decide +kernel
theorem dX12_make_11 : decode cX12_make 11 = .ok (.bipush 9, 2) := by decide +kernel
theorem dX12_make_13 : decode cX12_make 13 = .ok (.invokestatic 55, 3) := by decide +kernel
theorem dX12_make_16 : decode cX12_make 16 = .ok (.ifCond .eq 7, 3) := by decide +kernel
theorem dX12_make_19 : decode cX12_make 19 = .ok (.iconst 1, 1) := by decide +kernel
theorem dX12_make_20 : decode cX12_make 20 = .ok (.goto 4, 3) := by decide +kernel
theorem dX12_make_23 : decode cX12_make 23 = .ok (.iconst 0, 1) := by decide +kernel
theorem dX12_make_24 : decode cX12_make 24 = .ok (.istore_n 3, 1) := by decide +kernel
theorem dX12_make_25 : decode cX12_make 25 = .ok (.aload_n 0, 1) := by decide +kernel
theorem dX12_make_26 : decode cX12_make 26 = .ok (.iload_n 3, 1) := by decide +kernel
theorem dX12_make_27 : decode cX12_make 27 = .ok (.ifCond .ne 7, 3) := by decide +kernel
theorem dX12_make_30 : decode cX12_make 30 = .ok (.iconst 1, 1) := by decide +kernel
theorem dX12_make_31 : decode cX12_make 31 = .ok (.goto 25, 3) := by decide +kernel
theorem dX12_make_34 : decode cX12_make 34 = .ok (.iload_n 1, 1) := by decide +kernel
theorem dX12_make_35 : decode cX12_make 35 = .ok (.iload_n 2, 1) := by decide +kernel
theorem dX12_make_36 : decode cX12_make 36 = .ok (.invokestatic 84, 3) := by decide +kernel
theorem dX12_make_39 : decode cX12_make 39 = .ok (.ifCond .eq 12, 3) := by decide +kernel
theorem dX12_make_42 : decode cX12_make 42 = .ok (.aload_n 0, 1) := by decide +kernel
theorem dX12_make_43 : decode cX12_make 43 = .ok (.getfield 52, 3) := by decide +kernel
theorem dX12_make_46 : decode cX12_make 46 = .ok (.bipush 8, 2) := by decide +kernel
theorem dX12_make_48 : decode cX12_make 48 = .ok (.if_icmp .ne 7, 3) := by decide +kernel
theorem dX12_make_51 : decode cX12_make 51 = .ok (.iconst 2, 1) := by decide +kernel
theorem dX12_make_52 : decode cX12_make 52 = .ok (.goto 4, 3) := by decide +kernel
theorem dX12_make_55 : decode cX12_make 55 = .ok (.iconst 0, 1) := by decide +kernel
theorem dX12_make_56 : decode cX12_make 56 = .ok (.invokevirtual 63, 3) := by decide +kernel
theorem dX12_make_59 : decode cX12_make 59 = .ok (.ifCond .ne 5, 3) := by decide +kernel
theorem dX12_make_62 : decode cX12_make 62 = .ok (.iconst 0, 1) := by decide +kernel
theorem dX12_make_63 : decode cX12_make 63 = .ok (.ireturn, 1) := by decide +kernel
theorem dX12_make_64 : decode cX12_make 64 = .ok (.aload_n 0, 1) := by decide +kernel
theorem dX12_make_65 : decode cX12_make 65 = .ok (.invokevirtual 66, 3) := by decide +kernel
theorem dX12_make_68 : decode cX12_make 68 = .ok (.iload_n 1, 1) := by decide +kernel
theorem dX12_make_69 : decode cX12_make 69 = .ok (.ifCond .ne 11, 3) := by decide +kernel
theorem dX12_make_72 : decode cX12_make 72 = .ok (.aload_n 0, 1) := by decide +kernel
theorem dX12_make_73 : decode cX12_make 73 = .ok (.iload_n 2, 1) := by decide +kernel
theorem dX12_make_74 : decode cX12_make 74 = .ok (.invokevirtual 80, 3) := by decide +kernel
theorem dX12_make_77 : decode cX12_make 77 = .ok (.goto 33, 3) := by decide +kernel
theorem dX12_make_80 : decode cX12_make 80 = .ok (.iload_n 1, 1) := by decide +kernel
theorem dX12_make_81 : decode cX12_make 81 = .ok (.iconst 1, 1) := by decide +kernel
theorem dX12_make_82 : decode cX12_make 82 = .ok (.if_icmp .ne 11, 3) := by decide +kernel
theorem dX12_make_85 : decode cX12_make 85 = .ok (.aload_n 0, 1) := by decide +kernel
theorem dX12_make_86 : decode cX12_make 86 = .ok (.iload_n 2, 1) := by decide +kernel
theorem dX12_make_87 : decode cX12_make 87 = .ok (.invokevirtual 88, 3) := by decide +kernel
theorem dX12_make_90 : decode cX12_make 90 = .ok (.goto 20, 3) := by decide +kernel
theorem dX12_make_93 : decode cX12_make 93 = .ok (.iload_n 1, 1) := by decide +kernel
theorem dX12_make_94 : decode cX12_make 94 = .ok (.iconst 2, 1) := by decide +kernel
theorem dX12_make_95 : decode cX12_make 95 = .ok (.if_icmp .ne 11, 3) := by decide +kernel
theorem dX12_make_98 : decode cX12_make 98 = .ok (.aload_n 0, 1) := by decide +kernel
theorem dX12_make_99 : decode cX12_make 99 = .ok (.iload_n 2, 1) := by decide +kernel
theorem dX12_make_100 : decode cX12_make 100 = .ok (.invokevirtual 91, 3) := by decide +kernel
theorem dX12_make_103 : decode cX12_make 103 = .ok (.goto 7, 3) := by decide +kernel
theorem dX12_make_106 : decode cX12_make 106 = .ok (.aload_n 0, 1) := by decide +kernel
theorem dX12_make_107 : decode cX12_make 107 = .ok (.invokevirtual 94, 3) := by decide +kernel
theorem dX12_make_110 : decode cX12_make 110 = .ok (.aload_n 0, 1) := by decide +kernel
theorem dX12_make_111 : decode cX12_make 111 = .ok (.iload_n 2, 1) := by decide +kernel
theorem dX12_make_112 : decode cX12_make 112 = .ok (.invokevirtual 69, 3) := by decide +kernel
theorem dX12_make_115 : decode cX12_make 115 = .ok (.ireturn, 1) := by decide +kernel
theorem dX12_sumOf_0 : decode cX12_sumOf 0 = .ok (.aload_n 0, 1) := by decide +kernel
theorem dX12_sumOf_1 : decode cX12_sumOf 1 = .ok (.getfield 7, 3) := by decide +kernel
theorem dX12_sumOf_4 : decode cX12_sumOf 4 = .ok (.iload_n 1, 1) := by decide +kernel
theorem dX12_sumOf_5 : decode cX12_sumOf 5 = .ok (.iaload, 1) := by decide +kernel
theorem dX12_sumOf_6 : decode cX12_sumOf 6 = .ok (.istore 4, 2) := by decide +kernel
theorem dX12_sumOf_8 : decode cX12_sumOf 8 = .ok (.iconst 0, 1) := by decide +kernel
theorem dX12_sumOf_9 : decode cX12_sumOf 9 = .ok (.istore 5, 2) := by decide +kernel
theorem dX12_sumOf_11 : decode cX12_sumOf 11 = .ok (.iconst 0, 1) := by decide +kernel
theorem dX12_sumOf_12 : decode cX12_sumOf 12 = .ok (.istore 6, 2) := by decide +kernel
theorem dX12_sumOf_14 : decode cX12_sumOf 14 = .ok (.iload 6, 2) := by decide +kernel
theorem dX12_sumOf_16 : decode cX12_sumOf 16 = .ok (.iload 4, 2) := by decide +kernel
theorem dX12_sumOf_18 : decode cX12_sumOf 18 = .ok (.if_icmp .ge 80, 3) := by decide +kernel
theorem dX12_sumOf_21 : decode cX12_sumOf 21 = .ok (.iload_n 2, 1) := by decide +kernel
theorem dX12_sumOf_22 : decode cX12_sumOf 22 = .ok (.ifCond .ne 7, 3) := by decide +kernel
theorem dX12_sumOf_25 : decode cX12_sumOf 25 = .ok (.iload_n 3, 1) := by decide +kernel
theorem dX12_sumOf_26 : decode cX12_sumOf 26 = .ok (.goto 5, 3) := by decide +kernel
theorem dX12_sumOf_29 : decode cX12_sumOf 29 = .ok (.iload 6, 2) := by decide +kernel
theorem dX12_sumOf_31 : decode cX12_sumOf 31 = .ok (.istore 7, 2) := by decide +kernel
theorem dX12_sumOf_33 : decode cX12_sumOf 33 = .ok (.iload_n 2, 1) := by decide +kernel
theorem dX12_sumOf_34 : decode cX12_sumOf 34 = .ok (.ifCond .ne 8, 3) := by decide +kernel
theorem dX12_sumOf_37 : decode cX12_sumOf 37 = .ok (.iload 6, 2) := by decide +kernel
theorem dX12_sumOf_39 : decode cX12_sumOf 39 = .ok (.goto 37, 3) := by decide +kernel
theorem dX12_sumOf_42 : decode cX12_sumOf 42 = .ok (.iload_n 2, 1) := by decide +kernel
theorem dX12_sumOf_43 : decode cX12_sumOf 43 = .ok (.iconst 1, 1) := by decide +kernel
theorem dX12_sumOf_44 : decode cX12_sumOf 44 = .ok (.if_icmp .ne 7, 3) := by decide +kernel
theorem dX12_sumOf_47 : decode cX12_sumOf 47 = .ok (.iload_n 3, 1) := by decide +kernel
theorem dX12_sumOf_48 : decode cX12_sumOf 48 = .ok (.goto 28, 3) := by decide +kernel
theorem dX12_sumOf_51 : decode cX12_sumOf 51 = .ok (.iload_n 2, 1) := by decide +kernel
theorem dX12_sumOf_52 : decode cX12_sumOf 52 = .ok (.iconst 2, 1) := by decide +kernel
theorem dX12_sumOf_53 : decode cX12_sumOf 53 = .ok (.if_icmp .ne 13, 3) := by decide +kernel
theorem dX12_sumOf_56 : decode cX12_sumOf 56 = .ok (.iload_n 3, 1) := by decide +kernel
theorem dX12_sumOf_57 : decode cX12_sumOf 57 = .ok (.iload 6, 2) := by decide +kernel
theorem dX12_sumOf_59 : decode cX12_sumOf 59 = .ok (.iadd, 1) := by decide +kernel
theorem dX12_sumOf_60 : decode cX12_sumOf 60 = .ok (.iload 4, 2) := by decide +kernel
theorem dX12_sumOf_62 : decode cX12_sumOf 62 = .ok (.irem, 1) := by decide +kernel
theorem dX12_sumOf_63 : decode cX12_sumOf 63 = .ok (.goto 13, 3) := by decide +kernel
theorem dX12_sumOf_66 : decode cX12_sumOf 66 = .ok (.iload_n 3, 1) := by decide +kernel
theorem dX12_sumOf_67 : decode cX12_sumOf 67 = .ok (.iload 6, 2) := by decide +kernel
theorem dX12_sumOf_69 : decode cX12_sumOf 69 = .ok (.isub, 1) := by decide +kernel
theorem dX12_sumOf_70 : decode cX12_sumOf 70 = .ok (.iload 4, 2) := by decide +kernel
theorem dX12_sumOf_72 : decode cX12_sumOf 72 = .ok (.iadd, 1) := by decide +kernel
theorem dX12_sumOf_73 : decode cX12_sumOf 73 = .ok (.iload 4, 2) := by decide +kernel
theorem dX12_sumOf_75 : decode cX12_sumOf 75 = .ok (.irem, 1) := by decide +kernel
theorem dX12_sumOf_76 : decode cX12_sumOf 76 = .ok (.istore 8, 2) := by decide +kernel
theorem dX12_sumOf_78 : decode cX12_sumOf 78 = .ok (.iload 5, 2) := by decide +kernel
theorem dX12_sumOf_80 : decode cX12_sumOf 80 = .ok (.aload_n 0, 1) := by decide +kernel
theorem dX12_sumOf_81 : decode cX12_sumOf 81 = .ok (.iload_n 1, 1) := by decide +kernel
theorem dX12_sumOf_82 : decode cX12_sumOf 82 = .ok (.iload 7, 2) := by decide +kernel
theorem dX12_sumOf_84 : decode cX12_sumOf 84 = .ok (.iload 8, 2) := by decide +kernel
theorem dX12_sumOf_86 : decode cX12_sumOf 86 = .ok (.invokevirtual 76, 3) := by decide +kernel
theorem dX12_sumOf_89 : decode cX12_sumOf 89 = .ok (.iadd, 1) := by decide +kernel
theorem dX12_sumOf_90 : decode cX12_sumOf 90 = .ok (.istore 5, 2) := by decide +kernel
theorem dX12_sumOf_92 : decode cX12_sumOf 92 = .ok (.iinc 6 1, 3) := by decide +kernel
theorem dX12_sumOf_95 : decode cX12_sumOf 95 = .ok (.goto (-81), 3) := by decide +kernel
theorem dX12_sumOf_98 : decode cX12_sumOf 98 = .ok (.iload 5, 2) := by decide +kernel
theorem dX12_sumOf_100 : decode cX12_sumOf 100 = .ok (.ireturn, 1) := by decide +kernel
theorem dX12_squaresOf_0 : decode cX12_squaresOf 0 = .ok (.iconst 0, 1) := by decide +kernel
theorem dX12_squaresOf_1 : decode cX12_squaresOf 1 = .ok (.istore 4, 2) := by decide +kernel
theorem dX12_squaresOf_3 : decode cX12_squaresOf 3 = .ok (.iconst 0, 1) := by decide +kernel
theorem dX12_squaresOf_4 : decode cX12_squaresOf 4 = .ok (.istore 5, 2) := by decide +kernel
theorem dX12_squaresOf_6 : decode cX12_squaresOf 6 = .ok (.iload 5, 2) := by decide +kernel
theorem dX12_squaresOf_8 : decode cX12_squaresOf 8 = .ok (.aload_n 0, 1) := by decide +kernel
theorem dX12_squaresOf_9 : decode cX12_squaresOf 9 = .ok (.getfield 7, 3) := by decide +kernel
theorem dX12_squaresOf_12 : decode cX12_squaresOf 12 = .ok (.iload_n 1, 1) := by decide +kernel
theorem dX12_squaresOf_13 : decode cX12_squaresOf 13 = .ok (.iaload, 1) := by decide +kernel
theorem dX12_squaresOf_14 : decode cX12_squaresOf 14 = .ok (.if_icmp .ge 44, 3) := by decide +kernel
theorem dX12_squaresOf_17 : decode cX12_squaresOf 17 = .ok (.iload_n 2, 1) := by decide +kernel
theorem dX12_squaresOf_18 : decode cX12_squaresOf 18 = .ok (.ifCond .ne 14, 3) := by decide +kernel
theorem dX12_squaresOf_21 : decode cX12_squaresOf 21 = .ok (.aload_n 0, 1) := by decide +kernel
theorem dX12_squaresOf_22 : decode cX12_squaresOf 22 = .ok (.iload_n 1, 1) := by decide +kernel
theorem dX12_squaresOf_23 : decode cX12_squaresOf 23 = .ok (.iload_n 3, 1) := by decide +kernel
theorem dX12_squaresOf_24 : decode cX12_squaresOf 24 = .ok (.iload 5, 2) := by decide +kernel
theorem dX12_squaresOf_26 : decode cX12_squaresOf 26 = .ok (.invokevirtual 76, 3) := by decide +kernel
theorem dX12_squaresOf_29 : decode cX12_squaresOf 29 = .ok (.goto 11, 3) := by decide +kernel
theorem dX12_squaresOf_32 : decode cX12_squaresOf 32 = .ok (.aload_n 0, 1) := by decide +kernel
theorem dX12_squaresOf_33 : decode cX12_squaresOf 33 = .ok (.iload_n 1, 1) := by decide +kernel
theorem dX12_squaresOf_34 : decode cX12_squaresOf 34 = .ok (.iload 5, 2) := by decide +kernel
theorem dX12_squaresOf_36 : decode cX12_squaresOf 36 = .ok (.iload_n 3, 1) := by decide +kernel
theorem dX12_squaresOf_37 : decode cX12_squaresOf 37 = .ok (.invokevirtual 76, 3) := by decide +kernel
theorem dX12_squaresOf_40 : decode cX12_squaresOf 40 = .ok (.istore 6, 2) := by decide +kernel
theorem dX12_squaresOf_42 : decode cX12_squaresOf 42 = .ok (.iload 4, 2) := by decide +kernel
theorem dX12_squaresOf_44 : decode cX12_squaresOf 44 = .ok (.iload 6, 2) := by decide +kernel
theorem dX12_squaresOf_46 : decode cX12_squaresOf 46 = .ok (.iload 6, 2) := by decide +kernel
theorem dX12_squaresOf_48 : decode cX12_squaresOf 48 = .ok (.imul, 1) := by decide +kernel
theorem dX12_squaresOf_49 : decode cX12_squaresOf 49 = .ok (.iadd, 1) := by decide +kernel
theorem dX12_squaresOf_50 : decode cX12_squaresOf 50 = .ok (.istore 4, 2) := by decide +kernel
theorem dX12_squaresOf_52 : decode cX12_squaresOf 52 = .ok (.iinc 5 1, 3) := by decide +kernel
theorem dX12_squaresOf_55 : decode cX12_squaresOf 55 = .ok (.goto (-49), 3) := by decide +kernel
theorem dX12_squaresOf_58 : decode cX12_squaresOf 58 = .ok (.iload 4, 2) := by decide +kernel
theorem dX12_squaresOf_60 : decode cX12_squaresOf 60 = .ok (.ireturn, 1) := by decide +kernel
theorem dX12_areAlike_0 : decode cX12_areAlike 0 = .ok (.iconst 1, 1) := by decide +kernel
theorem dX12_areAlike_1 : decode cX12_areAlike 1 = .ok (.istore_n 3, 1) := by decide +kernel
theorem dX12_areAlike_2 : decode cX12_areAlike 2 = .ok (.iconst 0, 1) := by decide +kernel
theorem dX12_areAlike_3 : decode cX12_areAlike 3 = .ok (.istore 4, 2) := by decide +kernel
theorem dX12_areAlike_5 : decode cX12_areAlike 5 = .ok (.iload 4, 2) := by decide +kernel
theorem dX12_areAlike_7 : decode cX12_areAlike 7 = .ok (.aload_n 0, 1) := by decide +kernel
theorem dX12_areAlike_8 : decode cX12_areAlike 8 = .ok (.getfield 7, 3) := by decide +kernel
theorem dX12_areAlike_11 : decode cX12_areAlike 11 = .ok (.iload_n 1, 1) := by decide +kernel
theorem dX12_areAlike_12 : decode cX12_areAlike 12 = .ok (.iaload, 1) := by decide +kernel
theorem dX12_areAlike_13 : decode cX12_areAlike 13 = .ok (.if_icmp .ge 37, 3) := by decide +kernel
theorem dX12_areAlike_16 : decode cX12_areAlike 16 = .ok (.iload_n 3, 1) := by decide +kernel
theorem dX12_areAlike_17 : decode cX12_areAlike 17 = .ok (.ifCond .eq 25, 3) := by decide +kernel
theorem dX12_areAlike_20 : decode cX12_areAlike 20 = .ok (.aload_n 0, 1) := by decide +kernel
theorem dX12_areAlike_21 : decode cX12_areAlike 21 = .ok (.iload_n 1, 1) := by decide +kernel
theorem dX12_areAlike_22 : decode cX12_areAlike 22 = .ok (.iload_n 2, 1) := by decide +kernel
theorem dX12_areAlike_23 : decode cX12_areAlike 23 = .ok (.iload 4, 2) := by decide +kernel
theorem dX12_areAlike_25 : decode cX12_areAlike 25 = .ok (.invokevirtual 97, 3) := by decide +kernel
theorem dX12_areAlike_28 : decode cX12_areAlike 28 = .ok (.aload_n 0, 1) := by decide +kernel
theorem dX12_areAlike_29 : decode cX12_areAlike 29 = .ok (.iload_n 1, 1) := by decide +kernel
theorem dX12_areAlike_30 : decode cX12_areAlike 30 = .ok (.iconst 0, 1) := by decide +kernel
theorem dX12_areAlike_31 : decode cX12_areAlike 31 = .ok (.iconst 0, 1) := by decide +kernel
theorem dX12_areAlike_32 : decode cX12_areAlike 32 = .ok (.invokevirtual 97, 3) := by decide +kernel
theorem dX12_areAlike_35 : decode cX12_areAlike 35 = .ok (.if_icmp .ne 7, 3) := by decide +kernel
theorem dX12_areAlike_38 : decode cX12_areAlike 38 = .ok (.iconst 1, 1) := by decide +kernel
theorem dX12_areAlike_39 : decode cX12_areAlike 39 = .ok (.goto 4, 3) := by decide +kernel
theorem dX12_areAlike_42 : decode cX12_areAlike 42 = .ok (.iconst 0, 1) := by decide +kernel
theorem dX12_areAlike_43 : decode cX12_areAlike 43 = .ok (.istore_n 3, 1) := by decide +kernel
theorem dX12_areAlike_44 : decode cX12_areAlike 44 = .ok (.iinc 4 1, 3) := by decide +kernel
theorem dX12_areAlike_47 : decode cX12_areAlike 47 = .ok (.goto (-42), 3) := by decide +kernel
theorem dX12_areAlike_50 : decode cX12_areAlike 50 = .ok (.iload_n 3, 1) := by decide +kernel
theorem dX12_areAlike_51 : decode cX12_areAlike 51 = .ok (.ireturn, 1) := by decide +kernel
theorem dX12_areDiagonals_0 : decode cX12_areDiagonals 0 = .ok (.aload_n 0, 1) := by decide +kernel
theorem dX12_areDiagonals_1 : decode cX12_areDiagonals 1 = .ok (.iload_n 1, 1) := by decide +kernel
theorem dX12_areDiagonals_2 : decode cX12_areDiagonals 2 = .ok (.iconst 0, 1) := by decide +kernel
theorem dX12_areDiagonals_3 : decode cX12_areDiagonals 3 = .ok (.iconst 0, 1) := by decide +kernel
theorem dX12_areDiagonals_4 : decode cX12_areDiagonals 4 = .ok (.invokevirtual 97, 3) := by decide +kernel
theorem dX12_areDiagonals_7 : decode cX12_areDiagonals 7 = .ok (.istore_n 2, 1) := by decide +kernel
theorem dX12_areDiagonals_8 : decode cX12_areDiagonals 8 = .ok (.aload_n 0, 1) := by decide +kernel
theorem dX12_areDiagonals_9 : decode cX12_areDiagonals 9 = .ok (.iload_n 1, 1) := by decide +kernel
theorem dX12_areDiagonals_10 : decode cX12_areDiagonals 10 = .ok (.iconst 2, 1) := by decide +kernel
theorem dX12_areDiagonals_11 : decode cX12_areDiagonals 11 = .ok (.iconst 0, 1) := by decide +kernel
theorem dX12_areDiagonals_12 : decode cX12_areDiagonals 12 = .ok (.invokevirtual 97, 3) := by decide +kernel
theorem dX12_areDiagonals_15 : decode cX12_areDiagonals 15 = .ok (.iload_n 2, 1) := by decide +kernel
theorem dX12_areDiagonals_16 : decode cX12_areDiagonals 16 = .ok (.if_icmp .ne 25, 3) := by decide +kernel
theorem dX12_areDiagonals_19 : decode cX12_areDiagonals 19 = .ok (.aload_n 0, 1) := by decide +kernel
theorem dX12_areDiagonals_20 : decode cX12_areDiagonals 20 = .ok (.iload_n 1, 1) := by decide +kernel
theorem dX12_areDiagonals_21 : decode cX12_areDiagonals 21 = .ok (.iconst 3, 1) := by decide +kernel
theorem dX12_areDiagonals_22 : decode cX12_areDiagonals 22 = .ok (.aload_n 0, 1) := by decide +kernel
theorem dX12_areDiagonals_23 : decode cX12_areDiagonals 23 = .ok (.getfield 7, 3) := by decide +kernel
theorem dX12_areDiagonals_26 : decode cX12_areDiagonals 26 = .ok (.iload_n 1, 1) := by decide +kernel
theorem dX12_areDiagonals_27 : decode cX12_areDiagonals 27 = .ok (.iaload, 1) := by decide +kernel
theorem dX12_areDiagonals_28 : decode cX12_areDiagonals 28 = .ok (.iconst 1, 1) := by decide +kernel
theorem dX12_areDiagonals_29 : decode cX12_areDiagonals 29 = .ok (.isub, 1) := by decide +kernel
theorem dX12_areDiagonals_30 : decode cX12_areDiagonals 30 = .ok (.invokevirtual 97, 3) := by decide +kernel
theorem dX12_areDiagonals_33 : decode cX12_areDiagonals 33 = .ok (.iload_n 2, 1) := by decide +kernel
theorem dX12_areDiagonals_34 : decode cX12_areDiagonals 34 = .ok (.if_icmp .ne 7, 3) := by decide +kernel
theorem dX12_areDiagonals_37 : decode cX12_areDiagonals 37 = .ok (.iconst 1, 1) := by decide +kernel
theorem dX12_areDiagonals_38 : decode cX12_areDiagonals 38 = .ok (.goto 4, 3) := by decide +kernel
theorem dX12_areDiagonals_41 : decode cX12_areDiagonals 41 = .ok (.iconst 0, 1) := by decide +kernel
theorem dX12_areDiagonals_42 : decode cX12_areDiagonals 42 = .ok (.ireturn, 1) := by decide +kernel
theorem dX12_areOpposite_0 : decode cX12_areOpposite 0 = .ok (.aload_n 0, 1) := by decide +kernel
theorem dX12_areOpposite_1 : decode cX12_areOpposite 1 = .ok (.iload_n 1, 1) := by decide +kernel
theorem dX12_areOpposite_2 : decode cX12_areOpposite 2 = .ok (.invokevirtual 100, 3) := by decide +kernel
theorem dX12_areOpposite_5 : decode cX12_areOpposite 5 = .ok (.iconst 1, 1) := by decide +kernel
theorem dX12_areOpposite_6 : decode cX12_areOpposite 6 = .ok (.isub, 1) := by decide +kernel
theorem dX12_areOpposite_7 : decode cX12_areOpposite 7 = .ok (.istore_n 2, 1) := by decide +kernel
theorem dX12_areOpposite_8 : decode cX12_areOpposite 8 = .ok (.iconst 1, 1) := by decide +kernel
theorem dX12_areOpposite_9 : decode cX12_areOpposite 9 = .ok (.istore_n 3, 1) := by decide +kernel
theorem dX12_areOpposite_10 : decode cX12_areOpposite 10 = .ok (.iconst 0, 1) := by decide +kernel
theorem dX12_areOpposite_11 : decode cX12_areOpposite 11 = .ok (.istore 4, 2) := by decide +kernel
theorem dX12_areOpposite_13 : decode cX12_areOpposite 13 = .ok (.iload 4, 2) := by decide +kernel
theorem dX12_areOpposite_15 : decode cX12_areOpposite 15 = .ok (.iload_n 2, 1) := by decide +kernel
theorem dX12_areOpposite_16 : decode cX12_areOpposite 16 = .ok (.if_icmp .gt 70, 3) := by decide +kernel
theorem dX12_areOpposite_19 : decode cX12_areOpposite 19 = .ok (.iload_n 3, 1) := by decide +kernel
theorem dX12_areOpposite_20 : decode cX12_areOpposite 20 = .ok (.ifCond .eq 58, 3) := by decide +kernel
theorem dX12_areOpposite_23 : decode cX12_areOpposite 23 = .ok (.aload_n 0, 1) := by decide +kernel
theorem dX12_areOpposite_24 : decode cX12_areOpposite 24 = .ok (.getfield 13, 3) := by decide +kernel
theorem dX12_areOpposite_27 : decode cX12_areOpposite 27 = .ok (.bipush 81, 2) := by decide +kernel
theorem dX12_areOpposite_29 : decode cX12_areOpposite 29 = .ok (.iload_n 1, 1) := by decide +kernel
theorem dX12_areOpposite_30 : decode cX12_areOpposite 30 = .ok (.imul, 1) := by decide +kernel
theorem dX12_areOpposite_31 : decode cX12_areOpposite 31 = .ok (.iload 4, 2) := by decide +kernel
theorem dX12_areOpposite_33 : decode cX12_areOpposite 33 = .ok (.iadd, 1) := by decide +kernel
theorem dX12_areOpposite_34 : decode cX12_areOpposite 34 = .ok (.iaload, 1) := by decide +kernel
theorem dX12_areOpposite_35 : decode cX12_areOpposite 35 = .ok (.aload_n 0, 1) := by decide +kernel
theorem dX12_areOpposite_36 : decode cX12_areOpposite 36 = .ok (.getfield 13, 3) := by decide +kernel
theorem dX12_areOpposite_39 : decode cX12_areOpposite 39 = .ok (.bipush 81, 2) := by decide +kernel
theorem dX12_areOpposite_41 : decode cX12_areOpposite 41 = .ok (.iload_n 1, 1) := by decide +kernel
theorem dX12_areOpposite_42 : decode cX12_areOpposite 42 = .ok (.imul, 1) := by decide +kernel
theorem dX12_areOpposite_43 : decode cX12_areOpposite 43 = .ok (.iload_n 2, 1) := by decide +kernel
theorem dX12_areOpposite_44 : decode cX12_areOpposite 44 = .ok (.iadd, 1) := by decide +kernel
theorem dX12_areOpposite_45 : decode cX12_areOpposite 45 = .ok (.iload 4, 2) := by decide +kernel
theorem dX12_areOpposite_47 : decode cX12_areOpposite 47 = .ok (.isub, 1) := by decide +kernel
theorem dX12_areOpposite_48 : decode cX12_areOpposite 48 = .ok (.iaload, 1) := by decide +kernel
theorem dX12_areOpposite_49 : decode cX12_areOpposite 49 = .ok (.iadd, 1) := by decide +kernel
theorem dX12_areOpposite_50 : decode cX12_areOpposite 50 = .ok (.aload_n 0, 1) := by decide +kernel
theorem dX12_areOpposite_51 : decode cX12_areOpposite 51 = .ok (.getfield 13, 3) := by decide +kernel
theorem dX12_areOpposite_54 : decode cX12_areOpposite 54 = .ok (.bipush 81, 2) := by decide +kernel
theorem dX12_areOpposite_56 : decode cX12_areOpposite 56 = .ok (.iload_n 1, 1) := by decide +kernel
theorem dX12_areOpposite_57 : decode cX12_areOpposite 57 = .ok (.imul, 1) := by decide +kernel
theorem dX12_areOpposite_58 : decode cX12_areOpposite 58 = .ok (.iaload, 1) := by decide +kernel
theorem dX12_areOpposite_59 : decode cX12_areOpposite 59 = .ok (.aload_n 0, 1) := by decide +kernel
theorem dX12_areOpposite_60 : decode cX12_areOpposite 60 = .ok (.getfield 13, 3) := by decide +kernel
theorem dX12_areOpposite_63 : decode cX12_areOpposite 63 = .ok (.bipush 81, 2) := by decide +kernel
theorem dX12_areOpposite_65 : decode cX12_areOpposite 65 = .ok (.iload_n 1, 1) := by decide +kernel
theorem dX12_areOpposite_66 : decode cX12_areOpposite 66 = .ok (.imul, 1) := by decide +kernel
theorem dX12_areOpposite_67 : decode cX12_areOpposite 67 = .ok (.iload_n 2, 1) := by decide +kernel
theorem dX12_areOpposite_68 : decode cX12_areOpposite 68 = .ok (.iadd, 1) := by decide +kernel
theorem dX12_areOpposite_69 : decode cX12_areOpposite 69 = .ok (.iaload, 1) := by decide +kernel
theorem dX12_areOpposite_70 : decode cX12_areOpposite 70 = .ok (.iadd, 1) := by decide +kernel
theorem dX12_areOpposite_71 : decode cX12_areOpposite 71 = .ok (.if_icmp .ne 7, 3) := by decide +kernel
theorem dX12_areOpposite_74 : decode cX12_areOpposite 74 = .ok (.iconst 1, 1) := by decide +kernel
theorem dX12_areOpposite_75 : decode cX12_areOpposite 75 = .ok (.goto 4, 3) := by decide +kernel
theorem dX12_areOpposite_78 : decode cX12_areOpposite 78 = .ok (.iconst 0, 1) := by decide +kernel
theorem dX12_areOpposite_79 : decode cX12_areOpposite 79 = .ok (.istore_n 3, 1) := by decide +kernel
theorem dX12_areOpposite_80 : decode cX12_areOpposite 80 = .ok (.iinc 4 1, 3) := by decide +kernel
theorem dX12_areOpposite_83 : decode cX12_areOpposite 83 = .ok (.goto (-70), 3) := by decide +kernel
theorem dX12_areOpposite_86 : decode cX12_areOpposite 86 = .ok (.iload_n 3, 1) := by decide +kernel
theorem dX12_areOpposite_87 : decode cX12_areOpposite 87 = .ok (.ireturn, 1) := by decide +kernel
theorem dX12_isNormal_0 : decode cX12_isNormal 0 = .ok (.iconst 1, 1) := by decide +kernel
theorem dX12_isNormal_1 : decode cX12_isNormal 1 = .ok (.istore_n 2, 1) := by decide +kernel
theorem dX12_isNormal_2 : decode cX12_isNormal 2 = .ok (.iconst 1, 1) := by decide +kernel
theorem dX12_isNormal_3 : decode cX12_isNormal 3 = .ok (.istore_n 3, 1) := by decide +kernel
theorem dX12_isNormal_4 : decode cX12_isNormal 4 = .ok (.iload_n 3, 1) := by decide +kernel
theorem dX12_isNormal_5 : decode cX12_isNormal 5 = .ok (.aload_n 0, 1) := by decide +kernel
theorem dX12_isNormal_6 : decode cX12_isNormal 6 = .ok (.iload_n 1, 1) := by decide +kernel
theorem dX12_isNormal_7 : decode cX12_isNormal 7 = .ok (.invokevirtual 100, 3) := by decide +kernel
theorem dX12_isNormal_10 : decode cX12_isNormal 10 = .ok (.if_icmp .gt 73, 3) := by decide +kernel
theorem dX12_isNormal_13 : decode cX12_isNormal 13 = .ok (.iconst 0, 1) := by decide +kernel
theorem dX12_isNormal_14 : decode cX12_isNormal 14 = .ok (.istore 4, 2) := by decide +kernel
theorem dX12_isNormal_16 : decode cX12_isNormal 16 = .ok (.iconst 0, 1) := by decide +kernel
theorem dX12_isNormal_17 : decode cX12_isNormal 17 = .ok (.istore 5, 2) := by decide +kernel
theorem dX12_isNormal_19 : decode cX12_isNormal 19 = .ok (.iload 5, 2) := by decide +kernel
theorem dX12_isNormal_21 : decode cX12_isNormal 21 = .ok (.aload_n 0, 1) := by decide +kernel
theorem dX12_isNormal_22 : decode cX12_isNormal 22 = .ok (.iload_n 1, 1) := by decide +kernel
theorem dX12_isNormal_23 : decode cX12_isNormal 23 = .ok (.invokevirtual 100, 3) := by decide +kernel
theorem dX12_isNormal_26 : decode cX12_isNormal 26 = .ok (.if_icmp .ge 35, 3) := by decide +kernel
theorem dX12_isNormal_29 : decode cX12_isNormal 29 = .ok (.iload 4, 2) := by decide +kernel
theorem dX12_isNormal_31 : decode cX12_isNormal 31 = .ok (.aload_n 0, 1) := by decide +kernel
theorem dX12_isNormal_32 : decode cX12_isNormal 32 = .ok (.getfield 13, 3) := by decide +kernel
theorem dX12_isNormal_35 : decode cX12_isNormal 35 = .ok (.bipush 81, 2) := by decide +kernel
theorem dX12_isNormal_37 : decode cX12_isNormal 37 = .ok (.iload_n 1, 1) := by decide +kernel
theorem dX12_isNormal_38 : decode cX12_isNormal 38 = .ok (.imul, 1) := by decide +kernel
theorem dX12_isNormal_39 : decode cX12_isNormal 39 = .ok (.iload 5, 2) := by decide +kernel
theorem dX12_isNormal_41 : decode cX12_isNormal 41 = .ok (.iadd, 1) := by decide +kernel
theorem dX12_isNormal_42 : decode cX12_isNormal 42 = .ok (.iaload, 1) := by decide +kernel
theorem dX12_isNormal_43 : decode cX12_isNormal 43 = .ok (.iload_n 3, 1) := by decide +kernel
theorem dX12_isNormal_44 : decode cX12_isNormal 44 = .ok (.if_icmp .ne 7, 3) := by decide +kernel
theorem dX12_isNormal_47 : decode cX12_isNormal 47 = .ok (.iconst 1, 1) := by decide +kernel
theorem dX12_isNormal_48 : decode cX12_isNormal 48 = .ok (.goto 4, 3) := by decide +kernel
theorem dX12_isNormal_51 : decode cX12_isNormal 51 = .ok (.iconst 0, 1) := by decide +kernel
theorem dX12_isNormal_52 : decode cX12_isNormal 52 = .ok (.iadd, 1) := by decide +kernel
theorem dX12_isNormal_53 : decode cX12_isNormal 53 = .ok (.istore 4, 2) := by decide +kernel
theorem dX12_isNormal_55 : decode cX12_isNormal 55 = .ok (.iinc 5 1, 3) := by decide +kernel
theorem dX12_isNormal_58 : decode cX12_isNormal 58 = .ok (.goto (-39), 3) := by decide +kernel
theorem dX12_isNormal_61 : decode cX12_isNormal 61 = .ok (.iload_n 2, 1) := by decide +kernel
theorem dX12_isNormal_62 : decode cX12_isNormal 62 = .ok (.ifCond .eq 13, 3) := by decide +kernel
theorem dX12_isNormal_65 : decode cX12_isNormal 65 = .ok (.iload 4, 2) := by decide +kernel
theorem dX12_isNormal_67 : decode cX12_isNormal 67 = .ok (.iconst 1, 1) := by decide +kernel
theorem dX12_isNormal_68 : decode cX12_isNormal 68 = .ok (.if_icmp .ne 7, 3) := by decide +kernel
theorem dX12_isNormal_71 : decode cX12_isNormal 71 = .ok (.iconst 1, 1) := by decide +kernel
theorem dX12_isNormal_72 : decode cX12_isNormal 72 = .ok (.goto 4, 3) := by decide +kernel
theorem dX12_isNormal_75 : decode cX12_isNormal 75 = .ok (.iconst 0, 1) := by decide +kernel
theorem dX12_isNormal_76 : decode cX12_isNormal 76 = .ok (.istore_n 2, 1) := by decide +kernel
theorem dX12_isNormal_77 : decode cX12_isNormal 77 = .ok (.iinc 3 1, 3) := by decide +kernel
theorem dX12_isNormal_80 : decode cX12_isNormal 80 = .ok (.goto (-76), 3) := by decide +kernel
theorem dX12_isNormal_83 : decode cX12_isNormal 83 = .ok (.iload_n 2, 1) := by decide +kernel
theorem dX12_isNormal_84 : decode cX12_isNormal 84 = .ok (.ireturn, 1) := by decide +kernel
theorem dX12_lawsOf_0 : decode cX12_lawsOf 0 = .ok (.iconst 1, 1) := by decide +kernel
theorem dX12_lawsOf_1 : decode cX12_lawsOf 1 = .ok (.istore_n 2, 1) := by decide +kernel
theorem dX12_lawsOf_2 : decode cX12_lawsOf 2 = .ok (.iconst 1, 1) := by decide +kernel
theorem dX12_lawsOf_3 : decode cX12_lawsOf 3 = .ok (.istore_n 3, 1) := by decide +kernel
theorem dX12_lawsOf_4 : decode cX12_lawsOf 4 = .ok (.iconst 0, 1) := by decide +kernel
theorem dX12_lawsOf_5 : decode cX12_lawsOf 5 = .ok (.istore 4, 2) := by decide +kernel
theorem dX12_lawsOf_7 : decode cX12_lawsOf 7 = .ok (.iload 4, 2) := by decide +kernel
theorem dX12_lawsOf_9 : decode cX12_lawsOf 9 = .ok (.aload_n 0, 1) := by decide +kernel
theorem dX12_lawsOf_10 : decode cX12_lawsOf 10 = .ok (.iload_n 1, 1) := by decide +kernel
theorem dX12_lawsOf_11 : decode cX12_lawsOf 11 = .ok (.invokevirtual 100, 3) := by decide +kernel
theorem dX12_lawsOf_14 : decode cX12_lawsOf 14 = .ok (.if_icmp .ge 34, 3) := by decide +kernel
theorem dX12_lawsOf_17 : decode cX12_lawsOf 17 = .ok (.iload_n 2, 1) := by decide +kernel
theorem dX12_lawsOf_18 : decode cX12_lawsOf 18 = .ok (.ifCond .eq 22, 3) := by decide +kernel
theorem dX12_lawsOf_21 : decode cX12_lawsOf 21 = .ok (.aload_n 0, 1) := by decide +kernel
theorem dX12_lawsOf_22 : decode cX12_lawsOf 22 = .ok (.getfield 13, 3) := by decide +kernel
theorem dX12_lawsOf_25 : decode cX12_lawsOf 25 = .ok (.bipush 81, 2) := by decide +kernel
theorem dX12_lawsOf_27 : decode cX12_lawsOf 27 = .ok (.iload_n 1, 1) := by decide +kernel
theorem dX12_lawsOf_28 : decode cX12_lawsOf 28 = .ok (.imul, 1) := by decide +kernel
theorem dX12_lawsOf_29 : decode cX12_lawsOf 29 = .ok (.iload 4, 2) := by decide +kernel
theorem dX12_lawsOf_31 : decode cX12_lawsOf 31 = .ok (.iadd, 1) := by decide +kernel
theorem dX12_lawsOf_32 : decode cX12_lawsOf 32 = .ok (.iaload, 1) := by decide +kernel
theorem dX12_lawsOf_33 : decode cX12_lawsOf 33 = .ok (.ifCond .le 7, 3) := by decide +kernel
theorem dX12_lawsOf_36 : decode cX12_lawsOf 36 = .ok (.iconst 1, 1) := by decide +kernel
theorem dX12_lawsOf_37 : decode cX12_lawsOf 37 = .ok (.goto 4, 3) := by decide +kernel
theorem dX12_lawsOf_40 : decode cX12_lawsOf 40 = .ok (.iconst 0, 1) := by decide +kernel
theorem dX12_lawsOf_41 : decode cX12_lawsOf 41 = .ok (.istore_n 2, 1) := by decide +kernel
theorem dX12_lawsOf_42 : decode cX12_lawsOf 42 = .ok (.iinc 4 1, 3) := by decide +kernel
theorem dX12_lawsOf_45 : decode cX12_lawsOf 45 = .ok (.goto (-38), 3) := by decide +kernel
theorem dX12_lawsOf_48 : decode cX12_lawsOf 48 = .ok (.iconst 0, 1) := by decide +kernel
theorem dX12_lawsOf_49 : decode cX12_lawsOf 49 = .ok (.istore 4, 2) := by decide +kernel
theorem dX12_lawsOf_51 : decode cX12_lawsOf 51 = .ok (.iload 4, 2) := by decide +kernel
theorem dX12_lawsOf_53 : decode cX12_lawsOf 53 = .ok (.aload_n 0, 1) := by decide +kernel
theorem dX12_lawsOf_54 : decode cX12_lawsOf 54 = .ok (.getfield 7, 3) := by decide +kernel
theorem dX12_lawsOf_57 : decode cX12_lawsOf 57 = .ok (.iload_n 1, 1) := by decide +kernel
theorem dX12_lawsOf_58 : decode cX12_lawsOf 58 = .ok (.iaload, 1) := by decide +kernel
theorem dX12_lawsOf_59 : decode cX12_lawsOf 59 = .ok (.if_icmp .ge 55, 3) := by decide +kernel
theorem dX12_lawsOf_62 : decode cX12_lawsOf 62 = .ok (.iload_n 3, 1) := by decide +kernel
theorem dX12_lawsOf_63 : decode cX12_lawsOf 63 = .ok (.ifCond .eq 43, 3) := by decide +kernel
theorem dX12_lawsOf_66 : decode cX12_lawsOf 66 = .ok (.aload_n 0, 1) := by decide +kernel
theorem dX12_lawsOf_67 : decode cX12_lawsOf 67 = .ok (.iload_n 1, 1) := by decide +kernel
theorem dX12_lawsOf_68 : decode cX12_lawsOf 68 = .ok (.iconst 0, 1) := by decide +kernel
theorem dX12_lawsOf_69 : decode cX12_lawsOf 69 = .ok (.iload 4, 2) := by decide +kernel
theorem dX12_lawsOf_71 : decode cX12_lawsOf 71 = .ok (.invokevirtual 103, 3) := by decide +kernel
theorem dX12_lawsOf_74 : decode cX12_lawsOf 74 = .ok (.aload_n 0, 1) := by decide +kernel
theorem dX12_lawsOf_75 : decode cX12_lawsOf 75 = .ok (.iload_n 1, 1) := by decide +kernel
theorem dX12_lawsOf_76 : decode cX12_lawsOf 76 = .ok (.iconst 0, 1) := by decide +kernel
theorem dX12_lawsOf_77 : decode cX12_lawsOf 77 = .ok (.iconst 0, 1) := by decide +kernel
theorem dX12_lawsOf_78 : decode cX12_lawsOf 78 = .ok (.invokevirtual 103, 3) := by decide +kernel
theorem dX12_lawsOf_81 : decode cX12_lawsOf 81 = .ok (.if_icmp .ne 25, 3) := by decide +kernel
theorem dX12_lawsOf_84 : decode cX12_lawsOf 84 = .ok (.aload_n 0, 1) := by decide +kernel
theorem dX12_lawsOf_85 : decode cX12_lawsOf 85 = .ok (.iload_n 1, 1) := by decide +kernel
theorem dX12_lawsOf_86 : decode cX12_lawsOf 86 = .ok (.iconst 1, 1) := by decide +kernel
theorem dX12_lawsOf_87 : decode cX12_lawsOf 87 = .ok (.iload 4, 2) := by decide +kernel
theorem dX12_lawsOf_89 : decode cX12_lawsOf 89 = .ok (.invokevirtual 103, 3) := by decide +kernel
theorem dX12_lawsOf_92 : decode cX12_lawsOf 92 = .ok (.aload_n 0, 1) := by decide +kernel
theorem dX12_lawsOf_93 : decode cX12_lawsOf 93 = .ok (.iload_n 1, 1) := by decide +kernel
theorem dX12_lawsOf_94 : decode cX12_lawsOf 94 = .ok (.iconst 0, 1) := by decide +kernel
theorem dX12_lawsOf_95 : decode cX12_lawsOf 95 = .ok (.iconst 0, 1) := by decide +kernel
theorem dX12_lawsOf_96 : decode cX12_lawsOf 96 = .ok (.invokevirtual 103, 3) := by decide +kernel
theorem dX12_lawsOf_99 : decode cX12_lawsOf 99 = .ok (.if_icmp .ne 7, 3) := by decide +kernel
theorem dX12_lawsOf_102 : decode cX12_lawsOf 102 = .ok (.iconst 1, 1) := by decide +kernel
theorem dX12_lawsOf_103 : decode cX12_lawsOf 103 = .ok (.goto 4, 3) := by decide +kernel
theorem dX12_lawsOf_106 : decode cX12_lawsOf 106 = .ok (.iconst 0, 1) := by decide +kernel
theorem dX12_lawsOf_107 : decode cX12_lawsOf 107 = .ok (.istore_n 3, 1) := by decide +kernel
theorem dX12_lawsOf_108 : decode cX12_lawsOf 108 = .ok (.iinc 4 1, 3) := by decide +kernel
theorem dX12_lawsOf_111 : decode cX12_lawsOf 111 = .ok (.goto (-60), 3) := by decide +kernel
theorem dX12_lawsOf_114 : decode cX12_lawsOf 114 = .ok (.iload_n 2, 1) := by decide +kernel
theorem dX12_lawsOf_115 : decode cX12_lawsOf 115 = .ok (.ifCond .eq 7, 3) := by decide +kernel
theorem dX12_lawsOf_118 : decode cX12_lawsOf 118 = .ok (.iconst 1, 1) := by decide +kernel
theorem dX12_lawsOf_119 : decode cX12_lawsOf 119 = .ok (.goto 4, 3) := by decide +kernel
theorem dX12_lawsOf_122 : decode cX12_lawsOf 122 = .ok (.iconst 0, 1) := by decide +kernel
theorem dX12_lawsOf_123 : decode cX12_lawsOf 123 = .ok (.aload_n 0, 1) := by decide +kernel
theorem dX12_lawsOf_124 : decode cX12_lawsOf 124 = .ok (.iload_n 1, 1) := by decide +kernel
theorem dX12_lawsOf_125 : decode cX12_lawsOf 125 = .ok (.iconst 0, 1) := by decide +kernel
theorem dX12_lawsOf_126 : decode cX12_lawsOf 126 = .ok (.invokevirtual 106, 3) := by decide +kernel
theorem dX12_lawsOf_129 : decode cX12_lawsOf 129 = .ok (.ifCond .eq 7, 3) := by decide +kernel
theorem dX12_lawsOf_132 : decode cX12_lawsOf 132 = .ok (.iconst 2, 1) := by decide +kernel
theorem dX12_lawsOf_133 : decode cX12_lawsOf 133 = .ok (.goto 4, 3) := by decide +kernel
theorem dX12_lawsOf_136 : decode cX12_lawsOf 136 = .ok (.iconst 0, 1) := by decide +kernel
theorem dX12_lawsOf_137 : decode cX12_lawsOf 137 = .ok (.iadd, 1) := by decide +kernel
theorem dX12_lawsOf_138 : decode cX12_lawsOf 138 = .ok (.aload_n 0, 1) := by decide +kernel
theorem dX12_lawsOf_139 : decode cX12_lawsOf 139 = .ok (.iload_n 1, 1) := by decide +kernel
theorem dX12_lawsOf_140 : decode cX12_lawsOf 140 = .ok (.iconst 1, 1) := by decide +kernel
theorem dX12_lawsOf_141 : decode cX12_lawsOf 141 = .ok (.invokevirtual 106, 3) := by decide +kernel
theorem dX12_lawsOf_144 : decode cX12_lawsOf 144 = .ok (.ifCond .eq 7, 3) := by decide +kernel
theorem dX12_lawsOf_147 : decode cX12_lawsOf 147 = .ok (.iconst 4, 1) := by decide +kernel
theorem dX12_lawsOf_148 : decode cX12_lawsOf 148 = .ok (.goto 4, 3) := by decide +kernel
theorem dX12_lawsOf_151 : decode cX12_lawsOf 151 = .ok (.iconst 0, 1) := by decide +kernel
theorem dX12_lawsOf_152 : decode cX12_lawsOf 152 = .ok (.iadd, 1) := by decide +kernel
theorem dX12_lawsOf_153 : decode cX12_lawsOf 153 = .ok (.aload_n 0, 1) := by decide +kernel
theorem dX12_lawsOf_154 : decode cX12_lawsOf 154 = .ok (.iload_n 1, 1) := by decide +kernel
theorem dX12_lawsOf_155 : decode cX12_lawsOf 155 = .ok (.invokevirtual 109, 3) := by decide +kernel
theorem dX12_lawsOf_158 : decode cX12_lawsOf 158 = .ok (.ifCond .eq 8, 3) := by decide +kernel
theorem dX12_lawsOf_161 : decode cX12_lawsOf 161 = .ok (.bipush 8, 2) := by decide +kernel
theorem dX12_lawsOf_163 : decode cX12_lawsOf 163 = .ok (.goto 4, 3) := by decide +kernel
theorem dX12_lawsOf_166 : decode cX12_lawsOf 166 = .ok (.iconst 0, 1) := by decide +kernel
theorem dX12_lawsOf_167 : decode cX12_lawsOf 167 = .ok (.iadd, 1) := by decide +kernel
theorem dX12_lawsOf_168 : decode cX12_lawsOf 168 = .ok (.istore 4, 2) := by decide +kernel
theorem dX12_lawsOf_170 : decode cX12_lawsOf 170 = .ok (.iload 4, 2) := by decide +kernel
theorem dX12_lawsOf_172 : decode cX12_lawsOf 172 = .ok (.aload_n 0, 1) := by decide +kernel
theorem dX12_lawsOf_173 : decode cX12_lawsOf 173 = .ok (.iload_n 1, 1) := by decide +kernel
theorem dX12_lawsOf_174 : decode cX12_lawsOf 174 = .ok (.iconst 2, 1) := by decide +kernel
theorem dX12_lawsOf_175 : decode cX12_lawsOf 175 = .ok (.invokevirtual 106, 3) := by decide +kernel
theorem dX12_lawsOf_178 : decode cX12_lawsOf 178 = .ok (.ifCond .eq 17, 3) := by decide +kernel
theorem dX12_lawsOf_181 : decode cX12_lawsOf 181 = .ok (.aload_n 0, 1) := by decide +kernel
theorem dX12_lawsOf_182 : decode cX12_lawsOf 182 = .ok (.iload_n 1, 1) := by decide +kernel
theorem dX12_lawsOf_183 : decode cX12_lawsOf 183 = .ok (.iconst 3, 1) := by decide +kernel
theorem dX12_lawsOf_184 : decode cX12_lawsOf 184 = .ok (.invokevirtual 106, 3) := by decide +kernel
theorem dX12_lawsOf_187 : decode cX12_lawsOf 187 = .ok (.ifCond .eq 8, 3) := by decide +kernel
theorem dX12_lawsOf_190 : decode cX12_lawsOf 190 = .ok (.bipush 16, 2) := by decide +kernel
theorem dX12_lawsOf_192 : decode cX12_lawsOf 192 = .ok (.goto 4, 3) := by decide +kernel
theorem dX12_lawsOf_195 : decode cX12_lawsOf 195 = .ok (.iconst 0, 1) := by decide +kernel
theorem dX12_lawsOf_196 : decode cX12_lawsOf 196 = .ok (.iadd, 1) := by decide +kernel
theorem dX12_lawsOf_197 : decode cX12_lawsOf 197 = .ok (.istore 4, 2) := by decide +kernel
theorem dX12_lawsOf_199 : decode cX12_lawsOf 199 = .ok (.iload 4, 2) := by decide +kernel
theorem dX12_lawsOf_201 : decode cX12_lawsOf 201 = .ok (.aload_n 0, 1) := by decide +kernel
theorem dX12_lawsOf_202 : decode cX12_lawsOf 202 = .ok (.iload_n 1, 1) := by decide +kernel
theorem dX12_lawsOf_203 : decode cX12_lawsOf 203 = .ok (.invokevirtual 112, 3) := by decide +kernel
theorem dX12_lawsOf_206 : decode cX12_lawsOf 206 = .ok (.ifCond .eq 8, 3) := by decide +kernel
theorem dX12_lawsOf_209 : decode cX12_lawsOf 209 = .ok (.bipush 32, 2) := by decide +kernel
theorem dX12_lawsOf_211 : decode cX12_lawsOf 211 = .ok (.goto 4, 3) := by decide +kernel
theorem dX12_lawsOf_214 : decode cX12_lawsOf 214 = .ok (.iconst 0, 1) := by decide +kernel
theorem dX12_lawsOf_215 : decode cX12_lawsOf 215 = .ok (.iadd, 1) := by decide +kernel
theorem dX12_lawsOf_216 : decode cX12_lawsOf 216 = .ok (.aload_n 0, 1) := by decide +kernel
theorem dX12_lawsOf_217 : decode cX12_lawsOf 217 = .ok (.iload_n 1, 1) := by decide +kernel
theorem dX12_lawsOf_218 : decode cX12_lawsOf 218 = .ok (.invokevirtual 115, 3) := by decide +kernel
theorem dX12_lawsOf_221 : decode cX12_lawsOf 221 = .ok (.ifCond .eq 8, 3) := by decide +kernel
theorem dX12_lawsOf_224 : decode cX12_lawsOf 224 = .ok (.bipush 64, 2) := by decide +kernel
theorem dX12_lawsOf_226 : decode cX12_lawsOf 226 = .ok (.goto 4, 3) := by decide +kernel
theorem dX12_lawsOf_229 : decode cX12_lawsOf 229 = .ok (.iconst 0, 1) := by decide +kernel
theorem dX12_lawsOf_230 : decode cX12_lawsOf 230 = .ok (.iadd, 1) := by decide +kernel
theorem dX12_lawsOf_231 : decode cX12_lawsOf 231 = .ok (.iload_n 3, 1) := by decide +kernel
theorem dX12_lawsOf_232 : decode cX12_lawsOf 232 = .ok (.ifCond .eq 9, 3) := by decide +kernel
theorem dX12_lawsOf_235 : decode cX12_lawsOf 235 = .ok (.sipush 128, 3) := by decide +kernel
theorem dX12_lawsOf_238 : decode cX12_lawsOf 238 = .ok (.goto 4, 3) := by decide +kernel
theorem dX12_lawsOf_241 : decode cX12_lawsOf 241 = .ok (.iconst 0, 1) := by decide +kernel
theorem dX12_lawsOf_242 : decode cX12_lawsOf 242 = .ok (.iadd, 1) := by decide +kernel
theorem dX12_lawsOf_243 : decode cX12_lawsOf 243 = .ok (.ireturn, 1) := by decide +kernel
theorem dX12_laws_0 : decode cX12_laws 0 = .ok (.aload_n 0, 1) := by decide +kernel
theorem dX12_laws_1 : decode cX12_laws 1 = .ok (.aload_n 0, 1) := by decide +kernel
theorem dX12_laws_2 : decode cX12_laws 2 = .ok (.iload_n 1, 1) := by decide +kernel
theorem dX12_laws_3 : decode cX12_laws 3 = .ok (.invokevirtual 59, 3) := by decide +kernel
theorem dX12_laws_6 : decode cX12_laws 6 = .ok (.ifCond .eq 7, 3) := by decide +kernel
theorem dX12_laws_9 : decode cX12_laws 9 = .ok (.iconst 0, 1) := by decide +kernel
theorem dX12_laws_10 : decode cX12_laws 10 = .ok (.goto 4, 3) := by decide +kernel
theorem dX12_laws_13 : decode cX12_laws 13 = .ok (.iconst 1, 1) := by decide +kernel
theorem dX12_laws_14 : decode cX12_laws 14 = .ok (.invokevirtual 63, 3) := by decide +kernel
theorem dX12_laws_17 : decode cX12_laws 17 = .ok (.ifCond .eq 11, 3) := by decide +kernel
theorem dX12_laws_20 : decode cX12_laws 20 = .ok (.aload_n 0, 1) := by decide +kernel
theorem dX12_laws_21 : decode cX12_laws 21 = .ok (.iload_n 1, 1) := by decide +kernel
theorem dX12_laws_22 : decode cX12_laws 22 = .ok (.invokevirtual 118, 3) := by decide +kernel
theorem dX12_laws_25 : decode cX12_laws 25 = .ok (.goto 4, 3) := by decide +kernel
theorem dX12_laws_28 : decode cX12_laws 28 = .ok (.iconst 0, 1) := by decide +kernel
theorem dX12_laws_29 : decode cX12_laws 29 = .ok (.ireturn, 1) := by decide +kernel
theorem dX12_sum_0 : decode cX12_sum 0 = .ok (.aload_n 0, 1) := by decide +kernel
theorem dX12_sum_1 : decode cX12_sum 1 = .ok (.iload_n 1, 1) := by decide +kernel
theorem dX12_sum_2 : decode cX12_sum 2 = .ok (.invokevirtual 59, 3) := by decide +kernel
theorem dX12_sum_5 : decode cX12_sum 5 = .ok (.istore 4, 2) := by decide +kernel
theorem dX12_sum_7 : decode cX12_sum 7 = .ok (.iload 4, 2) := by decide +kernel
theorem dX12_sum_9 : decode cX12_sum 9 = .ok (.ifCond .eq 32, 3) := by decide +kernel
theorem dX12_sum_12 : decode cX12_sum 12 = .ok (.iload_n 2, 1) := by decide +kernel
theorem dX12_sum_13 : decode cX12_sum 13 = .ok (.iconst 0, 1) := by decide +kernel
theorem dX12_sum_14 : decode cX12_sum 14 = .ok (.iconst 3, 1) := by decide +kernel
theorem dX12_sum_15 : decode cX12_sum 15 = .ok (.invokestatic 55, 3) := by decide +kernel
theorem dX12_sum_18 : decode cX12_sum 18 = .ok (.ifCond .eq 23, 3) := by decide +kernel
theorem dX12_sum_21 : decode cX12_sum 21 = .ok (.iload_n 3, 1) := by decide +kernel
theorem dX12_sum_22 : decode cX12_sum 22 = .ok (.iconst 0, 1) := by decide +kernel
theorem dX12_sum_23 : decode cX12_sum 23 = .ok (.aload_n 0, 1) := by decide +kernel
theorem dX12_sum_24 : decode cX12_sum 24 = .ok (.getfield 7, 3) := by decide +kernel
theorem dX12_sum_27 : decode cX12_sum 27 = .ok (.iload_n 1, 1) := by decide +kernel
theorem dX12_sum_28 : decode cX12_sum 28 = .ok (.iaload, 1) := by decide +kernel
theorem dX12_sum_29 : decode cX12_sum 29 = .ok (.iconst 1, 1) := by decide +kernel
theorem dX12_sum_30 : decode cX12_sum 30 = .ok (.isub, 1) := by decide +kernel
theorem dX12_sum_31 : decode cX12_sum 31 = .ok (.invokestatic 55, 3) := by decide +kernel
theorem dX12_sum_34 : decode cX12_sum 34 = .ok (.ifCond .eq 7, 3) := by decide +kernel
theorem dX12_sum_37 : decode cX12_sum 37 = .ok (.iconst 1, 1) := by decide +kernel
theorem dX12_sum_38 : decode cX12_sum 38 = .ok (.goto 4, 3) := by decide +kernel
theorem dX12_sum_41 : decode cX12_sum 41 = .ok (.iconst 0, 1) := by decide +kernel
theorem dX12_sum_42 : decode cX12_sum 42 = .ok (.istore 5, 2) := by decide +kernel
theorem dX12_sum_44 : decode cX12_sum 44 = .ok (.aload_n 0, 1) := by decide +kernel
theorem dX12_sum_45 : decode cX12_sum 45 = .ok (.iload 4, 2) := by decide +kernel
theorem dX12_sum_47 : decode cX12_sum 47 = .ok (.ifCond .ne 7, 3) := by decide +kernel
theorem dX12_sum_50 : decode cX12_sum 50 = .ok (.iconst 1, 1) := by decide +kernel
theorem dX12_sum_51 : decode cX12_sum 51 = .ok (.goto 13, 3) := by decide +kernel
theorem dX12_sum_54 : decode cX12_sum 54 = .ok (.iload 5, 2) := by decide +kernel
theorem dX12_sum_56 : decode cX12_sum 56 = .ok (.ifCond .ne 7, 3) := by decide +kernel
theorem dX12_sum_59 : decode cX12_sum 59 = .ok (.iconst 2, 1) := by decide +kernel
theorem dX12_sum_60 : decode cX12_sum 60 = .ok (.goto 4, 3) := by decide +kernel
theorem dX12_sum_63 : decode cX12_sum 63 = .ok (.iconst 0, 1) := by decide +kernel
theorem dX12_sum_64 : decode cX12_sum 64 = .ok (.invokevirtual 63, 3) := by decide +kernel
theorem dX12_sum_67 : decode cX12_sum 67 = .ok (.ifCond .eq 13, 3) := by decide +kernel
theorem dX12_sum_70 : decode cX12_sum 70 = .ok (.aload_n 0, 1) := by decide +kernel
theorem dX12_sum_71 : decode cX12_sum 71 = .ok (.iload_n 1, 1) := by decide +kernel
theorem dX12_sum_72 : decode cX12_sum 72 = .ok (.iload_n 2, 1) := by decide +kernel
theorem dX12_sum_73 : decode cX12_sum 73 = .ok (.iload_n 3, 1) := by decide +kernel
theorem dX12_sum_74 : decode cX12_sum 74 = .ok (.invokevirtual 97, 3) := by decide +kernel
theorem dX12_sum_77 : decode cX12_sum 77 = .ok (.goto 4, 3) := by decide +kernel
theorem dX12_sum_80 : decode cX12_sum 80 = .ok (.iconst 0, 1) := by decide +kernel
theorem dX12_sum_81 : decode cX12_sum 81 = .ok (.ireturn, 1) := by decide +kernel
theorem dX12_turned_0 : decode cX12_turned 0 = .ok (.iload_n 2, 1) := by decide +kernel
theorem dX12_turned_1 : decode cX12_turned 1 = .ok (.iload_n 0, 1) := by decide +kernel
theorem dX12_turned_2 : decode cX12_turned 2 = .ok (.idiv, 1) := by decide +kernel
theorem dX12_turned_3 : decode cX12_turned 3 = .ok (.istore_n 3, 1) := by decide +kernel
theorem dX12_turned_4 : decode cX12_turned 4 = .ok (.iload_n 2, 1) := by decide +kernel
theorem dX12_turned_5 : decode cX12_turned 5 = .ok (.iload_n 0, 1) := by decide +kernel
theorem dX12_turned_6 : decode cX12_turned 6 = .ok (.irem, 1) := by decide +kernel
theorem dX12_turned_7 : decode cX12_turned 7 = .ok (.istore 4, 2) := by decide +kernel
theorem dX12_turned_9 : decode cX12_turned 9 = .ok (.iload_n 0, 1) := by decide +kernel
theorem dX12_turned_10 : decode cX12_turned 10 = .ok (.iconst 1, 1) := by decide +kernel
theorem dX12_turned_11 : decode cX12_turned 11 = .ok (.isub, 1) := by decide +kernel
theorem dX12_turned_12 : decode cX12_turned 12 = .ok (.istore 5, 2) := by decide +kernel
theorem dX12_turned_14 : decode cX12_turned 14 = .ok (.iload_n 1, 1) := by decide +kernel
theorem dX12_turned_15 : decode cX12_turned 15 = .ok (.ifCond .ne 7, 3) := by decide +kernel
theorem dX12_turned_18 : decode cX12_turned 18 = .ok (.iload_n 2, 1) := by decide +kernel
theorem dX12_turned_19 : decode cX12_turned 19 = .ok (.goto 49, 3) := by decide +kernel
theorem dX12_turned_22 : decode cX12_turned 22 = .ok (.iload_n 1, 1) := by decide +kernel
theorem dX12_turned_23 : decode cX12_turned 23 = .ok (.iconst 1, 1) := by decide +kernel
theorem dX12_turned_24 : decode cX12_turned 24 = .ok (.if_icmp .ne 15, 3) := by decide +kernel
theorem dX12_turned_27 : decode cX12_turned 27 = .ok (.iload_n 0, 1) := by decide +kernel
theorem dX12_turned_28 : decode cX12_turned 28 = .ok (.iload 5, 2) := by decide +kernel
theorem dX12_turned_30 : decode cX12_turned 30 = .ok (.iload 4, 2) := by decide +kernel
theorem dX12_turned_32 : decode cX12_turned 32 = .ok (.isub, 1) := by decide +kernel
theorem dX12_turned_33 : decode cX12_turned 33 = .ok (.imul, 1) := by decide +kernel
theorem dX12_turned_34 : decode cX12_turned 34 = .ok (.iload_n 3, 1) := by decide +kernel
theorem dX12_turned_35 : decode cX12_turned 35 = .ok (.iadd, 1) := by decide +kernel
theorem dX12_turned_36 : decode cX12_turned 36 = .ok (.goto 32, 3) := by decide +kernel
theorem dX12_turned_39 : decode cX12_turned 39 = .ok (.iload_n 1, 1) := by decide +kernel
theorem dX12_turned_40 : decode cX12_turned 40 = .ok (.iconst 2, 1) := by decide +kernel
theorem dX12_turned_41 : decode cX12_turned 41 = .ok (.if_icmp .ne 18, 3) := by decide +kernel
theorem dX12_turned_44 : decode cX12_turned 44 = .ok (.iload_n 0, 1) := by decide +kernel
theorem dX12_turned_45 : decode cX12_turned 45 = .ok (.iload 5, 2) := by decide +kernel
theorem dX12_turned_47 : decode cX12_turned 47 = .ok (.iload_n 3, 1) := by decide +kernel
theorem dX12_turned_48 : decode cX12_turned 48 = .ok (.isub, 1) := by decide +kernel
theorem dX12_turned_49 : decode cX12_turned 49 = .ok (.imul, 1) := by decide +kernel
theorem dX12_turned_50 : decode cX12_turned 50 = .ok (.iload 5, 2) := by decide +kernel
theorem dX12_turned_52 : decode cX12_turned 52 = .ok (.iadd, 1) := by decide +kernel
theorem dX12_turned_53 : decode cX12_turned 53 = .ok (.iload 4, 2) := by decide +kernel
theorem dX12_turned_55 : decode cX12_turned 55 = .ok (.isub, 1) := by decide +kernel
theorem dX12_turned_56 : decode cX12_turned 56 = .ok (.goto 12, 3) := by decide +kernel
theorem dX12_turned_59 : decode cX12_turned 59 = .ok (.iload_n 0, 1) := by decide +kernel
theorem dX12_turned_60 : decode cX12_turned 60 = .ok (.iload 4, 2) := by decide +kernel
theorem dX12_turned_62 : decode cX12_turned 62 = .ok (.imul, 1) := by decide +kernel
theorem dX12_turned_63 : decode cX12_turned 63 = .ok (.iload 5, 2) := by decide +kernel
theorem dX12_turned_65 : decode cX12_turned 65 = .ok (.iadd, 1) := by decide +kernel
theorem dX12_turned_66 : decode cX12_turned 66 = .ok (.iload_n 3, 1) := by decide +kernel
theorem dX12_turned_67 : decode cX12_turned 67 = .ok (.isub, 1) := by decide +kernel
theorem dX12_turned_68 : decode cX12_turned 68 = .ok (.ireturn, 1) := by decide +kernel
theorem dX12_flipped_0 : decode cX12_flipped 0 = .ok (.iload_n 1, 1) := by decide +kernel
theorem dX12_flipped_1 : decode cX12_flipped 1 = .ok (.iload_n 1, 1) := by decide +kernel
theorem dX12_flipped_2 : decode cX12_flipped 2 = .ok (.iload_n 0, 1) := by decide +kernel
theorem dX12_flipped_3 : decode cX12_flipped 3 = .ok (.irem, 1) := by decide +kernel
theorem dX12_flipped_4 : decode cX12_flipped 4 = .ok (.isub, 1) := by decide +kernel
theorem dX12_flipped_5 : decode cX12_flipped 5 = .ok (.iload_n 0, 1) := by decide +kernel
theorem dX12_flipped_6 : decode cX12_flipped 6 = .ok (.iadd, 1) := by decide +kernel
theorem dX12_flipped_7 : decode cX12_flipped 7 = .ok (.iconst 1, 1) := by decide +kernel
theorem dX12_flipped_8 : decode cX12_flipped 8 = .ok (.isub, 1) := by decide +kernel
theorem dX12_flipped_9 : decode cX12_flipped 9 = .ok (.iload_n 1, 1) := by decide +kernel
theorem dX12_flipped_10 : decode cX12_flipped 10 = .ok (.iload_n 0, 1) := by decide +kernel
theorem dX12_flipped_11 : decode cX12_flipped 11 = .ok (.irem, 1) := by decide +kernel
theorem dX12_flipped_12 : decode cX12_flipped 12 = .ok (.isub, 1) := by decide +kernel
theorem dX12_flipped_13 : decode cX12_flipped 13 = .ok (.ireturn, 1) := by decide +kernel
theorem dX12_comesFrom_0 : decode cX12_comesFrom 0 = .ok (.iload_n 3, 1) := by decide +kernel
theorem dX12_comesFrom_1 : decode cX12_comesFrom 1 = .ok (.iload_n 0, 1) := by decide +kernel
theorem dX12_comesFrom_2 : decode cX12_comesFrom 2 = .ok (.idiv, 1) := by decide +kernel
theorem dX12_comesFrom_3 : decode cX12_comesFrom 3 = .ok (.istore 4, 2) := by decide +kernel
theorem dX12_comesFrom_5 : decode cX12_comesFrom 5 = .ok (.iload_n 3, 1) := by decide +kernel
theorem dX12_comesFrom_6 : decode cX12_comesFrom 6 = .ok (.iload_n 0, 1) := by decide +kernel
theorem dX12_comesFrom_7 : decode cX12_comesFrom 7 = .ok (.irem, 1) := by decide +kernel
theorem dX12_comesFrom_8 : decode cX12_comesFrom 8 = .ok (.istore 5, 2) := by decide +kernel
theorem dX12_comesFrom_10 : decode cX12_comesFrom 10 = .ok (.iload_n 0, 1) := by decide +kernel
theorem dX12_comesFrom_11 : decode cX12_comesFrom 11 = .ok (.iconst 1, 1) := by decide +kernel
theorem dX12_comesFrom_12 : decode cX12_comesFrom 12 = .ok (.isub, 1) := by decide +kernel
theorem dX12_comesFrom_13 : decode cX12_comesFrom 13 = .ok (.istore 6, 2) := by decide +kernel
theorem dX12_comesFrom_15 : decode cX12_comesFrom 15 = .ok (.iload_n 1, 1) := by decide +kernel
theorem dX12_comesFrom_16 : decode cX12_comesFrom 16 = .ok (.tableswitch 85 0 4 #[36, 43, 85, 57, 71], 36) := by decide +kernel
theorem dX12_comesFrom_52 : decode cX12_comesFrom 52 = .ok (.iload_n 0, 1) := by decide +kernel
theorem dX12_comesFrom_53 : decode cX12_comesFrom 53 = .ok (.iload_n 2, 1) := by decide +kernel
theorem dX12_comesFrom_54 : decode cX12_comesFrom 54 = .ok (.iload_n 3, 1) := by decide +kernel
theorem dX12_comesFrom_55 : decode cX12_comesFrom 55 = .ok (.invokestatic 121, 3) := by decide +kernel
theorem dX12_comesFrom_58 : decode cX12_comesFrom 58 = .ok (.ireturn, 1) := by decide +kernel
theorem dX12_comesFrom_59 : decode cX12_comesFrom 59 = .ok (.iload_n 2, 1) := by decide +kernel
theorem dX12_comesFrom_60 : decode cX12_comesFrom 60 = .ok (.ifCond .ne 7, 3) := by decide +kernel
theorem dX12_comesFrom_63 : decode cX12_comesFrom 63 = .ok (.iload_n 3, 1) := by decide +kernel
theorem dX12_comesFrom_64 : decode cX12_comesFrom 64 = .ok (.goto 8, 3) := by decide +kernel
theorem dX12_comesFrom_67 : decode cX12_comesFrom 67 = .ok (.iload_n 0, 1) := by decide +kernel
theorem dX12_comesFrom_68 : decode cX12_comesFrom 68 = .ok (.iload_n 3, 1) := by decide +kernel
theorem dX12_comesFrom_69 : decode cX12_comesFrom 69 = .ok (.invokestatic 124, 3) := by decide +kernel
theorem dX12_comesFrom_72 : decode cX12_comesFrom 72 = .ok (.ireturn, 1) := by decide +kernel
theorem dX12_comesFrom_73 : decode cX12_comesFrom 73 = .ok (.iload_n 0, 1) := by decide +kernel
theorem dX12_comesFrom_74 : decode cX12_comesFrom 74 = .ok (.iload 4, 2) := by decide +kernel
theorem dX12_comesFrom_76 : decode cX12_comesFrom 76 = .ok (.iload_n 2, 1) := by decide +kernel
theorem dX12_comesFrom_77 : decode cX12_comesFrom 77 = .ok (.isub, 1) := by decide +kernel
theorem dX12_comesFrom_78 : decode cX12_comesFrom 78 = .ok (.iload_n 0, 1) := by decide +kernel
theorem dX12_comesFrom_79 : decode cX12_comesFrom 79 = .ok (.iadd, 1) := by decide +kernel
theorem dX12_comesFrom_80 : decode cX12_comesFrom 80 = .ok (.iload_n 0, 1) := by decide +kernel
theorem dX12_comesFrom_81 : decode cX12_comesFrom 81 = .ok (.irem, 1) := by decide +kernel
theorem dX12_comesFrom_82 : decode cX12_comesFrom 82 = .ok (.imul, 1) := by decide +kernel
theorem dX12_comesFrom_83 : decode cX12_comesFrom 83 = .ok (.iload 5, 2) := by decide +kernel
theorem dX12_comesFrom_85 : decode cX12_comesFrom 85 = .ok (.iadd, 1) := by decide +kernel
theorem dX12_comesFrom_86 : decode cX12_comesFrom 86 = .ok (.ireturn, 1) := by decide +kernel
theorem dX12_comesFrom_87 : decode cX12_comesFrom 87 = .ok (.iload_n 0, 1) := by decide +kernel
theorem dX12_comesFrom_88 : decode cX12_comesFrom 88 = .ok (.iload 4, 2) := by decide +kernel
theorem dX12_comesFrom_90 : decode cX12_comesFrom 90 = .ok (.imul, 1) := by decide +kernel
theorem dX12_comesFrom_91 : decode cX12_comesFrom 91 = .ok (.iload 5, 2) := by decide +kernel
theorem dX12_comesFrom_93 : decode cX12_comesFrom 93 = .ok (.iload_n 2, 1) := by decide +kernel
theorem dX12_comesFrom_94 : decode cX12_comesFrom 94 = .ok (.isub, 1) := by decide +kernel
theorem dX12_comesFrom_95 : decode cX12_comesFrom 95 = .ok (.iload_n 0, 1) := by decide +kernel
theorem dX12_comesFrom_96 : decode cX12_comesFrom 96 = .ok (.iadd, 1) := by decide +kernel
theorem dX12_comesFrom_97 : decode cX12_comesFrom 97 = .ok (.iload_n 0, 1) := by decide +kernel
theorem dX12_comesFrom_98 : decode cX12_comesFrom 98 = .ok (.irem, 1) := by decide +kernel
theorem dX12_comesFrom_99 : decode cX12_comesFrom 99 = .ok (.iadd, 1) := by decide +kernel
theorem dX12_comesFrom_100 : decode cX12_comesFrom 100 = .ok (.ireturn, 1) := by decide +kernel
theorem dX12_comesFrom_101 : decode cX12_comesFrom 101 = .ok (.iload_n 0, 1) := by decide +kernel
theorem dX12_comesFrom_102 : decode cX12_comesFrom 102 = .ok (.iload 4, 2) := by decide +kernel
theorem dX12_comesFrom_104 : decode cX12_comesFrom 104 = .ok (.iload_n 2, 1) := by decide +kernel
theorem dX12_comesFrom_105 : decode cX12_comesFrom 105 = .ok (.if_icmp .ne 10, 3) := by decide +kernel
theorem dX12_comesFrom_108 : decode cX12_comesFrom 108 = .ok (.iload 6, 2) := by decide +kernel
theorem dX12_comesFrom_110 : decode cX12_comesFrom 110 = .ok (.iload_n 2, 1) := by decide +kernel
theorem dX12_comesFrom_111 : decode cX12_comesFrom 111 = .ok (.isub, 1) := by decide +kernel
theorem dX12_comesFrom_112 : decode cX12_comesFrom 112 = .ok (.goto 18, 3) := by decide +kernel
theorem dX12_comesFrom_115 : decode cX12_comesFrom 115 = .ok (.iload 4, 2) := by decide +kernel
theorem dX12_comesFrom_117 : decode cX12_comesFrom 117 = .ok (.iload 6, 2) := by decide +kernel
theorem dX12_comesFrom_119 : decode cX12_comesFrom 119 = .ok (.iload_n 2, 1) := by decide +kernel
theorem dX12_comesFrom_120 : decode cX12_comesFrom 120 = .ok (.isub, 1) := by decide +kernel
theorem dX12_comesFrom_121 : decode cX12_comesFrom 121 = .ok (.if_icmp .ne 7, 3) := by decide +kernel
theorem dX12_comesFrom_124 : decode cX12_comesFrom 124 = .ok (.iload_n 2, 1) := by decide +kernel
theorem dX12_comesFrom_125 : decode cX12_comesFrom 125 = .ok (.goto 5, 3) := by decide +kernel
theorem dX12_comesFrom_128 : decode cX12_comesFrom 128 = .ok (.iload 4, 2) := by decide +kernel
theorem dX12_comesFrom_130 : decode cX12_comesFrom 130 = .ok (.imul, 1) := by decide +kernel
theorem dX12_comesFrom_131 : decode cX12_comesFrom 131 = .ok (.iload 5, 2) := by decide +kernel
theorem dX12_comesFrom_133 : decode cX12_comesFrom 133 = .ok (.iload_n 2, 1) := by decide +kernel
theorem dX12_comesFrom_134 : decode cX12_comesFrom 134 = .ok (.if_icmp .ne 10, 3) := by decide +kernel
theorem dX12_comesFrom_137 : decode cX12_comesFrom 137 = .ok (.iload 6, 2) := by decide +kernel
theorem dX12_comesFrom_139 : decode cX12_comesFrom 139 = .ok (.iload_n 2, 1) := by decide +kernel
theorem dX12_comesFrom_140 : decode cX12_comesFrom 140 = .ok (.isub, 1) := by decide +kernel
theorem dX12_comesFrom_141 : decode cX12_comesFrom 141 = .ok (.goto 18, 3) := by decide +kernel
theorem dX12_comesFrom_144 : decode cX12_comesFrom 144 = .ok (.iload 5, 2) := by decide +kernel
theorem dX12_comesFrom_146 : decode cX12_comesFrom 146 = .ok (.iload 6, 2) := by decide +kernel
theorem dX12_comesFrom_148 : decode cX12_comesFrom 148 = .ok (.iload_n 2, 1) := by decide +kernel
theorem dX12_comesFrom_149 : decode cX12_comesFrom 149 = .ok (.isub, 1) := by decide +kernel
theorem dX12_comesFrom_150 : decode cX12_comesFrom 150 = .ok (.if_icmp .ne 7, 3) := by decide +kernel
theorem dX12_comesFrom_153 : decode cX12_comesFrom 153 = .ok (.iload_n 2, 1) := by decide +kernel
theorem dX12_comesFrom_154 : decode cX12_comesFrom 154 = .ok (.goto 5, 3) := by decide +kernel
theorem dX12_comesFrom_157 : decode cX12_comesFrom 157 = .ok (.iload 5, 2) := by decide +kernel
theorem dX12_comesFrom_159 : decode cX12_comesFrom 159 = .ok (.iadd, 1) := by decide +kernel
theorem dX12_comesFrom_160 : decode cX12_comesFrom 160 = .ok (.ireturn, 1) := by decide +kernel
theorem dX12_canComplement_0 : decode cX12_canComplement 0 = .ok (.iconst 1, 1) := by decide +kernel
theorem dX12_canComplement_1 : decode cX12_canComplement 1 = .ok (.istore_n 3, 1) := by decide +kernel
theorem dX12_canComplement_2 : decode cX12_canComplement 2 = .ok (.iconst 0, 1) := by decide +kernel
theorem dX12_canComplement_3 : decode cX12_canComplement 3 = .ok (.istore 4, 2) := by decide +kernel
theorem dX12_canComplement_5 : decode cX12_canComplement 5 = .ok (.iload 4, 2) := by decide +kernel
theorem dX12_canComplement_7 : decode cX12_canComplement 7 = .ok (.aload_n 0, 1) := by decide +kernel
theorem dX12_canComplement_8 : decode cX12_canComplement 8 = .ok (.iload_n 1, 1) := by decide +kernel
theorem dX12_canComplement_9 : decode cX12_canComplement 9 = .ok (.invokevirtual 100, 3) := by decide +kernel
theorem dX12_canComplement_12 : decode cX12_canComplement 12 = .ok (.if_icmp .ge 52, 3) := by decide +kernel
theorem dX12_canComplement_15 : decode cX12_canComplement 15 = .ok (.aload_n 0, 1) := by decide +kernel
theorem dX12_canComplement_16 : decode cX12_canComplement 16 = .ok (.getfield 13, 3) := by decide +kernel
theorem dX12_canComplement_19 : decode cX12_canComplement 19 = .ok (.bipush 81, 2) := by decide +kernel
theorem dX12_canComplement_21 : decode cX12_canComplement 21 = .ok (.iload_n 1, 1) := by decide +kernel
theorem dX12_canComplement_22 : decode cX12_canComplement 22 = .ok (.imul, 1) := by decide +kernel
theorem dX12_canComplement_23 : decode cX12_canComplement 23 = .ok (.iload 4, 2) := by decide +kernel
theorem dX12_canComplement_25 : decode cX12_canComplement 25 = .ok (.iadd, 1) := by decide +kernel
theorem dX12_canComplement_26 : decode cX12_canComplement 26 = .ok (.iaload, 1) := by decide +kernel
theorem dX12_canComplement_27 : decode cX12_canComplement 27 = .ok (.istore 5, 2) := by decide +kernel
theorem dX12_canComplement_29 : decode cX12_canComplement 29 = .ok (.iload_n 3, 1) := by decide +kernel
theorem dX12_canComplement_30 : decode cX12_canComplement 30 = .ok (.ifCond .eq 26, 3) := by decide +kernel
theorem dX12_canComplement_33 : decode cX12_canComplement 33 = .ok (.iload 5, 2) := by decide +kernel
theorem dX12_canComplement_35 : decode cX12_canComplement 35 = .ok (.ifCond .eq 17, 3) := by decide +kernel
theorem dX12_canComplement_38 : decode cX12_canComplement 38 = .ok (.iload_n 2, 1) := by decide +kernel
theorem dX12_canComplement_39 : decode cX12_canComplement 39 = .ok (.iload 5, 2) := by decide +kernel
theorem dX12_canComplement_41 : decode cX12_canComplement 41 = .ok (.isub, 1) := by decide +kernel
theorem dX12_canComplement_42 : decode cX12_canComplement 42 = .ok (.iconst 1, 1) := by decide +kernel
theorem dX12_canComplement_43 : decode cX12_canComplement 43 = .ok (.sipush 999, 3) := by decide +kernel
theorem dX12_canComplement_46 : decode cX12_canComplement 46 = .ok (.invokestatic 55, 3) := by decide +kernel
theorem dX12_canComplement_49 : decode cX12_canComplement 49 = .ok (.ifCond .eq 7, 3) := by decide +kernel
theorem dX12_canComplement_52 : decode cX12_canComplement 52 = .ok (.iconst 1, 1) := by decide +kernel
theorem dX12_canComplement_53 : decode cX12_canComplement 53 = .ok (.goto 4, 3) := by decide +kernel
theorem dX12_canComplement_56 : decode cX12_canComplement 56 = .ok (.iconst 0, 1) := by decide +kernel
theorem dX12_canComplement_57 : decode cX12_canComplement 57 = .ok (.istore_n 3, 1) := by decide +kernel
theorem dX12_canComplement_58 : decode cX12_canComplement 58 = .ok (.iinc 4 1, 3) := by decide +kernel
theorem dX12_canComplement_61 : decode cX12_canComplement 61 = .ok (.goto (-56), 3) := by decide +kernel
theorem dX12_canComplement_64 : decode cX12_canComplement 64 = .ok (.iload_n 3, 1) := by decide +kernel
theorem dX12_canComplement_65 : decode cX12_canComplement 65 = .ok (.ireturn, 1) := by decide +kernel
theorem dX12_mostBy_0 : decode cX12_mostBy 0 = .ok (.iload_n 2, 1) := by decide +kernel
theorem dX12_mostBy_1 : decode cX12_mostBy 1 = .ok (.ifCond .ne 7, 3) := by decide +kernel
theorem dX12_mostBy_4 : decode cX12_mostBy 4 = .ok (.iconst 3, 1) := by decide +kernel
theorem dX12_mostBy_5 : decode cX12_mostBy 5 = .ok (.goto 31, 3) := by decide +kernel
theorem dX12_mostBy_8 : decode cX12_mostBy 8 = .ok (.iload_n 2, 1) := by decide +kernel
theorem dX12_mostBy_9 : decode cX12_mostBy 9 = .ok (.iconst 1, 1) := by decide +kernel
theorem dX12_mostBy_10 : decode cX12_mostBy 10 = .ok (.if_icmp .ne 7, 3) := by decide +kernel
theorem dX12_mostBy_13 : decode cX12_mostBy 13 = .ok (.iconst 1, 1) := by decide +kernel
theorem dX12_mostBy_14 : decode cX12_mostBy 14 = .ok (.goto 22, 3) := by decide +kernel
theorem dX12_mostBy_17 : decode cX12_mostBy 17 = .ok (.iload_n 2, 1) := by decide +kernel
theorem dX12_mostBy_18 : decode cX12_mostBy 18 = .ok (.iconst 2, 1) := by decide +kernel
theorem dX12_mostBy_19 : decode cX12_mostBy 19 = .ok (.if_icmp .ne 9, 3) := by decide +kernel
theorem dX12_mostBy_22 : decode cX12_mostBy 22 = .ok (.sipush 1998, 3) := by decide +kernel
theorem dX12_mostBy_25 : decode cX12_mostBy 25 = .ok (.goto 11, 3) := by decide +kernel
theorem dX12_mostBy_28 : decode cX12_mostBy 28 = .ok (.aload_n 0, 1) := by decide +kernel
theorem dX12_mostBy_29 : decode cX12_mostBy 29 = .ok (.getfield 7, 3) := by decide +kernel
theorem dX12_mostBy_32 : decode cX12_mostBy 32 = .ok (.iload_n 1, 1) := by decide +kernel
theorem dX12_mostBy_33 : decode cX12_mostBy 33 = .ok (.iaload, 1) := by decide +kernel
theorem dX12_mostBy_34 : decode cX12_mostBy 34 = .ok (.iconst 1, 1) := by decide +kernel
theorem dX12_mostBy_35 : decode cX12_mostBy 35 = .ok (.isub, 1) := by decide +kernel
theorem dX12_mostBy_36 : decode cX12_mostBy 36 = .ok (.ireturn, 1) := by decide +kernel
theorem dX12_change_0 : decode cX12_change 0 = .ok (.aload_n 0, 1) := by decide +kernel
theorem dX12_change_1 : decode cX12_change 1 = .ok (.iload_n 1, 1) := by decide +kernel
theorem dX12_change_2 : decode cX12_change 2 = .ok (.invokevirtual 59, 3) := by decide +kernel
theorem dX12_change_5 : decode cX12_change 5 = .ok (.istore 4, 2) := by decide +kernel
theorem dX12_change_7 : decode cX12_change 7 = .ok (.iload 4, 2) := by decide +kernel
theorem dX12_change_9 : decode cX12_change 9 = .ok (.ifCond .eq 30, 3) := by decide +kernel
theorem dX12_change_12 : decode cX12_change 12 = .ok (.iload_n 2, 1) := by decide +kernel
theorem dX12_change_13 : decode cX12_change 13 = .ok (.iconst 0, 1) := by decide +kernel
theorem dX12_change_14 : decode cX12_change 14 = .ok (.iconst 5, 1) := by decide +kernel
theorem dX12_change_15 : decode cX12_change 15 = .ok (.invokestatic 55, 3) := by decide +kernel
theorem dX12_change_18 : decode cX12_change 18 = .ok (.ifCond .eq 21, 3) := by decide +kernel
theorem dX12_change_21 : decode cX12_change 21 = .ok (.iload_n 3, 1) := by decide +kernel
theorem dX12_change_22 : decode cX12_change 22 = .ok (.iconst 0, 1) := by decide +kernel
theorem dX12_change_23 : decode cX12_change 23 = .ok (.aload_n 0, 1) := by decide +kernel
theorem dX12_change_24 : decode cX12_change 24 = .ok (.iload_n 1, 1) := by decide +kernel
theorem dX12_change_25 : decode cX12_change 25 = .ok (.iload_n 2, 1) := by decide +kernel
theorem dX12_change_26 : decode cX12_change 26 = .ok (.invokevirtual 128, 3) := by decide +kernel
theorem dX12_change_29 : decode cX12_change 29 = .ok (.invokestatic 55, 3) := by decide +kernel
theorem dX12_change_32 : decode cX12_change 32 = .ok (.ifCond .eq 7, 3) := by decide +kernel
theorem dX12_change_35 : decode cX12_change 35 = .ok (.iconst 1, 1) := by decide +kernel
theorem dX12_change_36 : decode cX12_change 36 = .ok (.goto 4, 3) := by decide +kernel
theorem dX12_change_39 : decode cX12_change 39 = .ok (.iconst 0, 1) := by decide +kernel
theorem dX12_change_40 : decode cX12_change 40 = .ok (.istore 5, 2) := by decide +kernel
theorem dX12_change_42 : decode cX12_change 42 = .ok (.aload_n 0, 1) := by decide +kernel
theorem dX12_change_43 : decode cX12_change 43 = .ok (.iload 4, 2) := by decide +kernel
theorem dX12_change_45 : decode cX12_change 45 = .ok (.ifCond .ne 7, 3) := by decide +kernel
theorem dX12_change_48 : decode cX12_change 48 = .ok (.iconst 1, 1) := by decide +kernel
theorem dX12_change_49 : decode cX12_change 49 = .ok (.goto 31, 3) := by decide +kernel
theorem dX12_change_52 : decode cX12_change 52 = .ok (.iload 5, 2) := by decide +kernel
theorem dX12_change_54 : decode cX12_change 54 = .ok (.ifCond .ne 7, 3) := by decide +kernel
theorem dX12_change_57 : decode cX12_change 57 = .ok (.iconst 2, 1) := by decide +kernel
theorem dX12_change_58 : decode cX12_change 58 = .ok (.goto 22, 3) := by decide +kernel
theorem dX12_change_61 : decode cX12_change 61 = .ok (.iload_n 2, 1) := by decide +kernel
theorem dX12_change_62 : decode cX12_change 62 = .ok (.iconst 2, 1) := by decide +kernel
theorem dX12_change_63 : decode cX12_change 63 = .ok (.if_icmp .ne 16, 3) := by decide +kernel
theorem dX12_change_66 : decode cX12_change 66 = .ok (.aload_n 0, 1) := by decide +kernel
theorem dX12_change_67 : decode cX12_change 67 = .ok (.iload_n 1, 1) := by decide +kernel
theorem dX12_change_68 : decode cX12_change 68 = .ok (.iload_n 3, 1) := by decide +kernel
theorem dX12_change_69 : decode cX12_change 69 = .ok (.invokevirtual 131, 3) := by decide +kernel
theorem dX12_change_72 : decode cX12_change 72 = .ok (.ifCond .ne 7, 3) := by decide +kernel
theorem dX12_change_75 : decode cX12_change 75 = .ok (.iconst 3, 1) := by decide +kernel
theorem dX12_change_76 : decode cX12_change 76 = .ok (.goto 4, 3) := by decide +kernel
theorem dX12_change_79 : decode cX12_change 79 = .ok (.iconst 0, 1) := by decide +kernel
theorem dX12_change_80 : decode cX12_change 80 = .ok (.invokevirtual 63, 3) := by decide +kernel
theorem dX12_change_83 : decode cX12_change 83 = .ok (.ifCond .ne 5, 3) := by decide +kernel
theorem dX12_change_86 : decode cX12_change 86 = .ok (.iconst 0, 1) := by decide +kernel
theorem dX12_change_87 : decode cX12_change 87 = .ok (.ireturn, 1) := by decide +kernel
theorem dX12_change_88 : decode cX12_change 88 = .ok (.aload_n 0, 1) := by decide +kernel
theorem dX12_change_89 : decode cX12_change 89 = .ok (.getfield 7, 3) := by decide +kernel
theorem dX12_change_92 : decode cX12_change 92 = .ok (.iload_n 1, 1) := by decide +kernel
theorem dX12_change_93 : decode cX12_change 93 = .ok (.iaload, 1) := by decide +kernel
theorem dX12_change_94 : decode cX12_change 94 = .ok (.istore 6, 2) := by decide +kernel
theorem dX12_change_96 : decode cX12_change 96 = .ok (.iconst 0, 1) := by decide +kernel
theorem dX12_change_97 : decode cX12_change 97 = .ok (.istore 7, 2) := by decide +kernel
theorem dX12_change_99 : decode cX12_change 99 = .ok (.iconst 0, 1) := by decide +kernel
theorem dX12_change_100 : decode cX12_change 100 = .ok (.istore 8, 2) := by decide +kernel
theorem dX12_change_102 : decode cX12_change 102 = .ok (.iload 8, 2) := by decide +kernel
theorem dX12_change_104 : decode cX12_change 104 = .ok (.iload 6, 2) := by decide +kernel
theorem dX12_change_106 : decode cX12_change 106 = .ok (.iload 6, 2) := by decide +kernel
theorem dX12_change_108 : decode cX12_change 108 = .ok (.imul, 1) := by decide +kernel
theorem dX12_change_109 : decode cX12_change 109 = .ok (.if_icmp .ge 92, 3) := by decide +kernel
theorem dX12_change_112 : decode cX12_change 112 = .ok (.aload_n 0, 1) := by decide +kernel
theorem dX12_change_113 : decode cX12_change 113 = .ok (.getfield 13, 3) := by decide +kernel
theorem dX12_change_116 : decode cX12_change 116 = .ok (.bipush 81, 2) := by decide +kernel
theorem dX12_change_118 : decode cX12_change 118 = .ok (.iload_n 1, 1) := by decide +kernel
theorem dX12_change_119 : decode cX12_change 119 = .ok (.imul, 1) := by decide +kernel
theorem dX12_change_120 : decode cX12_change 120 = .ok (.iload 8, 2) := by decide +kernel
theorem dX12_change_122 : decode cX12_change 122 = .ok (.iadd, 1) := by decide +kernel
theorem dX12_change_123 : decode cX12_change 123 = .ok (.iaload, 1) := by decide +kernel
theorem dX12_change_124 : decode cX12_change 124 = .ok (.istore 9, 2) := by decide +kernel
theorem dX12_change_126 : decode cX12_change 126 = .ok (.aload_n 0, 1) := by decide +kernel
theorem dX12_change_127 : decode cX12_change 127 = .ok (.getfield 16, 3) := by decide +kernel
theorem dX12_change_130 : decode cX12_change 130 = .ok (.iload 8, 2) := by decide +kernel
theorem dX12_change_132 : decode cX12_change 132 = .ok (.iload_n 2, 1) := by decide +kernel
theorem dX12_change_133 : decode cX12_change 133 = .ok (.iconst 2, 1) := by decide +kernel
theorem dX12_change_134 : decode cX12_change 134 = .ok (.if_icmp .eq 25, 3) := by decide +kernel
theorem dX12_change_137 : decode cX12_change 137 = .ok (.aload_n 0, 1) := by decide +kernel
theorem dX12_change_138 : decode cX12_change 138 = .ok (.getfield 13, 3) := by decide +kernel
theorem dX12_change_141 : decode cX12_change 141 = .ok (.bipush 81, 2) := by decide +kernel
theorem dX12_change_143 : decode cX12_change 143 = .ok (.iload_n 1, 1) := by decide +kernel
theorem dX12_change_144 : decode cX12_change 144 = .ok (.imul, 1) := by decide +kernel
theorem dX12_change_145 : decode cX12_change 145 = .ok (.iload 6, 2) := by decide +kernel
theorem dX12_change_147 : decode cX12_change 147 = .ok (.iload_n 2, 1) := by decide +kernel
theorem dX12_change_148 : decode cX12_change 148 = .ok (.iload_n 3, 1) := by decide +kernel
theorem dX12_change_149 : decode cX12_change 149 = .ok (.iload 8, 2) := by decide +kernel
theorem dX12_change_151 : decode cX12_change 151 = .ok (.invokestatic 134, 3) := by decide +kernel
theorem dX12_change_154 : decode cX12_change 154 = .ok (.iadd, 1) := by decide +kernel
theorem dX12_change_155 : decode cX12_change 155 = .ok (.iaload, 1) := by decide +kernel
theorem dX12_change_156 : decode cX12_change 156 = .ok (.goto 16, 3) := by decide +kernel
theorem dX12_change_159 : decode cX12_change 159 = .ok (.iload 9, 2) := by decide +kernel
theorem dX12_change_161 : decode cX12_change 161 = .ok (.ifCond .ne 7, 3) := by decide +kernel
theorem dX12_change_164 : decode cX12_change 164 = .ok (.iconst 0, 1) := by decide +kernel
theorem dX12_change_165 : decode cX12_change 165 = .ok (.goto 7, 3) := by decide +kernel
theorem dX12_change_168 : decode cX12_change 168 = .ok (.iload_n 3, 1) := by decide +kernel
theorem dX12_change_169 : decode cX12_change 169 = .ok (.iload 9, 2) := by decide +kernel
theorem dX12_change_171 : decode cX12_change 171 = .ok (.isub, 1) := by decide +kernel
theorem dX12_change_172 : decode cX12_change 172 = .ok (.iastore, 1) := by decide +kernel
theorem dX12_change_173 : decode cX12_change 173 = .ok (.iload 7, 2) := by decide +kernel
theorem dX12_change_175 : decode cX12_change 175 = .ok (.aload_n 0, 1) := by decide +kernel
theorem dX12_change_176 : decode cX12_change 176 = .ok (.getfield 16, 3) := by decide +kernel
theorem dX12_change_179 : decode cX12_change 179 = .ok (.iload 8, 2) := by decide +kernel
theorem dX12_change_181 : decode cX12_change 181 = .ok (.iaload, 1) := by decide +kernel
theorem dX12_change_182 : decode cX12_change 182 = .ok (.iload 9, 2) := by decide +kernel
theorem dX12_change_184 : decode cX12_change 184 = .ok (.if_icmp .ne 7, 3) := by decide +kernel
theorem dX12_change_187 : decode cX12_change 187 = .ok (.iconst 0, 1) := by decide +kernel
theorem dX12_change_188 : decode cX12_change 188 = .ok (.goto 4, 3) := by decide +kernel
theorem dX12_change_191 : decode cX12_change 191 = .ok (.iconst 1, 1) := by decide +kernel
theorem dX12_change_192 : decode cX12_change 192 = .ok (.iadd, 1) := by decide +kernel
theorem dX12_change_193 : decode cX12_change 193 = .ok (.istore 7, 2) := by decide +kernel
theorem dX12_change_195 : decode cX12_change 195 = .ok (.iinc 8 1, 3) := by decide +kernel
theorem dX12_change_198 : decode cX12_change 198 = .ok (.goto (-96), 3) := by decide +kernel
theorem dX12_change_201 : decode cX12_change 201 = .ok (.iconst 0, 1) := by decide +kernel
theorem dX12_change_202 : decode cX12_change 202 = .ok (.istore 8, 2) := by decide +kernel
theorem dX12_change_204 : decode cX12_change 204 = .ok (.iload 8, 2) := by decide +kernel
theorem dX12_change_206 : decode cX12_change 206 = .ok (.iload 6, 2) := by decide +kernel
theorem dX12_change_208 : decode cX12_change 208 = .ok (.iload 6, 2) := by decide +kernel
theorem dX12_change_210 : decode cX12_change 210 = .ok (.imul, 1) := by decide +kernel
theorem dX12_change_211 : decode cX12_change 211 = .ok (.if_icmp .ge 28, 3) := by decide +kernel
theorem dX12_change_214 : decode cX12_change 214 = .ok (.aload_n 0, 1) := by decide +kernel
theorem dX12_change_215 : decode cX12_change 215 = .ok (.getfield 13, 3) := by decide +kernel
theorem dX12_change_218 : decode cX12_change 218 = .ok (.bipush 81, 2) := by decide +kernel
theorem dX12_change_220 : decode cX12_change 220 = .ok (.iload_n 1, 1) := by decide +kernel
theorem dX12_change_221 : decode cX12_change 221 = .ok (.imul, 1) := by decide +kernel
theorem dX12_change_222 : decode cX12_change 222 = .ok (.iload 8, 2) := by decide +kernel
theorem dX12_change_224 : decode cX12_change 224 = .ok (.iadd, 1) := by decide +kernel
theorem dX12_change_225 : decode cX12_change 225 = .ok (.aload_n 0, 1) := by decide +kernel
theorem dX12_change_226 : decode cX12_change 226 = .ok (.getfield 16, 3) := by decide +kernel
theorem dX12_change_229 : decode cX12_change 229 = .ok (.iload 8, 2) := by decide +kernel
theorem dX12_change_231 : decode cX12_change 231 = .ok (.iaload, 1) := by decide +kernel
theorem dX12_change_232 : decode cX12_change 232 = .ok (.iastore, 1) := by decide +kernel
theorem dX12_change_233 : decode cX12_change 233 = .ok (.iinc 8 1, 3) := by decide +kernel
theorem dX12_change_236 : decode cX12_change 236 = .ok (.goto (-32), 3) := by decide +kernel
theorem dX12_change_239 : decode cX12_change 239 = .ok (.iload 7, 2) := by decide +kernel
theorem dX12_change_241 : decode cX12_change 241 = .ok (.ireturn, 1) := by decide +kernel
theorem dX12_formAt_0 : decode cX12_formAt 0 = .ok (.aload_n 0, 1) := by decide +kernel
theorem dX12_formAt_1 : decode cX12_formAt 1 = .ok (.getfield 7, 3) := by decide +kernel
theorem dX12_formAt_4 : decode cX12_formAt 4 = .ok (.iload_n 1, 1) := by decide +kernel
theorem dX12_formAt_5 : decode cX12_formAt 5 = .ok (.iaload, 1) := by decide +kernel
theorem dX12_formAt_6 : decode cX12_formAt 6 = .ok (.istore 4, 2) := by decide +kernel
theorem dX12_formAt_8 : decode cX12_formAt 8 = .ok (.iload 4, 2) := by decide +kernel
theorem dX12_formAt_10 : decode cX12_formAt 10 = .ok (.iload_n 2, 1) := by decide +kernel
theorem dX12_formAt_11 : decode cX12_formAt 11 = .ok (.iconst 4, 1) := by decide +kernel
theorem dX12_formAt_12 : decode cX12_formAt 12 = .ok (.irem, 1) := by decide +kernel
theorem dX12_formAt_13 : decode cX12_formAt 13 = .ok (.iload_n 3, 1) := by decide +kernel
theorem dX12_formAt_14 : decode cX12_formAt 14 = .ok (.invokestatic 121, 3) := by decide +kernel
theorem dX12_formAt_17 : decode cX12_formAt 17 = .ok (.istore 5, 2) := by decide +kernel
theorem dX12_formAt_19 : decode cX12_formAt 19 = .ok (.aload_n 0, 1) := by decide +kernel
theorem dX12_formAt_20 : decode cX12_formAt 20 = .ok (.getfield 13, 3) := by decide +kernel
theorem dX12_formAt_23 : decode cX12_formAt 23 = .ok (.bipush 81, 2) := by decide +kernel
theorem dX12_formAt_25 : decode cX12_formAt 25 = .ok (.iload_n 1, 1) := by decide +kernel
theorem dX12_formAt_26 : decode cX12_formAt 26 = .ok (.imul, 1) := by decide +kernel
theorem dX12_formAt_27 : decode cX12_formAt 27 = .ok (.iload_n 2, 1) := by decide +kernel
theorem dX12_formAt_28 : decode cX12_formAt 28 = .ok (.iconst 4, 1) := by decide +kernel
theorem dX12_formAt_29 : decode cX12_formAt 29 = .ok (.if_icmp .ge 8, 3) := by decide +kernel
theorem dX12_formAt_32 : decode cX12_formAt 32 = .ok (.iload 5, 2) := by decide +kernel
theorem dX12_formAt_34 : decode cX12_formAt 34 = .ok (.goto 10, 3) := by decide +kernel
theorem dX12_formAt_37 : decode cX12_formAt 37 = .ok (.iload 4, 2) := by decide +kernel
theorem dX12_formAt_39 : decode cX12_formAt 39 = .ok (.iload 5, 2) := by decide +kernel
theorem dX12_formAt_41 : decode cX12_formAt 41 = .ok (.invokestatic 124, 3) := by decide +kernel
theorem dX12_formAt_44 : decode cX12_formAt 44 = .ok (.iadd, 1) := by decide +kernel
theorem dX12_formAt_45 : decode cX12_formAt 45 = .ok (.iaload, 1) := by decide +kernel
theorem dX12_formAt_46 : decode cX12_formAt 46 = .ok (.ireturn, 1) := by decide +kernel
theorem dX12_isForm_0 : decode cX12_isForm 0 = .ok (.aload_n 0, 1) := by decide +kernel
theorem dX12_isForm_1 : decode cX12_isForm 1 = .ok (.getfield 7, 3) := by decide +kernel
theorem dX12_isForm_4 : decode cX12_isForm 4 = .ok (.iload_n 1, 1) := by decide +kernel
theorem dX12_isForm_5 : decode cX12_isForm 5 = .ok (.iaload, 1) := by decide +kernel
theorem dX12_isForm_6 : decode cX12_isForm 6 = .ok (.aload_n 0, 1) := by decide +kernel
theorem dX12_isForm_7 : decode cX12_isForm 7 = .ok (.getfield 7, 3) := by decide +kernel
theorem dX12_isForm_10 : decode cX12_isForm 10 = .ok (.iload_n 3, 1) := by decide +kernel
theorem dX12_isForm_11 : decode cX12_isForm 11 = .ok (.iaload, 1) := by decide +kernel
theorem dX12_isForm_12 : decode cX12_isForm 12 = .ok (.if_icmp .ne 7, 3) := by decide +kernel
theorem dX12_isForm_15 : decode cX12_isForm 15 = .ok (.iconst 1, 1) := by decide +kernel
theorem dX12_isForm_16 : decode cX12_isForm 16 = .ok (.goto 4, 3) := by decide +kernel
theorem dX12_isForm_19 : decode cX12_isForm 19 = .ok (.iconst 0, 1) := by decide +kernel
theorem dX12_isForm_20 : decode cX12_isForm 20 = .ok (.istore 4, 2) := by decide +kernel
theorem dX12_isForm_22 : decode cX12_isForm 22 = .ok (.iconst 0, 1) := by decide +kernel
theorem dX12_isForm_23 : decode cX12_isForm 23 = .ok (.istore 5, 2) := by decide +kernel
theorem dX12_isForm_25 : decode cX12_isForm 25 = .ok (.iload 5, 2) := by decide +kernel
theorem dX12_isForm_27 : decode cX12_isForm 27 = .ok (.aload_n 0, 1) := by decide +kernel
theorem dX12_isForm_28 : decode cX12_isForm 28 = .ok (.iload_n 1, 1) := by decide +kernel
theorem dX12_isForm_29 : decode cX12_isForm 29 = .ok (.invokevirtual 100, 3) := by decide +kernel
theorem dX12_isForm_32 : decode cX12_isForm 32 = .ok (.if_icmp .ge 44, 3) := by decide +kernel
theorem dX12_isForm_35 : decode cX12_isForm 35 = .ok (.iload 4, 2) := by decide +kernel
theorem dX12_isForm_37 : decode cX12_isForm 37 = .ok (.ifCond .eq 39, 3) := by decide +kernel
theorem dX12_isForm_40 : decode cX12_isForm 40 = .ok (.aload_n 0, 1) := by decide +kernel
theorem dX12_isForm_41 : decode cX12_isForm 41 = .ok (.iload_n 1, 1) := by decide +kernel
theorem dX12_isForm_42 : decode cX12_isForm 42 = .ok (.iload_n 2, 1) := by decide +kernel
theorem dX12_isForm_43 : decode cX12_isForm 43 = .ok (.iload 5, 2) := by decide +kernel
theorem dX12_isForm_45 : decode cX12_isForm 45 = .ok (.invokevirtual 138, 3) := by decide +kernel
theorem dX12_isForm_48 : decode cX12_isForm 48 = .ok (.aload_n 0, 1) := by decide +kernel
theorem dX12_isForm_49 : decode cX12_isForm 49 = .ok (.getfield 13, 3) := by decide +kernel
theorem dX12_isForm_52 : decode cX12_isForm 52 = .ok (.bipush 81, 2) := by decide +kernel
theorem dX12_isForm_54 : decode cX12_isForm 54 = .ok (.iload_n 3, 1) := by decide +kernel
theorem dX12_isForm_55 : decode cX12_isForm 55 = .ok (.imul, 1) := by decide +kernel
theorem dX12_isForm_56 : decode cX12_isForm 56 = .ok (.iload 5, 2) := by decide +kernel
theorem dX12_isForm_58 : decode cX12_isForm 58 = .ok (.iadd, 1) := by decide +kernel
theorem dX12_isForm_59 : decode cX12_isForm 59 = .ok (.iaload, 1) := by decide +kernel
theorem dX12_isForm_60 : decode cX12_isForm 60 = .ok (.if_icmp .ne 7, 3) := by decide +kernel
theorem dX12_isForm_63 : decode cX12_isForm 63 = .ok (.iconst 1, 1) := by decide +kernel
theorem dX12_isForm_64 : decode cX12_isForm 64 = .ok (.goto 4, 3) := by decide +kernel
theorem dX12_isForm_67 : decode cX12_isForm 67 = .ok (.iconst 0, 1) := by decide +kernel
theorem dX12_isForm_68 : decode cX12_isForm 68 = .ok (.istore 4, 2) := by decide +kernel
theorem dX12_isForm_70 : decode cX12_isForm 70 = .ok (.iinc 5 1, 3) := by decide +kernel
theorem dX12_isForm_73 : decode cX12_isForm 73 = .ok (.goto (-48), 3) := by decide +kernel
theorem dX12_isForm_76 : decode cX12_isForm 76 = .ok (.iload 4, 2) := by decide +kernel
theorem dX12_isForm_78 : decode cX12_isForm 78 = .ok (.ireturn, 1) := by decide +kernel
theorem dX12_areKin_0 : decode cX12_areKin 0 = .ok (.iconst 0, 1) := by decide +kernel
theorem dX12_areKin_1 : decode cX12_areKin 1 = .ok (.istore_n 3, 1) := by decide +kernel
theorem dX12_areKin_2 : decode cX12_areKin 2 = .ok (.iconst 0, 1) := by decide +kernel
theorem dX12_areKin_3 : decode cX12_areKin 3 = .ok (.istore 4, 2) := by decide +kernel
theorem dX12_areKin_5 : decode cX12_areKin 5 = .ok (.iload 4, 2) := by decide +kernel
theorem dX12_areKin_7 : decode cX12_areKin 7 = .ok (.bipush 8, 2) := by decide +kernel
theorem dX12_areKin_9 : decode cX12_areKin 9 = .ok (.if_icmp .ge 30, 3) := by decide +kernel
theorem dX12_areKin_12 : decode cX12_areKin 12 = .ok (.iload_n 3, 1) := by decide +kernel
theorem dX12_areKin_13 : decode cX12_areKin 13 = .ok (.ifCond .ne 14, 3) := by decide +kernel
theorem dX12_areKin_16 : decode cX12_areKin 16 = .ok (.aload_n 0, 1) := by decide +kernel
theorem dX12_areKin_17 : decode cX12_areKin 17 = .ok (.iload_n 1, 1) := by decide +kernel
theorem dX12_areKin_18 : decode cX12_areKin 18 = .ok (.iload 4, 2) := by decide +kernel
theorem dX12_areKin_20 : decode cX12_areKin 20 = .ok (.iload_n 2, 1) := by decide +kernel
theorem dX12_areKin_21 : decode cX12_areKin 21 = .ok (.invokevirtual 141, 3) := by decide +kernel
theorem dX12_areKin_24 : decode cX12_areKin 24 = .ok (.ifCond .eq 7, 3) := by decide +kernel
theorem dX12_areKin_27 : decode cX12_areKin 27 = .ok (.iconst 1, 1) := by decide +kernel
theorem dX12_areKin_28 : decode cX12_areKin 28 = .ok (.goto 4, 3) := by decide +kernel
theorem dX12_areKin_31 : decode cX12_areKin 31 = .ok (.iconst 0, 1) := by decide +kernel
theorem dX12_areKin_32 : decode cX12_areKin 32 = .ok (.istore_n 3, 1) := by decide +kernel
theorem dX12_areKin_33 : decode cX12_areKin 33 = .ok (.iinc 4 1, 3) := by decide +kernel
theorem dX12_areKin_36 : decode cX12_areKin 36 = .ok (.goto (-31), 3) := by decide +kernel
theorem dX12_areKin_39 : decode cX12_areKin 39 = .ok (.iload_n 3, 1) := by decide +kernel
theorem dX12_areKin_40 : decode cX12_areKin 40 = .ok (.ireturn, 1) := by decide +kernel
theorem dX12_same_0 : decode cX12_same 0 = .ok (.aload_n 0, 1) := by decide +kernel
theorem dX12_same_1 : decode cX12_same 1 = .ok (.aload_n 0, 1) := by decide +kernel
theorem dX12_same_2 : decode cX12_same 2 = .ok (.iload_n 1, 1) := by decide +kernel
theorem dX12_same_3 : decode cX12_same 3 = .ok (.invokevirtual 59, 3) := by decide +kernel
theorem dX12_same_6 : decode cX12_same 6 = .ok (.ifCond .eq 15, 3) := by decide +kernel
theorem dX12_same_9 : decode cX12_same 9 = .ok (.aload_n 0, 1) := by decide +kernel
theorem dX12_same_10 : decode cX12_same 10 = .ok (.iload_n 2, 1) := by decide +kernel
theorem dX12_same_11 : decode cX12_same 11 = .ok (.invokevirtual 59, 3) := by decide +kernel
theorem dX12_same_14 : decode cX12_same 14 = .ok (.ifCond .eq 7, 3) := by decide +kernel
theorem dX12_same_17 : decode cX12_same 17 = .ok (.iconst 0, 1) := by decide +kernel
theorem dX12_same_18 : decode cX12_same 18 = .ok (.goto 4, 3) := by decide +kernel
theorem dX12_same_21 : decode cX12_same 21 = .ok (.iconst 1, 1) := by decide +kernel
theorem dX12_same_22 : decode cX12_same 22 = .ok (.invokevirtual 63, 3) := by decide +kernel
theorem dX12_same_25 : decode cX12_same 25 = .ok (.ifCond .eq 16, 3) := by decide +kernel
theorem dX12_same_28 : decode cX12_same 28 = .ok (.aload_n 0, 1) := by decide +kernel
theorem dX12_same_29 : decode cX12_same 29 = .ok (.iload_n 1, 1) := by decide +kernel
theorem dX12_same_30 : decode cX12_same 30 = .ok (.iload_n 2, 1) := by decide +kernel
theorem dX12_same_31 : decode cX12_same 31 = .ok (.invokevirtual 144, 3) := by decide +kernel
theorem dX12_same_34 : decode cX12_same 34 = .ok (.ifCond .eq 7, 3) := by decide +kernel
theorem dX12_same_37 : decode cX12_same 37 = .ok (.iconst 1, 1) := by decide +kernel
theorem dX12_same_38 : decode cX12_same 38 = .ok (.goto 4, 3) := by decide +kernel
theorem dX12_same_41 : decode cX12_same 41 = .ok (.iconst 0, 1) := by decide +kernel
theorem dX12_same_42 : decode cX12_same 42 = .ok (.ireturn, 1) := by decide +kernel
theorem dX12_isLess_0 : decode cX12_isLess 0 = .ok (.iconst 0, 1) := by decide +kernel
theorem dX12_isLess_1 : decode cX12_isLess 1 = .ok (.istore 4, 2) := by decide +kernel
theorem dX12_isLess_3 : decode cX12_isLess 3 = .ok (.iload 4, 2) := by decide +kernel
theorem dX12_isLess_5 : decode cX12_isLess 5 = .ok (.aload_n 0, 1) := by decide +kernel
theorem dX12_isLess_6 : decode cX12_isLess 6 = .ok (.iload_n 1, 1) := by decide +kernel
theorem dX12_isLess_7 : decode cX12_isLess 7 = .ok (.invokevirtual 100, 3) := by decide +kernel
theorem dX12_isLess_10 : decode cX12_isLess 10 = .ok (.if_icmp .ge 49, 3) := by decide +kernel
theorem dX12_isLess_13 : decode cX12_isLess 13 = .ok (.aload_n 0, 1) := by decide +kernel
theorem dX12_isLess_14 : decode cX12_isLess 14 = .ok (.iload_n 1, 1) := by decide +kernel
theorem dX12_isLess_15 : decode cX12_isLess 15 = .ok (.iload_n 2, 1) := by decide +kernel
theorem dX12_isLess_16 : decode cX12_isLess 16 = .ok (.iload 4, 2) := by decide +kernel
theorem dX12_isLess_18 : decode cX12_isLess 18 = .ok (.invokevirtual 138, 3) := by decide +kernel
theorem dX12_isLess_21 : decode cX12_isLess 21 = .ok (.istore 5, 2) := by decide +kernel
theorem dX12_isLess_23 : decode cX12_isLess 23 = .ok (.aload_n 0, 1) := by decide +kernel
theorem dX12_isLess_24 : decode cX12_isLess 24 = .ok (.iload_n 1, 1) := by decide +kernel
theorem dX12_isLess_25 : decode cX12_isLess 25 = .ok (.iload_n 3, 1) := by decide +kernel
theorem dX12_isLess_26 : decode cX12_isLess 26 = .ok (.iload 4, 2) := by decide +kernel
theorem dX12_isLess_28 : decode cX12_isLess 28 = .ok (.invokevirtual 138, 3) := by decide +kernel
theorem dX12_isLess_31 : decode cX12_isLess 31 = .ok (.istore 6, 2) := by decide +kernel
theorem dX12_isLess_33 : decode cX12_isLess 33 = .ok (.iload 5, 2) := by decide +kernel
theorem dX12_isLess_35 : decode cX12_isLess 35 = .ok (.iload 6, 2) := by decide +kernel
theorem dX12_isLess_37 : decode cX12_isLess 37 = .ok (.if_icmp .eq 16, 3) := by decide +kernel
theorem dX12_isLess_40 : decode cX12_isLess 40 = .ok (.iload 5, 2) := by decide +kernel
theorem dX12_isLess_42 : decode cX12_isLess 42 = .ok (.iload 6, 2) := by decide +kernel
theorem dX12_isLess_44 : decode cX12_isLess 44 = .ok (.if_icmp .ge 7, 3) := by decide +kernel
theorem dX12_isLess_47 : decode cX12_isLess 47 = .ok (.iconst 1, 1) := by decide +kernel
theorem dX12_isLess_48 : decode cX12_isLess 48 = .ok (.goto 4, 3) := by decide +kernel
theorem dX12_isLess_51 : decode cX12_isLess 51 = .ok (.iconst 0, 1) := by decide +kernel
theorem dX12_isLess_52 : decode cX12_isLess 52 = .ok (.ireturn, 1) := by decide +kernel
theorem dX12_isLess_53 : decode cX12_isLess 53 = .ok (.iinc 4 1, 3) := by decide +kernel
theorem dX12_isLess_56 : decode cX12_isLess 56 = .ok (.goto (-53), 3) := by decide +kernel
theorem dX12_isLess_59 : decode cX12_isLess 59 = .ok (.iconst 0, 1) := by decide +kernel
theorem dX12_isLess_60 : decode cX12_isLess 60 = .ok (.ireturn, 1) := by decide +kernel
theorem dX12_least_0 : decode cX12_least 0 = .ok (.aload_n 0, 1) := by decide +kernel
theorem dX12_least_1 : decode cX12_least 1 = .ok (.aload_n 0, 1) := by decide +kernel
theorem dX12_least_2 : decode cX12_least 2 = .ok (.iload_n 1, 1) := by decide +kernel
theorem dX12_least_3 : decode cX12_least 3 = .ok (.iload_n 2, 1) := by decide +kernel
theorem dX12_least_4 : decode cX12_least 4 = .ok (.iload_n 3, 1) := by decide +kernel
theorem dX12_least_5 : decode cX12_least 5 = .ok (.invokevirtual 73, 3) := by decide +kernel
theorem dX12_least_8 : decode cX12_least 8 = .ok (.ifCond .eq 7, 3) := by decide +kernel
theorem dX12_least_11 : decode cX12_least 11 = .ok (.iconst 0, 1) := by decide +kernel
theorem dX12_least_12 : decode cX12_least 12 = .ok (.goto 4, 3) := by decide +kernel
theorem dX12_least_15 : decode cX12_least 15 = .ok (.iconst 1, 1) := by decide +kernel
theorem dX12_least_16 : decode cX12_least 16 = .ok (.invokevirtual 63, 3) := by decide +kernel
theorem dX12_least_19 : decode cX12_least 19 = .ok (.ifCond .ne 5, 3) := by decide +kernel
theorem dX12_least_22 : decode cX12_least 22 = .ok (.iconst 0, 1) := by decide +kernel
theorem dX12_least_23 : decode cX12_least 23 = .ok (.ireturn, 1) := by decide +kernel
theorem dX12_least_24 : decode cX12_least 24 = .ok (.iconst 0, 1) := by decide +kernel
theorem dX12_least_25 : decode cX12_least 25 = .ok (.istore 4, 2) := by decide +kernel
theorem dX12_least_27 : decode cX12_least 27 = .ok (.iconst 1, 1) := by decide +kernel
theorem dX12_least_28 : decode cX12_least 28 = .ok (.istore 5, 2) := by decide +kernel
theorem dX12_least_30 : decode cX12_least 30 = .ok (.iload 5, 2) := by decide +kernel
theorem dX12_least_32 : decode cX12_least 32 = .ok (.bipush 8, 2) := by decide +kernel
theorem dX12_least_34 : decode cX12_least 34 = .ok (.if_icmp .ge 30, 3) := by decide +kernel
theorem dX12_least_37 : decode cX12_least 37 = .ok (.aload_n 0, 1) := by decide +kernel
theorem dX12_least_38 : decode cX12_least 38 = .ok (.iload_n 1, 1) := by decide +kernel
theorem dX12_least_39 : decode cX12_least 39 = .ok (.iload 5, 2) := by decide +kernel
theorem dX12_least_41 : decode cX12_least 41 = .ok (.iload 4, 2) := by decide +kernel
theorem dX12_least_43 : decode cX12_least 43 = .ok (.invokevirtual 147, 3) := by decide +kernel
theorem dX12_least_46 : decode cX12_least 46 = .ok (.ifCond .eq 8, 3) := by decide +kernel
theorem dX12_least_49 : decode cX12_least 49 = .ok (.iload 5, 2) := by decide +kernel
theorem dX12_least_51 : decode cX12_least 51 = .ok (.goto 5, 3) := by decide +kernel
theorem dX12_least_54 : decode cX12_least 54 = .ok (.iload 4, 2) := by decide +kernel
theorem dX12_least_56 : decode cX12_least 56 = .ok (.istore 4, 2) := by decide +kernel
theorem dX12_least_58 : decode cX12_least 58 = .ok (.iinc 5 1, 3) := by decide +kernel
theorem dX12_least_61 : decode cX12_least 61 = .ok (.goto (-31), 3) := by decide +kernel
theorem dX12_least_64 : decode cX12_least 64 = .ok (.aload_n 0, 1) := by decide +kernel
theorem dX12_least_65 : decode cX12_least 65 = .ok (.iload_n 1, 1) := by decide +kernel
theorem dX12_least_66 : decode cX12_least 66 = .ok (.iload 4, 2) := by decide +kernel
theorem dX12_least_68 : decode cX12_least 68 = .ok (.aload_n 0, 1) := by decide +kernel
theorem dX12_least_69 : decode cX12_least 69 = .ok (.getfield 7, 3) := by decide +kernel
theorem dX12_least_72 : decode cX12_least 72 = .ok (.iload_n 1, 1) := by decide +kernel
theorem dX12_least_73 : decode cX12_least 73 = .ok (.iaload, 1) := by decide +kernel
theorem dX12_least_74 : decode cX12_least 74 = .ok (.iload_n 2, 1) := by decide +kernel
theorem dX12_least_75 : decode cX12_least 75 = .ok (.imul, 1) := by decide +kernel
theorem dX12_least_76 : decode cX12_least 76 = .ok (.iload_n 3, 1) := by decide +kernel
theorem dX12_least_77 : decode cX12_least 77 = .ok (.iadd, 1) := by decide +kernel
theorem dX12_least_78 : decode cX12_least 78 = .ok (.invokevirtual 138, 3) := by decide +kernel
theorem dX12_least_81 : decode cX12_least 81 = .ok (.ireturn, 1) := by decide +kernel
theorem dX12_kin_0 : decode cX12_kin 0 = .ok (.aload_n 0, 1) := by decide +kernel
theorem dX12_kin_1 : decode cX12_kin 1 = .ok (.aload_n 0, 1) := by decide +kernel
theorem dX12_kin_2 : decode cX12_kin 2 = .ok (.iload_n 1, 1) := by decide +kernel
theorem dX12_kin_3 : decode cX12_kin 3 = .ok (.invokevirtual 59, 3) := by decide +kernel
theorem dX12_kin_6 : decode cX12_kin 6 = .ok (.ifCond .eq 7, 3) := by decide +kernel
theorem dX12_kin_9 : decode cX12_kin 9 = .ok (.iconst 0, 1) := by decide +kernel
theorem dX12_kin_10 : decode cX12_kin 10 = .ok (.goto 4, 3) := by decide +kernel
theorem dX12_kin_13 : decode cX12_kin 13 = .ok (.iconst 1, 1) := by decide +kernel
theorem dX12_kin_14 : decode cX12_kin 14 = .ok (.invokevirtual 63, 3) := by decide +kernel
theorem dX12_kin_17 : decode cX12_kin 17 = .ok (.ifCond .ne 5, 3) := by decide +kernel
theorem dX12_kin_20 : decode cX12_kin 20 = .ok (.iconst 0, 1) := by decide +kernel
theorem dX12_kin_21 : decode cX12_kin 21 = .ok (.ireturn, 1) := by decide +kernel
theorem dX12_kin_22 : decode cX12_kin 22 = .ok (.iconst 0, 1) := by decide +kernel
theorem dX12_kin_23 : decode cX12_kin 23 = .ok (.istore_n 2, 1) := by decide +kernel
theorem dX12_kin_24 : decode cX12_kin 24 = .ok (.iconst 0, 1) := by decide +kernel
theorem dX12_kin_25 : decode cX12_kin 25 = .ok (.istore_n 3, 1) := by decide +kernel
theorem dX12_kin_26 : decode cX12_kin 26 = .ok (.iload_n 3, 1) := by decide +kernel
theorem dX12_kin_27 : decode cX12_kin 27 = .ok (.bipush 8, 2) := by decide +kernel
theorem dX12_kin_29 : decode cX12_kin 29 = .ok (.if_icmp .ge 27, 3) := by decide +kernel
theorem dX12_kin_32 : decode cX12_kin 32 = .ok (.iload_n 2, 1) := by decide +kernel
theorem dX12_kin_33 : decode cX12_kin 33 = .ok (.aload_n 0, 1) := by decide +kernel
theorem dX12_kin_34 : decode cX12_kin 34 = .ok (.iload_n 1, 1) := by decide +kernel
theorem dX12_kin_35 : decode cX12_kin 35 = .ok (.iload_n 3, 1) := by decide +kernel
theorem dX12_kin_36 : decode cX12_kin 36 = .ok (.iload_n 1, 1) := by decide +kernel
theorem dX12_kin_37 : decode cX12_kin 37 = .ok (.invokevirtual 141, 3) := by decide +kernel
theorem dX12_kin_40 : decode cX12_kin 40 = .ok (.ifCond .eq 7, 3) := by decide +kernel
theorem dX12_kin_43 : decode cX12_kin 43 = .ok (.iconst 1, 1) := by decide +kernel
theorem dX12_kin_44 : decode cX12_kin 44 = .ok (.goto 4, 3) := by decide +kernel
theorem dX12_kin_47 : decode cX12_kin 47 = .ok (.iconst 0, 1) := by decide +kernel
theorem dX12_kin_48 : decode cX12_kin 48 = .ok (.iadd, 1) := by decide +kernel
theorem dX12_kin_49 : decode cX12_kin 49 = .ok (.istore_n 2, 1) := by decide +kernel
theorem dX12_kin_50 : decode cX12_kin 50 = .ok (.iinc 3 1, 3) := by decide +kernel
theorem dX12_kin_53 : decode cX12_kin 53 = .ok (.goto (-27), 3) := by decide +kernel
theorem dX12_kin_56 : decode cX12_kin 56 = .ok (.iload_n 2, 1) := by decide +kernel
theorem dX12_kin_57 : decode cX12_kin 57 = .ok (.ireturn, 1) := by decide +kernel
theorem dX12_classes_0 : decode cX12_classes 0 = .ok (.aload_n 0, 1) := by decide +kernel
theorem dX12_classes_1 : decode cX12_classes 1 = .ok (.iconst 0, 1) := by decide +kernel
theorem dX12_classes_2 : decode cX12_classes 2 = .ok (.putfield 48, 3) := by decide +kernel
theorem dX12_classes_5 : decode cX12_classes 5 = .ok (.iconst 0, 1) := by decide +kernel
theorem dX12_classes_6 : decode cX12_classes 6 = .ok (.istore_n 1, 1) := by decide +kernel
theorem dX12_classes_7 : decode cX12_classes 7 = .ok (.iconst 0, 1) := by decide +kernel
theorem dX12_classes_8 : decode cX12_classes 8 = .ok (.istore_n 2, 1) := by decide +kernel
theorem dX12_classes_9 : decode cX12_classes 9 = .ok (.iload_n 2, 1) := by decide +kernel
theorem dX12_classes_10 : decode cX12_classes 10 = .ok (.aload_n 0, 1) := by decide +kernel
theorem dX12_classes_11 : decode cX12_classes 11 = .ok (.getfield 52, 3) := by decide +kernel
theorem dX12_classes_14 : decode cX12_classes 14 = .ok (.if_icmp .ge 58, 3) := by decide +kernel
theorem dX12_classes_17 : decode cX12_classes 17 = .ok (.iconst 1, 1) := by decide +kernel
theorem dX12_classes_18 : decode cX12_classes 18 = .ok (.istore_n 3, 1) := by decide +kernel
theorem dX12_classes_19 : decode cX12_classes 19 = .ok (.iconst 0, 1) := by decide +kernel
theorem dX12_classes_20 : decode cX12_classes 20 = .ok (.istore 4, 2) := by decide +kernel
theorem dX12_classes_22 : decode cX12_classes 22 = .ok (.iload 4, 2) := by decide +kernel
theorem dX12_classes_24 : decode cX12_classes 24 = .ok (.iload_n 2, 1) := by decide +kernel
theorem dX12_classes_25 : decode cX12_classes 25 = .ok (.if_icmp .ge 29, 3) := by decide +kernel
theorem dX12_classes_28 : decode cX12_classes 28 = .ok (.iload_n 3, 1) := by decide +kernel
theorem dX12_classes_29 : decode cX12_classes 29 = .ok (.ifCond .eq 17, 3) := by decide +kernel
theorem dX12_classes_32 : decode cX12_classes 32 = .ok (.aload_n 0, 1) := by decide +kernel
theorem dX12_classes_33 : decode cX12_classes 33 = .ok (.iload_n 2, 1) := by decide +kernel
theorem dX12_classes_34 : decode cX12_classes 34 = .ok (.iload 4, 2) := by decide +kernel
theorem dX12_classes_36 : decode cX12_classes 36 = .ok (.invokevirtual 144, 3) := by decide +kernel
theorem dX12_classes_39 : decode cX12_classes 39 = .ok (.ifCond .ne 7, 3) := by decide +kernel
theorem dX12_classes_42 : decode cX12_classes 42 = .ok (.iconst 1, 1) := by decide +kernel
theorem dX12_classes_43 : decode cX12_classes 43 = .ok (.goto 4, 3) := by decide +kernel
theorem dX12_classes_46 : decode cX12_classes 46 = .ok (.iconst 0, 1) := by decide +kernel
theorem dX12_classes_47 : decode cX12_classes 47 = .ok (.istore_n 3, 1) := by decide +kernel
theorem dX12_classes_48 : decode cX12_classes 48 = .ok (.iinc 4 1, 3) := by decide +kernel
theorem dX12_classes_51 : decode cX12_classes 51 = .ok (.goto (-29), 3) := by decide +kernel
theorem dX12_classes_54 : decode cX12_classes 54 = .ok (.iload_n 1, 1) := by decide +kernel
theorem dX12_classes_55 : decode cX12_classes 55 = .ok (.iload_n 3, 1) := by decide +kernel
theorem dX12_classes_56 : decode cX12_classes 56 = .ok (.ifCond .eq 7, 3) := by decide +kernel
theorem dX12_classes_59 : decode cX12_classes 59 = .ok (.iconst 1, 1) := by decide +kernel
theorem dX12_classes_60 : decode cX12_classes 60 = .ok (.goto 4, 3) := by decide +kernel
theorem dX12_classes_63 : decode cX12_classes 63 = .ok (.iconst 0, 1) := by decide +kernel
theorem dX12_classes_64 : decode cX12_classes 64 = .ok (.iadd, 1) := by decide +kernel
theorem dX12_classes_65 : decode cX12_classes 65 = .ok (.istore_n 1, 1) := by decide +kernel
theorem dX12_classes_66 : decode cX12_classes 66 = .ok (.iinc 2 1, 3) := by decide +kernel
theorem dX12_classes_69 : decode cX12_classes 69 = .ok (.goto (-60), 3) := by decide +kernel
theorem dX12_classes_72 : decode cX12_classes 72 = .ok (.iload_n 1, 1) := by decide +kernel
theorem dX12_classes_73 : decode cX12_classes 73 = .ok (.ireturn, 1) := by decide +kernel
theorem dX12_isLineFit_0 : decode cX12_isLineFit 0 = .ok (.iconst 0, 1) := by decide +kernel
theorem dX12_isLineFit_1 : decode cX12_isLineFit 1 = .ok (.istore_n 3, 1) := by decide +kernel
theorem dX12_isLineFit_2 : decode cX12_isLineFit 2 = .ok (.iconst 1, 1) := by decide +kernel
theorem dX12_isLineFit_3 : decode cX12_isLineFit 3 = .ok (.istore 4, 2) := by decide +kernel
theorem dX12_isLineFit_5 : decode cX12_isLineFit 5 = .ok (.iconst 0, 1) := by decide +kernel
theorem dX12_isLineFit_6 : decode cX12_isLineFit 6 = .ok (.istore 5, 2) := by decide +kernel
theorem dX12_isLineFit_8 : decode cX12_isLineFit 8 = .ok (.iload 5, 2) := by decide +kernel
theorem dX12_isLineFit_10 : decode cX12_isLineFit 10 = .ok (.aload_n 0, 1) := by decide +kernel
theorem dX12_isLineFit_11 : decode cX12_isLineFit 11 = .ok (.getfield 150, 3) := by decide +kernel
theorem dX12_isLineFit_14 : decode cX12_isLineFit 14 = .ok (.if_icmp .ge 44, 3) := by decide +kernel
theorem dX12_isLineFit_17 : decode cX12_isLineFit 17 = .ok (.aload_n 0, 1) := by decide +kernel
theorem dX12_isLineFit_18 : decode cX12_isLineFit 18 = .ok (.getfield 19, 3) := by decide +kernel
theorem dX12_isLineFit_21 : decode cX12_isLineFit 21 = .ok (.iload_n 1, 1) := by decide +kernel
theorem dX12_isLineFit_22 : decode cX12_isLineFit 22 = .ok (.iload 5, 2) := by decide +kernel
theorem dX12_isLineFit_24 : decode cX12_isLineFit 24 = .ok (.iload_n 2, 1) := by decide +kernel
theorem dX12_isLineFit_25 : decode cX12_isLineFit 25 = .ok (.imul, 1) := by decide +kernel
theorem dX12_isLineFit_26 : decode cX12_isLineFit 26 = .ok (.iadd, 1) := by decide +kernel
theorem dX12_isLineFit_27 : decode cX12_isLineFit 27 = .ok (.iaload, 1) := by decide +kernel
theorem dX12_isLineFit_28 : decode cX12_isLineFit 28 = .ok (.istore 6, 2) := by decide +kernel
theorem dX12_isLineFit_30 : decode cX12_isLineFit 30 = .ok (.iload_n 3, 1) := by decide +kernel
theorem dX12_isLineFit_31 : decode cX12_isLineFit 31 = .ok (.iload 6, 2) := by decide +kernel
theorem dX12_isLineFit_33 : decode cX12_isLineFit 33 = .ok (.iadd, 1) := by decide +kernel
theorem dX12_isLineFit_34 : decode cX12_isLineFit 34 = .ok (.istore_n 3, 1) := by decide +kernel
theorem dX12_isLineFit_35 : decode cX12_isLineFit 35 = .ok (.iload 4, 2) := by decide +kernel
theorem dX12_isLineFit_37 : decode cX12_isLineFit 37 = .ok (.ifCond .eq 12, 3) := by decide +kernel
theorem dX12_isLineFit_40 : decode cX12_isLineFit 40 = .ok (.iload 6, 2) := by decide +kernel
theorem dX12_isLineFit_42 : decode cX12_isLineFit 42 = .ok (.ifCond .le 7, 3) := by decide +kernel
theorem dX12_isLineFit_45 : decode cX12_isLineFit 45 = .ok (.iconst 1, 1) := by decide +kernel
theorem dX12_isLineFit_46 : decode cX12_isLineFit 46 = .ok (.goto 4, 3) := by decide +kernel
theorem dX12_isLineFit_49 : decode cX12_isLineFit 49 = .ok (.iconst 0, 1) := by decide +kernel
theorem dX12_isLineFit_50 : decode cX12_isLineFit 50 = .ok (.istore 4, 2) := by decide +kernel
theorem dX12_isLineFit_52 : decode cX12_isLineFit 52 = .ok (.iinc 5 1, 3) := by decide +kernel
theorem dX12_isLineFit_55 : decode cX12_isLineFit 55 = .ok (.goto (-47), 3) := by decide +kernel
theorem dX12_isLineFit_58 : decode cX12_isLineFit 58 = .ok (.aload_n 0, 1) := by decide +kernel
theorem dX12_isLineFit_59 : decode cX12_isLineFit 59 = .ok (.getfield 150, 3) := by decide +kernel
theorem dX12_isLineFit_62 : decode cX12_isLineFit 62 = .ok (.aload_n 0, 1) := by decide +kernel
theorem dX12_isLineFit_63 : decode cX12_isLineFit 63 = .ok (.getfield 150, 3) := by decide +kernel
theorem dX12_isLineFit_66 : decode cX12_isLineFit 66 = .ok (.aload_n 0, 1) := by decide +kernel
theorem dX12_isLineFit_67 : decode cX12_isLineFit 67 = .ok (.getfield 150, 3) := by decide +kernel
theorem dX12_isLineFit_70 : decode cX12_isLineFit 70 = .ok (.imul, 1) := by decide +kernel
theorem dX12_isLineFit_71 : decode cX12_isLineFit 71 = .ok (.iconst 1, 1) := by decide +kernel
theorem dX12_isLineFit_72 : decode cX12_isLineFit 72 = .ok (.iadd, 1) := by decide +kernel
theorem dX12_isLineFit_73 : decode cX12_isLineFit 73 = .ok (.imul, 1) := by decide +kernel
theorem dX12_isLineFit_74 : decode cX12_isLineFit 74 = .ok (.iconst 2, 1) := by decide +kernel
theorem dX12_isLineFit_75 : decode cX12_isLineFit 75 = .ok (.idiv, 1) := by decide +kernel
theorem dX12_isLineFit_76 : decode cX12_isLineFit 76 = .ok (.istore 5, 2) := by decide +kernel
theorem dX12_isLineFit_78 : decode cX12_isLineFit 78 = .ok (.iload 4, 2) := by decide +kernel
theorem dX12_isLineFit_80 : decode cX12_isLineFit 80 = .ok (.ifCond .eq 17, 3) := by decide +kernel
theorem dX12_isLineFit_83 : decode cX12_isLineFit 83 = .ok (.iload_n 3, 1) := by decide +kernel
theorem dX12_isLineFit_84 : decode cX12_isLineFit 84 = .ok (.iload 5, 2) := by decide +kernel
theorem dX12_isLineFit_86 : decode cX12_isLineFit 86 = .ok (.if_icmp .ne 7, 3) := by decide +kernel
theorem dX12_isLineFit_89 : decode cX12_isLineFit 89 = .ok (.iconst 1, 1) := by decide +kernel
theorem dX12_isLineFit_90 : decode cX12_isLineFit 90 = .ok (.goto 18, 3) := by decide +kernel
theorem dX12_isLineFit_93 : decode cX12_isLineFit 93 = .ok (.iconst 0, 1) := by decide +kernel
theorem dX12_isLineFit_94 : decode cX12_isLineFit 94 = .ok (.goto 14, 3) := by decide +kernel
theorem dX12_isLineFit_97 : decode cX12_isLineFit 97 = .ok (.iload_n 3, 1) := by decide +kernel
theorem dX12_isLineFit_98 : decode cX12_isLineFit 98 = .ok (.iload 5, 2) := by decide +kernel
theorem dX12_isLineFit_100 : decode cX12_isLineFit 100 = .ok (.if_icmp .ge 7, 3) := by decide +kernel
theorem dX12_isLineFit_103 : decode cX12_isLineFit 103 = .ok (.iconst 1, 1) := by decide +kernel
theorem dX12_isLineFit_104 : decode cX12_isLineFit 104 = .ok (.goto 4, 3) := by decide +kernel
theorem dX12_isLineFit_107 : decode cX12_isLineFit 107 = .ok (.iconst 0, 1) := by decide +kernel
theorem dX12_isLineFit_108 : decode cX12_isLineFit 108 = .ok (.ireturn, 1) := by decide +kernel
theorem dX12_isFit_0 : decode cX12_isFit 0 = .ok (.iconst 0, 1) := by decide +kernel
theorem dX12_isFit_1 : decode cX12_isFit 1 = .ok (.istore_n 1, 1) := by decide +kernel
theorem dX12_isFit_2 : decode cX12_isFit 2 = .ok (.aload_n 0, 1) := by decide +kernel
theorem dX12_isFit_3 : decode cX12_isFit 3 = .ok (.iconst 0, 1) := by decide +kernel
theorem dX12_isFit_4 : decode cX12_isFit 4 = .ok (.aload_n 0, 1) := by decide +kernel
theorem dX12_isFit_5 : decode cX12_isFit 5 = .ok (.getfield 150, 3) := by decide +kernel
theorem dX12_isFit_8 : decode cX12_isFit 8 = .ok (.iconst 1, 1) := by decide +kernel
theorem dX12_isFit_9 : decode cX12_isFit 9 = .ok (.iadd, 1) := by decide +kernel
theorem dX12_isFit_10 : decode cX12_isFit 10 = .ok (.invokevirtual 153, 3) := by decide +kernel
theorem dX12_isFit_13 : decode cX12_isFit 13 = .ok (.ifCond .eq 38, 3) := by decide +kernel
theorem dX12_isFit_16 : decode cX12_isFit 16 = .ok (.aload_n 0, 1) := by decide +kernel
theorem dX12_isFit_17 : decode cX12_isFit 17 = .ok (.aload_n 0, 1) := by decide +kernel
theorem dX12_isFit_18 : decode cX12_isFit 18 = .ok (.getfield 150, 3) := by decide +kernel
theorem dX12_isFit_21 : decode cX12_isFit 21 = .ok (.iconst 1, 1) := by decide +kernel
theorem dX12_isFit_22 : decode cX12_isFit 22 = .ok (.isub, 1) := by decide +kernel
theorem dX12_isFit_23 : decode cX12_isFit 23 = .ok (.aload_n 0, 1) := by decide +kernel
theorem dX12_isFit_24 : decode cX12_isFit 24 = .ok (.getfield 150, 3) := by decide +kernel
theorem dX12_isFit_27 : decode cX12_isFit 27 = .ok (.iconst 1, 1) := by decide +kernel
theorem dX12_isFit_28 : decode cX12_isFit 28 = .ok (.if_icmp .le 12, 3) := by decide +kernel
theorem dX12_isFit_31 : decode cX12_isFit 31 = .ok (.aload_n 0, 1) := by decide +kernel
theorem dX12_isFit_32 : decode cX12_isFit 32 = .ok (.getfield 150, 3) := by decide +kernel
theorem dX12_isFit_35 : decode cX12_isFit 35 = .ok (.iconst 1, 1) := by decide +kernel
theorem dX12_isFit_36 : decode cX12_isFit 36 = .ok (.isub, 1) := by decide +kernel
theorem dX12_isFit_37 : decode cX12_isFit 37 = .ok (.goto 4, 3) := by decide +kernel
theorem dX12_isFit_40 : decode cX12_isFit 40 = .ok (.iconst 1, 1) := by decide +kernel
theorem dX12_isFit_41 : decode cX12_isFit 41 = .ok (.invokevirtual 153, 3) := by decide +kernel
theorem dX12_isFit_44 : decode cX12_isFit 44 = .ok (.ifCond .eq 7, 3) := by decide +kernel
theorem dX12_isFit_47 : decode cX12_isFit 47 = .ok (.iconst 1, 1) := by decide +kernel
theorem dX12_isFit_48 : decode cX12_isFit 48 = .ok (.goto 4, 3) := by decide +kernel
theorem dX12_isFit_51 : decode cX12_isFit 51 = .ok (.iconst 0, 1) := by decide +kernel
theorem dX12_isFit_52 : decode cX12_isFit 52 = .ok (.istore_n 2, 1) := by decide +kernel
theorem dX12_isFit_53 : decode cX12_isFit 53 = .ok (.iconst 0, 1) := by decide +kernel
theorem dX12_isFit_54 : decode cX12_isFit 54 = .ok (.istore_n 3, 1) := by decide +kernel
theorem dX12_isFit_55 : decode cX12_isFit 55 = .ok (.iload_n 3, 1) := by decide +kernel
theorem dX12_isFit_56 : decode cX12_isFit 56 = .ok (.aload_n 0, 1) := by decide +kernel
theorem dX12_isFit_57 : decode cX12_isFit 57 = .ok (.getfield 150, 3) := by decide +kernel
theorem dX12_isFit_60 : decode cX12_isFit 60 = .ok (.aload_n 0, 1) := by decide +kernel
theorem dX12_isFit_61 : decode cX12_isFit 61 = .ok (.getfield 150, 3) := by decide +kernel
theorem dX12_isFit_64 : decode cX12_isFit 64 = .ok (.imul, 1) := by decide +kernel
theorem dX12_isFit_65 : decode cX12_isFit 65 = .ok (.if_icmp .ge 87, 3) := by decide +kernel
theorem dX12_isFit_68 : decode cX12_isFit 68 = .ok (.iload_n 2, 1) := by decide +kernel
theorem dX12_isFit_69 : decode cX12_isFit 69 = .ok (.ifCond .eq 83, 3) := by decide +kernel
theorem dX12_isFit_72 : decode cX12_isFit 72 = .ok (.aload_n 0, 1) := by decide +kernel
theorem dX12_isFit_73 : decode cX12_isFit 73 = .ok (.getfield 19, 3) := by decide +kernel
theorem dX12_isFit_76 : decode cX12_isFit 76 = .ok (.iload_n 3, 1) := by decide +kernel
theorem dX12_isFit_77 : decode cX12_isFit 77 = .ok (.iaload, 1) := by decide +kernel
theorem dX12_isFit_78 : decode cX12_isFit 78 = .ok (.aload_n 0, 1) := by decide +kernel
theorem dX12_isFit_79 : decode cX12_isFit 79 = .ok (.getfield 150, 3) := by decide +kernel
theorem dX12_isFit_82 : decode cX12_isFit 82 = .ok (.aload_n 0, 1) := by decide +kernel
theorem dX12_isFit_83 : decode cX12_isFit 83 = .ok (.getfield 150, 3) := by decide +kernel
theorem dX12_isFit_86 : decode cX12_isFit 86 = .ok (.imul, 1) := by decide +kernel
theorem dX12_isFit_87 : decode cX12_isFit 87 = .ok (.if_icmp .gt 29, 3) := by decide +kernel
theorem dX12_isFit_90 : decode cX12_isFit 90 = .ok (.aload_n 0, 1) := by decide +kernel
theorem dX12_isFit_91 : decode cX12_isFit 91 = .ok (.getfield 19, 3) := by decide +kernel
theorem dX12_isFit_94 : decode cX12_isFit 94 = .ok (.iload_n 3, 1) := by decide +kernel
theorem dX12_isFit_95 : decode cX12_isFit 95 = .ok (.iaload, 1) := by decide +kernel
theorem dX12_isFit_96 : decode cX12_isFit 96 = .ok (.ifCond .eq 16, 3) := by decide +kernel
theorem dX12_isFit_99 : decode cX12_isFit 99 = .ok (.iload_n 1, 1) := by decide +kernel
theorem dX12_isFit_100 : decode cX12_isFit 100 = .ok (.aload_n 0, 1) := by decide +kernel
theorem dX12_isFit_101 : decode cX12_isFit 101 = .ok (.getfield 19, 3) := by decide +kernel
theorem dX12_isFit_104 : decode cX12_isFit 104 = .ok (.iload_n 3, 1) := by decide +kernel
theorem dX12_isFit_105 : decode cX12_isFit 105 = .ok (.iaload, 1) := by decide +kernel
theorem dX12_isFit_106 : decode cX12_isFit 106 = .ok (.ishr, 1) := by decide +kernel
theorem dX12_isFit_107 : decode cX12_isFit 107 = .ok (.iconst 1, 1) := by decide +kernel
theorem dX12_isFit_108 : decode cX12_isFit 108 = .ok (.iand, 1) := by decide +kernel
theorem dX12_isFit_109 : decode cX12_isFit 109 = .ok (.ifCond .ne 7, 3) := by decide +kernel
theorem dX12_isFit_112 : decode cX12_isFit 112 = .ok (.iconst 1, 1) := by decide +kernel
theorem dX12_isFit_113 : decode cX12_isFit 113 = .ok (.goto 4, 3) := by decide +kernel
theorem dX12_isFit_116 : decode cX12_isFit 116 = .ok (.iconst 0, 1) := by decide +kernel
theorem dX12_isFit_117 : decode cX12_isFit 117 = .ok (.istore_n 2, 1) := by decide +kernel
theorem dX12_isFit_118 : decode cX12_isFit 118 = .ok (.iload_n 1, 1) := by decide +kernel
theorem dX12_isFit_119 : decode cX12_isFit 119 = .ok (.iload_n 2, 1) := by decide +kernel
theorem dX12_isFit_120 : decode cX12_isFit 120 = .ok (.ifCond .eq 23, 3) := by decide +kernel
theorem dX12_isFit_123 : decode cX12_isFit 123 = .ok (.aload_n 0, 1) := by decide +kernel
theorem dX12_isFit_124 : decode cX12_isFit 124 = .ok (.getfield 19, 3) := by decide +kernel
theorem dX12_isFit_127 : decode cX12_isFit 127 = .ok (.iload_n 3, 1) := by decide +kernel
theorem dX12_isFit_128 : decode cX12_isFit 128 = .ok (.iaload, 1) := by decide +kernel
theorem dX12_isFit_129 : decode cX12_isFit 129 = .ok (.ifCond .le 14, 3) := by decide +kernel
theorem dX12_isFit_132 : decode cX12_isFit 132 = .ok (.iconst 1, 1) := by decide +kernel
theorem dX12_isFit_133 : decode cX12_isFit 133 = .ok (.aload_n 0, 1) := by decide +kernel
theorem dX12_isFit_134 : decode cX12_isFit 134 = .ok (.getfield 19, 3) := by decide +kernel
theorem dX12_isFit_137 : decode cX12_isFit 137 = .ok (.iload_n 3, 1) := by decide +kernel
theorem dX12_isFit_138 : decode cX12_isFit 138 = .ok (.iaload, 1) := by decide +kernel
theorem dX12_isFit_139 : decode cX12_isFit 139 = .ok (.ishl, 1) := by decide +kernel
theorem dX12_isFit_140 : decode cX12_isFit 140 = .ok (.goto 4, 3) := by decide +kernel
theorem dX12_isFit_143 : decode cX12_isFit 143 = .ok (.iconst 0, 1) := by decide +kernel
theorem dX12_isFit_144 : decode cX12_isFit 144 = .ok (.ior, 1) := by decide +kernel
theorem dX12_isFit_145 : decode cX12_isFit 145 = .ok (.istore_n 1, 1) := by decide +kernel
theorem dX12_isFit_146 : decode cX12_isFit 146 = .ok (.iinc 3 1, 3) := by decide +kernel
theorem dX12_isFit_149 : decode cX12_isFit 149 = .ok (.goto (-94), 3) := by decide +kernel
theorem dX12_isFit_152 : decode cX12_isFit 152 = .ok (.iconst 0, 1) := by decide +kernel
theorem dX12_isFit_153 : decode cX12_isFit 153 = .ok (.istore_n 3, 1) := by decide +kernel
theorem dX12_isFit_154 : decode cX12_isFit 154 = .ok (.iload_n 3, 1) := by decide +kernel
theorem dX12_isFit_155 : decode cX12_isFit 155 = .ok (.aload_n 0, 1) := by decide +kernel
theorem dX12_isFit_156 : decode cX12_isFit 156 = .ok (.getfield 150, 3) := by decide +kernel
theorem dX12_isFit_159 : decode cX12_isFit 159 = .ok (.if_icmp .ge 45, 3) := by decide +kernel
theorem dX12_isFit_162 : decode cX12_isFit 162 = .ok (.iload_n 2, 1) := by decide +kernel
theorem dX12_isFit_163 : decode cX12_isFit 163 = .ok (.ifCond .eq 41, 3) := by decide +kernel
theorem dX12_isFit_166 : decode cX12_isFit 166 = .ok (.aload_n 0, 1) := by decide +kernel
theorem dX12_isFit_167 : decode cX12_isFit 167 = .ok (.aload_n 0, 1) := by decide +kernel
theorem dX12_isFit_168 : decode cX12_isFit 168 = .ok (.getfield 150, 3) := by decide +kernel
theorem dX12_isFit_171 : decode cX12_isFit 171 = .ok (.iload_n 3, 1) := by decide +kernel
theorem dX12_isFit_172 : decode cX12_isFit 172 = .ok (.imul, 1) := by decide +kernel
theorem dX12_isFit_173 : decode cX12_isFit 173 = .ok (.iconst 1, 1) := by decide +kernel
theorem dX12_isFit_174 : decode cX12_isFit 174 = .ok (.invokevirtual 153, 3) := by decide +kernel
theorem dX12_isFit_177 : decode cX12_isFit 177 = .ok (.ifCond .eq 19, 3) := by decide +kernel
theorem dX12_isFit_180 : decode cX12_isFit 180 = .ok (.aload_n 0, 1) := by decide +kernel
theorem dX12_isFit_181 : decode cX12_isFit 181 = .ok (.iload_n 3, 1) := by decide +kernel
theorem dX12_isFit_182 : decode cX12_isFit 182 = .ok (.aload_n 0, 1) := by decide +kernel
theorem dX12_isFit_183 : decode cX12_isFit 183 = .ok (.getfield 150, 3) := by decide +kernel
theorem dX12_isFit_186 : decode cX12_isFit 186 = .ok (.invokevirtual 153, 3) := by decide +kernel
theorem dX12_isFit_189 : decode cX12_isFit 189 = .ok (.ifCond .eq 7, 3) := by decide +kernel
theorem dX12_isFit_192 : decode cX12_isFit 192 = .ok (.iconst 1, 1) := by decide +kernel
theorem dX12_isFit_193 : decode cX12_isFit 193 = .ok (.goto 4, 3) := by decide +kernel
theorem dX12_isFit_196 : decode cX12_isFit 196 = .ok (.iconst 0, 1) := by decide +kernel
theorem dX12_isFit_197 : decode cX12_isFit 197 = .ok (.istore_n 2, 1) := by decide +kernel
theorem dX12_isFit_198 : decode cX12_isFit 198 = .ok (.iinc 3 1, 3) := by decide +kernel
theorem dX12_isFit_201 : decode cX12_isFit 201 = .ok (.goto (-47), 3) := by decide +kernel
theorem dX12_isFit_204 : decode cX12_isFit 204 = .ok (.iload_n 2, 1) := by decide +kernel
theorem dX12_isFit_205 : decode cX12_isFit 205 = .ok (.ireturn, 1) := by decide +kernel
theorem dX12_take_0 : decode cX12_take 0 = .ok (.aload_n 0, 1) := by decide +kernel
theorem dX12_take_1 : decode cX12_take 1 = .ok (.aload_n 0, 1) := by decide +kernel
theorem dX12_take_2 : decode cX12_take 2 = .ok (.getfield 7, 3) := by decide +kernel
theorem dX12_take_5 : decode cX12_take 5 = .ok (.iload_n 1, 1) := by decide +kernel
theorem dX12_take_6 : decode cX12_take 6 = .ok (.iaload, 1) := by decide +kernel
theorem dX12_take_7 : decode cX12_take 7 = .ok (.putfield 150, 3) := by decide +kernel
theorem dX12_take_10 : decode cX12_take 10 = .ok (.aload_n 0, 1) := by decide +kernel
theorem dX12_take_11 : decode cX12_take 11 = .ok (.iconst 0, 1) := by decide +kernel
theorem dX12_take_12 : decode cX12_take 12 = .ok (.putfield 156, 3) := by decide +kernel
theorem dX12_take_15 : decode cX12_take 15 = .ok (.iconst 0, 1) := by decide +kernel
theorem dX12_take_16 : decode cX12_take 16 = .ok (.istore_n 3, 1) := by decide +kernel
theorem dX12_take_17 : decode cX12_take 17 = .ok (.iload_n 3, 1) := by decide +kernel
theorem dX12_take_18 : decode cX12_take 18 = .ok (.aload_n 0, 1) := by decide +kernel
theorem dX12_take_19 : decode cX12_take 19 = .ok (.getfield 150, 3) := by decide +kernel
theorem dX12_take_22 : decode cX12_take 22 = .ok (.aload_n 0, 1) := by decide +kernel
theorem dX12_take_23 : decode cX12_take 23 = .ok (.getfield 150, 3) := by decide +kernel
theorem dX12_take_26 : decode cX12_take 26 = .ok (.imul, 1) := by decide +kernel
theorem dX12_take_27 : decode cX12_take 27 = .ok (.if_icmp .ge 68, 3) := by decide +kernel
theorem dX12_take_30 : decode cX12_take 30 = .ok (.aload_n 0, 1) := by decide +kernel
theorem dX12_take_31 : decode cX12_take 31 = .ok (.getfield 19, 3) := by decide +kernel
theorem dX12_take_34 : decode cX12_take 34 = .ok (.iload_n 3, 1) := by decide +kernel
theorem dX12_take_35 : decode cX12_take 35 = .ok (.iload_n 2, 1) := by decide +kernel
theorem dX12_take_36 : decode cX12_take 36 = .ok (.iload_n 3, 1) := by decide +kernel
theorem dX12_take_37 : decode cX12_take 37 = .ok (.ishr, 1) := by decide +kernel
theorem dX12_take_38 : decode cX12_take 38 = .ok (.iconst 1, 1) := by decide +kernel
theorem dX12_take_39 : decode cX12_take 39 = .ok (.iand, 1) := by decide +kernel
theorem dX12_take_40 : decode cX12_take 40 = .ok (.iconst 1, 1) := by decide +kernel
theorem dX12_take_41 : decode cX12_take 41 = .ok (.if_icmp .ne 17, 3) := by decide +kernel
theorem dX12_take_44 : decode cX12_take 44 = .ok (.aload_n 0, 1) := by decide +kernel
theorem dX12_take_45 : decode cX12_take 45 = .ok (.getfield 13, 3) := by decide +kernel
theorem dX12_take_48 : decode cX12_take 48 = .ok (.bipush 81, 2) := by decide +kernel
theorem dX12_take_50 : decode cX12_take 50 = .ok (.iload_n 1, 1) := by decide +kernel
theorem dX12_take_51 : decode cX12_take 51 = .ok (.imul, 1) := by decide +kernel
theorem dX12_take_52 : decode cX12_take 52 = .ok (.iload_n 3, 1) := by decide +kernel
theorem dX12_take_53 : decode cX12_take 53 = .ok (.iadd, 1) := by decide +kernel
theorem dX12_take_54 : decode cX12_take 54 = .ok (.iaload, 1) := by decide +kernel
theorem dX12_take_55 : decode cX12_take 55 = .ok (.goto 4, 3) := by decide +kernel
theorem dX12_take_58 : decode cX12_take 58 = .ok (.iconst 0, 1) := by decide +kernel
theorem dX12_take_59 : decode cX12_take 59 = .ok (.iastore, 1) := by decide +kernel
theorem dX12_take_60 : decode cX12_take 60 = .ok (.aload_n 0, 1) := by decide +kernel
theorem dX12_take_61 : decode cX12_take 61 = .ok (.getfield 19, 3) := by decide +kernel
theorem dX12_take_64 : decode cX12_take 64 = .ok (.iload_n 3, 1) := by decide +kernel
theorem dX12_take_65 : decode cX12_take 65 = .ok (.iaload, 1) := by decide +kernel
theorem dX12_take_66 : decode cX12_take 66 = .ok (.ifCond .ne 23, 3) := by decide +kernel
theorem dX12_take_69 : decode cX12_take 69 = .ok (.aload_n 0, 1) := by decide +kernel
theorem dX12_take_70 : decode cX12_take 70 = .ok (.getfield 22, 3) := by decide +kernel
theorem dX12_take_73 : decode cX12_take 73 = .ok (.aload_n 0, 1) := by decide +kernel
theorem dX12_take_74 : decode cX12_take 74 = .ok (.getfield 156, 3) := by decide +kernel
theorem dX12_take_77 : decode cX12_take 77 = .ok (.iload_n 3, 1) := by decide +kernel
theorem dX12_take_78 : decode cX12_take 78 = .ok (.iastore, 1) := by decide +kernel
theorem dX12_take_79 : decode cX12_take 79 = .ok (.aload_n 0, 1) := by decide +kernel
theorem dX12_take_80 : decode cX12_take 80 = .ok (.dup, 1) := by decide +kernel
theorem dX12_take_81 : decode cX12_take 81 = .ok (.getfield 156, 3) := by decide +kernel
theorem dX12_take_84 : decode cX12_take 84 = .ok (.iconst 1, 1) := by decide +kernel
theorem dX12_take_85 : decode cX12_take 85 = .ok (.iadd, 1) := by decide +kernel
theorem dX12_take_86 : decode cX12_take 86 = .ok (.putfield 156, 3) := by decide +kernel
theorem dX12_take_89 : decode cX12_take 89 = .ok (.iinc 3 1, 3) := by decide +kernel
theorem dX12_take_92 : decode cX12_take 92 = .ok (.goto (-75), 3) := by decide +kernel
theorem dX12_take_95 : decode cX12_take 95 = .ok (.return_, 1) := by decide +kernel
theorem dX12_goesOn_0 : decode cX12_goesOn 0 = .ok (.aload_n 0, 1) := by decide +kernel
theorem dX12_goesOn_1 : decode cX12_goesOn 1 = .ok (.getfield 25, 3) := by decide +kernel
theorem dX12_goesOn_4 : decode cX12_goesOn 4 = .ok (.iload_n 1, 1) := by decide +kernel
theorem dX12_goesOn_5 : decode cX12_goesOn 5 = .ok (.iaload, 1) := by decide +kernel
theorem dX12_goesOn_6 : decode cX12_goesOn 6 = .ok (.iconst 1, 1) := by decide +kernel
theorem dX12_goesOn_7 : decode cX12_goesOn 7 = .ok (.iadd, 1) := by decide +kernel
theorem dX12_goesOn_8 : decode cX12_goesOn 8 = .ok (.istore_n 2, 1) := by decide +kernel
theorem dX12_goesOn_9 : decode cX12_goesOn 9 = .ok (.iload_n 2, 1) := by decide +kernel
theorem dX12_goesOn_10 : decode cX12_goesOn 10 = .ok (.aload_n 0, 1) := by decide +kernel
theorem dX12_goesOn_11 : decode cX12_goesOn 11 = .ok (.getfield 150, 3) := by decide +kernel
theorem dX12_goesOn_14 : decode cX12_goesOn 14 = .ok (.aload_n 0, 1) := by decide +kernel
theorem dX12_goesOn_15 : decode cX12_goesOn 15 = .ok (.getfield 150, 3) := by decide +kernel
theorem dX12_goesOn_18 : decode cX12_goesOn 18 = .ok (.imul, 1) := by decide +kernel
theorem dX12_goesOn_19 : decode cX12_goesOn 19 = .ok (.if_icmp .gt 37, 3) := by decide +kernel
theorem dX12_goesOn_22 : decode cX12_goesOn 22 = .ok (.aload_n 0, 1) := by decide +kernel
theorem dX12_goesOn_23 : decode cX12_goesOn 23 = .ok (.getfield 19, 3) := by decide +kernel
theorem dX12_goesOn_26 : decode cX12_goesOn 26 = .ok (.aload_n 0, 1) := by decide +kernel
theorem dX12_goesOn_27 : decode cX12_goesOn 27 = .ok (.getfield 22, 3) := by decide +kernel
theorem dX12_goesOn_30 : decode cX12_goesOn 30 = .ok (.iload_n 1, 1) := by decide +kernel
theorem dX12_goesOn_31 : decode cX12_goesOn 31 = .ok (.iaload, 1) := by decide +kernel
theorem dX12_goesOn_32 : decode cX12_goesOn 32 = .ok (.iload_n 2, 1) := by decide +kernel
theorem dX12_goesOn_33 : decode cX12_goesOn 33 = .ok (.iastore, 1) := by decide +kernel
theorem dX12_goesOn_34 : decode cX12_goesOn 34 = .ok (.aload_n 0, 1) := by decide +kernel
theorem dX12_goesOn_35 : decode cX12_goesOn 35 = .ok (.invokevirtual 159, 3) := by decide +kernel
theorem dX12_goesOn_38 : decode cX12_goesOn 38 = .ok (.ifCond .eq 12, 3) := by decide +kernel
theorem dX12_goesOn_41 : decode cX12_goesOn 41 = .ok (.aload_n 0, 1) := by decide +kernel
theorem dX12_goesOn_42 : decode cX12_goesOn 42 = .ok (.getfield 25, 3) := by decide +kernel
theorem dX12_goesOn_45 : decode cX12_goesOn 45 = .ok (.iload_n 1, 1) := by decide +kernel
theorem dX12_goesOn_46 : decode cX12_goesOn 46 = .ok (.iload_n 2, 1) := by decide +kernel
theorem dX12_goesOn_47 : decode cX12_goesOn 47 = .ok (.iastore, 1) := by decide +kernel
theorem dX12_goesOn_48 : decode cX12_goesOn 48 = .ok (.iconst 1, 1) := by decide +kernel
theorem dX12_goesOn_49 : decode cX12_goesOn 49 = .ok (.ireturn, 1) := by decide +kernel
theorem dX12_goesOn_50 : decode cX12_goesOn 50 = .ok (.iinc 2 1, 3) := by decide +kernel
theorem dX12_goesOn_53 : decode cX12_goesOn 53 = .ok (.goto (-44), 3) := by decide +kernel
theorem dX12_goesOn_56 : decode cX12_goesOn 56 = .ok (.aload_n 0, 1) := by decide +kernel
theorem dX12_goesOn_57 : decode cX12_goesOn 57 = .ok (.getfield 19, 3) := by decide +kernel
theorem dX12_goesOn_60 : decode cX12_goesOn 60 = .ok (.aload_n 0, 1) := by decide +kernel
theorem dX12_goesOn_61 : decode cX12_goesOn 61 = .ok (.getfield 22, 3) := by decide +kernel
theorem dX12_goesOn_64 : decode cX12_goesOn 64 = .ok (.iload_n 1, 1) := by decide +kernel
theorem dX12_goesOn_65 : decode cX12_goesOn 65 = .ok (.iaload, 1) := by decide +kernel
theorem dX12_goesOn_66 : decode cX12_goesOn 66 = .ok (.iconst 0, 1) := by decide +kernel
theorem dX12_goesOn_67 : decode cX12_goesOn 67 = .ok (.iastore, 1) := by decide +kernel
theorem dX12_goesOn_68 : decode cX12_goesOn 68 = .ok (.aload_n 0, 1) := by decide +kernel
theorem dX12_goesOn_69 : decode cX12_goesOn 69 = .ok (.getfield 25, 3) := by decide +kernel
theorem dX12_goesOn_72 : decode cX12_goesOn 72 = .ok (.iload_n 1, 1) := by decide +kernel
theorem dX12_goesOn_73 : decode cX12_goesOn 73 = .ok (.iconst 0, 1) := by decide +kernel
theorem dX12_goesOn_74 : decode cX12_goesOn 74 = .ok (.iastore, 1) := by decide +kernel
theorem dX12_goesOn_75 : decode cX12_goesOn 75 = .ok (.iconst 0, 1) := by decide +kernel
theorem dX12_goesOn_76 : decode cX12_goesOn 76 = .ok (.ireturn, 1) := by decide +kernel
theorem dX12_search_0 : decode cX12_search 0 = .ok (.aload_n 0, 1) := by decide +kernel
theorem dX12_search_1 : decode cX12_search 1 = .ok (.invokevirtual 159, 3) := by decide +kernel
theorem dX12_search_4 : decode cX12_search 4 = .ok (.ifCond .ne 5, 3) := by decide +kernel
theorem dX12_search_7 : decode cX12_search 7 = .ok (.iconst 0, 1) := by decide +kernel
theorem dX12_search_8 : decode cX12_search 8 = .ok (.ireturn, 1) := by decide +kernel
theorem dX12_search_9 : decode cX12_search 9 = .ok (.iconst 0, 1) := by decide +kernel
theorem dX12_search_10 : decode cX12_search 10 = .ok (.istore_n 2, 1) := by decide +kernel
theorem dX12_search_11 : decode cX12_search 11 = .ok (.iconst 0, 1) := by decide +kernel
theorem dX12_search_12 : decode cX12_search 12 = .ok (.istore_n 3, 1) := by decide +kernel
theorem dX12_search_13 : decode cX12_search 13 = .ok (.aload_n 0, 1) := by decide +kernel
theorem dX12_search_14 : decode cX12_search 14 = .ok (.getfield 25, 3) := by decide +kernel
theorem dX12_search_17 : decode cX12_search 17 = .ok (.iconst 0, 1) := by decide +kernel
theorem dX12_search_18 : decode cX12_search 18 = .ok (.iconst 0, 1) := by decide +kernel
theorem dX12_search_19 : decode cX12_search 19 = .ok (.iastore, 1) := by decide +kernel
theorem dX12_search_20 : decode cX12_search 20 = .ok (.iload_n 3, 1) := by decide +kernel
theorem dX12_search_21 : decode cX12_search 21 = .ok (.ifCond .lt 97, 3) := by decide +kernel
theorem dX12_search_24 : decode cX12_search 24 = .ok (.iload_n 2, 1) := by decide +kernel
theorem dX12_search_25 : decode cX12_search 25 = .ok (.iload_n 1, 1) := by decide +kernel
theorem dX12_search_26 : decode cX12_search 26 = .ok (.if_icmp .ge 92, 3) := by decide +kernel
theorem dX12_search_29 : decode cX12_search 29 = .ok (.iload_n 3, 1) := by decide +kernel
theorem dX12_search_30 : decode cX12_search 30 = .ok (.aload_n 0, 1) := by decide +kernel
theorem dX12_search_31 : decode cX12_search 31 = .ok (.getfield 156, 3) := by decide +kernel
theorem dX12_search_34 : decode cX12_search 34 = .ok (.if_icmp .ne 49, 3) := by decide +kernel
theorem dX12_search_37 : decode cX12_search 37 = .ok (.iinc 2 1, 3) := by decide +kernel
theorem dX12_search_40 : decode cX12_search 40 = .ok (.iconst 0, 1) := by decide +kernel
theorem dX12_search_41 : decode cX12_search 41 = .ok (.istore 4, 2) := by decide +kernel
theorem dX12_search_43 : decode cX12_search 43 = .ok (.iload 4, 2) := by decide +kernel
theorem dX12_search_45 : decode cX12_search 45 = .ok (.aload_n 0, 1) := by decide +kernel
theorem dX12_search_46 : decode cX12_search 46 = .ok (.getfield 150, 3) := by decide +kernel
theorem dX12_search_49 : decode cX12_search 49 = .ok (.aload_n 0, 1) := by decide +kernel
theorem dX12_search_50 : decode cX12_search 50 = .ok (.getfield 150, 3) := by decide +kernel
theorem dX12_search_53 : decode cX12_search 53 = .ok (.imul, 1) := by decide +kernel
theorem dX12_search_54 : decode cX12_search 54 = .ok (.if_icmp .ge 23, 3) := by decide +kernel
theorem dX12_search_57 : decode cX12_search 57 = .ok (.aload_n 0, 1) := by decide +kernel
theorem dX12_search_58 : decode cX12_search 58 = .ok (.getfield 28, 3) := by decide +kernel
theorem dX12_search_61 : decode cX12_search 61 = .ok (.iload 4, 2) := by decide +kernel
theorem dX12_search_63 : decode cX12_search 63 = .ok (.aload_n 0, 1) := by decide +kernel
theorem dX12_search_64 : decode cX12_search 64 = .ok (.getfield 19, 3) := by decide +kernel
theorem dX12_search_67 : decode cX12_search 67 = .ok (.iload 4, 2) := by decide +kernel
theorem dX12_search_69 : decode cX12_search 69 = .ok (.iaload, 1) := by decide +kernel
theorem dX12_search_70 : decode cX12_search 70 = .ok (.iastore, 1) := by decide +kernel
theorem dX12_search_71 : decode cX12_search 71 = .ok (.iinc 4 1, 3) := by decide +kernel
theorem dX12_search_74 : decode cX12_search 74 = .ok (.goto (-31), 3) := by decide +kernel
theorem dX12_search_77 : decode cX12_search 77 = .ok (.iinc 3 (-1), 3) := by decide +kernel
theorem dX12_search_80 : decode cX12_search 80 = .ok (.goto (-60), 3) := by decide +kernel
theorem dX12_search_83 : decode cX12_search 83 = .ok (.aload_n 0, 1) := by decide +kernel
theorem dX12_search_84 : decode cX12_search 84 = .ok (.iload_n 3, 1) := by decide +kernel
theorem dX12_search_85 : decode cX12_search 85 = .ok (.invokevirtual 163, 3) := by decide +kernel
theorem dX12_search_88 : decode cX12_search 88 = .ok (.ifCond .eq 24, 3) := by decide +kernel
theorem dX12_search_91 : decode cX12_search 91 = .ok (.iinc 3 1, 3) := by decide +kernel
theorem dX12_search_94 : decode cX12_search 94 = .ok (.iload_n 3, 1) := by decide +kernel
theorem dX12_search_95 : decode cX12_search 95 = .ok (.aload_n 0, 1) := by decide +kernel
theorem dX12_search_96 : decode cX12_search 96 = .ok (.getfield 156, 3) := by decide +kernel
theorem dX12_search_99 : decode cX12_search 99 = .ok (.if_icmp .ge (-79), 3) := by decide +kernel
theorem dX12_search_102 : decode cX12_search 102 = .ok (.aload_n 0, 1) := by decide +kernel
theorem dX12_search_103 : decode cX12_search 103 = .ok (.getfield 25, 3) := by decide +kernel
theorem dX12_search_106 : decode cX12_search 106 = .ok (.iload_n 3, 1) := by decide +kernel
theorem dX12_search_107 : decode cX12_search 107 = .ok (.iconst 0, 1) := by decide +kernel
theorem dX12_search_108 : decode cX12_search 108 = .ok (.iastore, 1) := by decide +kernel
theorem dX12_search_109 : decode cX12_search 109 = .ok (.goto (-89), 3) := by decide +kernel
theorem dX12_search_112 : decode cX12_search 112 = .ok (.iinc 3 (-1), 3) := by decide +kernel
theorem dX12_search_115 : decode cX12_search 115 = .ok (.goto (-95), 3) := by decide +kernel
theorem dX12_search_118 : decode cX12_search 118 = .ok (.iload_n 2, 1) := by decide +kernel
theorem dX12_search_119 : decode cX12_search 119 = .ok (.ireturn, 1) := by decide +kernel
theorem dX12_emptyOf_0 : decode cX12_emptyOf 0 = .ok (.iconst 0, 1) := by decide +kernel
theorem dX12_emptyOf_1 : decode cX12_emptyOf 1 = .ok (.istore_n 2, 1) := by decide +kernel
theorem dX12_emptyOf_2 : decode cX12_emptyOf 2 = .ok (.iconst 0, 1) := by decide +kernel
theorem dX12_emptyOf_3 : decode cX12_emptyOf 3 = .ok (.istore_n 3, 1) := by decide +kernel
theorem dX12_emptyOf_4 : decode cX12_emptyOf 4 = .ok (.iload_n 3, 1) := by decide +kernel
theorem dX12_emptyOf_5 : decode cX12_emptyOf 5 = .ok (.aload_n 0, 1) := by decide +kernel
theorem dX12_emptyOf_6 : decode cX12_emptyOf 6 = .ok (.iload_n 1, 1) := by decide +kernel
theorem dX12_emptyOf_7 : decode cX12_emptyOf 7 = .ok (.invokevirtual 100, 3) := by decide +kernel
theorem dX12_emptyOf_10 : decode cX12_emptyOf 10 = .ok (.if_icmp .ge 31, 3) := by decide +kernel
theorem dX12_emptyOf_13 : decode cX12_emptyOf 13 = .ok (.iload_n 2, 1) := by decide +kernel
theorem dX12_emptyOf_14 : decode cX12_emptyOf 14 = .ok (.aload_n 0, 1) := by decide +kernel
theorem dX12_emptyOf_15 : decode cX12_emptyOf 15 = .ok (.getfield 13, 3) := by decide +kernel
theorem dX12_emptyOf_18 : decode cX12_emptyOf 18 = .ok (.bipush 81, 2) := by decide +kernel
theorem dX12_emptyOf_20 : decode cX12_emptyOf 20 = .ok (.iload_n 1, 1) := by decide +kernel
theorem dX12_emptyOf_21 : decode cX12_emptyOf 21 = .ok (.imul, 1) := by decide +kernel
theorem dX12_emptyOf_22 : decode cX12_emptyOf 22 = .ok (.iload_n 3, 1) := by decide +kernel
theorem dX12_emptyOf_23 : decode cX12_emptyOf 23 = .ok (.iadd, 1) := by decide +kernel
theorem dX12_emptyOf_24 : decode cX12_emptyOf 24 = .ok (.iaload, 1) := by decide +kernel
theorem dX12_emptyOf_25 : decode cX12_emptyOf 25 = .ok (.ifCond .ne 7, 3) := by decide +kernel
theorem dX12_emptyOf_28 : decode cX12_emptyOf 28 = .ok (.iconst 1, 1) := by decide +kernel
theorem dX12_emptyOf_29 : decode cX12_emptyOf 29 = .ok (.goto 4, 3) := by decide +kernel
theorem dX12_emptyOf_32 : decode cX12_emptyOf 32 = .ok (.iconst 0, 1) := by decide +kernel
theorem dX12_emptyOf_33 : decode cX12_emptyOf 33 = .ok (.iadd, 1) := by decide +kernel
theorem dX12_emptyOf_34 : decode cX12_emptyOf 34 = .ok (.istore_n 2, 1) := by decide +kernel
theorem dX12_emptyOf_35 : decode cX12_emptyOf 35 = .ok (.iinc 3 1, 3) := by decide +kernel
theorem dX12_emptyOf_38 : decode cX12_emptyOf 38 = .ok (.goto (-34), 3) := by decide +kernel
theorem dX12_emptyOf_41 : decode cX12_emptyOf 41 = .ok (.iload_n 2, 1) := by decide +kernel
theorem dX12_emptyOf_42 : decode cX12_emptyOf 42 = .ok (.ireturn, 1) := by decide +kernel
theorem dX12_isSearched_0 : decode cX12_isSearched 0 = .ok (.aload_n 0, 1) := by decide +kernel
theorem dX12_isSearched_1 : decode cX12_isSearched 1 = .ok (.getfield 7, 3) := by decide +kernel
theorem dX12_isSearched_4 : decode cX12_isSearched 4 = .ok (.iload_n 1, 1) := by decide +kernel
theorem dX12_isSearched_5 : decode cX12_isSearched 5 = .ok (.iaload, 1) := by decide +kernel
theorem dX12_isSearched_6 : decode cX12_isSearched 6 = .ok (.iconst 4, 1) := by decide +kernel
theorem dX12_isSearched_7 : decode cX12_isSearched 7 = .ok (.if_icmp .gt 17, 3) := by decide +kernel
theorem dX12_isSearched_10 : decode cX12_isSearched 10 = .ok (.aload_n 0, 1) := by decide +kernel
theorem dX12_isSearched_11 : decode cX12_isSearched 11 = .ok (.iload_n 1, 1) := by decide +kernel
theorem dX12_isSearched_12 : decode cX12_isSearched 12 = .ok (.invokevirtual 166, 3) := by decide +kernel
theorem dX12_isSearched_15 : decode cX12_isSearched 15 = .ok (.bipush 9, 2) := by decide +kernel
theorem dX12_isSearched_17 : decode cX12_isSearched 17 = .ok (.if_icmp .gt 7, 3) := by decide +kernel
theorem dX12_isSearched_20 : decode cX12_isSearched 20 = .ok (.iconst 1, 1) := by decide +kernel
theorem dX12_isSearched_21 : decode cX12_isSearched 21 = .ok (.goto 4, 3) := by decide +kernel
theorem dX12_isSearched_24 : decode cX12_isSearched 24 = .ok (.iconst 0, 1) := by decide +kernel
theorem dX12_isSearched_25 : decode cX12_isSearched 25 = .ok (.ireturn, 1) := by decide +kernel
theorem dX12_completions_0 : decode cX12_completions 0 = .ok (.aload_n 0, 1) := by decide +kernel
theorem dX12_completions_1 : decode cX12_completions 1 = .ok (.iload_n 1, 1) := by decide +kernel
theorem dX12_completions_2 : decode cX12_completions 2 = .ok (.invokevirtual 59, 3) := by decide +kernel
theorem dX12_completions_5 : decode cX12_completions 5 = .ok (.istore_n 2, 1) := by decide +kernel
theorem dX12_completions_6 : decode cX12_completions 6 = .ok (.aload_n 0, 1) := by decide +kernel
theorem dX12_completions_7 : decode cX12_completions 7 = .ok (.iload_n 2, 1) := by decide +kernel
theorem dX12_completions_8 : decode cX12_completions 8 = .ok (.ifCond .ne 7, 3) := by decide +kernel
theorem dX12_completions_11 : decode cX12_completions 11 = .ok (.iconst 1, 1) := by decide +kernel
theorem dX12_completions_12 : decode cX12_completions 12 = .ok (.goto 16, 3) := by decide +kernel
theorem dX12_completions_15 : decode cX12_completions 15 = .ok (.aload_n 0, 1) := by decide +kernel
theorem dX12_completions_16 : decode cX12_completions 16 = .ok (.iload_n 1, 1) := by decide +kernel
theorem dX12_completions_17 : decode cX12_completions 17 = .ok (.invokevirtual 169, 3) := by decide +kernel
theorem dX12_completions_20 : decode cX12_completions 20 = .ok (.ifCond .ne 7, 3) := by decide +kernel
theorem dX12_completions_23 : decode cX12_completions 23 = .ok (.iconst 2, 1) := by decide +kernel
theorem dX12_completions_24 : decode cX12_completions 24 = .ok (.goto 4, 3) := by decide +kernel
theorem dX12_completions_27 : decode cX12_completions 27 = .ok (.iconst 0, 1) := by decide +kernel
theorem dX12_completions_28 : decode cX12_completions 28 = .ok (.invokevirtual 63, 3) := by decide +kernel
theorem dX12_completions_31 : decode cX12_completions 31 = .ok (.ifCond .ne 5, 3) := by decide +kernel
theorem dX12_completions_34 : decode cX12_completions 34 = .ok (.iconst 0, 1) := by decide +kernel
theorem dX12_completions_35 : decode cX12_completions 35 = .ok (.ireturn, 1) := by decide +kernel
theorem dX12_completions_36 : decode cX12_completions 36 = .ok (.aload_n 0, 1) := by decide +kernel
theorem dX12_completions_37 : decode cX12_completions 37 = .ok (.iload_n 1, 1) := by decide +kernel
theorem dX12_completions_38 : decode cX12_completions 38 = .ok (.ldc 172, 2) := by decide +kernel
theorem dX12_completions_40 : decode cX12_completions 40 = .ok (.invokevirtual 173, 3) := by decide +kernel
theorem dX12_completions_43 : decode cX12_completions 43 = .ok (.aload_n 0, 1) := by decide +kernel
theorem dX12_completions_44 : decode cX12_completions 44 = .ok (.ldc 177, 2) := by decide +kernel
theorem dX12_completions_46 : decode cX12_completions 46 = .ok (.invokevirtual 178, 3) := by decide +kernel
theorem dX12_completions_49 : decode cX12_completions 49 = .ok (.ireturn, 1) := by decide +kernel
theorem dX12_completion_0 : decode cX12_completion 0 = .ok (.aload_n 0, 1) := by decide +kernel
theorem dX12_completion_1 : decode cX12_completion 1 = .ok (.iload_n 1, 1) := by decide +kernel
theorem dX12_completion_2 : decode cX12_completion 2 = .ok (.iload_n 3, 1) := by decide +kernel
theorem dX12_completion_3 : decode cX12_completion 3 = .ok (.iload 4, 2) := by decide +kernel
theorem dX12_completion_5 : decode cX12_completion 5 = .ok (.invokevirtual 73, 3) := by decide +kernel
theorem dX12_completion_8 : decode cX12_completion 8 = .ok (.istore 5, 2) := by decide +kernel
theorem dX12_completion_10 : decode cX12_completion 10 = .ok (.aload_n 0, 1) := by decide +kernel
theorem dX12_completion_11 : decode cX12_completion 11 = .ok (.iload 5, 2) := by decide +kernel
theorem dX12_completion_13 : decode cX12_completion 13 = .ok (.ifCond .ne 7, 3) := by decide +kernel
theorem dX12_completion_16 : decode cX12_completion 16 = .ok (.iconst 1, 1) := by decide +kernel
theorem dX12_completion_17 : decode cX12_completion 17 = .ok (.goto 24, 3) := by decide +kernel
theorem dX12_completion_20 : decode cX12_completion 20 = .ok (.iload_n 2, 1) := by decide +kernel
theorem dX12_completion_21 : decode cX12_completion 21 = .ok (.ifCond .ge 7, 3) := by decide +kernel
theorem dX12_completion_24 : decode cX12_completion 24 = .ok (.iconst 2, 1) := by decide +kernel
theorem dX12_completion_25 : decode cX12_completion 25 = .ok (.goto 16, 3) := by decide +kernel
theorem dX12_completion_28 : decode cX12_completion 28 = .ok (.aload_n 0, 1) := by decide +kernel
theorem dX12_completion_29 : decode cX12_completion 29 = .ok (.iload_n 1, 1) := by decide +kernel
theorem dX12_completion_30 : decode cX12_completion 30 = .ok (.invokevirtual 169, 3) := by decide +kernel
theorem dX12_completion_33 : decode cX12_completion 33 = .ok (.ifCond .ne 7, 3) := by decide +kernel
theorem dX12_completion_36 : decode cX12_completion 36 = .ok (.iconst 3, 1) := by decide +kernel
theorem dX12_completion_37 : decode cX12_completion 37 = .ok (.goto 4, 3) := by decide +kernel
theorem dX12_completion_40 : decode cX12_completion 40 = .ok (.iconst 0, 1) := by decide +kernel
theorem dX12_completion_41 : decode cX12_completion 41 = .ok (.invokevirtual 63, 3) := by decide +kernel
theorem dX12_completion_44 : decode cX12_completion 44 = .ok (.ifCond .ne 5, 3) := by decide +kernel
theorem dX12_completion_47 : decode cX12_completion 47 = .ok (.iconst 0, 1) := by decide +kernel
theorem dX12_completion_48 : decode cX12_completion 48 = .ok (.ireturn, 1) := by decide +kernel
theorem dX12_completion_49 : decode cX12_completion 49 = .ok (.aload_n 0, 1) := by decide +kernel
theorem dX12_completion_50 : decode cX12_completion 50 = .ok (.iload_n 1, 1) := by decide +kernel
theorem dX12_completion_51 : decode cX12_completion 51 = .ok (.ldc 172, 2) := by decide +kernel
theorem dX12_completion_53 : decode cX12_completion 53 = .ok (.invokevirtual 173, 3) := by decide +kernel
theorem dX12_completion_56 : decode cX12_completion 56 = .ok (.iload_n 2, 1) := by decide +kernel
theorem dX12_completion_57 : decode cX12_completion 57 = .ok (.ldc 177, 2) := by decide +kernel
theorem dX12_completion_59 : decode cX12_completion 59 = .ok (.if_icmp .eq 14, 3) := by decide +kernel
theorem dX12_completion_62 : decode cX12_completion 62 = .ok (.aload_n 0, 1) := by decide +kernel
theorem dX12_completion_63 : decode cX12_completion 63 = .ok (.iload_n 2, 1) := by decide +kernel
theorem dX12_completion_64 : decode cX12_completion 64 = .ok (.iconst 1, 1) := by decide +kernel
theorem dX12_completion_65 : decode cX12_completion 65 = .ok (.iadd, 1) := by decide +kernel
theorem dX12_completion_66 : decode cX12_completion 66 = .ok (.invokevirtual 178, 3) := by decide +kernel
theorem dX12_completion_69 : decode cX12_completion 69 = .ok (.iload_n 2, 1) := by decide +kernel
theorem dX12_completion_70 : decode cX12_completion 70 = .ok (.if_icmp .gt 5, 3) := by decide +kernel
theorem dX12_completion_73 : decode cX12_completion 73 = .ok (.iconst (-1), 1) := by decide +kernel
theorem dX12_completion_74 : decode cX12_completion 74 = .ok (.ireturn, 1) := by decide +kernel
theorem dX12_completion_75 : decode cX12_completion 75 = .ok (.aload_n 0, 1) := by decide +kernel
theorem dX12_completion_76 : decode cX12_completion 76 = .ok (.getfield 28, 3) := by decide +kernel
theorem dX12_completion_79 : decode cX12_completion 79 = .ok (.aload_n 0, 1) := by decide +kernel
theorem dX12_completion_80 : decode cX12_completion 80 = .ok (.getfield 150, 3) := by decide +kernel
theorem dX12_completion_83 : decode cX12_completion 83 = .ok (.iload_n 3, 1) := by decide +kernel
theorem dX12_completion_84 : decode cX12_completion 84 = .ok (.imul, 1) := by decide +kernel
theorem dX12_completion_85 : decode cX12_completion 85 = .ok (.iload 4, 2) := by decide +kernel
theorem dX12_completion_87 : decode cX12_completion 87 = .ok (.iadd, 1) := by decide +kernel
theorem dX12_completion_88 : decode cX12_completion 88 = .ok (.iaload, 1) := by decide +kernel
theorem dX12_completion_89 : decode cX12_completion 89 = .ok (.ireturn, 1) := by decide +kernel
theorem dX12_estimate_0 : decode cX12_estimate 0 = .ok (.aload_n 0, 1) := by decide +kernel
theorem dX12_estimate_1 : decode cX12_estimate 1 = .ok (.iload_n 1, 1) := by decide +kernel
theorem dX12_estimate_2 : decode cX12_estimate 2 = .ok (.invokevirtual 59, 3) := by decide +kernel
theorem dX12_estimate_5 : decode cX12_estimate 5 = .ok (.istore_n 3, 1) := by decide +kernel
theorem dX12_estimate_6 : decode cX12_estimate 6 = .ok (.aload_n 0, 1) := by decide +kernel
theorem dX12_estimate_7 : decode cX12_estimate 7 = .ok (.iload_n 3, 1) := by decide +kernel
theorem dX12_estimate_8 : decode cX12_estimate 8 = .ok (.ifCond .ne 7, 3) := by decide +kernel
theorem dX12_estimate_11 : decode cX12_estimate 11 = .ok (.iconst 1, 1) := by decide +kernel
theorem dX12_estimate_12 : decode cX12_estimate 12 = .ok (.goto 32, 3) := by decide +kernel
theorem dX12_estimate_15 : decode cX12_estimate 15 = .ok (.iload_n 2, 1) := by decide +kernel
theorem dX12_estimate_16 : decode cX12_estimate 16 = .ok (.iconst 0, 1) := by decide +kernel
theorem dX12_estimate_17 : decode cX12_estimate 17 = .ok (.ldc 172, 2) := by decide +kernel
theorem dX12_estimate_19 : decode cX12_estimate 19 = .ok (.invokestatic 55, 3) := by decide +kernel
theorem dX12_estimate_22 : decode cX12_estimate 22 = .ok (.ifCond .ne 7, 3) := by decide +kernel
theorem dX12_estimate_25 : decode cX12_estimate 25 = .ok (.iconst 2, 1) := by decide +kernel
theorem dX12_estimate_26 : decode cX12_estimate 26 = .ok (.goto 18, 3) := by decide +kernel
theorem dX12_estimate_29 : decode cX12_estimate 29 = .ok (.aload_n 0, 1) := by decide +kernel
theorem dX12_estimate_30 : decode cX12_estimate 30 = .ok (.getfield 7, 3) := by decide +kernel
theorem dX12_estimate_33 : decode cX12_estimate 33 = .ok (.iload_n 1, 1) := by decide +kernel
theorem dX12_estimate_34 : decode cX12_estimate 34 = .ok (.iaload, 1) := by decide +kernel
theorem dX12_estimate_35 : decode cX12_estimate 35 = .ok (.iconst 4, 1) := by decide +kernel
theorem dX12_estimate_36 : decode cX12_estimate 36 = .ok (.if_icmp .le 7, 3) := by decide +kernel
theorem dX12_estimate_39 : decode cX12_estimate 39 = .ok (.iconst 3, 1) := by decide +kernel
theorem dX12_estimate_40 : decode cX12_estimate 40 = .ok (.goto 4, 3) := by decide +kernel
theorem dX12_estimate_43 : decode cX12_estimate 43 = .ok (.iconst 0, 1) := by decide +kernel
theorem dX12_estimate_44 : decode cX12_estimate 44 = .ok (.invokevirtual 63, 3) := by decide +kernel
theorem dX12_estimate_47 : decode cX12_estimate 47 = .ok (.ifCond .ne 5, 3) := by decide +kernel
theorem dX12_estimate_50 : decode cX12_estimate 50 = .ok (.lconst 0, 1) := by decide +kernel
theorem dX12_estimate_51 : decode cX12_estimate 51 = .ok (.lreturn, 1) := by decide +kernel
theorem dX12_estimate_52 : decode cX12_estimate 52 = .ok (.aload_n 0, 1) := by decide +kernel
theorem dX12_estimate_53 : decode cX12_estimate 53 = .ok (.iload_n 1, 1) := by decide +kernel
theorem dX12_estimate_54 : decode cX12_estimate 54 = .ok (.ldc 172, 2) := by decide +kernel
theorem dX12_estimate_56 : decode cX12_estimate 56 = .ok (.invokevirtual 173, 3) := by decide +kernel
theorem dX12_estimate_59 : decode cX12_estimate 59 = .ok (.aload_n 0, 1) := by decide +kernel
theorem dX12_estimate_60 : decode cX12_estimate 60 = .ok (.invokevirtual 159, 3) := by decide +kernel
theorem dX12_estimate_63 : decode cX12_estimate 63 = .ok (.ifCond .eq 7, 3) := by decide +kernel
theorem dX12_estimate_66 : decode cX12_estimate 66 = .ok (.lconst 1, 1) := by decide +kernel
theorem dX12_estimate_67 : decode cX12_estimate 67 = .ok (.goto 4, 3) := by decide +kernel
theorem dX12_estimate_70 : decode cX12_estimate 70 = .ok (.lconst 0, 1) := by decide +kernel
theorem dX12_estimate_71 : decode cX12_estimate 71 = .ok (.lstore 4, 2) := by decide +kernel
theorem dX12_estimate_73 : decode cX12_estimate 73 = .ok (.iload_n 2, 1) := by decide +kernel
theorem dX12_estimate_74 : decode cX12_estimate 74 = .ok (.istore 6, 2) := by decide +kernel
theorem dX12_estimate_76 : decode cX12_estimate 76 = .ok (.iconst 0, 1) := by decide +kernel
theorem dX12_estimate_77 : decode cX12_estimate 77 = .ok (.istore 7, 2) := by decide +kernel
theorem dX12_estimate_79 : decode cX12_estimate 79 = .ok (.iload 7, 2) := by decide +kernel
theorem dX12_estimate_81 : decode cX12_estimate 81 = .ok (.aload_n 0, 1) := by decide +kernel
theorem dX12_estimate_82 : decode cX12_estimate 82 = .ok (.getfield 156, 3) := by decide +kernel
theorem dX12_estimate_85 : decode cX12_estimate 85 = .ok (.if_icmp .ge 132, 3) := by decide +kernel
theorem dX12_estimate_88 : decode cX12_estimate 88 = .ok (.lload 4, 2) := by decide +kernel
theorem dX12_estimate_90 : decode cX12_estimate 90 = .ok (.lconst 0, 1) := by decide +kernel
theorem dX12_estimate_91 : decode cX12_estimate 91 = .ok (.lcmp, 1) := by decide +kernel
theorem dX12_estimate_92 : decode cX12_estimate 92 = .ok (.ifCond .le 125, 3) := by decide +kernel
theorem dX12_estimate_95 : decode cX12_estimate 95 = .ok (.iconst 0, 1) := by decide +kernel
theorem dX12_estimate_96 : decode cX12_estimate 96 = .ok (.istore 8, 2) := by decide +kernel
theorem dX12_estimate_98 : decode cX12_estimate 98 = .ok (.iconst 1, 1) := by decide +kernel
theorem dX12_estimate_99 : decode cX12_estimate 99 = .ok (.istore 9, 2) := by decide +kernel
theorem dX12_estimate_101 : decode cX12_estimate 101 = .ok (.iload 9, 2) := by decide +kernel
theorem dX12_estimate_103 : decode cX12_estimate 103 = .ok (.aload_n 0, 1) := by decide +kernel
theorem dX12_estimate_104 : decode cX12_estimate 104 = .ok (.getfield 150, 3) := by decide +kernel
theorem dX12_estimate_107 : decode cX12_estimate 107 = .ok (.aload_n 0, 1) := by decide +kernel
theorem dX12_estimate_108 : decode cX12_estimate 108 = .ok (.getfield 150, 3) := by decide +kernel
theorem dX12_estimate_111 : decode cX12_estimate 111 = .ok (.imul, 1) := by decide +kernel
theorem dX12_estimate_112 : decode cX12_estimate 112 = .ok (.if_icmp .gt 42, 3) := by decide +kernel
theorem dX12_estimate_115 : decode cX12_estimate 115 = .ok (.aload_n 0, 1) := by decide +kernel
theorem dX12_estimate_116 : decode cX12_estimate 116 = .ok (.getfield 19, 3) := by decide +kernel
theorem dX12_estimate_119 : decode cX12_estimate 119 = .ok (.aload_n 0, 1) := by decide +kernel
theorem dX12_estimate_120 : decode cX12_estimate 120 = .ok (.getfield 22, 3) := by decide +kernel
theorem dX12_estimate_123 : decode cX12_estimate 123 = .ok (.iload 7, 2) := by decide +kernel
theorem dX12_estimate_125 : decode cX12_estimate 125 = .ok (.iaload, 1) := by decide +kernel
theorem dX12_estimate_126 : decode cX12_estimate 126 = .ok (.iload 9, 2) := by decide +kernel
