theorem dX4_told_0 : decode cX4_told 0 = .ok (.iload_n 1, 1) := by decide +kernel
theorem dX4_told_1 : decode cX4_told 1 = .ok (.ifCond .ne 10, 3) := by decide +kernel
theorem dX4_told_4 : decode cX4_told 4 = .ok (.aload_n 0, 1) := by decide +kernel
theorem dX4_told_5 : decode cX4_told 5 = .ok (.getfield 75, 3) := by decide +kernel
theorem dX4_told_8 : decode cX4_told 8 = .ok (.goto 7, 3) := by decide +kernel
theorem dX4_told_11 : decode cX4_told 11 = .ok (.aload_n 0, 1) := by decide +kernel
theorem dX4_told_12 : decode cX4_told 12 = .ok (.getfield 7, 3) := by decide +kernel
theorem dX4_told_15 : decode cX4_told 15 = .ok (.lreturn, 1) := by decide +kernel
theorem dX4_isWhich_0 : decode cX4_isWhich 0 = .ok (.iload_n 0, 1) := by decide +kernel
theorem dX4_isWhich_1 : decode cX4_isWhich 1 = .ok (.iconst 0, 1) := by decide +kernel
theorem dX4_isWhich_2 : decode cX4_isWhich 2 = .ok (.iconst 1, 1) := by decide +kernel
theorem dX4_isWhich_3 : decode cX4_isWhich 3 = .ok (.invokestatic 82, 3) := by decide +kernel
theorem dX4_isWhich_6 : decode cX4_isWhich 6 = .ok (.ireturn, 1) := by decide +kernel
theorem dX4_clears_0 : decode cX4_clears 0 = .ok (.aload_n 0, 1) := by decide +kernel
theorem dX4_clears_1 : decode cX4_clears 1 = .ok (.getfield 17, 3) := by decide +kernel
theorem dX4_clears_4 : decode cX4_clears 4 = .ok (.iload_n 1, 1) := by decide +kernel
theorem dX4_clears_5 : decode cX4_clears 5 = .ok (.iconst 0, 1) := by decide +kernel
theorem dX4_clears_6 : decode cX4_clears 6 = .ok (.bastore, 1) := by decide +kernel
theorem dX4_clears_7 : decode cX4_clears 7 = .ok (.aload_n 0, 1) := by decide +kernel
theorem dX4_clears_8 : decode cX4_clears 8 = .ok (.getfield 21, 3) := by decide +kernel
theorem dX4_clears_11 : decode cX4_clears 11 = .ok (.iload_n 1, 1) := by decide +kernel
theorem dX4_clears_12 : decode cX4_clears 12 = .ok (.iconst 0, 1) := by decide +kernel
theorem dX4_clears_13 : decode cX4_clears 13 = .ok (.iastore, 1) := by decide +kernel
theorem dX4_clears_14 : decode cX4_clears 14 = .ok (.aload_n 0, 1) := by decide +kernel
theorem dX4_clears_15 : decode cX4_clears 15 = .ok (.getfield 24, 3) := by decide +kernel
theorem dX4_clears_18 : decode cX4_clears 18 = .ok (.iload_n 1, 1) := by decide +kernel
theorem dX4_clears_19 : decode cX4_clears 19 = .ok (.iconst 0, 1) := by decide +kernel
theorem dX4_clears_20 : decode cX4_clears 20 = .ok (.bastore, 1) := by decide +kernel
theorem dX4_clears_21 : decode cX4_clears 21 = .ok (.aload_n 0, 1) := by decide +kernel
theorem dX4_clears_22 : decode cX4_clears 22 = .ok (.getfield 27, 3) := by decide +kernel
theorem dX4_clears_25 : decode cX4_clears 25 = .ok (.iload_n 1, 1) := by decide +kernel
theorem dX4_clears_26 : decode cX4_clears 26 = .ok (.bipush (-9), 2) := by decide +kernel
theorem dX4_clears_28 : decode cX4_clears 28 = .ok (.iastore, 1) := by decide +kernel
theorem dX4_clears_29 : decode cX4_clears 29 = .ok (.aload_n 0, 1) := by decide +kernel
theorem dX4_clears_30 : decode cX4_clears 30 = .ok (.getfield 30, 3) := by decide +kernel
theorem dX4_clears_33 : decode cX4_clears 33 = .ok (.iload_n 1, 1) := by decide +kernel
theorem dX4_clears_34 : decode cX4_clears 34 = .ok (.bipush (-9), 2) := by decide +kernel
theorem dX4_clears_36 : decode cX4_clears 36 = .ok (.iastore, 1) := by decide +kernel
theorem dX4_clears_37 : decode cX4_clears 37 = .ok (.aload_n 0, 1) := by decide +kernel
theorem dX4_clears_38 : decode cX4_clears 38 = .ok (.getfield 33, 3) := by decide +kernel
theorem dX4_clears_41 : decode cX4_clears 41 = .ok (.iload_n 1, 1) := by decide +kernel
theorem dX4_clears_42 : decode cX4_clears 42 = .ok (.iconst 0, 1) := by decide +kernel
theorem dX4_clears_43 : decode cX4_clears 43 = .ok (.iastore, 1) := by decide +kernel
theorem dX4_clears_44 : decode cX4_clears 44 = .ok (.return_, 1) := by decide +kernel
theorem dX4_isThere_0 : decode cX4_isThere 0 = .ok (.iload_n 1, 1) := by decide +kernel
theorem dX4_isThere_1 : decode cX4_isThere 1 = .ok (.iconst 0, 1) := by decide +kernel
theorem dX4_isThere_2 : decode cX4_isThere 2 = .ok (.iconst 5, 1) := by decide +kernel
theorem dX4_isThere_3 : decode cX4_isThere 3 = .ok (.invokestatic 82, 3) := by decide +kernel
theorem dX4_isThere_6 : decode cX4_isThere 6 = .ok (.ifCond .eq 16, 3) := by decide +kernel
theorem dX4_isThere_9 : decode cX4_isThere 9 = .ok (.aload_n 0, 1) := by decide +kernel
theorem dX4_isThere_10 : decode cX4_isThere 10 = .ok (.getfield 17, 3) := by decide +kernel
theorem dX4_isThere_13 : decode cX4_isThere 13 = .ok (.iload_n 1, 1) := by decide +kernel
theorem dX4_isThere_14 : decode cX4_isThere 14 = .ok (.baload, 1) := by decide +kernel
theorem dX4_isThere_15 : decode cX4_isThere 15 = .ok (.ifCond .eq 7, 3) := by decide +kernel
theorem dX4_isThere_18 : decode cX4_isThere 18 = .ok (.iconst 1, 1) := by decide +kernel
theorem dX4_isThere_19 : decode cX4_isThere 19 = .ok (.goto 4, 3) := by decide +kernel
theorem dX4_isThere_22 : decode cX4_isThere 22 = .ok (.iconst 0, 1) := by decide +kernel
theorem dX4_isThere_23 : decode cX4_isThere 23 = .ok (.ireturn, 1) := by decide +kernel
theorem dX4_loss_0 : decode cX4_loss 0 = .ok (.iload_n 1, 1) := by decide +kernel
theorem dX4_loss_1 : decode cX4_loss 1 = .ok (.iconst 0, 1) := by decide +kernel
theorem dX4_loss_2 : decode cX4_loss 2 = .ok (.ldc 86, 2) := by decide +kernel
theorem dX4_loss_4 : decode cX4_loss 4 = .ok (.invokestatic 82, 3) := by decide +kernel
theorem dX4_loss_7 : decode cX4_loss 7 = .ok (.ifCond .ne 6, 3) := by decide +kernel
theorem dX4_loss_10 : decode cX4_loss 10 = .ok (.bipush (-2), 2) := by decide +kernel
theorem dX4_loss_12 : decode cX4_loss 12 = .ok (.ireturn, 1) := by decide +kernel
theorem dX4_loss_13 : decode cX4_loss 13 = .ok (.aload_n 0, 1) := by decide +kernel
theorem dX4_loss_14 : decode cX4_loss 14 = .ok (.getfield 87, 3) := by decide +kernel
theorem dX4_loss_17 : decode cX4_loss 17 = .ok (.istore_n 2, 1) := by decide +kernel
theorem dX4_loss_18 : decode cX4_loss 18 = .ok (.aload_n 0, 1) := by decide +kernel
theorem dX4_loss_19 : decode cX4_loss 19 = .ok (.iload_n 1, 1) := by decide +kernel
theorem dX4_loss_20 : decode cX4_loss 20 = .ok (.putfield 87, 3) := by decide +kernel
theorem dX4_loss_23 : decode cX4_loss 23 = .ok (.iload_n 2, 1) := by decide +kernel
theorem dX4_loss_24 : decode cX4_loss 24 = .ok (.ireturn, 1) := by decide +kernel
theorem dX4_claimant_0 : decode cX4_claimant 0 = .ok (.iload_n 1, 1) := by decide +kernel
theorem dX4_claimant_1 : decode cX4_claimant 1 = .ok (.iconst 0, 1) := by decide +kernel
theorem dX4_claimant_2 : decode cX4_claimant 2 = .ok (.bipush 100, 2) := by decide +kernel
theorem dX4_claimant_4 : decode cX4_claimant 4 = .ok (.invokestatic 82, 3) := by decide +kernel
theorem dX4_claimant_7 : decode cX4_claimant 7 = .ok (.ifCond .ne 6, 3) := by decide +kernel
theorem dX4_claimant_10 : decode cX4_claimant 10 = .ok (.bipush (-2), 2) := by decide +kernel
theorem dX4_claimant_12 : decode cX4_claimant 12 = .ok (.ireturn, 1) := by decide +kernel
theorem dX4_claimant_13 : decode cX4_claimant 13 = .ok (.aload_n 0, 1) := by decide +kernel
theorem dX4_claimant_14 : decode cX4_claimant 14 = .ok (.getfield 91, 3) := by decide +kernel
theorem dX4_claimant_17 : decode cX4_claimant 17 = .ok (.istore_n 2, 1) := by decide +kernel
theorem dX4_claimant_18 : decode cX4_claimant 18 = .ok (.aload_n 0, 1) := by decide +kernel
theorem dX4_claimant_19 : decode cX4_claimant 19 = .ok (.iload_n 1, 1) := by decide +kernel
theorem dX4_claimant_20 : decode cX4_claimant 20 = .ok (.putfield 91, 3) := by decide +kernel
theorem dX4_claimant_23 : decode cX4_claimant 23 = .ok (.iload_n 2, 1) := by decide +kernel
theorem dX4_claimant_24 : decode cX4_claimant 24 = .ok (.ireturn, 1) := by decide +kernel
theorem dX4_manyIn_0 : decode cX4_manyIn 0 = .ok (.iconst 0, 1) := by decide +kernel
theorem dX4_manyIn_1 : decode cX4_manyIn 1 = .ok (.istore_n 1, 1) := by decide +kernel
theorem dX4_manyIn_2 : decode cX4_manyIn 2 = .ok (.iconst 0, 1) := by decide +kernel
theorem dX4_manyIn_3 : decode cX4_manyIn 3 = .ok (.istore_n 2, 1) := by decide +kernel
theorem dX4_manyIn_4 : decode cX4_manyIn 4 = .ok (.iload_n 2, 1) := by decide +kernel
theorem dX4_manyIn_5 : decode cX4_manyIn 5 = .ok (.bipush 6, 2) := by decide +kernel
theorem dX4_manyIn_7 : decode cX4_manyIn 7 = .ok (.if_icmp .ge 26, 3) := by decide +kernel
theorem dX4_manyIn_10 : decode cX4_manyIn 10 = .ok (.iload_n 1, 1) := by decide +kernel
theorem dX4_manyIn_11 : decode cX4_manyIn 11 = .ok (.aload_n 0, 1) := by decide +kernel
theorem dX4_manyIn_12 : decode cX4_manyIn 12 = .ok (.getfield 17, 3) := by decide +kernel
theorem dX4_manyIn_15 : decode cX4_manyIn 15 = .ok (.iload_n 2, 1) := by decide +kernel
theorem dX4_manyIn_16 : decode cX4_manyIn 16 = .ok (.baload, 1) := by decide +kernel
theorem dX4_manyIn_17 : decode cX4_manyIn 17 = .ok (.ifCond .eq 7, 3) := by decide +kernel
theorem dX4_manyIn_20 : decode cX4_manyIn 20 = .ok (.iconst 1, 1) := by decide +kernel
theorem dX4_manyIn_21 : decode cX4_manyIn 21 = .ok (.goto 4, 3) := by decide +kernel
theorem dX4_manyIn_24 : decode cX4_manyIn 24 = .ok (.iconst 0, 1) := by decide +kernel
theorem dX4_manyIn_25 : decode cX4_manyIn 25 = .ok (.iadd, 1) := by decide +kernel
theorem dX4_manyIn_26 : decode cX4_manyIn 26 = .ok (.istore_n 1, 1) := by decide +kernel
theorem dX4_manyIn_27 : decode cX4_manyIn 27 = .ok (.iinc 2 1, 3) := by decide +kernel
theorem dX4_manyIn_30 : decode cX4_manyIn 30 = .ok (.goto (-26), 3) := by decide +kernel
theorem dX4_manyIn_33 : decode cX4_manyIn 33 = .ok (.iload_n 1, 1) := by decide +kernel
theorem dX4_manyIn_34 : decode cX4_manyIn 34 = .ok (.ireturn, 1) := by decide +kernel
theorem dX4_wrong_0 : decode cX4_wrong 0 = .ok (.iload_n 1, 1) := by decide +kernel
theorem dX4_wrong_1 : decode cX4_wrong 1 = .ok (.iconst 0, 1) := by decide +kernel
theorem dX4_wrong_2 : decode cX4_wrong 2 = .ok (.bipush 100, 2) := by decide +kernel
theorem dX4_wrong_4 : decode cX4_wrong 4 = .ok (.invokestatic 82, 3) := by decide +kernel
theorem dX4_wrong_7 : decode cX4_wrong 7 = .ok (.ifCond .ne 6, 3) := by decide +kernel
theorem dX4_wrong_10 : decode cX4_wrong 10 = .ok (.bipush (-2), 2) := by decide +kernel
theorem dX4_wrong_12 : decode cX4_wrong 12 = .ok (.ireturn, 1) := by decide +kernel
theorem dX4_wrong_13 : decode cX4_wrong 13 = .ok (.aload_n 0, 1) := by decide +kernel
theorem dX4_wrong_14 : decode cX4_wrong 14 = .ok (.invokevirtual 94, 3) := by decide +kernel
theorem dX4_wrong_17 : decode cX4_wrong 17 = .ok (.bipush 6, 2) := by decide +kernel
theorem dX4_wrong_19 : decode cX4_wrong 19 = .ok (.if_icmp .ne 6, 3) := by decide +kernel
theorem dX4_wrong_22 : decode cX4_wrong 22 = .ok (.bipush (-4), 2) := by decide +kernel
theorem dX4_wrong_24 : decode cX4_wrong 24 = .ok (.ireturn, 1) := by decide +kernel
theorem dX4_wrong_25 : decode cX4_wrong 25 = .ok (.iconst 0, 1) := by decide +kernel
theorem dX4_wrong_26 : decode cX4_wrong 26 = .ok (.istore_n 2, 1) := by decide +kernel
theorem dX4_wrong_27 : decode cX4_wrong 27 = .ok (.aload_n 0, 1) := by decide +kernel
theorem dX4_wrong_28 : decode cX4_wrong 28 = .ok (.getfield 17, 3) := by decide +kernel
theorem dX4_wrong_31 : decode cX4_wrong 31 = .ok (.iload_n 2, 1) := by decide +kernel
theorem dX4_wrong_32 : decode cX4_wrong 32 = .ok (.baload, 1) := by decide +kernel
theorem dX4_wrong_33 : decode cX4_wrong 33 = .ok (.ifCond .eq 9, 3) := by decide +kernel
theorem dX4_wrong_36 : decode cX4_wrong 36 = .ok (.iinc 2 1, 3) := by decide +kernel
theorem dX4_wrong_39 : decode cX4_wrong 39 = .ok (.goto (-12), 3) := by decide +kernel
theorem dX4_wrong_42 : decode cX4_wrong 42 = .ok (.aload_n 0, 1) := by decide +kernel
theorem dX4_wrong_43 : decode cX4_wrong 43 = .ok (.iload_n 2, 1) := by decide +kernel
theorem dX4_wrong_44 : decode cX4_wrong 44 = .ok (.invokevirtual 67, 3) := by decide +kernel
theorem dX4_wrong_47 : decode cX4_wrong 47 = .ok (.aload_n 0, 1) := by decide +kernel
theorem dX4_wrong_48 : decode cX4_wrong 48 = .ok (.getfield 17, 3) := by decide +kernel
theorem dX4_wrong_51 : decode cX4_wrong 51 = .ok (.iload_n 2, 1) := by decide +kernel
theorem dX4_wrong_52 : decode cX4_wrong 52 = .ok (.iconst 1, 1) := by decide +kernel
theorem dX4_wrong_53 : decode cX4_wrong 53 = .ok (.bastore, 1) := by decide +kernel
theorem dX4_wrong_54 : decode cX4_wrong 54 = .ok (.aload_n 0, 1) := by decide +kernel
theorem dX4_wrong_55 : decode cX4_wrong 55 = .ok (.getfield 21, 3) := by decide +kernel
theorem dX4_wrong_58 : decode cX4_wrong 58 = .ok (.iload_n 2, 1) := by decide +kernel
theorem dX4_wrong_59 : decode cX4_wrong 59 = .ok (.iload_n 1, 1) := by decide +kernel
theorem dX4_wrong_60 : decode cX4_wrong 60 = .ok (.iastore, 1) := by decide +kernel
theorem dX4_wrong_61 : decode cX4_wrong 61 = .ok (.iload_n 2, 1) := by decide +kernel
theorem dX4_wrong_62 : decode cX4_wrong 62 = .ok (.ireturn, 1) := by decide +kernel
theorem dX4_leave_0 : decode cX4_leave 0 = .ok (.aload_n 0, 1) := by decide +kernel
theorem dX4_leave_1 : decode cX4_leave 1 = .ok (.iload_n 1, 1) := by decide +kernel
theorem dX4_leave_2 : decode cX4_leave 2 = .ok (.invokevirtual 98, 3) := by decide +kernel
theorem dX4_leave_5 : decode cX4_leave 5 = .ok (.ifCond .ne 5, 3) := by decide +kernel
theorem dX4_leave_8 : decode cX4_leave 8 = .ok (.iconst (-1), 1) := by decide +kernel
theorem dX4_leave_9 : decode cX4_leave 9 = .ok (.ireturn, 1) := by decide +kernel
theorem dX4_leave_10 : decode cX4_leave 10 = .ok (.aload_n 0, 1) := by decide +kernel
theorem dX4_leave_11 : decode cX4_leave 11 = .ok (.getfield 27, 3) := by decide +kernel
theorem dX4_leave_14 : decode cX4_leave 14 = .ok (.iload_n 1, 1) := by decide +kernel
theorem dX4_leave_15 : decode cX4_leave 15 = .ok (.iaload, 1) := by decide +kernel
theorem dX4_leave_16 : decode cX4_leave 16 = .ok (.istore_n 2, 1) := by decide +kernel
theorem dX4_leave_17 : decode cX4_leave 17 = .ok (.aload_n 0, 1) := by decide +kernel
theorem dX4_leave_18 : decode cX4_leave 18 = .ok (.iload_n 1, 1) := by decide +kernel
theorem dX4_leave_19 : decode cX4_leave 19 = .ok (.invokevirtual 67, 3) := by decide +kernel
theorem dX4_leave_22 : decode cX4_leave 22 = .ok (.iload_n 2, 1) := by decide +kernel
theorem dX4_leave_23 : decode cX4_leave 23 = .ok (.bipush (-9), 2) := by decide +kernel
theorem dX4_leave_25 : decode cX4_leave 25 = .ok (.if_icmp .eq 19, 3) := by decide +kernel
theorem dX4_leave_28 : decode cX4_leave 28 = .ok (.aload_n 0, 1) := by decide +kernel
theorem dX4_leave_29 : decode cX4_leave 29 = .ok (.getfield 27, 3) := by decide +kernel
theorem dX4_leave_32 : decode cX4_leave 32 = .ok (.iload_n 2, 1) := by decide +kernel
theorem dX4_leave_33 : decode cX4_leave 33 = .ok (.bipush (-9), 2) := by decide +kernel
theorem dX4_leave_35 : decode cX4_leave 35 = .ok (.iastore, 1) := by decide +kernel
theorem dX4_leave_36 : decode cX4_leave 36 = .ok (.aload_n 0, 1) := by decide +kernel
theorem dX4_leave_37 : decode cX4_leave 37 = .ok (.getfield 30, 3) := by decide +kernel
theorem dX4_leave_40 : decode cX4_leave 40 = .ok (.iload_n 2, 1) := by decide +kernel
theorem dX4_leave_41 : decode cX4_leave 41 = .ok (.bipush (-9), 2) := by decide +kernel
theorem dX4_leave_43 : decode cX4_leave 43 = .ok (.iastore, 1) := by decide +kernel
theorem dX4_leave_44 : decode cX4_leave 44 = .ok (.aload_n 0, 1) := by decide +kernel
theorem dX4_leave_45 : decode cX4_leave 45 = .ok (.invokevirtual 94, 3) := by decide +kernel
theorem dX4_leave_48 : decode cX4_leave 48 = .ok (.ireturn, 1) := by decide +kernel
theorem dX4_weight_0 : decode cX4_weight 0 = .ok (.aload_n 0, 1) := by decide +kernel
theorem dX4_weight_1 : decode cX4_weight 1 = .ok (.iload_n 1, 1) := by decide +kernel
theorem dX4_weight_2 : decode cX4_weight 2 = .ok (.invokevirtual 98, 3) := by decide +kernel
theorem dX4_weight_5 : decode cX4_weight 5 = .ok (.ifCond .ne 5, 3) := by decide +kernel
theorem dX4_weight_8 : decode cX4_weight 8 = .ok (.iconst (-1), 1) := by decide +kernel
theorem dX4_weight_9 : decode cX4_weight 9 = .ok (.ireturn, 1) := by decide +kernel
theorem dX4_weight_10 : decode cX4_weight 10 = .ok (.iload_n 2, 1) := by decide +kernel
theorem dX4_weight_11 : decode cX4_weight 11 = .ok (.iconst 0, 1) := by decide +kernel
theorem dX4_weight_12 : decode cX4_weight 12 = .ok (.bipush 100, 2) := by decide +kernel
theorem dX4_weight_14 : decode cX4_weight 14 = .ok (.invokestatic 82, 3) := by decide +kernel
theorem dX4_weight_17 : decode cX4_weight 17 = .ok (.ifCond .ne 6, 3) := by decide +kernel
theorem dX4_weight_20 : decode cX4_weight 20 = .ok (.bipush (-2), 2) := by decide +kernel
theorem dX4_weight_22 : decode cX4_weight 22 = .ok (.ireturn, 1) := by decide +kernel
theorem dX4_weight_23 : decode cX4_weight 23 = .ok (.aload_n 0, 1) := by decide +kernel
theorem dX4_weight_24 : decode cX4_weight 24 = .ok (.getfield 21, 3) := by decide +kernel
theorem dX4_weight_27 : decode cX4_weight 27 = .ok (.iload_n 1, 1) := by decide +kernel
theorem dX4_weight_28 : decode cX4_weight 28 = .ok (.iaload, 1) := by decide +kernel
theorem dX4_weight_29 : decode cX4_weight 29 = .ok (.istore_n 3, 1) := by decide +kernel
theorem dX4_weight_30 : decode cX4_weight 30 = .ok (.aload_n 0, 1) := by decide +kernel
theorem dX4_weight_31 : decode cX4_weight 31 = .ok (.getfield 21, 3) := by decide +kernel
theorem dX4_weight_34 : decode cX4_weight 34 = .ok (.iload_n 1, 1) := by decide +kernel
theorem dX4_weight_35 : decode cX4_weight 35 = .ok (.iload_n 2, 1) := by decide +kernel
theorem dX4_weight_36 : decode cX4_weight 36 = .ok (.iastore, 1) := by decide +kernel
theorem dX4_weight_37 : decode cX4_weight 37 = .ok (.iload_n 3, 1) := by decide +kernel
theorem dX4_weight_38 : decode cX4_weight 38 = .ok (.ireturn, 1) := by decide +kernel
theorem dX4_broke_0 : decode cX4_broke 0 = .ok (.aload_n 0, 1) := by decide +kernel
theorem dX4_broke_1 : decode cX4_broke 1 = .ok (.iload_n 1, 1) := by decide +kernel
theorem dX4_broke_2 : decode cX4_broke 2 = .ok (.invokevirtual 98, 3) := by decide +kernel
theorem dX4_broke_5 : decode cX4_broke 5 = .ok (.ifCond .ne 5, 3) := by decide +kernel
theorem dX4_broke_8 : decode cX4_broke 8 = .ok (.iconst (-1), 1) := by decide +kernel
theorem dX4_broke_9 : decode cX4_broke 9 = .ok (.ireturn, 1) := by decide +kernel
theorem dX4_broke_10 : decode cX4_broke 10 = .ok (.aload_n 0, 1) := by decide +kernel
theorem dX4_broke_11 : decode cX4_broke 11 = .ok (.getfield 24, 3) := by decide +kernel
theorem dX4_broke_14 : decode cX4_broke 14 = .ok (.iload_n 1, 1) := by decide +kernel
theorem dX4_broke_15 : decode cX4_broke 15 = .ok (.baload, 1) := by decide +kernel
theorem dX4_broke_16 : decode cX4_broke 16 = .ok (.iload_n 2, 1) := by decide +kernel
theorem dX4_broke_17 : decode cX4_broke 17 = .ok (.if_icmp .ne 7, 3) := by decide +kernel
theorem dX4_broke_20 : decode cX4_broke 20 = .ok (.iconst 0, 1) := by decide +kernel
theorem dX4_broke_21 : decode cX4_broke 21 = .ok (.goto 4, 3) := by decide +kernel
theorem dX4_broke_24 : decode cX4_broke 24 = .ok (.iconst 1, 1) := by decide +kernel
theorem dX4_broke_25 : decode cX4_broke 25 = .ok (.istore_n 3, 1) := by decide +kernel
theorem dX4_broke_26 : decode cX4_broke 26 = .ok (.aload_n 0, 1) := by decide +kernel
theorem dX4_broke_27 : decode cX4_broke 27 = .ok (.getfield 24, 3) := by decide +kernel
theorem dX4_broke_30 : decode cX4_broke 30 = .ok (.iload_n 1, 1) := by decide +kernel
theorem dX4_broke_31 : decode cX4_broke 31 = .ok (.iload_n 2, 1) := by decide +kernel
theorem dX4_broke_32 : decode cX4_broke 32 = .ok (.bastore, 1) := by decide +kernel
theorem dX4_broke_33 : decode cX4_broke 33 = .ok (.iload_n 3, 1) := by decide +kernel
theorem dX4_broke_34 : decode cX4_broke 34 = .ok (.ireturn, 1) := by decide +kernel
theorem dX4_pair_0 : decode cX4_pair 0 = .ok (.aload_n 0, 1) := by decide +kernel
theorem dX4_pair_1 : decode cX4_pair 1 = .ok (.iload_n 1, 1) := by decide +kernel
theorem dX4_pair_2 : decode cX4_pair 2 = .ok (.invokevirtual 98, 3) := by decide +kernel
theorem dX4_pair_5 : decode cX4_pair 5 = .ok (.ifCond .eq 16, 3) := by decide +kernel
theorem dX4_pair_8 : decode cX4_pair 8 = .ok (.aload_n 0, 1) := by decide +kernel
theorem dX4_pair_9 : decode cX4_pair 9 = .ok (.iload_n 2, 1) := by decide +kernel
theorem dX4_pair_10 : decode cX4_pair 10 = .ok (.invokevirtual 98, 3) := by decide +kernel
theorem dX4_pair_13 : decode cX4_pair 13 = .ok (.ifCond .eq 8, 3) := by decide +kernel
theorem dX4_pair_16 : decode cX4_pair 16 = .ok (.iload_n 1, 1) := by decide +kernel
theorem dX4_pair_17 : decode cX4_pair 17 = .ok (.iload_n 2, 1) := by decide +kernel
theorem dX4_pair_18 : decode cX4_pair 18 = .ok (.if_icmp .ne 5, 3) := by decide +kernel
theorem dX4_pair_21 : decode cX4_pair 21 = .ok (.iconst (-1), 1) := by decide +kernel
theorem dX4_pair_22 : decode cX4_pair 22 = .ok (.ireturn, 1) := by decide +kernel
theorem dX4_pair_23 : decode cX4_pair 23 = .ok (.aload_n 0, 1) := by decide +kernel
theorem dX4_pair_24 : decode cX4_pair 24 = .ok (.getfield 27, 3) := by decide +kernel
theorem dX4_pair_27 : decode cX4_pair 27 = .ok (.iload_n 1, 1) := by decide +kernel
theorem dX4_pair_28 : decode cX4_pair 28 = .ok (.iaload, 1) := by decide +kernel
theorem dX4_pair_29 : decode cX4_pair 29 = .ok (.bipush (-9), 2) := by decide +kernel
theorem dX4_pair_31 : decode cX4_pair 31 = .ok (.if_icmp .ne 36, 3) := by decide +kernel
theorem dX4_pair_34 : decode cX4_pair 34 = .ok (.aload_n 0, 1) := by decide +kernel
theorem dX4_pair_35 : decode cX4_pair 35 = .ok (.getfield 27, 3) := by decide +kernel
theorem dX4_pair_38 : decode cX4_pair 38 = .ok (.iload_n 2, 1) := by decide +kernel
theorem dX4_pair_39 : decode cX4_pair 39 = .ok (.iaload, 1) := by decide +kernel
theorem dX4_pair_40 : decode cX4_pair 40 = .ok (.bipush (-9), 2) := by decide +kernel
theorem dX4_pair_42 : decode cX4_pair 42 = .ok (.if_icmp .ne 25, 3) := by decide +kernel
theorem dX4_pair_45 : decode cX4_pair 45 = .ok (.aload_n 0, 1) := by decide +kernel
theorem dX4_pair_46 : decode cX4_pair 46 = .ok (.getfield 30, 3) := by decide +kernel
theorem dX4_pair_49 : decode cX4_pair 49 = .ok (.iload_n 1, 1) := by decide +kernel
theorem dX4_pair_50 : decode cX4_pair 50 = .ok (.iaload, 1) := by decide +kernel
theorem dX4_pair_51 : decode cX4_pair 51 = .ok (.bipush (-9), 2) := by decide +kernel
theorem dX4_pair_53 : decode cX4_pair 53 = .ok (.if_icmp .ne 14, 3) := by decide +kernel
theorem dX4_pair_56 : decode cX4_pair 56 = .ok (.aload_n 0, 1) := by decide +kernel
theorem dX4_pair_57 : decode cX4_pair 57 = .ok (.getfield 30, 3) := by decide +kernel
theorem dX4_pair_60 : decode cX4_pair 60 = .ok (.iload_n 2, 1) := by decide +kernel
theorem dX4_pair_61 : decode cX4_pair 61 = .ok (.iaload, 1) := by decide +kernel
theorem dX4_pair_62 : decode cX4_pair 62 = .ok (.bipush (-9), 2) := by decide +kernel
theorem dX4_pair_64 : decode cX4_pair 64 = .ok (.if_icmp .eq 6, 3) := by decide +kernel
theorem dX4_pair_67 : decode cX4_pair 67 = .ok (.bipush (-3), 2) := by decide +kernel
theorem dX4_pair_69 : decode cX4_pair 69 = .ok (.ireturn, 1) := by decide +kernel
theorem dX4_pair_70 : decode cX4_pair 70 = .ok (.aload_n 0, 1) := by decide +kernel
theorem dX4_pair_71 : decode cX4_pair 71 = .ok (.getfield 27, 3) := by decide +kernel
theorem dX4_pair_74 : decode cX4_pair 74 = .ok (.iload_n 1, 1) := by decide +kernel
theorem dX4_pair_75 : decode cX4_pair 75 = .ok (.iload_n 2, 1) := by decide +kernel
theorem dX4_pair_76 : decode cX4_pair 76 = .ok (.iastore, 1) := by decide +kernel
theorem dX4_pair_77 : decode cX4_pair 77 = .ok (.aload_n 0, 1) := by decide +kernel
theorem dX4_pair_78 : decode cX4_pair 78 = .ok (.getfield 27, 3) := by decide +kernel
theorem dX4_pair_81 : decode cX4_pair 81 = .ok (.iload_n 2, 1) := by decide +kernel
theorem dX4_pair_82 : decode cX4_pair 82 = .ok (.iload_n 1, 1) := by decide +kernel
theorem dX4_pair_83 : decode cX4_pair 83 = .ok (.iastore, 1) := by decide +kernel
theorem dX4_pair_84 : decode cX4_pair 84 = .ok (.iconst 1, 1) := by decide +kernel
theorem dX4_pair_85 : decode cX4_pair 85 = .ok (.ireturn, 1) := by decide +kernel
theorem dX4_part_0 : decode cX4_part 0 = .ok (.aload_n 0, 1) := by decide +kernel
theorem dX4_part_1 : decode cX4_part 1 = .ok (.iload_n 1, 1) := by decide +kernel
theorem dX4_part_2 : decode cX4_part 2 = .ok (.invokevirtual 98, 3) := by decide +kernel
theorem dX4_part_5 : decode cX4_part 5 = .ok (.ifCond .ne 5, 3) := by decide +kernel
theorem dX4_part_8 : decode cX4_part 8 = .ok (.iconst (-1), 1) := by decide +kernel
theorem dX4_part_9 : decode cX4_part 9 = .ok (.ireturn, 1) := by decide +kernel
theorem dX4_part_10 : decode cX4_part 10 = .ok (.aload_n 0, 1) := by decide +kernel
theorem dX4_part_11 : decode cX4_part 11 = .ok (.getfield 27, 3) := by decide +kernel
theorem dX4_part_14 : decode cX4_part 14 = .ok (.iload_n 1, 1) := by decide +kernel
theorem dX4_part_15 : decode cX4_part 15 = .ok (.iaload, 1) := by decide +kernel
theorem dX4_part_16 : decode cX4_part 16 = .ok (.bipush (-9), 2) := by decide +kernel
theorem dX4_part_18 : decode cX4_part 18 = .ok (.if_icmp .eq 14, 3) := by decide +kernel
theorem dX4_part_21 : decode cX4_part 21 = .ok (.aload_n 0, 1) := by decide +kernel
theorem dX4_part_22 : decode cX4_part 22 = .ok (.getfield 30, 3) := by decide +kernel
theorem dX4_part_25 : decode cX4_part 25 = .ok (.iload_n 1, 1) := by decide +kernel
theorem dX4_part_26 : decode cX4_part 26 = .ok (.iaload, 1) := by decide +kernel
theorem dX4_part_27 : decode cX4_part 27 = .ok (.bipush (-9), 2) := by decide +kernel
theorem dX4_part_29 : decode cX4_part 29 = .ok (.if_icmp .eq 6, 3) := by decide +kernel
theorem dX4_part_32 : decode cX4_part 32 = .ok (.bipush (-3), 2) := by decide +kernel
theorem dX4_part_34 : decode cX4_part 34 = .ok (.ireturn, 1) := by decide +kernel
theorem dX4_part_35 : decode cX4_part 35 = .ok (.aload_n 0, 1) := by decide +kernel
theorem dX4_part_36 : decode cX4_part 36 = .ok (.getfield 27, 3) := by decide +kernel
theorem dX4_part_39 : decode cX4_part 39 = .ok (.aload_n 0, 1) := by decide +kernel
theorem dX4_part_40 : decode cX4_part 40 = .ok (.getfield 27, 3) := by decide +kernel
theorem dX4_part_43 : decode cX4_part 43 = .ok (.iload_n 1, 1) := by decide +kernel
theorem dX4_part_44 : decode cX4_part 44 = .ok (.iaload, 1) := by decide +kernel
theorem dX4_part_45 : decode cX4_part 45 = .ok (.bipush (-9), 2) := by decide +kernel
theorem dX4_part_47 : decode cX4_part 47 = .ok (.iastore, 1) := by decide +kernel
theorem dX4_part_48 : decode cX4_part 48 = .ok (.aload_n 0, 1) := by decide +kernel
theorem dX4_part_49 : decode cX4_part 49 = .ok (.getfield 27, 3) := by decide +kernel
theorem dX4_part_52 : decode cX4_part 52 = .ok (.iload_n 1, 1) := by decide +kernel
theorem dX4_part_53 : decode cX4_part 53 = .ok (.bipush (-9), 2) := by decide +kernel
theorem dX4_part_55 : decode cX4_part 55 = .ok (.iastore, 1) := by decide +kernel
theorem dX4_part_56 : decode cX4_part 56 = .ok (.iconst 1, 1) := by decide +kernel
theorem dX4_part_57 : decode cX4_part 57 = .ok (.ireturn, 1) := by decide +kernel
theorem dX4_settles_0 : decode cX4_settles 0 = .ok (.aload_n 0, 1) := by decide +kernel
theorem dX4_settles_1 : decode cX4_settles 1 = .ok (.getfield 30, 3) := by decide +kernel
theorem dX4_settles_4 : decode cX4_settles 4 = .ok (.iload_n 1, 1) := by decide +kernel
theorem dX4_settles_5 : decode cX4_settles 5 = .ok (.iload_n 2, 1) := by decide +kernel
theorem dX4_settles_6 : decode cX4_settles 6 = .ok (.iastore, 1) := by decide +kernel
theorem dX4_settles_7 : decode cX4_settles 7 = .ok (.aload_n 0, 1) := by decide +kernel
theorem dX4_settles_8 : decode cX4_settles 8 = .ok (.getfield 27, 3) := by decide +kernel
theorem dX4_settles_11 : decode cX4_settles 11 = .ok (.iload_n 1, 1) := by decide +kernel
theorem dX4_settles_12 : decode cX4_settles 12 = .ok (.iaload, 1) := by decide +kernel
theorem dX4_settles_13 : decode cX4_settles 13 = .ok (.bipush (-9), 2) := by decide +kernel
theorem dX4_settles_15 : decode cX4_settles 15 = .ok (.if_icmp .eq 15, 3) := by decide +kernel
theorem dX4_settles_18 : decode cX4_settles 18 = .ok (.aload_n 0, 1) := by decide +kernel
theorem dX4_settles_19 : decode cX4_settles 19 = .ok (.getfield 30, 3) := by decide +kernel
theorem dX4_settles_22 : decode cX4_settles 22 = .ok (.aload_n 0, 1) := by decide +kernel
theorem dX4_settles_23 : decode cX4_settles 23 = .ok (.getfield 27, 3) := by decide +kernel
theorem dX4_settles_26 : decode cX4_settles 26 = .ok (.iload_n 1, 1) := by decide +kernel
theorem dX4_settles_27 : decode cX4_settles 27 = .ok (.iaload, 1) := by decide +kernel
theorem dX4_settles_28 : decode cX4_settles 28 = .ok (.iload_n 2, 1) := by decide +kernel
theorem dX4_settles_29 : decode cX4_settles 29 = .ok (.iastore, 1) := by decide +kernel
theorem dX4_settles_30 : decode cX4_settles 30 = .ok (.return_, 1) := by decide +kernel
theorem dX4_settle_0 : decode cX4_settle 0 = .ok (.aload_n 0, 1) := by decide +kernel
theorem dX4_settle_1 : decode cX4_settle 1 = .ok (.iload_n 1, 1) := by decide +kernel
theorem dX4_settle_2 : decode cX4_settle 2 = .ok (.invokevirtual 98, 3) := by decide +kernel
theorem dX4_settle_5 : decode cX4_settle 5 = .ok (.ifCond .ne 5, 3) := by decide +kernel
theorem dX4_settle_8 : decode cX4_settle 8 = .ok (.iconst (-1), 1) := by decide +kernel
theorem dX4_settle_9 : decode cX4_settle 9 = .ok (.ireturn, 1) := by decide +kernel
theorem dX4_settle_10 : decode cX4_settle 10 = .ok (.iload_n 2, 1) := by decide +kernel
theorem dX4_settle_11 : decode cX4_settle 11 = .ok (.iconst 0, 1) := by decide +kernel
theorem dX4_settle_12 : decode cX4_settle 12 = .ok (.ldc 86, 2) := by decide +kernel
theorem dX4_settle_14 : decode cX4_settle 14 = .ok (.invokestatic 82, 3) := by decide +kernel
theorem dX4_settle_17 : decode cX4_settle 17 = .ok (.ifCond .ne 6, 3) := by decide +kernel
theorem dX4_settle_20 : decode cX4_settle 20 = .ok (.bipush (-2), 2) := by decide +kernel
theorem dX4_settle_22 : decode cX4_settle 22 = .ok (.ireturn, 1) := by decide +kernel
theorem dX4_settle_23 : decode cX4_settle 23 = .ok (.aload_n 0, 1) := by decide +kernel
theorem dX4_settle_24 : decode cX4_settle 24 = .ok (.getfield 30, 3) := by decide +kernel
theorem dX4_settle_27 : decode cX4_settle 27 = .ok (.iload_n 1, 1) := by decide +kernel
theorem dX4_settle_28 : decode cX4_settle 28 = .ok (.iaload, 1) := by decide +kernel
theorem dX4_settle_29 : decode cX4_settle 29 = .ok (.bipush (-9), 2) := by decide +kernel
theorem dX4_settle_31 : decode cX4_settle 31 = .ok (.if_icmp .ne 37, 3) := by decide +kernel
theorem dX4_settle_34 : decode cX4_settle 34 = .ok (.aload_n 0, 1) := by decide +kernel
theorem dX4_settle_35 : decode cX4_settle 35 = .ok (.getfield 33, 3) := by decide +kernel
theorem dX4_settle_38 : decode cX4_settle 38 = .ok (.iload_n 1, 1) := by decide +kernel
theorem dX4_settle_39 : decode cX4_settle 39 = .ok (.iaload, 1) := by decide +kernel
theorem dX4_settle_40 : decode cX4_settle 40 = .ok (.ifCond .gt 28, 3) := by decide +kernel
theorem dX4_settle_43 : decode cX4_settle 43 = .ok (.aload_n 0, 1) := by decide +kernel
theorem dX4_settle_44 : decode cX4_settle 44 = .ok (.getfield 27, 3) := by decide +kernel
theorem dX4_settle_47 : decode cX4_settle 47 = .ok (.iload_n 1, 1) := by decide +kernel
theorem dX4_settle_48 : decode cX4_settle 48 = .ok (.iaload, 1) := by decide +kernel
theorem dX4_settle_49 : decode cX4_settle 49 = .ok (.bipush (-9), 2) := by decide +kernel
theorem dX4_settle_51 : decode cX4_settle 51 = .ok (.if_icmp .eq 20, 3) := by decide +kernel
theorem dX4_settle_54 : decode cX4_settle 54 = .ok (.aload_n 0, 1) := by decide +kernel
theorem dX4_settle_55 : decode cX4_settle 55 = .ok (.getfield 33, 3) := by decide +kernel
theorem dX4_settle_58 : decode cX4_settle 58 = .ok (.aload_n 0, 1) := by decide +kernel
theorem dX4_settle_59 : decode cX4_settle 59 = .ok (.getfield 27, 3) := by decide +kernel
theorem dX4_settle_62 : decode cX4_settle 62 = .ok (.iload_n 1, 1) := by decide +kernel
theorem dX4_settle_63 : decode cX4_settle 63 = .ok (.iaload, 1) := by decide +kernel
theorem dX4_settle_64 : decode cX4_settle 64 = .ok (.iaload, 1) := by decide +kernel
theorem dX4_settle_65 : decode cX4_settle 65 = .ok (.ifCond .le 6, 3) := by decide +kernel
theorem dX4_settle_68 : decode cX4_settle 68 = .ok (.bipush (-3), 2) := by decide +kernel
theorem dX4_settle_70 : decode cX4_settle 70 = .ok (.ireturn, 1) := by decide +kernel
theorem dX4_settle_71 : decode cX4_settle 71 = .ok (.aload_n 0, 1) := by decide +kernel
theorem dX4_settle_72 : decode cX4_settle 72 = .ok (.iload_n 1, 1) := by decide +kernel
theorem dX4_settle_73 : decode cX4_settle 73 = .ok (.iload_n 2, 1) := by decide +kernel
theorem dX4_settle_74 : decode cX4_settle 74 = .ok (.invokevirtual 102, 3) := by decide +kernel
theorem dX4_settle_77 : decode cX4_settle 77 = .ok (.iconst 1, 1) := by decide +kernel
theorem dX4_settle_78 : decode cX4_settle 78 = .ok (.ireturn, 1) := by decide +kernel
theorem dX4_reopen_0 : decode cX4_reopen 0 = .ok (.aload_n 0, 1) := by decide +kernel
theorem dX4_reopen_1 : decode cX4_reopen 1 = .ok (.iload_n 1, 1) := by decide +kernel
theorem dX4_reopen_2 : decode cX4_reopen 2 = .ok (.invokevirtual 98, 3) := by decide +kernel
theorem dX4_reopen_5 : decode cX4_reopen 5 = .ok (.ifCond .ne 5, 3) := by decide +kernel
theorem dX4_reopen_8 : decode cX4_reopen 8 = .ok (.iconst (-1), 1) := by decide +kernel
theorem dX4_reopen_9 : decode cX4_reopen 9 = .ok (.ireturn, 1) := by decide +kernel
theorem dX4_reopen_10 : decode cX4_reopen 10 = .ok (.aload_n 0, 1) := by decide +kernel
theorem dX4_reopen_11 : decode cX4_reopen 11 = .ok (.getfield 30, 3) := by decide +kernel
theorem dX4_reopen_14 : decode cX4_reopen 14 = .ok (.iload_n 1, 1) := by decide +kernel
theorem dX4_reopen_15 : decode cX4_reopen 15 = .ok (.iaload, 1) := by decide +kernel
theorem dX4_reopen_16 : decode cX4_reopen 16 = .ok (.bipush (-9), 2) := by decide +kernel
theorem dX4_reopen_18 : decode cX4_reopen 18 = .ok (.if_icmp .ne 6, 3) := by decide +kernel
theorem dX4_reopen_21 : decode cX4_reopen 21 = .ok (.bipush (-3), 2) := by decide +kernel
theorem dX4_reopen_23 : decode cX4_reopen 23 = .ok (.ireturn, 1) := by decide +kernel
theorem dX4_reopen_24 : decode cX4_reopen 24 = .ok (.aload_n 0, 1) := by decide +kernel
theorem dX4_reopen_25 : decode cX4_reopen 25 = .ok (.getfield 30, 3) := by decide +kernel
theorem dX4_reopen_28 : decode cX4_reopen 28 = .ok (.iload_n 1, 1) := by decide +kernel
theorem dX4_reopen_29 : decode cX4_reopen 29 = .ok (.iaload, 1) := by decide +kernel
theorem dX4_reopen_30 : decode cX4_reopen 30 = .ok (.istore_n 2, 1) := by decide +kernel
theorem dX4_reopen_31 : decode cX4_reopen 31 = .ok (.aload_n 0, 1) := by decide +kernel
theorem dX4_reopen_32 : decode cX4_reopen 32 = .ok (.iload_n 1, 1) := by decide +kernel
theorem dX4_reopen_33 : decode cX4_reopen 33 = .ok (.bipush (-9), 2) := by decide +kernel
theorem dX4_reopen_35 : decode cX4_reopen 35 = .ok (.invokevirtual 102, 3) := by decide +kernel
theorem dX4_reopen_38 : decode cX4_reopen 38 = .ok (.iload_n 2, 1) := by decide +kernel
theorem dX4_reopen_39 : decode cX4_reopen 39 = .ok (.ireturn, 1) := by decide +kernel
theorem dX4_setting_0 : decode cX4_setting 0 = .ok (.iload_n 1, 1) := by decide +kernel
theorem dX4_setting_1 : decode cX4_setting 1 = .ok (.iconst 0, 1) := by decide +kernel
theorem dX4_setting_2 : decode cX4_setting 2 = .ok (.iconst 2, 1) := by decide +kernel
theorem dX4_setting_3 : decode cX4_setting 3 = .ok (.invokestatic 82, 3) := by decide +kernel
theorem dX4_setting_6 : decode cX4_setting 6 = .ok (.ifCond .eq 22, 3) := by decide +kernel
theorem dX4_setting_9 : decode cX4_setting 9 = .ok (.iload_n 2, 1) := by decide +kernel
theorem dX4_setting_10 : decode cX4_setting 10 = .ok (.iconst 0, 1) := by decide +kernel
theorem dX4_setting_11 : decode cX4_setting 11 = .ok (.iload_n 1, 1) := by decide +kernel
theorem dX4_setting_12 : decode cX4_setting 12 = .ok (.iconst 2, 1) := by decide +kernel
theorem dX4_setting_13 : decode cX4_setting 13 = .ok (.if_icmp .ne 8, 3) := by decide +kernel
theorem dX4_setting_16 : decode cX4_setting 16 = .ok (.bipush 100, 2) := by decide +kernel
theorem dX4_setting_18 : decode cX4_setting 18 = .ok (.goto 4, 3) := by decide +kernel
theorem dX4_setting_21 : decode cX4_setting 21 = .ok (.iconst 2, 1) := by decide +kernel
theorem dX4_setting_22 : decode cX4_setting 22 = .ok (.invokestatic 82, 3) := by decide +kernel
theorem dX4_setting_25 : decode cX4_setting 25 = .ok (.ifCond .ne 6, 3) := by decide +kernel
theorem dX4_setting_28 : decode cX4_setting 28 = .ok (.bipush (-2), 2) := by decide +kernel
theorem dX4_setting_30 : decode cX4_setting 30 = .ok (.ireturn, 1) := by decide +kernel
theorem dX4_setting_31 : decode cX4_setting 31 = .ok (.aload_n 0, 1) := by decide +kernel
theorem dX4_setting_32 : decode cX4_setting 32 = .ok (.getfield 13, 3) := by decide +kernel
theorem dX4_setting_35 : decode cX4_setting 35 = .ok (.iload_n 1, 1) := by decide +kernel
theorem dX4_setting_36 : decode cX4_setting 36 = .ok (.iaload, 1) := by decide +kernel
theorem dX4_setting_37 : decode cX4_setting 37 = .ok (.istore_n 3, 1) := by decide +kernel
theorem dX4_setting_38 : decode cX4_setting 38 = .ok (.aload_n 0, 1) := by decide +kernel
theorem dX4_setting_39 : decode cX4_setting 39 = .ok (.getfield 13, 3) := by decide +kernel
theorem dX4_setting_42 : decode cX4_setting 42 = .ok (.iload_n 1, 1) := by decide +kernel
theorem dX4_setting_43 : decode cX4_setting 43 = .ok (.iload_n 2, 1) := by decide +kernel
theorem dX4_setting_44 : decode cX4_setting 44 = .ok (.iastore, 1) := by decide +kernel
theorem dX4_setting_45 : decode cX4_setting 45 = .ok (.iload_n 3, 1) := by decide +kernel
theorem dX4_setting_46 : decode cX4_setting 46 = .ok (.ireturn, 1) := by decide +kernel
theorem dX4_ofWrong_0 : decode cX4_ofWrong 0 = .ok (.aload_n 0, 1) := by decide +kernel
theorem dX4_ofWrong_1 : decode cX4_ofWrong 1 = .ok (.iload_n 1, 1) := by decide +kernel
theorem dX4_ofWrong_2 : decode cX4_ofWrong 2 = .ok (.invokevirtual 98, 3) := by decide +kernel
theorem dX4_ofWrong_5 : decode cX4_ofWrong 5 = .ok (.ifCond .ne 5, 3) := by decide +kernel
theorem dX4_ofWrong_8 : decode cX4_ofWrong 8 = .ok (.iconst (-1), 1) := by decide +kernel
theorem dX4_ofWrong_9 : decode cX4_ofWrong 9 = .ok (.ireturn, 1) := by decide +kernel
theorem dX4_ofWrong_10 : decode cX4_ofWrong 10 = .ok (.iload_n 2, 1) := by decide +kernel
theorem dX4_ofWrong_11 : decode cX4_ofWrong 11 = .ok (.tableswitch 97 0 5 #[37, 44, 59, 66, 83, 90], 37) := by decide +kernel
theorem dX4_ofWrong_48 : decode cX4_ofWrong 48 = .ok (.aload_n 0, 1) := by decide +kernel
theorem dX4_ofWrong_49 : decode cX4_ofWrong 49 = .ok (.getfield 21, 3) := by decide +kernel
theorem dX4_ofWrong_52 : decode cX4_ofWrong 52 = .ok (.iload_n 1, 1) := by decide +kernel
theorem dX4_ofWrong_53 : decode cX4_ofWrong 53 = .ok (.iaload, 1) := by decide +kernel
theorem dX4_ofWrong_54 : decode cX4_ofWrong 54 = .ok (.ireturn, 1) := by decide +kernel
theorem dX4_ofWrong_55 : decode cX4_ofWrong 55 = .ok (.aload_n 0, 1) := by decide +kernel
theorem dX4_ofWrong_56 : decode cX4_ofWrong 56 = .ok (.getfield 24, 3) := by decide +kernel
theorem dX4_ofWrong_59 : decode cX4_ofWrong 59 = .ok (.iload_n 1, 1) := by decide +kernel
theorem dX4_ofWrong_60 : decode cX4_ofWrong 60 = .ok (.baload, 1) := by decide +kernel
theorem dX4_ofWrong_61 : decode cX4_ofWrong 61 = .ok (.ifCond .eq 7, 3) := by decide +kernel
theorem dX4_ofWrong_64 : decode cX4_ofWrong 64 = .ok (.iconst 1, 1) := by decide +kernel
theorem dX4_ofWrong_65 : decode cX4_ofWrong 65 = .ok (.goto 4, 3) := by decide +kernel
theorem dX4_ofWrong_68 : decode cX4_ofWrong 68 = .ok (.iconst 0, 1) := by decide +kernel
theorem dX4_ofWrong_69 : decode cX4_ofWrong 69 = .ok (.ireturn, 1) := by decide +kernel
theorem dX4_ofWrong_70 : decode cX4_ofWrong 70 = .ok (.aload_n 0, 1) := by decide +kernel
theorem dX4_ofWrong_71 : decode cX4_ofWrong 71 = .ok (.getfield 27, 3) := by decide +kernel
theorem dX4_ofWrong_74 : decode cX4_ofWrong 74 = .ok (.iload_n 1, 1) := by decide +kernel
theorem dX4_ofWrong_75 : decode cX4_ofWrong 75 = .ok (.iaload, 1) := by decide +kernel
theorem dX4_ofWrong_76 : decode cX4_ofWrong 76 = .ok (.ireturn, 1) := by decide +kernel
theorem dX4_ofWrong_77 : decode cX4_ofWrong 77 = .ok (.aload_n 0, 1) := by decide +kernel
theorem dX4_ofWrong_78 : decode cX4_ofWrong 78 = .ok (.getfield 30, 3) := by decide +kernel
theorem dX4_ofWrong_81 : decode cX4_ofWrong 81 = .ok (.iload_n 1, 1) := by decide +kernel
theorem dX4_ofWrong_82 : decode cX4_ofWrong 82 = .ok (.iaload, 1) := by decide +kernel
theorem dX4_ofWrong_83 : decode cX4_ofWrong 83 = .ok (.bipush (-9), 2) := by decide +kernel
theorem dX4_ofWrong_85 : decode cX4_ofWrong 85 = .ok (.if_icmp .eq 7, 3) := by decide +kernel
theorem dX4_ofWrong_88 : decode cX4_ofWrong 88 = .ok (.iconst 1, 1) := by decide +kernel
theorem dX4_ofWrong_89 : decode cX4_ofWrong 89 = .ok (.goto 4, 3) := by decide +kernel
theorem dX4_ofWrong_92 : decode cX4_ofWrong 92 = .ok (.iconst 0, 1) := by decide +kernel
theorem dX4_ofWrong_93 : decode cX4_ofWrong 93 = .ok (.ireturn, 1) := by decide +kernel
theorem dX4_ofWrong_94 : decode cX4_ofWrong 94 = .ok (.aload_n 0, 1) := by decide +kernel
theorem dX4_ofWrong_95 : decode cX4_ofWrong 95 = .ok (.getfield 30, 3) := by decide +kernel
theorem dX4_ofWrong_98 : decode cX4_ofWrong 98 = .ok (.iload_n 1, 1) := by decide +kernel
theorem dX4_ofWrong_99 : decode cX4_ofWrong 99 = .ok (.iaload, 1) := by decide +kernel
theorem dX4_ofWrong_100 : decode cX4_ofWrong 100 = .ok (.ireturn, 1) := by decide +kernel
theorem dX4_ofWrong_101 : decode cX4_ofWrong 101 = .ok (.aload_n 0, 1) := by decide +kernel
theorem dX4_ofWrong_102 : decode cX4_ofWrong 102 = .ok (.getfield 33, 3) := by decide +kernel
theorem dX4_ofWrong_105 : decode cX4_ofWrong 105 = .ok (.iload_n 1, 1) := by decide +kernel
theorem dX4_ofWrong_106 : decode cX4_ofWrong 106 = .ok (.iaload, 1) := by decide +kernel
theorem dX4_ofWrong_107 : decode cX4_ofWrong 107 = .ok (.ireturn, 1) := by decide +kernel
theorem dX4_ofWrong_108 : decode cX4_ofWrong 108 = .ok (.bipush (-2), 2) := by decide +kernel
theorem dX4_ofWrong_110 : decode cX4_ofWrong 110 = .ok (.ireturn, 1) := by decide +kernel
theorem dX4_isUnit_0 : decode cX4_isUnit 0 = .ok (.aload_n 0, 1) := by decide +kernel
theorem dX4_isUnit_1 : decode cX4_isUnit 1 = .ok (.getfield 17, 3) := by decide +kernel
theorem dX4_isUnit_4 : decode cX4_isUnit 4 = .ok (.iload_n 1, 1) := by decide +kernel
theorem dX4_isUnit_5 : decode cX4_isUnit 5 = .ok (.baload, 1) := by decide +kernel
theorem dX4_isUnit_6 : decode cX4_isUnit 6 = .ok (.ifCond .eq 28, 3) := by decide +kernel
theorem dX4_isUnit_9 : decode cX4_isUnit 9 = .ok (.aload_n 0, 1) := by decide +kernel
theorem dX4_isUnit_10 : decode cX4_isUnit 10 = .ok (.getfield 27, 3) := by decide +kernel
theorem dX4_isUnit_13 : decode cX4_isUnit 13 = .ok (.iload_n 1, 1) := by decide +kernel
theorem dX4_isUnit_14 : decode cX4_isUnit 14 = .ok (.iaload, 1) := by decide +kernel
theorem dX4_isUnit_15 : decode cX4_isUnit 15 = .ok (.bipush (-9), 2) := by decide +kernel
theorem dX4_isUnit_17 : decode cX4_isUnit 17 = .ok (.if_icmp .eq 13, 3) := by decide +kernel
theorem dX4_isUnit_20 : decode cX4_isUnit 20 = .ok (.iload_n 1, 1) := by decide +kernel
theorem dX4_isUnit_21 : decode cX4_isUnit 21 = .ok (.aload_n 0, 1) := by decide +kernel
theorem dX4_isUnit_22 : decode cX4_isUnit 22 = .ok (.getfield 27, 3) := by decide +kernel
theorem dX4_isUnit_25 : decode cX4_isUnit 25 = .ok (.iload_n 1, 1) := by decide +kernel
theorem dX4_isUnit_26 : decode cX4_isUnit 26 = .ok (.iaload, 1) := by decide +kernel
theorem dX4_isUnit_27 : decode cX4_isUnit 27 = .ok (.if_icmp .ge 7, 3) := by decide +kernel
theorem dX4_isUnit_30 : decode cX4_isUnit 30 = .ok (.iconst 1, 1) := by decide +kernel
theorem dX4_isUnit_31 : decode cX4_isUnit 31 = .ok (.goto 4, 3) := by decide +kernel
theorem dX4_isUnit_34 : decode cX4_isUnit 34 = .ok (.iconst 0, 1) := by decide +kernel
theorem dX4_isUnit_35 : decode cX4_isUnit 35 = .ok (.ireturn, 1) := by decide +kernel
theorem dX4_unitOf_0 : decode cX4_unitOf 0 = .ok (.aload_n 0, 1) := by decide +kernel
theorem dX4_unitOf_1 : decode cX4_unitOf 1 = .ok (.getfield 27, 3) := by decide +kernel
theorem dX4_unitOf_4 : decode cX4_unitOf 4 = .ok (.iload_n 1, 1) := by decide +kernel
theorem dX4_unitOf_5 : decode cX4_unitOf 5 = .ok (.iaload, 1) := by decide +kernel
theorem dX4_unitOf_6 : decode cX4_unitOf 6 = .ok (.bipush (-9), 2) := by decide +kernel
theorem dX4_unitOf_8 : decode cX4_unitOf 8 = .ok (.if_icmp .eq 22, 3) := by decide +kernel
theorem dX4_unitOf_11 : decode cX4_unitOf 11 = .ok (.aload_n 0, 1) := by decide +kernel
theorem dX4_unitOf_12 : decode cX4_unitOf 12 = .ok (.getfield 27, 3) := by decide +kernel
theorem dX4_unitOf_15 : decode cX4_unitOf 15 = .ok (.iload_n 1, 1) := by decide +kernel
theorem dX4_unitOf_16 : decode cX4_unitOf 16 = .ok (.iaload, 1) := by decide +kernel
theorem dX4_unitOf_17 : decode cX4_unitOf 17 = .ok (.iload_n 1, 1) := by decide +kernel
theorem dX4_unitOf_18 : decode cX4_unitOf 18 = .ok (.if_icmp .ge 12, 3) := by decide +kernel
theorem dX4_unitOf_21 : decode cX4_unitOf 21 = .ok (.aload_n 0, 1) := by decide +kernel
theorem dX4_unitOf_22 : decode cX4_unitOf 22 = .ok (.getfield 27, 3) := by decide +kernel
theorem dX4_unitOf_25 : decode cX4_unitOf 25 = .ok (.iload_n 1, 1) := by decide +kernel
theorem dX4_unitOf_26 : decode cX4_unitOf 26 = .ok (.iaload, 1) := by decide +kernel
theorem dX4_unitOf_27 : decode cX4_unitOf 27 = .ok (.goto 4, 3) := by decide +kernel
theorem dX4_unitOf_30 : decode cX4_unitOf 30 = .ok (.iload_n 1, 1) := by decide +kernel
theorem dX4_unitOf_31 : decode cX4_unitOf 31 = .ok (.ireturn, 1) := by decide +kernel
theorem dX4_unitWeight_0 : decode cX4_unitWeight 0 = .ok (.aload_n 0, 1) := by decide +kernel
theorem dX4_unitWeight_1 : decode cX4_unitWeight 1 = .ok (.getfield 21, 3) := by decide +kernel
theorem dX4_unitWeight_4 : decode cX4_unitWeight 4 = .ok (.iload_n 1, 1) := by decide +kernel
theorem dX4_unitWeight_5 : decode cX4_unitWeight 5 = .ok (.iaload, 1) := by decide +kernel
theorem dX4_unitWeight_6 : decode cX4_unitWeight 6 = .ok (.aload_n 0, 1) := by decide +kernel
theorem dX4_unitWeight_7 : decode cX4_unitWeight 7 = .ok (.getfield 27, 3) := by decide +kernel
theorem dX4_unitWeight_10 : decode cX4_unitWeight 10 = .ok (.iload_n 1, 1) := by decide +kernel
theorem dX4_unitWeight_11 : decode cX4_unitWeight 11 = .ok (.iaload, 1) := by decide +kernel
theorem dX4_unitWeight_12 : decode cX4_unitWeight 12 = .ok (.bipush (-9), 2) := by decide +kernel
theorem dX4_unitWeight_14 : decode cX4_unitWeight 14 = .ok (.if_icmp .ne 7, 3) := by decide +kernel
theorem dX4_unitWeight_17 : decode cX4_unitWeight 17 = .ok (.iconst 0, 1) := by decide +kernel
theorem dX4_unitWeight_18 : decode cX4_unitWeight 18 = .ok (.goto 14, 3) := by decide +kernel
theorem dX4_unitWeight_21 : decode cX4_unitWeight 21 = .ok (.aload_n 0, 1) := by decide +kernel
theorem dX4_unitWeight_22 : decode cX4_unitWeight 22 = .ok (.getfield 21, 3) := by decide +kernel
theorem dX4_unitWeight_25 : decode cX4_unitWeight 25 = .ok (.aload_n 0, 1) := by decide +kernel
theorem dX4_unitWeight_26 : decode cX4_unitWeight 26 = .ok (.getfield 27, 3) := by decide +kernel
theorem dX4_unitWeight_29 : decode cX4_unitWeight 29 = .ok (.iload_n 1, 1) := by decide +kernel
theorem dX4_unitWeight_30 : decode cX4_unitWeight 30 = .ok (.iaload, 1) := by decide +kernel
theorem dX4_unitWeight_31 : decode cX4_unitWeight 31 = .ok (.iaload, 1) := by decide +kernel
theorem dX4_unitWeight_32 : decode cX4_unitWeight 32 = .ok (.iadd, 1) := by decide +kernel
theorem dX4_unitWeight_33 : decode cX4_unitWeight 33 = .ok (.ireturn, 1) := by decide +kernel
theorem dX4_isUnitBroke_0 : decode cX4_isUnitBroke 0 = .ok (.aload_n 0, 1) := by decide +kernel
theorem dX4_isUnitBroke_1 : decode cX4_isUnitBroke 1 = .ok (.getfield 24, 3) := by decide +kernel
theorem dX4_isUnitBroke_4 : decode cX4_isUnitBroke 4 = .ok (.iload_n 1, 1) := by decide +kernel
theorem dX4_isUnitBroke_5 : decode cX4_isUnitBroke 5 = .ok (.baload, 1) := by decide +kernel
theorem dX4_isUnitBroke_6 : decode cX4_isUnitBroke 6 = .ok (.ifCond .eq 32, 3) := by decide +kernel
theorem dX4_isUnitBroke_9 : decode cX4_isUnitBroke 9 = .ok (.aload_n 0, 1) := by decide +kernel
theorem dX4_isUnitBroke_10 : decode cX4_isUnitBroke 10 = .ok (.getfield 27, 3) := by decide +kernel
theorem dX4_isUnitBroke_13 : decode cX4_isUnitBroke 13 = .ok (.iload_n 1, 1) := by decide +kernel
theorem dX4_isUnitBroke_14 : decode cX4_isUnitBroke 14 = .ok (.iaload, 1) := by decide +kernel
theorem dX4_isUnitBroke_15 : decode cX4_isUnitBroke 15 = .ok (.bipush (-9), 2) := by decide +kernel
theorem dX4_isUnitBroke_17 : decode cX4_isUnitBroke 17 = .ok (.if_icmp .eq 17, 3) := by decide +kernel
theorem dX4_isUnitBroke_20 : decode cX4_isUnitBroke 20 = .ok (.aload_n 0, 1) := by decide +kernel
theorem dX4_isUnitBroke_21 : decode cX4_isUnitBroke 21 = .ok (.getfield 24, 3) := by decide +kernel
theorem dX4_isUnitBroke_24 : decode cX4_isUnitBroke 24 = .ok (.aload_n 0, 1) := by decide +kernel
theorem dX4_isUnitBroke_25 : decode cX4_isUnitBroke 25 = .ok (.getfield 27, 3) := by decide +kernel
theorem dX4_isUnitBroke_28 : decode cX4_isUnitBroke 28 = .ok (.iload_n 1, 1) := by decide +kernel
theorem dX4_isUnitBroke_29 : decode cX4_isUnitBroke 29 = .ok (.iaload, 1) := by decide +kernel
theorem dX4_isUnitBroke_30 : decode cX4_isUnitBroke 30 = .ok (.baload, 1) := by decide +kernel
theorem dX4_isUnitBroke_31 : decode cX4_isUnitBroke 31 = .ok (.ifCond .eq 7, 3) := by decide +kernel
theorem dX4_isUnitBroke_34 : decode cX4_isUnitBroke 34 = .ok (.iconst 1, 1) := by decide +kernel
theorem dX4_isUnitBroke_35 : decode cX4_isUnitBroke 35 = .ok (.goto 4, 3) := by decide +kernel
theorem dX4_isUnitBroke_38 : decode cX4_isUnitBroke 38 = .ok (.iconst 0, 1) := by decide +kernel
theorem dX4_isUnitBroke_39 : decode cX4_isUnitBroke 39 = .ok (.ireturn, 1) := by decide +kernel
theorem dX4_blame_0 : decode cX4_blame 0 = .ok (.aload_n 0, 1) := by decide +kernel
theorem dX4_blame_1 : decode cX4_blame 1 = .ok (.getfield 91, 3) := by decide +kernel
theorem dX4_blame_4 : decode cX4_blame 4 = .ok (.istore_n 1, 1) := by decide +kernel
theorem dX4_blame_5 : decode cX4_blame 5 = .ok (.iconst 0, 1) := by decide +kernel
theorem dX4_blame_6 : decode cX4_blame 6 = .ok (.istore_n 2, 1) := by decide +kernel
theorem dX4_blame_7 : decode cX4_blame 7 = .ok (.iload_n 2, 1) := by decide +kernel
theorem dX4_blame_8 : decode cX4_blame 8 = .ok (.bipush 6, 2) := by decide +kernel
theorem dX4_blame_10 : decode cX4_blame 10 = .ok (.if_icmp .ge 31, 3) := by decide +kernel
theorem dX4_blame_13 : decode cX4_blame 13 = .ok (.iload_n 1, 1) := by decide +kernel
theorem dX4_blame_14 : decode cX4_blame 14 = .ok (.aload_n 0, 1) := by decide +kernel
theorem dX4_blame_15 : decode cX4_blame 15 = .ok (.getfield 17, 3) := by decide +kernel
theorem dX4_blame_18 : decode cX4_blame 18 = .ok (.iload_n 2, 1) := by decide +kernel
theorem dX4_blame_19 : decode cX4_blame 19 = .ok (.baload, 1) := by decide +kernel
theorem dX4_blame_20 : decode cX4_blame 20 = .ok (.ifCond .eq 12, 3) := by decide +kernel
theorem dX4_blame_23 : decode cX4_blame 23 = .ok (.aload_n 0, 1) := by decide +kernel
theorem dX4_blame_24 : decode cX4_blame 24 = .ok (.getfield 21, 3) := by decide +kernel
theorem dX4_blame_27 : decode cX4_blame 27 = .ok (.iload_n 2, 1) := by decide +kernel
theorem dX4_blame_28 : decode cX4_blame 28 = .ok (.iaload, 1) := by decide +kernel
theorem dX4_blame_29 : decode cX4_blame 29 = .ok (.goto 4, 3) := by decide +kernel
theorem dX4_blame_32 : decode cX4_blame 32 = .ok (.iconst 0, 1) := by decide +kernel
theorem dX4_blame_33 : decode cX4_blame 33 = .ok (.iadd, 1) := by decide +kernel
theorem dX4_blame_34 : decode cX4_blame 34 = .ok (.istore_n 1, 1) := by decide +kernel
theorem dX4_blame_35 : decode cX4_blame 35 = .ok (.iinc 2 1, 3) := by decide +kernel
theorem dX4_blame_38 : decode cX4_blame 38 = .ok (.goto (-31), 3) := by decide +kernel
theorem dX4_blame_41 : decode cX4_blame 41 = .ok (.iload_n 1, 1) := by decide +kernel
theorem dX4_blame_42 : decode cX4_blame 42 = .ok (.ireturn, 1) := by decide +kernel
theorem dX4_findEntitled_0 : decode cX4_findEntitled 0 = .ok (.aload_n 0, 1) := by decide +kernel
theorem dX4_findEntitled_1 : decode cX4_findEntitled 1 = .ok (.invokevirtual 106, 3) := by decide +kernel
theorem dX4_findEntitled_4 : decode cX4_findEntitled 4 = .ok (.istore_n 1, 1) := by decide +kernel
theorem dX4_findEntitled_5 : decode cX4_findEntitled 5 = .ok (.iload_n 1, 1) := by decide +kernel
theorem dX4_findEntitled_6 : decode cX4_findEntitled 6 = .ok (.ifCond .eq 21, 3) := by decide +kernel
theorem dX4_findEntitled_9 : decode cX4_findEntitled 9 = .ok (.bipush 100, 2) := by decide +kernel
theorem dX4_findEntitled_11 : decode cX4_findEntitled 11 = .ok (.aload_n 0, 1) := by decide +kernel
theorem dX4_findEntitled_12 : decode cX4_findEntitled 12 = .ok (.getfield 91, 3) := by decide +kernel
theorem dX4_findEntitled_15 : decode cX4_findEntitled 15 = .ok (.imul, 1) := by decide +kernel
theorem dX4_findEntitled_16 : decode cX4_findEntitled 16 = .ok (.aload_n 0, 1) := by decide +kernel
theorem dX4_findEntitled_17 : decode cX4_findEntitled 17 = .ok (.getfield 13, 3) := by decide +kernel
theorem dX4_findEntitled_20 : decode cX4_findEntitled 20 = .ok (.iconst 2, 1) := by decide +kernel
theorem dX4_findEntitled_21 : decode cX4_findEntitled 21 = .ok (.iaload, 1) := by decide +kernel
theorem dX4_findEntitled_22 : decode cX4_findEntitled 22 = .ok (.iload_n 1, 1) := by decide +kernel
theorem dX4_findEntitled_23 : decode cX4_findEntitled 23 = .ok (.imul, 1) := by decide +kernel
theorem dX4_findEntitled_24 : decode cX4_findEntitled 24 = .ok (.if_icmp .le 7, 3) := by decide +kernel
theorem dX4_findEntitled_27 : decode cX4_findEntitled 27 = .ok (.iconst 1, 1) := by decide +kernel
theorem dX4_findEntitled_28 : decode cX4_findEntitled 28 = .ok (.goto 4, 3) := by decide +kernel
theorem dX4_findEntitled_31 : decode cX4_findEntitled 31 = .ok (.iconst 0, 1) := by decide +kernel
theorem dX4_findEntitled_32 : decode cX4_findEntitled 32 = .ok (.istore_n 2, 1) := by decide +kernel
theorem dX4_findEntitled_33 : decode cX4_findEntitled 33 = .ok (.aload_n 0, 1) := by decide +kernel
theorem dX4_findEntitled_34 : decode cX4_findEntitled 34 = .ok (.iload_n 2, 1) := by decide +kernel
theorem dX4_findEntitled_35 : decode cX4_findEntitled 35 = .ok (.ifCond .eq 7, 3) := by decide +kernel
theorem dX4_findEntitled_38 : decode cX4_findEntitled 38 = .ok (.lconst 0, 1) := by decide +kernel
theorem dX4_findEntitled_39 : decode cX4_findEntitled 39 = .ok (.goto 16, 3) := by decide +kernel
theorem dX4_findEntitled_42 : decode cX4_findEntitled 42 = .ok (.aload_n 0, 1) := by decide +kernel
theorem dX4_findEntitled_43 : decode cX4_findEntitled 43 = .ok (.getfield 87, 3) := by decide +kernel
theorem dX4_findEntitled_46 : decode cX4_findEntitled 46 = .ok (.i2l, 1) := by decide +kernel
theorem dX4_findEntitled_47 : decode cX4_findEntitled 47 = .ok (.iload_n 1, 1) := by decide +kernel
theorem dX4_findEntitled_48 : decode cX4_findEntitled 48 = .ok (.aload_n 0, 1) := by decide +kernel
theorem dX4_findEntitled_49 : decode cX4_findEntitled 49 = .ok (.getfield 91, 3) := by decide +kernel
theorem dX4_findEntitled_52 : decode cX4_findEntitled 52 = .ok (.isub, 1) := by decide +kernel
theorem dX4_findEntitled_53 : decode cX4_findEntitled 53 = .ok (.i2l, 1) := by decide +kernel
theorem dX4_findEntitled_54 : decode cX4_findEntitled 54 = .ok (.lmul, 1) := by decide +kernel
theorem dX4_findEntitled_55 : decode cX4_findEntitled 55 = .ok (.iload_n 2, 1) := by decide +kernel
theorem dX4_findEntitled_56 : decode cX4_findEntitled 56 = .ok (.ifCond .eq 7, 3) := by decide +kernel
theorem dX4_findEntitled_59 : decode cX4_findEntitled 59 = .ok (.lconst 1, 1) := by decide +kernel
theorem dX4_findEntitled_60 : decode cX4_findEntitled 60 = .ok (.goto 5, 3) := by decide +kernel
theorem dX4_findEntitled_63 : decode cX4_findEntitled 63 = .ok (.iload_n 1, 1) := by decide +kernel
theorem dX4_findEntitled_64 : decode cX4_findEntitled 64 = .ok (.i2l, 1) := by decide +kernel
theorem dX4_findEntitled_65 : decode cX4_findEntitled 65 = .ok (.invokevirtual 78, 3) := by decide +kernel
theorem dX4_findEntitled_68 : decode cX4_findEntitled 68 = .ok (.return_, 1) := by decide +kernel
theorem dX4_findCredit_0 : decode cX4_findCredit 0 = .ok (.aload_n 0, 1) := by decide +kernel
theorem dX4_findCredit_1 : decode cX4_findCredit 1 = .ok (.invokevirtual 106, 3) := by decide +kernel
theorem dX4_findCredit_4 : decode cX4_findCredit 4 = .ok (.istore_n 2, 1) := by decide +kernel
theorem dX4_findCredit_5 : decode cX4_findCredit 5 = .ok (.aload_n 0, 1) := by decide +kernel
theorem dX4_findCredit_6 : decode cX4_findCredit 6 = .ok (.getfield 30, 3) := by decide +kernel
theorem dX4_findCredit_9 : decode cX4_findCredit 9 = .ok (.iload_n 1, 1) := by decide +kernel
theorem dX4_findCredit_10 : decode cX4_findCredit 10 = .ok (.iaload, 1) := by decide +kernel
theorem dX4_findCredit_11 : decode cX4_findCredit 11 = .ok (.bipush (-9), 2) := by decide +kernel
theorem dX4_findCredit_13 : decode cX4_findCredit 13 = .ok (.if_icmp .ne 7, 3) := by decide +kernel
theorem dX4_findCredit_16 : decode cX4_findCredit 16 = .ok (.lconst 0, 1) := by decide +kernel
theorem dX4_findCredit_17 : decode cX4_findCredit 17 = .ok (.goto 10, 3) := by decide +kernel
theorem dX4_findCredit_20 : decode cX4_findCredit 20 = .ok (.aload_n 0, 1) := by decide +kernel
theorem dX4_findCredit_21 : decode cX4_findCredit 21 = .ok (.getfield 30, 3) := by decide +kernel
theorem dX4_findCredit_24 : decode cX4_findCredit 24 = .ok (.iload_n 1, 1) := by decide +kernel
theorem dX4_findCredit_25 : decode cX4_findCredit 25 = .ok (.iaload, 1) := by decide +kernel
theorem dX4_findCredit_26 : decode cX4_findCredit 26 = .ok (.i2l, 1) := by decide +kernel
theorem dX4_findCredit_27 : decode cX4_findCredit 27 = .ok (.lstore_n 3, 1) := by decide +kernel
theorem dX4_findCredit_28 : decode cX4_findCredit 28 = .ok (.aload_n 0, 1) := by decide +kernel
theorem dX4_findCredit_29 : decode cX4_findCredit 29 = .ok (.getfield 30, 3) := by decide +kernel
theorem dX4_findCredit_32 : decode cX4_findCredit 32 = .ok (.iload_n 1, 1) := by decide +kernel
theorem dX4_findCredit_33 : decode cX4_findCredit 33 = .ok (.iaload, 1) := by decide +kernel
theorem dX4_findCredit_34 : decode cX4_findCredit 34 = .ok (.bipush (-9), 2) := by decide +kernel
theorem dX4_findCredit_36 : decode cX4_findCredit 36 = .ok (.if_icmp .eq 11, 3) := by decide +kernel
theorem dX4_findCredit_39 : decode cX4_findCredit 39 = .ok (.iload_n 2, 1) := by decide +kernel
theorem dX4_findCredit_40 : decode cX4_findCredit 40 = .ok (.ifCond .le 7, 3) := by decide +kernel
theorem dX4_findCredit_43 : decode cX4_findCredit 43 = .ok (.iconst 1, 1) := by decide +kernel
theorem dX4_findCredit_44 : decode cX4_findCredit 44 = .ok (.goto 4, 3) := by decide +kernel
theorem dX4_findCredit_47 : decode cX4_findCredit 47 = .ok (.iconst 0, 1) := by decide +kernel
theorem dX4_findCredit_48 : decode cX4_findCredit 48 = .ok (.istore 5, 2) := by decide +kernel
theorem dX4_findCredit_50 : decode cX4_findCredit 50 = .ok (.aload_n 0, 1) := by decide +kernel
theorem dX4_findCredit_51 : decode cX4_findCredit 51 = .ok (.iload 5, 2) := by decide +kernel
theorem dX4_findCredit_53 : decode cX4_findCredit 53 = .ok (.ifCond .eq 18, 3) := by decide +kernel
theorem dX4_findCredit_56 : decode cX4_findCredit 56 = .ok (.aload_n 0, 1) := by decide +kernel
theorem dX4_findCredit_57 : decode cX4_findCredit 57 = .ok (.getfield 87, 3) := by decide +kernel
theorem dX4_findCredit_60 : decode cX4_findCredit 60 = .ok (.i2l, 1) := by decide +kernel
theorem dX4_findCredit_61 : decode cX4_findCredit 61 = .ok (.aload_n 0, 1) := by decide +kernel
theorem dX4_findCredit_62 : decode cX4_findCredit 62 = .ok (.iload_n 1, 1) := by decide +kernel
theorem dX4_findCredit_63 : decode cX4_findCredit 63 = .ok (.invokevirtual 109, 3) := by decide +kernel
theorem dX4_findCredit_66 : decode cX4_findCredit 66 = .ok (.i2l, 1) := by decide +kernel
theorem dX4_findCredit_67 : decode cX4_findCredit 67 = .ok (.lmul, 1) := by decide +kernel
theorem dX4_findCredit_68 : decode cX4_findCredit 68 = .ok (.goto 4, 3) := by decide +kernel
theorem dX4_findCredit_71 : decode cX4_findCredit 71 = .ok (.lconst 0, 1) := by decide +kernel
theorem dX4_findCredit_72 : decode cX4_findCredit 72 = .ok (.iload 5, 2) := by decide +kernel
theorem dX4_findCredit_74 : decode cX4_findCredit 74 = .ok (.ifCond .eq 8, 3) := by decide +kernel
theorem dX4_findCredit_77 : decode cX4_findCredit 77 = .ok (.iload_n 2, 1) := by decide +kernel
theorem dX4_findCredit_78 : decode cX4_findCredit 78 = .ok (.i2l, 1) := by decide +kernel
theorem dX4_findCredit_79 : decode cX4_findCredit 79 = .ok (.goto 4, 3) := by decide +kernel
theorem dX4_findCredit_82 : decode cX4_findCredit 82 = .ok (.lconst 1, 1) := by decide +kernel
theorem dX4_findCredit_83 : decode cX4_findCredit 83 = .ok (.invokevirtual 78, 3) := by decide +kernel
theorem dX4_findCredit_86 : decode cX4_findCredit 86 = .ok (.aload_n 0, 1) := by decide +kernel
theorem dX4_findCredit_87 : decode cX4_findCredit 87 = .ok (.getfield 13, 3) := by decide +kernel
theorem dX4_findCredit_90 : decode cX4_findCredit 90 = .ok (.iconst 0, 1) := by decide +kernel
theorem dX4_findCredit_91 : decode cX4_findCredit 91 = .ok (.iaload, 1) := by decide +kernel
theorem dX4_findCredit_92 : decode cX4_findCredit 92 = .ok (.ifCond .eq 27, 3) := by decide +kernel
theorem dX4_findCredit_95 : decode cX4_findCredit 95 = .ok (.aload_n 0, 1) := by decide +kernel
theorem dX4_findCredit_96 : decode cX4_findCredit 96 = .ok (.getfield 13, 3) := by decide +kernel
theorem dX4_findCredit_99 : decode cX4_findCredit 99 = .ok (.iconst 0, 1) := by decide +kernel
theorem dX4_findCredit_100 : decode cX4_findCredit 100 = .ok (.iaload, 1) := by decide +kernel
theorem dX4_findCredit_101 : decode cX4_findCredit 101 = .ok (.iconst 2, 1) := by decide +kernel
theorem dX4_findCredit_102 : decode cX4_findCredit 102 = .ok (.if_icmp .ne 23, 3) := by decide +kernel
theorem dX4_findCredit_105 : decode cX4_findCredit 105 = .ok (.lload_n 3, 1) := by decide +kernel
theorem dX4_findCredit_106 : decode cX4_findCredit 106 = .ok (.aload_n 0, 1) := by decide +kernel
theorem dX4_findCredit_107 : decode cX4_findCredit 107 = .ok (.getfield 7, 3) := by decide +kernel
theorem dX4_findCredit_110 : decode cX4_findCredit 110 = .ok (.lmul, 1) := by decide +kernel
theorem dX4_findCredit_111 : decode cX4_findCredit 111 = .ok (.aload_n 0, 1) := by decide +kernel
theorem dX4_findCredit_112 : decode cX4_findCredit 112 = .ok (.getfield 75, 3) := by decide +kernel
theorem dX4_findCredit_115 : decode cX4_findCredit 115 = .ok (.lcmp, 1) := by decide +kernel
theorem dX4_findCredit_116 : decode cX4_findCredit 116 = .ok (.ifCond .le 9, 3) := by decide +kernel
theorem dX4_findCredit_119 : decode cX4_findCredit 119 = .ok (.aload_n 0, 1) := by decide +kernel
theorem dX4_findCredit_120 : decode cX4_findCredit 120 = .ok (.lload_n 3, 1) := by decide +kernel
theorem dX4_findCredit_121 : decode cX4_findCredit 121 = .ok (.lconst 1, 1) := by decide +kernel
theorem dX4_findCredit_122 : decode cX4_findCredit 122 = .ok (.invokevirtual 78, 3) := by decide +kernel
theorem dX4_findCredit_125 : decode cX4_findCredit 125 = .ok (.return_, 1) := by decide +kernel
theorem dX4_keeps_0 : decode cX4_keeps 0 = .ok (.aload_n 0, 1) := by decide +kernel
theorem dX4_keeps_1 : decode cX4_keeps 1 = .ok (.getfield 36, 3) := by decide +kernel
theorem dX4_keeps_4 : decode cX4_keeps 4 = .ok (.iload_n 1, 1) := by decide +kernel
theorem dX4_keeps_5 : decode cX4_keeps 5 = .ok (.aload_n 0, 1) := by decide +kernel
theorem dX4_keeps_6 : decode cX4_keeps 6 = .ok (.getfield 75, 3) := by decide +kernel
theorem dX4_keeps_9 : decode cX4_keeps 9 = .ok (.lastore, 1) := by decide +kernel
theorem dX4_keeps_10 : decode cX4_keeps 10 = .ok (.aload_n 0, 1) := by decide +kernel
theorem dX4_keeps_11 : decode cX4_keeps 11 = .ok (.getfield 40, 3) := by decide +kernel
theorem dX4_keeps_14 : decode cX4_keeps 14 = .ok (.iload_n 1, 1) := by decide +kernel
theorem dX4_keeps_15 : decode cX4_keeps 15 = .ok (.aload_n 0, 1) := by decide +kernel
theorem dX4_keeps_16 : decode cX4_keeps 16 = .ok (.getfield 7, 3) := by decide +kernel
theorem dX4_keeps_19 : decode cX4_keeps 19 = .ok (.lastore, 1) := by decide +kernel
theorem dX4_keeps_20 : decode cX4_keeps 20 = .ok (.return_, 1) := by decide +kernel
theorem dX4_openWeight_0 : decode cX4_openWeight 0 = .ok (.iconst 0, 1) := by decide +kernel
theorem dX4_openWeight_1 : decode cX4_openWeight 1 = .ok (.istore_n 2, 1) := by decide +kernel
theorem dX4_openWeight_2 : decode cX4_openWeight 2 = .ok (.iconst 0, 1) := by decide +kernel
theorem dX4_openWeight_3 : decode cX4_openWeight 3 = .ok (.istore_n 3, 1) := by decide +kernel
theorem dX4_openWeight_4 : decode cX4_openWeight 4 = .ok (.iload_n 3, 1) := by decide +kernel
theorem dX4_openWeight_5 : decode cX4_openWeight 5 = .ok (.bipush 6, 2) := by decide +kernel
theorem dX4_openWeight_7 : decode cX4_openWeight 7 = .ok (.if_icmp .ge 52, 3) := by decide +kernel
theorem dX4_openWeight_10 : decode cX4_openWeight 10 = .ok (.iload_n 2, 1) := by decide +kernel
theorem dX4_openWeight_11 : decode cX4_openWeight 11 = .ok (.aload_n 0, 1) := by decide +kernel
theorem dX4_openWeight_12 : decode cX4_openWeight 12 = .ok (.iload_n 3, 1) := by decide +kernel
theorem dX4_openWeight_13 : decode cX4_openWeight 13 = .ok (.invokevirtual 113, 3) := by decide +kernel
theorem dX4_openWeight_16 : decode cX4_openWeight 16 = .ok (.ifCond .eq 34, 3) := by decide +kernel
theorem dX4_openWeight_19 : decode cX4_openWeight 19 = .ok (.aload_n 0, 1) := by decide +kernel
theorem dX4_openWeight_20 : decode cX4_openWeight 20 = .ok (.getfield 30, 3) := by decide +kernel
theorem dX4_openWeight_23 : decode cX4_openWeight 23 = .ok (.iload_n 3, 1) := by decide +kernel
theorem dX4_openWeight_24 : decode cX4_openWeight 24 = .ok (.iaload, 1) := by decide +kernel
theorem dX4_openWeight_25 : decode cX4_openWeight 25 = .ok (.bipush (-9), 2) := by decide +kernel
theorem dX4_openWeight_27 : decode cX4_openWeight 27 = .ok (.if_icmp .ne 23, 3) := by decide +kernel
theorem dX4_openWeight_30 : decode cX4_openWeight 30 = .ok (.iload_n 1, 1) := by decide +kernel
theorem dX4_openWeight_31 : decode cX4_openWeight 31 = .ok (.ifCond .ne 11, 3) := by decide +kernel
theorem dX4_openWeight_34 : decode cX4_openWeight 34 = .ok (.aload_n 0, 1) := by decide +kernel
theorem dX4_openWeight_35 : decode cX4_openWeight 35 = .ok (.iload_n 3, 1) := by decide +kernel
theorem dX4_openWeight_36 : decode cX4_openWeight 36 = .ok (.invokevirtual 116, 3) := by decide +kernel
theorem dX4_openWeight_39 : decode cX4_openWeight 39 = .ok (.ifCond .ne 11, 3) := by decide +kernel
theorem dX4_openWeight_42 : decode cX4_openWeight 42 = .ok (.aload_n 0, 1) := by decide +kernel
theorem dX4_openWeight_43 : decode cX4_openWeight 43 = .ok (.iload_n 3, 1) := by decide +kernel
theorem dX4_openWeight_44 : decode cX4_openWeight 44 = .ok (.invokevirtual 109, 3) := by decide +kernel
theorem dX4_openWeight_47 : decode cX4_openWeight 47 = .ok (.goto 4, 3) := by decide +kernel
theorem dX4_openWeight_50 : decode cX4_openWeight 50 = .ok (.iconst 0, 1) := by decide +kernel
theorem dX4_openWeight_51 : decode cX4_openWeight 51 = .ok (.iadd, 1) := by decide +kernel
theorem dX4_openWeight_52 : decode cX4_openWeight 52 = .ok (.istore_n 2, 1) := by decide +kernel
theorem dX4_openWeight_53 : decode cX4_openWeight 53 = .ok (.iinc 3 1, 3) := by decide +kernel
theorem dX4_openWeight_56 : decode cX4_openWeight 56 = .ok (.goto (-52), 3) := by decide +kernel
theorem dX4_openWeight_59 : decode cX4_openWeight 59 = .ok (.iload_n 2, 1) := by decide +kernel
theorem dX4_openWeight_60 : decode cX4_openWeight 60 = .ok (.ireturn, 1) := by decide +kernel
theorem dX4_findRest_0 : decode cX4_findRest 0 = .ok (.aload_n 0, 1) := by decide +kernel
theorem dX4_findRest_1 : decode cX4_findRest 1 = .ok (.invokevirtual 119, 3) := by decide +kernel
theorem dX4_findRest_4 : decode cX4_findRest 4 = .ok (.aload_n 0, 1) := by decide +kernel
theorem dX4_findRest_5 : decode cX4_findRest 5 = .ok (.iconst 0, 1) := by decide +kernel
theorem dX4_findRest_6 : decode cX4_findRest 6 = .ok (.invokevirtual 122, 3) := by decide +kernel
theorem dX4_findRest_9 : decode cX4_findRest 9 = .ok (.aload_n 0, 1) := by decide +kernel
theorem dX4_findRest_10 : decode cX4_findRest 10 = .ok (.getfield 36, 3) := by decide +kernel
theorem dX4_findRest_13 : decode cX4_findRest 13 = .ok (.iconst 1, 1) := by decide +kernel
theorem dX4_findRest_14 : decode cX4_findRest 14 = .ok (.lconst 0, 1) := by decide +kernel
theorem dX4_findRest_15 : decode cX4_findRest 15 = .ok (.lastore, 1) := by decide +kernel
theorem dX4_findRest_16 : decode cX4_findRest 16 = .ok (.aload_n 0, 1) := by decide +kernel
theorem dX4_findRest_17 : decode cX4_findRest 17 = .ok (.getfield 40, 3) := by decide +kernel
theorem dX4_findRest_20 : decode cX4_findRest 20 = .ok (.iconst 1, 1) := by decide +kernel
theorem dX4_findRest_21 : decode cX4_findRest 21 = .ok (.lconst 1, 1) := by decide +kernel
theorem dX4_findRest_22 : decode cX4_findRest 22 = .ok (.lastore, 1) := by decide +kernel
theorem dX4_findRest_23 : decode cX4_findRest 23 = .ok (.iconst 0, 1) := by decide +kernel
theorem dX4_findRest_24 : decode cX4_findRest 24 = .ok (.istore_n 1, 1) := by decide +kernel
theorem dX4_findRest_25 : decode cX4_findRest 25 = .ok (.iload_n 1, 1) := by decide +kernel
theorem dX4_findRest_26 : decode cX4_findRest 26 = .ok (.bipush 6, 2) := by decide +kernel
theorem dX4_findRest_28 : decode cX4_findRest 28 = .ok (.if_icmp .ge 52, 3) := by decide +kernel
theorem dX4_findRest_31 : decode cX4_findRest 31 = .ok (.aload_n 0, 1) := by decide +kernel
theorem dX4_findRest_32 : decode cX4_findRest 32 = .ok (.iload_n 1, 1) := by decide +kernel
theorem dX4_findRest_33 : decode cX4_findRest 33 = .ok (.invokevirtual 113, 3) := by decide +kernel
theorem dX4_findRest_36 : decode cX4_findRest 36 = .ok (.ifCond .eq 38, 3) := by decide +kernel
theorem dX4_findRest_39 : decode cX4_findRest 39 = .ok (.aload_n 0, 1) := by decide +kernel
theorem dX4_findRest_40 : decode cX4_findRest 40 = .ok (.iload_n 1, 1) := by decide +kernel
theorem dX4_findRest_41 : decode cX4_findRest 41 = .ok (.invokevirtual 125, 3) := by decide +kernel
theorem dX4_findRest_44 : decode cX4_findRest 44 = .ok (.aload_n 0, 1) := by decide +kernel
theorem dX4_findRest_45 : decode cX4_findRest 45 = .ok (.aload_n 0, 1) := by decide +kernel
theorem dX4_findRest_46 : decode cX4_findRest 46 = .ok (.getfield 36, 3) := by decide +kernel
theorem dX4_findRest_49 : decode cX4_findRest 49 = .ok (.iconst 1, 1) := by decide +kernel
theorem dX4_findRest_50 : decode cX4_findRest 50 = .ok (.laload, 1) := by decide +kernel
theorem dX4_findRest_51 : decode cX4_findRest 51 = .ok (.aload_n 0, 1) := by decide +kernel
theorem dX4_findRest_52 : decode cX4_findRest 52 = .ok (.getfield 40, 3) := by decide +kernel
theorem dX4_findRest_55 : decode cX4_findRest 55 = .ok (.iconst 1, 1) := by decide +kernel
theorem dX4_findRest_56 : decode cX4_findRest 56 = .ok (.laload, 1) := by decide +kernel
theorem dX4_findRest_57 : decode cX4_findRest 57 = .ok (.aload_n 0, 1) := by decide +kernel
theorem dX4_findRest_58 : decode cX4_findRest 58 = .ok (.getfield 75, 3) := by decide +kernel
theorem dX4_findRest_61 : decode cX4_findRest 61 = .ok (.aload_n 0, 1) := by decide +kernel
theorem dX4_findRest_62 : decode cX4_findRest 62 = .ok (.getfield 7, 3) := by decide +kernel
theorem dX4_findRest_65 : decode cX4_findRest 65 = .ok (.lconst 1, 1) := by decide +kernel
theorem dX4_findRest_66 : decode cX4_findRest 66 = .ok (.invokevirtual 128, 3) := by decide +kernel
theorem dX4_findRest_69 : decode cX4_findRest 69 = .ok (.aload_n 0, 1) := by decide +kernel
theorem dX4_findRest_70 : decode cX4_findRest 70 = .ok (.iconst 1, 1) := by decide +kernel
theorem dX4_findRest_71 : decode cX4_findRest 71 = .ok (.invokevirtual 122, 3) := by decide +kernel
theorem dX4_findRest_74 : decode cX4_findRest 74 = .ok (.iinc 1 1, 3) := by decide +kernel
theorem dX4_findRest_77 : decode cX4_findRest 77 = .ok (.goto (-52), 3) := by decide +kernel
theorem dX4_findRest_80 : decode cX4_findRest 80 = .ok (.aload_n 0, 1) := by decide +kernel
theorem dX4_findRest_81 : decode cX4_findRest 81 = .ok (.aload_n 0, 1) := by decide +kernel
theorem dX4_findRest_82 : decode cX4_findRest 82 = .ok (.getfield 36, 3) := by decide +kernel
theorem dX4_findRest_85 : decode cX4_findRest 85 = .ok (.iconst 0, 1) := by decide +kernel
theorem dX4_findRest_86 : decode cX4_findRest 86 = .ok (.laload, 1) := by decide +kernel
theorem dX4_findRest_87 : decode cX4_findRest 87 = .ok (.aload_n 0, 1) := by decide +kernel
theorem dX4_findRest_88 : decode cX4_findRest 88 = .ok (.getfield 40, 3) := by decide +kernel
theorem dX4_findRest_91 : decode cX4_findRest 91 = .ok (.iconst 0, 1) := by decide +kernel
theorem dX4_findRest_92 : decode cX4_findRest 92 = .ok (.laload, 1) := by decide +kernel
theorem dX4_findRest_93 : decode cX4_findRest 93 = .ok (.aload_n 0, 1) := by decide +kernel
theorem dX4_findRest_94 : decode cX4_findRest 94 = .ok (.getfield 36, 3) := by decide +kernel
theorem dX4_findRest_97 : decode cX4_findRest 97 = .ok (.iconst 1, 1) := by decide +kernel
theorem dX4_findRest_98 : decode cX4_findRest 98 = .ok (.laload, 1) := by decide +kernel
theorem dX4_findRest_99 : decode cX4_findRest 99 = .ok (.aload_n 0, 1) := by decide +kernel
theorem dX4_findRest_100 : decode cX4_findRest 100 = .ok (.getfield 40, 3) := by decide +kernel
theorem dX4_findRest_103 : decode cX4_findRest 103 = .ok (.iconst 1, 1) := by decide +kernel
theorem dX4_findRest_104 : decode cX4_findRest 104 = .ok (.laload, 1) := by decide +kernel
theorem dX4_findRest_105 : decode cX4_findRest 105 = .ok (.ldc2_w 132, 3) := by decide +kernel
theorem dX4_findRest_108 : decode cX4_findRest 108 = .ok (.invokevirtual 128, 3) := by decide +kernel
theorem dX4_findRest_111 : decode cX4_findRest 111 = .ok (.aload_n 0, 1) := by decide +kernel
theorem dX4_findRest_112 : decode cX4_findRest 112 = .ok (.aload_n 0, 1) := by decide +kernel
theorem dX4_findRest_113 : decode cX4_findRest 113 = .ok (.getfield 75, 3) := by decide +kernel
theorem dX4_findRest_116 : decode cX4_findRest 116 = .ok (.lconst 0, 1) := by decide +kernel
theorem dX4_findRest_117 : decode cX4_findRest 117 = .ok (.lcmp, 1) := by decide +kernel
theorem dX4_findRest_118 : decode cX4_findRest 118 = .ok (.ifCond .ge 7, 3) := by decide +kernel
theorem dX4_findRest_121 : decode cX4_findRest 121 = .ok (.lconst 0, 1) := by decide +kernel
theorem dX4_findRest_122 : decode cX4_findRest 122 = .ok (.goto 7, 3) := by decide +kernel
theorem dX4_findRest_125 : decode cX4_findRest 125 = .ok (.aload_n 0, 1) := by decide +kernel
theorem dX4_findRest_126 : decode cX4_findRest 126 = .ok (.getfield 75, 3) := by decide +kernel
theorem dX4_findRest_129 : decode cX4_findRest 129 = .ok (.aload_n 0, 1) := by decide +kernel
theorem dX4_findRest_130 : decode cX4_findRest 130 = .ok (.getfield 75, 3) := by decide +kernel
theorem dX4_findRest_133 : decode cX4_findRest 133 = .ok (.lconst 0, 1) := by decide +kernel
theorem dX4_findRest_134 : decode cX4_findRest 134 = .ok (.lcmp, 1) := by decide +kernel
theorem dX4_findRest_135 : decode cX4_findRest 135 = .ok (.ifCond .ge 7, 3) := by decide +kernel
theorem dX4_findRest_138 : decode cX4_findRest 138 = .ok (.lconst 1, 1) := by decide +kernel
theorem dX4_findRest_139 : decode cX4_findRest 139 = .ok (.goto 7, 3) := by decide +kernel
theorem dX4_findRest_142 : decode cX4_findRest 142 = .ok (.aload_n 0, 1) := by decide +kernel
theorem dX4_findRest_143 : decode cX4_findRest 143 = .ok (.getfield 7, 3) := by decide +kernel
theorem dX4_findRest_146 : decode cX4_findRest 146 = .ok (.invokevirtual 78, 3) := by decide +kernel
theorem dX4_findRest_149 : decode cX4_findRest 149 = .ok (.aload_n 0, 1) := by decide +kernel
theorem dX4_findRest_150 : decode cX4_findRest 150 = .ok (.iconst 2, 1) := by decide +kernel
theorem dX4_findRest_151 : decode cX4_findRest 151 = .ok (.invokevirtual 122, 3) := by decide +kernel
theorem dX4_findRest_154 : decode cX4_findRest 154 = .ok (.return_, 1) := by decide +kernel
theorem dX4_findDues_0 : decode cX4_findDues 0 = .ok (.aload_n 0, 1) := by decide +kernel
theorem dX4_findDues_1 : decode cX4_findDues 1 = .ok (.invokevirtual 134, 3) := by decide +kernel
theorem dX4_findDues_4 : decode cX4_findDues 4 = .ok (.aload_n 0, 1) := by decide +kernel
theorem dX4_findDues_5 : decode cX4_findDues 5 = .ok (.iconst 1, 1) := by decide +kernel
theorem dX4_findDues_6 : decode cX4_findDues 6 = .ok (.invokevirtual 137, 3) := by decide +kernel
theorem dX4_findDues_9 : decode cX4_findDues 9 = .ok (.istore_n 1, 1) := by decide +kernel
theorem dX4_findDues_10 : decode cX4_findDues 10 = .ok (.aload_n 0, 1) := by decide +kernel
theorem dX4_findDues_11 : decode cX4_findDues 11 = .ok (.iconst 0, 1) := by decide +kernel
theorem dX4_findDues_12 : decode cX4_findDues 12 = .ok (.invokevirtual 137, 3) := by decide +kernel
theorem dX4_findDues_15 : decode cX4_findDues 15 = .ok (.istore_n 2, 1) := by decide +kernel
theorem dX4_findDues_16 : decode cX4_findDues 16 = .ok (.aload_n 0, 1) := by decide +kernel
theorem dX4_findDues_17 : decode cX4_findDues 17 = .ok (.getfield 13, 3) := by decide +kernel
theorem dX4_findDues_20 : decode cX4_findDues 20 = .ok (.iconst 1, 1) := by decide +kernel
theorem dX4_findDues_21 : decode cX4_findDues 21 = .ok (.iaload, 1) := by decide +kernel
theorem dX4_findDues_22 : decode cX4_findDues 22 = .ok (.ifCond .ne 7, 3) := by decide +kernel
theorem dX4_findDues_25 : decode cX4_findDues 25 = .ok (.iload_n 2, 1) := by decide +kernel
theorem dX4_findDues_26 : decode cX4_findDues 26 = .ok (.goto 23, 3) := by decide +kernel
theorem dX4_findDues_29 : decode cX4_findDues 29 = .ok (.aload_n 0, 1) := by decide +kernel
theorem dX4_findDues_30 : decode cX4_findDues 30 = .ok (.getfield 13, 3) := by decide +kernel
theorem dX4_findDues_33 : decode cX4_findDues 33 = .ok (.iconst 1, 1) := by decide +kernel
theorem dX4_findDues_34 : decode cX4_findDues 34 = .ok (.iaload, 1) := by decide +kernel
theorem dX4_findDues_35 : decode cX4_findDues 35 = .ok (.iconst 1, 1) := by decide +kernel
theorem dX4_findDues_36 : decode cX4_findDues 36 = .ok (.if_icmp .ne 12, 3) := by decide +kernel
theorem dX4_findDues_39 : decode cX4_findDues 39 = .ok (.iload_n 2, 1) := by decide +kernel
theorem dX4_findDues_40 : decode cX4_findDues 40 = .ok (.aload_n 0, 1) := by decide +kernel
theorem dX4_findDues_41 : decode cX4_findDues 41 = .ok (.getfield 91, 3) := by decide +kernel
theorem dX4_findDues_44 : decode cX4_findDues 44 = .ok (.iadd, 1) := by decide +kernel
theorem dX4_findDues_45 : decode cX4_findDues 45 = .ok (.goto 4, 3) := by decide +kernel
theorem dX4_findDues_48 : decode cX4_findDues 48 = .ok (.iconst 0, 1) := by decide +kernel
theorem dX4_findDues_49 : decode cX4_findDues 49 = .ok (.istore_n 3, 1) := by decide +kernel
theorem dX4_findDues_50 : decode cX4_findDues 50 = .ok (.aload_n 0, 1) := by decide +kernel
theorem dX4_findDues_51 : decode cX4_findDues 51 = .ok (.getfield 36, 3) := by decide +kernel
theorem dX4_findDues_54 : decode cX4_findDues 54 = .ok (.iconst 4, 1) := by decide +kernel
theorem dX4_findDues_55 : decode cX4_findDues 55 = .ok (.lconst 0, 1) := by decide +kernel
theorem dX4_findDues_56 : decode cX4_findDues 56 = .ok (.lastore, 1) := by decide +kernel
theorem dX4_findDues_57 : decode cX4_findDues 57 = .ok (.aload_n 0, 1) := by decide +kernel
theorem dX4_findDues_58 : decode cX4_findDues 58 = .ok (.getfield 40, 3) := by decide +kernel
theorem dX4_findDues_61 : decode cX4_findDues 61 = .ok (.iconst 4, 1) := by decide +kernel
theorem dX4_findDues_62 : decode cX4_findDues 62 = .ok (.lconst 1, 1) := by decide +kernel
theorem dX4_findDues_63 : decode cX4_findDues 63 = .ok (.lastore, 1) := by decide +kernel
theorem dX4_findDues_64 : decode cX4_findDues 64 = .ok (.iconst 0, 1) := by decide +kernel
theorem dX4_findDues_65 : decode cX4_findDues 65 = .ok (.istore 4, 2) := by decide +kernel
theorem dX4_findDues_67 : decode cX4_findDues 67 = .ok (.iload 4, 2) := by decide +kernel
theorem dX4_findDues_69 : decode cX4_findDues 69 = .ok (.bipush 6, 2) := by decide +kernel
theorem dX4_findDues_71 : decode cX4_findDues 71 = .ok (.if_icmp .ge 138, 3) := by decide +kernel
theorem dX4_findDues_74 : decode cX4_findDues 74 = .ok (.aload_n 0, 1) := by decide +kernel
theorem dX4_findDues_75 : decode cX4_findDues 75 = .ok (.iload 4, 2) := by decide +kernel
theorem dX4_findDues_77 : decode cX4_findDues 77 = .ok (.invokevirtual 113, 3) := by decide +kernel
theorem dX4_findDues_80 : decode cX4_findDues 80 = .ok (.ifCond .eq 32, 3) := by decide +kernel
theorem dX4_findDues_83 : decode cX4_findDues 83 = .ok (.aload_n 0, 1) := by decide +kernel
theorem dX4_findDues_84 : decode cX4_findDues 84 = .ok (.getfield 30, 3) := by decide +kernel
theorem dX4_findDues_87 : decode cX4_findDues 87 = .ok (.iload 4, 2) := by decide +kernel
theorem dX4_findDues_89 : decode cX4_findDues 89 = .ok (.iaload, 1) := by decide +kernel
theorem dX4_findDues_90 : decode cX4_findDues 90 = .ok (.bipush (-9), 2) := by decide +kernel
theorem dX4_findDues_92 : decode cX4_findDues 92 = .ok (.if_icmp .ne 20, 3) := by decide +kernel
theorem dX4_findDues_95 : decode cX4_findDues 95 = .ok (.aload_n 0, 1) := by decide +kernel
theorem dX4_findDues_96 : decode cX4_findDues 96 = .ok (.iload 4, 2) := by decide +kernel
theorem dX4_findDues_98 : decode cX4_findDues 98 = .ok (.invokevirtual 116, 3) := by decide +kernel
theorem dX4_findDues_101 : decode cX4_findDues 101 = .ok (.ifCond .ne 11, 3) := by decide +kernel
theorem dX4_findDues_104 : decode cX4_findDues 104 = .ok (.iload_n 1, 1) := by decide +kernel
theorem dX4_findDues_105 : decode cX4_findDues 105 = .ok (.ifCond .le 7, 3) := by decide +kernel
theorem dX4_findDues_108 : decode cX4_findDues 108 = .ok (.iconst 1, 1) := by decide +kernel
theorem dX4_findDues_109 : decode cX4_findDues 109 = .ok (.goto 4, 3) := by decide +kernel
theorem dX4_findDues_112 : decode cX4_findDues 112 = .ok (.iconst 0, 1) := by decide +kernel
theorem dX4_findDues_113 : decode cX4_findDues 113 = .ok (.istore 5, 2) := by decide +kernel
theorem dX4_findDues_115 : decode cX4_findDues 115 = .ok (.aload_n 0, 1) := by decide +kernel
theorem dX4_findDues_116 : decode cX4_findDues 116 = .ok (.getfield 43, 3) := by decide +kernel
theorem dX4_findDues_119 : decode cX4_findDues 119 = .ok (.iload 4, 2) := by decide +kernel
theorem dX4_findDues_121 : decode cX4_findDues 121 = .ok (.lconst 0, 1) := by decide +kernel
theorem dX4_findDues_122 : decode cX4_findDues 122 = .ok (.lastore, 1) := by decide +kernel
theorem dX4_findDues_123 : decode cX4_findDues 123 = .ok (.aload_n 0, 1) := by decide +kernel
theorem dX4_findDues_124 : decode cX4_findDues 124 = .ok (.getfield 46, 3) := by decide +kernel
theorem dX4_findDues_127 : decode cX4_findDues 127 = .ok (.iload 4, 2) := by decide +kernel
theorem dX4_findDues_129 : decode cX4_findDues 129 = .ok (.lconst 1, 1) := by decide +kernel
theorem dX4_findDues_130 : decode cX4_findDues 130 = .ok (.lastore, 1) := by decide +kernel
theorem dX4_findDues_131 : decode cX4_findDues 131 = .ok (.iload 5, 2) := by decide +kernel
theorem dX4_findDues_133 : decode cX4_findDues 133 = .ok (.ifCond .eq 70, 3) := by decide +kernel
theorem dX4_findDues_136 : decode cX4_findDues 136 = .ok (.aload_n 0, 1) := by decide +kernel
theorem dX4_findDues_137 : decode cX4_findDues 137 = .ok (.aload_n 0, 1) := by decide +kernel
theorem dX4_findDues_138 : decode cX4_findDues 138 = .ok (.iload 4, 2) := by decide +kernel
theorem dX4_findDues_140 : decode cX4_findDues 140 = .ok (.invokevirtual 109, 3) := by decide +kernel
theorem dX4_findDues_143 : decode cX4_findDues 143 = .ok (.iload_n 1, 1) := by decide +kernel
theorem dX4_findDues_144 : decode cX4_findDues 144 = .ok (.iload_n 1, 1) := by decide +kernel
theorem dX4_findDues_145 : decode cX4_findDues 145 = .ok (.iload_n 2, 1) := by decide +kernel
theorem dX4_findDues_146 : decode cX4_findDues 146 = .ok (.isub, 1) := by decide +kernel
theorem dX4_findDues_147 : decode cX4_findDues 147 = .ok (.iload_n 3, 1) := by decide +kernel
theorem dX4_findDues_148 : decode cX4_findDues 148 = .ok (.invokevirtual 141, 3) := by decide +kernel
theorem dX4_findDues_151 : decode cX4_findDues 151 = .ok (.aload_n 0, 1) := by decide +kernel
theorem dX4_findDues_152 : decode cX4_findDues 152 = .ok (.getfield 43, 3) := by decide +kernel
theorem dX4_findDues_155 : decode cX4_findDues 155 = .ok (.iload 4, 2) := by decide +kernel
theorem dX4_findDues_157 : decode cX4_findDues 157 = .ok (.aload_n 0, 1) := by decide +kernel
theorem dX4_findDues_158 : decode cX4_findDues 158 = .ok (.getfield 75, 3) := by decide +kernel
theorem dX4_findDues_161 : decode cX4_findDues 161 = .ok (.lastore, 1) := by decide +kernel
theorem dX4_findDues_162 : decode cX4_findDues 162 = .ok (.aload_n 0, 1) := by decide +kernel
theorem dX4_findDues_163 : decode cX4_findDues 163 = .ok (.getfield 46, 3) := by decide +kernel
theorem dX4_findDues_166 : decode cX4_findDues 166 = .ok (.iload 4, 2) := by decide +kernel
theorem dX4_findDues_168 : decode cX4_findDues 168 = .ok (.aload_n 0, 1) := by decide +kernel
theorem dX4_findDues_169 : decode cX4_findDues 169 = .ok (.getfield 7, 3) := by decide +kernel
theorem dX4_findDues_172 : decode cX4_findDues 172 = .ok (.lastore, 1) := by decide +kernel
theorem dX4_findDues_173 : decode cX4_findDues 173 = .ok (.aload_n 0, 1) := by decide +kernel
theorem dX4_findDues_174 : decode cX4_findDues 174 = .ok (.aload_n 0, 1) := by decide +kernel
theorem dX4_findDues_175 : decode cX4_findDues 175 = .ok (.getfield 36, 3) := by decide +kernel
theorem dX4_findDues_178 : decode cX4_findDues 178 = .ok (.iconst 4, 1) := by decide +kernel
theorem dX4_findDues_179 : decode cX4_findDues 179 = .ok (.laload, 1) := by decide +kernel
theorem dX4_findDues_180 : decode cX4_findDues 180 = .ok (.aload_n 0, 1) := by decide +kernel
theorem dX4_findDues_181 : decode cX4_findDues 181 = .ok (.getfield 40, 3) := by decide +kernel
theorem dX4_findDues_184 : decode cX4_findDues 184 = .ok (.iconst 4, 1) := by decide +kernel
theorem dX4_findDues_185 : decode cX4_findDues 185 = .ok (.laload, 1) := by decide +kernel
theorem dX4_findDues_186 : decode cX4_findDues 186 = .ok (.aload_n 0, 1) := by decide +kernel
theorem dX4_findDues_187 : decode cX4_findDues 187 = .ok (.getfield 75, 3) := by decide +kernel
theorem dX4_findDues_190 : decode cX4_findDues 190 = .ok (.aload_n 0, 1) := by decide +kernel
theorem dX4_findDues_191 : decode cX4_findDues 191 = .ok (.getfield 7, 3) := by decide +kernel
theorem dX4_findDues_194 : decode cX4_findDues 194 = .ok (.lconst 1, 1) := by decide +kernel
theorem dX4_findDues_195 : decode cX4_findDues 195 = .ok (.invokevirtual 128, 3) := by decide +kernel
theorem dX4_findDues_198 : decode cX4_findDues 198 = .ok (.aload_n 0, 1) := by decide +kernel
theorem dX4_findDues_199 : decode cX4_findDues 199 = .ok (.iconst 4, 1) := by decide +kernel
theorem dX4_findDues_200 : decode cX4_findDues 200 = .ok (.invokevirtual 122, 3) := by decide +kernel
theorem dX4_findDues_203 : decode cX4_findDues 203 = .ok (.iinc 4 1, 3) := by decide +kernel
theorem dX4_findDues_206 : decode cX4_findDues 206 = .ok (.goto (-139), 3) := by decide +kernel
theorem dX4_findDues_209 : decode cX4_findDues 209 = .ok (.aload_n 0, 1) := by decide +kernel
theorem dX4_findDues_210 : decode cX4_findDues 210 = .ok (.aload_n 0, 1) := by decide +kernel
theorem dX4_findDues_211 : decode cX4_findDues 211 = .ok (.getfield 36, 3) := by decide +kernel
theorem dX4_findDues_214 : decode cX4_findDues 214 = .ok (.iconst 2, 1) := by decide +kernel
theorem dX4_findDues_215 : decode cX4_findDues 215 = .ok (.laload, 1) := by decide +kernel
theorem dX4_findDues_216 : decode cX4_findDues 216 = .ok (.aload_n 0, 1) := by decide +kernel
theorem dX4_findDues_217 : decode cX4_findDues 217 = .ok (.getfield 40, 3) := by decide +kernel
theorem dX4_findDues_220 : decode cX4_findDues 220 = .ok (.iconst 2, 1) := by decide +kernel
theorem dX4_findDues_221 : decode cX4_findDues 221 = .ok (.laload, 1) := by decide +kernel
theorem dX4_findDues_222 : decode cX4_findDues 222 = .ok (.aload_n 0, 1) := by decide +kernel
theorem dX4_findDues_223 : decode cX4_findDues 223 = .ok (.getfield 36, 3) := by decide +kernel
theorem dX4_findDues_226 : decode cX4_findDues 226 = .ok (.iconst 4, 1) := by decide +kernel
theorem dX4_findDues_227 : decode cX4_findDues 227 = .ok (.laload, 1) := by decide +kernel
theorem dX4_findDues_228 : decode cX4_findDues 228 = .ok (.aload_n 0, 1) := by decide +kernel
theorem dX4_findDues_229 : decode cX4_findDues 229 = .ok (.getfield 40, 3) := by decide +kernel
theorem dX4_findDues_232 : decode cX4_findDues 232 = .ok (.iconst 4, 1) := by decide +kernel
theorem dX4_findDues_233 : decode cX4_findDues 233 = .ok (.laload, 1) := by decide +kernel
theorem dX4_findDues_234 : decode cX4_findDues 234 = .ok (.ldc2_w 132, 3) := by decide +kernel
theorem dX4_findDues_237 : decode cX4_findDues 237 = .ok (.invokevirtual 128, 3) := by decide +kernel
theorem dX4_findDues_240 : decode cX4_findDues 240 = .ok (.aload_n 0, 1) := by decide +kernel
theorem dX4_findDues_241 : decode cX4_findDues 241 = .ok (.iconst 3, 1) := by decide +kernel
theorem dX4_findDues_242 : decode cX4_findDues 242 = .ok (.invokevirtual 122, 3) := by decide +kernel
theorem dX4_findDues_245 : decode cX4_findDues 245 = .ok (.return_, 1) := by decide +kernel
theorem dX4_findUnit_0 : decode cX4_findUnit 0 = .ok (.aload_n 0, 1) := by decide +kernel
theorem dX4_findUnit_1 : decode cX4_findUnit 1 = .ok (.iload_n 1, 1) := by decide +kernel
theorem dX4_findUnit_2 : decode cX4_findUnit 2 = .ok (.i2l, 1) := by decide +kernel
theorem dX4_findUnit_3 : decode cX4_findUnit 3 = .ok (.iload_n 2, 1) := by decide +kernel
theorem dX4_findUnit_4 : decode cX4_findUnit 4 = .ok (.i2l, 1) := by decide +kernel
theorem dX4_findUnit_5 : decode cX4_findUnit 5 = .ok (.invokevirtual 78, 3) := by decide +kernel
theorem dX4_findUnit_8 : decode cX4_findUnit 8 = .ok (.iload 4, 2) := by decide +kernel
theorem dX4_findUnit_10 : decode cX4_findUnit 10 = .ok (.ifCond .le 27, 3) := by decide +kernel
theorem dX4_findUnit_13 : decode cX4_findUnit 13 = .ok (.aload_n 0, 1) := by decide +kernel
theorem dX4_findUnit_14 : decode cX4_findUnit 14 = .ok (.aload_n 0, 1) := by decide +kernel
theorem dX4_findUnit_15 : decode cX4_findUnit 15 = .ok (.getfield 75, 3) := by decide +kernel
theorem dX4_findUnit_18 : decode cX4_findUnit 18 = .ok (.aload_n 0, 1) := by decide +kernel
theorem dX4_findUnit_19 : decode cX4_findUnit 19 = .ok (.getfield 7, 3) := by decide +kernel
theorem dX4_findUnit_22 : decode cX4_findUnit 22 = .ok (.iload_n 3, 1) := by decide +kernel
theorem dX4_findUnit_23 : decode cX4_findUnit 23 = .ok (.i2l, 1) := by decide +kernel
theorem dX4_findUnit_24 : decode cX4_findUnit 24 = .ok (.iload_n 1, 1) := by decide +kernel
theorem dX4_findUnit_25 : decode cX4_findUnit 25 = .ok (.i2l, 1) := by decide +kernel
theorem dX4_findUnit_26 : decode cX4_findUnit 26 = .ok (.lmul, 1) := by decide +kernel
theorem dX4_findUnit_27 : decode cX4_findUnit 27 = .ok (.iload_n 2, 1) := by decide +kernel
theorem dX4_findUnit_28 : decode cX4_findUnit 28 = .ok (.i2l, 1) := by decide +kernel
theorem dX4_findUnit_29 : decode cX4_findUnit 29 = .ok (.iload 4, 2) := by decide +kernel
theorem dX4_findUnit_31 : decode cX4_findUnit 31 = .ok (.i2l, 1) := by decide +kernel
theorem dX4_findUnit_32 : decode cX4_findUnit 32 = .ok (.lmul, 1) := by decide +kernel
theorem dX4_findUnit_33 : decode cX4_findUnit 33 = .ok (.lconst 1, 1) := by decide +kernel
theorem dX4_findUnit_34 : decode cX4_findUnit 34 = .ok (.invokevirtual 128, 3) := by decide +kernel
theorem dX4_findUnit_37 : decode cX4_findUnit 37 = .ok (.aload_n 0, 1) := by decide +kernel
theorem dX4_findUnit_38 : decode cX4_findUnit 38 = .ok (.aload_n 0, 1) := by decide +kernel
theorem dX4_findUnit_39 : decode cX4_findUnit 39 = .ok (.getfield 36, 3) := by decide +kernel
theorem dX4_findUnit_42 : decode cX4_findUnit 42 = .ok (.iconst 2, 1) := by decide +kernel
theorem dX4_findUnit_43 : decode cX4_findUnit 43 = .ok (.laload, 1) := by decide +kernel
theorem dX4_findUnit_44 : decode cX4_findUnit 44 = .ok (.aload_n 0, 1) := by decide +kernel
theorem dX4_findUnit_45 : decode cX4_findUnit 45 = .ok (.getfield 40, 3) := by decide +kernel
theorem dX4_findUnit_48 : decode cX4_findUnit 48 = .ok (.iconst 2, 1) := by decide +kernel
theorem dX4_findUnit_49 : decode cX4_findUnit 49 = .ok (.laload, 1) := by decide +kernel
theorem dX4_findUnit_50 : decode cX4_findUnit 50 = .ok (.aload_n 0, 1) := by decide +kernel
theorem dX4_findUnit_51 : decode cX4_findUnit 51 = .ok (.getfield 75, 3) := by decide +kernel
theorem dX4_findUnit_54 : decode cX4_findUnit 54 = .ok (.aload_n 0, 1) := by decide +kernel
theorem dX4_findUnit_55 : decode cX4_findUnit 55 = .ok (.getfield 7, 3) := by decide +kernel
theorem dX4_findUnit_58 : decode cX4_findUnit 58 = .ok (.invokevirtual 145, 3) := by decide +kernel
theorem dX4_findUnit_61 : decode cX4_findUnit 61 = .ok (.return_, 1) := by decide +kernel
theorem dX4_amount_0 : decode cX4_amount 0 = .ok (.iload_n 1, 1) := by decide +kernel
theorem dX4_amount_1 : decode cX4_amount 1 = .ok (.iconst 0, 1) := by decide +kernel
theorem dX4_amount_2 : decode cX4_amount 2 = .ok (.iconst 4, 1) := by decide +kernel
theorem dX4_amount_3 : decode cX4_amount 3 = .ok (.invokestatic 82, 3) := by decide +kernel
theorem dX4_amount_6 : decode cX4_amount 6 = .ok (.ifCond .eq 10, 3) := by decide +kernel
theorem dX4_amount_9 : decode cX4_amount 9 = .ok (.iload_n 2, 1) := by decide +kernel
theorem dX4_amount_10 : decode cX4_amount 10 = .ok (.invokestatic 149, 3) := by decide +kernel
theorem dX4_amount_13 : decode cX4_amount 13 = .ok (.ifCond .ne 7, 3) := by decide +kernel
theorem dX4_amount_16 : decode cX4_amount 16 = .ok (.ldc2_w 152, 3) := by decide +kernel
theorem dX4_amount_19 : decode cX4_amount 19 = .ok (.lreturn, 1) := by decide +kernel
theorem dX4_amount_20 : decode cX4_amount 20 = .ok (.aload_n 0, 1) := by decide +kernel
theorem dX4_amount_21 : decode cX4_amount 21 = .ok (.invokevirtual 154, 3) := by decide +kernel
theorem dX4_amount_24 : decode cX4_amount 24 = .ok (.iload_n 2, 1) := by decide +kernel
theorem dX4_amount_25 : decode cX4_amount 25 = .ok (.ifCond .ne 12, 3) := by decide +kernel
theorem dX4_amount_28 : decode cX4_amount 28 = .ok (.aload_n 0, 1) := by decide +kernel
theorem dX4_amount_29 : decode cX4_amount 29 = .ok (.getfield 36, 3) := by decide +kernel
theorem dX4_amount_32 : decode cX4_amount 32 = .ok (.iload_n 1, 1) := by decide +kernel
theorem dX4_amount_33 : decode cX4_amount 33 = .ok (.laload, 1) := by decide +kernel
theorem dX4_amount_34 : decode cX4_amount 34 = .ok (.goto 9, 3) := by decide +kernel
theorem dX4_amount_37 : decode cX4_amount 37 = .ok (.aload_n 0, 1) := by decide +kernel
theorem dX4_amount_38 : decode cX4_amount 38 = .ok (.getfield 40, 3) := by decide +kernel
theorem dX4_amount_41 : decode cX4_amount 41 = .ok (.iload_n 1, 1) := by decide +kernel
theorem dX4_amount_42 : decode cX4_amount 42 = .ok (.laload, 1) := by decide +kernel
theorem dX4_amount_43 : decode cX4_amount 43 = .ok (.lreturn, 1) := by decide +kernel
theorem dX4_credit_0 : decode cX4_credit 0 = .ok (.aload_n 0, 1) := by decide +kernel
theorem dX4_credit_1 : decode cX4_credit 1 = .ok (.iload_n 1, 1) := by decide +kernel
