theorem dX3_misses_43 : decode cX3_misses 43 = .ok (.invokestatic 53, 3) := by decide +kernel
theorem dX3_misses_46 : decode cX3_misses 46 = .ok (.ior, 1) := by decide +kernel
theorem dX3_misses_47 : decode cX3_misses 47 = .ok (.invokevirtual 164, 3) := by decide +kernel
theorem dX3_misses_50 : decode cX3_misses 50 = .ok (.astore_n 3, 1) := by decide +kernel
theorem dX3_misses_51 : decode cX3_misses 51 = .ok (.aload_n 0, 1) := by decide +kernel
theorem dX3_misses_52 : decode cX3_misses 52 = .ok (.aload_n 0, 1) := by decide +kernel
theorem dX3_misses_53 : decode cX3_misses 53 = .ok (.getfield 9, 3) := by decide +kernel
theorem dX3_misses_56 : decode cX3_misses 56 = .ok (.iconst 0, 1) := by decide +kernel
theorem dX3_misses_57 : decode cX3_misses 57 = .ok (.iaload, 1) := by decide +kernel
theorem dX3_misses_58 : decode cX3_misses 58 = .ok (.aload_n 0, 1) := by decide +kernel
theorem dX3_misses_59 : decode cX3_misses 59 = .ok (.getfield 9, 3) := by decide +kernel
theorem dX3_misses_62 : decode cX3_misses 62 = .ok (.iconst 1, 1) := by decide +kernel
theorem dX3_misses_63 : decode cX3_misses 63 = .ok (.iaload, 1) := by decide +kernel
theorem dX3_misses_64 : decode cX3_misses 64 = .ok (.aload_n 0, 1) := by decide +kernel
theorem dX3_misses_65 : decode cX3_misses 65 = .ok (.getfield 79, 3) := by decide +kernel
theorem dX3_misses_68 : decode cX3_misses 68 = .ok (.aload_n 0, 1) := by decide +kernel
theorem dX3_misses_69 : decode cX3_misses 69 = .ok (.getfield 68, 3) := by decide +kernel
theorem dX3_misses_72 : decode cX3_misses 72 = .ok (.iload_n 1, 1) := by decide +kernel
theorem dX3_misses_73 : decode cX3_misses 73 = .ok (.invokestatic 53, 3) := by decide +kernel
theorem dX3_misses_76 : decode cX3_misses 76 = .ok (.iconst (-1), 1) := by decide +kernel
theorem dX3_misses_77 : decode cX3_misses 77 = .ok (.ixor, 1) := by decide +kernel
theorem dX3_misses_78 : decode cX3_misses 78 = .ok (.iand, 1) := by decide +kernel
theorem dX3_misses_79 : decode cX3_misses 79 = .ok (.invokevirtual 164, 3) := by decide +kernel
theorem dX3_misses_82 : decode cX3_misses 82 = .ok (.astore 4, 2) := by decide +kernel
theorem dX3_misses_84 : decode cX3_misses 84 = .ok (.aload_n 3, 1) := by decide +kernel
theorem dX3_misses_85 : decode cX3_misses 85 = .ok (.getfield 120, 3) := by decide +kernel
theorem dX3_misses_88 : decode cX3_misses 88 = .ok (.aload 4, 2) := by decide +kernel
theorem dX3_misses_90 : decode cX3_misses 90 = .ok (.getfield 120, 3) := by decide +kernel
theorem dX3_misses_93 : decode cX3_misses 93 = .ok (.invokevirtual 156, 3) := by decide +kernel
theorem dX3_misses_96 : decode cX3_misses 96 = .ok (.iload_n 2, 1) := by decide +kernel
theorem dX3_misses_97 : decode cX3_misses 97 = .ok (.invokevirtual 108, 3) := by decide +kernel
theorem dX3_misses_100 : decode cX3_misses 100 = .ok (.lreturn, 1) := by decide +kernel
theorem dX3_owe_0 : decode cX3_owe 0 = .ok (.aload_n 0, 1) := by decide +kernel
theorem dX3_owe_1 : decode cX3_owe 1 = .ok (.invokevirtual 98, 3) := by decide +kernel
theorem dX3_owe_4 : decode cX3_owe 4 = .ok (.getfield 138, 3) := by decide +kernel
theorem dX3_owe_7 : decode cX3_owe 7 = .ok (.getfield 160, 3) := by decide +kernel
theorem dX3_owe_10 : decode cX3_owe 10 = .ok (.lconst 0, 1) := by decide +kernel
theorem dX3_owe_11 : decode cX3_owe 11 = .ok (.lcmp, 1) := by decide +kernel
theorem dX3_owe_12 : decode cX3_owe 12 = .ok (.ifCond .ne 5, 3) := by decide +kernel
theorem dX3_owe_15 : decode cX3_owe 15 = .ok (.iconst 0, 1) := by decide +kernel
theorem dX3_owe_16 : decode cX3_owe 16 = .ok (.ireturn, 1) := by decide +kernel
theorem dX3_owe_17 : decode cX3_owe 17 = .ok (.iconst 0, 1) := by decide +kernel
theorem dX3_owe_18 : decode cX3_owe 18 = .ok (.istore_n 1, 1) := by decide +kernel
theorem dX3_owe_19 : decode cX3_owe 19 = .ok (.iconst 0, 1) := by decide +kernel
theorem dX3_owe_20 : decode cX3_owe 20 = .ok (.istore_n 2, 1) := by decide +kernel
theorem dX3_owe_21 : decode cX3_owe 21 = .ok (.iload_n 2, 1) := by decide +kernel
theorem dX3_owe_22 : decode cX3_owe 22 = .ok (.bipush 6, 2) := by decide +kernel
theorem dX3_owe_24 : decode cX3_owe 24 = .ok (.if_icmp .ge 32, 3) := by decide +kernel
theorem dX3_owe_27 : decode cX3_owe 27 = .ok (.aload_n 0, 1) := by decide +kernel
theorem dX3_owe_28 : decode cX3_owe 28 = .ok (.iload_n 2, 1) := by decide +kernel
theorem dX3_owe_29 : decode cX3_owe 29 = .ok (.invokevirtual 57, 3) := by decide +kernel
theorem dX3_owe_32 : decode cX3_owe 32 = .ok (.ifCond .eq 18, 3) := by decide +kernel
theorem dX3_owe_35 : decode cX3_owe 35 = .ok (.aload_n 0, 1) := by decide +kernel
theorem dX3_owe_36 : decode cX3_owe 36 = .ok (.iload_n 2, 1) := by decide +kernel
theorem dX3_owe_37 : decode cX3_owe 37 = .ok (.invokevirtual 149, 3) := by decide +kernel
theorem dX3_owe_40 : decode cX3_owe 40 = .ok (.ifCond .le 10, 3) := by decide +kernel
theorem dX3_owe_43 : decode cX3_owe 43 = .ok (.iload_n 1, 1) := by decide +kernel
theorem dX3_owe_44 : decode cX3_owe 44 = .ok (.iload_n 2, 1) := by decide +kernel
theorem dX3_owe_45 : decode cX3_owe 45 = .ok (.invokestatic 53, 3) := by decide +kernel
theorem dX3_owe_48 : decode cX3_owe 48 = .ok (.ior, 1) := by decide +kernel
theorem dX3_owe_49 : decode cX3_owe 49 = .ok (.istore_n 1, 1) := by decide +kernel
theorem dX3_owe_50 : decode cX3_owe 50 = .ok (.iinc 2 1, 3) := by decide +kernel
theorem dX3_owe_53 : decode cX3_owe 53 = .ok (.goto (-32), 3) := by decide +kernel
theorem dX3_owe_56 : decode cX3_owe 56 = .ok (.iload_n 1, 1) := by decide +kernel
theorem dX3_owe_57 : decode cX3_owe 57 = .ok (.ireturn, 1) := by decide +kernel
theorem dX3_pay_0 : decode cX3_pay 0 = .ok (.aload_n 0, 1) := by decide +kernel
theorem dX3_pay_1 : decode cX3_pay 1 = .ok (.iload_n 1, 1) := by decide +kernel
theorem dX3_pay_2 : decode cX3_pay 2 = .ok (.invokevirtual 57, 3) := by decide +kernel
theorem dX3_pay_5 : decode cX3_pay 5 = .ok (.ifCond .ne 5, 3) := by decide +kernel
theorem dX3_pay_8 : decode cX3_pay 8 = .ok (.iconst (-1), 1) := by decide +kernel
theorem dX3_pay_9 : decode cX3_pay 9 = .ok (.ireturn, 1) := by decide +kernel
theorem dX3_pay_10 : decode cX3_pay 10 = .ok (.iload_n 2, 1) := by decide +kernel
theorem dX3_pay_11 : decode cX3_pay 11 = .ok (.iconst 1, 1) := by decide +kernel
theorem dX3_pay_12 : decode cX3_pay 12 = .ok (.ldc 34, 2) := by decide +kernel
theorem dX3_pay_14 : decode cX3_pay 14 = .ok (.invokestatic 35, 3) := by decide +kernel
theorem dX3_pay_17 : decode cX3_pay 17 = .ok (.ifCond .eq 6, 3) := by decide +kernel
theorem dX3_pay_20 : decode cX3_pay 20 = .ok (.bipush (-2), 2) := by decide +kernel
theorem dX3_pay_22 : decode cX3_pay 22 = .ok (.ireturn, 1) := by decide +kernel
theorem dX3_pay_23 : decode cX3_pay 23 = .ok (.aload_n 0, 1) := by decide +kernel
theorem dX3_pay_24 : decode cX3_pay 24 = .ok (.getfield 68, 3) := by decide +kernel
theorem dX3_pay_27 : decode cX3_pay 27 = .ok (.iload_n 1, 1) := by decide +kernel
theorem dX3_pay_28 : decode cX3_pay 28 = .ok (.invokestatic 49, 3) := by decide +kernel
theorem dX3_pay_31 : decode cX3_pay 31 = .ok (.ifCond .ne 14, 3) := by decide +kernel
theorem dX3_pay_34 : decode cX3_pay 34 = .ok (.aload_n 0, 1) := by decide +kernel
theorem dX3_pay_35 : decode cX3_pay 35 = .ok (.getfield 79, 3) := by decide +kernel
theorem dX3_pay_38 : decode cX3_pay 38 = .ok (.iload_n 1, 1) := by decide +kernel
theorem dX3_pay_39 : decode cX3_pay 39 = .ok (.invokestatic 49, 3) := by decide +kernel
theorem dX3_pay_42 : decode cX3_pay 42 = .ok (.ifCond .eq 6, 3) := by decide +kernel
theorem dX3_pay_45 : decode cX3_pay 45 = .ok (.bipush (-3), 2) := by decide +kernel
theorem dX3_pay_47 : decode cX3_pay 47 = .ok (.ireturn, 1) := by decide +kernel
theorem dX3_pay_48 : decode cX3_pay 48 = .ok (.aload_n 0, 1) := by decide +kernel
theorem dX3_pay_49 : decode cX3_pay 49 = .ok (.invokevirtual 98, 3) := by decide +kernel
theorem dX3_pay_52 : decode cX3_pay 52 = .ok (.getfield 123, 3) := by decide +kernel
theorem dX3_pay_55 : decode cX3_pay 55 = .ok (.aload_n 0, 1) := by decide +kernel
theorem dX3_pay_56 : decode cX3_pay 56 = .ok (.invokevirtual 171, 3) := by decide +kernel
theorem dX3_pay_59 : decode cX3_pay 59 = .ok (.i2l, 1) := by decide +kernel
theorem dX3_pay_60 : decode cX3_pay 60 = .ok (.lneg, 1) := by decide +kernel
theorem dX3_pay_61 : decode cX3_pay 61 = .ok (.iload_n 2, 1) := by decide +kernel
theorem dX3_pay_62 : decode cX3_pay 62 = .ok (.i2l, 1) := by decide +kernel
theorem dX3_pay_63 : decode cX3_pay 63 = .ok (.lsub, 1) := by decide +kernel
theorem dX3_pay_64 : decode cX3_pay 64 = .ok (.invokevirtual 168, 3) := by decide +kernel
theorem dX3_pay_67 : decode cX3_pay 67 = .ok (.getfield 160, 3) := by decide +kernel
theorem dX3_pay_70 : decode cX3_pay 70 = .ok (.lconst 0, 1) := by decide +kernel
theorem dX3_pay_71 : decode cX3_pay 71 = .ok (.lcmp, 1) := by decide +kernel
theorem dX3_pay_72 : decode cX3_pay 72 = .ok (.ifCond .ge 6, 3) := by decide +kernel
theorem dX3_pay_75 : decode cX3_pay 75 = .ok (.bipush (-3), 2) := by decide +kernel
theorem dX3_pay_77 : decode cX3_pay 77 = .ok (.ireturn, 1) := by decide +kernel
theorem dX3_pay_78 : decode cX3_pay 78 = .ok (.aload_n 0, 1) := by decide +kernel
theorem dX3_pay_79 : decode cX3_pay 79 = .ok (.getfield 24, 3) := by decide +kernel
theorem dX3_pay_82 : decode cX3_pay 82 = .ok (.iload_n 1, 1) := by decide +kernel
theorem dX3_pay_83 : decode cX3_pay 83 = .ok (.dup2, 1) := by decide +kernel
theorem dX3_pay_84 : decode cX3_pay 84 = .ok (.iaload, 1) := by decide +kernel
theorem dX3_pay_85 : decode cX3_pay 85 = .ok (.iload_n 2, 1) := by decide +kernel
theorem dX3_pay_86 : decode cX3_pay 86 = .ok (.iadd, 1) := by decide +kernel
theorem dX3_pay_87 : decode cX3_pay 87 = .ok (.iastore, 1) := by decide +kernel
theorem dX3_pay_88 : decode cX3_pay 88 = .ok (.aload_n 0, 1) := by decide +kernel
theorem dX3_pay_89 : decode cX3_pay 89 = .ok (.getfield 24, 3) := by decide +kernel
theorem dX3_pay_92 : decode cX3_pay 92 = .ok (.iload_n 1, 1) := by decide +kernel
theorem dX3_pay_93 : decode cX3_pay 93 = .ok (.iaload, 1) := by decide +kernel
theorem dX3_pay_94 : decode cX3_pay 94 = .ok (.ireturn, 1) := by decide +kernel
theorem dX3_refund_0 : decode cX3_refund 0 = .ok (.aload_n 0, 1) := by decide +kernel
theorem dX3_refund_1 : decode cX3_refund 1 = .ok (.iload_n 1, 1) := by decide +kernel
theorem dX3_refund_2 : decode cX3_refund 2 = .ok (.invokevirtual 57, 3) := by decide +kernel
theorem dX3_refund_5 : decode cX3_refund 5 = .ok (.ifCond .ne 5, 3) := by decide +kernel
theorem dX3_refund_8 : decode cX3_refund 8 = .ok (.iconst (-1), 1) := by decide +kernel
theorem dX3_refund_9 : decode cX3_refund 9 = .ok (.ireturn, 1) := by decide +kernel
theorem dX3_refund_10 : decode cX3_refund 10 = .ok (.aload_n 0, 1) := by decide +kernel
theorem dX3_refund_11 : decode cX3_refund 11 = .ok (.getfield 24, 3) := by decide +kernel
theorem dX3_refund_14 : decode cX3_refund 14 = .ok (.iload_n 1, 1) := by decide +kernel
theorem dX3_refund_15 : decode cX3_refund 15 = .ok (.iaload, 1) := by decide +kernel
theorem dX3_refund_16 : decode cX3_refund 16 = .ok (.ifCond .ne 6, 3) := by decide +kernel
theorem dX3_refund_19 : decode cX3_refund 19 = .ok (.bipush (-3), 2) := by decide +kernel
theorem dX3_refund_21 : decode cX3_refund 21 = .ok (.ireturn, 1) := by decide +kernel
theorem dX3_refund_22 : decode cX3_refund 22 = .ok (.aload_n 0, 1) := by decide +kernel
theorem dX3_refund_23 : decode cX3_refund 23 = .ok (.getfield 24, 3) := by decide +kernel
theorem dX3_refund_26 : decode cX3_refund 26 = .ok (.iload_n 1, 1) := by decide +kernel
theorem dX3_refund_27 : decode cX3_refund 27 = .ok (.iaload, 1) := by decide +kernel
theorem dX3_refund_28 : decode cX3_refund 28 = .ok (.istore_n 2, 1) := by decide +kernel
theorem dX3_refund_29 : decode cX3_refund 29 = .ok (.aload_n 0, 1) := by decide +kernel
theorem dX3_refund_30 : decode cX3_refund 30 = .ok (.getfield 24, 3) := by decide +kernel
theorem dX3_refund_33 : decode cX3_refund 33 = .ok (.iload_n 1, 1) := by decide +kernel
theorem dX3_refund_34 : decode cX3_refund 34 = .ok (.iconst 0, 1) := by decide +kernel
theorem dX3_refund_35 : decode cX3_refund 35 = .ok (.iastore, 1) := by decide +kernel
theorem dX3_refund_36 : decode cX3_refund 36 = .ok (.iload_n 2, 1) := by decide +kernel
theorem dX3_refund_37 : decode cX3_refund 37 = .ok (.ireturn, 1) := by decide +kernel
theorem dX3_fair_0 : decode cX3_fair 0 = .ok (.aload_n 0, 1) := by decide +kernel
theorem dX3_fair_1 : decode cX3_fair 1 = .ok (.iload_n 1, 1) := by decide +kernel
theorem dX3_fair_2 : decode cX3_fair 2 = .ok (.invokevirtual 57, 3) := by decide +kernel
theorem dX3_fair_5 : decode cX3_fair 5 = .ok (.ifCond .eq 12, 3) := by decide +kernel
theorem dX3_fair_8 : decode cX3_fair 8 = .ok (.iload_n 2, 1) := by decide +kernel
theorem dX3_fair_9 : decode cX3_fair 9 = .ok (.iconst 0, 1) := by decide +kernel
theorem dX3_fair_10 : decode cX3_fair 10 = .ok (.iconst 1, 1) := by decide +kernel
theorem dX3_fair_11 : decode cX3_fair 11 = .ok (.invokestatic 35, 3) := by decide +kernel
theorem dX3_fair_14 : decode cX3_fair 14 = .ok (.ifCond .eq 7, 3) := by decide +kernel
theorem dX3_fair_17 : decode cX3_fair 17 = .ok (.ldc2_w 96, 3) := by decide +kernel
theorem dX3_fair_20 : decode cX3_fair 20 = .ok (.lreturn, 1) := by decide +kernel
theorem dX3_fair_21 : decode cX3_fair 21 = .ok (.aload_n 0, 1) := by decide +kernel
theorem dX3_fair_22 : decode cX3_fair 22 = .ok (.invokevirtual 98, 3) := by decide +kernel
theorem dX3_fair_25 : decode cX3_fair 25 = .ok (.astore_n 3, 1) := by decide +kernel
theorem dX3_fair_26 : decode cX3_fair 26 = .ok (.aload_n 0, 1) := by decide +kernel
theorem dX3_fair_27 : decode cX3_fair 27 = .ok (.iload_n 1, 1) := by decide +kernel
theorem dX3_fair_28 : decode cX3_fair 28 = .ok (.aload_n 3, 1) := by decide +kernel
theorem dX3_fair_29 : decode cX3_fair 29 = .ok (.invokevirtual 174, 3) := by decide +kernel
theorem dX3_fair_32 : decode cX3_fair 32 = .ok (.aload_n 3, 1) := by decide +kernel
theorem dX3_fair_33 : decode cX3_fair 33 = .ok (.getfield 178, 3) := by decide +kernel
theorem dX3_fair_36 : decode cX3_fair 36 = .ok (.invokestatic 134, 3) := by decide +kernel
theorem dX3_fair_39 : decode cX3_fair 39 = .ok (.iload_n 2, 1) := by decide +kernel
theorem dX3_fair_40 : decode cX3_fair 40 = .ok (.invokevirtual 108, 3) := by decide +kernel
theorem dX3_fair_43 : decode cX3_fair 43 = .ok (.lreturn, 1) := by decide +kernel
theorem dX3_over_0 : decode cX3_over 0 = .ok (.aload_n 0, 1) := by decide +kernel
theorem dX3_over_1 : decode cX3_over 1 = .ok (.iload_n 1, 1) := by decide +kernel
theorem dX3_over_2 : decode cX3_over 2 = .ok (.invokevirtual 57, 3) := by decide +kernel
theorem dX3_over_5 : decode cX3_over 5 = .ok (.ifCond .eq 12, 3) := by decide +kernel
theorem dX3_over_8 : decode cX3_over 8 = .ok (.iload_n 2, 1) := by decide +kernel
theorem dX3_over_9 : decode cX3_over 9 = .ok (.iconst 0, 1) := by decide +kernel
theorem dX3_over_10 : decode cX3_over 10 = .ok (.iconst 1, 1) := by decide +kernel
theorem dX3_over_11 : decode cX3_over 11 = .ok (.invokestatic 35, 3) := by decide +kernel
theorem dX3_over_14 : decode cX3_over 14 = .ok (.ifCond .eq 7, 3) := by decide +kernel
theorem dX3_over_17 : decode cX3_over 17 = .ok (.ldc2_w 96, 3) := by decide +kernel
theorem dX3_over_20 : decode cX3_over 20 = .ok (.lreturn, 1) := by decide +kernel
theorem dX3_over_21 : decode cX3_over 21 = .ok (.aload_n 0, 1) := by decide +kernel
theorem dX3_over_22 : decode cX3_over 22 = .ok (.invokevirtual 98, 3) := by decide +kernel
theorem dX3_over_25 : decode cX3_over 25 = .ok (.astore_n 3, 1) := by decide +kernel
theorem dX3_over_26 : decode cX3_over 26 = .ok (.aload_n 0, 1) := by decide +kernel
theorem dX3_over_27 : decode cX3_over 27 = .ok (.iload_n 1, 1) := by decide +kernel
theorem dX3_over_28 : decode cX3_over 28 = .ok (.aload_n 3, 1) := by decide +kernel
theorem dX3_over_29 : decode cX3_over 29 = .ok (.invokevirtual 181, 3) := by decide +kernel
theorem dX3_over_32 : decode cX3_over 32 = .ok (.aload_n 3, 1) := by decide +kernel
theorem dX3_over_33 : decode cX3_over 33 = .ok (.getfield 178, 3) := by decide +kernel
theorem dX3_over_36 : decode cX3_over 36 = .ok (.invokestatic 134, 3) := by decide +kernel
theorem dX3_over_39 : decode cX3_over 39 = .ok (.iload_n 2, 1) := by decide +kernel
theorem dX3_over_40 : decode cX3_over 40 = .ok (.invokevirtual 108, 3) := by decide +kernel
theorem dX3_over_43 : decode cX3_over 43 = .ok (.lreturn, 1) := by decide +kernel
theorem dX3_transfers_0 : decode cX3_transfers 0 = .ok (.aload_n 0, 1) := by decide +kernel
theorem dX3_transfers_1 : decode cX3_transfers 1 = .ok (.aload_n 0, 1) := by decide +kernel
theorem dX3_transfers_2 : decode cX3_transfers 2 = .ok (.invokevirtual 98, 3) := by decide +kernel
theorem dX3_transfers_5 : decode cX3_transfers 5 = .ok (.invokevirtual 184, 3) := by decide +kernel
theorem dX3_transfers_8 : decode cX3_transfers 8 = .ok (.aload_n 0, 1) := by decide +kernel
theorem dX3_transfers_9 : decode cX3_transfers 9 = .ok (.getfield 30, 3) := by decide +kernel
theorem dX3_transfers_12 : decode cX3_transfers 12 = .ok (.getfield 188, 3) := by decide +kernel
theorem dX3_transfers_15 : decode cX3_transfers 15 = .ok (.ireturn, 1) := by decide +kernel
theorem dX3_transfer_0 : decode cX3_transfer 0 = .ok (.iload_n 1, 1) := by decide +kernel
theorem dX3_transfer_1 : decode cX3_transfer 1 = .ok (.ifCond .lt 12, 3) := by decide +kernel
theorem dX3_transfer_4 : decode cX3_transfer 4 = .ok (.iload_n 2, 1) := by decide +kernel
theorem dX3_transfer_5 : decode cX3_transfer 5 = .ok (.iconst 0, 1) := by decide +kernel
theorem dX3_transfer_6 : decode cX3_transfer 6 = .ok (.iconst 1, 1) := by decide +kernel
theorem dX3_transfer_7 : decode cX3_transfer 7 = .ok (.invokestatic 35, 3) := by decide +kernel
theorem dX3_transfer_10 : decode cX3_transfer 10 = .ok (.ifCond .eq 6, 3) := by decide +kernel
theorem dX3_transfer_13 : decode cX3_transfer 13 = .ok (.bipush (-2), 2) := by decide +kernel
theorem dX3_transfer_15 : decode cX3_transfer 15 = .ok (.ireturn, 1) := by decide +kernel
theorem dX3_transfer_16 : decode cX3_transfer 16 = .ok (.aload_n 0, 1) := by decide +kernel
theorem dX3_transfer_17 : decode cX3_transfer 17 = .ok (.aload_n 0, 1) := by decide +kernel
theorem dX3_transfer_18 : decode cX3_transfer 18 = .ok (.invokevirtual 98, 3) := by decide +kernel
theorem dX3_transfer_21 : decode cX3_transfer 21 = .ok (.invokevirtual 184, 3) := by decide +kernel
theorem dX3_transfer_24 : decode cX3_transfer 24 = .ok (.aload_n 0, 1) := by decide +kernel
theorem dX3_transfer_25 : decode cX3_transfer 25 = .ok (.getfield 30, 3) := by decide +kernel
theorem dX3_transfer_28 : decode cX3_transfer 28 = .ok (.iload_n 1, 1) := by decide +kernel
theorem dX3_transfer_29 : decode cX3_transfer 29 = .ok (.invokevirtual 191, 3) := by decide +kernel
theorem dX3_transfer_32 : decode cX3_transfer 32 = .ok (.ifCond .ne 6, 3) := by decide +kernel
theorem dX3_transfer_35 : decode cX3_transfer 35 = .ok (.bipush (-9), 2) := by decide +kernel
theorem dX3_transfer_37 : decode cX3_transfer 37 = .ok (.ireturn, 1) := by decide +kernel
theorem dX3_transfer_38 : decode cX3_transfer 38 = .ok (.iload_n 2, 1) := by decide +kernel
theorem dX3_transfer_39 : decode cX3_transfer 39 = .ok (.ifCond .ne 15, 3) := by decide +kernel
theorem dX3_transfer_42 : decode cX3_transfer 42 = .ok (.aload_n 0, 1) := by decide +kernel
theorem dX3_transfer_43 : decode cX3_transfer 43 = .ok (.getfield 30, 3) := by decide +kernel
theorem dX3_transfer_46 : decode cX3_transfer 46 = .ok (.getfield 194, 3) := by decide +kernel
theorem dX3_transfer_49 : decode cX3_transfer 49 = .ok (.iload_n 1, 1) := by decide +kernel
theorem dX3_transfer_50 : decode cX3_transfer 50 = .ok (.iaload, 1) := by decide +kernel
theorem dX3_transfer_51 : decode cX3_transfer 51 = .ok (.goto 12, 3) := by decide +kernel
theorem dX3_transfer_54 : decode cX3_transfer 54 = .ok (.aload_n 0, 1) := by decide +kernel
theorem dX3_transfer_55 : decode cX3_transfer 55 = .ok (.getfield 30, 3) := by decide +kernel
theorem dX3_transfer_58 : decode cX3_transfer 58 = .ok (.getfield 197, 3) := by decide +kernel
theorem dX3_transfer_61 : decode cX3_transfer 61 = .ok (.iload_n 1, 1) := by decide +kernel
theorem dX3_transfer_62 : decode cX3_transfer 62 = .ok (.iaload, 1) := by decide +kernel
theorem dX3_transfer_63 : decode cX3_transfer 63 = .ok (.ireturn, 1) := by decide +kernel
theorem dX3_given_0 : decode cX3_given 0 = .ok (.iload_n 1, 1) := by decide +kernel
theorem dX3_given_1 : decode cX3_given 1 = .ok (.ifCond .lt 12, 3) := by decide +kernel
theorem dX3_given_4 : decode cX3_given 4 = .ok (.iload_n 2, 1) := by decide +kernel
theorem dX3_given_5 : decode cX3_given 5 = .ok (.iconst 0, 1) := by decide +kernel
theorem dX3_given_6 : decode cX3_given 6 = .ok (.iconst 1, 1) := by decide +kernel
theorem dX3_given_7 : decode cX3_given 7 = .ok (.invokestatic 35, 3) := by decide +kernel
theorem dX3_given_10 : decode cX3_given 10 = .ok (.ifCond .eq 7, 3) := by decide +kernel
theorem dX3_given_13 : decode cX3_given 13 = .ok (.ldc2_w 96, 3) := by decide +kernel
theorem dX3_given_16 : decode cX3_given 16 = .ok (.lreturn, 1) := by decide +kernel
theorem dX3_given_17 : decode cX3_given 17 = .ok (.aload_n 0, 1) := by decide +kernel
theorem dX3_given_18 : decode cX3_given 18 = .ok (.invokevirtual 98, 3) := by decide +kernel
theorem dX3_given_21 : decode cX3_given 21 = .ok (.astore_n 3, 1) := by decide +kernel
theorem dX3_given_22 : decode cX3_given 22 = .ok (.aload_n 0, 1) := by decide +kernel
theorem dX3_given_23 : decode cX3_given 23 = .ok (.aload_n 3, 1) := by decide +kernel
theorem dX3_given_24 : decode cX3_given 24 = .ok (.invokevirtual 184, 3) := by decide +kernel
theorem dX3_given_27 : decode cX3_given 27 = .ok (.aload_n 0, 1) := by decide +kernel
theorem dX3_given_28 : decode cX3_given 28 = .ok (.getfield 30, 3) := by decide +kernel
theorem dX3_given_31 : decode cX3_given 31 = .ok (.iload_n 1, 1) := by decide +kernel
theorem dX3_given_32 : decode cX3_given 32 = .ok (.invokevirtual 191, 3) := by decide +kernel
theorem dX3_given_35 : decode cX3_given 35 = .ok (.ifCond .ne 7, 3) := by decide +kernel
theorem dX3_given_38 : decode cX3_given 38 = .ok (.ldc2_w 96, 3) := by decide +kernel
theorem dX3_given_41 : decode cX3_given 41 = .ok (.lreturn, 1) := by decide +kernel
theorem dX3_given_42 : decode cX3_given 42 = .ok (.aload_n 0, 1) := by decide +kernel
theorem dX3_given_43 : decode cX3_given 43 = .ok (.getfield 30, 3) := by decide +kernel
theorem dX3_given_46 : decode cX3_given 46 = .ok (.getfield 200, 3) := by decide +kernel
theorem dX3_given_49 : decode cX3_given 49 = .ok (.iload_n 1, 1) := by decide +kernel
theorem dX3_given_50 : decode cX3_given 50 = .ok (.laload, 1) := by decide +kernel
theorem dX3_given_51 : decode cX3_given 51 = .ok (.aload_n 3, 1) := by decide +kernel
theorem dX3_given_52 : decode cX3_given 52 = .ok (.getfield 178, 3) := by decide +kernel
theorem dX3_given_55 : decode cX3_given 55 = .ok (.invokestatic 134, 3) := by decide +kernel
theorem dX3_given_58 : decode cX3_given 58 = .ok (.iload_n 2, 1) := by decide +kernel
theorem dX3_given_59 : decode cX3_given 59 = .ok (.invokevirtual 108, 3) := by decide +kernel
theorem dX3_given_62 : decode cX3_given 62 = .ok (.lreturn, 1) := by decide +kernel
theorem dX3_many_0 : decode cX3_many 0 = .ok (.iload_n 1, 1) := by decide +kernel
theorem dX3_many_1 : decode cX3_many 1 = .ok (.tableswitch 99 0 5 #[39, 47, 55, 68, 89, 94], 39) := by decide +kernel
theorem dX3_many_40 : decode cX3_many 40 = .ok (.aload_n 0, 1) := by decide +kernel
theorem dX3_many_41 : decode cX3_many 41 = .ok (.getfield 46, 3) := by decide +kernel
theorem dX3_many_44 : decode cX3_many 44 = .ok (.invokestatic 71, 3) := by decide +kernel
theorem dX3_many_47 : decode cX3_many 47 = .ok (.ireturn, 1) := by decide +kernel
theorem dX3_many_48 : decode cX3_many 48 = .ok (.aload_n 0, 1) := by decide +kernel
theorem dX3_many_49 : decode cX3_many 49 = .ok (.invokevirtual 204, 3) := by decide +kernel
theorem dX3_many_52 : decode cX3_many 52 = .ok (.invokestatic 71, 3) := by decide +kernel
theorem dX3_many_55 : decode cX3_many 55 = .ok (.ireturn, 1) := by decide +kernel
theorem dX3_many_56 : decode cX3_many 56 = .ok (.aload_n 0, 1) := by decide +kernel
theorem dX3_many_57 : decode cX3_many 57 = .ok (.invokevirtual 204, 3) := by decide +kernel
theorem dX3_many_60 : decode cX3_many 60 = .ok (.aload_n 0, 1) := by decide +kernel
theorem dX3_many_61 : decode cX3_many 61 = .ok (.getfield 79, 3) := by decide +kernel
theorem dX3_many_64 : decode cX3_many 64 = .ok (.iand, 1) := by decide +kernel
theorem dX3_many_65 : decode cX3_many 65 = .ok (.invokestatic 71, 3) := by decide +kernel
theorem dX3_many_68 : decode cX3_many 68 = .ok (.ireturn, 1) := by decide +kernel
theorem dX3_many_69 : decode cX3_many 69 = .ok (.aload_n 0, 1) := by decide +kernel
theorem dX3_many_70 : decode cX3_many 70 = .ok (.invokevirtual 204, 3) := by decide +kernel
theorem dX3_many_73 : decode cX3_many 73 = .ok (.aload_n 0, 1) := by decide +kernel
theorem dX3_many_74 : decode cX3_many 74 = .ok (.aload_n 0, 1) := by decide +kernel
theorem dX3_many_75 : decode cX3_many 75 = .ok (.getfield 79, 3) := by decide +kernel
theorem dX3_many_78 : decode cX3_many 78 = .ok (.aload_n 0, 1) := by decide +kernel
theorem dX3_many_79 : decode cX3_many 79 = .ok (.getfield 68, 3) := by decide +kernel
theorem dX3_many_82 : decode cX3_many 82 = .ok (.invokevirtual 207, 3) := by decide +kernel
theorem dX3_many_85 : decode cX3_many 85 = .ok (.iand, 1) := by decide +kernel
theorem dX3_many_86 : decode cX3_many 86 = .ok (.invokestatic 71, 3) := by decide +kernel
theorem dX3_many_89 : decode cX3_many 89 = .ok (.ireturn, 1) := by decide +kernel
theorem dX3_many_90 : decode cX3_many 90 = .ok (.aload_n 0, 1) := by decide +kernel
theorem dX3_many_91 : decode cX3_many 91 = .ok (.invokevirtual 210, 3) := by decide +kernel
theorem dX3_many_94 : decode cX3_many 94 = .ok (.ireturn, 1) := by decide +kernel
theorem dX3_many_95 : decode cX3_many 95 = .ok (.aload_n 0, 1) := by decide +kernel
theorem dX3_many_96 : decode cX3_many 96 = .ok (.invokevirtual 171, 3) := by decide +kernel
theorem dX3_many_99 : decode cX3_many 99 = .ok (.ireturn, 1) := by decide +kernel
theorem dX3_many_100 : decode cX3_many 100 = .ok (.bipush (-2), 2) := by decide +kernel
theorem dX3_many_102 : decode cX3_many 102 = .ok (.ireturn, 1) := by decide +kernel
theorem dX3_isOutside_0 : decode cX3_isOutside 0 = .ok (.iload_n 0, 1) := by decide +kernel
theorem dX3_isOutside_1 : decode cX3_isOutside 1 = .ok (.iload_n 1, 1) := by decide +kernel
theorem dX3_isOutside_2 : decode cX3_isOutside 2 = .ok (.if_icmp .lt 8, 3) := by decide +kernel
theorem dX3_isOutside_5 : decode cX3_isOutside 5 = .ok (.iload_n 0, 1) := by decide +kernel
theorem dX3_isOutside_6 : decode cX3_isOutside 6 = .ok (.iload_n 2, 1) := by decide +kernel
theorem dX3_isOutside_7 : decode cX3_isOutside 7 = .ok (.if_icmp .le 7, 3) := by decide +kernel
theorem dX3_isOutside_10 : decode cX3_isOutside 10 = .ok (.iconst 1, 1) := by decide +kernel
theorem dX3_isOutside_11 : decode cX3_isOutside 11 = .ok (.goto 4, 3) := by decide +kernel
theorem dX3_isOutside_14 : decode cX3_isOutside 14 = .ok (.iconst 0, 1) := by decide +kernel
theorem dX3_isOutside_15 : decode cX3_isOutside 15 = .ok (.ireturn, 1) := by decide +kernel
theorem dX3_bit_0 : decode cX3_bit 0 = .ok (.iconst 1, 1) := by decide +kernel
theorem dX3_bit_1 : decode cX3_bit 1 = .ok (.iload_n 0, 1) := by decide +kernel
theorem dX3_bit_2 : decode cX3_bit 2 = .ok (.ishl, 1) := by decide +kernel
theorem dX3_bit_3 : decode cX3_bit 3 = .ok (.ireturn, 1) := by decide +kernel
theorem dX3_has_0 : decode cX3_has 0 = .ok (.iload_n 0, 1) := by decide +kernel
theorem dX3_has_1 : decode cX3_has 1 = .ok (.iload_n 1, 1) := by decide +kernel
theorem dX3_has_2 : decode cX3_has 2 = .ok (.ishr, 1) := by decide +kernel
theorem dX3_has_3 : decode cX3_has 3 = .ok (.iconst 1, 1) := by decide +kernel
theorem dX3_has_4 : decode cX3_has 4 = .ok (.iand, 1) := by decide +kernel
theorem dX3_has_5 : decode cX3_has 5 = .ok (.ifCond .eq 7, 3) := by decide +kernel
theorem dX3_has_8 : decode cX3_has 8 = .ok (.iconst 1, 1) := by decide +kernel
theorem dX3_has_9 : decode cX3_has 9 = .ok (.goto 4, 3) := by decide +kernel
theorem dX3_has_12 : decode cX3_has 12 = .ok (.iconst 0, 1) := by decide +kernel
theorem dX3_has_13 : decode cX3_has 13 = .ok (.ireturn, 1) := by decide +kernel
theorem dX3_firstOf_0 : decode cX3_firstOf 0 = .ok (.iconst 0, 1) := by decide +kernel
theorem dX3_firstOf_1 : decode cX3_firstOf 1 = .ok (.istore_n 1, 1) := by decide +kernel
theorem dX3_firstOf_2 : decode cX3_firstOf 2 = .ok (.iload_n 1, 1) := by decide +kernel
theorem dX3_firstOf_3 : decode cX3_firstOf 3 = .ok (.bipush 6, 2) := by decide +kernel
theorem dX3_firstOf_5 : decode cX3_firstOf 5 = .ok (.if_icmp .ge 19, 3) := by decide +kernel
theorem dX3_firstOf_8 : decode cX3_firstOf 8 = .ok (.iload_n 0, 1) := by decide +kernel
theorem dX3_firstOf_9 : decode cX3_firstOf 9 = .ok (.iload_n 1, 1) := by decide +kernel
theorem dX3_firstOf_10 : decode cX3_firstOf 10 = .ok (.invokestatic 49, 3) := by decide +kernel
theorem dX3_firstOf_13 : decode cX3_firstOf 13 = .ok (.ifCond .eq 5, 3) := by decide +kernel
theorem dX3_firstOf_16 : decode cX3_firstOf 16 = .ok (.iload_n 1, 1) := by decide +kernel
theorem dX3_firstOf_17 : decode cX3_firstOf 17 = .ok (.ireturn, 1) := by decide +kernel
theorem dX3_firstOf_18 : decode cX3_firstOf 18 = .ok (.iinc 1 1, 3) := by decide +kernel
theorem dX3_firstOf_21 : decode cX3_firstOf 21 = .ok (.goto (-19), 3) := by decide +kernel
theorem dX3_firstOf_24 : decode cX3_firstOf 24 = .ok (.bipush (-9), 2) := by decide +kernel
theorem dX3_firstOf_26 : decode cX3_firstOf 26 = .ok (.ireturn, 1) := by decide +kernel
theorem dX3_sumOver_0 : decode cX3_sumOver 0 = .ok (.iconst 0, 1) := by decide +kernel
theorem dX3_sumOver_1 : decode cX3_sumOver 1 = .ok (.istore_n 2, 1) := by decide +kernel
theorem dX3_sumOver_2 : decode cX3_sumOver 2 = .ok (.iconst 0, 1) := by decide +kernel
theorem dX3_sumOver_3 : decode cX3_sumOver 3 = .ok (.istore_n 3, 1) := by decide +kernel
theorem dX3_sumOver_4 : decode cX3_sumOver 4 = .ok (.iload_n 3, 1) := by decide +kernel
theorem dX3_sumOver_5 : decode cX3_sumOver 5 = .ok (.aload_n 1, 1) := by decide +kernel
theorem dX3_sumOver_6 : decode cX3_sumOver 6 = .ok (.arraylength, 1) := by decide +kernel
theorem dX3_sumOver_7 : decode cX3_sumOver 7 = .ok (.if_icmp .ge 23, 3) := by decide +kernel
theorem dX3_sumOver_10 : decode cX3_sumOver 10 = .ok (.iload_n 0, 1) := by decide +kernel
theorem dX3_sumOver_11 : decode cX3_sumOver 11 = .ok (.iload_n 3, 1) := by decide +kernel
theorem dX3_sumOver_12 : decode cX3_sumOver 12 = .ok (.invokestatic 49, 3) := by decide +kernel
theorem dX3_sumOver_15 : decode cX3_sumOver 15 = .ok (.ifCond .eq 9, 3) := by decide +kernel
theorem dX3_sumOver_18 : decode cX3_sumOver 18 = .ok (.iload_n 2, 1) := by decide +kernel
theorem dX3_sumOver_19 : decode cX3_sumOver 19 = .ok (.aload_n 1, 1) := by decide +kernel
theorem dX3_sumOver_20 : decode cX3_sumOver 20 = .ok (.iload_n 3, 1) := by decide +kernel
theorem dX3_sumOver_21 : decode cX3_sumOver 21 = .ok (.iaload, 1) := by decide +kernel
theorem dX3_sumOver_22 : decode cX3_sumOver 22 = .ok (.iadd, 1) := by decide +kernel
theorem dX3_sumOver_23 : decode cX3_sumOver 23 = .ok (.istore_n 2, 1) := by decide +kernel
theorem dX3_sumOver_24 : decode cX3_sumOver 24 = .ok (.iinc 3 1, 3) := by decide +kernel
theorem dX3_sumOver_27 : decode cX3_sumOver 27 = .ok (.goto (-23), 3) := by decide +kernel
theorem dX3_sumOver_30 : decode cX3_sumOver 30 = .ok (.iload_n 2, 1) := by decide +kernel
theorem dX3_sumOver_31 : decode cX3_sumOver 31 = .ok (.ireturn, 1) := by decide +kernel
theorem dX3_isKnown_0 : decode cX3_isKnown 0 = .ok (.iload_n 1, 1) := by decide +kernel
theorem dX3_isKnown_1 : decode cX3_isKnown 1 = .ok (.ifCond .lt 24, 3) := by decide +kernel
theorem dX3_isKnown_4 : decode cX3_isKnown 4 = .ok (.iload_n 1, 1) := by decide +kernel
theorem dX3_isKnown_5 : decode cX3_isKnown 5 = .ok (.bipush 6, 2) := by decide +kernel
theorem dX3_isKnown_7 : decode cX3_isKnown 7 = .ok (.if_icmp .ge 18, 3) := by decide +kernel
theorem dX3_isKnown_10 : decode cX3_isKnown 10 = .ok (.aload_n 0, 1) := by decide +kernel
theorem dX3_isKnown_11 : decode cX3_isKnown 11 = .ok (.getfield 46, 3) := by decide +kernel
theorem dX3_isKnown_14 : decode cX3_isKnown 14 = .ok (.iload_n 1, 1) := by decide +kernel
theorem dX3_isKnown_15 : decode cX3_isKnown 15 = .ok (.invokestatic 49, 3) := by decide +kernel
theorem dX3_isKnown_18 : decode cX3_isKnown 18 = .ok (.ifCond .eq 7, 3) := by decide +kernel
theorem dX3_isKnown_21 : decode cX3_isKnown 21 = .ok (.iconst 1, 1) := by decide +kernel
theorem dX3_isKnown_22 : decode cX3_isKnown 22 = .ok (.goto 4, 3) := by decide +kernel
theorem dX3_isKnown_25 : decode cX3_isKnown 25 = .ok (.iconst 0, 1) := by decide +kernel
theorem dX3_isKnown_26 : decode cX3_isKnown 26 = .ok (.ireturn, 1) := by decide +kernel
theorem dX3_isPaired_0 : decode cX3_isPaired 0 = .ok (.aload_n 0, 1) := by decide +kernel
theorem dX3_isPaired_1 : decode cX3_isPaired 1 = .ok (.getfield 18, 3) := by decide +kernel
theorem dX3_isPaired_4 : decode cX3_isPaired 4 = .ok (.iload_n 1, 1) := by decide +kernel
theorem dX3_isPaired_5 : decode cX3_isPaired 5 = .ok (.iaload, 1) := by decide +kernel
theorem dX3_isPaired_6 : decode cX3_isPaired 6 = .ok (.iload_n 1, 1) := by decide +kernel
theorem dX3_isPaired_7 : decode cX3_isPaired 7 = .ok (.invokestatic 53, 3) := by decide +kernel
theorem dX3_isPaired_10 : decode cX3_isPaired 10 = .ok (.if_icmp .eq 7, 3) := by decide +kernel
theorem dX3_isPaired_13 : decode cX3_isPaired 13 = .ok (.iconst 1, 1) := by decide +kernel
theorem dX3_isPaired_14 : decode cX3_isPaired 14 = .ok (.goto 4, 3) := by decide +kernel
theorem dX3_isPaired_17 : decode cX3_isPaired 17 = .ok (.iconst 0, 1) := by decide +kernel
theorem dX3_isPaired_18 : decode cX3_isPaired 18 = .ok (.ireturn, 1) := by decide +kernel
theorem dX3_fillUnit_0 : decode cX3_fillUnit 0 = .ok (.aload_n 0, 1) := by decide +kernel
theorem dX3_fillUnit_1 : decode cX3_fillUnit 1 = .ok (.getfield 18, 3) := by decide +kernel
theorem dX3_fillUnit_4 : decode cX3_fillUnit 4 = .ok (.iload_n 1, 1) := by decide +kernel
theorem dX3_fillUnit_5 : decode cX3_fillUnit 5 = .ok (.iaload, 1) := by decide +kernel
theorem dX3_fillUnit_6 : decode cX3_fillUnit 6 = .ok (.istore_n 3, 1) := by decide +kernel
theorem dX3_fillUnit_7 : decode cX3_fillUnit 7 = .ok (.iconst 0, 1) := by decide +kernel
theorem dX3_fillUnit_8 : decode cX3_fillUnit 8 = .ok (.istore 4, 2) := by decide +kernel
theorem dX3_fillUnit_10 : decode cX3_fillUnit 10 = .ok (.iload 4, 2) := by decide +kernel
theorem dX3_fillUnit_12 : decode cX3_fillUnit 12 = .ok (.bipush 6, 2) := by decide +kernel
theorem dX3_fillUnit_14 : decode cX3_fillUnit 14 = .ok (.if_icmp .ge 26, 3) := by decide +kernel
theorem dX3_fillUnit_17 : decode cX3_fillUnit 17 = .ok (.iload_n 3, 1) := by decide +kernel
theorem dX3_fillUnit_18 : decode cX3_fillUnit 18 = .ok (.iload 4, 2) := by decide +kernel
theorem dX3_fillUnit_20 : decode cX3_fillUnit 20 = .ok (.invokestatic 49, 3) := by decide +kernel
theorem dX3_fillUnit_23 : decode cX3_fillUnit 23 = .ok (.ifCond .eq 11, 3) := by decide +kernel
theorem dX3_fillUnit_26 : decode cX3_fillUnit 26 = .ok (.aload_n 0, 1) := by decide +kernel
theorem dX3_fillUnit_27 : decode cX3_fillUnit 27 = .ok (.getfield 21, 3) := by decide +kernel
theorem dX3_fillUnit_30 : decode cX3_fillUnit 30 = .ok (.iload 4, 2) := by decide +kernel
theorem dX3_fillUnit_32 : decode cX3_fillUnit 32 = .ok (.iload_n 2, 1) := by decide +kernel
theorem dX3_fillUnit_33 : decode cX3_fillUnit 33 = .ok (.iastore, 1) := by decide +kernel
theorem dX3_fillUnit_34 : decode cX3_fillUnit 34 = .ok (.iinc 4 1, 3) := by decide +kernel
theorem dX3_fillUnit_37 : decode cX3_fillUnit 37 = .ok (.goto (-27), 3) := by decide +kernel
theorem dX3_fillUnit_40 : decode cX3_fillUnit 40 = .ok (.return_, 1) := by decide +kernel
theorem dX3_openUnit_0 : decode cX3_openUnit 0 = .ok (.aload_n 0, 1) := by decide +kernel
theorem dX3_openUnit_1 : decode cX3_openUnit 1 = .ok (.dup, 1) := by decide +kernel
theorem dX3_openUnit_2 : decode cX3_openUnit 2 = .ok (.getfield 79, 3) := by decide +kernel
theorem dX3_openUnit_5 : decode cX3_openUnit 5 = .ok (.aload_n 0, 1) := by decide +kernel
theorem dX3_openUnit_6 : decode cX3_openUnit 6 = .ok (.getfield 18, 3) := by decide +kernel
theorem dX3_openUnit_9 : decode cX3_openUnit 9 = .ok (.iload_n 1, 1) := by decide +kernel
theorem dX3_openUnit_10 : decode cX3_openUnit 10 = .ok (.iaload, 1) := by decide +kernel
theorem dX3_openUnit_11 : decode cX3_openUnit 11 = .ok (.iconst (-1), 1) := by decide +kernel
theorem dX3_openUnit_12 : decode cX3_openUnit 12 = .ok (.ixor, 1) := by decide +kernel
theorem dX3_openUnit_13 : decode cX3_openUnit 13 = .ok (.iand, 1) := by decide +kernel
theorem dX3_openUnit_14 : decode cX3_openUnit 14 = .ok (.putfield 79, 3) := by decide +kernel
theorem dX3_openUnit_17 : decode cX3_openUnit 17 = .ok (.aload_n 0, 1) := by decide +kernel
theorem dX3_openUnit_18 : decode cX3_openUnit 18 = .ok (.iload_n 1, 1) := by decide +kernel
theorem dX3_openUnit_19 : decode cX3_openUnit 19 = .ok (.iconst 0, 1) := by decide +kernel
theorem dX3_openUnit_20 : decode cX3_openUnit 20 = .ok (.invokevirtual 86, 3) := by decide +kernel
theorem dX3_openUnit_23 : decode cX3_openUnit 23 = .ok (.return_, 1) := by decide +kernel
theorem dX3_partUnit_0 : decode cX3_partUnit 0 = .ok (.aload_n 0, 1) := by decide +kernel
theorem dX3_partUnit_1 : decode cX3_partUnit 1 = .ok (.getfield 18, 3) := by decide +kernel
theorem dX3_partUnit_4 : decode cX3_partUnit 4 = .ok (.iload_n 1, 1) := by decide +kernel
theorem dX3_partUnit_5 : decode cX3_partUnit 5 = .ok (.iaload, 1) := by decide +kernel
theorem dX3_partUnit_6 : decode cX3_partUnit 6 = .ok (.istore_n 2, 1) := by decide +kernel
theorem dX3_partUnit_7 : decode cX3_partUnit 7 = .ok (.iconst 0, 1) := by decide +kernel
theorem dX3_partUnit_8 : decode cX3_partUnit 8 = .ok (.istore_n 3, 1) := by decide +kernel
theorem dX3_partUnit_9 : decode cX3_partUnit 9 = .ok (.iload_n 3, 1) := by decide +kernel
theorem dX3_partUnit_10 : decode cX3_partUnit 10 = .ok (.bipush 6, 2) := by decide +kernel
theorem dX3_partUnit_12 : decode cX3_partUnit 12 = .ok (.if_icmp .ge 27, 3) := by decide +kernel
theorem dX3_partUnit_15 : decode cX3_partUnit 15 = .ok (.iload_n 2, 1) := by decide +kernel
theorem dX3_partUnit_16 : decode cX3_partUnit 16 = .ok (.iload_n 3, 1) := by decide +kernel
theorem dX3_partUnit_17 : decode cX3_partUnit 17 = .ok (.invokestatic 49, 3) := by decide +kernel
theorem dX3_partUnit_20 : decode cX3_partUnit 20 = .ok (.ifCond .eq 13, 3) := by decide +kernel
theorem dX3_partUnit_23 : decode cX3_partUnit 23 = .ok (.aload_n 0, 1) := by decide +kernel
theorem dX3_partUnit_24 : decode cX3_partUnit 24 = .ok (.getfield 18, 3) := by decide +kernel
theorem dX3_partUnit_27 : decode cX3_partUnit 27 = .ok (.iload_n 3, 1) := by decide +kernel
theorem dX3_partUnit_28 : decode cX3_partUnit 28 = .ok (.iload_n 3, 1) := by decide +kernel
theorem dX3_partUnit_29 : decode cX3_partUnit 29 = .ok (.invokestatic 53, 3) := by decide +kernel
theorem dX3_partUnit_32 : decode cX3_partUnit 32 = .ok (.iastore, 1) := by decide +kernel
theorem dX3_partUnit_33 : decode cX3_partUnit 33 = .ok (.iinc 3 1, 3) := by decide +kernel
theorem dX3_partUnit_36 : decode cX3_partUnit 36 = .ok (.goto (-27), 3) := by decide +kernel
theorem dX3_partUnit_39 : decode cX3_partUnit 39 = .ok (.return_, 1) := by decide +kernel
theorem dX3_unitHeads_0 : decode cX3_unitHeads 0 = .ok (.iconst 0, 1) := by decide +kernel
theorem dX3_unitHeads_1 : decode cX3_unitHeads 1 = .ok (.istore_n 1, 1) := by decide +kernel
theorem dX3_unitHeads_2 : decode cX3_unitHeads 2 = .ok (.iconst 0, 1) := by decide +kernel
theorem dX3_unitHeads_3 : decode cX3_unitHeads 3 = .ok (.istore_n 2, 1) := by decide +kernel
theorem dX3_unitHeads_4 : decode cX3_unitHeads 4 = .ok (.iload_n 2, 1) := by decide +kernel
theorem dX3_unitHeads_5 : decode cX3_unitHeads 5 = .ok (.bipush 6, 2) := by decide +kernel
theorem dX3_unitHeads_7 : decode cX3_unitHeads 7 = .ok (.if_icmp .ge 37, 3) := by decide +kernel
theorem dX3_unitHeads_10 : decode cX3_unitHeads 10 = .ok (.aload_n 0, 1) := by decide +kernel
theorem dX3_unitHeads_11 : decode cX3_unitHeads 11 = .ok (.getfield 46, 3) := by decide +kernel
theorem dX3_unitHeads_14 : decode cX3_unitHeads 14 = .ok (.iload_n 2, 1) := by decide +kernel
theorem dX3_unitHeads_15 : decode cX3_unitHeads 15 = .ok (.invokestatic 49, 3) := by decide +kernel
theorem dX3_unitHeads_18 : decode cX3_unitHeads 18 = .ok (.ifCond .eq 20, 3) := by decide +kernel
theorem dX3_unitHeads_21 : decode cX3_unitHeads 21 = .ok (.iload_n 1, 1) := by decide +kernel
theorem dX3_unitHeads_22 : decode cX3_unitHeads 22 = .ok (.aload_n 0, 1) := by decide +kernel
theorem dX3_unitHeads_23 : decode cX3_unitHeads 23 = .ok (.getfield 18, 3) := by decide +kernel
theorem dX3_unitHeads_26 : decode cX3_unitHeads 26 = .ok (.iload_n 2, 1) := by decide +kernel
theorem dX3_unitHeads_27 : decode cX3_unitHeads 27 = .ok (.iaload, 1) := by decide +kernel
theorem dX3_unitHeads_28 : decode cX3_unitHeads 28 = .ok (.aload_n 0, 1) := by decide +kernel
theorem dX3_unitHeads_29 : decode cX3_unitHeads 29 = .ok (.getfield 18, 3) := by decide +kernel
theorem dX3_unitHeads_32 : decode cX3_unitHeads 32 = .ok (.iload_n 2, 1) := by decide +kernel
theorem dX3_unitHeads_33 : decode cX3_unitHeads 33 = .ok (.iaload, 1) := by decide +kernel
theorem dX3_unitHeads_34 : decode cX3_unitHeads 34 = .ok (.ineg, 1) := by decide +kernel
theorem dX3_unitHeads_35 : decode cX3_unitHeads 35 = .ok (.iand, 1) := by decide +kernel
theorem dX3_unitHeads_36 : decode cX3_unitHeads 36 = .ok (.ior, 1) := by decide +kernel
theorem dX3_unitHeads_37 : decode cX3_unitHeads 37 = .ok (.istore_n 1, 1) := by decide +kernel
theorem dX3_unitHeads_38 : decode cX3_unitHeads 38 = .ok (.iinc 2 1, 3) := by decide +kernel
theorem dX3_unitHeads_41 : decode cX3_unitHeads 41 = .ok (.goto (-37), 3) := by decide +kernel
theorem dX3_unitHeads_44 : decode cX3_unitHeads 44 = .ok (.iload_n 1, 1) := by decide +kernel
theorem dX3_unitHeads_45 : decode cX3_unitHeads 45 = .ok (.ireturn, 1) := by decide +kernel
theorem dX3_openBroke_0 : decode cX3_openBroke 0 = .ok (.iconst 0, 1) := by decide +kernel
theorem dX3_openBroke_1 : decode cX3_openBroke 1 = .ok (.istore_n 3, 1) := by decide +kernel
theorem dX3_openBroke_2 : decode cX3_openBroke 2 = .ok (.iconst 0, 1) := by decide +kernel
theorem dX3_openBroke_3 : decode cX3_openBroke 3 = .ok (.istore 4, 2) := by decide +kernel
theorem dX3_openBroke_5 : decode cX3_openBroke 5 = .ok (.iload 4, 2) := by decide +kernel
theorem dX3_openBroke_7 : decode cX3_openBroke 7 = .ok (.bipush 6, 2) := by decide +kernel
theorem dX3_openBroke_9 : decode cX3_openBroke 9 = .ok (.if_icmp .ge 47, 3) := by decide +kernel
theorem dX3_openBroke_12 : decode cX3_openBroke 12 = .ok (.aload_n 0, 1) := by decide +kernel
theorem dX3_openBroke_13 : decode cX3_openBroke 13 = .ok (.getfield 46, 3) := by decide +kernel
theorem dX3_openBroke_16 : decode cX3_openBroke 16 = .ok (.iload_n 1, 1) := by decide +kernel
theorem dX3_openBroke_17 : decode cX3_openBroke 17 = .ok (.iconst (-1), 1) := by decide +kernel
theorem dX3_openBroke_18 : decode cX3_openBroke 18 = .ok (.ixor, 1) := by decide +kernel
theorem dX3_openBroke_19 : decode cX3_openBroke 19 = .ok (.iand, 1) := by decide +kernel
theorem dX3_openBroke_20 : decode cX3_openBroke 20 = .ok (.iload 4, 2) := by decide +kernel
theorem dX3_openBroke_22 : decode cX3_openBroke 22 = .ok (.invokestatic 49, 3) := by decide +kernel
theorem dX3_openBroke_25 : decode cX3_openBroke 25 = .ok (.ifCond .eq 25, 3) := by decide +kernel
theorem dX3_openBroke_28 : decode cX3_openBroke 28 = .ok (.aload_n 0, 1) := by decide +kernel
theorem dX3_openBroke_29 : decode cX3_openBroke 29 = .ok (.getfield 18, 3) := by decide +kernel
theorem dX3_openBroke_32 : decode cX3_openBroke 32 = .ok (.iload 4, 2) := by decide +kernel
theorem dX3_openBroke_34 : decode cX3_openBroke 34 = .ok (.iaload, 1) := by decide +kernel
theorem dX3_openBroke_35 : decode cX3_openBroke 35 = .ok (.iload_n 2, 1) := by decide +kernel
theorem dX3_openBroke_36 : decode cX3_openBroke 36 = .ok (.iconst (-1), 1) := by decide +kernel
theorem dX3_openBroke_37 : decode cX3_openBroke 37 = .ok (.ixor, 1) := by decide +kernel
theorem dX3_openBroke_38 : decode cX3_openBroke 38 = .ok (.iand, 1) := by decide +kernel
theorem dX3_openBroke_39 : decode cX3_openBroke 39 = .ok (.ifCond .ne 11, 3) := by decide +kernel
theorem dX3_openBroke_42 : decode cX3_openBroke 42 = .ok (.iload_n 3, 1) := by decide +kernel
theorem dX3_openBroke_43 : decode cX3_openBroke 43 = .ok (.iload 4, 2) := by decide +kernel
theorem dX3_openBroke_45 : decode cX3_openBroke 45 = .ok (.invokestatic 53, 3) := by decide +kernel
theorem dX3_openBroke_48 : decode cX3_openBroke 48 = .ok (.ior, 1) := by decide +kernel
theorem dX3_openBroke_49 : decode cX3_openBroke 49 = .ok (.istore_n 3, 1) := by decide +kernel
theorem dX3_openBroke_50 : decode cX3_openBroke 50 = .ok (.iinc 4 1, 3) := by decide +kernel
theorem dX3_openBroke_53 : decode cX3_openBroke 53 = .ok (.goto (-48), 3) := by decide +kernel
theorem dX3_openBroke_56 : decode cX3_openBroke 56 = .ok (.iload_n 3, 1) := by decide +kernel
theorem dX3_openBroke_57 : decode cX3_openBroke 57 = .ok (.ireturn, 1) := by decide +kernel
theorem dX3_blame_0 : decode cX3_blame 0 = .ok (.aload_n 0, 1) := by decide +kernel
theorem dX3_blame_1 : decode cX3_blame 1 = .ok (.getfield 43, 3) := by decide +kernel
theorem dX3_blame_4 : decode cX3_blame 4 = .ok (.aload_n 0, 1) := by decide +kernel
theorem dX3_blame_5 : decode cX3_blame 5 = .ok (.getfield 46, 3) := by decide +kernel
theorem dX3_blame_8 : decode cX3_blame 8 = .ok (.aload_n 0, 1) := by decide +kernel
theorem dX3_blame_9 : decode cX3_blame 9 = .ok (.getfield 15, 3) := by decide +kernel
theorem dX3_blame_12 : decode cX3_blame 12 = .ok (.invokestatic 82, 3) := by decide +kernel
theorem dX3_blame_15 : decode cX3_blame 15 = .ok (.iadd, 1) := by decide +kernel
theorem dX3_blame_16 : decode cX3_blame 16 = .ok (.ireturn, 1) := by decide +kernel
theorem dX3_blameDown_0 : decode cX3_blameDown 0 = .ok (.aload_n 0, 1) := by decide +kernel
theorem dX3_blameDown_1 : decode cX3_blameDown 1 = .ok (.invokevirtual 210, 3) := by decide +kernel
theorem dX3_blameDown_4 : decode cX3_blameDown 4 = .ok (.iconst 1, 1) := by decide +kernel
theorem dX3_blameDown_5 : decode cX3_blameDown 5 = .ok (.invokestatic 213, 3) := by decide +kernel
theorem dX3_blameDown_8 : decode cX3_blameDown 8 = .ok (.ireturn, 1) := by decide +kernel
theorem dX3_entitledUp_0 : decode cX3_entitledUp 0 = .ok (.aload_n 0, 1) := by decide +kernel
theorem dX3_entitledUp_1 : decode cX3_entitledUp 1 = .ok (.invokevirtual 210, 3) := by decide +kernel
theorem dX3_entitledUp_4 : decode cX3_entitledUp 4 = .ok (.istore_n 1, 1) := by decide +kernel
theorem dX3_entitledUp_5 : decode cX3_entitledUp 5 = .ok (.bipush 100, 2) := by decide +kernel
theorem dX3_entitledUp_7 : decode cX3_entitledUp 7 = .ok (.aload_n 0, 1) := by decide +kernel
theorem dX3_entitledUp_8 : decode cX3_entitledUp 8 = .ok (.getfield 43, 3) := by decide +kernel
theorem dX3_entitledUp_11 : decode cX3_entitledUp 11 = .ok (.imul, 1) := by decide +kernel
theorem dX3_entitledUp_12 : decode cX3_entitledUp 12 = .ok (.aload_n 0, 1) := by decide +kernel
theorem dX3_entitledUp_13 : decode cX3_entitledUp 13 = .ok (.getfield 9, 3) := by decide +kernel
theorem dX3_entitledUp_16 : decode cX3_entitledUp 16 = .ok (.iconst 2, 1) := by decide +kernel
theorem dX3_entitledUp_17 : decode cX3_entitledUp 17 = .ok (.iaload, 1) := by decide +kernel
theorem dX3_entitledUp_18 : decode cX3_entitledUp 18 = .ok (.iload_n 1, 1) := by decide +kernel
theorem dX3_entitledUp_19 : decode cX3_entitledUp 19 = .ok (.imul, 1) := by decide +kernel
theorem dX3_entitledUp_20 : decode cX3_entitledUp 20 = .ok (.if_icmp .le 5, 3) := by decide +kernel
theorem dX3_entitledUp_23 : decode cX3_entitledUp 23 = .ok (.lconst 0, 1) := by decide +kernel
theorem dX3_entitledUp_24 : decode cX3_entitledUp 24 = .ok (.lreturn, 1) := by decide +kernel
theorem dX3_entitledUp_25 : decode cX3_entitledUp 25 = .ok (.aload_n 0, 1) := by decide +kernel
theorem dX3_entitledUp_26 : decode cX3_entitledUp 26 = .ok (.getfield 39, 3) := by decide +kernel
theorem dX3_entitledUp_29 : decode cX3_entitledUp 29 = .ok (.i2l, 1) := by decide +kernel
theorem dX3_entitledUp_30 : decode cX3_entitledUp 30 = .ok (.iload_n 1, 1) := by decide +kernel
theorem dX3_entitledUp_31 : decode cX3_entitledUp 31 = .ok (.aload_n 0, 1) := by decide +kernel
theorem dX3_entitledUp_32 : decode cX3_entitledUp 32 = .ok (.getfield 43, 3) := by decide +kernel
theorem dX3_entitledUp_35 : decode cX3_entitledUp 35 = .ok (.isub, 1) := by decide +kernel
theorem dX3_entitledUp_36 : decode cX3_entitledUp 36 = .ok (.i2l, 1) := by decide +kernel
theorem dX3_entitledUp_37 : decode cX3_entitledUp 37 = .ok (.lmul, 1) := by decide +kernel
theorem dX3_entitledUp_38 : decode cX3_entitledUp 38 = .ok (.lreturn, 1) := by decide +kernel
theorem dX3_creditUp_0 : decode cX3_creditUp 0 = .ok (.aload_n 0, 1) := by decide +kernel
theorem dX3_creditUp_1 : decode cX3_creditUp 1 = .ok (.getfield 21, 3) := by decide +kernel
theorem dX3_creditUp_4 : decode cX3_creditUp 4 = .ok (.iload_n 1, 1) := by decide +kernel
theorem dX3_creditUp_5 : decode cX3_creditUp 5 = .ok (.iaload, 1) := by decide +kernel
theorem dX3_creditUp_6 : decode cX3_creditUp 6 = .ok (.i2l, 1) := by decide +kernel
theorem dX3_creditUp_7 : decode cX3_creditUp 7 = .ok (.iload_n 3, 1) := by decide +kernel
theorem dX3_creditUp_8 : decode cX3_creditUp 8 = .ok (.i2l, 1) := by decide +kernel
theorem dX3_creditUp_9 : decode cX3_creditUp 9 = .ok (.lmul, 1) := by decide +kernel
theorem dX3_creditUp_10 : decode cX3_creditUp 10 = .ok (.lstore 4, 2) := by decide +kernel
theorem dX3_creditUp_12 : decode cX3_creditUp 12 = .ok (.aload_n 0, 1) := by decide +kernel
theorem dX3_creditUp_13 : decode cX3_creditUp 13 = .ok (.getfield 39, 3) := by decide +kernel
theorem dX3_creditUp_16 : decode cX3_creditUp 16 = .ok (.i2l, 1) := by decide +kernel
theorem dX3_creditUp_17 : decode cX3_creditUp 17 = .ok (.aload_n 0, 1) := by decide +kernel
theorem dX3_creditUp_18 : decode cX3_creditUp 18 = .ok (.getfield 18, 3) := by decide +kernel
theorem dX3_creditUp_21 : decode cX3_creditUp 21 = .ok (.iload_n 1, 1) := by decide +kernel
theorem dX3_creditUp_22 : decode cX3_creditUp 22 = .ok (.iaload, 1) := by decide +kernel
theorem dX3_creditUp_23 : decode cX3_creditUp 23 = .ok (.aload_n 0, 1) := by decide +kernel
theorem dX3_creditUp_24 : decode cX3_creditUp 24 = .ok (.getfield 15, 3) := by decide +kernel
theorem dX3_creditUp_27 : decode cX3_creditUp 27 = .ok (.invokestatic 82, 3) := by decide +kernel
theorem dX3_creditUp_30 : decode cX3_creditUp 30 = .ok (.i2l, 1) := by decide +kernel
theorem dX3_creditUp_31 : decode cX3_creditUp 31 = .ok (.lmul, 1) := by decide +kernel
theorem dX3_creditUp_32 : decode cX3_creditUp 32 = .ok (.lstore 6, 2) := by decide +kernel
theorem dX3_creditUp_34 : decode cX3_creditUp 34 = .ok (.iload_n 2, 1) := by decide +kernel
theorem dX3_creditUp_35 : decode cX3_creditUp 35 = .ok (.ifCond .ne 6, 3) := by decide +kernel
theorem dX3_creditUp_38 : decode cX3_creditUp 38 = .ok (.lload 4, 2) := by decide +kernel
theorem dX3_creditUp_40 : decode cX3_creditUp 40 = .ok (.lreturn, 1) := by decide +kernel
theorem dX3_creditUp_41 : decode cX3_creditUp 41 = .ok (.iload_n 2, 1) := by decide +kernel
theorem dX3_creditUp_42 : decode cX3_creditUp 42 = .ok (.iconst 1, 1) := by decide +kernel
theorem dX3_creditUp_43 : decode cX3_creditUp 43 = .ok (.if_icmp .ne 8, 3) := by decide +kernel
theorem dX3_creditUp_46 : decode cX3_creditUp 46 = .ok (.lload 6, 2) := by decide +kernel
theorem dX3_creditUp_48 : decode cX3_creditUp 48 = .ok (.goto 10, 3) := by decide +kernel
theorem dX3_creditUp_51 : decode cX3_creditUp 51 = .ok (.lload 4, 2) := by decide +kernel
theorem dX3_creditUp_53 : decode cX3_creditUp 53 = .ok (.lload 6, 2) := by decide +kernel
theorem dX3_creditUp_55 : decode cX3_creditUp 55 = .ok (.invokestatic 218, 3) := by decide +kernel
theorem dX3_creditUp_58 : decode cX3_creditUp 58 = .ok (.lreturn, 1) := by decide +kernel
theorem dX3_creditsUp_0 : decode cX3_creditsUp 0 = .ok (.aload_n 0, 1) := by decide +kernel
theorem dX3_creditsUp_1 : decode cX3_creditsUp 1 = .ok (.invokevirtual 204, 3) := by decide +kernel
theorem dX3_creditsUp_4 : decode cX3_creditsUp 4 = .ok (.iload_n 2, 1) := by decide +kernel
theorem dX3_creditsUp_5 : decode cX3_creditsUp 5 = .ok (.iand, 1) := by decide +kernel
theorem dX3_creditsUp_6 : decode cX3_creditsUp 6 = .ok (.istore 4, 2) := by decide +kernel
theorem dX3_creditsUp_8 : decode cX3_creditsUp 8 = .ok (.lconst 0, 1) := by decide +kernel
theorem dX3_creditsUp_9 : decode cX3_creditsUp 9 = .ok (.lstore 5, 2) := by decide +kernel
theorem dX3_creditsUp_11 : decode cX3_creditsUp 11 = .ok (.iconst 0, 1) := by decide +kernel
theorem dX3_creditsUp_12 : decode cX3_creditsUp 12 = .ok (.istore 7, 2) := by decide +kernel
theorem dX3_creditsUp_14 : decode cX3_creditsUp 14 = .ok (.iload 7, 2) := by decide +kernel
theorem dX3_creditsUp_16 : decode cX3_creditsUp 16 = .ok (.bipush 6, 2) := by decide +kernel
theorem dX3_creditsUp_18 : decode cX3_creditsUp 18 = .ok (.if_icmp .ge 32, 3) := by decide +kernel
theorem dX3_creditsUp_21 : decode cX3_creditsUp 21 = .ok (.iload 4, 2) := by decide +kernel
theorem dX3_creditsUp_23 : decode cX3_creditsUp 23 = .ok (.iload 7, 2) := by decide +kernel
theorem dX3_creditsUp_25 : decode cX3_creditsUp 25 = .ok (.invokestatic 49, 3) := by decide +kernel
theorem dX3_creditsUp_28 : decode cX3_creditsUp 28 = .ok (.ifCond .eq 16, 3) := by decide +kernel
theorem dX3_creditsUp_31 : decode cX3_creditsUp 31 = .ok (.lload 5, 2) := by decide +kernel
theorem dX3_creditsUp_33 : decode cX3_creditsUp 33 = .ok (.aload_n 0, 1) := by decide +kernel
theorem dX3_creditsUp_34 : decode cX3_creditsUp 34 = .ok (.iload 7, 2) := by decide +kernel
theorem dX3_creditsUp_36 : decode cX3_creditsUp 36 = .ok (.iload_n 1, 1) := by decide +kernel
theorem dX3_creditsUp_37 : decode cX3_creditsUp 37 = .ok (.iload_n 3, 1) := by decide +kernel
theorem dX3_creditsUp_38 : decode cX3_creditsUp 38 = .ok (.invokevirtual 130, 3) := by decide +kernel
theorem dX3_creditsUp_41 : decode cX3_creditsUp 41 = .ok (.ladd, 1) := by decide +kernel
theorem dX3_creditsUp_42 : decode cX3_creditsUp 42 = .ok (.lstore 5, 2) := by decide +kernel
theorem dX3_creditsUp_44 : decode cX3_creditsUp 44 = .ok (.iinc 7 1, 3) := by decide +kernel
theorem dX3_creditsUp_47 : decode cX3_creditsUp 47 = .ok (.goto (-33), 3) := by decide +kernel
theorem dX3_creditsUp_50 : decode cX3_creditsUp 50 = .ok (.lload 5, 2) := by decide +kernel
theorem dX3_creditsUp_52 : decode cX3_creditsUp 52 = .ok (.lreturn, 1) := by decide +kernel
theorem dX3_owedNow_0 : decode cX3_owedNow 0 = .ok (.aload_n 0, 1) := by decide +kernel
theorem dX3_owedNow_1 : decode cX3_owedNow 1 = .ok (.aload_n 0, 1) := by decide +kernel
theorem dX3_owedNow_2 : decode cX3_owedNow 2 = .ok (.getfield 9, 3) := by decide +kernel
theorem dX3_owedNow_5 : decode cX3_owedNow 5 = .ok (.iconst 0, 1) := by decide +kernel
theorem dX3_owedNow_6 : decode cX3_owedNow 6 = .ok (.iaload, 1) := by decide +kernel
theorem dX3_owedNow_7 : decode cX3_owedNow 7 = .ok (.aload_n 0, 1) := by decide +kernel
theorem dX3_owedNow_8 : decode cX3_owedNow 8 = .ok (.getfield 9, 3) := by decide +kernel
theorem dX3_owedNow_11 : decode cX3_owedNow 11 = .ok (.iconst 1, 1) := by decide +kernel
theorem dX3_owedNow_12 : decode cX3_owedNow 12 = .ok (.iaload, 1) := by decide +kernel
theorem dX3_owedNow_13 : decode cX3_owedNow 13 = .ok (.aload_n 0, 1) := by decide +kernel
theorem dX3_owedNow_14 : decode cX3_owedNow 14 = .ok (.getfield 79, 3) := by decide +kernel
theorem dX3_owedNow_17 : decode cX3_owedNow 17 = .ok (.aload_n 0, 1) := by decide +kernel
theorem dX3_owedNow_18 : decode cX3_owedNow 18 = .ok (.getfield 68, 3) := by decide +kernel
theorem dX3_owedNow_21 : decode cX3_owedNow 21 = .ok (.invokevirtual 164, 3) := by decide +kernel
theorem dX3_owedNow_24 : decode cX3_owedNow 24 = .ok (.areturn, 1) := by decide +kernel
theorem dX3_owedIf_0 : decode cX3_owedIf 0 = .ok (.aload_n 0, 1) := by decide +kernel
theorem dX3_owedIf_1 : decode cX3_owedIf 1 = .ok (.getfield 46, 3) := by decide +kernel
theorem dX3_owedIf_4 : decode cX3_owedIf 4 = .ok (.iload_n 3, 1) := by decide +kernel
theorem dX3_owedIf_5 : decode cX3_owedIf 5 = .ok (.iconst (-1), 1) := by decide +kernel
theorem dX3_owedIf_6 : decode cX3_owedIf 6 = .ok (.ixor, 1) := by decide +kernel
theorem dX3_owedIf_7 : decode cX3_owedIf 7 = .ok (.iand, 1) := by decide +kernel
theorem dX3_owedIf_8 : decode cX3_owedIf 8 = .ok (.aload_n 0, 1) := by decide +kernel
theorem dX3_owedIf_9 : decode cX3_owedIf 9 = .ok (.getfield 15, 3) := by decide +kernel
theorem dX3_owedIf_12 : decode cX3_owedIf 12 = .ok (.invokestatic 82, 3) := by decide +kernel
theorem dX3_owedIf_15 : decode cX3_owedIf 15 = .ok (.istore 5, 2) := by decide +kernel
theorem dX3_owedIf_17 : decode cX3_owedIf 17 = .ok (.aload_n 0, 1) := by decide +kernel
theorem dX3_owedIf_18 : decode cX3_owedIf 18 = .ok (.iload_n 3, 1) := by decide +kernel
theorem dX3_owedIf_19 : decode cX3_owedIf 19 = .ok (.iload 4, 2) := by decide +kernel
theorem dX3_owedIf_21 : decode cX3_owedIf 21 = .ok (.invokevirtual 207, 3) := by decide +kernel
theorem dX3_owedIf_24 : decode cX3_owedIf 24 = .ok (.aload_n 0, 1) := by decide +kernel
theorem dX3_owedIf_25 : decode cX3_owedIf 25 = .ok (.getfield 15, 3) := by decide +kernel
theorem dX3_owedIf_28 : decode cX3_owedIf 28 = .ok (.invokestatic 82, 3) := by decide +kernel
theorem dX3_owedIf_31 : decode cX3_owedIf 31 = .ok (.istore 6, 2) := by decide +kernel
theorem dX3_owedIf_33 : decode cX3_owedIf 33 = .ok (.iconst 0, 1) := by decide +kernel
theorem dX3_owedIf_34 : decode cX3_owedIf 34 = .ok (.istore 7, 2) := by decide +kernel
theorem dX3_owedIf_36 : decode cX3_owedIf 36 = .ok (.iload_n 2, 1) := by decide +kernel
theorem dX3_owedIf_37 : decode cX3_owedIf 37 = .ok (.ifCond .ne 13, 3) := by decide +kernel
theorem dX3_owedIf_40 : decode cX3_owedIf 40 = .ok (.iload 5, 2) := by decide +kernel
theorem dX3_owedIf_42 : decode cX3_owedIf 42 = .ok (.iload 6, 2) := by decide +kernel
theorem dX3_owedIf_44 : decode cX3_owedIf 44 = .ok (.isub, 1) := by decide +kernel
theorem dX3_owedIf_45 : decode cX3_owedIf 45 = .ok (.istore 7, 2) := by decide +kernel
theorem dX3_owedIf_47 : decode cX3_owedIf 47 = .ok (.goto 20, 3) := by decide +kernel
theorem dX3_owedIf_50 : decode cX3_owedIf 50 = .ok (.iload_n 2, 1) := by decide +kernel
theorem dX3_owedIf_51 : decode cX3_owedIf 51 = .ok (.iconst 1, 1) := by decide +kernel
theorem dX3_owedIf_52 : decode cX3_owedIf 52 = .ok (.if_icmp .ne 15, 3) := by decide +kernel
theorem dX3_owedIf_55 : decode cX3_owedIf 55 = .ok (.iload 5, 2) := by decide +kernel
theorem dX3_owedIf_57 : decode cX3_owedIf 57 = .ok (.iload 6, 2) := by decide +kernel
theorem dX3_owedIf_59 : decode cX3_owedIf 59 = .ok (.isub, 1) := by decide +kernel
theorem dX3_owedIf_60 : decode cX3_owedIf 60 = .ok (.aload_n 0, 1) := by decide +kernel
theorem dX3_owedIf_61 : decode cX3_owedIf 61 = .ok (.getfield 43, 3) := by decide +kernel
theorem dX3_owedIf_64 : decode cX3_owedIf 64 = .ok (.iadd, 1) := by decide +kernel
theorem dX3_owedIf_65 : decode cX3_owedIf 65 = .ok (.istore 7, 2) := by decide +kernel
theorem dX3_owedIf_67 : decode cX3_owedIf 67 = .ok (.aload_n 0, 1) := by decide +kernel
theorem dX3_owedIf_68 : decode cX3_owedIf 68 = .ok (.invokevirtual 126, 3) := by decide +kernel
theorem dX3_owedIf_71 : decode cX3_owedIf 71 = .ok (.istore 8, 2) := by decide +kernel
theorem dX3_owedIf_73 : decode cX3_owedIf 73 = .ok (.new 103, 3) := by decide +kernel
theorem dX3_owedIf_76 : decode cX3_owedIf 76 = .ok (.dup, 1) := by decide +kernel
theorem dX3_owedIf_77 : decode cX3_owedIf 77 = .ok (.aload_n 0, 1) := by decide +kernel
theorem dX3_owedIf_78 : decode cX3_owedIf 78 = .ok (.invokevirtual 221, 3) := by decide +kernel
theorem dX3_owedIf_81 : decode cX3_owedIf 81 = .ok (.aload_n 0, 1) := by decide +kernel
theorem dX3_owedIf_82 : decode cX3_owedIf 82 = .ok (.iload_n 1, 1) := by decide +kernel
theorem dX3_owedIf_83 : decode cX3_owedIf 83 = .ok (.iload_n 3, 1) := by decide +kernel
theorem dX3_owedIf_84 : decode cX3_owedIf 84 = .ok (.iload 8, 2) := by decide +kernel
theorem dX3_owedIf_86 : decode cX3_owedIf 86 = .ok (.invokevirtual 225, 3) := by decide +kernel
theorem dX3_owedIf_89 : decode cX3_owedIf 89 = .ok (.iload 8, 2) := by decide +kernel
theorem dX3_owedIf_91 : decode cX3_owedIf 91 = .ok (.i2l, 1) := by decide +kernel
theorem dX3_owedIf_92 : decode cX3_owedIf 92 = .ok (.iload 5, 2) := by decide +kernel
theorem dX3_owedIf_94 : decode cX3_owedIf 94 = .ok (.iload 6, 2) := by decide +kernel
theorem dX3_owedIf_96 : decode cX3_owedIf 96 = .ok (.iload 7, 2) := by decide +kernel
theorem dX3_owedIf_98 : decode cX3_owedIf 98 = .ok (.invokespecial 228, 3) := by decide +kernel
theorem dX3_owedIf_101 : decode cX3_owedIf 101 = .ok (.areturn, 1) := by decide +kernel
theorem dX3_gotBy_0 : decode cX3_gotBy 0 = .ok (.aload_n 0, 1) := by decide +kernel
theorem dX3_gotBy_1 : decode cX3_gotBy 1 = .ok (.iload_n 1, 1) := by decide +kernel
theorem dX3_gotBy_2 : decode cX3_gotBy 2 = .ok (.iload_n 2, 1) := by decide +kernel
theorem dX3_gotBy_3 : decode cX3_gotBy 3 = .ok (.aload_n 0, 1) := by decide +kernel
theorem dX3_gotBy_4 : decode cX3_gotBy 4 = .ok (.getfield 79, 3) := by decide +kernel
theorem dX3_gotBy_7 : decode cX3_gotBy 7 = .ok (.aload_n 0, 1) := by decide +kernel
theorem dX3_gotBy_8 : decode cX3_gotBy 8 = .ok (.getfield 68, 3) := by decide +kernel
theorem dX3_gotBy_11 : decode cX3_gotBy 11 = .ok (.invokevirtual 164, 3) := by decide +kernel
theorem dX3_gotBy_14 : decode cX3_gotBy 14 = .ok (.astore_n 3, 1) := by decide +kernel
theorem dX3_gotBy_15 : decode cX3_gotBy 15 = .ok (.aload_n 3, 1) := by decide +kernel
theorem dX3_gotBy_16 : decode cX3_gotBy 16 = .ok (.getfield 123, 3) := by decide +kernel
theorem dX3_gotBy_19 : decode cX3_gotBy 19 = .ok (.aload_n 0, 1) := by decide +kernel
theorem dX3_gotBy_20 : decode cX3_gotBy 20 = .ok (.invokevirtual 204, 3) := by decide +kernel
theorem dX3_gotBy_23 : decode cX3_gotBy 23 = .ok (.aload_n 0, 1) := by decide +kernel
theorem dX3_gotBy_24 : decode cX3_gotBy 24 = .ok (.getfield 79, 3) := by decide +kernel
theorem dX3_gotBy_27 : decode cX3_gotBy 27 = .ok (.iand, 1) := by decide +kernel
theorem dX3_gotBy_28 : decode cX3_gotBy 28 = .ok (.aload_n 0, 1) := by decide +kernel
theorem dX3_gotBy_29 : decode cX3_gotBy 29 = .ok (.getfield 21, 3) := by decide +kernel
theorem dX3_gotBy_32 : decode cX3_gotBy 32 = .ok (.invokestatic 82, 3) := by decide +kernel
theorem dX3_gotBy_35 : decode cX3_gotBy 35 = .ok (.i2l, 1) := by decide +kernel
theorem dX3_gotBy_36 : decode cX3_gotBy 36 = .ok (.invokevirtual 168, 3) := by decide +kernel
theorem dX3_gotBy_39 : decode cX3_gotBy 39 = .ok (.areturn, 1) := by decide +kernel
theorem dX3_unitBears_0 : decode cX3_unitBears 0 = .ok (.iload_n 2, 1) := by decide +kernel
theorem dX3_unitBears_1 : decode cX3_unitBears 1 = .ok (.iload_n 1, 1) := by decide +kernel
theorem dX3_unitBears_2 : decode cX3_unitBears 2 = .ok (.invokestatic 49, 3) := by decide +kernel
theorem dX3_unitBears_5 : decode cX3_unitBears 5 = .ok (.ifCond .ne 23, 3) := by decide +kernel
theorem dX3_unitBears_8 : decode cX3_unitBears 8 = .ok (.aload_n 0, 1) := by decide +kernel
theorem dX3_unitBears_9 : decode cX3_unitBears 9 = .ok (.iload_n 2, 1) := by decide +kernel
theorem dX3_unitBears_10 : decode cX3_unitBears 10 = .ok (.aload_n 0, 1) := by decide +kernel
theorem dX3_unitBears_11 : decode cX3_unitBears 11 = .ok (.getfield 68, 3) := by decide +kernel
theorem dX3_unitBears_14 : decode cX3_unitBears 14 = .ok (.invokevirtual 207, 3) := by decide +kernel
theorem dX3_unitBears_17 : decode cX3_unitBears 17 = .ok (.iload_n 1, 1) := by decide +kernel
theorem dX3_unitBears_18 : decode cX3_unitBears 18 = .ok (.invokestatic 49, 3) := by decide +kernel
theorem dX3_unitBears_21 : decode cX3_unitBears 21 = .ok (.ifCond .ne 7, 3) := by decide +kernel
theorem dX3_unitBears_24 : decode cX3_unitBears 24 = .ok (.iconst 1, 1) := by decide +kernel
theorem dX3_unitBears_25 : decode cX3_unitBears 25 = .ok (.goto 4, 3) := by decide +kernel
theorem dX3_unitBears_28 : decode cX3_unitBears 28 = .ok (.iconst 0, 1) := by decide +kernel
theorem dX3_unitBears_29 : decode cX3_unitBears 29 = .ok (.istore_n 3, 1) := by decide +kernel
theorem dX3_unitBears_30 : decode cX3_unitBears 30 = .ok (.iload_n 3, 1) := by decide +kernel
theorem dX3_unitBears_31 : decode cX3_unitBears 31 = .ok (.ifCond .eq 19, 3) := by decide +kernel
theorem dX3_unitBears_34 : decode cX3_unitBears 34 = .ok (.aload_n 0, 1) := by decide +kernel
theorem dX3_unitBears_35 : decode cX3_unitBears 35 = .ok (.getfield 18, 3) := by decide +kernel
theorem dX3_unitBears_38 : decode cX3_unitBears 38 = .ok (.iload_n 1, 1) := by decide +kernel
theorem dX3_unitBears_39 : decode cX3_unitBears 39 = .ok (.iaload, 1) := by decide +kernel
theorem dX3_unitBears_40 : decode cX3_unitBears 40 = .ok (.aload_n 0, 1) := by decide +kernel
theorem dX3_unitBears_41 : decode cX3_unitBears 41 = .ok (.getfield 15, 3) := by decide +kernel
theorem dX3_unitBears_44 : decode cX3_unitBears 44 = .ok (.invokestatic 82, 3) := by decide +kernel
theorem dX3_unitBears_47 : decode cX3_unitBears 47 = .ok (.goto 4, 3) := by decide +kernel
theorem dX3_unitBears_50 : decode cX3_unitBears 50 = .ok (.iconst 0, 1) := by decide +kernel
theorem dX3_unitBears_51 : decode cX3_unitBears 51 = .ok (.ireturn, 1) := by decide +kernel
theorem dX3_bears_0 : decode cX3_bears 0 = .ok (.aload_n 0, 1) := by decide +kernel
theorem dX3_bears_1 : decode cX3_bears 1 = .ok (.getfield 79, 3) := by decide +kernel
theorem dX3_bears_4 : decode cX3_bears 4 = .ok (.aload_n 0, 1) := by decide +kernel
theorem dX3_bears_5 : decode cX3_bears 5 = .ok (.getfield 68, 3) := by decide +kernel
theorem dX3_bears_8 : decode cX3_bears 8 = .ok (.ior, 1) := by decide +kernel
theorem dX3_bears_9 : decode cX3_bears 9 = .ok (.iload_n 1, 1) := by decide +kernel
theorem dX3_bears_10 : decode cX3_bears 10 = .ok (.invokestatic 49, 3) := by decide +kernel
theorem dX3_bears_13 : decode cX3_bears 13 = .ok (.ifCond .eq 5, 3) := by decide +kernel
theorem dX3_bears_16 : decode cX3_bears 16 = .ok (.iconst 0, 1) := by decide +kernel
theorem dX3_bears_17 : decode cX3_bears 17 = .ok (.ireturn, 1) := by decide +kernel
theorem dX3_bears_18 : decode cX3_bears 18 = .ok (.aload_n 0, 1) := by decide +kernel
theorem dX3_bears_19 : decode cX3_bears 19 = .ok (.getfield 18, 3) := by decide +kernel
theorem dX3_bears_22 : decode cX3_bears 22 = .ok (.iload_n 1, 1) := by decide +kernel
theorem dX3_bears_23 : decode cX3_bears 23 = .ok (.iaload, 1) := by decide +kernel
theorem dX3_bears_24 : decode cX3_bears 24 = .ok (.aload_n 0, 1) := by decide +kernel
theorem dX3_bears_25 : decode cX3_bears 25 = .ok (.getfield 68, 3) := by decide +kernel
theorem dX3_bears_28 : decode cX3_bears 28 = .ok (.iand, 1) := by decide +kernel
theorem dX3_bears_29 : decode cX3_bears 29 = .ok (.ifCond .eq 7, 3) := by decide +kernel
theorem dX3_bears_32 : decode cX3_bears 32 = .ok (.iconst 1, 1) := by decide +kernel
theorem dX3_bears_33 : decode cX3_bears 33 = .ok (.goto 4, 3) := by decide +kernel
theorem dX3_bears_36 : decode cX3_bears 36 = .ok (.iconst 0, 1) := by decide +kernel
theorem dX3_bears_37 : decode cX3_bears 37 = .ok (.istore_n 2, 1) := by decide +kernel
theorem dX3_bears_38 : decode cX3_bears 38 = .ok (.iload_n 2, 1) := by decide +kernel
theorem dX3_bears_39 : decode cX3_bears 39 = .ok (.ifCond .eq 19, 3) := by decide +kernel
theorem dX3_bears_42 : decode cX3_bears 42 = .ok (.aload_n 0, 1) := by decide +kernel
theorem dX3_bears_43 : decode cX3_bears 43 = .ok (.getfield 18, 3) := by decide +kernel
theorem dX3_bears_46 : decode cX3_bears 46 = .ok (.iload_n 1, 1) := by decide +kernel
theorem dX3_bears_47 : decode cX3_bears 47 = .ok (.iaload, 1) := by decide +kernel
theorem dX3_bears_48 : decode cX3_bears 48 = .ok (.aload_n 0, 1) := by decide +kernel
theorem dX3_bears_49 : decode cX3_bears 49 = .ok (.getfield 15, 3) := by decide +kernel
theorem dX3_bears_52 : decode cX3_bears 52 = .ok (.invokestatic 82, 3) := by decide +kernel
theorem dX3_bears_55 : decode cX3_bears 55 = .ok (.goto 9, 3) := by decide +kernel
theorem dX3_bears_58 : decode cX3_bears 58 = .ok (.aload_n 0, 1) := by decide +kernel
theorem dX3_bears_59 : decode cX3_bears 59 = .ok (.getfield 15, 3) := by decide +kernel
theorem dX3_bears_62 : decode cX3_bears 62 = .ok (.iload_n 1, 1) := by decide +kernel
theorem dX3_bears_63 : decode cX3_bears 63 = .ok (.iaload, 1) := by decide +kernel
theorem dX3_bears_64 : decode cX3_bears 64 = .ok (.ireturn, 1) := by decide +kernel
theorem dX3_allPaid_0 : decode cX3_allPaid 0 = .ok (.aload_n 0, 1) := by decide +kernel
theorem dX3_allPaid_1 : decode cX3_allPaid 1 = .ok (.getfield 46, 3) := by decide +kernel
theorem dX3_allPaid_4 : decode cX3_allPaid 4 = .ok (.aload_n 0, 1) := by decide +kernel
theorem dX3_allPaid_5 : decode cX3_allPaid 5 = .ok (.getfield 24, 3) := by decide +kernel
theorem dX3_allPaid_8 : decode cX3_allPaid 8 = .ok (.invokestatic 82, 3) := by decide +kernel
theorem dX3_allPaid_11 : decode cX3_allPaid 11 = .ok (.ireturn, 1) := by decide +kernel
theorem dX3_fairUp_0 : decode cX3_fairUp 0 = .ok (.aload_n 2, 1) := by decide +kernel
theorem dX3_fairUp_1 : decode cX3_fairUp 1 = .ok (.getfield 123, 3) := by decide +kernel
theorem dX3_fairUp_4 : decode cX3_fairUp 4 = .ok (.getfield 160, 3) := by decide +kernel
theorem dX3_fairUp_7 : decode cX3_fairUp 7 = .ok (.lconst 0, 1) := by decide +kernel
theorem dX3_fairUp_8 : decode cX3_fairUp 8 = .ok (.lcmp, 1) := by decide +kernel
theorem dX3_fairUp_9 : decode cX3_fairUp 9 = .ok (.ifCond .ne 7, 3) := by decide +kernel
theorem dX3_fairUp_12 : decode cX3_fairUp 12 = .ok (.lconst 0, 1) := by decide +kernel
theorem dX3_fairUp_13 : decode cX3_fairUp 13 = .ok (.goto 15, 3) := by decide +kernel
theorem dX3_fairUp_16 : decode cX3_fairUp 16 = .ok (.aload_n 0, 1) := by decide +kernel
theorem dX3_fairUp_17 : decode cX3_fairUp 17 = .ok (.invokevirtual 171, 3) := by decide +kernel
theorem dX3_fairUp_20 : decode cX3_fairUp 20 = .ok (.i2l, 1) := by decide +kernel
theorem dX3_fairUp_21 : decode cX3_fairUp 21 = .ok (.aload_n 0, 1) := by decide +kernel
theorem dX3_fairUp_22 : decode cX3_fairUp 22 = .ok (.iload_n 1, 1) := by decide +kernel
theorem dX3_fairUp_23 : decode cX3_fairUp 23 = .ok (.invokevirtual 149, 3) := by decide +kernel
theorem dX3_fairUp_26 : decode cX3_fairUp 26 = .ok (.i2l, 1) := by decide +kernel
theorem dX3_fairUp_27 : decode cX3_fairUp 27 = .ok (.lmul, 1) := by decide +kernel
theorem dX3_fairUp_28 : decode cX3_fairUp 28 = .ok (.lreturn, 1) := by decide +kernel
theorem dX3_overUp_0 : decode cX3_overUp 0 = .ok (.aload_n 0, 1) := by decide +kernel
theorem dX3_overUp_1 : decode cX3_overUp 1 = .ok (.getfield 24, 3) := by decide +kernel
theorem dX3_overUp_4 : decode cX3_overUp 4 = .ok (.iload_n 1, 1) := by decide +kernel
theorem dX3_overUp_5 : decode cX3_overUp 5 = .ok (.iaload, 1) := by decide +kernel
theorem dX3_overUp_6 : decode cX3_overUp 6 = .ok (.i2l, 1) := by decide +kernel
theorem dX3_overUp_7 : decode cX3_overUp 7 = .ok (.aload_n 2, 1) := by decide +kernel
theorem dX3_overUp_8 : decode cX3_overUp 8 = .ok (.getfield 178, 3) := by decide +kernel
theorem dX3_overUp_11 : decode cX3_overUp 11 = .ok (.lmul, 1) := by decide +kernel
theorem dX3_overUp_12 : decode cX3_overUp 12 = .ok (.aload_n 0, 1) := by decide +kernel
theorem dX3_overUp_13 : decode cX3_overUp 13 = .ok (.iload_n 1, 1) := by decide +kernel
theorem dX3_overUp_14 : decode cX3_overUp 14 = .ok (.aload_n 2, 1) := by decide +kernel
theorem dX3_overUp_15 : decode cX3_overUp 15 = .ok (.invokevirtual 174, 3) := by decide +kernel
theorem dX3_overUp_18 : decode cX3_overUp 18 = .ok (.lsub, 1) := by decide +kernel
theorem dX3_overUp_19 : decode cX3_overUp 19 = .ok (.lreturn, 1) := by decide +kernel
theorem dX3_evenOut_0 : decode cX3_evenOut 0 = .ok (.iconst 0, 1) := by decide +kernel
theorem dX3_evenOut_1 : decode cX3_evenOut 1 = .ok (.istore_n 2, 1) := by decide +kernel
theorem dX3_evenOut_2 : decode cX3_evenOut 2 = .ok (.iload_n 2, 1) := by decide +kernel
theorem dX3_evenOut_3 : decode cX3_evenOut 3 = .ok (.bipush 6, 2) := by decide +kernel
theorem dX3_evenOut_5 : decode cX3_evenOut 5 = .ok (.if_icmp .ge 36, 3) := by decide +kernel
theorem dX3_evenOut_8 : decode cX3_evenOut 8 = .ok (.aload_n 0, 1) := by decide +kernel
theorem dX3_evenOut_9 : decode cX3_evenOut 9 = .ok (.getfield 30, 3) := by decide +kernel
theorem dX3_evenOut_12 : decode cX3_evenOut 12 = .ok (.getfield 231, 3) := by decide +kernel
theorem dX3_evenOut_15 : decode cX3_evenOut 15 = .ok (.iload_n 2, 1) := by decide +kernel
theorem dX3_evenOut_16 : decode cX3_evenOut 16 = .ok (.aload_n 0, 1) := by decide +kernel
theorem dX3_evenOut_17 : decode cX3_evenOut 17 = .ok (.iload_n 2, 1) := by decide +kernel
theorem dX3_evenOut_18 : decode cX3_evenOut 18 = .ok (.invokevirtual 57, 3) := by decide +kernel
theorem dX3_evenOut_21 : decode cX3_evenOut 21 = .ok (.ifCond .eq 12, 3) := by decide +kernel
theorem dX3_evenOut_24 : decode cX3_evenOut 24 = .ok (.aload_n 0, 1) := by decide +kernel
theorem dX3_evenOut_25 : decode cX3_evenOut 25 = .ok (.iload_n 2, 1) := by decide +kernel
theorem dX3_evenOut_26 : decode cX3_evenOut 26 = .ok (.aload_n 1, 1) := by decide +kernel
theorem dX3_evenOut_27 : decode cX3_evenOut 27 = .ok (.invokevirtual 181, 3) := by decide +kernel
theorem dX3_evenOut_30 : decode cX3_evenOut 30 = .ok (.goto 4, 3) := by decide +kernel
theorem dX3_evenOut_33 : decode cX3_evenOut 33 = .ok (.lconst 0, 1) := by decide +kernel
theorem dX3_evenOut_34 : decode cX3_evenOut 34 = .ok (.lastore, 1) := by decide +kernel
theorem dX3_evenOut_35 : decode cX3_evenOut 35 = .ok (.iinc 2 1, 3) := by decide +kernel
theorem dX3_evenOut_38 : decode cX3_evenOut 38 = .ok (.goto (-36), 3) := by decide +kernel
theorem dX3_evenOut_41 : decode cX3_evenOut 41 = .ok (.aload_n 0, 1) := by decide +kernel
theorem dX3_evenOut_42 : decode cX3_evenOut 42 = .ok (.getfield 30, 3) := by decide +kernel
theorem dX3_evenOut_45 : decode cX3_evenOut 45 = .ok (.invokevirtual 234, 3) := by decide +kernel
theorem dX3_evenOut_48 : decode cX3_evenOut 48 = .ok (.return_, 1) := by decide +kernel
theorem dX4_init_0 : decode cX4_init 0 = .ok (.aload_n 0, 1) := by decide +kernel
theorem dX4_init_1 : decode cX4_init 1 = .ok (.invokespecial 1, 3) := by decide +kernel
theorem dX4_init_4 : decode cX4_init 4 = .ok (.aload_n 0, 1) := by decide +kernel
theorem dX4_init_5 : decode cX4_init 5 = .ok (.lconst 1, 1) := by decide +kernel
theorem dX4_init_6 : decode cX4_init 6 = .ok (.putfield 7, 3) := by decide +kernel
theorem dX4_init_9 : decode cX4_init 9 = .ok (.aload_n 0, 1) := by decide +kernel
theorem dX4_init_10 : decode cX4_init 10 = .ok (.iconst 3, 1) := by decide +kernel
theorem dX4_init_11 : decode cX4_init 11 = .ok (.newarray .int, 2) := by decide +kernel
theorem dX4_init_13 : decode cX4_init 13 = .ok (.putfield 13, 3) := by decide +kernel
theorem dX4_init_16 : decode cX4_init 16 = .ok (.aload_n 0, 1) := by decide +kernel
theorem dX4_init_17 : decode cX4_init 17 = .ok (.bipush 6, 2) := by decide +kernel
theorem dX4_init_19 : decode cX4_init 19 = .ok (.newarray .boolean, 2) := by decide +kernel
theorem dX4_init_21 : decode cX4_init 21 = .ok (.putfield 17, 3) := by decide +kernel
theorem dX4_init_24 : decode cX4_init 24 = .ok (.aload_n 0, 1) := by decide +kernel
theorem dX4_init_25 : decode cX4_init 25 = .ok (.bipush 6, 2) := by decide +kernel
theorem dX4_init_27 : decode cX4_init 27 = .ok (.newarray .int, 2) := by decide +kernel
theorem dX4_init_29 : decode cX4_init 29 = .ok (.putfield 21, 3) := by decide +kernel
theorem dX4_init_32 : decode cX4_init 32 = .ok (.aload_n 0, 1) := by decide +kernel
theorem dX4_init_33 : decode cX4_init 33 = .ok (.bipush 6, 2) := by decide +kernel
theorem dX4_init_35 : decode cX4_init 35 = .ok (.newarray .boolean, 2) := by decide +kernel
theorem dX4_init_37 : decode cX4_init 37 = .ok (.putfield 24, 3) := by decide +kernel
theorem dX4_init_40 : decode cX4_init 40 = .ok (.aload_n 0, 1) := by decide +kernel
theorem dX4_init_41 : decode cX4_init 41 = .ok (.bipush 6, 2) := by decide +kernel
theorem dX4_init_43 : decode cX4_init 43 = .ok (.newarray .int, 2) := by decide +kernel
theorem dX4_init_45 : decode cX4_init 45 = .ok (.putfield 27, 3) := by decide +kernel
theorem dX4_init_48 : decode cX4_init 48 = .ok (.aload_n 0, 1) := by decide +kernel
theorem dX4_init_49 : decode cX4_init 49 = .ok (.bipush 6, 2) := by decide +kernel
theorem dX4_init_51 : decode cX4_init 51 = .ok (.newarray .int, 2) := by decide +kernel
theorem dX4_init_53 : decode cX4_init 53 = .ok (.putfield 30, 3) := by decide +kernel
theorem dX4_init_56 : decode cX4_init 56 = .ok (.aload_n 0, 1) := by decide +kernel
theorem dX4_init_57 : decode cX4_init 57 = .ok (.bipush 6, 2) := by decide +kernel
theorem dX4_init_59 : decode cX4_init 59 = .ok (.newarray .int, 2) := by decide +kernel
theorem dX4_init_61 : decode cX4_init 61 = .ok (.putfield 33, 3) := by decide +kernel
theorem dX4_init_64 : decode cX4_init 64 = .ok (.aload_n 0, 1) := by decide +kernel
theorem dX4_init_65 : decode cX4_init 65 = .ok (.iconst 5, 1) := by decide +kernel
theorem dX4_init_66 : decode cX4_init 66 = .ok (.newarray .long, 2) := by decide +kernel
theorem dX4_init_68 : decode cX4_init 68 = .ok (.putfield 36, 3) := by decide +kernel
theorem dX4_init_71 : decode cX4_init 71 = .ok (.aload_n 0, 1) := by decide +kernel
theorem dX4_init_72 : decode cX4_init 72 = .ok (.iconst 5, 1) := by decide +kernel
theorem dX4_init_73 : decode cX4_init 73 = .ok (.newarray .long, 2) := by decide +kernel
theorem dX4_init_75 : decode cX4_init 75 = .ok (.putfield 40, 3) := by decide +kernel
theorem dX4_init_78 : decode cX4_init 78 = .ok (.aload_n 0, 1) := by decide +kernel
theorem dX4_init_79 : decode cX4_init 79 = .ok (.bipush 6, 2) := by decide +kernel
theorem dX4_init_81 : decode cX4_init 81 = .ok (.newarray .long, 2) := by decide +kernel
theorem dX4_init_83 : decode cX4_init 83 = .ok (.putfield 43, 3) := by decide +kernel
theorem dX4_init_86 : decode cX4_init 86 = .ok (.aload_n 0, 1) := by decide +kernel
theorem dX4_init_87 : decode cX4_init 87 = .ok (.bipush 6, 2) := by decide +kernel
theorem dX4_init_89 : decode cX4_init 89 = .ok (.newarray .long, 2) := by decide +kernel
theorem dX4_init_91 : decode cX4_init 91 = .ok (.putfield 46, 3) := by decide +kernel
theorem dX4_init_94 : decode cX4_init 94 = .ok (.aload_n 0, 1) := by decide +kernel
theorem dX4_init_95 : decode cX4_init 95 = .ok (.bipush 6, 2) := by decide +kernel
theorem dX4_init_97 : decode cX4_init 97 = .ok (.newarray .long, 2) := by decide +kernel
theorem dX4_init_99 : decode cX4_init 99 = .ok (.putfield 49, 3) := by decide +kernel
theorem dX4_init_102 : decode cX4_init 102 = .ok (.aload_n 0, 1) := by decide +kernel
theorem dX4_init_103 : decode cX4_init 103 = .ok (.bipush 6, 2) := by decide +kernel
theorem dX4_init_105 : decode cX4_init 105 = .ok (.newarray .long, 2) := by decide +kernel
theorem dX4_init_107 : decode cX4_init 107 = .ok (.putfield 52, 3) := by decide +kernel
theorem dX4_init_110 : decode cX4_init 110 = .ok (.aload_n 0, 1) := by decide +kernel
theorem dX4_init_111 : decode cX4_init 111 = .ok (.bipush 12, 2) := by decide +kernel
theorem dX4_init_113 : decode cX4_init 113 = .ok (.newarray .int, 2) := by decide +kernel
theorem dX4_init_115 : decode cX4_init 115 = .ok (.putfield 55, 3) := by decide +kernel
theorem dX4_init_118 : decode cX4_init 118 = .ok (.aload_n 0, 1) := by decide +kernel
theorem dX4_init_119 : decode cX4_init 119 = .ok (.bipush 12, 2) := by decide +kernel
theorem dX4_init_121 : decode cX4_init 121 = .ok (.newarray .int, 2) := by decide +kernel
theorem dX4_init_123 : decode cX4_init 123 = .ok (.putfield 58, 3) := by decide +kernel
theorem dX4_init_126 : decode cX4_init 126 = .ok (.aload_n 0, 1) := by decide +kernel
theorem dX4_init_127 : decode cX4_init 127 = .ok (.bipush 12, 2) := by decide +kernel
theorem dX4_init_129 : decode cX4_init 129 = .ok (.newarray .long, 2) := by decide +kernel
theorem dX4_init_131 : decode cX4_init 131 = .ok (.putfield 61, 3) := by decide +kernel
theorem dX4_init_134 : decode cX4_init 134 = .ok (.aload_n 0, 1) := by decide +kernel
theorem dX4_init_135 : decode cX4_init 135 = .ok (.bipush 12, 2) := by decide +kernel
theorem dX4_init_137 : decode cX4_init 137 = .ok (.newarray .long, 2) := by decide +kernel
theorem dX4_init_139 : decode cX4_init 139 = .ok (.putfield 64, 3) := by decide +kernel
theorem dX4_init_142 : decode cX4_init 142 = .ok (.aload_n 0, 1) := by decide +kernel
theorem dX4_init_143 : decode cX4_init 143 = .ok (.getfield 13, 3) := by decide +kernel
theorem dX4_init_146 : decode cX4_init 146 = .ok (.iconst 2, 1) := by decide +kernel
theorem dX4_init_147 : decode cX4_init 147 = .ok (.bipush 100, 2) := by decide +kernel
theorem dX4_init_149 : decode cX4_init 149 = .ok (.iastore, 1) := by decide +kernel
theorem dX4_init_150 : decode cX4_init 150 = .ok (.iconst 0, 1) := by decide +kernel
theorem dX4_init_151 : decode cX4_init 151 = .ok (.istore_n 1, 1) := by decide +kernel
theorem dX4_init_152 : decode cX4_init 152 = .ok (.iload_n 1, 1) := by decide +kernel
theorem dX4_init_153 : decode cX4_init 153 = .ok (.bipush 6, 2) := by decide +kernel
theorem dX4_init_155 : decode cX4_init 155 = .ok (.if_icmp .ge 14, 3) := by decide +kernel
theorem dX4_init_158 : decode cX4_init 158 = .ok (.aload_n 0, 1) := by decide +kernel
theorem dX4_init_159 : decode cX4_init 159 = .ok (.iload_n 1, 1) := by decide +kernel
theorem dX4_init_160 : decode cX4_init 160 = .ok (.invokevirtual 67, 3) := by decide +kernel
theorem dX4_init_163 : decode cX4_init 163 = .ok (.iinc 1 1, 3) := by decide +kernel
theorem dX4_init_166 : decode cX4_init 166 = .ok (.goto (-14), 3) := by decide +kernel
theorem dX4_init_169 : decode cX4_init 169 = .ok (.return_, 1) := by decide +kernel
theorem dX4_within_0 : decode cX4_within 0 = .ok (.iload_n 0, 1) := by decide +kernel
theorem dX4_within_1 : decode cX4_within 1 = .ok (.iload_n 1, 1) := by decide +kernel
theorem dX4_within_2 : decode cX4_within 2 = .ok (.if_icmp .lt 12, 3) := by decide +kernel
theorem dX4_within_5 : decode cX4_within 5 = .ok (.iload_n 0, 1) := by decide +kernel
theorem dX4_within_6 : decode cX4_within 6 = .ok (.iload_n 2, 1) := by decide +kernel
theorem dX4_within_7 : decode cX4_within 7 = .ok (.if_icmp .gt 7, 3) := by decide +kernel
theorem dX4_within_10 : decode cX4_within 10 = .ok (.iconst 1, 1) := by decide +kernel
theorem dX4_within_11 : decode cX4_within 11 = .ok (.goto 4, 3) := by decide +kernel
theorem dX4_within_14 : decode cX4_within 14 = .ok (.iconst 0, 1) := by decide +kernel
theorem dX4_within_15 : decode cX4_within 15 = .ok (.ireturn, 1) := by decide +kernel
theorem dX4_common_0 : decode cX4_common 0 = .ok (.lload_n 0, 1) := by decide +kernel
theorem dX4_common_1 : decode cX4_common 1 = .ok (.lconst 0, 1) := by decide +kernel
theorem dX4_common_2 : decode cX4_common 2 = .ok (.lcmp, 1) := by decide +kernel
theorem dX4_common_3 : decode cX4_common 3 = .ok (.ifCond .ge 8, 3) := by decide +kernel
theorem dX4_common_6 : decode cX4_common 6 = .ok (.lload_n 0, 1) := by decide +kernel
theorem dX4_common_7 : decode cX4_common 7 = .ok (.lneg, 1) := by decide +kernel
theorem dX4_common_8 : decode cX4_common 8 = .ok (.goto 4, 3) := by decide +kernel
theorem dX4_common_11 : decode cX4_common 11 = .ok (.lload_n 0, 1) := by decide +kernel
theorem dX4_common_12 : decode cX4_common 12 = .ok (.lstore 4, 2) := by decide +kernel
theorem dX4_common_14 : decode cX4_common 14 = .ok (.lload_n 2, 1) := by decide +kernel
theorem dX4_common_15 : decode cX4_common 15 = .ok (.lconst 0, 1) := by decide +kernel
theorem dX4_common_16 : decode cX4_common 16 = .ok (.lcmp, 1) := by decide +kernel
theorem dX4_common_17 : decode cX4_common 17 = .ok (.ifCond .ge 8, 3) := by decide +kernel
theorem dX4_common_20 : decode cX4_common 20 = .ok (.lload_n 2, 1) := by decide +kernel
theorem dX4_common_21 : decode cX4_common 21 = .ok (.lneg, 1) := by decide +kernel
theorem dX4_common_22 : decode cX4_common 22 = .ok (.goto 4, 3) := by decide +kernel
theorem dX4_common_25 : decode cX4_common 25 = .ok (.lload_n 2, 1) := by decide +kernel
theorem dX4_common_26 : decode cX4_common 26 = .ok (.lstore 6, 2) := by decide +kernel
theorem dX4_common_28 : decode cX4_common 28 = .ok (.lload 6, 2) := by decide +kernel
theorem dX4_common_30 : decode cX4_common 30 = .ok (.lconst 0, 1) := by decide +kernel
theorem dX4_common_31 : decode cX4_common 31 = .ok (.lcmp, 1) := by decide +kernel
theorem dX4_common_32 : decode cX4_common 32 = .ok (.ifCond .le 21, 3) := by decide +kernel
theorem dX4_common_35 : decode cX4_common 35 = .ok (.lload 4, 2) := by decide +kernel
theorem dX4_common_37 : decode cX4_common 37 = .ok (.lload 6, 2) := by decide +kernel
theorem dX4_common_39 : decode cX4_common 39 = .ok (.lrem, 1) := by decide +kernel
theorem dX4_common_40 : decode cX4_common 40 = .ok (.lstore 8, 2) := by decide +kernel
theorem dX4_common_42 : decode cX4_common 42 = .ok (.lload 6, 2) := by decide +kernel
theorem dX4_common_44 : decode cX4_common 44 = .ok (.lstore 4, 2) := by decide +kernel
theorem dX4_common_46 : decode cX4_common 46 = .ok (.lload 8, 2) := by decide +kernel
theorem dX4_common_48 : decode cX4_common 48 = .ok (.lstore 6, 2) := by decide +kernel
theorem dX4_common_50 : decode cX4_common 50 = .ok (.goto (-22), 3) := by decide +kernel
theorem dX4_common_53 : decode cX4_common 53 = .ok (.lload 4, 2) := by decide +kernel
theorem dX4_common_55 : decode cX4_common 55 = .ok (.lreturn, 1) := by decide +kernel
theorem dX4_makes_0 : decode cX4_makes 0 = .ok (.lload_n 1, 1) := by decide +kernel
theorem dX4_makes_1 : decode cX4_makes 1 = .ok (.lload_n 3, 1) := by decide +kernel
theorem dX4_makes_2 : decode cX4_makes 2 = .ok (.invokestatic 71, 3) := by decide +kernel
theorem dX4_makes_5 : decode cX4_makes 5 = .ok (.lstore 5, 2) := by decide +kernel
theorem dX4_makes_7 : decode cX4_makes 7 = .ok (.aload_n 0, 1) := by decide +kernel
theorem dX4_makes_8 : decode cX4_makes 8 = .ok (.lload_n 1, 1) := by decide +kernel
theorem dX4_makes_9 : decode cX4_makes 9 = .ok (.lload 5, 2) := by decide +kernel
theorem dX4_makes_11 : decode cX4_makes 11 = .ok (.ldiv, 1) := by decide +kernel
theorem dX4_makes_12 : decode cX4_makes 12 = .ok (.putfield 75, 3) := by decide +kernel
theorem dX4_makes_15 : decode cX4_makes 15 = .ok (.aload_n 0, 1) := by decide +kernel
theorem dX4_makes_16 : decode cX4_makes 16 = .ok (.lload_n 3, 1) := by decide +kernel
theorem dX4_makes_17 : decode cX4_makes 17 = .ok (.lload 5, 2) := by decide +kernel
theorem dX4_makes_19 : decode cX4_makes 19 = .ok (.ldiv, 1) := by decide +kernel
theorem dX4_makes_20 : decode cX4_makes 20 = .ok (.putfield 7, 3) := by decide +kernel
theorem dX4_makes_23 : decode cX4_makes 23 = .ok (.return_, 1) := by decide +kernel
theorem dX4_adds_0 : decode cX4_adds 0 = .ok (.lload_n 3, 1) := by decide +kernel
theorem dX4_adds_1 : decode cX4_adds 1 = .ok (.lload 7, 2) := by decide +kernel
theorem dX4_adds_3 : decode cX4_adds 3 = .ok (.invokestatic 71, 3) := by decide +kernel
theorem dX4_adds_6 : decode cX4_adds 6 = .ok (.lstore 11, 2) := by decide +kernel
theorem dX4_adds_8 : decode cX4_adds 8 = .ok (.aload_n 0, 1) := by decide +kernel
theorem dX4_adds_9 : decode cX4_adds 9 = .ok (.lload_n 1, 1) := by decide +kernel
theorem dX4_adds_10 : decode cX4_adds 10 = .ok (.lload 7, 2) := by decide +kernel
theorem dX4_adds_12 : decode cX4_adds 12 = .ok (.lload 11, 2) := by decide +kernel
theorem dX4_adds_14 : decode cX4_adds 14 = .ok (.ldiv, 1) := by decide +kernel
theorem dX4_adds_15 : decode cX4_adds 15 = .ok (.lmul, 1) := by decide +kernel
theorem dX4_adds_16 : decode cX4_adds 16 = .ok (.lload 9, 2) := by decide +kernel
theorem dX4_adds_18 : decode cX4_adds 18 = .ok (.lload 5, 2) := by decide +kernel
theorem dX4_adds_20 : decode cX4_adds 20 = .ok (.lmul, 1) := by decide +kernel
theorem dX4_adds_21 : decode cX4_adds 21 = .ok (.lload_n 3, 1) := by decide +kernel
theorem dX4_adds_22 : decode cX4_adds 22 = .ok (.lload 11, 2) := by decide +kernel
theorem dX4_adds_24 : decode cX4_adds 24 = .ok (.ldiv, 1) := by decide +kernel
theorem dX4_adds_25 : decode cX4_adds 25 = .ok (.lmul, 1) := by decide +kernel
theorem dX4_adds_26 : decode cX4_adds 26 = .ok (.ladd, 1) := by decide +kernel
theorem dX4_adds_27 : decode cX4_adds 27 = .ok (.lload_n 3, 1) := by decide +kernel
theorem dX4_adds_28 : decode cX4_adds 28 = .ok (.lload 11, 2) := by decide +kernel
theorem dX4_adds_30 : decode cX4_adds 30 = .ok (.ldiv, 1) := by decide +kernel
theorem dX4_adds_31 : decode cX4_adds 31 = .ok (.lload 7, 2) := by decide +kernel
theorem dX4_adds_33 : decode cX4_adds 33 = .ok (.lmul, 1) := by decide +kernel
theorem dX4_adds_34 : decode cX4_adds 34 = .ok (.invokevirtual 78, 3) := by decide +kernel
theorem dX4_adds_37 : decode cX4_adds 37 = .ok (.return_, 1) := by decide +kernel
theorem dX4_multiplies_0 : decode cX4_multiplies 0 = .ok (.lload_n 1, 1) := by decide +kernel
theorem dX4_multiplies_1 : decode cX4_multiplies 1 = .ok (.lload 7, 2) := by decide +kernel
theorem dX4_multiplies_3 : decode cX4_multiplies 3 = .ok (.invokestatic 71, 3) := by decide +kernel
theorem dX4_multiplies_6 : decode cX4_multiplies 6 = .ok (.lstore 9, 2) := by decide +kernel
theorem dX4_multiplies_8 : decode cX4_multiplies 8 = .ok (.lload 5, 2) := by decide +kernel
theorem dX4_multiplies_10 : decode cX4_multiplies 10 = .ok (.lload_n 3, 1) := by decide +kernel
theorem dX4_multiplies_11 : decode cX4_multiplies 11 = .ok (.invokestatic 71, 3) := by decide +kernel
theorem dX4_multiplies_14 : decode cX4_multiplies 14 = .ok (.lstore 11, 2) := by decide +kernel
theorem dX4_multiplies_16 : decode cX4_multiplies 16 = .ok (.lload 9, 2) := by decide +kernel
theorem dX4_multiplies_18 : decode cX4_multiplies 18 = .ok (.lconst 0, 1) := by decide +kernel
theorem dX4_multiplies_19 : decode cX4_multiplies 19 = .ok (.lcmp, 1) := by decide +kernel
theorem dX4_multiplies_20 : decode cX4_multiplies 20 = .ok (.ifCond .ne 7, 3) := by decide +kernel
theorem dX4_multiplies_23 : decode cX4_multiplies 23 = .ok (.lconst 1, 1) := by decide +kernel
theorem dX4_multiplies_24 : decode cX4_multiplies 24 = .ok (.goto 5, 3) := by decide +kernel
theorem dX4_multiplies_27 : decode cX4_multiplies 27 = .ok (.lload 9, 2) := by decide +kernel
theorem dX4_multiplies_29 : decode cX4_multiplies 29 = .ok (.lstore 9, 2) := by decide +kernel
theorem dX4_multiplies_31 : decode cX4_multiplies 31 = .ok (.lload 11, 2) := by decide +kernel
theorem dX4_multiplies_33 : decode cX4_multiplies 33 = .ok (.lconst 0, 1) := by decide +kernel
theorem dX4_multiplies_34 : decode cX4_multiplies 34 = .ok (.lcmp, 1) := by decide +kernel
theorem dX4_multiplies_35 : decode cX4_multiplies 35 = .ok (.ifCond .ne 7, 3) := by decide +kernel
theorem dX4_multiplies_38 : decode cX4_multiplies 38 = .ok (.lconst 1, 1) := by decide +kernel
theorem dX4_multiplies_39 : decode cX4_multiplies 39 = .ok (.goto 5, 3) := by decide +kernel
theorem dX4_multiplies_42 : decode cX4_multiplies 42 = .ok (.lload 11, 2) := by decide +kernel
theorem dX4_multiplies_44 : decode cX4_multiplies 44 = .ok (.lstore 11, 2) := by decide +kernel
theorem dX4_multiplies_46 : decode cX4_multiplies 46 = .ok (.aload_n 0, 1) := by decide +kernel
theorem dX4_multiplies_47 : decode cX4_multiplies 47 = .ok (.lload_n 1, 1) := by decide +kernel
theorem dX4_multiplies_48 : decode cX4_multiplies 48 = .ok (.lload 9, 2) := by decide +kernel
theorem dX4_multiplies_50 : decode cX4_multiplies 50 = .ok (.ldiv, 1) := by decide +kernel
theorem dX4_multiplies_51 : decode cX4_multiplies 51 = .ok (.lload 5, 2) := by decide +kernel
theorem dX4_multiplies_53 : decode cX4_multiplies 53 = .ok (.lload 11, 2) := by decide +kernel
theorem dX4_multiplies_55 : decode cX4_multiplies 55 = .ok (.ldiv, 1) := by decide +kernel
theorem dX4_multiplies_56 : decode cX4_multiplies 56 = .ok (.lmul, 1) := by decide +kernel
theorem dX4_multiplies_57 : decode cX4_multiplies 57 = .ok (.lload_n 3, 1) := by decide +kernel
theorem dX4_multiplies_58 : decode cX4_multiplies 58 = .ok (.lload 11, 2) := by decide +kernel
theorem dX4_multiplies_60 : decode cX4_multiplies 60 = .ok (.ldiv, 1) := by decide +kernel
theorem dX4_multiplies_61 : decode cX4_multiplies 61 = .ok (.lload 7, 2) := by decide +kernel
theorem dX4_multiplies_63 : decode cX4_multiplies 63 = .ok (.lload 9, 2) := by decide +kernel
theorem dX4_multiplies_65 : decode cX4_multiplies 65 = .ok (.ldiv, 1) := by decide +kernel
theorem dX4_multiplies_66 : decode cX4_multiplies 66 = .ok (.lmul, 1) := by decide +kernel
theorem dX4_multiplies_67 : decode cX4_multiplies 67 = .ok (.invokevirtual 78, 3) := by decide +kernel
theorem dX4_multiplies_70 : decode cX4_multiplies 70 = .ok (.return_, 1) := by decide +kernel
