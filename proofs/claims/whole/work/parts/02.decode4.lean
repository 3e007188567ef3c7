theorem dX4_credit_2 : decode cX4_credit 2 = .ok (.invokevirtual 98, 3) := by decide +kernel
theorem dX4_credit_5 : decode cX4_credit 5 = .ok (.ifCond .eq 10, 3) := by decide +kernel
theorem dX4_credit_8 : decode cX4_credit 8 = .ok (.iload_n 2, 1) := by decide +kernel
theorem dX4_credit_9 : decode cX4_credit 9 = .ok (.invokestatic 149, 3) := by decide +kernel
theorem dX4_credit_12 : decode cX4_credit 12 = .ok (.ifCond .ne 7, 3) := by decide +kernel
theorem dX4_credit_15 : decode cX4_credit 15 = .ok (.ldc2_w 152, 3) := by decide +kernel
theorem dX4_credit_18 : decode cX4_credit 18 = .ok (.lreturn, 1) := by decide +kernel
theorem dX4_credit_19 : decode cX4_credit 19 = .ok (.aload_n 0, 1) := by decide +kernel
theorem dX4_credit_20 : decode cX4_credit 20 = .ok (.aload_n 0, 1) := by decide +kernel
theorem dX4_credit_21 : decode cX4_credit 21 = .ok (.iload_n 1, 1) := by decide +kernel
theorem dX4_credit_22 : decode cX4_credit 22 = .ok (.invokevirtual 157, 3) := by decide +kernel
theorem dX4_credit_25 : decode cX4_credit 25 = .ok (.invokevirtual 125, 3) := by decide +kernel
theorem dX4_credit_28 : decode cX4_credit 28 = .ok (.aload_n 0, 1) := by decide +kernel
theorem dX4_credit_29 : decode cX4_credit 29 = .ok (.iload_n 2, 1) := by decide +kernel
theorem dX4_credit_30 : decode cX4_credit 30 = .ok (.invokevirtual 160, 3) := by decide +kernel
theorem dX4_credit_33 : decode cX4_credit 33 = .ok (.lreturn, 1) := by decide +kernel
theorem dX4_unitDue_0 : decode cX4_unitDue 0 = .ok (.aload_n 0, 1) := by decide +kernel
theorem dX4_unitDue_1 : decode cX4_unitDue 1 = .ok (.iload_n 1, 1) := by decide +kernel
theorem dX4_unitDue_2 : decode cX4_unitDue 2 = .ok (.invokevirtual 98, 3) := by decide +kernel
theorem dX4_unitDue_5 : decode cX4_unitDue 5 = .ok (.ifCond .eq 10, 3) := by decide +kernel
theorem dX4_unitDue_8 : decode cX4_unitDue 8 = .ok (.iload_n 2, 1) := by decide +kernel
theorem dX4_unitDue_9 : decode cX4_unitDue 9 = .ok (.invokestatic 149, 3) := by decide +kernel
theorem dX4_unitDue_12 : decode cX4_unitDue 12 = .ok (.ifCond .ne 7, 3) := by decide +kernel
theorem dX4_unitDue_15 : decode cX4_unitDue 15 = .ok (.ldc2_w 152, 3) := by decide +kernel
theorem dX4_unitDue_18 : decode cX4_unitDue 18 = .ok (.lreturn, 1) := by decide +kernel
theorem dX4_unitDue_19 : decode cX4_unitDue 19 = .ok (.aload_n 0, 1) := by decide +kernel
theorem dX4_unitDue_20 : decode cX4_unitDue 20 = .ok (.invokevirtual 154, 3) := by decide +kernel
theorem dX4_unitDue_23 : decode cX4_unitDue 23 = .ok (.iload_n 2, 1) := by decide +kernel
theorem dX4_unitDue_24 : decode cX4_unitDue 24 = .ok (.ifCond .ne 16, 3) := by decide +kernel
theorem dX4_unitDue_27 : decode cX4_unitDue 27 = .ok (.aload_n 0, 1) := by decide +kernel
theorem dX4_unitDue_28 : decode cX4_unitDue 28 = .ok (.getfield 43, 3) := by decide +kernel
theorem dX4_unitDue_31 : decode cX4_unitDue 31 = .ok (.aload_n 0, 1) := by decide +kernel
theorem dX4_unitDue_32 : decode cX4_unitDue 32 = .ok (.iload_n 1, 1) := by decide +kernel
theorem dX4_unitDue_33 : decode cX4_unitDue 33 = .ok (.invokevirtual 157, 3) := by decide +kernel
theorem dX4_unitDue_36 : decode cX4_unitDue 36 = .ok (.laload, 1) := by decide +kernel
theorem dX4_unitDue_37 : decode cX4_unitDue 37 = .ok (.goto 13, 3) := by decide +kernel
theorem dX4_unitDue_40 : decode cX4_unitDue 40 = .ok (.aload_n 0, 1) := by decide +kernel
theorem dX4_unitDue_41 : decode cX4_unitDue 41 = .ok (.getfield 46, 3) := by decide +kernel
theorem dX4_unitDue_44 : decode cX4_unitDue 44 = .ok (.aload_n 0, 1) := by decide +kernel
theorem dX4_unitDue_45 : decode cX4_unitDue 45 = .ok (.iload_n 1, 1) := by decide +kernel
theorem dX4_unitDue_46 : decode cX4_unitDue 46 = .ok (.invokevirtual 157, 3) := by decide +kernel
theorem dX4_unitDue_49 : decode cX4_unitDue 49 = .ok (.laload, 1) := by decide +kernel
theorem dX4_unitDue_50 : decode cX4_unitDue 50 = .ok (.lreturn, 1) := by decide +kernel
theorem dX4_findDue_0 : decode cX4_findDue 0 = .ok (.aload_n 0, 1) := by decide +kernel
theorem dX4_findDue_1 : decode cX4_findDue 1 = .ok (.getfield 27, 3) := by decide +kernel
theorem dX4_findDue_4 : decode cX4_findDue 4 = .ok (.iload_n 1, 1) := by decide +kernel
theorem dX4_findDue_5 : decode cX4_findDue 5 = .ok (.iaload, 1) := by decide +kernel
theorem dX4_findDue_6 : decode cX4_findDue 6 = .ok (.istore_n 2, 1) := by decide +kernel
theorem dX4_findDue_7 : decode cX4_findDue 7 = .ok (.aload_n 0, 1) := by decide +kernel
theorem dX4_findDue_8 : decode cX4_findDue 8 = .ok (.aload_n 0, 1) := by decide +kernel
theorem dX4_findDue_9 : decode cX4_findDue 9 = .ok (.getfield 43, 3) := by decide +kernel
theorem dX4_findDue_12 : decode cX4_findDue 12 = .ok (.aload_n 0, 1) := by decide +kernel
theorem dX4_findDue_13 : decode cX4_findDue 13 = .ok (.iload_n 1, 1) := by decide +kernel
theorem dX4_findDue_14 : decode cX4_findDue 14 = .ok (.invokevirtual 157, 3) := by decide +kernel
theorem dX4_findDue_17 : decode cX4_findDue 17 = .ok (.laload, 1) := by decide +kernel
theorem dX4_findDue_18 : decode cX4_findDue 18 = .ok (.aload_n 0, 1) := by decide +kernel
theorem dX4_findDue_19 : decode cX4_findDue 19 = .ok (.getfield 46, 3) := by decide +kernel
theorem dX4_findDue_22 : decode cX4_findDue 22 = .ok (.aload_n 0, 1) := by decide +kernel
theorem dX4_findDue_23 : decode cX4_findDue 23 = .ok (.iload_n 1, 1) := by decide +kernel
theorem dX4_findDue_24 : decode cX4_findDue 24 = .ok (.invokevirtual 157, 3) := by decide +kernel
theorem dX4_findDue_27 : decode cX4_findDue 27 = .ok (.laload, 1) := by decide +kernel
theorem dX4_findDue_28 : decode cX4_findDue 28 = .ok (.invokevirtual 78, 3) := by decide +kernel
theorem dX4_findDue_31 : decode cX4_findDue 31 = .ok (.aload_n 0, 1) := by decide +kernel
theorem dX4_findDue_32 : decode cX4_findDue 32 = .ok (.getfield 24, 3) := by decide +kernel
theorem dX4_findDue_35 : decode cX4_findDue 35 = .ok (.iload_n 1, 1) := by decide +kernel
theorem dX4_findDue_36 : decode cX4_findDue 36 = .ok (.baload, 1) := by decide +kernel
theorem dX4_findDue_37 : decode cX4_findDue 37 = .ok (.ifCond .eq 12, 3) := by decide +kernel
theorem dX4_findDue_40 : decode cX4_findDue 40 = .ok (.aload_n 0, 1) := by decide +kernel
theorem dX4_findDue_41 : decode cX4_findDue 41 = .ok (.lconst 0, 1) := by decide +kernel
theorem dX4_findDue_42 : decode cX4_findDue 42 = .ok (.lconst 1, 1) := by decide +kernel
theorem dX4_findDue_43 : decode cX4_findDue 43 = .ok (.invokevirtual 78, 3) := by decide +kernel
theorem dX4_findDue_46 : decode cX4_findDue 46 = .ok (.goto 71, 3) := by decide +kernel
theorem dX4_findDue_49 : decode cX4_findDue 49 = .ok (.iload_n 2, 1) := by decide +kernel
theorem dX4_findDue_50 : decode cX4_findDue 50 = .ok (.bipush (-9), 2) := by decide +kernel
theorem dX4_findDue_52 : decode cX4_findDue 52 = .ok (.if_icmp .eq 65, 3) := by decide +kernel
theorem dX4_findDue_55 : decode cX4_findDue 55 = .ok (.aload_n 0, 1) := by decide +kernel
theorem dX4_findDue_56 : decode cX4_findDue 56 = .ok (.getfield 24, 3) := by decide +kernel
theorem dX4_findDue_59 : decode cX4_findDue 59 = .ok (.iload_n 2, 1) := by decide +kernel
theorem dX4_findDue_60 : decode cX4_findDue 60 = .ok (.baload, 1) := by decide +kernel
theorem dX4_findDue_61 : decode cX4_findDue 61 = .ok (.ifCond .ne 56, 3) := by decide +kernel
theorem dX4_findDue_64 : decode cX4_findDue 64 = .ok (.aload_n 0, 1) := by decide +kernel
theorem dX4_findDue_65 : decode cX4_findDue 65 = .ok (.getfield 21, 3) := by decide +kernel
theorem dX4_findDue_68 : decode cX4_findDue 68 = .ok (.iload_n 1, 1) := by decide +kernel
theorem dX4_findDue_69 : decode cX4_findDue 69 = .ok (.iaload, 1) := by decide +kernel
theorem dX4_findDue_70 : decode cX4_findDue 70 = .ok (.aload_n 0, 1) := by decide +kernel
theorem dX4_findDue_71 : decode cX4_findDue 71 = .ok (.getfield 21, 3) := by decide +kernel
theorem dX4_findDue_74 : decode cX4_findDue 74 = .ok (.iload_n 2, 1) := by decide +kernel
theorem dX4_findDue_75 : decode cX4_findDue 75 = .ok (.iaload, 1) := by decide +kernel
theorem dX4_findDue_76 : decode cX4_findDue 76 = .ok (.iadd, 1) := by decide +kernel
theorem dX4_findDue_77 : decode cX4_findDue 77 = .ok (.istore_n 3, 1) := by decide +kernel
theorem dX4_findDue_78 : decode cX4_findDue 78 = .ok (.aload_n 0, 1) := by decide +kernel
theorem dX4_findDue_79 : decode cX4_findDue 79 = .ok (.aload_n 0, 1) := by decide +kernel
theorem dX4_findDue_80 : decode cX4_findDue 80 = .ok (.getfield 75, 3) := by decide +kernel
theorem dX4_findDue_83 : decode cX4_findDue 83 = .ok (.aload_n 0, 1) := by decide +kernel
theorem dX4_findDue_84 : decode cX4_findDue 84 = .ok (.getfield 7, 3) := by decide +kernel
theorem dX4_findDue_87 : decode cX4_findDue 87 = .ok (.iload_n 3, 1) := by decide +kernel
theorem dX4_findDue_88 : decode cX4_findDue 88 = .ok (.ifCond .ne 7, 3) := by decide +kernel
theorem dX4_findDue_91 : decode cX4_findDue 91 = .ok (.lconst 1, 1) := by decide +kernel
theorem dX4_findDue_92 : decode cX4_findDue 92 = .ok (.goto 10, 3) := by decide +kernel
theorem dX4_findDue_95 : decode cX4_findDue 95 = .ok (.aload_n 0, 1) := by decide +kernel
theorem dX4_findDue_96 : decode cX4_findDue 96 = .ok (.getfield 21, 3) := by decide +kernel
theorem dX4_findDue_99 : decode cX4_findDue 99 = .ok (.iload_n 1, 1) := by decide +kernel
theorem dX4_findDue_100 : decode cX4_findDue 100 = .ok (.iaload, 1) := by decide +kernel
theorem dX4_findDue_101 : decode cX4_findDue 101 = .ok (.i2l, 1) := by decide +kernel
theorem dX4_findDue_102 : decode cX4_findDue 102 = .ok (.iload_n 3, 1) := by decide +kernel
theorem dX4_findDue_103 : decode cX4_findDue 103 = .ok (.ifCond .ne 9, 3) := by decide +kernel
theorem dX4_findDue_106 : decode cX4_findDue 106 = .ok (.ldc2_w 164, 3) := by decide +kernel
theorem dX4_findDue_109 : decode cX4_findDue 109 = .ok (.goto 5, 3) := by decide +kernel
theorem dX4_findDue_112 : decode cX4_findDue 112 = .ok (.iload_n 3, 1) := by decide +kernel
theorem dX4_findDue_113 : decode cX4_findDue 113 = .ok (.i2l, 1) := by decide +kernel
theorem dX4_findDue_114 : decode cX4_findDue 114 = .ok (.invokevirtual 145, 3) := by decide +kernel
theorem dX4_findDue_117 : decode cX4_findDue 117 = .ok (.return_, 1) := by decide +kernel
theorem dX4_due_0 : decode cX4_due 0 = .ok (.aload_n 0, 1) := by decide +kernel
theorem dX4_due_1 : decode cX4_due 1 = .ok (.iload_n 1, 1) := by decide +kernel
theorem dX4_due_2 : decode cX4_due 2 = .ok (.invokevirtual 98, 3) := by decide +kernel
theorem dX4_due_5 : decode cX4_due 5 = .ok (.ifCond .eq 10, 3) := by decide +kernel
theorem dX4_due_8 : decode cX4_due 8 = .ok (.iload_n 2, 1) := by decide +kernel
theorem dX4_due_9 : decode cX4_due 9 = .ok (.invokestatic 149, 3) := by decide +kernel
theorem dX4_due_12 : decode cX4_due 12 = .ok (.ifCond .ne 7, 3) := by decide +kernel
theorem dX4_due_15 : decode cX4_due 15 = .ok (.ldc2_w 152, 3) := by decide +kernel
theorem dX4_due_18 : decode cX4_due 18 = .ok (.lreturn, 1) := by decide +kernel
theorem dX4_due_19 : decode cX4_due 19 = .ok (.aload_n 0, 1) := by decide +kernel
theorem dX4_due_20 : decode cX4_due 20 = .ok (.invokevirtual 154, 3) := by decide +kernel
theorem dX4_due_23 : decode cX4_due 23 = .ok (.aload_n 0, 1) := by decide +kernel
theorem dX4_due_24 : decode cX4_due 24 = .ok (.iload_n 1, 1) := by decide +kernel
theorem dX4_due_25 : decode cX4_due 25 = .ok (.invokevirtual 166, 3) := by decide +kernel
theorem dX4_due_28 : decode cX4_due 28 = .ok (.aload_n 0, 1) := by decide +kernel
theorem dX4_due_29 : decode cX4_due 29 = .ok (.iload_n 2, 1) := by decide +kernel
theorem dX4_due_30 : decode cX4_due 30 = .ok (.invokevirtual 160, 3) := by decide +kernel
theorem dX4_due_33 : decode cX4_due 33 = .ok (.lreturn, 1) := by decide +kernel
theorem dX4_findGets_0 : decode cX4_findGets 0 = .ok (.aload_n 0, 1) := by decide +kernel
theorem dX4_findGets_1 : decode cX4_findGets 1 = .ok (.invokevirtual 154, 3) := by decide +kernel
theorem dX4_findGets_4 : decode cX4_findGets 4 = .ok (.lconst 0, 1) := by decide +kernel
theorem dX4_findGets_5 : decode cX4_findGets 5 = .ok (.lstore_n 1, 1) := by decide +kernel
theorem dX4_findGets_6 : decode cX4_findGets 6 = .ok (.iconst 0, 1) := by decide +kernel
theorem dX4_findGets_7 : decode cX4_findGets 7 = .ok (.istore_n 3, 1) := by decide +kernel
theorem dX4_findGets_8 : decode cX4_findGets 8 = .ok (.iload_n 3, 1) := by decide +kernel
theorem dX4_findGets_9 : decode cX4_findGets 9 = .ok (.bipush 6, 2) := by decide +kernel
theorem dX4_findGets_11 : decode cX4_findGets 11 = .ok (.if_icmp .ge 42, 3) := by decide +kernel
theorem dX4_findGets_14 : decode cX4_findGets 14 = .ok (.lload_n 1, 1) := by decide +kernel
theorem dX4_findGets_15 : decode cX4_findGets 15 = .ok (.aload_n 0, 1) := by decide +kernel
theorem dX4_findGets_16 : decode cX4_findGets 16 = .ok (.iload_n 3, 1) := by decide +kernel
theorem dX4_findGets_17 : decode cX4_findGets 17 = .ok (.invokevirtual 113, 3) := by decide +kernel
theorem dX4_findGets_20 : decode cX4_findGets 20 = .ok (.ifCond .eq 24, 3) := by decide +kernel
theorem dX4_findGets_23 : decode cX4_findGets 23 = .ok (.aload_n 0, 1) := by decide +kernel
theorem dX4_findGets_24 : decode cX4_findGets 24 = .ok (.getfield 30, 3) := by decide +kernel
theorem dX4_findGets_27 : decode cX4_findGets 27 = .ok (.iload_n 3, 1) := by decide +kernel
theorem dX4_findGets_28 : decode cX4_findGets 28 = .ok (.iaload, 1) := by decide +kernel
theorem dX4_findGets_29 : decode cX4_findGets 29 = .ok (.bipush (-9), 2) := by decide +kernel
theorem dX4_findGets_31 : decode cX4_findGets 31 = .ok (.if_icmp .eq 13, 3) := by decide +kernel
theorem dX4_findGets_34 : decode cX4_findGets 34 = .ok (.aload_n 0, 1) := by decide +kernel
theorem dX4_findGets_35 : decode cX4_findGets 35 = .ok (.getfield 30, 3) := by decide +kernel
theorem dX4_findGets_38 : decode cX4_findGets 38 = .ok (.iload_n 3, 1) := by decide +kernel
theorem dX4_findGets_39 : decode cX4_findGets 39 = .ok (.iaload, 1) := by decide +kernel
theorem dX4_findGets_40 : decode cX4_findGets 40 = .ok (.i2l, 1) := by decide +kernel
theorem dX4_findGets_41 : decode cX4_findGets 41 = .ok (.goto 4, 3) := by decide +kernel
theorem dX4_findGets_44 : decode cX4_findGets 44 = .ok (.lconst 0, 1) := by decide +kernel
theorem dX4_findGets_45 : decode cX4_findGets 45 = .ok (.ladd, 1) := by decide +kernel
theorem dX4_findGets_46 : decode cX4_findGets 46 = .ok (.lstore_n 1, 1) := by decide +kernel
theorem dX4_findGets_47 : decode cX4_findGets 47 = .ok (.iinc 3 1, 3) := by decide +kernel
theorem dX4_findGets_50 : decode cX4_findGets 50 = .ok (.goto (-42), 3) := by decide +kernel
theorem dX4_findGets_53 : decode cX4_findGets 53 = .ok (.aload_n 0, 1) := by decide +kernel
theorem dX4_findGets_54 : decode cX4_findGets 54 = .ok (.aload_n 0, 1) := by decide +kernel
theorem dX4_findGets_55 : decode cX4_findGets 55 = .ok (.getfield 36, 3) := by decide +kernel
theorem dX4_findGets_58 : decode cX4_findGets 58 = .ok (.iconst 4, 1) := by decide +kernel
theorem dX4_findGets_59 : decode cX4_findGets 59 = .ok (.laload, 1) := by decide +kernel
theorem dX4_findGets_60 : decode cX4_findGets 60 = .ok (.aload_n 0, 1) := by decide +kernel
theorem dX4_findGets_61 : decode cX4_findGets 61 = .ok (.getfield 40, 3) := by decide +kernel
theorem dX4_findGets_64 : decode cX4_findGets 64 = .ok (.iconst 4, 1) := by decide +kernel
theorem dX4_findGets_65 : decode cX4_findGets 65 = .ok (.laload, 1) := by decide +kernel
theorem dX4_findGets_66 : decode cX4_findGets 66 = .ok (.lload_n 1, 1) := by decide +kernel
theorem dX4_findGets_67 : decode cX4_findGets 67 = .ok (.lconst 1, 1) := by decide +kernel
theorem dX4_findGets_68 : decode cX4_findGets 68 = .ok (.lconst 1, 1) := by decide +kernel
theorem dX4_findGets_69 : decode cX4_findGets 69 = .ok (.invokevirtual 128, 3) := by decide +kernel
theorem dX4_findGets_72 : decode cX4_findGets 72 = .ok (.return_, 1) := by decide +kernel
theorem dX4_findGetsBy_0 : decode cX4_findGetsBy 0 = .ok (.aload_n 0, 1) := by decide +kernel
theorem dX4_findGetsBy_1 : decode cX4_findGetsBy 1 = .ok (.getfield 13, 3) := by decide +kernel
theorem dX4_findGetsBy_4 : decode cX4_findGetsBy 4 = .ok (.iconst 0, 1) := by decide +kernel
theorem dX4_findGetsBy_5 : decode cX4_findGetsBy 5 = .ok (.iaload, 1) := by decide +kernel
theorem dX4_findGetsBy_6 : decode cX4_findGetsBy 6 = .ok (.istore_n 3, 1) := by decide +kernel
theorem dX4_findGetsBy_7 : decode cX4_findGetsBy 7 = .ok (.aload_n 0, 1) := by decide +kernel
theorem dX4_findGetsBy_8 : decode cX4_findGetsBy 8 = .ok (.getfield 13, 3) := by decide +kernel
theorem dX4_findGetsBy_11 : decode cX4_findGetsBy 11 = .ok (.iconst 1, 1) := by decide +kernel
theorem dX4_findGetsBy_12 : decode cX4_findGetsBy 12 = .ok (.iaload, 1) := by decide +kernel
theorem dX4_findGetsBy_13 : decode cX4_findGetsBy 13 = .ok (.istore 4, 2) := by decide +kernel
theorem dX4_findGetsBy_15 : decode cX4_findGetsBy 15 = .ok (.aload_n 0, 1) := by decide +kernel
theorem dX4_findGetsBy_16 : decode cX4_findGetsBy 16 = .ok (.getfield 13, 3) := by decide +kernel
theorem dX4_findGetsBy_19 : decode cX4_findGetsBy 19 = .ok (.iconst 0, 1) := by decide +kernel
theorem dX4_findGetsBy_20 : decode cX4_findGetsBy 20 = .ok (.iload_n 1, 1) := by decide +kernel
theorem dX4_findGetsBy_21 : decode cX4_findGetsBy 21 = .ok (.iastore, 1) := by decide +kernel
theorem dX4_findGetsBy_22 : decode cX4_findGetsBy 22 = .ok (.aload_n 0, 1) := by decide +kernel
theorem dX4_findGetsBy_23 : decode cX4_findGetsBy 23 = .ok (.getfield 13, 3) := by decide +kernel
theorem dX4_findGetsBy_26 : decode cX4_findGetsBy 26 = .ok (.iconst 1, 1) := by decide +kernel
theorem dX4_findGetsBy_27 : decode cX4_findGetsBy 27 = .ok (.iload_n 2, 1) := by decide +kernel
theorem dX4_findGetsBy_28 : decode cX4_findGetsBy 28 = .ok (.iastore, 1) := by decide +kernel
theorem dX4_findGetsBy_29 : decode cX4_findGetsBy 29 = .ok (.aload_n 0, 1) := by decide +kernel
theorem dX4_findGetsBy_30 : decode cX4_findGetsBy 30 = .ok (.invokevirtual 169, 3) := by decide +kernel
theorem dX4_findGetsBy_33 : decode cX4_findGetsBy 33 = .ok (.aload_n 0, 1) := by decide +kernel
theorem dX4_findGetsBy_34 : decode cX4_findGetsBy 34 = .ok (.getfield 13, 3) := by decide +kernel
theorem dX4_findGetsBy_37 : decode cX4_findGetsBy 37 = .ok (.iconst 0, 1) := by decide +kernel
theorem dX4_findGetsBy_38 : decode cX4_findGetsBy 38 = .ok (.iload_n 3, 1) := by decide +kernel
theorem dX4_findGetsBy_39 : decode cX4_findGetsBy 39 = .ok (.iastore, 1) := by decide +kernel
theorem dX4_findGetsBy_40 : decode cX4_findGetsBy 40 = .ok (.aload_n 0, 1) := by decide +kernel
theorem dX4_findGetsBy_41 : decode cX4_findGetsBy 41 = .ok (.getfield 13, 3) := by decide +kernel
theorem dX4_findGetsBy_44 : decode cX4_findGetsBy 44 = .ok (.iconst 1, 1) := by decide +kernel
theorem dX4_findGetsBy_45 : decode cX4_findGetsBy 45 = .ok (.iload 4, 2) := by decide +kernel
theorem dX4_findGetsBy_47 : decode cX4_findGetsBy 47 = .ok (.iastore, 1) := by decide +kernel
theorem dX4_findGetsBy_48 : decode cX4_findGetsBy 48 = .ok (.return_, 1) := by decide +kernel
theorem dX4_gets_0 : decode cX4_gets 0 = .ok (.iload_n 1, 1) := by decide +kernel
theorem dX4_gets_1 : decode cX4_gets 1 = .ok (.iconst 0, 1) := by decide +kernel
theorem dX4_gets_2 : decode cX4_gets 2 = .ok (.iconst 2, 1) := by decide +kernel
theorem dX4_gets_3 : decode cX4_gets 3 = .ok (.invokestatic 82, 3) := by decide +kernel
theorem dX4_gets_6 : decode cX4_gets 6 = .ok (.ifCond .eq 19, 3) := by decide +kernel
theorem dX4_gets_9 : decode cX4_gets 9 = .ok (.iload_n 2, 1) := by decide +kernel
theorem dX4_gets_10 : decode cX4_gets 10 = .ok (.iconst 0, 1) := by decide +kernel
theorem dX4_gets_11 : decode cX4_gets 11 = .ok (.iconst 2, 1) := by decide +kernel
theorem dX4_gets_12 : decode cX4_gets 12 = .ok (.invokestatic 82, 3) := by decide +kernel
theorem dX4_gets_15 : decode cX4_gets 15 = .ok (.ifCond .eq 10, 3) := by decide +kernel
theorem dX4_gets_18 : decode cX4_gets 18 = .ok (.iload_n 3, 1) := by decide +kernel
theorem dX4_gets_19 : decode cX4_gets 19 = .ok (.invokestatic 149, 3) := by decide +kernel
theorem dX4_gets_22 : decode cX4_gets 22 = .ok (.ifCond .ne 7, 3) := by decide +kernel
theorem dX4_gets_25 : decode cX4_gets 25 = .ok (.ldc2_w 152, 3) := by decide +kernel
theorem dX4_gets_28 : decode cX4_gets 28 = .ok (.lreturn, 1) := by decide +kernel
theorem dX4_gets_29 : decode cX4_gets 29 = .ok (.aload_n 0, 1) := by decide +kernel
theorem dX4_gets_30 : decode cX4_gets 30 = .ok (.iload_n 1, 1) := by decide +kernel
theorem dX4_gets_31 : decode cX4_gets 31 = .ok (.iload_n 2, 1) := by decide +kernel
theorem dX4_gets_32 : decode cX4_gets 32 = .ok (.invokevirtual 172, 3) := by decide +kernel
theorem dX4_gets_35 : decode cX4_gets 35 = .ok (.aload_n 0, 1) := by decide +kernel
theorem dX4_gets_36 : decode cX4_gets 36 = .ok (.iload_n 3, 1) := by decide +kernel
theorem dX4_gets_37 : decode cX4_gets 37 = .ok (.invokevirtual 160, 3) := by decide +kernel
theorem dX4_gets_40 : decode cX4_gets 40 = .ok (.lreturn, 1) := by decide +kernel
theorem dX4_bestManner_0 : decode cX4_bestManner 0 = .ok (.iconst 0, 1) := by decide +kernel
theorem dX4_bestManner_1 : decode cX4_bestManner 1 = .ok (.istore_n 1, 1) := by decide +kernel
theorem dX4_bestManner_2 : decode cX4_bestManner 2 = .ok (.iconst 1, 1) := by decide +kernel
theorem dX4_bestManner_3 : decode cX4_bestManner 3 = .ok (.istore_n 2, 1) := by decide +kernel
theorem dX4_bestManner_4 : decode cX4_bestManner 4 = .ok (.iload_n 2, 1) := by decide +kernel
theorem dX4_bestManner_5 : decode cX4_bestManner 5 = .ok (.iconst 3, 1) := by decide +kernel
theorem dX4_bestManner_6 : decode cX4_bestManner 6 = .ok (.if_icmp .ge 75, 3) := by decide +kernel
theorem dX4_bestManner_9 : decode cX4_bestManner 9 = .ok (.aload_n 0, 1) := by decide +kernel
theorem dX4_bestManner_10 : decode cX4_bestManner 10 = .ok (.iload_n 1, 1) := by decide +kernel
theorem dX4_bestManner_11 : decode cX4_bestManner 11 = .ok (.aload_n 0, 1) := by decide +kernel
theorem dX4_bestManner_12 : decode cX4_bestManner 12 = .ok (.getfield 13, 3) := by decide +kernel
theorem dX4_bestManner_15 : decode cX4_bestManner 15 = .ok (.iconst 1, 1) := by decide +kernel
theorem dX4_bestManner_16 : decode cX4_bestManner 16 = .ok (.iaload, 1) := by decide +kernel
theorem dX4_bestManner_17 : decode cX4_bestManner 17 = .ok (.invokevirtual 172, 3) := by decide +kernel
theorem dX4_bestManner_20 : decode cX4_bestManner 20 = .ok (.aload_n 0, 1) := by decide +kernel
theorem dX4_bestManner_21 : decode cX4_bestManner 21 = .ok (.getfield 75, 3) := by decide +kernel
theorem dX4_bestManner_24 : decode cX4_bestManner 24 = .ok (.lstore_n 3, 1) := by decide +kernel
theorem dX4_bestManner_25 : decode cX4_bestManner 25 = .ok (.aload_n 0, 1) := by decide +kernel
theorem dX4_bestManner_26 : decode cX4_bestManner 26 = .ok (.getfield 7, 3) := by decide +kernel
theorem dX4_bestManner_29 : decode cX4_bestManner 29 = .ok (.lstore 5, 2) := by decide +kernel
theorem dX4_bestManner_31 : decode cX4_bestManner 31 = .ok (.aload_n 0, 1) := by decide +kernel
theorem dX4_bestManner_32 : decode cX4_bestManner 32 = .ok (.iload_n 2, 1) := by decide +kernel
theorem dX4_bestManner_33 : decode cX4_bestManner 33 = .ok (.aload_n 0, 1) := by decide +kernel
theorem dX4_bestManner_34 : decode cX4_bestManner 34 = .ok (.getfield 13, 3) := by decide +kernel
theorem dX4_bestManner_37 : decode cX4_bestManner 37 = .ok (.iconst 1, 1) := by decide +kernel
theorem dX4_bestManner_38 : decode cX4_bestManner 38 = .ok (.iaload, 1) := by decide +kernel
theorem dX4_bestManner_39 : decode cX4_bestManner 39 = .ok (.invokevirtual 172, 3) := by decide +kernel
theorem dX4_bestManner_42 : decode cX4_bestManner 42 = .ok (.aload_n 0, 1) := by decide +kernel
theorem dX4_bestManner_43 : decode cX4_bestManner 43 = .ok (.aload_n 0, 1) := by decide +kernel
theorem dX4_bestManner_44 : decode cX4_bestManner 44 = .ok (.getfield 75, 3) := by decide +kernel
theorem dX4_bestManner_47 : decode cX4_bestManner 47 = .ok (.aload_n 0, 1) := by decide +kernel
theorem dX4_bestManner_48 : decode cX4_bestManner 48 = .ok (.getfield 7, 3) := by decide +kernel
theorem dX4_bestManner_51 : decode cX4_bestManner 51 = .ok (.lload_n 3, 1) := by decide +kernel
theorem dX4_bestManner_52 : decode cX4_bestManner 52 = .ok (.lload 5, 2) := by decide +kernel
theorem dX4_bestManner_54 : decode cX4_bestManner 54 = .ok (.ldc2_w 132, 3) := by decide +kernel
theorem dX4_bestManner_57 : decode cX4_bestManner 57 = .ok (.invokevirtual 128, 3) := by decide +kernel
theorem dX4_bestManner_60 : decode cX4_bestManner 60 = .ok (.aload_n 0, 1) := by decide +kernel
theorem dX4_bestManner_61 : decode cX4_bestManner 61 = .ok (.getfield 75, 3) := by decide +kernel
theorem dX4_bestManner_64 : decode cX4_bestManner 64 = .ok (.lconst 0, 1) := by decide +kernel
theorem dX4_bestManner_65 : decode cX4_bestManner 65 = .ok (.lcmp, 1) := by decide +kernel
theorem dX4_bestManner_66 : decode cX4_bestManner 66 = .ok (.ifCond .le 7, 3) := by decide +kernel
theorem dX4_bestManner_69 : decode cX4_bestManner 69 = .ok (.iload_n 2, 1) := by decide +kernel
theorem dX4_bestManner_70 : decode cX4_bestManner 70 = .ok (.goto 4, 3) := by decide +kernel
theorem dX4_bestManner_73 : decode cX4_bestManner 73 = .ok (.iload_n 1, 1) := by decide +kernel
theorem dX4_bestManner_74 : decode cX4_bestManner 74 = .ok (.istore_n 1, 1) := by decide +kernel
theorem dX4_bestManner_75 : decode cX4_bestManner 75 = .ok (.iinc 2 1, 3) := by decide +kernel
theorem dX4_bestManner_78 : decode cX4_bestManner 78 = .ok (.goto (-74), 3) := by decide +kernel
theorem dX4_bestManner_81 : decode cX4_bestManner 81 = .ok (.iload_n 1, 1) := by decide +kernel
theorem dX4_bestManner_82 : decode cX4_bestManner 82 = .ok (.ireturn, 1) := by decide +kernel
theorem dX4_saves_0 : decode cX4_saves 0 = .ok (.aload_n 0, 1) := by decide +kernel
theorem dX4_saves_1 : decode cX4_saves 1 = .ok (.iload_n 1, 1) := by decide +kernel
theorem dX4_saves_2 : decode cX4_saves 2 = .ok (.invokevirtual 98, 3) := by decide +kernel
theorem dX4_saves_5 : decode cX4_saves 5 = .ok (.ifCond .eq 20, 3) := by decide +kernel
theorem dX4_saves_8 : decode cX4_saves 8 = .ok (.iload_n 2, 1) := by decide +kernel
theorem dX4_saves_9 : decode cX4_saves 9 = .ok (.iconst 0, 1) := by decide +kernel
theorem dX4_saves_10 : decode cX4_saves 10 = .ok (.ldc 86, 2) := by decide +kernel
theorem dX4_saves_12 : decode cX4_saves 12 = .ok (.invokestatic 82, 3) := by decide +kernel
theorem dX4_saves_15 : decode cX4_saves 15 = .ok (.ifCond .eq 10, 3) := by decide +kernel
theorem dX4_saves_18 : decode cX4_saves 18 = .ok (.iload_n 3, 1) := by decide +kernel
theorem dX4_saves_19 : decode cX4_saves 19 = .ok (.invokestatic 149, 3) := by decide +kernel
theorem dX4_saves_22 : decode cX4_saves 22 = .ok (.ifCond .ne 7, 3) := by decide +kernel
theorem dX4_saves_25 : decode cX4_saves 25 = .ok (.ldc2_w 152, 3) := by decide +kernel
theorem dX4_saves_28 : decode cX4_saves 28 = .ok (.lreturn, 1) := by decide +kernel
theorem dX4_saves_29 : decode cX4_saves 29 = .ok (.aload_n 0, 1) := by decide +kernel
theorem dX4_saves_30 : decode cX4_saves 30 = .ok (.getfield 30, 3) := by decide +kernel
theorem dX4_saves_33 : decode cX4_saves 33 = .ok (.iload_n 1, 1) := by decide +kernel
theorem dX4_saves_34 : decode cX4_saves 34 = .ok (.iaload, 1) := by decide +kernel
theorem dX4_saves_35 : decode cX4_saves 35 = .ok (.istore 4, 2) := by decide +kernel
theorem dX4_saves_37 : decode cX4_saves 37 = .ok (.aload_n 0, 1) := by decide +kernel
theorem dX4_saves_38 : decode cX4_saves 38 = .ok (.iload_n 1, 1) := by decide +kernel
theorem dX4_saves_39 : decode cX4_saves 39 = .ok (.bipush (-9), 2) := by decide +kernel
theorem dX4_saves_41 : decode cX4_saves 41 = .ok (.invokevirtual 102, 3) := by decide +kernel
theorem dX4_saves_44 : decode cX4_saves 44 = .ok (.aload_n 0, 1) := by decide +kernel
theorem dX4_saves_45 : decode cX4_saves 45 = .ok (.invokevirtual 154, 3) := by decide +kernel
theorem dX4_saves_48 : decode cX4_saves 48 = .ok (.aload_n 0, 1) := by decide +kernel
theorem dX4_saves_49 : decode cX4_saves 49 = .ok (.iload_n 1, 1) := by decide +kernel
theorem dX4_saves_50 : decode cX4_saves 50 = .ok (.iload 4, 2) := by decide +kernel
theorem dX4_saves_52 : decode cX4_saves 52 = .ok (.invokevirtual 102, 3) := by decide +kernel
theorem dX4_saves_55 : decode cX4_saves 55 = .ok (.aload_n 0, 1) := by decide +kernel
theorem dX4_saves_56 : decode cX4_saves 56 = .ok (.aload_n 0, 1) := by decide +kernel
theorem dX4_saves_57 : decode cX4_saves 57 = .ok (.getfield 43, 3) := by decide +kernel
theorem dX4_saves_60 : decode cX4_saves 60 = .ok (.aload_n 0, 1) := by decide +kernel
theorem dX4_saves_61 : decode cX4_saves 61 = .ok (.iload_n 1, 1) := by decide +kernel
theorem dX4_saves_62 : decode cX4_saves 62 = .ok (.invokevirtual 157, 3) := by decide +kernel
theorem dX4_saves_65 : decode cX4_saves 65 = .ok (.laload, 1) := by decide +kernel
theorem dX4_saves_66 : decode cX4_saves 66 = .ok (.aload_n 0, 1) := by decide +kernel
theorem dX4_saves_67 : decode cX4_saves 67 = .ok (.getfield 46, 3) := by decide +kernel
theorem dX4_saves_70 : decode cX4_saves 70 = .ok (.aload_n 0, 1) := by decide +kernel
theorem dX4_saves_71 : decode cX4_saves 71 = .ok (.iload_n 1, 1) := by decide +kernel
theorem dX4_saves_72 : decode cX4_saves 72 = .ok (.invokevirtual 157, 3) := by decide +kernel
theorem dX4_saves_75 : decode cX4_saves 75 = .ok (.laload, 1) := by decide +kernel
theorem dX4_saves_76 : decode cX4_saves 76 = .ok (.iload_n 2, 1) := by decide +kernel
theorem dX4_saves_77 : decode cX4_saves 77 = .ok (.i2l, 1) := by decide +kernel
theorem dX4_saves_78 : decode cX4_saves 78 = .ok (.lconst 1, 1) := by decide +kernel
theorem dX4_saves_79 : decode cX4_saves 79 = .ok (.ldc2_w 132, 3) := by decide +kernel
theorem dX4_saves_82 : decode cX4_saves 82 = .ok (.invokevirtual 128, 3) := by decide +kernel
theorem dX4_saves_85 : decode cX4_saves 85 = .ok (.aload_n 0, 1) := by decide +kernel
theorem dX4_saves_86 : decode cX4_saves 86 = .ok (.iload_n 3, 1) := by decide +kernel
theorem dX4_saves_87 : decode cX4_saves 87 = .ok (.invokevirtual 160, 3) := by decide +kernel
theorem dX4_saves_90 : decode cX4_saves 90 = .ok (.lreturn, 1) := by decide +kernel
theorem dX4_misses_0 : decode cX4_misses 0 = .ok (.aload_n 0, 1) := by decide +kernel
theorem dX4_misses_1 : decode cX4_misses 1 = .ok (.iload_n 1, 1) := by decide +kernel
theorem dX4_misses_2 : decode cX4_misses 2 = .ok (.invokevirtual 98, 3) := by decide +kernel
theorem dX4_misses_5 : decode cX4_misses 5 = .ok (.ifCond .eq 10, 3) := by decide +kernel
theorem dX4_misses_8 : decode cX4_misses 8 = .ok (.iload_n 2, 1) := by decide +kernel
theorem dX4_misses_9 : decode cX4_misses 9 = .ok (.invokestatic 149, 3) := by decide +kernel
theorem dX4_misses_12 : decode cX4_misses 12 = .ok (.ifCond .ne 7, 3) := by decide +kernel
theorem dX4_misses_15 : decode cX4_misses 15 = .ok (.ldc2_w 152, 3) := by decide +kernel
theorem dX4_misses_18 : decode cX4_misses 18 = .ok (.lreturn, 1) := by decide +kernel
theorem dX4_misses_19 : decode cX4_misses 19 = .ok (.aload_n 0, 1) := by decide +kernel
theorem dX4_misses_20 : decode cX4_misses 20 = .ok (.getfield 24, 3) := by decide +kernel
theorem dX4_misses_23 : decode cX4_misses 23 = .ok (.iload_n 1, 1) := by decide +kernel
theorem dX4_misses_24 : decode cX4_misses 24 = .ok (.baload, 1) := by decide +kernel
theorem dX4_misses_25 : decode cX4_misses 25 = .ok (.istore_n 3, 1) := by decide +kernel
theorem dX4_misses_26 : decode cX4_misses 26 = .ok (.aload_n 0, 1) := by decide +kernel
theorem dX4_misses_27 : decode cX4_misses 27 = .ok (.getfield 24, 3) := by decide +kernel
theorem dX4_misses_30 : decode cX4_misses 30 = .ok (.iload_n 1, 1) := by decide +kernel
theorem dX4_misses_31 : decode cX4_misses 31 = .ok (.iconst 0, 1) := by decide +kernel
theorem dX4_misses_32 : decode cX4_misses 32 = .ok (.bastore, 1) := by decide +kernel
theorem dX4_misses_33 : decode cX4_misses 33 = .ok (.aload_n 0, 1) := by decide +kernel
theorem dX4_misses_34 : decode cX4_misses 34 = .ok (.invokevirtual 154, 3) := by decide +kernel
theorem dX4_misses_37 : decode cX4_misses 37 = .ok (.aload_n 0, 1) := by decide +kernel
theorem dX4_misses_38 : decode cX4_misses 38 = .ok (.getfield 36, 3) := by decide +kernel
theorem dX4_misses_41 : decode cX4_misses 41 = .ok (.iconst 3, 1) := by decide +kernel
theorem dX4_misses_42 : decode cX4_misses 42 = .ok (.laload, 1) := by decide +kernel
theorem dX4_misses_43 : decode cX4_misses 43 = .ok (.lstore 4, 2) := by decide +kernel
theorem dX4_misses_45 : decode cX4_misses 45 = .ok (.aload_n 0, 1) := by decide +kernel
theorem dX4_misses_46 : decode cX4_misses 46 = .ok (.getfield 40, 3) := by decide +kernel
theorem dX4_misses_49 : decode cX4_misses 49 = .ok (.iconst 3, 1) := by decide +kernel
theorem dX4_misses_50 : decode cX4_misses 50 = .ok (.laload, 1) := by decide +kernel
theorem dX4_misses_51 : decode cX4_misses 51 = .ok (.lstore 6, 2) := by decide +kernel
theorem dX4_misses_53 : decode cX4_misses 53 = .ok (.aload_n 0, 1) := by decide +kernel
theorem dX4_misses_54 : decode cX4_misses 54 = .ok (.getfield 24, 3) := by decide +kernel
theorem dX4_misses_57 : decode cX4_misses 57 = .ok (.iload_n 1, 1) := by decide +kernel
theorem dX4_misses_58 : decode cX4_misses 58 = .ok (.iconst 1, 1) := by decide +kernel
theorem dX4_misses_59 : decode cX4_misses 59 = .ok (.bastore, 1) := by decide +kernel
theorem dX4_misses_60 : decode cX4_misses 60 = .ok (.aload_n 0, 1) := by decide +kernel
theorem dX4_misses_61 : decode cX4_misses 61 = .ok (.invokevirtual 154, 3) := by decide +kernel
theorem dX4_misses_64 : decode cX4_misses 64 = .ok (.aload_n 0, 1) := by decide +kernel
theorem dX4_misses_65 : decode cX4_misses 65 = .ok (.getfield 24, 3) := by decide +kernel
theorem dX4_misses_68 : decode cX4_misses 68 = .ok (.iload_n 1, 1) := by decide +kernel
theorem dX4_misses_69 : decode cX4_misses 69 = .ok (.iload_n 3, 1) := by decide +kernel
theorem dX4_misses_70 : decode cX4_misses 70 = .ok (.bastore, 1) := by decide +kernel
theorem dX4_misses_71 : decode cX4_misses 71 = .ok (.aload_n 0, 1) := by decide +kernel
theorem dX4_misses_72 : decode cX4_misses 72 = .ok (.aload_n 0, 1) := by decide +kernel
theorem dX4_misses_73 : decode cX4_misses 73 = .ok (.getfield 36, 3) := by decide +kernel
theorem dX4_misses_76 : decode cX4_misses 76 = .ok (.iconst 3, 1) := by decide +kernel
theorem dX4_misses_77 : decode cX4_misses 77 = .ok (.laload, 1) := by decide +kernel
theorem dX4_misses_78 : decode cX4_misses 78 = .ok (.aload_n 0, 1) := by decide +kernel
theorem dX4_misses_79 : decode cX4_misses 79 = .ok (.getfield 40, 3) := by decide +kernel
theorem dX4_misses_82 : decode cX4_misses 82 = .ok (.iconst 3, 1) := by decide +kernel
theorem dX4_misses_83 : decode cX4_misses 83 = .ok (.laload, 1) := by decide +kernel
theorem dX4_misses_84 : decode cX4_misses 84 = .ok (.lload 4, 2) := by decide +kernel
theorem dX4_misses_86 : decode cX4_misses 86 = .ok (.lload 6, 2) := by decide +kernel
theorem dX4_misses_88 : decode cX4_misses 88 = .ok (.ldc2_w 132, 3) := by decide +kernel
theorem dX4_misses_91 : decode cX4_misses 91 = .ok (.invokevirtual 128, 3) := by decide +kernel
theorem dX4_misses_94 : decode cX4_misses 94 = .ok (.aload_n 0, 1) := by decide +kernel
theorem dX4_misses_95 : decode cX4_misses 95 = .ok (.iload_n 2, 1) := by decide +kernel
theorem dX4_misses_96 : decode cX4_misses 96 = .ok (.invokevirtual 160, 3) := by decide +kernel
theorem dX4_misses_99 : decode cX4_misses 99 = .ok (.lreturn, 1) := by decide +kernel
theorem dX4_owe_0 : decode cX4_owe 0 = .ok (.aload_n 0, 1) := by decide +kernel
theorem dX4_owe_1 : decode cX4_owe 1 = .ok (.invokevirtual 154, 3) := by decide +kernel
theorem dX4_owe_4 : decode cX4_owe 4 = .ok (.iconst 0, 1) := by decide +kernel
theorem dX4_owe_5 : decode cX4_owe 5 = .ok (.istore_n 1, 1) := by decide +kernel
theorem dX4_owe_6 : decode cX4_owe 6 = .ok (.iconst 0, 1) := by decide +kernel
theorem dX4_owe_7 : decode cX4_owe 7 = .ok (.istore_n 2, 1) := by decide +kernel
theorem dX4_owe_8 : decode cX4_owe 8 = .ok (.iload_n 2, 1) := by decide +kernel
theorem dX4_owe_9 : decode cX4_owe 9 = .ok (.bipush 6, 2) := by decide +kernel
theorem dX4_owe_11 : decode cX4_owe 11 = .ok (.if_icmp .ge 42, 3) := by decide +kernel
theorem dX4_owe_14 : decode cX4_owe 14 = .ok (.aload_n 0, 1) := by decide +kernel
theorem dX4_owe_15 : decode cX4_owe 15 = .ok (.getfield 17, 3) := by decide +kernel
theorem dX4_owe_18 : decode cX4_owe 18 = .ok (.iload_n 2, 1) := by decide +kernel
theorem dX4_owe_19 : decode cX4_owe 19 = .ok (.baload, 1) := by decide +kernel
theorem dX4_owe_20 : decode cX4_owe 20 = .ok (.ifCond .eq 27, 3) := by decide +kernel
theorem dX4_owe_23 : decode cX4_owe 23 = .ok (.aload_n 0, 1) := by decide +kernel
theorem dX4_owe_24 : decode cX4_owe 24 = .ok (.iload_n 2, 1) := by decide +kernel
theorem dX4_owe_25 : decode cX4_owe 25 = .ok (.invokevirtual 166, 3) := by decide +kernel
theorem dX4_owe_28 : decode cX4_owe 28 = .ok (.iload_n 1, 1) := by decide +kernel
theorem dX4_owe_29 : decode cX4_owe 29 = .ok (.aload_n 0, 1) := by decide +kernel
theorem dX4_owe_30 : decode cX4_owe 30 = .ok (.getfield 75, 3) := by decide +kernel
theorem dX4_owe_33 : decode cX4_owe 33 = .ok (.lconst 0, 1) := by decide +kernel
theorem dX4_owe_34 : decode cX4_owe 34 = .ok (.lcmp, 1) := by decide +kernel
theorem dX4_owe_35 : decode cX4_owe 35 = .ok (.ifCond .le 9, 3) := by decide +kernel
theorem dX4_owe_38 : decode cX4_owe 38 = .ok (.iconst 1, 1) := by decide +kernel
theorem dX4_owe_39 : decode cX4_owe 39 = .ok (.iload_n 2, 1) := by decide +kernel
theorem dX4_owe_40 : decode cX4_owe 40 = .ok (.ishl, 1) := by decide +kernel
theorem dX4_owe_41 : decode cX4_owe 41 = .ok (.goto 4, 3) := by decide +kernel
theorem dX4_owe_44 : decode cX4_owe 44 = .ok (.iconst 0, 1) := by decide +kernel
theorem dX4_owe_45 : decode cX4_owe 45 = .ok (.ior, 1) := by decide +kernel
theorem dX4_owe_46 : decode cX4_owe 46 = .ok (.istore_n 1, 1) := by decide +kernel
theorem dX4_owe_47 : decode cX4_owe 47 = .ok (.iinc 2 1, 3) := by decide +kernel
theorem dX4_owe_50 : decode cX4_owe 50 = .ok (.goto (-42), 3) := by decide +kernel
theorem dX4_owe_53 : decode cX4_owe 53 = .ok (.iload_n 1, 1) := by decide +kernel
theorem dX4_owe_54 : decode cX4_owe 54 = .ok (.ireturn, 1) := by decide +kernel
theorem dX4_paidAll_0 : decode cX4_paidAll 0 = .ok (.lconst 0, 1) := by decide +kernel
theorem dX4_paidAll_1 : decode cX4_paidAll 1 = .ok (.lstore_n 1, 1) := by decide +kernel
theorem dX4_paidAll_2 : decode cX4_paidAll 2 = .ok (.iconst 0, 1) := by decide +kernel
theorem dX4_paidAll_3 : decode cX4_paidAll 3 = .ok (.istore_n 3, 1) := by decide +kernel
theorem dX4_paidAll_4 : decode cX4_paidAll 4 = .ok (.iload_n 3, 1) := by decide +kernel
theorem dX4_paidAll_5 : decode cX4_paidAll 5 = .ok (.bipush 6, 2) := by decide +kernel
theorem dX4_paidAll_7 : decode cX4_paidAll 7 = .ok (.if_icmp .ge 19, 3) := by decide +kernel
theorem dX4_paidAll_10 : decode cX4_paidAll 10 = .ok (.lload_n 1, 1) := by decide +kernel
theorem dX4_paidAll_11 : decode cX4_paidAll 11 = .ok (.aload_n 0, 1) := by decide +kernel
theorem dX4_paidAll_12 : decode cX4_paidAll 12 = .ok (.getfield 33, 3) := by decide +kernel
theorem dX4_paidAll_15 : decode cX4_paidAll 15 = .ok (.iload_n 3, 1) := by decide +kernel
theorem dX4_paidAll_16 : decode cX4_paidAll 16 = .ok (.iaload, 1) := by decide +kernel
theorem dX4_paidAll_17 : decode cX4_paidAll 17 = .ok (.i2l, 1) := by decide +kernel
theorem dX4_paidAll_18 : decode cX4_paidAll 18 = .ok (.ladd, 1) := by decide +kernel
theorem dX4_paidAll_19 : decode cX4_paidAll 19 = .ok (.lstore_n 1, 1) := by decide +kernel
theorem dX4_paidAll_20 : decode cX4_paidAll 20 = .ok (.iinc 3 1, 3) := by decide +kernel
theorem dX4_paidAll_23 : decode cX4_paidAll 23 = .ok (.goto (-19), 3) := by decide +kernel
theorem dX4_paidAll_26 : decode cX4_paidAll 26 = .ok (.lload_n 1, 1) := by decide +kernel
theorem dX4_paidAll_27 : decode cX4_paidAll 27 = .ok (.lreturn, 1) := by decide +kernel
theorem dX4_pay_0 : decode cX4_pay 0 = .ok (.aload_n 0, 1) := by decide +kernel
theorem dX4_pay_1 : decode cX4_pay 1 = .ok (.iload_n 1, 1) := by decide +kernel
theorem dX4_pay_2 : decode cX4_pay 2 = .ok (.invokevirtual 98, 3) := by decide +kernel
theorem dX4_pay_5 : decode cX4_pay 5 = .ok (.ifCond .ne 5, 3) := by decide +kernel
theorem dX4_pay_8 : decode cX4_pay 8 = .ok (.iconst (-1), 1) := by decide +kernel
theorem dX4_pay_9 : decode cX4_pay 9 = .ok (.ireturn, 1) := by decide +kernel
theorem dX4_pay_10 : decode cX4_pay 10 = .ok (.iload_n 2, 1) := by decide +kernel
theorem dX4_pay_11 : decode cX4_pay 11 = .ok (.iconst 1, 1) := by decide +kernel
theorem dX4_pay_12 : decode cX4_pay 12 = .ok (.ldc 86, 2) := by decide +kernel
theorem dX4_pay_14 : decode cX4_pay 14 = .ok (.invokestatic 82, 3) := by decide +kernel
theorem dX4_pay_17 : decode cX4_pay 17 = .ok (.ifCond .ne 6, 3) := by decide +kernel
theorem dX4_pay_20 : decode cX4_pay 20 = .ok (.bipush (-2), 2) := by decide +kernel
theorem dX4_pay_22 : decode cX4_pay 22 = .ok (.ireturn, 1) := by decide +kernel
theorem dX4_pay_23 : decode cX4_pay 23 = .ok (.aload_n 0, 1) := by decide +kernel
theorem dX4_pay_24 : decode cX4_pay 24 = .ok (.invokevirtual 154, 3) := by decide +kernel
theorem dX4_pay_27 : decode cX4_pay 27 = .ok (.aload_n 0, 1) := by decide +kernel
theorem dX4_pay_28 : decode cX4_pay 28 = .ok (.getfield 24, 3) := by decide +kernel
theorem dX4_pay_31 : decode cX4_pay 31 = .ok (.iload_n 1, 1) := by decide +kernel
theorem dX4_pay_32 : decode cX4_pay 32 = .ok (.baload, 1) := by decide +kernel
theorem dX4_pay_33 : decode cX4_pay 33 = .ok (.ifCond .ne 38, 3) := by decide +kernel
theorem dX4_pay_36 : decode cX4_pay 36 = .ok (.aload_n 0, 1) := by decide +kernel
theorem dX4_pay_37 : decode cX4_pay 37 = .ok (.getfield 30, 3) := by decide +kernel
theorem dX4_pay_40 : decode cX4_pay 40 = .ok (.iload_n 1, 1) := by decide +kernel
theorem dX4_pay_41 : decode cX4_pay 41 = .ok (.iaload, 1) := by decide +kernel
theorem dX4_pay_42 : decode cX4_pay 42 = .ok (.bipush (-9), 2) := by decide +kernel
theorem dX4_pay_44 : decode cX4_pay 44 = .ok (.if_icmp .ne 27, 3) := by decide +kernel
theorem dX4_pay_47 : decode cX4_pay 47 = .ok (.aload_n 0, 1) := by decide +kernel
theorem dX4_pay_48 : decode cX4_pay 48 = .ok (.invokevirtual 175, 3) := by decide +kernel
theorem dX4_pay_51 : decode cX4_pay 51 = .ok (.iload_n 2, 1) := by decide +kernel
theorem dX4_pay_52 : decode cX4_pay 52 = .ok (.i2l, 1) := by decide +kernel
theorem dX4_pay_53 : decode cX4_pay 53 = .ok (.ladd, 1) := by decide +kernel
theorem dX4_pay_54 : decode cX4_pay 54 = .ok (.aload_n 0, 1) := by decide +kernel
theorem dX4_pay_55 : decode cX4_pay 55 = .ok (.getfield 40, 3) := by decide +kernel
theorem dX4_pay_58 : decode cX4_pay 58 = .ok (.iconst 4, 1) := by decide +kernel
theorem dX4_pay_59 : decode cX4_pay 59 = .ok (.laload, 1) := by decide +kernel
theorem dX4_pay_60 : decode cX4_pay 60 = .ok (.lmul, 1) := by decide +kernel
theorem dX4_pay_61 : decode cX4_pay 61 = .ok (.aload_n 0, 1) := by decide +kernel
theorem dX4_pay_62 : decode cX4_pay 62 = .ok (.getfield 36, 3) := by decide +kernel
theorem dX4_pay_65 : decode cX4_pay 65 = .ok (.iconst 4, 1) := by decide +kernel
theorem dX4_pay_66 : decode cX4_pay 66 = .ok (.laload, 1) := by decide +kernel
theorem dX4_pay_67 : decode cX4_pay 67 = .ok (.lcmp, 1) := by decide +kernel
theorem dX4_pay_68 : decode cX4_pay 68 = .ok (.ifCond .le 6, 3) := by decide +kernel
theorem dX4_pay_71 : decode cX4_pay 71 = .ok (.bipush (-3), 2) := by decide +kernel
theorem dX4_pay_73 : decode cX4_pay 73 = .ok (.ireturn, 1) := by decide +kernel
theorem dX4_pay_74 : decode cX4_pay 74 = .ok (.aload_n 0, 1) := by decide +kernel
theorem dX4_pay_75 : decode cX4_pay 75 = .ok (.getfield 33, 3) := by decide +kernel
theorem dX4_pay_78 : decode cX4_pay 78 = .ok (.iload_n 1, 1) := by decide +kernel
theorem dX4_pay_79 : decode cX4_pay 79 = .ok (.dup2, 1) := by decide +kernel
theorem dX4_pay_80 : decode cX4_pay 80 = .ok (.iaload, 1) := by decide +kernel
theorem dX4_pay_81 : decode cX4_pay 81 = .ok (.iload_n 2, 1) := by decide +kernel
theorem dX4_pay_82 : decode cX4_pay 82 = .ok (.iadd, 1) := by decide +kernel
theorem dX4_pay_83 : decode cX4_pay 83 = .ok (.iastore, 1) := by decide +kernel
theorem dX4_pay_84 : decode cX4_pay 84 = .ok (.aload_n 0, 1) := by decide +kernel
theorem dX4_pay_85 : decode cX4_pay 85 = .ok (.getfield 33, 3) := by decide +kernel
theorem dX4_pay_88 : decode cX4_pay 88 = .ok (.iload_n 1, 1) := by decide +kernel
theorem dX4_pay_89 : decode cX4_pay 89 = .ok (.iaload, 1) := by decide +kernel
theorem dX4_pay_90 : decode cX4_pay 90 = .ok (.ireturn, 1) := by decide +kernel
theorem dX4_refund_0 : decode cX4_refund 0 = .ok (.aload_n 0, 1) := by decide +kernel
theorem dX4_refund_1 : decode cX4_refund 1 = .ok (.iload_n 1, 1) := by decide +kernel
theorem dX4_refund_2 : decode cX4_refund 2 = .ok (.invokevirtual 98, 3) := by decide +kernel
theorem dX4_refund_5 : decode cX4_refund 5 = .ok (.ifCond .ne 5, 3) := by decide +kernel
theorem dX4_refund_8 : decode cX4_refund 8 = .ok (.iconst (-1), 1) := by decide +kernel
theorem dX4_refund_9 : decode cX4_refund 9 = .ok (.ireturn, 1) := by decide +kernel
theorem dX4_refund_10 : decode cX4_refund 10 = .ok (.aload_n 0, 1) := by decide +kernel
theorem dX4_refund_11 : decode cX4_refund 11 = .ok (.getfield 33, 3) := by decide +kernel
theorem dX4_refund_14 : decode cX4_refund 14 = .ok (.iload_n 1, 1) := by decide +kernel
theorem dX4_refund_15 : decode cX4_refund 15 = .ok (.iaload, 1) := by decide +kernel
theorem dX4_refund_16 : decode cX4_refund 16 = .ok (.ifCond .ne 6, 3) := by decide +kernel
theorem dX4_refund_19 : decode cX4_refund 19 = .ok (.bipush (-3), 2) := by decide +kernel
theorem dX4_refund_21 : decode cX4_refund 21 = .ok (.ireturn, 1) := by decide +kernel
theorem dX4_refund_22 : decode cX4_refund 22 = .ok (.aload_n 0, 1) := by decide +kernel
theorem dX4_refund_23 : decode cX4_refund 23 = .ok (.getfield 33, 3) := by decide +kernel
theorem dX4_refund_26 : decode cX4_refund 26 = .ok (.iload_n 1, 1) := by decide +kernel
theorem dX4_refund_27 : decode cX4_refund 27 = .ok (.iaload, 1) := by decide +kernel
theorem dX4_refund_28 : decode cX4_refund 28 = .ok (.istore_n 2, 1) := by decide +kernel
theorem dX4_refund_29 : decode cX4_refund 29 = .ok (.aload_n 0, 1) := by decide +kernel
theorem dX4_refund_30 : decode cX4_refund 30 = .ok (.getfield 33, 3) := by decide +kernel
theorem dX4_refund_33 : decode cX4_refund 33 = .ok (.iload_n 1, 1) := by decide +kernel
theorem dX4_refund_34 : decode cX4_refund 34 = .ok (.iconst 0, 1) := by decide +kernel
theorem dX4_refund_35 : decode cX4_refund 35 = .ok (.iastore, 1) := by decide +kernel
theorem dX4_refund_36 : decode cX4_refund 36 = .ok (.iload_n 2, 1) := by decide +kernel
theorem dX4_refund_37 : decode cX4_refund 37 = .ok (.ireturn, 1) := by decide +kernel
theorem dX4_findFair_0 : decode cX4_findFair 0 = .ok (.aload_n 0, 1) := by decide +kernel
theorem dX4_findFair_1 : decode cX4_findFair 1 = .ok (.getfield 36, 3) := by decide +kernel
theorem dX4_findFair_4 : decode cX4_findFair 4 = .ok (.iconst 4, 1) := by decide +kernel
theorem dX4_findFair_5 : decode cX4_findFair 5 = .ok (.laload, 1) := by decide +kernel
theorem dX4_findFair_6 : decode cX4_findFair 6 = .ok (.lconst 0, 1) := by decide +kernel
theorem dX4_findFair_7 : decode cX4_findFair 7 = .ok (.lcmp, 1) := by decide +kernel
theorem dX4_findFair_8 : decode cX4_findFair 8 = .ok (.ifCond .ne 10, 3) := by decide +kernel
theorem dX4_findFair_11 : decode cX4_findFair 11 = .ok (.aload_n 0, 1) := by decide +kernel
theorem dX4_findFair_12 : decode cX4_findFair 12 = .ok (.lconst 0, 1) := by decide +kernel
theorem dX4_findFair_13 : decode cX4_findFair 13 = .ok (.lconst 1, 1) := by decide +kernel
theorem dX4_findFair_14 : decode cX4_findFair 14 = .ok (.invokevirtual 78, 3) := by decide +kernel
theorem dX4_findFair_17 : decode cX4_findFair 17 = .ok (.return_, 1) := by decide +kernel
theorem dX4_findFair_18 : decode cX4_findFair 18 = .ok (.aload_n 0, 1) := by decide +kernel
theorem dX4_findFair_19 : decode cX4_findFair 19 = .ok (.iload_n 1, 1) := by decide +kernel
theorem dX4_findFair_20 : decode cX4_findFair 20 = .ok (.invokevirtual 166, 3) := by decide +kernel
theorem dX4_findFair_23 : decode cX4_findFair 23 = .ok (.aload_n 0, 1) := by decide +kernel
theorem dX4_findFair_24 : decode cX4_findFair 24 = .ok (.aload_n 0, 1) := by decide +kernel
theorem dX4_findFair_25 : decode cX4_findFair 25 = .ok (.getfield 75, 3) := by decide +kernel
theorem dX4_findFair_28 : decode cX4_findFair 28 = .ok (.aload_n 0, 1) := by decide +kernel
theorem dX4_findFair_29 : decode cX4_findFair 29 = .ok (.getfield 7, 3) := by decide +kernel
theorem dX4_findFair_32 : decode cX4_findFair 32 = .ok (.aload_n 0, 1) := by decide +kernel
theorem dX4_findFair_33 : decode cX4_findFair 33 = .ok (.getfield 40, 3) := by decide +kernel
theorem dX4_findFair_36 : decode cX4_findFair 36 = .ok (.iconst 4, 1) := by decide +kernel
theorem dX4_findFair_37 : decode cX4_findFair 37 = .ok (.laload, 1) := by decide +kernel
theorem dX4_findFair_38 : decode cX4_findFair 38 = .ok (.aload_n 0, 1) := by decide +kernel
theorem dX4_findFair_39 : decode cX4_findFair 39 = .ok (.getfield 36, 3) := by decide +kernel
theorem dX4_findFair_42 : decode cX4_findFair 42 = .ok (.iconst 4, 1) := by decide +kernel
theorem dX4_findFair_43 : decode cX4_findFair 43 = .ok (.laload, 1) := by decide +kernel
theorem dX4_findFair_44 : decode cX4_findFair 44 = .ok (.invokevirtual 145, 3) := by decide +kernel
theorem dX4_findFair_47 : decode cX4_findFair 47 = .ok (.aload_n 0, 1) := by decide +kernel
theorem dX4_findFair_48 : decode cX4_findFair 48 = .ok (.aload_n 0, 1) := by decide +kernel
theorem dX4_findFair_49 : decode cX4_findFair 49 = .ok (.getfield 75, 3) := by decide +kernel
theorem dX4_findFair_52 : decode cX4_findFair 52 = .ok (.aload_n 0, 1) := by decide +kernel
theorem dX4_findFair_53 : decode cX4_findFair 53 = .ok (.getfield 7, 3) := by decide +kernel
theorem dX4_findFair_56 : decode cX4_findFair 56 = .ok (.aload_n 0, 1) := by decide +kernel
theorem dX4_findFair_57 : decode cX4_findFair 57 = .ok (.invokevirtual 175, 3) := by decide +kernel
theorem dX4_findFair_60 : decode cX4_findFair 60 = .ok (.lconst 1, 1) := by decide +kernel
theorem dX4_findFair_61 : decode cX4_findFair 61 = .ok (.invokevirtual 145, 3) := by decide +kernel
theorem dX4_findFair_64 : decode cX4_findFair 64 = .ok (.return_, 1) := by decide +kernel
theorem dX4_findOver_0 : decode cX4_findOver 0 = .ok (.aload_n 0, 1) := by decide +kernel
theorem dX4_findOver_1 : decode cX4_findOver 1 = .ok (.iload_n 1, 1) := by decide +kernel
theorem dX4_findOver_2 : decode cX4_findOver 2 = .ok (.invokevirtual 179, 3) := by decide +kernel
theorem dX4_findOver_5 : decode cX4_findOver 5 = .ok (.aload_n 0, 1) := by decide +kernel
theorem dX4_findOver_6 : decode cX4_findOver 6 = .ok (.aload_n 0, 1) := by decide +kernel
theorem dX4_findOver_7 : decode cX4_findOver 7 = .ok (.getfield 33, 3) := by decide +kernel
theorem dX4_findOver_10 : decode cX4_findOver 10 = .ok (.iload_n 1, 1) := by decide +kernel
theorem dX4_findOver_11 : decode cX4_findOver 11 = .ok (.iaload, 1) := by decide +kernel
theorem dX4_findOver_12 : decode cX4_findOver 12 = .ok (.i2l, 1) := by decide +kernel
theorem dX4_findOver_13 : decode cX4_findOver 13 = .ok (.lconst 1, 1) := by decide +kernel
theorem dX4_findOver_14 : decode cX4_findOver 14 = .ok (.aload_n 0, 1) := by decide +kernel
theorem dX4_findOver_15 : decode cX4_findOver 15 = .ok (.getfield 75, 3) := by decide +kernel
theorem dX4_findOver_18 : decode cX4_findOver 18 = .ok (.aload_n 0, 1) := by decide +kernel
theorem dX4_findOver_19 : decode cX4_findOver 19 = .ok (.getfield 7, 3) := by decide +kernel
theorem dX4_findOver_22 : decode cX4_findOver 22 = .ok (.ldc2_w 132, 3) := by decide +kernel
theorem dX4_findOver_25 : decode cX4_findOver 25 = .ok (.invokevirtual 128, 3) := by decide +kernel
theorem dX4_findOver_28 : decode cX4_findOver 28 = .ok (.return_, 1) := by decide +kernel
theorem dX4_fair_0 : decode cX4_fair 0 = .ok (.aload_n 0, 1) := by decide +kernel
theorem dX4_fair_1 : decode cX4_fair 1 = .ok (.iload_n 1, 1) := by decide +kernel
theorem dX4_fair_2 : decode cX4_fair 2 = .ok (.invokevirtual 98, 3) := by decide +kernel
theorem dX4_fair_5 : decode cX4_fair 5 = .ok (.ifCond .eq 10, 3) := by decide +kernel
theorem dX4_fair_8 : decode cX4_fair 8 = .ok (.iload_n 2, 1) := by decide +kernel
theorem dX4_fair_9 : decode cX4_fair 9 = .ok (.invokestatic 149, 3) := by decide +kernel
theorem dX4_fair_12 : decode cX4_fair 12 = .ok (.ifCond .ne 7, 3) := by decide +kernel
theorem dX4_fair_15 : decode cX4_fair 15 = .ok (.ldc2_w 152, 3) := by decide +kernel
theorem dX4_fair_18 : decode cX4_fair 18 = .ok (.lreturn, 1) := by decide +kernel
theorem dX4_fair_19 : decode cX4_fair 19 = .ok (.aload_n 0, 1) := by decide +kernel
theorem dX4_fair_20 : decode cX4_fair 20 = .ok (.invokevirtual 154, 3) := by decide +kernel
theorem dX4_fair_23 : decode cX4_fair 23 = .ok (.aload_n 0, 1) := by decide +kernel
theorem dX4_fair_24 : decode cX4_fair 24 = .ok (.iload_n 1, 1) := by decide +kernel
theorem dX4_fair_25 : decode cX4_fair 25 = .ok (.invokevirtual 179, 3) := by decide +kernel
theorem dX4_fair_28 : decode cX4_fair 28 = .ok (.aload_n 0, 1) := by decide +kernel
theorem dX4_fair_29 : decode cX4_fair 29 = .ok (.iload_n 2, 1) := by decide +kernel
theorem dX4_fair_30 : decode cX4_fair 30 = .ok (.invokevirtual 160, 3) := by decide +kernel
theorem dX4_fair_33 : decode cX4_fair 33 = .ok (.lreturn, 1) := by decide +kernel
theorem dX4_over_0 : decode cX4_over 0 = .ok (.aload_n 0, 1) := by decide +kernel
theorem dX4_over_1 : decode cX4_over 1 = .ok (.iload_n 1, 1) := by decide +kernel
theorem dX4_over_2 : decode cX4_over 2 = .ok (.invokevirtual 98, 3) := by decide +kernel
theorem dX4_over_5 : decode cX4_over 5 = .ok (.ifCond .eq 10, 3) := by decide +kernel
theorem dX4_over_8 : decode cX4_over 8 = .ok (.iload_n 2, 1) := by decide +kernel
theorem dX4_over_9 : decode cX4_over 9 = .ok (.invokestatic 149, 3) := by decide +kernel
theorem dX4_over_12 : decode cX4_over 12 = .ok (.ifCond .ne 7, 3) := by decide +kernel
theorem dX4_over_15 : decode cX4_over 15 = .ok (.ldc2_w 152, 3) := by decide +kernel
theorem dX4_over_18 : decode cX4_over 18 = .ok (.lreturn, 1) := by decide +kernel
theorem dX4_over_19 : decode cX4_over 19 = .ok (.aload_n 0, 1) := by decide +kernel
theorem dX4_over_20 : decode cX4_over 20 = .ok (.invokevirtual 154, 3) := by decide +kernel
theorem dX4_over_23 : decode cX4_over 23 = .ok (.aload_n 0, 1) := by decide +kernel
theorem dX4_over_24 : decode cX4_over 24 = .ok (.iload_n 1, 1) := by decide +kernel
theorem dX4_over_25 : decode cX4_over 25 = .ok (.invokevirtual 182, 3) := by decide +kernel
theorem dX4_over_28 : decode cX4_over 28 = .ok (.aload_n 0, 1) := by decide +kernel
theorem dX4_over_29 : decode cX4_over 29 = .ok (.iload_n 2, 1) := by decide +kernel
theorem dX4_over_30 : decode cX4_over 30 = .ok (.invokevirtual 160, 3) := by decide +kernel
theorem dX4_over_33 : decode cX4_over 33 = .ok (.lreturn, 1) := by decide +kernel
theorem dX4_firstWith_0 : decode cX4_firstWith 0 = .ok (.iconst 0, 1) := by decide +kernel
theorem dX4_firstWith_1 : decode cX4_firstWith 1 = .ok (.istore_n 2, 1) := by decide +kernel
theorem dX4_firstWith_2 : decode cX4_firstWith 2 = .ok (.iload_n 2, 1) := by decide +kernel
theorem dX4_firstWith_3 : decode cX4_firstWith 3 = .ok (.bipush 6, 2) := by decide +kernel
theorem dX4_firstWith_5 : decode cX4_firstWith 5 = .ok (.if_icmp .ge 25, 3) := by decide +kernel
theorem dX4_firstWith_8 : decode cX4_firstWith 8 = .ok (.aload_n 0, 1) := by decide +kernel
theorem dX4_firstWith_9 : decode cX4_firstWith 9 = .ok (.getfield 49, 3) := by decide +kernel
theorem dX4_firstWith_12 : decode cX4_firstWith 12 = .ok (.iload_n 2, 1) := by decide +kernel
theorem dX4_firstWith_13 : decode cX4_firstWith 13 = .ok (.laload, 1) := by decide +kernel
theorem dX4_firstWith_14 : decode cX4_firstWith 14 = .ok (.iload_n 1, 1) := by decide +kernel
theorem dX4_firstWith_15 : decode cX4_firstWith 15 = .ok (.i2l, 1) := by decide +kernel
theorem dX4_firstWith_16 : decode cX4_firstWith 16 = .ok (.lmul, 1) := by decide +kernel
theorem dX4_firstWith_17 : decode cX4_firstWith 17 = .ok (.lconst 0, 1) := by decide +kernel
theorem dX4_firstWith_18 : decode cX4_firstWith 18 = .ok (.lcmp, 1) := by decide +kernel
theorem dX4_firstWith_19 : decode cX4_firstWith 19 = .ok (.ifCond .le 5, 3) := by decide +kernel
theorem dX4_firstWith_22 : decode cX4_firstWith 22 = .ok (.iload_n 2, 1) := by decide +kernel
theorem dX4_firstWith_23 : decode cX4_firstWith 23 = .ok (.ireturn, 1) := by decide +kernel
theorem dX4_firstWith_24 : decode cX4_firstWith 24 = .ok (.iinc 2 1, 3) := by decide +kernel
theorem dX4_firstWith_27 : decode cX4_firstWith 27 = .ok (.goto (-25), 3) := by decide +kernel
theorem dX4_firstWith_30 : decode cX4_firstWith 30 = .ok (.bipush (-9), 2) := by decide +kernel
theorem dX4_firstWith_32 : decode cX4_firstWith 32 = .ok (.ireturn, 1) := by decide +kernel
theorem dX4_findTransfers_0 : decode cX4_findTransfers 0 = .ok (.aload_n 0, 1) := by decide +kernel
theorem dX4_findTransfers_1 : decode cX4_findTransfers 1 = .ok (.invokevirtual 154, 3) := by decide +kernel
theorem dX4_findTransfers_4 : decode cX4_findTransfers 4 = .ok (.iconst 0, 1) := by decide +kernel
theorem dX4_findTransfers_5 : decode cX4_findTransfers 5 = .ok (.istore_n 1, 1) := by decide +kernel
theorem dX4_findTransfers_6 : decode cX4_findTransfers 6 = .ok (.iload_n 1, 1) := by decide +kernel
theorem dX4_findTransfers_7 : decode cX4_findTransfers 7 = .ok (.bipush 6, 2) := by decide +kernel
theorem dX4_findTransfers_9 : decode cX4_findTransfers 9 = .ok (.if_icmp .ge 57, 3) := by decide +kernel
theorem dX4_findTransfers_12 : decode cX4_findTransfers 12 = .ok (.aload_n 0, 1) := by decide +kernel
theorem dX4_findTransfers_13 : decode cX4_findTransfers 13 = .ok (.getfield 49, 3) := by decide +kernel
theorem dX4_findTransfers_16 : decode cX4_findTransfers 16 = .ok (.iload_n 1, 1) := by decide +kernel
theorem dX4_findTransfers_17 : decode cX4_findTransfers 17 = .ok (.lconst 0, 1) := by decide +kernel
theorem dX4_findTransfers_18 : decode cX4_findTransfers 18 = .ok (.lastore, 1) := by decide +kernel
theorem dX4_findTransfers_19 : decode cX4_findTransfers 19 = .ok (.aload_n 0, 1) := by decide +kernel
theorem dX4_findTransfers_20 : decode cX4_findTransfers 20 = .ok (.getfield 52, 3) := by decide +kernel
theorem dX4_findTransfers_23 : decode cX4_findTransfers 23 = .ok (.iload_n 1, 1) := by decide +kernel
theorem dX4_findTransfers_24 : decode cX4_findTransfers 24 = .ok (.lconst 1, 1) := by decide +kernel
theorem dX4_findTransfers_25 : decode cX4_findTransfers 25 = .ok (.lastore, 1) := by decide +kernel
theorem dX4_findTransfers_26 : decode cX4_findTransfers 26 = .ok (.aload_n 0, 1) := by decide +kernel
theorem dX4_findTransfers_27 : decode cX4_findTransfers 27 = .ok (.getfield 17, 3) := by decide +kernel
theorem dX4_findTransfers_30 : decode cX4_findTransfers 30 = .ok (.iload_n 1, 1) := by decide +kernel
theorem dX4_findTransfers_31 : decode cX4_findTransfers 31 = .ok (.baload, 1) := by decide +kernel
theorem dX4_findTransfers_32 : decode cX4_findTransfers 32 = .ok (.ifCond .eq 28, 3) := by decide +kernel
theorem dX4_findTransfers_35 : decode cX4_findTransfers 35 = .ok (.aload_n 0, 1) := by decide +kernel
theorem dX4_findTransfers_36 : decode cX4_findTransfers 36 = .ok (.iload_n 1, 1) := by decide +kernel
theorem dX4_findTransfers_37 : decode cX4_findTransfers 37 = .ok (.invokevirtual 182, 3) := by decide +kernel
theorem dX4_findTransfers_40 : decode cX4_findTransfers 40 = .ok (.aload_n 0, 1) := by decide +kernel
theorem dX4_findTransfers_41 : decode cX4_findTransfers 41 = .ok (.getfield 49, 3) := by decide +kernel
theorem dX4_findTransfers_44 : decode cX4_findTransfers 44 = .ok (.iload_n 1, 1) := by decide +kernel
theorem dX4_findTransfers_45 : decode cX4_findTransfers 45 = .ok (.aload_n 0, 1) := by decide +kernel
theorem dX4_findTransfers_46 : decode cX4_findTransfers 46 = .ok (.getfield 75, 3) := by decide +kernel
theorem dX4_findTransfers_49 : decode cX4_findTransfers 49 = .ok (.lastore, 1) := by decide +kernel
theorem dX4_findTransfers_50 : decode cX4_findTransfers 50 = .ok (.aload_n 0, 1) := by decide +kernel
theorem dX4_findTransfers_51 : decode cX4_findTransfers 51 = .ok (.getfield 52, 3) := by decide +kernel
theorem dX4_findTransfers_54 : decode cX4_findTransfers 54 = .ok (.iload_n 1, 1) := by decide +kernel
theorem dX4_findTransfers_55 : decode cX4_findTransfers 55 = .ok (.aload_n 0, 1) := by decide +kernel
theorem dX4_findTransfers_56 : decode cX4_findTransfers 56 = .ok (.getfield 7, 3) := by decide +kernel
theorem dX4_findTransfers_59 : decode cX4_findTransfers 59 = .ok (.lastore, 1) := by decide +kernel
theorem dX4_findTransfers_60 : decode cX4_findTransfers 60 = .ok (.iinc 1 1, 3) := by decide +kernel
theorem dX4_findTransfers_63 : decode cX4_findTransfers 63 = .ok (.goto (-57), 3) := by decide +kernel
theorem dX4_findTransfers_66 : decode cX4_findTransfers 66 = .ok (.aload_n 0, 1) := by decide +kernel
theorem dX4_findTransfers_67 : decode cX4_findTransfers 67 = .ok (.iconst 0, 1) := by decide +kernel
theorem dX4_findTransfers_68 : decode cX4_findTransfers 68 = .ok (.putfield 185, 3) := by decide +kernel
theorem dX4_findTransfers_71 : decode cX4_findTransfers 71 = .ok (.aload_n 0, 1) := by decide +kernel
theorem dX4_findTransfers_72 : decode cX4_findTransfers 72 = .ok (.iconst (-1), 1) := by decide +kernel
theorem dX4_findTransfers_73 : decode cX4_findTransfers 73 = .ok (.invokevirtual 188, 3) := by decide +kernel
theorem dX4_findTransfers_76 : decode cX4_findTransfers 76 = .ok (.istore_n 1, 1) := by decide +kernel
theorem dX4_findTransfers_77 : decode cX4_findTransfers 77 = .ok (.aload_n 0, 1) := by decide +kernel
theorem dX4_findTransfers_78 : decode cX4_findTransfers 78 = .ok (.iconst 1, 1) := by decide +kernel
theorem dX4_findTransfers_79 : decode cX4_findTransfers 79 = .ok (.invokevirtual 188, 3) := by decide +kernel
theorem dX4_findTransfers_82 : decode cX4_findTransfers 82 = .ok (.istore_n 2, 1) := by decide +kernel
theorem dX4_findTransfers_83 : decode cX4_findTransfers 83 = .ok (.iload_n 1, 1) := by decide +kernel
theorem dX4_findTransfers_84 : decode cX4_findTransfers 84 = .ok (.bipush (-9), 2) := by decide +kernel
theorem dX4_findTransfers_86 : decode cX4_findTransfers 86 = .ok (.if_icmp .eq 30, 3) := by decide +kernel
theorem dX4_findTransfers_89 : decode cX4_findTransfers 89 = .ok (.iload_n 2, 1) := by decide +kernel
theorem dX4_findTransfers_90 : decode cX4_findTransfers 90 = .ok (.bipush (-9), 2) := by decide +kernel
theorem dX4_findTransfers_92 : decode cX4_findTransfers 92 = .ok (.if_icmp .eq 24, 3) := by decide +kernel
theorem dX4_findTransfers_95 : decode cX4_findTransfers 95 = .ok (.aload_n 0, 1) := by decide +kernel
theorem dX4_findTransfers_96 : decode cX4_findTransfers 96 = .ok (.iload_n 1, 1) := by decide +kernel
theorem dX4_findTransfers_97 : decode cX4_findTransfers 97 = .ok (.iload_n 2, 1) := by decide +kernel
theorem dX4_findTransfers_98 : decode cX4_findTransfers 98 = .ok (.invokevirtual 191, 3) := by decide +kernel
theorem dX4_findTransfers_101 : decode cX4_findTransfers 101 = .ok (.aload_n 0, 1) := by decide +kernel
theorem dX4_findTransfers_102 : decode cX4_findTransfers 102 = .ok (.iconst (-1), 1) := by decide +kernel
theorem dX4_findTransfers_103 : decode cX4_findTransfers 103 = .ok (.invokevirtual 188, 3) := by decide +kernel
theorem dX4_findTransfers_106 : decode cX4_findTransfers 106 = .ok (.istore_n 1, 1) := by decide +kernel
theorem dX4_findTransfers_107 : decode cX4_findTransfers 107 = .ok (.aload_n 0, 1) := by decide +kernel
theorem dX4_findTransfers_108 : decode cX4_findTransfers 108 = .ok (.iconst 1, 1) := by decide +kernel
theorem dX4_findTransfers_109 : decode cX4_findTransfers 109 = .ok (.invokevirtual 188, 3) := by decide +kernel
theorem dX4_findTransfers_112 : decode cX4_findTransfers 112 = .ok (.istore_n 2, 1) := by decide +kernel
theorem dX4_findTransfers_113 : decode cX4_findTransfers 113 = .ok (.goto (-30), 3) := by decide +kernel
theorem dX4_findTransfers_116 : decode cX4_findTransfers 116 = .ok (.return_, 1) := by decide +kernel
theorem dX4_goesOver_0 : decode cX4_goesOver 0 = .ok (.aload_n 0, 1) := by decide +kernel
theorem dX4_goesOver_1 : decode cX4_goesOver 1 = .ok (.aload_n 0, 1) := by decide +kernel
theorem dX4_goesOver_2 : decode cX4_goesOver 2 = .ok (.getfield 49, 3) := by decide +kernel
theorem dX4_goesOver_5 : decode cX4_goesOver 5 = .ok (.iload_n 1, 1) := by decide +kernel
theorem dX4_goesOver_6 : decode cX4_goesOver 6 = .ok (.laload, 1) := by decide +kernel
theorem dX4_goesOver_7 : decode cX4_goesOver 7 = .ok (.aload_n 0, 1) := by decide +kernel
theorem dX4_goesOver_8 : decode cX4_goesOver 8 = .ok (.getfield 52, 3) := by decide +kernel
theorem dX4_goesOver_11 : decode cX4_goesOver 11 = .ok (.iload_n 1, 1) := by decide +kernel
theorem dX4_goesOver_12 : decode cX4_goesOver 12 = .ok (.laload, 1) := by decide +kernel
theorem dX4_goesOver_13 : decode cX4_goesOver 13 = .ok (.aload_n 0, 1) := by decide +kernel
theorem dX4_goesOver_14 : decode cX4_goesOver 14 = .ok (.getfield 49, 3) := by decide +kernel
theorem dX4_goesOver_17 : decode cX4_goesOver 17 = .ok (.iload_n 2, 1) := by decide +kernel
theorem dX4_goesOver_18 : decode cX4_goesOver 18 = .ok (.laload, 1) := by decide +kernel
theorem dX4_goesOver_19 : decode cX4_goesOver 19 = .ok (.aload_n 0, 1) := by decide +kernel
theorem dX4_goesOver_20 : decode cX4_goesOver 20 = .ok (.getfield 52, 3) := by decide +kernel
theorem dX4_goesOver_23 : decode cX4_goesOver 23 = .ok (.iload_n 2, 1) := by decide +kernel
theorem dX4_goesOver_24 : decode cX4_goesOver 24 = .ok (.laload, 1) := by decide +kernel
theorem dX4_goesOver_25 : decode cX4_goesOver 25 = .ok (.lconst 1, 1) := by decide +kernel
theorem dX4_goesOver_26 : decode cX4_goesOver 26 = .ok (.invokevirtual 128, 3) := by decide +kernel
theorem dX4_goesOver_29 : decode cX4_goesOver 29 = .ok (.aload_n 0, 1) := by decide +kernel
theorem dX4_goesOver_30 : decode cX4_goesOver 30 = .ok (.getfield 75, 3) := by decide +kernel
theorem dX4_goesOver_33 : decode cX4_goesOver 33 = .ok (.lconst 0, 1) := by decide +kernel
theorem dX4_goesOver_34 : decode cX4_goesOver 34 = .ok (.lcmp, 1) := by decide +kernel
theorem dX4_goesOver_35 : decode cX4_goesOver 35 = .ok (.ifCond .le 13, 3) := by decide +kernel
theorem dX4_goesOver_38 : decode cX4_goesOver 38 = .ok (.aload_n 0, 1) := by decide +kernel
theorem dX4_goesOver_39 : decode cX4_goesOver 39 = .ok (.getfield 49, 3) := by decide +kernel
theorem dX4_goesOver_42 : decode cX4_goesOver 42 = .ok (.iload_n 1, 1) := by decide +kernel
theorem dX4_goesOver_43 : decode cX4_goesOver 43 = .ok (.laload, 1) := by decide +kernel
theorem dX4_goesOver_44 : decode cX4_goesOver 44 = .ok (.lneg, 1) := by decide +kernel
theorem dX4_goesOver_45 : decode cX4_goesOver 45 = .ok (.goto 9, 3) := by decide +kernel
theorem dX4_goesOver_48 : decode cX4_goesOver 48 = .ok (.aload_n 0, 1) := by decide +kernel
theorem dX4_goesOver_49 : decode cX4_goesOver 49 = .ok (.getfield 49, 3) := by decide +kernel
theorem dX4_goesOver_52 : decode cX4_goesOver 52 = .ok (.iload_n 2, 1) := by decide +kernel
theorem dX4_goesOver_53 : decode cX4_goesOver 53 = .ok (.laload, 1) := by decide +kernel
theorem dX4_goesOver_54 : decode cX4_goesOver 54 = .ok (.lstore_n 3, 1) := by decide +kernel
theorem dX4_goesOver_55 : decode cX4_goesOver 55 = .ok (.aload_n 0, 1) := by decide +kernel
theorem dX4_goesOver_56 : decode cX4_goesOver 56 = .ok (.getfield 75, 3) := by decide +kernel
theorem dX4_goesOver_59 : decode cX4_goesOver 59 = .ok (.lconst 0, 1) := by decide +kernel
theorem dX4_goesOver_60 : decode cX4_goesOver 60 = .ok (.lcmp, 1) := by decide +kernel
theorem dX4_goesOver_61 : decode cX4_goesOver 61 = .ok (.ifCond .le 12, 3) := by decide +kernel
theorem dX4_goesOver_64 : decode cX4_goesOver 64 = .ok (.aload_n 0, 1) := by decide +kernel
theorem dX4_goesOver_65 : decode cX4_goesOver 65 = .ok (.getfield 52, 3) := by decide +kernel
theorem dX4_goesOver_68 : decode cX4_goesOver 68 = .ok (.iload_n 1, 1) := by decide +kernel
theorem dX4_goesOver_69 : decode cX4_goesOver 69 = .ok (.laload, 1) := by decide +kernel
theorem dX4_goesOver_70 : decode cX4_goesOver 70 = .ok (.goto 9, 3) := by decide +kernel
theorem dX4_goesOver_73 : decode cX4_goesOver 73 = .ok (.aload_n 0, 1) := by decide +kernel
theorem dX4_goesOver_74 : decode cX4_goesOver 74 = .ok (.getfield 52, 3) := by decide +kernel
theorem dX4_goesOver_77 : decode cX4_goesOver 77 = .ok (.iload_n 2, 1) := by decide +kernel
theorem dX4_goesOver_78 : decode cX4_goesOver 78 = .ok (.laload, 1) := by decide +kernel
theorem dX4_goesOver_79 : decode cX4_goesOver 79 = .ok (.lstore 5, 2) := by decide +kernel
theorem dX4_goesOver_81 : decode cX4_goesOver 81 = .ok (.aload_n 0, 1) := by decide +kernel
theorem dX4_goesOver_82 : decode cX4_goesOver 82 = .ok (.getfield 55, 3) := by decide +kernel
theorem dX4_goesOver_85 : decode cX4_goesOver 85 = .ok (.aload_n 0, 1) := by decide +kernel
theorem dX4_goesOver_86 : decode cX4_goesOver 86 = .ok (.getfield 185, 3) := by decide +kernel
theorem dX4_goesOver_89 : decode cX4_goesOver 89 = .ok (.iload_n 1, 1) := by decide +kernel
theorem dX4_goesOver_90 : decode cX4_goesOver 90 = .ok (.iastore, 1) := by decide +kernel
theorem dX4_goesOver_91 : decode cX4_goesOver 91 = .ok (.aload_n 0, 1) := by decide +kernel
theorem dX4_goesOver_92 : decode cX4_goesOver 92 = .ok (.getfield 58, 3) := by decide +kernel
theorem dX4_goesOver_95 : decode cX4_goesOver 95 = .ok (.aload_n 0, 1) := by decide +kernel
theorem dX4_goesOver_96 : decode cX4_goesOver 96 = .ok (.getfield 185, 3) := by decide +kernel
theorem dX4_goesOver_99 : decode cX4_goesOver 99 = .ok (.iload_n 2, 1) := by decide +kernel
theorem dX4_goesOver_100 : decode cX4_goesOver 100 = .ok (.iastore, 1) := by decide +kernel
theorem dX4_goesOver_101 : decode cX4_goesOver 101 = .ok (.aload_n 0, 1) := by decide +kernel
theorem dX4_goesOver_102 : decode cX4_goesOver 102 = .ok (.getfield 61, 3) := by decide +kernel
theorem dX4_goesOver_105 : decode cX4_goesOver 105 = .ok (.aload_n 0, 1) := by decide +kernel
theorem dX4_goesOver_106 : decode cX4_goesOver 106 = .ok (.getfield 185, 3) := by decide +kernel
theorem dX4_goesOver_109 : decode cX4_goesOver 109 = .ok (.lload_n 3, 1) := by decide +kernel
theorem dX4_goesOver_110 : decode cX4_goesOver 110 = .ok (.lastore, 1) := by decide +kernel
theorem dX4_goesOver_111 : decode cX4_goesOver 111 = .ok (.aload_n 0, 1) := by decide +kernel
theorem dX4_goesOver_112 : decode cX4_goesOver 112 = .ok (.getfield 64, 3) := by decide +kernel
theorem dX4_goesOver_115 : decode cX4_goesOver 115 = .ok (.aload_n 0, 1) := by decide +kernel
theorem dX4_goesOver_116 : decode cX4_goesOver 116 = .ok (.getfield 185, 3) := by decide +kernel
theorem dX4_goesOver_119 : decode cX4_goesOver 119 = .ok (.lload 5, 2) := by decide +kernel
theorem dX4_goesOver_121 : decode cX4_goesOver 121 = .ok (.lastore, 1) := by decide +kernel
theorem dX4_goesOver_122 : decode cX4_goesOver 122 = .ok (.aload_n 0, 1) := by decide +kernel
theorem dX4_goesOver_123 : decode cX4_goesOver 123 = .ok (.dup, 1) := by decide +kernel
theorem dX4_goesOver_124 : decode cX4_goesOver 124 = .ok (.getfield 185, 3) := by decide +kernel
theorem dX4_goesOver_127 : decode cX4_goesOver 127 = .ok (.iconst 1, 1) := by decide +kernel
theorem dX4_goesOver_128 : decode cX4_goesOver 128 = .ok (.iadd, 1) := by decide +kernel
theorem dX4_goesOver_129 : decode cX4_goesOver 129 = .ok (.putfield 185, 3) := by decide +kernel
theorem dX4_goesOver_132 : decode cX4_goesOver 132 = .ok (.aload_n 0, 1) := by decide +kernel
theorem dX4_goesOver_133 : decode cX4_goesOver 133 = .ok (.aload_n 0, 1) := by decide +kernel
theorem dX4_goesOver_134 : decode cX4_goesOver 134 = .ok (.getfield 49, 3) := by decide +kernel
theorem dX4_goesOver_137 : decode cX4_goesOver 137 = .ok (.iload_n 1, 1) := by decide +kernel
theorem dX4_goesOver_138 : decode cX4_goesOver 138 = .ok (.laload, 1) := by decide +kernel
theorem dX4_goesOver_139 : decode cX4_goesOver 139 = .ok (.aload_n 0, 1) := by decide +kernel
theorem dX4_goesOver_140 : decode cX4_goesOver 140 = .ok (.getfield 52, 3) := by decide +kernel
theorem dX4_goesOver_143 : decode cX4_goesOver 143 = .ok (.iload_n 1, 1) := by decide +kernel
theorem dX4_goesOver_144 : decode cX4_goesOver 144 = .ok (.laload, 1) := by decide +kernel
theorem dX4_goesOver_145 : decode cX4_goesOver 145 = .ok (.lload_n 3, 1) := by decide +kernel
theorem dX4_goesOver_146 : decode cX4_goesOver 146 = .ok (.lload 5, 2) := by decide +kernel
theorem dX4_goesOver_148 : decode cX4_goesOver 148 = .ok (.lconst 1, 1) := by decide +kernel
theorem dX4_goesOver_149 : decode cX4_goesOver 149 = .ok (.invokevirtual 128, 3) := by decide +kernel
theorem dX4_goesOver_152 : decode cX4_goesOver 152 = .ok (.aload_n 0, 1) := by decide +kernel
theorem dX4_goesOver_153 : decode cX4_goesOver 153 = .ok (.getfield 49, 3) := by decide +kernel
theorem dX4_goesOver_156 : decode cX4_goesOver 156 = .ok (.iload_n 1, 1) := by decide +kernel
theorem dX4_goesOver_157 : decode cX4_goesOver 157 = .ok (.aload_n 0, 1) := by decide +kernel
theorem dX4_goesOver_158 : decode cX4_goesOver 158 = .ok (.getfield 75, 3) := by decide +kernel
theorem dX4_goesOver_161 : decode cX4_goesOver 161 = .ok (.lastore, 1) := by decide +kernel
theorem dX4_goesOver_162 : decode cX4_goesOver 162 = .ok (.aload_n 0, 1) := by decide +kernel
theorem dX4_goesOver_163 : decode cX4_goesOver 163 = .ok (.getfield 52, 3) := by decide +kernel
theorem dX4_goesOver_166 : decode cX4_goesOver 166 = .ok (.iload_n 1, 1) := by decide +kernel
theorem dX4_goesOver_167 : decode cX4_goesOver 167 = .ok (.aload_n 0, 1) := by decide +kernel
theorem dX4_goesOver_168 : decode cX4_goesOver 168 = .ok (.getfield 7, 3) := by decide +kernel
theorem dX4_goesOver_171 : decode cX4_goesOver 171 = .ok (.lastore, 1) := by decide +kernel
theorem dX4_goesOver_172 : decode cX4_goesOver 172 = .ok (.aload_n 0, 1) := by decide +kernel
theorem dX4_goesOver_173 : decode cX4_goesOver 173 = .ok (.aload_n 0, 1) := by decide +kernel
theorem dX4_goesOver_174 : decode cX4_goesOver 174 = .ok (.getfield 49, 3) := by decide +kernel
theorem dX4_goesOver_177 : decode cX4_goesOver 177 = .ok (.iload_n 2, 1) := by decide +kernel
theorem dX4_goesOver_178 : decode cX4_goesOver 178 = .ok (.laload, 1) := by decide +kernel
theorem dX4_goesOver_179 : decode cX4_goesOver 179 = .ok (.aload_n 0, 1) := by decide +kernel
theorem dX4_goesOver_180 : decode cX4_goesOver 180 = .ok (.getfield 52, 3) := by decide +kernel
theorem dX4_goesOver_183 : decode cX4_goesOver 183 = .ok (.iload_n 2, 1) := by decide +kernel
theorem dX4_goesOver_184 : decode cX4_goesOver 184 = .ok (.laload, 1) := by decide +kernel
theorem dX4_goesOver_185 : decode cX4_goesOver 185 = .ok (.lload_n 3, 1) := by decide +kernel
theorem dX4_goesOver_186 : decode cX4_goesOver 186 = .ok (.lload 5, 2) := by decide +kernel
theorem dX4_goesOver_188 : decode cX4_goesOver 188 = .ok (.ldc2_w 132, 3) := by decide +kernel
theorem dX4_goesOver_191 : decode cX4_goesOver 191 = .ok (.invokevirtual 128, 3) := by decide +kernel
theorem dX4_goesOver_194 : decode cX4_goesOver 194 = .ok (.aload_n 0, 1) := by decide +kernel
theorem dX4_goesOver_195 : decode cX4_goesOver 195 = .ok (.getfield 49, 3) := by decide +kernel
theorem dX4_goesOver_198 : decode cX4_goesOver 198 = .ok (.iload_n 2, 1) := by decide +kernel
theorem dX4_goesOver_199 : decode cX4_goesOver 199 = .ok (.aload_n 0, 1) := by decide +kernel
theorem dX4_goesOver_200 : decode cX4_goesOver 200 = .ok (.getfield 75, 3) := by decide +kernel
theorem dX4_goesOver_203 : decode cX4_goesOver 203 = .ok (.lastore, 1) := by decide +kernel
theorem dX4_goesOver_204 : decode cX4_goesOver 204 = .ok (.aload_n 0, 1) := by decide +kernel
theorem dX4_goesOver_205 : decode cX4_goesOver 205 = .ok (.getfield 52, 3) := by decide +kernel
theorem dX4_goesOver_208 : decode cX4_goesOver 208 = .ok (.iload_n 2, 1) := by decide +kernel
theorem dX4_goesOver_209 : decode cX4_goesOver 209 = .ok (.aload_n 0, 1) := by decide +kernel
theorem dX4_goesOver_210 : decode cX4_goesOver 210 = .ok (.getfield 7, 3) := by decide +kernel
theorem dX4_goesOver_213 : decode cX4_goesOver 213 = .ok (.lastore, 1) := by decide +kernel
theorem dX4_goesOver_214 : decode cX4_goesOver 214 = .ok (.return_, 1) := by decide +kernel
theorem dX4_transfers_0 : decode cX4_transfers 0 = .ok (.aload_n 0, 1) := by decide +kernel
theorem dX4_transfers_1 : decode cX4_transfers 1 = .ok (.invokevirtual 194, 3) := by decide +kernel
theorem dX4_transfers_4 : decode cX4_transfers 4 = .ok (.aload_n 0, 1) := by decide +kernel
theorem dX4_transfers_5 : decode cX4_transfers 5 = .ok (.getfield 185, 3) := by decide +kernel
theorem dX4_transfers_8 : decode cX4_transfers 8 = .ok (.ireturn, 1) := by decide +kernel
theorem dX4_transfer_0 : decode cX4_transfer 0 = .ok (.iload_n 1, 1) := by decide +kernel
theorem dX4_transfer_1 : decode cX4_transfer 1 = .ok (.ifCond .lt 12, 3) := by decide +kernel
theorem dX4_transfer_4 : decode cX4_transfer 4 = .ok (.iload_n 2, 1) := by decide +kernel
theorem dX4_transfer_5 : decode cX4_transfer 5 = .ok (.iconst 0, 1) := by decide +kernel
theorem dX4_transfer_6 : decode cX4_transfer 6 = .ok (.iconst 1, 1) := by decide +kernel
theorem dX4_transfer_7 : decode cX4_transfer 7 = .ok (.invokestatic 82, 3) := by decide +kernel
theorem dX4_transfer_10 : decode cX4_transfer 10 = .ok (.ifCond .ne 6, 3) := by decide +kernel
theorem dX4_transfer_13 : decode cX4_transfer 13 = .ok (.bipush (-2), 2) := by decide +kernel
theorem dX4_transfer_15 : decode cX4_transfer 15 = .ok (.ireturn, 1) := by decide +kernel
theorem dX4_transfer_16 : decode cX4_transfer 16 = .ok (.aload_n 0, 1) := by decide +kernel
theorem dX4_transfer_17 : decode cX4_transfer 17 = .ok (.invokevirtual 194, 3) := by decide +kernel
theorem dX4_transfer_20 : decode cX4_transfer 20 = .ok (.iload_n 1, 1) := by decide +kernel
theorem dX4_transfer_21 : decode cX4_transfer 21 = .ok (.aload_n 0, 1) := by decide +kernel
theorem dX4_transfer_22 : decode cX4_transfer 22 = .ok (.getfield 185, 3) := by decide +kernel
theorem dX4_transfer_25 : decode cX4_transfer 25 = .ok (.if_icmp .lt 8, 3) := by decide +kernel
theorem dX4_transfer_28 : decode cX4_transfer 28 = .ok (.bipush (-9), 2) := by decide +kernel
theorem dX4_transfer_30 : decode cX4_transfer 30 = .ok (.goto 22, 3) := by decide +kernel
theorem dX4_transfer_33 : decode cX4_transfer 33 = .ok (.iload_n 2, 1) := by decide +kernel
theorem dX4_transfer_34 : decode cX4_transfer 34 = .ok (.ifCond .ne 12, 3) := by decide +kernel
theorem dX4_transfer_37 : decode cX4_transfer 37 = .ok (.aload_n 0, 1) := by decide +kernel
theorem dX4_transfer_38 : decode cX4_transfer 38 = .ok (.getfield 55, 3) := by decide +kernel
theorem dX4_transfer_41 : decode cX4_transfer 41 = .ok (.iload_n 1, 1) := by decide +kernel
theorem dX4_transfer_42 : decode cX4_transfer 42 = .ok (.iaload, 1) := by decide +kernel
theorem dX4_transfer_43 : decode cX4_transfer 43 = .ok (.goto 9, 3) := by decide +kernel
theorem dX4_transfer_46 : decode cX4_transfer 46 = .ok (.aload_n 0, 1) := by decide +kernel
theorem dX4_transfer_47 : decode cX4_transfer 47 = .ok (.getfield 58, 3) := by decide +kernel
theorem dX4_transfer_50 : decode cX4_transfer 50 = .ok (.iload_n 1, 1) := by decide +kernel
theorem dX4_transfer_51 : decode cX4_transfer 51 = .ok (.iaload, 1) := by decide +kernel
theorem dX4_transfer_52 : decode cX4_transfer 52 = .ok (.ireturn, 1) := by decide +kernel
theorem dX4_given_0 : decode cX4_given 0 = .ok (.iload_n 1, 1) := by decide +kernel
theorem dX4_given_1 : decode cX4_given 1 = .ok (.ifCond .lt 10, 3) := by decide +kernel
theorem dX4_given_4 : decode cX4_given 4 = .ok (.iload_n 2, 1) := by decide +kernel
theorem dX4_given_5 : decode cX4_given 5 = .ok (.invokestatic 149, 3) := by decide +kernel
theorem dX4_given_8 : decode cX4_given 8 = .ok (.ifCond .ne 7, 3) := by decide +kernel
theorem dX4_given_11 : decode cX4_given 11 = .ok (.ldc2_w 152, 3) := by decide +kernel
theorem dX4_given_14 : decode cX4_given 14 = .ok (.lreturn, 1) := by decide +kernel
theorem dX4_given_15 : decode cX4_given 15 = .ok (.aload_n 0, 1) := by decide +kernel
theorem dX4_given_16 : decode cX4_given 16 = .ok (.invokevirtual 194, 3) := by decide +kernel
theorem dX4_given_19 : decode cX4_given 19 = .ok (.iload_n 1, 1) := by decide +kernel
theorem dX4_given_20 : decode cX4_given 20 = .ok (.aload_n 0, 1) := by decide +kernel
theorem dX4_given_21 : decode cX4_given 21 = .ok (.getfield 185, 3) := by decide +kernel
theorem dX4_given_24 : decode cX4_given 24 = .ok (.if_icmp .lt 9, 3) := by decide +kernel
theorem dX4_given_27 : decode cX4_given 27 = .ok (.ldc2_w 152, 3) := by decide +kernel
theorem dX4_given_30 : decode cX4_given 30 = .ok (.goto 22, 3) := by decide +kernel
theorem dX4_given_33 : decode cX4_given 33 = .ok (.iload_n 2, 1) := by decide +kernel
theorem dX4_given_34 : decode cX4_given 34 = .ok (.ifCond .ne 12, 3) := by decide +kernel
theorem dX4_given_37 : decode cX4_given 37 = .ok (.aload_n 0, 1) := by decide +kernel
theorem dX4_given_38 : decode cX4_given 38 = .ok (.getfield 61, 3) := by decide +kernel
theorem dX4_given_41 : decode cX4_given 41 = .ok (.iload_n 1, 1) := by decide +kernel
theorem dX4_given_42 : decode cX4_given 42 = .ok (.laload, 1) := by decide +kernel
theorem dX4_given_43 : decode cX4_given 43 = .ok (.goto 9, 3) := by decide +kernel
theorem dX4_given_46 : decode cX4_given 46 = .ok (.aload_n 0, 1) := by decide +kernel
theorem dX4_given_47 : decode cX4_given 47 = .ok (.getfield 64, 3) := by decide +kernel
theorem dX4_given_50 : decode cX4_given 50 = .ok (.iload_n 1, 1) := by decide +kernel
theorem dX4_given_51 : decode cX4_given 51 = .ok (.laload, 1) := by decide +kernel
theorem dX4_given_52 : decode cX4_given 52 = .ok (.lreturn, 1) := by decide +kernel
theorem dX4_manyUnits_0 : decode cX4_manyUnits 0 = .ok (.iconst 0, 1) := by decide +kernel
theorem dX4_manyUnits_1 : decode cX4_manyUnits 1 = .ok (.istore_n 3, 1) := by decide +kernel
theorem dX4_manyUnits_2 : decode cX4_manyUnits 2 = .ok (.iconst 0, 1) := by decide +kernel
theorem dX4_manyUnits_3 : decode cX4_manyUnits 3 = .ok (.istore 4, 2) := by decide +kernel
theorem dX4_manyUnits_5 : decode cX4_manyUnits 5 = .ok (.iload 4, 2) := by decide +kernel
theorem dX4_manyUnits_7 : decode cX4_manyUnits 7 = .ok (.bipush 6, 2) := by decide +kernel
theorem dX4_manyUnits_9 : decode cX4_manyUnits 9 = .ok (.if_icmp .ge 79, 3) := by decide +kernel
theorem dX4_manyUnits_12 : decode cX4_manyUnits 12 = .ok (.aload_n 0, 1) := by decide +kernel
theorem dX4_manyUnits_13 : decode cX4_manyUnits 13 = .ok (.iload 4, 2) := by decide +kernel
theorem dX4_manyUnits_15 : decode cX4_manyUnits 15 = .ok (.invokevirtual 113, 3) := by decide +kernel
theorem dX4_manyUnits_18 : decode cX4_manyUnits 18 = .ok (.ifCond .eq 48, 3) := by decide +kernel
theorem dX4_manyUnits_21 : decode cX4_manyUnits 21 = .ok (.iload_n 1, 1) := by decide +kernel
theorem dX4_manyUnits_22 : decode cX4_manyUnits 22 = .ok (.ifCond .eq 15, 3) := by decide +kernel
theorem dX4_manyUnits_25 : decode cX4_manyUnits 25 = .ok (.aload_n 0, 1) := by decide +kernel
theorem dX4_manyUnits_26 : decode cX4_manyUnits 26 = .ok (.getfield 30, 3) := by decide +kernel
theorem dX4_manyUnits_29 : decode cX4_manyUnits 29 = .ok (.iload 4, 2) := by decide +kernel
theorem dX4_manyUnits_31 : decode cX4_manyUnits 31 = .ok (.iaload, 1) := by decide +kernel
theorem dX4_manyUnits_32 : decode cX4_manyUnits 32 = .ok (.bipush (-9), 2) := by decide +kernel
theorem dX4_manyUnits_34 : decode cX4_manyUnits 34 = .ok (.if_icmp .eq 32, 3) := by decide +kernel
theorem dX4_manyUnits_37 : decode cX4_manyUnits 37 = .ok (.iload_n 2, 1) := by decide +kernel
theorem dX4_manyUnits_38 : decode cX4_manyUnits 38 = .ok (.ifCond .eq 24, 3) := by decide +kernel
theorem dX4_manyUnits_41 : decode cX4_manyUnits 41 = .ok (.aload_n 0, 1) := by decide +kernel
theorem dX4_manyUnits_42 : decode cX4_manyUnits 42 = .ok (.getfield 30, 3) := by decide +kernel
theorem dX4_manyUnits_45 : decode cX4_manyUnits 45 = .ok (.iload 4, 2) := by decide +kernel
theorem dX4_manyUnits_47 : decode cX4_manyUnits 47 = .ok (.iaload, 1) := by decide +kernel
theorem dX4_manyUnits_48 : decode cX4_manyUnits 48 = .ok (.bipush (-9), 2) := by decide +kernel
theorem dX4_manyUnits_50 : decode cX4_manyUnits 50 = .ok (.if_icmp .ne 16, 3) := by decide +kernel
theorem dX4_manyUnits_53 : decode cX4_manyUnits 53 = .ok (.aload_n 0, 1) := by decide +kernel
theorem dX4_manyUnits_54 : decode cX4_manyUnits 54 = .ok (.iload 4, 2) := by decide +kernel
theorem dX4_manyUnits_56 : decode cX4_manyUnits 56 = .ok (.invokevirtual 116, 3) := by decide +kernel
theorem dX4_manyUnits_59 : decode cX4_manyUnits 59 = .ok (.ifCond .eq 7, 3) := by decide +kernel
theorem dX4_manyUnits_62 : decode cX4_manyUnits 62 = .ok (.iconst 1, 1) := by decide +kernel
theorem dX4_manyUnits_63 : decode cX4_manyUnits 63 = .ok (.goto 4, 3) := by decide +kernel
theorem dX4_manyUnits_66 : decode cX4_manyUnits 66 = .ok (.iconst 0, 1) := by decide +kernel
theorem dX4_manyUnits_67 : decode cX4_manyUnits 67 = .ok (.istore 5, 2) := by decide +kernel
theorem dX4_manyUnits_69 : decode cX4_manyUnits 69 = .ok (.iload_n 3, 1) := by decide +kernel
theorem dX4_manyUnits_70 : decode cX4_manyUnits 70 = .ok (.iload 5, 2) := by decide +kernel
theorem dX4_manyUnits_72 : decode cX4_manyUnits 72 = .ok (.ifCond .eq 7, 3) := by decide +kernel
theorem dX4_manyUnits_75 : decode cX4_manyUnits 75 = .ok (.iconst 1, 1) := by decide +kernel
theorem dX4_manyUnits_76 : decode cX4_manyUnits 76 = .ok (.goto 4, 3) := by decide +kernel
theorem dX4_manyUnits_79 : decode cX4_manyUnits 79 = .ok (.iconst 0, 1) := by decide +kernel
theorem dX4_manyUnits_80 : decode cX4_manyUnits 80 = .ok (.iadd, 1) := by decide +kernel
theorem dX4_manyUnits_81 : decode cX4_manyUnits 81 = .ok (.istore_n 3, 1) := by decide +kernel
theorem dX4_manyUnits_82 : decode cX4_manyUnits 82 = .ok (.iinc 4 1, 3) := by decide +kernel
theorem dX4_manyUnits_85 : decode cX4_manyUnits 85 = .ok (.goto (-80), 3) := by decide +kernel
theorem dX4_manyUnits_88 : decode cX4_manyUnits 88 = .ok (.iload_n 3, 1) := by decide +kernel
theorem dX4_manyUnits_89 : decode cX4_manyUnits 89 = .ok (.ireturn, 1) := by decide +kernel
theorem dX4_many_0 : decode cX4_many 0 = .ok (.iload_n 1, 1) := by decide +kernel
theorem dX4_many_1 : decode cX4_many 1 = .ok (.tableswitch 76 0 5 #[39, 44, 51, 58, 65, 70], 39) := by decide +kernel
theorem dX4_many_40 : decode cX4_many 40 = .ok (.aload_n 0, 1) := by decide +kernel
theorem dX4_many_41 : decode cX4_many 41 = .ok (.invokevirtual 94, 3) := by decide +kernel
theorem dX4_many_44 : decode cX4_many 44 = .ok (.ireturn, 1) := by decide +kernel
theorem dX4_many_45 : decode cX4_many 45 = .ok (.aload_n 0, 1) := by decide +kernel
theorem dX4_many_46 : decode cX4_many 46 = .ok (.iconst 0, 1) := by decide +kernel
theorem dX4_many_47 : decode cX4_many 47 = .ok (.iconst 0, 1) := by decide +kernel
theorem dX4_many_48 : decode cX4_many 48 = .ok (.invokevirtual 197, 3) := by decide +kernel
theorem dX4_many_51 : decode cX4_many 51 = .ok (.ireturn, 1) := by decide +kernel
theorem dX4_many_52 : decode cX4_many 52 = .ok (.aload_n 0, 1) := by decide +kernel
theorem dX4_many_53 : decode cX4_many 53 = .ok (.iconst 1, 1) := by decide +kernel
theorem dX4_many_54 : decode cX4_many 54 = .ok (.iconst 0, 1) := by decide +kernel
theorem dX4_many_55 : decode cX4_many 55 = .ok (.invokevirtual 197, 3) := by decide +kernel
theorem dX4_many_58 : decode cX4_many 58 = .ok (.ireturn, 1) := by decide +kernel
theorem dX4_many_59 : decode cX4_many 59 = .ok (.aload_n 0, 1) := by decide +kernel
theorem dX4_many_60 : decode cX4_many 60 = .ok (.iconst 0, 1) := by decide +kernel
theorem dX4_many_61 : decode cX4_many 61 = .ok (.iconst 1, 1) := by decide +kernel
theorem dX4_many_62 : decode cX4_many 62 = .ok (.invokevirtual 197, 3) := by decide +kernel
theorem dX4_many_65 : decode cX4_many 65 = .ok (.ireturn, 1) := by decide +kernel
theorem dX4_many_66 : decode cX4_many 66 = .ok (.aload_n 0, 1) := by decide +kernel
theorem dX4_many_67 : decode cX4_many 67 = .ok (.invokevirtual 106, 3) := by decide +kernel
theorem dX4_many_70 : decode cX4_many 70 = .ok (.ireturn, 1) := by decide +kernel
theorem dX4_many_71 : decode cX4_many 71 = .ok (.aload_n 0, 1) := by decide +kernel
theorem dX4_many_72 : decode cX4_many 72 = .ok (.invokevirtual 175, 3) := by decide +kernel
theorem dX4_many_75 : decode cX4_many 75 = .ok (.l2i, 1) := by decide +kernel
theorem dX4_many_76 : decode cX4_many 76 = .ok (.ireturn, 1) := by decide +kernel
theorem dX4_many_77 : decode cX4_many 77 = .ok (.bipush (-2), 2) := by decide +kernel
theorem dX4_many_79 : decode cX4_many 79 = .ok (.ireturn, 1) := by decide +kernel
theorem dJ6_bitCount_0f7a4_0 : decode cJ6_bitCount_0f7a4 0 = .ok (.iload_n 0, 1) := by decide +kernel
theorem dJ6_bitCount_0f7a4_1 : decode cJ6_bitCount_0f7a4 1 = .ok (.iload_n 0, 1) := by decide +kernel
theorem dJ6_bitCount_0f7a4_2 : decode cJ6_bitCount_0f7a4 2 = .ok (.iconst 1, 1) := by decide +kernel
theorem dJ6_bitCount_0f7a4_3 : decode cJ6_bitCount_0f7a4 3 = .ok (.iushr, 1) := by decide +kernel
theorem dJ6_bitCount_0f7a4_4 : decode cJ6_bitCount_0f7a4 4 = .ok (.ldc_w 265, 3) := by decide +kernel
theorem dJ6_bitCount_0f7a4_7 : decode cJ6_bitCount_0f7a4 7 = .ok (.iand, 1) := by decide +kernel
theorem dJ6_bitCount_0f7a4_8 : decode cJ6_bitCount_0f7a4 8 = .ok (.isub, 1) := by decide +kernel
theorem dJ6_bitCount_0f7a4_9 : decode cJ6_bitCount_0f7a4 9 = .ok (.istore_n 0, 1) := by decide +kernel
theorem dJ6_bitCount_0f7a4_10 : decode cJ6_bitCount_0f7a4 10 = .ok (.iload_n 0, 1) := by decide +kernel
theorem dJ6_bitCount_0f7a4_11 : decode cJ6_bitCount_0f7a4 11 = .ok (.ldc_w 266, 3) := by decide +kernel
theorem dJ6_bitCount_0f7a4_14 : decode cJ6_bitCount_0f7a4 14 = .ok (.iand, 1) := by decide +kernel
theorem dJ6_bitCount_0f7a4_15 : decode cJ6_bitCount_0f7a4 15 = .ok (.iload_n 0, 1) := by decide +kernel
theorem dJ6_bitCount_0f7a4_16 : decode cJ6_bitCount_0f7a4 16 = .ok (.iconst 2, 1) := by decide +kernel
theorem dJ6_bitCount_0f7a4_17 : decode cJ6_bitCount_0f7a4 17 = .ok (.iushr, 1) := by decide +kernel
theorem dJ6_bitCount_0f7a4_18 : decode cJ6_bitCount_0f7a4 18 = .ok (.ldc_w 266, 3) := by decide +kernel
theorem dJ6_bitCount_0f7a4_21 : decode cJ6_bitCount_0f7a4 21 = .ok (.iand, 1) := by decide +kernel
theorem dJ6_bitCount_0f7a4_22 : decode cJ6_bitCount_0f7a4 22 = .ok (.iadd, 1) := by decide +kernel
theorem dJ6_bitCount_0f7a4_23 : decode cJ6_bitCount_0f7a4 23 = .ok (.istore_n 0, 1) := by decide +kernel
theorem dJ6_bitCount_0f7a4_24 : decode cJ6_bitCount_0f7a4 24 = .ok (.iload_n 0, 1) := by decide +kernel
theorem dJ6_bitCount_0f7a4_25 : decode cJ6_bitCount_0f7a4 25 = .ok (.iload_n 0, 1) := by decide +kernel
theorem dJ6_bitCount_0f7a4_26 : decode cJ6_bitCount_0f7a4 26 = .ok (.iconst 4, 1) := by decide +kernel
theorem dJ6_bitCount_0f7a4_27 : decode cJ6_bitCount_0f7a4 27 = .ok (.iushr, 1) := by decide +kernel
theorem dJ6_bitCount_0f7a4_28 : decode cJ6_bitCount_0f7a4 28 = .ok (.iadd, 1) := by decide +kernel
theorem dJ6_bitCount_0f7a4_29 : decode cJ6_bitCount_0f7a4 29 = .ok (.ldc_w 267, 3) := by decide +kernel
theorem dJ6_bitCount_0f7a4_32 : decode cJ6_bitCount_0f7a4 32 = .ok (.iand, 1) := by decide +kernel
theorem dJ6_bitCount_0f7a4_33 : decode cJ6_bitCount_0f7a4 33 = .ok (.istore_n 0, 1) := by decide +kernel
theorem dJ6_bitCount_0f7a4_34 : decode cJ6_bitCount_0f7a4 34 = .ok (.iload_n 0, 1) := by decide +kernel
theorem dJ6_bitCount_0f7a4_35 : decode cJ6_bitCount_0f7a4 35 = .ok (.iload_n 0, 1) := by decide +kernel
theorem dJ6_bitCount_0f7a4_36 : decode cJ6_bitCount_0f7a4 36 = .ok (.bipush 8, 2) := by decide +kernel
theorem dJ6_bitCount_0f7a4_38 : decode cJ6_bitCount_0f7a4 38 = .ok (.iushr, 1) := by decide +kernel
theorem dJ6_bitCount_0f7a4_39 : decode cJ6_bitCount_0f7a4 39 = .ok (.iadd, 1) := by decide +kernel
theorem dJ6_bitCount_0f7a4_40 : decode cJ6_bitCount_0f7a4 40 = .ok (.istore_n 0, 1) := by decide +kernel
theorem dJ6_bitCount_0f7a4_41 : decode cJ6_bitCount_0f7a4 41 = .ok (.iload_n 0, 1) := by decide +kernel
theorem dJ6_bitCount_0f7a4_42 : decode cJ6_bitCount_0f7a4 42 = .ok (.iload_n 0, 1) := by decide +kernel
theorem dJ6_bitCount_0f7a4_43 : decode cJ6_bitCount_0f7a4 43 = .ok (.bipush 16, 2) := by decide +kernel
theorem dJ6_bitCount_0f7a4_45 : decode cJ6_bitCount_0f7a4 45 = .ok (.iushr, 1) := by decide +kernel
theorem dJ6_bitCount_0f7a4_46 : decode cJ6_bitCount_0f7a4 46 = .ok (.iadd, 1) := by decide +kernel
theorem dJ6_bitCount_0f7a4_47 : decode cJ6_bitCount_0f7a4 47 = .ok (.istore_n 0, 1) := by decide +kernel
theorem dJ6_bitCount_0f7a4_48 : decode cJ6_bitCount_0f7a4 48 = .ok (.iload_n 0, 1) := by decide +kernel
theorem dJ6_bitCount_0f7a4_49 : decode cJ6_bitCount_0f7a4 49 = .ok (.bipush 63, 2) := by decide +kernel
theorem dJ6_bitCount_0f7a4_51 : decode cJ6_bitCount_0f7a4 51 = .ok (.iand, 1) := by decide +kernel
theorem dJ6_bitCount_0f7a4_52 : decode cJ6_bitCount_0f7a4 52 = .ok (.ireturn, 1) := by decide +kernel
theorem dJ9_abs_067f4_0 : decode cJ9_abs_067f4 0 = .ok (.lload_n 0, 1) := by decide +kernel
theorem dJ9_abs_067f4_1 : decode cJ9_abs_067f4 1 = .ok (.lconst 0, 1) := by decide +kernel
theorem dJ9_abs_067f4_2 : decode cJ9_abs_067f4 2 = .ok (.lcmp, 1) := by decide +kernel
theorem dJ9_abs_067f4_3 : decode cJ9_abs_067f4 3 = .ok (.ifCond .ge 8, 3) := by decide +kernel
theorem dJ9_abs_067f4_6 : decode cJ9_abs_067f4 6 = .ok (.lload_n 0, 1) := by decide +kernel
theorem dJ9_abs_067f4_7 : decode cJ9_abs_067f4 7 = .ok (.lneg, 1) := by decide +kernel
theorem dJ9_abs_067f4_8 : decode cJ9_abs_067f4 8 = .ok (.goto 4, 3) := by decide +kernel
theorem dJ9_abs_067f4_11 : decode cJ9_abs_067f4 11 = .ok (.lload_n 0, 1) := by decide +kernel
theorem dJ9_abs_067f4_12 : decode cJ9_abs_067f4 12 = .ok (.lreturn, 1) := by decide +kernel
theorem dJ9_max_7cf53_0 : decode cJ9_max_7cf53 0 = .ok (.iload_n 0, 1) := by decide +kernel
theorem dJ9_max_7cf53_1 : decode cJ9_max_7cf53 1 = .ok (.iload_n 1, 1) := by decide +kernel
theorem dJ9_max_7cf53_2 : decode cJ9_max_7cf53 2 = .ok (.if_icmp .lt 7, 3) := by decide +kernel
theorem dJ9_max_7cf53_5 : decode cJ9_max_7cf53 5 = .ok (.iload_n 0, 1) := by decide +kernel
theorem dJ9_max_7cf53_6 : decode cJ9_max_7cf53 6 = .ok (.goto 4, 3) := by decide +kernel
theorem dJ9_max_7cf53_9 : decode cJ9_max_7cf53 9 = .ok (.iload_n 1, 1) := by decide +kernel
theorem dJ9_max_7cf53_10 : decode cJ9_max_7cf53 10 = .ok (.ireturn, 1) := by decide +kernel
theorem dJ9_max_f86c9_0 : decode cJ9_max_f86c9 0 = .ok (.lload_n 0, 1) := by decide +kernel
theorem dJ9_max_f86c9_1 : decode cJ9_max_f86c9 1 = .ok (.lload_n 2, 1) := by decide +kernel
theorem dJ9_max_f86c9_2 : decode cJ9_max_f86c9 2 = .ok (.lcmp, 1) := by decide +kernel
theorem dJ9_max_f86c9_3 : decode cJ9_max_f86c9 3 = .ok (.ifCond .lt 7, 3) := by decide +kernel
theorem dJ9_max_f86c9_6 : decode cJ9_max_f86c9 6 = .ok (.lload_n 0, 1) := by decide +kernel
theorem dJ9_max_f86c9_7 : decode cJ9_max_f86c9 7 = .ok (.goto 4, 3) := by decide +kernel
theorem dJ9_max_f86c9_10 : decode cJ9_max_f86c9 10 = .ok (.lload_n 2, 1) := by decide +kernel
theorem dJ9_max_f86c9_11 : decode cJ9_max_f86c9 11 = .ok (.lreturn, 1) := by decide +kernel
theorem dJ9_min_f86c9_0 : decode cJ9_min_f86c9 0 = .ok (.lload_n 0, 1) := by decide +kernel
theorem dJ9_min_f86c9_1 : decode cJ9_min_f86c9 1 = .ok (.lload_n 2, 1) := by decide +kernel
theorem dJ9_min_f86c9_2 : decode cJ9_min_f86c9 2 = .ok (.lcmp, 1) := by decide +kernel
theorem dJ9_min_f86c9_3 : decode cJ9_min_f86c9 3 = .ok (.ifCond .gt 7, 3) := by decide +kernel
theorem dJ9_min_f86c9_6 : decode cJ9_min_f86c9 6 = .ok (.lload_n 0, 1) := by decide +kernel
theorem dJ9_min_f86c9_7 : decode cJ9_min_f86c9 7 = .ok (.goto 4, 3) := by decide +kernel
theorem dJ9_min_f86c9_10 : decode cJ9_min_f86c9 10 = .ok (.lload_n 2, 1) := by decide +kernel
theorem dJ9_min_f86c9_11 : decode cJ9_min_f86c9 11 = .ok (.lreturn, 1) := by decide +kernel
