theorem dX0_init_0 : decode cX0_init 0 = .ok (.aload_n 0, 1) := by decide +kernel
theorem dX0_init_1 : decode cX0_init 1 = .ok (.invokespecial 3, 3) := by decide +kernel
theorem dX0_init_4 : decode cX0_init 4 = .ok (.aload_n 0, 1) := by decide +kernel
theorem dX0_init_5 : decode cX0_init 5 = .ok (.bipush 6, 2) := by decide +kernel
theorem dX0_init_7 : decode cX0_init 7 = .ok (.newarray .long, 2) := by decide +kernel
theorem dX0_init_9 : decode cX0_init 9 = .ok (.putfield 9, 3) := by decide +kernel
theorem dX0_init_12 : decode cX0_init 12 = .ok (.aload_n 0, 1) := by decide +kernel
theorem dX0_init_13 : decode cX0_init 13 = .ok (.bipush 6, 2) := by decide +kernel
theorem dX0_init_15 : decode cX0_init 15 = .ok (.newarray .int, 2) := by decide +kernel
theorem dX0_init_17 : decode cX0_init 17 = .ok (.putfield 15, 3) := by decide +kernel
theorem dX0_init_20 : decode cX0_init 20 = .ok (.aload_n 0, 1) := by decide +kernel
theorem dX0_init_21 : decode cX0_init 21 = .ok (.bipush 6, 2) := by decide +kernel
theorem dX0_init_23 : decode cX0_init 23 = .ok (.newarray .int, 2) := by decide +kernel
theorem dX0_init_25 : decode cX0_init 25 = .ok (.putfield 19, 3) := by decide +kernel
theorem dX0_init_28 : decode cX0_init 28 = .ok (.aload_n 0, 1) := by decide +kernel
theorem dX0_init_29 : decode cX0_init 29 = .ok (.bipush 6, 2) := by decide +kernel
theorem dX0_init_31 : decode cX0_init 31 = .ok (.newarray .long, 2) := by decide +kernel
theorem dX0_init_33 : decode cX0_init 33 = .ok (.putfield 22, 3) := by decide +kernel
theorem dX0_init_36 : decode cX0_init 36 = .ok (.return_, 1) := by decide +kernel
theorem dX0_holds_0 : decode cX0_holds 0 = .ok (.iload_n 1, 1) := by decide +kernel
theorem dX0_holds_1 : decode cX0_holds 1 = .ok (.ifCond .lt 24, 3) := by decide +kernel
theorem dX0_holds_4 : decode cX0_holds 4 = .ok (.iload_n 1, 1) := by decide +kernel
theorem dX0_holds_5 : decode cX0_holds 5 = .ok (.aload_n 0, 1) := by decide +kernel
theorem dX0_holds_6 : decode cX0_holds 6 = .ok (.getfield 25, 3) := by decide +kernel
theorem dX0_holds_9 : decode cX0_holds 9 = .ok (.if_icmp .ge 16, 3) := by decide +kernel
theorem dX0_holds_12 : decode cX0_holds 12 = .ok (.iload_n 1, 1) := by decide +kernel
theorem dX0_holds_13 : decode cX0_holds 13 = .ok (.aload_n 0, 1) := by decide +kernel
theorem dX0_holds_14 : decode cX0_holds 14 = .ok (.getfield 22, 3) := by decide +kernel
theorem dX0_holds_17 : decode cX0_holds 17 = .ok (.arraylength, 1) := by decide +kernel
theorem dX0_holds_18 : decode cX0_holds 18 = .ok (.if_icmp .ge 7, 3) := by decide +kernel
theorem dX0_holds_21 : decode cX0_holds 21 = .ok (.iconst 1, 1) := by decide +kernel
theorem dX0_holds_22 : decode cX0_holds 22 = .ok (.goto 4, 3) := by decide +kernel
theorem dX0_holds_25 : decode cX0_holds 25 = .ok (.iconst 0, 1) := by decide +kernel
theorem dX0_holds_26 : decode cX0_holds 26 = .ok (.ireturn, 1) := by decide +kernel
theorem dX0_find_0 : decode cX0_find 0 = .ok (.aload_n 0, 1) := by decide +kernel
theorem dX0_find_1 : decode cX0_find 1 = .ok (.iconst 0, 1) := by decide +kernel
theorem dX0_find_2 : decode cX0_find 2 = .ok (.putfield 25, 3) := by decide +kernel
theorem dX0_find_5 : decode cX0_find 5 = .ok (.iconst 0, 1) := by decide +kernel
theorem dX0_find_6 : decode cX0_find 6 = .ok (.istore_n 1, 1) := by decide +kernel
theorem dX0_find_7 : decode cX0_find 7 = .ok (.iconst 0, 1) := by decide +kernel
theorem dX0_find_8 : decode cX0_find 8 = .ok (.istore_n 2, 1) := by decide +kernel
theorem dX0_find_9 : decode cX0_find 9 = .ok (.iconst 0, 1) := by decide +kernel
theorem dX0_find_10 : decode cX0_find 10 = .ok (.istore_n 3, 1) := by decide +kernel
theorem dX0_find_11 : decode cX0_find 11 = .ok (.iload_n 3, 1) := by decide +kernel
theorem dX0_find_12 : decode cX0_find 12 = .ok (.bipush 24, 2) := by decide +kernel
theorem dX0_find_14 : decode cX0_find 14 = .ok (.if_icmp .ge 74, 3) := by decide +kernel
theorem dX0_find_17 : decode cX0_find 17 = .ok (.iload_n 1, 1) := by decide +kernel
theorem dX0_find_18 : decode cX0_find 18 = .ok (.bipush 6, 2) := by decide +kernel
theorem dX0_find_20 : decode cX0_find 20 = .ok (.if_icmp .ge 21, 3) := by decide +kernel
theorem dX0_find_23 : decode cX0_find 23 = .ok (.iload_n 2, 1) := by decide +kernel
theorem dX0_find_24 : decode cX0_find 24 = .ok (.bipush 6, 2) := by decide +kernel
theorem dX0_find_26 : decode cX0_find 26 = .ok (.if_icmp .ge 15, 3) := by decide +kernel
theorem dX0_find_29 : decode cX0_find 29 = .ok (.aload_n 0, 1) := by decide +kernel
theorem dX0_find_30 : decode cX0_find 30 = .ok (.getfield 25, 3) := by decide +kernel
theorem dX0_find_33 : decode cX0_find 33 = .ok (.aload_n 0, 1) := by decide +kernel
theorem dX0_find_34 : decode cX0_find 34 = .ok (.getfield 22, 3) := by decide +kernel
theorem dX0_find_37 : decode cX0_find 37 = .ok (.arraylength, 1) := by decide +kernel
theorem dX0_find_38 : decode cX0_find 38 = .ok (.if_icmp .lt 4, 3) := by decide +kernel
theorem dX0_find_41 : decode cX0_find 41 = .ok (.return_, 1) := by decide +kernel
theorem dX0_find_42 : decode cX0_find 42 = .ok (.aload_n 0, 1) := by decide +kernel
theorem dX0_find_43 : decode cX0_find 43 = .ok (.getfield 9, 3) := by decide +kernel
theorem dX0_find_46 : decode cX0_find 46 = .ok (.iload_n 1, 1) := by decide +kernel
theorem dX0_find_47 : decode cX0_find 47 = .ok (.laload, 1) := by decide +kernel
theorem dX0_find_48 : decode cX0_find 48 = .ok (.lconst 0, 1) := by decide +kernel
theorem dX0_find_49 : decode cX0_find 49 = .ok (.lcmp, 1) := by decide +kernel
theorem dX0_find_50 : decode cX0_find 50 = .ok (.ifCond .lt 9, 3) := by decide +kernel
theorem dX0_find_53 : decode cX0_find 53 = .ok (.iinc 1 1, 3) := by decide +kernel
theorem dX0_find_56 : decode cX0_find 56 = .ok (.goto 26, 3) := by decide +kernel
theorem dX0_find_59 : decode cX0_find 59 = .ok (.aload_n 0, 1) := by decide +kernel
theorem dX0_find_60 : decode cX0_find 60 = .ok (.getfield 9, 3) := by decide +kernel
theorem dX0_find_63 : decode cX0_find 63 = .ok (.iload_n 2, 1) := by decide +kernel
theorem dX0_find_64 : decode cX0_find 64 = .ok (.laload, 1) := by decide +kernel
theorem dX0_find_65 : decode cX0_find 65 = .ok (.lconst 0, 1) := by decide +kernel
theorem dX0_find_66 : decode cX0_find 66 = .ok (.lcmp, 1) := by decide +kernel
theorem dX0_find_67 : decode cX0_find 67 = .ok (.ifCond .gt 9, 3) := by decide +kernel
theorem dX0_find_70 : decode cX0_find 70 = .ok (.iinc 2 1, 3) := by decide +kernel
theorem dX0_find_73 : decode cX0_find 73 = .ok (.goto 9, 3) := by decide +kernel
theorem dX0_find_76 : decode cX0_find 76 = .ok (.aload_n 0, 1) := by decide +kernel
theorem dX0_find_77 : decode cX0_find 77 = .ok (.iload_n 1, 1) := by decide +kernel
theorem dX0_find_78 : decode cX0_find 78 = .ok (.iload_n 2, 1) := by decide +kernel
theorem dX0_find_79 : decode cX0_find 79 = .ok (.invokevirtual 29, 3) := by decide +kernel
theorem dX0_find_82 : decode cX0_find 82 = .ok (.iinc 3 1, 3) := by decide +kernel
theorem dX0_find_85 : decode cX0_find 85 = .ok (.goto (-74), 3) := by decide +kernel
theorem dX0_find_88 : decode cX0_find 88 = .ok (.return_, 1) := by decide +kernel
theorem dX0_give_0 : decode cX0_give 0 = .ok (.aload_n 0, 1) := by decide +kernel
theorem dX0_give_1 : decode cX0_give 1 = .ok (.getfield 9, 3) := by decide +kernel
theorem dX0_give_4 : decode cX0_give 4 = .ok (.iload_n 1, 1) := by decide +kernel
theorem dX0_give_5 : decode cX0_give 5 = .ok (.laload, 1) := by decide +kernel
theorem dX0_give_6 : decode cX0_give 6 = .ok (.lneg, 1) := by decide +kernel
theorem dX0_give_7 : decode cX0_give 7 = .ok (.aload_n 0, 1) := by decide +kernel
theorem dX0_give_8 : decode cX0_give 8 = .ok (.getfield 9, 3) := by decide +kernel
theorem dX0_give_11 : decode cX0_give 11 = .ok (.iload_n 2, 1) := by decide +kernel
theorem dX0_give_12 : decode cX0_give 12 = .ok (.laload, 1) := by decide +kernel
theorem dX0_give_13 : decode cX0_give 13 = .ok (.invokestatic 33, 3) := by decide +kernel
theorem dX0_give_16 : decode cX0_give 16 = .ok (.lstore_n 3, 1) := by decide +kernel
theorem dX0_give_17 : decode cX0_give 17 = .ok (.aload_n 0, 1) := by decide +kernel
theorem dX0_give_18 : decode cX0_give 18 = .ok (.getfield 9, 3) := by decide +kernel
theorem dX0_give_21 : decode cX0_give 21 = .ok (.iload_n 1, 1) := by decide +kernel
theorem dX0_give_22 : decode cX0_give 22 = .ok (.dup2, 1) := by decide +kernel
theorem dX0_give_23 : decode cX0_give 23 = .ok (.laload, 1) := by decide +kernel
theorem dX0_give_24 : decode cX0_give 24 = .ok (.lload_n 3, 1) := by decide +kernel
theorem dX0_give_25 : decode cX0_give 25 = .ok (.ladd, 1) := by decide +kernel
theorem dX0_give_26 : decode cX0_give 26 = .ok (.lastore, 1) := by decide +kernel
theorem dX0_give_27 : decode cX0_give 27 = .ok (.aload_n 0, 1) := by decide +kernel
theorem dX0_give_28 : decode cX0_give 28 = .ok (.getfield 9, 3) := by decide +kernel
theorem dX0_give_31 : decode cX0_give 31 = .ok (.iload_n 2, 1) := by decide +kernel
theorem dX0_give_32 : decode cX0_give 32 = .ok (.dup2, 1) := by decide +kernel
theorem dX0_give_33 : decode cX0_give 33 = .ok (.laload, 1) := by decide +kernel
theorem dX0_give_34 : decode cX0_give 34 = .ok (.lload_n 3, 1) := by decide +kernel
theorem dX0_give_35 : decode cX0_give 35 = .ok (.lsub, 1) := by decide +kernel
theorem dX0_give_36 : decode cX0_give 36 = .ok (.lastore, 1) := by decide +kernel
theorem dX0_give_37 : decode cX0_give 37 = .ok (.aload_n 0, 1) := by decide +kernel
theorem dX0_give_38 : decode cX0_give 38 = .ok (.getfield 15, 3) := by decide +kernel
theorem dX0_give_41 : decode cX0_give 41 = .ok (.aload_n 0, 1) := by decide +kernel
theorem dX0_give_42 : decode cX0_give 42 = .ok (.getfield 25, 3) := by decide +kernel
theorem dX0_give_45 : decode cX0_give 45 = .ok (.iload_n 1, 1) := by decide +kernel
theorem dX0_give_46 : decode cX0_give 46 = .ok (.iastore, 1) := by decide +kernel
theorem dX0_give_47 : decode cX0_give 47 = .ok (.aload_n 0, 1) := by decide +kernel
theorem dX0_give_48 : decode cX0_give 48 = .ok (.getfield 19, 3) := by decide +kernel
theorem dX0_give_51 : decode cX0_give 51 = .ok (.aload_n 0, 1) := by decide +kernel
theorem dX0_give_52 : decode cX0_give 52 = .ok (.getfield 25, 3) := by decide +kernel
theorem dX0_give_55 : decode cX0_give 55 = .ok (.iload_n 2, 1) := by decide +kernel
theorem dX0_give_56 : decode cX0_give 56 = .ok (.iastore, 1) := by decide +kernel
theorem dX0_give_57 : decode cX0_give 57 = .ok (.aload_n 0, 1) := by decide +kernel
theorem dX0_give_58 : decode cX0_give 58 = .ok (.getfield 22, 3) := by decide +kernel
theorem dX0_give_61 : decode cX0_give 61 = .ok (.aload_n 0, 1) := by decide +kernel
theorem dX0_give_62 : decode cX0_give 62 = .ok (.getfield 25, 3) := by decide +kernel
theorem dX0_give_65 : decode cX0_give 65 = .ok (.lload_n 3, 1) := by decide +kernel
theorem dX0_give_66 : decode cX0_give 66 = .ok (.lastore, 1) := by decide +kernel
theorem dX0_give_67 : decode cX0_give 67 = .ok (.aload_n 0, 1) := by decide +kernel
theorem dX0_give_68 : decode cX0_give 68 = .ok (.dup, 1) := by decide +kernel
theorem dX0_give_69 : decode cX0_give 69 = .ok (.getfield 25, 3) := by decide +kernel
theorem dX0_give_72 : decode cX0_give 72 = .ok (.iconst 1, 1) := by decide +kernel
theorem dX0_give_73 : decode cX0_give 73 = .ok (.iadd, 1) := by decide +kernel
theorem dX0_give_74 : decode cX0_give 74 = .ok (.putfield 25, 3) := by decide +kernel
theorem dX0_give_77 : decode cX0_give 77 = .ok (.return_, 1) := by decide +kernel
theorem dX1_init_0 : decode cX1_init 0 = .ok (.aload_n 0, 1) := by decide +kernel
theorem dX1_init_1 : decode cX1_init 1 = .ok (.invokespecial 1, 3) := by decide +kernel
theorem dX1_init_4 : decode cX1_init 4 = .ok (.lload_n 1, 1) := by decide +kernel
theorem dX1_init_5 : decode cX1_init 5 = .ok (.lload_n 3, 1) := by decide +kernel
theorem dX1_init_6 : decode cX1_init 6 = .ok (.lsub, 1) := by decide +kernel
theorem dX1_init_7 : decode cX1_init 7 = .ok (.lconst 0, 1) := by decide +kernel
theorem dX1_init_8 : decode cX1_init 8 = .ok (.invokestatic 7, 3) := by decide +kernel
theorem dX1_init_11 : decode cX1_init 11 = .ok (.lstore 10, 2) := by decide +kernel
theorem dX1_init_13 : decode cX1_init 13 = .ok (.aload_n 0, 1) := by decide +kernel
theorem dX1_init_14 : decode cX1_init 14 = .ok (.lload_n 1, 1) := by decide +kernel
theorem dX1_init_15 : decode cX1_init 15 = .ok (.lload 5, 2) := by decide +kernel
theorem dX1_init_17 : decode cX1_init 17 = .ok (.invokestatic 13, 3) := by decide +kernel
theorem dX1_init_20 : decode cX1_init 20 = .ok (.putfield 19, 3) := by decide +kernel
theorem dX1_init_23 : decode cX1_init 23 = .ok (.aload_n 0, 1) := by decide +kernel
theorem dX1_init_24 : decode cX1_init 24 = .ok (.lload_n 3, 1) := by decide +kernel
theorem dX1_init_25 : decode cX1_init 25 = .ok (.lload 5, 2) := by decide +kernel
theorem dX1_init_27 : decode cX1_init 27 = .ok (.invokestatic 13, 3) := by decide +kernel
theorem dX1_init_30 : decode cX1_init 30 = .ok (.putfield 25, 3) := by decide +kernel
theorem dX1_init_33 : decode cX1_init 33 = .ok (.aload_n 0, 1) := by decide +kernel
theorem dX1_init_34 : decode cX1_init 34 = .ok (.lload 10, 2) := by decide +kernel
theorem dX1_init_36 : decode cX1_init 36 = .ok (.lload 5, 2) := by decide +kernel
theorem dX1_init_38 : decode cX1_init 38 = .ok (.invokestatic 13, 3) := by decide +kernel
theorem dX1_init_41 : decode cX1_init 41 = .ok (.putfield 28, 3) := by decide +kernel
theorem dX1_init_44 : decode cX1_init 44 = .ok (.iload 9, 2) := by decide +kernel
theorem dX1_init_46 : decode cX1_init 46 = .ok (.ifCond .ne 21, 3) := by decide +kernel
theorem dX1_init_49 : decode cX1_init 49 = .ok (.aload_n 0, 1) := by decide +kernel
theorem dX1_init_50 : decode cX1_init 50 = .ok (.lload 10, 2) := by decide +kernel
theorem dX1_init_52 : decode cX1_init 52 = .ok (.lload 5, 2) := by decide +kernel
theorem dX1_init_54 : decode cX1_init 54 = .ok (.iload 7, 2) := by decide +kernel
theorem dX1_init_56 : decode cX1_init 56 = .ok (.i2l, 1) := by decide +kernel
theorem dX1_init_57 : decode cX1_init 57 = .ok (.lmul, 1) := by decide +kernel
theorem dX1_init_58 : decode cX1_init 58 = .ok (.invokestatic 13, 3) := by decide +kernel
theorem dX1_init_61 : decode cX1_init 61 = .ok (.putfield 31, 3) := by decide +kernel
theorem dX1_init_64 : decode cX1_init 64 = .ok (.goto 29, 3) := by decide +kernel
theorem dX1_init_67 : decode cX1_init 67 = .ok (.aload_n 0, 1) := by decide +kernel
theorem dX1_init_68 : decode cX1_init 68 = .ok (.lload 10, 2) := by decide +kernel
theorem dX1_init_70 : decode cX1_init 70 = .ok (.iload 9, 2) := by decide +kernel
theorem dX1_init_72 : decode cX1_init 72 = .ok (.iload 8, 2) := by decide +kernel
theorem dX1_init_74 : decode cX1_init 74 = .ok (.iadd, 1) := by decide +kernel
theorem dX1_init_75 : decode cX1_init 75 = .ok (.i2l, 1) := by decide +kernel
theorem dX1_init_76 : decode cX1_init 76 = .ok (.lmul, 1) := by decide +kernel
theorem dX1_init_77 : decode cX1_init 77 = .ok (.lload 5, 2) := by decide +kernel
theorem dX1_init_79 : decode cX1_init 79 = .ok (.iload 7, 2) := by decide +kernel
theorem dX1_init_81 : decode cX1_init 81 = .ok (.i2l, 1) := by decide +kernel
theorem dX1_init_82 : decode cX1_init 82 = .ok (.lmul, 1) := by decide +kernel
theorem dX1_init_83 : decode cX1_init 83 = .ok (.iload 9, 2) := by decide +kernel
theorem dX1_init_85 : decode cX1_init 85 = .ok (.i2l, 1) := by decide +kernel
theorem dX1_init_86 : decode cX1_init 86 = .ok (.lmul, 1) := by decide +kernel
theorem dX1_init_87 : decode cX1_init 87 = .ok (.invokestatic 13, 3) := by decide +kernel
theorem dX1_init_90 : decode cX1_init 90 = .ok (.putfield 31, 3) := by decide +kernel
theorem dX1_init_93 : decode cX1_init 93 = .ok (.aload_n 0, 1) := by decide +kernel
theorem dX1_init_94 : decode cX1_init 94 = .ok (.aload_n 0, 1) := by decide +kernel
theorem dX1_init_95 : decode cX1_init 95 = .ok (.getfield 31, 3) := by decide +kernel
theorem dX1_init_98 : decode cX1_init 98 = .ok (.iload 7, 2) := by decide +kernel
theorem dX1_init_100 : decode cX1_init 100 = .ok (.iload 8, 2) := by decide +kernel
theorem dX1_init_102 : decode cX1_init 102 = .ok (.isub, 1) := by decide +kernel
theorem dX1_init_103 : decode cX1_init 103 = .ok (.i2l, 1) := by decide +kernel
theorem dX1_init_104 : decode cX1_init 104 = .ok (.invokevirtual 34, 3) := by decide +kernel
theorem dX1_init_107 : decode cX1_init 107 = .ok (.putfield 38, 3) := by decide +kernel
theorem dX1_init_110 : decode cX1_init 110 = .ok (.aload_n 0, 1) := by decide +kernel
theorem dX1_init_111 : decode cX1_init 111 = .ok (.aload_n 0, 1) := by decide +kernel
theorem dX1_init_112 : decode cX1_init 112 = .ok (.getfield 28, 3) := by decide +kernel
theorem dX1_init_115 : decode cX1_init 115 = .ok (.aload_n 0, 1) := by decide +kernel
theorem dX1_init_116 : decode cX1_init 116 = .ok (.getfield 38, 3) := by decide +kernel
theorem dX1_init_119 : decode cX1_init 119 = .ok (.invokevirtual 41, 3) := by decide +kernel
theorem dX1_init_122 : decode cX1_init 122 = .ok (.putfield 45, 3) := by decide +kernel
theorem dX1_init_125 : decode cX1_init 125 = .ok (.aload_n 0, 1) := by decide +kernel
theorem dX1_init_126 : decode cX1_init 126 = .ok (.aload_n 0, 1) := by decide +kernel
theorem dX1_init_127 : decode cX1_init 127 = .ok (.getfield 38, 3) := by decide +kernel
theorem dX1_init_130 : decode cX1_init 130 = .ok (.getfield 48, 3) := by decide +kernel
theorem dX1_init_133 : decode cX1_init 133 = .ok (.lconst 0, 1) := by decide +kernel
theorem dX1_init_134 : decode cX1_init 134 = .ok (.lcmp, 1) := by decide +kernel
theorem dX1_init_135 : decode cX1_init 135 = .ok (.ifCond .ne 7, 3) := by decide +kernel
theorem dX1_init_138 : decode cX1_init 138 = .ok (.lconst 1, 1) := by decide +kernel
theorem dX1_init_139 : decode cX1_init 139 = .ok (.goto 9, 3) := by decide +kernel
theorem dX1_init_142 : decode cX1_init 142 = .ok (.iload 7, 2) := by decide +kernel
theorem dX1_init_144 : decode cX1_init 144 = .ok (.iload 8, 2) := by decide +kernel
theorem dX1_init_146 : decode cX1_init 146 = .ok (.isub, 1) := by decide +kernel
theorem dX1_init_147 : decode cX1_init 147 = .ok (.i2l, 1) := by decide +kernel
theorem dX1_init_148 : decode cX1_init 148 = .ok (.putfield 52, 3) := by decide +kernel
theorem dX1_init_151 : decode cX1_init 151 = .ok (.return_, 1) := by decide +kernel
theorem dX2_init_0 : decode cX2_init 0 = .ok (.aload_n 0, 1) := by decide +kernel
theorem dX2_init_1 : decode cX2_init 1 = .ok (.invokespecial 1, 3) := by decide +kernel
theorem dX2_init_4 : decode cX2_init 4 = .ok (.aload_n 0, 1) := by decide +kernel
theorem dX2_init_5 : decode cX2_init 5 = .ok (.lload_n 1, 1) := by decide +kernel
theorem dX2_init_6 : decode cX2_init 6 = .ok (.putfield 7, 3) := by decide +kernel
theorem dX2_init_9 : decode cX2_init 9 = .ok (.aload_n 0, 1) := by decide +kernel
theorem dX2_init_10 : decode cX2_init 10 = .ok (.lload_n 3, 1) := by decide +kernel
theorem dX2_init_11 : decode cX2_init 11 = .ok (.putfield 13, 3) := by decide +kernel
theorem dX2_init_14 : decode cX2_init 14 = .ok (.return_, 1) := by decide +kernel
theorem dX2_of_0 : decode cX2_of 0 = .ok (.lload_n 2, 1) := by decide +kernel
theorem dX2_of_1 : decode cX2_of 1 = .ok (.lconst 0, 1) := by decide +kernel
theorem dX2_of_2 : decode cX2_of 2 = .ok (.lcmp, 1) := by decide +kernel
theorem dX2_of_3 : decode cX2_of 3 = .ok (.ifCond .gt 13, 3) := by decide +kernel
theorem dX2_of_6 : decode cX2_of 6 = .ok (.new 8, 3) := by decide +kernel
theorem dX2_of_9 : decode cX2_of 9 = .ok (.dup, 1) := by decide +kernel
theorem dX2_of_10 : decode cX2_of 10 = .ok (.lconst 0, 1) := by decide +kernel
theorem dX2_of_11 : decode cX2_of 11 = .ok (.lconst 1, 1) := by decide +kernel
theorem dX2_of_12 : decode cX2_of 12 = .ok (.invokespecial 16, 3) := by decide +kernel
theorem dX2_of_15 : decode cX2_of 15 = .ok (.areturn, 1) := by decide +kernel
theorem dX2_of_16 : decode cX2_of 16 = .ok (.lload_n 0, 1) := by decide +kernel
theorem dX2_of_17 : decode cX2_of 17 = .ok (.invokestatic 19, 3) := by decide +kernel
theorem dX2_of_20 : decode cX2_of 20 = .ok (.lload_n 2, 1) := by decide +kernel
theorem dX2_of_21 : decode cX2_of 21 = .ok (.invokestatic 25, 3) := by decide +kernel
theorem dX2_of_24 : decode cX2_of 24 = .ok (.lstore 4, 2) := by decide +kernel
theorem dX2_of_26 : decode cX2_of 26 = .ok (.new 8, 3) := by decide +kernel
theorem dX2_of_29 : decode cX2_of 29 = .ok (.dup, 1) := by decide +kernel
theorem dX2_of_30 : decode cX2_of 30 = .ok (.lload_n 0, 1) := by decide +kernel
theorem dX2_of_31 : decode cX2_of 31 = .ok (.lload 4, 2) := by decide +kernel
theorem dX2_of_33 : decode cX2_of 33 = .ok (.ldiv, 1) := by decide +kernel
theorem dX2_of_34 : decode cX2_of 34 = .ok (.lload_n 2, 1) := by decide +kernel
theorem dX2_of_35 : decode cX2_of 35 = .ok (.lload 4, 2) := by decide +kernel
theorem dX2_of_37 : decode cX2_of 37 = .ok (.ldiv, 1) := by decide +kernel
theorem dX2_of_38 : decode cX2_of 38 = .ok (.invokespecial 16, 3) := by decide +kernel
theorem dX2_of_41 : decode cX2_of 41 = .ok (.areturn, 1) := by decide +kernel
theorem dX2_commonDivisor_0 : decode cX2_commonDivisor 0 = .ok (.lload_n 0, 1) := by decide +kernel
theorem dX2_commonDivisor_1 : decode cX2_commonDivisor 1 = .ok (.lstore 4, 2) := by decide +kernel
theorem dX2_commonDivisor_3 : decode cX2_commonDivisor 3 = .ok (.lload_n 2, 1) := by decide +kernel
theorem dX2_commonDivisor_4 : decode cX2_commonDivisor 4 = .ok (.lstore 6, 2) := by decide +kernel
theorem dX2_commonDivisor_6 : decode cX2_commonDivisor 6 = .ok (.iconst 0, 1) := by decide +kernel
theorem dX2_commonDivisor_7 : decode cX2_commonDivisor 7 = .ok (.istore 8, 2) := by decide +kernel
theorem dX2_commonDivisor_9 : decode cX2_commonDivisor 9 = .ok (.iload 8, 2) := by decide +kernel
theorem dX2_commonDivisor_11 : decode cX2_commonDivisor 11 = .ok (.bipush 100, 2) := by decide +kernel
theorem dX2_commonDivisor_13 : decode cX2_commonDivisor 13 = .ok (.if_icmp .ge 31, 3) := by decide +kernel
theorem dX2_commonDivisor_16 : decode cX2_commonDivisor 16 = .ok (.lload 6, 2) := by decide +kernel
theorem dX2_commonDivisor_18 : decode cX2_commonDivisor 18 = .ok (.lconst 0, 1) := by decide +kernel
theorem dX2_commonDivisor_19 : decode cX2_commonDivisor 19 = .ok (.lcmp, 1) := by decide +kernel
theorem dX2_commonDivisor_20 : decode cX2_commonDivisor 20 = .ok (.ifCond .eq 24, 3) := by decide +kernel
theorem dX2_commonDivisor_23 : decode cX2_commonDivisor 23 = .ok (.lload 4, 2) := by decide +kernel
theorem dX2_commonDivisor_25 : decode cX2_commonDivisor 25 = .ok (.lload 6, 2) := by decide +kernel
theorem dX2_commonDivisor_27 : decode cX2_commonDivisor 27 = .ok (.lrem, 1) := by decide +kernel
theorem dX2_commonDivisor_28 : decode cX2_commonDivisor 28 = .ok (.lstore 9, 2) := by decide +kernel
theorem dX2_commonDivisor_30 : decode cX2_commonDivisor 30 = .ok (.lload 6, 2) := by decide +kernel
theorem dX2_commonDivisor_32 : decode cX2_commonDivisor 32 = .ok (.lstore 4, 2) := by decide +kernel
theorem dX2_commonDivisor_34 : decode cX2_commonDivisor 34 = .ok (.lload 9, 2) := by decide +kernel
theorem dX2_commonDivisor_36 : decode cX2_commonDivisor 36 = .ok (.lstore 6, 2) := by decide +kernel
theorem dX2_commonDivisor_38 : decode cX2_commonDivisor 38 = .ok (.iinc 8 1, 3) := by decide +kernel
theorem dX2_commonDivisor_41 : decode cX2_commonDivisor 41 = .ok (.goto (-32), 3) := by decide +kernel
theorem dX2_commonDivisor_44 : decode cX2_commonDivisor 44 = .ok (.lload 4, 2) := by decide +kernel
theorem dX2_commonDivisor_46 : decode cX2_commonDivisor 46 = .ok (.lconst 0, 1) := by decide +kernel
theorem dX2_commonDivisor_47 : decode cX2_commonDivisor 47 = .ok (.lcmp, 1) := by decide +kernel
theorem dX2_commonDivisor_48 : decode cX2_commonDivisor 48 = .ok (.ifCond .le 8, 3) := by decide +kernel
theorem dX2_commonDivisor_51 : decode cX2_commonDivisor 51 = .ok (.lload 4, 2) := by decide +kernel
theorem dX2_commonDivisor_53 : decode cX2_commonDivisor 53 = .ok (.goto 4, 3) := by decide +kernel
theorem dX2_commonDivisor_56 : decode cX2_commonDivisor 56 = .ok (.lconst 1, 1) := by decide +kernel
theorem dX2_commonDivisor_57 : decode cX2_commonDivisor 57 = .ok (.lreturn, 1) := by decide +kernel
theorem dX2_times_0 : decode cX2_times 0 = .ok (.aload_n 0, 1) := by decide +kernel
theorem dX2_times_1 : decode cX2_times 1 = .ok (.getfield 7, 3) := by decide +kernel
theorem dX2_times_4 : decode cX2_times 4 = .ok (.lload_n 1, 1) := by decide +kernel
theorem dX2_times_5 : decode cX2_times 5 = .ok (.lmul, 1) := by decide +kernel
theorem dX2_times_6 : decode cX2_times 6 = .ok (.aload_n 0, 1) := by decide +kernel
theorem dX2_times_7 : decode cX2_times 7 = .ok (.getfield 13, 3) := by decide +kernel
theorem dX2_times_10 : decode cX2_times 10 = .ok (.invokestatic 29, 3) := by decide +kernel
theorem dX2_times_13 : decode cX2_times 13 = .ok (.areturn, 1) := by decide +kernel
theorem dX2_plusWhole_0 : decode cX2_plusWhole 0 = .ok (.aload_n 0, 1) := by decide +kernel
theorem dX2_plusWhole_1 : decode cX2_plusWhole 1 = .ok (.getfield 7, 3) := by decide +kernel
theorem dX2_plusWhole_4 : decode cX2_plusWhole 4 = .ok (.lload_n 1, 1) := by decide +kernel
theorem dX2_plusWhole_5 : decode cX2_plusWhole 5 = .ok (.aload_n 0, 1) := by decide +kernel
theorem dX2_plusWhole_6 : decode cX2_plusWhole 6 = .ok (.getfield 13, 3) := by decide +kernel
theorem dX2_plusWhole_9 : decode cX2_plusWhole 9 = .ok (.lmul, 1) := by decide +kernel
theorem dX2_plusWhole_10 : decode cX2_plusWhole 10 = .ok (.ladd, 1) := by decide +kernel
theorem dX2_plusWhole_11 : decode cX2_plusWhole 11 = .ok (.aload_n 0, 1) := by decide +kernel
theorem dX2_plusWhole_12 : decode cX2_plusWhole 12 = .ok (.getfield 13, 3) := by decide +kernel
theorem dX2_plusWhole_15 : decode cX2_plusWhole 15 = .ok (.invokestatic 29, 3) := by decide +kernel
theorem dX2_plusWhole_18 : decode cX2_plusWhole 18 = .ok (.areturn, 1) := by decide +kernel
theorem dX2_minus_0 : decode cX2_minus 0 = .ok (.aload_n 0, 1) := by decide +kernel
theorem dX2_minus_1 : decode cX2_minus 1 = .ok (.getfield 13, 3) := by decide +kernel
theorem dX2_minus_4 : decode cX2_minus 4 = .ok (.aload_n 1, 1) := by decide +kernel
theorem dX2_minus_5 : decode cX2_minus 5 = .ok (.getfield 13, 3) := by decide +kernel
theorem dX2_minus_8 : decode cX2_minus 8 = .ok (.invokestatic 25, 3) := by decide +kernel
theorem dX2_minus_11 : decode cX2_minus 11 = .ok (.lstore_n 2, 1) := by decide +kernel
theorem dX2_minus_12 : decode cX2_minus 12 = .ok (.aload_n 0, 1) := by decide +kernel
theorem dX2_minus_13 : decode cX2_minus 13 = .ok (.getfield 13, 3) := by decide +kernel
theorem dX2_minus_16 : decode cX2_minus 16 = .ok (.lload_n 2, 1) := by decide +kernel
theorem dX2_minus_17 : decode cX2_minus 17 = .ok (.ldiv, 1) := by decide +kernel
theorem dX2_minus_18 : decode cX2_minus 18 = .ok (.lstore 4, 2) := by decide +kernel
theorem dX2_minus_20 : decode cX2_minus 20 = .ok (.aload_n 1, 1) := by decide +kernel
theorem dX2_minus_21 : decode cX2_minus 21 = .ok (.getfield 13, 3) := by decide +kernel
theorem dX2_minus_24 : decode cX2_minus 24 = .ok (.lload_n 2, 1) := by decide +kernel
theorem dX2_minus_25 : decode cX2_minus 25 = .ok (.ldiv, 1) := by decide +kernel
theorem dX2_minus_26 : decode cX2_minus 26 = .ok (.lstore 6, 2) := by decide +kernel
theorem dX2_minus_28 : decode cX2_minus 28 = .ok (.aload_n 0, 1) := by decide +kernel
theorem dX2_minus_29 : decode cX2_minus 29 = .ok (.getfield 7, 3) := by decide +kernel
theorem dX2_minus_32 : decode cX2_minus 32 = .ok (.lload 6, 2) := by decide +kernel
theorem dX2_minus_34 : decode cX2_minus 34 = .ok (.lmul, 1) := by decide +kernel
theorem dX2_minus_35 : decode cX2_minus 35 = .ok (.aload_n 1, 1) := by decide +kernel
theorem dX2_minus_36 : decode cX2_minus 36 = .ok (.getfield 7, 3) := by decide +kernel
theorem dX2_minus_39 : decode cX2_minus 39 = .ok (.lload 4, 2) := by decide +kernel
theorem dX2_minus_41 : decode cX2_minus 41 = .ok (.lmul, 1) := by decide +kernel
theorem dX2_minus_42 : decode cX2_minus 42 = .ok (.lsub, 1) := by decide +kernel
theorem dX2_minus_43 : decode cX2_minus 43 = .ok (.aload_n 0, 1) := by decide +kernel
theorem dX2_minus_44 : decode cX2_minus 44 = .ok (.getfield 13, 3) := by decide +kernel
theorem dX2_minus_47 : decode cX2_minus 47 = .ok (.lload 6, 2) := by decide +kernel
theorem dX2_minus_49 : decode cX2_minus 49 = .ok (.lmul, 1) := by decide +kernel
theorem dX2_minus_50 : decode cX2_minus 50 = .ok (.invokestatic 29, 3) := by decide +kernel
theorem dX2_minus_53 : decode cX2_minus 53 = .ok (.areturn, 1) := by decide +kernel
theorem dX2_told_0 : decode cX2_told 0 = .ok (.iload_n 1, 1) := by decide +kernel
theorem dX2_told_1 : decode cX2_told 1 = .ok (.ifCond .ne 10, 3) := by decide +kernel
theorem dX2_told_4 : decode cX2_told 4 = .ok (.aload_n 0, 1) := by decide +kernel
theorem dX2_told_5 : decode cX2_told 5 = .ok (.getfield 7, 3) := by decide +kernel
theorem dX2_told_8 : decode cX2_told 8 = .ok (.goto 7, 3) := by decide +kernel
theorem dX2_told_11 : decode cX2_told 11 = .ok (.aload_n 0, 1) := by decide +kernel
theorem dX2_told_12 : decode cX2_told 12 = .ok (.getfield 13, 3) := by decide +kernel
theorem dX2_told_15 : decode cX2_told 15 = .ok (.lreturn, 1) := by decide +kernel
theorem dX3_init_0 : decode cX3_init 0 = .ok (.aload_n 0, 1) := by decide +kernel
theorem dX3_init_1 : decode cX3_init 1 = .ok (.invokespecial 3, 3) := by decide +kernel
theorem dX3_init_4 : decode cX3_init 4 = .ok (.aload_n 0, 1) := by decide +kernel
theorem dX3_init_5 : decode cX3_init 5 = .ok (.iconst 3, 1) := by decide +kernel
theorem dX3_init_6 : decode cX3_init 6 = .ok (.newarray .int, 2) := by decide +kernel
theorem dX3_init_8 : decode cX3_init 8 = .ok (.dup, 1) := by decide +kernel
theorem dX3_init_9 : decode cX3_init 9 = .ok (.iconst 0, 1) := by decide +kernel
theorem dX3_init_10 : decode cX3_init 10 = .ok (.iconst 0, 1) := by decide +kernel
theorem dX3_init_11 : decode cX3_init 11 = .ok (.iastore, 1) := by decide +kernel
theorem dX3_init_12 : decode cX3_init 12 = .ok (.dup, 1) := by decide +kernel
theorem dX3_init_13 : decode cX3_init 13 = .ok (.iconst 1, 1) := by decide +kernel
theorem dX3_init_14 : decode cX3_init 14 = .ok (.iconst 0, 1) := by decide +kernel
theorem dX3_init_15 : decode cX3_init 15 = .ok (.iastore, 1) := by decide +kernel
theorem dX3_init_16 : decode cX3_init 16 = .ok (.dup, 1) := by decide +kernel
theorem dX3_init_17 : decode cX3_init 17 = .ok (.iconst 2, 1) := by decide +kernel
theorem dX3_init_18 : decode cX3_init 18 = .ok (.bipush 100, 2) := by decide +kernel
theorem dX3_init_20 : decode cX3_init 20 = .ok (.iastore, 1) := by decide +kernel
theorem dX3_init_21 : decode cX3_init 21 = .ok (.putfield 9, 3) := by decide +kernel
theorem dX3_init_24 : decode cX3_init 24 = .ok (.aload_n 0, 1) := by decide +kernel
theorem dX3_init_25 : decode cX3_init 25 = .ok (.bipush 6, 2) := by decide +kernel
theorem dX3_init_27 : decode cX3_init 27 = .ok (.newarray .int, 2) := by decide +kernel
theorem dX3_init_29 : decode cX3_init 29 = .ok (.putfield 15, 3) := by decide +kernel
theorem dX3_init_32 : decode cX3_init 32 = .ok (.aload_n 0, 1) := by decide +kernel
theorem dX3_init_33 : decode cX3_init 33 = .ok (.bipush 6, 2) := by decide +kernel
theorem dX3_init_35 : decode cX3_init 35 = .ok (.newarray .int, 2) := by decide +kernel
theorem dX3_init_37 : decode cX3_init 37 = .ok (.putfield 18, 3) := by decide +kernel
theorem dX3_init_40 : decode cX3_init 40 = .ok (.aload_n 0, 1) := by decide +kernel
theorem dX3_init_41 : decode cX3_init 41 = .ok (.bipush 6, 2) := by decide +kernel
theorem dX3_init_43 : decode cX3_init 43 = .ok (.newarray .int, 2) := by decide +kernel
theorem dX3_init_45 : decode cX3_init 45 = .ok (.putfield 21, 3) := by decide +kernel
theorem dX3_init_48 : decode cX3_init 48 = .ok (.aload_n 0, 1) := by decide +kernel
theorem dX3_init_49 : decode cX3_init 49 = .ok (.bipush 6, 2) := by decide +kernel
theorem dX3_init_51 : decode cX3_init 51 = .ok (.newarray .int, 2) := by decide +kernel
theorem dX3_init_53 : decode cX3_init 53 = .ok (.putfield 24, 3) := by decide +kernel
theorem dX3_init_56 : decode cX3_init 56 = .ok (.aload_n 0, 1) := by decide +kernel
theorem dX3_init_57 : decode cX3_init 57 = .ok (.new 27, 3) := by decide +kernel
theorem dX3_init_60 : decode cX3_init 60 = .ok (.dup, 1) := by decide +kernel
theorem dX3_init_61 : decode cX3_init 61 = .ok (.invokespecial 29, 3) := by decide +kernel
theorem dX3_init_64 : decode cX3_init 64 = .ok (.putfield 30, 3) := by decide +kernel
theorem dX3_init_67 : decode cX3_init 67 = .ok (.return_, 1) := by decide +kernel
theorem dX3_loss_0 : decode cX3_loss 0 = .ok (.iload_n 1, 1) := by decide +kernel
theorem dX3_loss_1 : decode cX3_loss 1 = .ok (.iconst 0, 1) := by decide +kernel
theorem dX3_loss_2 : decode cX3_loss 2 = .ok (.ldc 34, 2) := by decide +kernel
theorem dX3_loss_4 : decode cX3_loss 4 = .ok (.invokestatic 35, 3) := by decide +kernel
theorem dX3_loss_7 : decode cX3_loss 7 = .ok (.ifCond .eq 6, 3) := by decide +kernel
theorem dX3_loss_10 : decode cX3_loss 10 = .ok (.bipush (-2), 2) := by decide +kernel
theorem dX3_loss_12 : decode cX3_loss 12 = .ok (.ireturn, 1) := by decide +kernel
theorem dX3_loss_13 : decode cX3_loss 13 = .ok (.aload_n 0, 1) := by decide +kernel
theorem dX3_loss_14 : decode cX3_loss 14 = .ok (.getfield 39, 3) := by decide +kernel
theorem dX3_loss_17 : decode cX3_loss 17 = .ok (.istore_n 2, 1) := by decide +kernel
theorem dX3_loss_18 : decode cX3_loss 18 = .ok (.aload_n 0, 1) := by decide +kernel
theorem dX3_loss_19 : decode cX3_loss 19 = .ok (.iload_n 1, 1) := by decide +kernel
theorem dX3_loss_20 : decode cX3_loss 20 = .ok (.putfield 39, 3) := by decide +kernel
theorem dX3_loss_23 : decode cX3_loss 23 = .ok (.iload_n 2, 1) := by decide +kernel
theorem dX3_loss_24 : decode cX3_loss 24 = .ok (.ireturn, 1) := by decide +kernel
theorem dX3_claimant_0 : decode cX3_claimant 0 = .ok (.iload_n 1, 1) := by decide +kernel
theorem dX3_claimant_1 : decode cX3_claimant 1 = .ok (.iconst 0, 1) := by decide +kernel
theorem dX3_claimant_2 : decode cX3_claimant 2 = .ok (.bipush 100, 2) := by decide +kernel
theorem dX3_claimant_4 : decode cX3_claimant 4 = .ok (.invokestatic 35, 3) := by decide +kernel
theorem dX3_claimant_7 : decode cX3_claimant 7 = .ok (.ifCond .eq 6, 3) := by decide +kernel
theorem dX3_claimant_10 : decode cX3_claimant 10 = .ok (.bipush (-2), 2) := by decide +kernel
theorem dX3_claimant_12 : decode cX3_claimant 12 = .ok (.ireturn, 1) := by decide +kernel
theorem dX3_claimant_13 : decode cX3_claimant 13 = .ok (.aload_n 0, 1) := by decide +kernel
theorem dX3_claimant_14 : decode cX3_claimant 14 = .ok (.getfield 43, 3) := by decide +kernel
theorem dX3_claimant_17 : decode cX3_claimant 17 = .ok (.istore_n 2, 1) := by decide +kernel
theorem dX3_claimant_18 : decode cX3_claimant 18 = .ok (.aload_n 0, 1) := by decide +kernel
theorem dX3_claimant_19 : decode cX3_claimant 19 = .ok (.iload_n 1, 1) := by decide +kernel
theorem dX3_claimant_20 : decode cX3_claimant 20 = .ok (.putfield 43, 3) := by decide +kernel
theorem dX3_claimant_23 : decode cX3_claimant 23 = .ok (.iload_n 2, 1) := by decide +kernel
theorem dX3_claimant_24 : decode cX3_claimant 24 = .ok (.ireturn, 1) := by decide +kernel
theorem dX3_wrong_0 : decode cX3_wrong 0 = .ok (.iload_n 1, 1) := by decide +kernel
theorem dX3_wrong_1 : decode cX3_wrong 1 = .ok (.iconst 0, 1) := by decide +kernel
theorem dX3_wrong_2 : decode cX3_wrong 2 = .ok (.bipush 100, 2) := by decide +kernel
theorem dX3_wrong_4 : decode cX3_wrong 4 = .ok (.invokestatic 35, 3) := by decide +kernel
theorem dX3_wrong_7 : decode cX3_wrong 7 = .ok (.ifCond .eq 6, 3) := by decide +kernel
theorem dX3_wrong_10 : decode cX3_wrong 10 = .ok (.bipush (-2), 2) := by decide +kernel
theorem dX3_wrong_12 : decode cX3_wrong 12 = .ok (.ireturn, 1) := by decide +kernel
theorem dX3_wrong_13 : decode cX3_wrong 13 = .ok (.iconst 0, 1) := by decide +kernel
theorem dX3_wrong_14 : decode cX3_wrong 14 = .ok (.istore_n 2, 1) := by decide +kernel
theorem dX3_wrong_15 : decode cX3_wrong 15 = .ok (.iload_n 2, 1) := by decide +kernel
theorem dX3_wrong_16 : decode cX3_wrong 16 = .ok (.bipush 6, 2) := by decide +kernel
theorem dX3_wrong_18 : decode cX3_wrong 18 = .ok (.if_icmp .ge 52, 3) := by decide +kernel
theorem dX3_wrong_21 : decode cX3_wrong 21 = .ok (.aload_n 0, 1) := by decide +kernel
theorem dX3_wrong_22 : decode cX3_wrong 22 = .ok (.getfield 46, 3) := by decide +kernel
theorem dX3_wrong_25 : decode cX3_wrong 25 = .ok (.iload_n 2, 1) := by decide +kernel
theorem dX3_wrong_26 : decode cX3_wrong 26 = .ok (.invokestatic 49, 3) := by decide +kernel
theorem dX3_wrong_29 : decode cX3_wrong 29 = .ok (.ifCond .ne 35, 3) := by decide +kernel
theorem dX3_wrong_32 : decode cX3_wrong 32 = .ok (.aload_n 0, 1) := by decide +kernel
theorem dX3_wrong_33 : decode cX3_wrong 33 = .ok (.dup, 1) := by decide +kernel
theorem dX3_wrong_34 : decode cX3_wrong 34 = .ok (.getfield 46, 3) := by decide +kernel
theorem dX3_wrong_37 : decode cX3_wrong 37 = .ok (.iload_n 2, 1) := by decide +kernel
theorem dX3_wrong_38 : decode cX3_wrong 38 = .ok (.invokestatic 53, 3) := by decide +kernel
theorem dX3_wrong_41 : decode cX3_wrong 41 = .ok (.ior, 1) := by decide +kernel
theorem dX3_wrong_42 : decode cX3_wrong 42 = .ok (.putfield 46, 3) := by decide +kernel
theorem dX3_wrong_45 : decode cX3_wrong 45 = .ok (.aload_n 0, 1) := by decide +kernel
theorem dX3_wrong_46 : decode cX3_wrong 46 = .ok (.getfield 15, 3) := by decide +kernel
theorem dX3_wrong_49 : decode cX3_wrong 49 = .ok (.iload_n 2, 1) := by decide +kernel
theorem dX3_wrong_50 : decode cX3_wrong 50 = .ok (.iload_n 1, 1) := by decide +kernel
theorem dX3_wrong_51 : decode cX3_wrong 51 = .ok (.iastore, 1) := by decide +kernel
theorem dX3_wrong_52 : decode cX3_wrong 52 = .ok (.aload_n 0, 1) := by decide +kernel
theorem dX3_wrong_53 : decode cX3_wrong 53 = .ok (.getfield 18, 3) := by decide +kernel
theorem dX3_wrong_56 : decode cX3_wrong 56 = .ok (.iload_n 2, 1) := by decide +kernel
theorem dX3_wrong_57 : decode cX3_wrong 57 = .ok (.iload_n 2, 1) := by decide +kernel
theorem dX3_wrong_58 : decode cX3_wrong 58 = .ok (.invokestatic 53, 3) := by decide +kernel
theorem dX3_wrong_61 : decode cX3_wrong 61 = .ok (.iastore, 1) := by decide +kernel
theorem dX3_wrong_62 : decode cX3_wrong 62 = .ok (.iload_n 2, 1) := by decide +kernel
theorem dX3_wrong_63 : decode cX3_wrong 63 = .ok (.ireturn, 1) := by decide +kernel
theorem dX3_wrong_64 : decode cX3_wrong 64 = .ok (.iinc 2 1, 3) := by decide +kernel
theorem dX3_wrong_67 : decode cX3_wrong 67 = .ok (.goto (-52), 3) := by decide +kernel
theorem dX3_wrong_70 : decode cX3_wrong 70 = .ok (.bipush (-4), 2) := by decide +kernel
theorem dX3_wrong_72 : decode cX3_wrong 72 = .ok (.ireturn, 1) := by decide +kernel
theorem dX3_leave_0 : decode cX3_leave 0 = .ok (.aload_n 0, 1) := by decide +kernel
theorem dX3_leave_1 : decode cX3_leave 1 = .ok (.iload_n 1, 1) := by decide +kernel
theorem dX3_leave_2 : decode cX3_leave 2 = .ok (.invokevirtual 57, 3) := by decide +kernel
theorem dX3_leave_5 : decode cX3_leave 5 = .ok (.ifCond .ne 5, 3) := by decide +kernel
theorem dX3_leave_8 : decode cX3_leave 8 = .ok (.iconst (-1), 1) := by decide +kernel
theorem dX3_leave_9 : decode cX3_leave 9 = .ok (.ireturn, 1) := by decide +kernel
theorem dX3_leave_10 : decode cX3_leave 10 = .ok (.aload_n 0, 1) := by decide +kernel
theorem dX3_leave_11 : decode cX3_leave 11 = .ok (.iload_n 1, 1) := by decide +kernel
theorem dX3_leave_12 : decode cX3_leave 12 = .ok (.invokevirtual 61, 3) := by decide +kernel
theorem dX3_leave_15 : decode cX3_leave 15 = .ok (.aload_n 0, 1) := by decide +kernel
theorem dX3_leave_16 : decode cX3_leave 16 = .ok (.iload_n 1, 1) := by decide +kernel
theorem dX3_leave_17 : decode cX3_leave 17 = .ok (.invokevirtual 65, 3) := by decide +kernel
theorem dX3_leave_20 : decode cX3_leave 20 = .ok (.aload_n 0, 1) := by decide +kernel
theorem dX3_leave_21 : decode cX3_leave 21 = .ok (.dup, 1) := by decide +kernel
theorem dX3_leave_22 : decode cX3_leave 22 = .ok (.getfield 46, 3) := by decide +kernel
theorem dX3_leave_25 : decode cX3_leave 25 = .ok (.iload_n 1, 1) := by decide +kernel
theorem dX3_leave_26 : decode cX3_leave 26 = .ok (.invokestatic 53, 3) := by decide +kernel
theorem dX3_leave_29 : decode cX3_leave 29 = .ok (.iconst (-1), 1) := by decide +kernel
theorem dX3_leave_30 : decode cX3_leave 30 = .ok (.ixor, 1) := by decide +kernel
theorem dX3_leave_31 : decode cX3_leave 31 = .ok (.iand, 1) := by decide +kernel
theorem dX3_leave_32 : decode cX3_leave 32 = .ok (.putfield 46, 3) := by decide +kernel
theorem dX3_leave_35 : decode cX3_leave 35 = .ok (.aload_n 0, 1) := by decide +kernel
theorem dX3_leave_36 : decode cX3_leave 36 = .ok (.dup, 1) := by decide +kernel
theorem dX3_leave_37 : decode cX3_leave 37 = .ok (.getfield 68, 3) := by decide +kernel
theorem dX3_leave_40 : decode cX3_leave 40 = .ok (.iload_n 1, 1) := by decide +kernel
theorem dX3_leave_41 : decode cX3_leave 41 = .ok (.invokestatic 53, 3) := by decide +kernel
theorem dX3_leave_44 : decode cX3_leave 44 = .ok (.iconst (-1), 1) := by decide +kernel
theorem dX3_leave_45 : decode cX3_leave 45 = .ok (.ixor, 1) := by decide +kernel
theorem dX3_leave_46 : decode cX3_leave 46 = .ok (.iand, 1) := by decide +kernel
theorem dX3_leave_47 : decode cX3_leave 47 = .ok (.putfield 68, 3) := by decide +kernel
theorem dX3_leave_50 : decode cX3_leave 50 = .ok (.aload_n 0, 1) := by decide +kernel
theorem dX3_leave_51 : decode cX3_leave 51 = .ok (.getfield 15, 3) := by decide +kernel
theorem dX3_leave_54 : decode cX3_leave 54 = .ok (.iload_n 1, 1) := by decide +kernel
theorem dX3_leave_55 : decode cX3_leave 55 = .ok (.iconst 0, 1) := by decide +kernel
theorem dX3_leave_56 : decode cX3_leave 56 = .ok (.iastore, 1) := by decide +kernel
theorem dX3_leave_57 : decode cX3_leave 57 = .ok (.aload_n 0, 1) := by decide +kernel
theorem dX3_leave_58 : decode cX3_leave 58 = .ok (.getfield 18, 3) := by decide +kernel
theorem dX3_leave_61 : decode cX3_leave 61 = .ok (.iload_n 1, 1) := by decide +kernel
theorem dX3_leave_62 : decode cX3_leave 62 = .ok (.iconst 0, 1) := by decide +kernel
theorem dX3_leave_63 : decode cX3_leave 63 = .ok (.iastore, 1) := by decide +kernel
theorem dX3_leave_64 : decode cX3_leave 64 = .ok (.aload_n 0, 1) := by decide +kernel
theorem dX3_leave_65 : decode cX3_leave 65 = .ok (.getfield 24, 3) := by decide +kernel
theorem dX3_leave_68 : decode cX3_leave 68 = .ok (.iload_n 1, 1) := by decide +kernel
theorem dX3_leave_69 : decode cX3_leave 69 = .ok (.iconst 0, 1) := by decide +kernel
theorem dX3_leave_70 : decode cX3_leave 70 = .ok (.iastore, 1) := by decide +kernel
theorem dX3_leave_71 : decode cX3_leave 71 = .ok (.aload_n 0, 1) := by decide +kernel
theorem dX3_leave_72 : decode cX3_leave 72 = .ok (.getfield 46, 3) := by decide +kernel
theorem dX3_leave_75 : decode cX3_leave 75 = .ok (.invokestatic 71, 3) := by decide +kernel
theorem dX3_leave_78 : decode cX3_leave 78 = .ok (.ireturn, 1) := by decide +kernel
theorem dX3_weight_0 : decode cX3_weight 0 = .ok (.aload_n 0, 1) := by decide +kernel
theorem dX3_weight_1 : decode cX3_weight 1 = .ok (.iload_n 1, 1) := by decide +kernel
theorem dX3_weight_2 : decode cX3_weight 2 = .ok (.invokevirtual 57, 3) := by decide +kernel
theorem dX3_weight_5 : decode cX3_weight 5 = .ok (.ifCond .ne 5, 3) := by decide +kernel
theorem dX3_weight_8 : decode cX3_weight 8 = .ok (.iconst (-1), 1) := by decide +kernel
theorem dX3_weight_9 : decode cX3_weight 9 = .ok (.ireturn, 1) := by decide +kernel
theorem dX3_weight_10 : decode cX3_weight 10 = .ok (.iload_n 2, 1) := by decide +kernel
theorem dX3_weight_11 : decode cX3_weight 11 = .ok (.iconst 0, 1) := by decide +kernel
theorem dX3_weight_12 : decode cX3_weight 12 = .ok (.bipush 100, 2) := by decide +kernel
theorem dX3_weight_14 : decode cX3_weight 14 = .ok (.invokestatic 35, 3) := by decide +kernel
theorem dX3_weight_17 : decode cX3_weight 17 = .ok (.ifCond .eq 6, 3) := by decide +kernel
theorem dX3_weight_20 : decode cX3_weight 20 = .ok (.bipush (-2), 2) := by decide +kernel
theorem dX3_weight_22 : decode cX3_weight 22 = .ok (.ireturn, 1) := by decide +kernel
theorem dX3_weight_23 : decode cX3_weight 23 = .ok (.aload_n 0, 1) := by decide +kernel
theorem dX3_weight_24 : decode cX3_weight 24 = .ok (.getfield 15, 3) := by decide +kernel
theorem dX3_weight_27 : decode cX3_weight 27 = .ok (.iload_n 1, 1) := by decide +kernel
theorem dX3_weight_28 : decode cX3_weight 28 = .ok (.iaload, 1) := by decide +kernel
theorem dX3_weight_29 : decode cX3_weight 29 = .ok (.istore_n 3, 1) := by decide +kernel
theorem dX3_weight_30 : decode cX3_weight 30 = .ok (.aload_n 0, 1) := by decide +kernel
theorem dX3_weight_31 : decode cX3_weight 31 = .ok (.getfield 15, 3) := by decide +kernel
theorem dX3_weight_34 : decode cX3_weight 34 = .ok (.iload_n 1, 1) := by decide +kernel
theorem dX3_weight_35 : decode cX3_weight 35 = .ok (.iload_n 2, 1) := by decide +kernel
theorem dX3_weight_36 : decode cX3_weight 36 = .ok (.iastore, 1) := by decide +kernel
theorem dX3_weight_37 : decode cX3_weight 37 = .ok (.iload_n 3, 1) := by decide +kernel
theorem dX3_weight_38 : decode cX3_weight 38 = .ok (.ireturn, 1) := by decide +kernel
theorem dX3_broke_0 : decode cX3_broke 0 = .ok (.aload_n 0, 1) := by decide +kernel
theorem dX3_broke_1 : decode cX3_broke 1 = .ok (.iload_n 1, 1) := by decide +kernel
theorem dX3_broke_2 : decode cX3_broke 2 = .ok (.invokevirtual 57, 3) := by decide +kernel
theorem dX3_broke_5 : decode cX3_broke 5 = .ok (.ifCond .ne 5, 3) := by decide +kernel
theorem dX3_broke_8 : decode cX3_broke 8 = .ok (.iconst (-1), 1) := by decide +kernel
theorem dX3_broke_9 : decode cX3_broke 9 = .ok (.ireturn, 1) := by decide +kernel
theorem dX3_broke_10 : decode cX3_broke 10 = .ok (.aload_n 0, 1) := by decide +kernel
theorem dX3_broke_11 : decode cX3_broke 11 = .ok (.getfield 68, 3) := by decide +kernel
theorem dX3_broke_14 : decode cX3_broke 14 = .ok (.iload_n 1, 1) := by decide +kernel
theorem dX3_broke_15 : decode cX3_broke 15 = .ok (.invokestatic 49, 3) := by decide +kernel
theorem dX3_broke_18 : decode cX3_broke 18 = .ok (.iload_n 2, 1) := by decide +kernel
theorem dX3_broke_19 : decode cX3_broke 19 = .ok (.if_icmp .ne 5, 3) := by decide +kernel
theorem dX3_broke_22 : decode cX3_broke 22 = .ok (.iconst 0, 1) := by decide +kernel
theorem dX3_broke_23 : decode cX3_broke 23 = .ok (.ireturn, 1) := by decide +kernel
theorem dX3_broke_24 : decode cX3_broke 24 = .ok (.aload_n 0, 1) := by decide +kernel
theorem dX3_broke_25 : decode cX3_broke 25 = .ok (.dup, 1) := by decide +kernel
theorem dX3_broke_26 : decode cX3_broke 26 = .ok (.getfield 68, 3) := by decide +kernel
theorem dX3_broke_29 : decode cX3_broke 29 = .ok (.iload_n 1, 1) := by decide +kernel
theorem dX3_broke_30 : decode cX3_broke 30 = .ok (.invokestatic 53, 3) := by decide +kernel
theorem dX3_broke_33 : decode cX3_broke 33 = .ok (.ixor, 1) := by decide +kernel
theorem dX3_broke_34 : decode cX3_broke 34 = .ok (.putfield 68, 3) := by decide +kernel
theorem dX3_broke_37 : decode cX3_broke 37 = .ok (.iconst 1, 1) := by decide +kernel
theorem dX3_broke_38 : decode cX3_broke 38 = .ok (.ireturn, 1) := by decide +kernel
theorem dX3_pair_0 : decode cX3_pair 0 = .ok (.aload_n 0, 1) := by decide +kernel
theorem dX3_pair_1 : decode cX3_pair 1 = .ok (.iload_n 1, 1) := by decide +kernel
theorem dX3_pair_2 : decode cX3_pair 2 = .ok (.invokevirtual 57, 3) := by decide +kernel
theorem dX3_pair_5 : decode cX3_pair 5 = .ok (.ifCond .eq 16, 3) := by decide +kernel
theorem dX3_pair_8 : decode cX3_pair 8 = .ok (.aload_n 0, 1) := by decide +kernel
theorem dX3_pair_9 : decode cX3_pair 9 = .ok (.iload_n 2, 1) := by decide +kernel
theorem dX3_pair_10 : decode cX3_pair 10 = .ok (.invokevirtual 57, 3) := by decide +kernel
theorem dX3_pair_13 : decode cX3_pair 13 = .ok (.ifCond .eq 8, 3) := by decide +kernel
theorem dX3_pair_16 : decode cX3_pair 16 = .ok (.iload_n 1, 1) := by decide +kernel
theorem dX3_pair_17 : decode cX3_pair 17 = .ok (.iload_n 2, 1) := by decide +kernel
theorem dX3_pair_18 : decode cX3_pair 18 = .ok (.if_icmp .ne 5, 3) := by decide +kernel
theorem dX3_pair_21 : decode cX3_pair 21 = .ok (.iconst (-1), 1) := by decide +kernel
theorem dX3_pair_22 : decode cX3_pair 22 = .ok (.ireturn, 1) := by decide +kernel
theorem dX3_pair_23 : decode cX3_pair 23 = .ok (.aload_n 0, 1) := by decide +kernel
theorem dX3_pair_24 : decode cX3_pair 24 = .ok (.iload_n 1, 1) := by decide +kernel
theorem dX3_pair_25 : decode cX3_pair 25 = .ok (.invokevirtual 76, 3) := by decide +kernel
theorem dX3_pair_28 : decode cX3_pair 28 = .ok (.ifCond .ne 33, 3) := by decide +kernel
theorem dX3_pair_31 : decode cX3_pair 31 = .ok (.aload_n 0, 1) := by decide +kernel
theorem dX3_pair_32 : decode cX3_pair 32 = .ok (.iload_n 2, 1) := by decide +kernel
theorem dX3_pair_33 : decode cX3_pair 33 = .ok (.invokevirtual 76, 3) := by decide +kernel
theorem dX3_pair_36 : decode cX3_pair 36 = .ok (.ifCond .ne 25, 3) := by decide +kernel
theorem dX3_pair_39 : decode cX3_pair 39 = .ok (.aload_n 0, 1) := by decide +kernel
theorem dX3_pair_40 : decode cX3_pair 40 = .ok (.getfield 79, 3) := by decide +kernel
theorem dX3_pair_43 : decode cX3_pair 43 = .ok (.iload_n 1, 1) := by decide +kernel
theorem dX3_pair_44 : decode cX3_pair 44 = .ok (.invokestatic 49, 3) := by decide +kernel
theorem dX3_pair_47 : decode cX3_pair 47 = .ok (.ifCond .ne 14, 3) := by decide +kernel
theorem dX3_pair_50 : decode cX3_pair 50 = .ok (.aload_n 0, 1) := by decide +kernel
theorem dX3_pair_51 : decode cX3_pair 51 = .ok (.getfield 79, 3) := by decide +kernel
theorem dX3_pair_54 : decode cX3_pair 54 = .ok (.iload_n 2, 1) := by decide +kernel
theorem dX3_pair_55 : decode cX3_pair 55 = .ok (.invokestatic 49, 3) := by decide +kernel
theorem dX3_pair_58 : decode cX3_pair 58 = .ok (.ifCond .eq 6, 3) := by decide +kernel
theorem dX3_pair_61 : decode cX3_pair 61 = .ok (.bipush (-3), 2) := by decide +kernel
theorem dX3_pair_63 : decode cX3_pair 63 = .ok (.ireturn, 1) := by decide +kernel
theorem dX3_pair_64 : decode cX3_pair 64 = .ok (.aload_n 0, 1) := by decide +kernel
theorem dX3_pair_65 : decode cX3_pair 65 = .ok (.getfield 18, 3) := by decide +kernel
theorem dX3_pair_68 : decode cX3_pair 68 = .ok (.iload_n 1, 1) := by decide +kernel
theorem dX3_pair_69 : decode cX3_pair 69 = .ok (.iload_n 1, 1) := by decide +kernel
theorem dX3_pair_70 : decode cX3_pair 70 = .ok (.invokestatic 53, 3) := by decide +kernel
theorem dX3_pair_73 : decode cX3_pair 73 = .ok (.iload_n 2, 1) := by decide +kernel
theorem dX3_pair_74 : decode cX3_pair 74 = .ok (.invokestatic 53, 3) := by decide +kernel
theorem dX3_pair_77 : decode cX3_pair 77 = .ok (.ior, 1) := by decide +kernel
theorem dX3_pair_78 : decode cX3_pair 78 = .ok (.iastore, 1) := by decide +kernel
theorem dX3_pair_79 : decode cX3_pair 79 = .ok (.aload_n 0, 1) := by decide +kernel
theorem dX3_pair_80 : decode cX3_pair 80 = .ok (.getfield 18, 3) := by decide +kernel
theorem dX3_pair_83 : decode cX3_pair 83 = .ok (.iload_n 2, 1) := by decide +kernel
theorem dX3_pair_84 : decode cX3_pair 84 = .ok (.iload_n 1, 1) := by decide +kernel
theorem dX3_pair_85 : decode cX3_pair 85 = .ok (.invokestatic 53, 3) := by decide +kernel
theorem dX3_pair_88 : decode cX3_pair 88 = .ok (.iload_n 2, 1) := by decide +kernel
theorem dX3_pair_89 : decode cX3_pair 89 = .ok (.invokestatic 53, 3) := by decide +kernel
theorem dX3_pair_92 : decode cX3_pair 92 = .ok (.ior, 1) := by decide +kernel
theorem dX3_pair_93 : decode cX3_pair 93 = .ok (.iastore, 1) := by decide +kernel
theorem dX3_pair_94 : decode cX3_pair 94 = .ok (.iconst 1, 1) := by decide +kernel
theorem dX3_pair_95 : decode cX3_pair 95 = .ok (.ireturn, 1) := by decide +kernel
theorem dX3_part_0 : decode cX3_part 0 = .ok (.aload_n 0, 1) := by decide +kernel
theorem dX3_part_1 : decode cX3_part 1 = .ok (.iload_n 1, 1) := by decide +kernel
theorem dX3_part_2 : decode cX3_part 2 = .ok (.invokevirtual 57, 3) := by decide +kernel
theorem dX3_part_5 : decode cX3_part 5 = .ok (.ifCond .ne 5, 3) := by decide +kernel
theorem dX3_part_8 : decode cX3_part 8 = .ok (.iconst (-1), 1) := by decide +kernel
theorem dX3_part_9 : decode cX3_part 9 = .ok (.ireturn, 1) := by decide +kernel
theorem dX3_part_10 : decode cX3_part 10 = .ok (.aload_n 0, 1) := by decide +kernel
theorem dX3_part_11 : decode cX3_part 11 = .ok (.iload_n 1, 1) := by decide +kernel
theorem dX3_part_12 : decode cX3_part 12 = .ok (.invokevirtual 76, 3) := by decide +kernel
theorem dX3_part_15 : decode cX3_part 15 = .ok (.ifCond .eq 14, 3) := by decide +kernel
theorem dX3_part_18 : decode cX3_part 18 = .ok (.aload_n 0, 1) := by decide +kernel
theorem dX3_part_19 : decode cX3_part 19 = .ok (.getfield 79, 3) := by decide +kernel
theorem dX3_part_22 : decode cX3_part 22 = .ok (.iload_n 1, 1) := by decide +kernel
theorem dX3_part_23 : decode cX3_part 23 = .ok (.invokestatic 49, 3) := by decide +kernel
theorem dX3_part_26 : decode cX3_part 26 = .ok (.ifCond .eq 6, 3) := by decide +kernel
theorem dX3_part_29 : decode cX3_part 29 = .ok (.bipush (-3), 2) := by decide +kernel
theorem dX3_part_31 : decode cX3_part 31 = .ok (.ireturn, 1) := by decide +kernel
theorem dX3_part_32 : decode cX3_part 32 = .ok (.aload_n 0, 1) := by decide +kernel
theorem dX3_part_33 : decode cX3_part 33 = .ok (.iload_n 1, 1) := by decide +kernel
theorem dX3_part_34 : decode cX3_part 34 = .ok (.invokevirtual 65, 3) := by decide +kernel
theorem dX3_part_37 : decode cX3_part 37 = .ok (.iconst 1, 1) := by decide +kernel
theorem dX3_part_38 : decode cX3_part 38 = .ok (.ireturn, 1) := by decide +kernel
theorem dX3_settle_0 : decode cX3_settle 0 = .ok (.aload_n 0, 1) := by decide +kernel
theorem dX3_settle_1 : decode cX3_settle 1 = .ok (.iload_n 1, 1) := by decide +kernel
theorem dX3_settle_2 : decode cX3_settle 2 = .ok (.invokevirtual 57, 3) := by decide +kernel
theorem dX3_settle_5 : decode cX3_settle 5 = .ok (.ifCond .ne 5, 3) := by decide +kernel
theorem dX3_settle_8 : decode cX3_settle 8 = .ok (.iconst (-1), 1) := by decide +kernel
theorem dX3_settle_9 : decode cX3_settle 9 = .ok (.ireturn, 1) := by decide +kernel
theorem dX3_settle_10 : decode cX3_settle 10 = .ok (.iload_n 2, 1) := by decide +kernel
theorem dX3_settle_11 : decode cX3_settle 11 = .ok (.iconst 0, 1) := by decide +kernel
theorem dX3_settle_12 : decode cX3_settle 12 = .ok (.ldc 34, 2) := by decide +kernel
theorem dX3_settle_14 : decode cX3_settle 14 = .ok (.invokestatic 35, 3) := by decide +kernel
theorem dX3_settle_17 : decode cX3_settle 17 = .ok (.ifCond .eq 6, 3) := by decide +kernel
theorem dX3_settle_20 : decode cX3_settle 20 = .ok (.bipush (-2), 2) := by decide +kernel
theorem dX3_settle_22 : decode cX3_settle 22 = .ok (.ireturn, 1) := by decide +kernel
theorem dX3_settle_23 : decode cX3_settle 23 = .ok (.aload_n 0, 1) := by decide +kernel
theorem dX3_settle_24 : decode cX3_settle 24 = .ok (.getfield 79, 3) := by decide +kernel
theorem dX3_settle_27 : decode cX3_settle 27 = .ok (.iload_n 1, 1) := by decide +kernel
theorem dX3_settle_28 : decode cX3_settle 28 = .ok (.invokestatic 49, 3) := by decide +kernel
theorem dX3_settle_31 : decode cX3_settle 31 = .ok (.ifCond .ne 19, 3) := by decide +kernel
theorem dX3_settle_34 : decode cX3_settle 34 = .ok (.aload_n 0, 1) := by decide +kernel
theorem dX3_settle_35 : decode cX3_settle 35 = .ok (.getfield 18, 3) := by decide +kernel
theorem dX3_settle_38 : decode cX3_settle 38 = .ok (.iload_n 1, 1) := by decide +kernel
theorem dX3_settle_39 : decode cX3_settle 39 = .ok (.iaload, 1) := by decide +kernel
theorem dX3_settle_40 : decode cX3_settle 40 = .ok (.aload_n 0, 1) := by decide +kernel
theorem dX3_settle_41 : decode cX3_settle 41 = .ok (.getfield 24, 3) := by decide +kernel
theorem dX3_settle_44 : decode cX3_settle 44 = .ok (.invokestatic 82, 3) := by decide +kernel
theorem dX3_settle_47 : decode cX3_settle 47 = .ok (.ifCond .le 6, 3) := by decide +kernel
theorem dX3_settle_50 : decode cX3_settle 50 = .ok (.bipush (-3), 2) := by decide +kernel
theorem dX3_settle_52 : decode cX3_settle 52 = .ok (.ireturn, 1) := by decide +kernel
theorem dX3_settle_53 : decode cX3_settle 53 = .ok (.aload_n 0, 1) := by decide +kernel
theorem dX3_settle_54 : decode cX3_settle 54 = .ok (.dup, 1) := by decide +kernel
theorem dX3_settle_55 : decode cX3_settle 55 = .ok (.getfield 79, 3) := by decide +kernel
theorem dX3_settle_58 : decode cX3_settle 58 = .ok (.aload_n 0, 1) := by decide +kernel
theorem dX3_settle_59 : decode cX3_settle 59 = .ok (.getfield 18, 3) := by decide +kernel
theorem dX3_settle_62 : decode cX3_settle 62 = .ok (.iload_n 1, 1) := by decide +kernel
theorem dX3_settle_63 : decode cX3_settle 63 = .ok (.iaload, 1) := by decide +kernel
theorem dX3_settle_64 : decode cX3_settle 64 = .ok (.ior, 1) := by decide +kernel
theorem dX3_settle_65 : decode cX3_settle 65 = .ok (.putfield 79, 3) := by decide +kernel
theorem dX3_settle_68 : decode cX3_settle 68 = .ok (.aload_n 0, 1) := by decide +kernel
theorem dX3_settle_69 : decode cX3_settle 69 = .ok (.iload_n 1, 1) := by decide +kernel
theorem dX3_settle_70 : decode cX3_settle 70 = .ok (.iload_n 2, 1) := by decide +kernel
theorem dX3_settle_71 : decode cX3_settle 71 = .ok (.invokevirtual 86, 3) := by decide +kernel
theorem dX3_settle_74 : decode cX3_settle 74 = .ok (.iconst 1, 1) := by decide +kernel
theorem dX3_settle_75 : decode cX3_settle 75 = .ok (.ireturn, 1) := by decide +kernel
theorem dX3_reopen_0 : decode cX3_reopen 0 = .ok (.aload_n 0, 1) := by decide +kernel
theorem dX3_reopen_1 : decode cX3_reopen 1 = .ok (.iload_n 1, 1) := by decide +kernel
theorem dX3_reopen_2 : decode cX3_reopen 2 = .ok (.invokevirtual 57, 3) := by decide +kernel
theorem dX3_reopen_5 : decode cX3_reopen 5 = .ok (.ifCond .ne 5, 3) := by decide +kernel
theorem dX3_reopen_8 : decode cX3_reopen 8 = .ok (.iconst (-1), 1) := by decide +kernel
theorem dX3_reopen_9 : decode cX3_reopen 9 = .ok (.ireturn, 1) := by decide +kernel
theorem dX3_reopen_10 : decode cX3_reopen 10 = .ok (.aload_n 0, 1) := by decide +kernel
theorem dX3_reopen_11 : decode cX3_reopen 11 = .ok (.getfield 79, 3) := by decide +kernel
theorem dX3_reopen_14 : decode cX3_reopen 14 = .ok (.iload_n 1, 1) := by decide +kernel
theorem dX3_reopen_15 : decode cX3_reopen 15 = .ok (.invokestatic 49, 3) := by decide +kernel
theorem dX3_reopen_18 : decode cX3_reopen 18 = .ok (.ifCond .ne 6, 3) := by decide +kernel
theorem dX3_reopen_21 : decode cX3_reopen 21 = .ok (.bipush (-3), 2) := by decide +kernel
theorem dX3_reopen_23 : decode cX3_reopen 23 = .ok (.ireturn, 1) := by decide +kernel
theorem dX3_reopen_24 : decode cX3_reopen 24 = .ok (.aload_n 0, 1) := by decide +kernel
theorem dX3_reopen_25 : decode cX3_reopen 25 = .ok (.getfield 21, 3) := by decide +kernel
theorem dX3_reopen_28 : decode cX3_reopen 28 = .ok (.iload_n 1, 1) := by decide +kernel
theorem dX3_reopen_29 : decode cX3_reopen 29 = .ok (.iaload, 1) := by decide +kernel
theorem dX3_reopen_30 : decode cX3_reopen 30 = .ok (.istore_n 2, 1) := by decide +kernel
theorem dX3_reopen_31 : decode cX3_reopen 31 = .ok (.aload_n 0, 1) := by decide +kernel
theorem dX3_reopen_32 : decode cX3_reopen 32 = .ok (.iload_n 1, 1) := by decide +kernel
theorem dX3_reopen_33 : decode cX3_reopen 33 = .ok (.invokevirtual 61, 3) := by decide +kernel
theorem dX3_reopen_36 : decode cX3_reopen 36 = .ok (.iload_n 2, 1) := by decide +kernel
theorem dX3_reopen_37 : decode cX3_reopen 37 = .ok (.ireturn, 1) := by decide +kernel
theorem dX3_setting_0 : decode cX3_setting 0 = .ok (.iload_n 1, 1) := by decide +kernel
theorem dX3_setting_1 : decode cX3_setting 1 = .ok (.iconst 0, 1) := by decide +kernel
theorem dX3_setting_2 : decode cX3_setting 2 = .ok (.getstatic 90, 3) := by decide +kernel
theorem dX3_setting_5 : decode cX3_setting 5 = .ok (.arraylength, 1) := by decide +kernel
theorem dX3_setting_6 : decode cX3_setting 6 = .ok (.iconst 1, 1) := by decide +kernel
theorem dX3_setting_7 : decode cX3_setting 7 = .ok (.isub, 1) := by decide +kernel
theorem dX3_setting_8 : decode cX3_setting 8 = .ok (.invokestatic 35, 3) := by decide +kernel
theorem dX3_setting_11 : decode cX3_setting 11 = .ok (.ifCond .ne 16, 3) := by decide +kernel
theorem dX3_setting_14 : decode cX3_setting 14 = .ok (.iload_n 2, 1) := by decide +kernel
theorem dX3_setting_15 : decode cX3_setting 15 = .ok (.iconst 0, 1) := by decide +kernel
theorem dX3_setting_16 : decode cX3_setting 16 = .ok (.getstatic 90, 3) := by decide +kernel
theorem dX3_setting_19 : decode cX3_setting 19 = .ok (.iload_n 1, 1) := by decide +kernel
theorem dX3_setting_20 : decode cX3_setting 20 = .ok (.iaload, 1) := by decide +kernel
theorem dX3_setting_21 : decode cX3_setting 21 = .ok (.invokestatic 35, 3) := by decide +kernel
theorem dX3_setting_24 : decode cX3_setting 24 = .ok (.ifCond .eq 6, 3) := by decide +kernel
theorem dX3_setting_27 : decode cX3_setting 27 = .ok (.bipush (-2), 2) := by decide +kernel
theorem dX3_setting_29 : decode cX3_setting 29 = .ok (.ireturn, 1) := by decide +kernel
theorem dX3_setting_30 : decode cX3_setting 30 = .ok (.aload_n 0, 1) := by decide +kernel
theorem dX3_setting_31 : decode cX3_setting 31 = .ok (.getfield 9, 3) := by decide +kernel
theorem dX3_setting_34 : decode cX3_setting 34 = .ok (.iload_n 1, 1) := by decide +kernel
theorem dX3_setting_35 : decode cX3_setting 35 = .ok (.iaload, 1) := by decide +kernel
theorem dX3_setting_36 : decode cX3_setting 36 = .ok (.istore_n 3, 1) := by decide +kernel
theorem dX3_setting_37 : decode cX3_setting 37 = .ok (.aload_n 0, 1) := by decide +kernel
theorem dX3_setting_38 : decode cX3_setting 38 = .ok (.getfield 9, 3) := by decide +kernel
theorem dX3_setting_41 : decode cX3_setting 41 = .ok (.iload_n 1, 1) := by decide +kernel
theorem dX3_setting_42 : decode cX3_setting 42 = .ok (.iload_n 2, 1) := by decide +kernel
theorem dX3_setting_43 : decode cX3_setting 43 = .ok (.iastore, 1) := by decide +kernel
theorem dX3_setting_44 : decode cX3_setting 44 = .ok (.iload_n 3, 1) := by decide +kernel
theorem dX3_setting_45 : decode cX3_setting 45 = .ok (.ireturn, 1) := by decide +kernel
theorem dX3_ofWrong_0 : decode cX3_ofWrong 0 = .ok (.aload_n 0, 1) := by decide +kernel
theorem dX3_ofWrong_1 : decode cX3_ofWrong 1 = .ok (.iload_n 1, 1) := by decide +kernel
theorem dX3_ofWrong_2 : decode cX3_ofWrong 2 = .ok (.invokevirtual 57, 3) := by decide +kernel
theorem dX3_ofWrong_5 : decode cX3_ofWrong 5 = .ok (.ifCond .ne 5, 3) := by decide +kernel
theorem dX3_ofWrong_8 : decode cX3_ofWrong 8 = .ok (.iconst (-1), 1) := by decide +kernel
theorem dX3_ofWrong_9 : decode cX3_ofWrong 9 = .ok (.ireturn, 1) := by decide +kernel
theorem dX3_ofWrong_10 : decode cX3_ofWrong 10 = .ok (.iload_n 2, 1) := by decide +kernel
theorem dX3_ofWrong_11 : decode cX3_ofWrong 11 = .ok (.tableswitch 125 0 5 #[37, 44, 61, 78, 95, 118], 37) := by decide +kernel
theorem dX3_ofWrong_48 : decode cX3_ofWrong 48 = .ok (.aload_n 0, 1) := by decide +kernel
theorem dX3_ofWrong_49 : decode cX3_ofWrong 49 = .ok (.getfield 15, 3) := by decide +kernel
theorem dX3_ofWrong_52 : decode cX3_ofWrong 52 = .ok (.iload_n 1, 1) := by decide +kernel
theorem dX3_ofWrong_53 : decode cX3_ofWrong 53 = .ok (.iaload, 1) := by decide +kernel
theorem dX3_ofWrong_54 : decode cX3_ofWrong 54 = .ok (.ireturn, 1) := by decide +kernel
theorem dX3_ofWrong_55 : decode cX3_ofWrong 55 = .ok (.aload_n 0, 1) := by decide +kernel
theorem dX3_ofWrong_56 : decode cX3_ofWrong 56 = .ok (.getfield 68, 3) := by decide +kernel
theorem dX3_ofWrong_59 : decode cX3_ofWrong 59 = .ok (.iload_n 1, 1) := by decide +kernel
theorem dX3_ofWrong_60 : decode cX3_ofWrong 60 = .ok (.invokestatic 49, 3) := by decide +kernel
theorem dX3_ofWrong_63 : decode cX3_ofWrong 63 = .ok (.ifCond .eq 7, 3) := by decide +kernel
theorem dX3_ofWrong_66 : decode cX3_ofWrong 66 = .ok (.iconst 1, 1) := by decide +kernel
theorem dX3_ofWrong_67 : decode cX3_ofWrong 67 = .ok (.goto 4, 3) := by decide +kernel
theorem dX3_ofWrong_70 : decode cX3_ofWrong 70 = .ok (.iconst 0, 1) := by decide +kernel
theorem dX3_ofWrong_71 : decode cX3_ofWrong 71 = .ok (.ireturn, 1) := by decide +kernel
theorem dX3_ofWrong_72 : decode cX3_ofWrong 72 = .ok (.aload_n 0, 1) := by decide +kernel
theorem dX3_ofWrong_73 : decode cX3_ofWrong 73 = .ok (.getfield 18, 3) := by decide +kernel
theorem dX3_ofWrong_76 : decode cX3_ofWrong 76 = .ok (.iload_n 1, 1) := by decide +kernel
theorem dX3_ofWrong_77 : decode cX3_ofWrong 77 = .ok (.iaload, 1) := by decide +kernel
theorem dX3_ofWrong_78 : decode cX3_ofWrong 78 = .ok (.iload_n 1, 1) := by decide +kernel
theorem dX3_ofWrong_79 : decode cX3_ofWrong 79 = .ok (.invokestatic 53, 3) := by decide +kernel
theorem dX3_ofWrong_82 : decode cX3_ofWrong 82 = .ok (.iconst (-1), 1) := by decide +kernel
theorem dX3_ofWrong_83 : decode cX3_ofWrong 83 = .ok (.ixor, 1) := by decide +kernel
theorem dX3_ofWrong_84 : decode cX3_ofWrong 84 = .ok (.iand, 1) := by decide +kernel
theorem dX3_ofWrong_85 : decode cX3_ofWrong 85 = .ok (.invokestatic 93, 3) := by decide +kernel
theorem dX3_ofWrong_88 : decode cX3_ofWrong 88 = .ok (.ireturn, 1) := by decide +kernel
theorem dX3_ofWrong_89 : decode cX3_ofWrong 89 = .ok (.aload_n 0, 1) := by decide +kernel
theorem dX3_ofWrong_90 : decode cX3_ofWrong 90 = .ok (.getfield 79, 3) := by decide +kernel
theorem dX3_ofWrong_93 : decode cX3_ofWrong 93 = .ok (.iload_n 1, 1) := by decide +kernel
theorem dX3_ofWrong_94 : decode cX3_ofWrong 94 = .ok (.invokestatic 49, 3) := by decide +kernel
theorem dX3_ofWrong_97 : decode cX3_ofWrong 97 = .ok (.ifCond .eq 7, 3) := by decide +kernel
theorem dX3_ofWrong_100 : decode cX3_ofWrong 100 = .ok (.iconst 1, 1) := by decide +kernel
theorem dX3_ofWrong_101 : decode cX3_ofWrong 101 = .ok (.goto 4, 3) := by decide +kernel
theorem dX3_ofWrong_104 : decode cX3_ofWrong 104 = .ok (.iconst 0, 1) := by decide +kernel
theorem dX3_ofWrong_105 : decode cX3_ofWrong 105 = .ok (.ireturn, 1) := by decide +kernel
theorem dX3_ofWrong_106 : decode cX3_ofWrong 106 = .ok (.aload_n 0, 1) := by decide +kernel
theorem dX3_ofWrong_107 : decode cX3_ofWrong 107 = .ok (.getfield 79, 3) := by decide +kernel
theorem dX3_ofWrong_110 : decode cX3_ofWrong 110 = .ok (.iload_n 1, 1) := by decide +kernel
theorem dX3_ofWrong_111 : decode cX3_ofWrong 111 = .ok (.invokestatic 49, 3) := by decide +kernel
theorem dX3_ofWrong_114 : decode cX3_ofWrong 114 = .ok (.ifCond .eq 12, 3) := by decide +kernel
theorem dX3_ofWrong_117 : decode cX3_ofWrong 117 = .ok (.aload_n 0, 1) := by decide +kernel
theorem dX3_ofWrong_118 : decode cX3_ofWrong 118 = .ok (.getfield 21, 3) := by decide +kernel
theorem dX3_ofWrong_121 : decode cX3_ofWrong 121 = .ok (.iload_n 1, 1) := by decide +kernel
theorem dX3_ofWrong_122 : decode cX3_ofWrong 122 = .ok (.iaload, 1) := by decide +kernel
theorem dX3_ofWrong_123 : decode cX3_ofWrong 123 = .ok (.goto 5, 3) := by decide +kernel
theorem dX3_ofWrong_126 : decode cX3_ofWrong 126 = .ok (.bipush (-9), 2) := by decide +kernel
theorem dX3_ofWrong_128 : decode cX3_ofWrong 128 = .ok (.ireturn, 1) := by decide +kernel
theorem dX3_ofWrong_129 : decode cX3_ofWrong 129 = .ok (.aload_n 0, 1) := by decide +kernel
theorem dX3_ofWrong_130 : decode cX3_ofWrong 130 = .ok (.getfield 24, 3) := by decide +kernel
theorem dX3_ofWrong_133 : decode cX3_ofWrong 133 = .ok (.iload_n 1, 1) := by decide +kernel
theorem dX3_ofWrong_134 : decode cX3_ofWrong 134 = .ok (.iaload, 1) := by decide +kernel
theorem dX3_ofWrong_135 : decode cX3_ofWrong 135 = .ok (.ireturn, 1) := by decide +kernel
theorem dX3_ofWrong_136 : decode cX3_ofWrong 136 = .ok (.bipush (-2), 2) := by decide +kernel
theorem dX3_ofWrong_138 : decode cX3_ofWrong 138 = .ok (.ireturn, 1) := by decide +kernel
theorem dX3_amount_0 : decode cX3_amount 0 = .ok (.iload_n 2, 1) := by decide +kernel
theorem dX3_amount_1 : decode cX3_amount 1 = .ok (.iconst 0, 1) := by decide +kernel
theorem dX3_amount_2 : decode cX3_amount 2 = .ok (.iconst 1, 1) := by decide +kernel
theorem dX3_amount_3 : decode cX3_amount 3 = .ok (.invokestatic 35, 3) := by decide +kernel
theorem dX3_amount_6 : decode cX3_amount 6 = .ok (.ifCond .eq 7, 3) := by decide +kernel
theorem dX3_amount_9 : decode cX3_amount 9 = .ok (.ldc2_w 96, 3) := by decide +kernel
theorem dX3_amount_12 : decode cX3_amount 12 = .ok (.lreturn, 1) := by decide +kernel
theorem dX3_amount_13 : decode cX3_amount 13 = .ok (.iload_n 1, 1) := by decide +kernel
theorem dX3_amount_14 : decode cX3_amount 14 = .ok (.tableswitch 94 0 4 #[34, 46, 58, 70, 82], 34) := by decide +kernel
theorem dX3_amount_48 : decode cX3_amount 48 = .ok (.aload_n 0, 1) := by decide +kernel
theorem dX3_amount_49 : decode cX3_amount 49 = .ok (.invokevirtual 98, 3) := by decide +kernel
theorem dX3_amount_52 : decode cX3_amount 52 = .ok (.getfield 102, 3) := by decide +kernel
theorem dX3_amount_55 : decode cX3_amount 55 = .ok (.iload_n 2, 1) := by decide +kernel
theorem dX3_amount_56 : decode cX3_amount 56 = .ok (.invokevirtual 108, 3) := by decide +kernel
theorem dX3_amount_59 : decode cX3_amount 59 = .ok (.lreturn, 1) := by decide +kernel
theorem dX3_amount_60 : decode cX3_amount 60 = .ok (.aload_n 0, 1) := by decide +kernel
theorem dX3_amount_61 : decode cX3_amount 61 = .ok (.invokevirtual 98, 3) := by decide +kernel
theorem dX3_amount_64 : decode cX3_amount 64 = .ok (.getfield 114, 3) := by decide +kernel
theorem dX3_amount_67 : decode cX3_amount 67 = .ok (.iload_n 2, 1) := by decide +kernel
theorem dX3_amount_68 : decode cX3_amount 68 = .ok (.invokevirtual 108, 3) := by decide +kernel
theorem dX3_amount_71 : decode cX3_amount 71 = .ok (.lreturn, 1) := by decide +kernel
theorem dX3_amount_72 : decode cX3_amount 72 = .ok (.aload_n 0, 1) := by decide +kernel
theorem dX3_amount_73 : decode cX3_amount 73 = .ok (.invokevirtual 98, 3) := by decide +kernel
theorem dX3_amount_76 : decode cX3_amount 76 = .ok (.getfield 117, 3) := by decide +kernel
theorem dX3_amount_79 : decode cX3_amount 79 = .ok (.iload_n 2, 1) := by decide +kernel
theorem dX3_amount_80 : decode cX3_amount 80 = .ok (.invokevirtual 108, 3) := by decide +kernel
theorem dX3_amount_83 : decode cX3_amount 83 = .ok (.lreturn, 1) := by decide +kernel
theorem dX3_amount_84 : decode cX3_amount 84 = .ok (.aload_n 0, 1) := by decide +kernel
theorem dX3_amount_85 : decode cX3_amount 85 = .ok (.invokevirtual 98, 3) := by decide +kernel
theorem dX3_amount_88 : decode cX3_amount 88 = .ok (.getfield 120, 3) := by decide +kernel
theorem dX3_amount_91 : decode cX3_amount 91 = .ok (.iload_n 2, 1) := by decide +kernel
theorem dX3_amount_92 : decode cX3_amount 92 = .ok (.invokevirtual 108, 3) := by decide +kernel
theorem dX3_amount_95 : decode cX3_amount 95 = .ok (.lreturn, 1) := by decide +kernel
theorem dX3_amount_96 : decode cX3_amount 96 = .ok (.aload_n 0, 1) := by decide +kernel
theorem dX3_amount_97 : decode cX3_amount 97 = .ok (.invokevirtual 98, 3) := by decide +kernel
theorem dX3_amount_100 : decode cX3_amount 100 = .ok (.getfield 123, 3) := by decide +kernel
theorem dX3_amount_103 : decode cX3_amount 103 = .ok (.iload_n 2, 1) := by decide +kernel
theorem dX3_amount_104 : decode cX3_amount 104 = .ok (.invokevirtual 108, 3) := by decide +kernel
theorem dX3_amount_107 : decode cX3_amount 107 = .ok (.lreturn, 1) := by decide +kernel
theorem dX3_amount_108 : decode cX3_amount 108 = .ok (.ldc2_w 96, 3) := by decide +kernel
theorem dX3_amount_111 : decode cX3_amount 111 = .ok (.lreturn, 1) := by decide +kernel
theorem dX3_credit_0 : decode cX3_credit 0 = .ok (.aload_n 0, 1) := by decide +kernel
theorem dX3_credit_1 : decode cX3_credit 1 = .ok (.iload_n 1, 1) := by decide +kernel
theorem dX3_credit_2 : decode cX3_credit 2 = .ok (.invokevirtual 57, 3) := by decide +kernel
theorem dX3_credit_5 : decode cX3_credit 5 = .ok (.ifCond .eq 12, 3) := by decide +kernel
theorem dX3_credit_8 : decode cX3_credit 8 = .ok (.iload_n 2, 1) := by decide +kernel
theorem dX3_credit_9 : decode cX3_credit 9 = .ok (.iconst 0, 1) := by decide +kernel
theorem dX3_credit_10 : decode cX3_credit 10 = .ok (.iconst 1, 1) := by decide +kernel
theorem dX3_credit_11 : decode cX3_credit 11 = .ok (.invokestatic 35, 3) := by decide +kernel
theorem dX3_credit_14 : decode cX3_credit 14 = .ok (.ifCond .eq 7, 3) := by decide +kernel
theorem dX3_credit_17 : decode cX3_credit 17 = .ok (.ldc2_w 96, 3) := by decide +kernel
theorem dX3_credit_20 : decode cX3_credit 20 = .ok (.lreturn, 1) := by decide +kernel
theorem dX3_credit_21 : decode cX3_credit 21 = .ok (.aload_n 0, 1) := by decide +kernel
theorem dX3_credit_22 : decode cX3_credit 22 = .ok (.invokevirtual 126, 3) := by decide +kernel
theorem dX3_credit_25 : decode cX3_credit 25 = .ok (.istore_n 3, 1) := by decide +kernel
theorem dX3_credit_26 : decode cX3_credit 26 = .ok (.aload_n 0, 1) := by decide +kernel
theorem dX3_credit_27 : decode cX3_credit 27 = .ok (.getfield 79, 3) := by decide +kernel
theorem dX3_credit_30 : decode cX3_credit 30 = .ok (.iload_n 1, 1) := by decide +kernel
theorem dX3_credit_31 : decode cX3_credit 31 = .ok (.invokestatic 49, 3) := by decide +kernel
theorem dX3_credit_34 : decode cX3_credit 34 = .ok (.ifCond .eq 18, 3) := by decide +kernel
theorem dX3_credit_37 : decode cX3_credit 37 = .ok (.aload_n 0, 1) := by decide +kernel
theorem dX3_credit_38 : decode cX3_credit 38 = .ok (.iload_n 1, 1) := by decide +kernel
theorem dX3_credit_39 : decode cX3_credit 39 = .ok (.aload_n 0, 1) := by decide +kernel
theorem dX3_credit_40 : decode cX3_credit 40 = .ok (.getfield 9, 3) := by decide +kernel
theorem dX3_credit_43 : decode cX3_credit 43 = .ok (.iconst 0, 1) := by decide +kernel
theorem dX3_credit_44 : decode cX3_credit 44 = .ok (.iaload, 1) := by decide +kernel
theorem dX3_credit_45 : decode cX3_credit 45 = .ok (.iload_n 3, 1) := by decide +kernel
theorem dX3_credit_46 : decode cX3_credit 46 = .ok (.invokevirtual 130, 3) := by decide +kernel
theorem dX3_credit_49 : decode cX3_credit 49 = .ok (.goto 4, 3) := by decide +kernel
theorem dX3_credit_52 : decode cX3_credit 52 = .ok (.lconst 0, 1) := by decide +kernel
theorem dX3_credit_53 : decode cX3_credit 53 = .ok (.lstore 4, 2) := by decide +kernel
theorem dX3_credit_55 : decode cX3_credit 55 = .ok (.lload 4, 2) := by decide +kernel
theorem dX3_credit_57 : decode cX3_credit 57 = .ok (.iload_n 3, 1) := by decide +kernel
theorem dX3_credit_58 : decode cX3_credit 58 = .ok (.i2l, 1) := by decide +kernel
theorem dX3_credit_59 : decode cX3_credit 59 = .ok (.invokestatic 134, 3) := by decide +kernel
theorem dX3_credit_62 : decode cX3_credit 62 = .ok (.iload_n 2, 1) := by decide +kernel
theorem dX3_credit_63 : decode cX3_credit 63 = .ok (.invokevirtual 108, 3) := by decide +kernel
theorem dX3_credit_66 : decode cX3_credit 66 = .ok (.lreturn, 1) := by decide +kernel
theorem dX3_unitDue_0 : decode cX3_unitDue 0 = .ok (.aload_n 0, 1) := by decide +kernel
theorem dX3_unitDue_1 : decode cX3_unitDue 1 = .ok (.iload_n 1, 1) := by decide +kernel
theorem dX3_unitDue_2 : decode cX3_unitDue 2 = .ok (.invokevirtual 57, 3) := by decide +kernel
theorem dX3_unitDue_5 : decode cX3_unitDue 5 = .ok (.ifCond .eq 12, 3) := by decide +kernel
theorem dX3_unitDue_8 : decode cX3_unitDue 8 = .ok (.iload_n 2, 1) := by decide +kernel
theorem dX3_unitDue_9 : decode cX3_unitDue 9 = .ok (.iconst 0, 1) := by decide +kernel
theorem dX3_unitDue_10 : decode cX3_unitDue 10 = .ok (.iconst 1, 1) := by decide +kernel
theorem dX3_unitDue_11 : decode cX3_unitDue 11 = .ok (.invokestatic 35, 3) := by decide +kernel
theorem dX3_unitDue_14 : decode cX3_unitDue 14 = .ok (.ifCond .eq 7, 3) := by decide +kernel
theorem dX3_unitDue_17 : decode cX3_unitDue 17 = .ok (.ldc2_w 96, 3) := by decide +kernel
theorem dX3_unitDue_20 : decode cX3_unitDue 20 = .ok (.lreturn, 1) := by decide +kernel
theorem dX3_unitDue_21 : decode cX3_unitDue 21 = .ok (.aload_n 0, 1) := by decide +kernel
theorem dX3_unitDue_22 : decode cX3_unitDue 22 = .ok (.invokevirtual 98, 3) := by decide +kernel
theorem dX3_unitDue_25 : decode cX3_unitDue 25 = .ok (.getfield 138, 3) := by decide +kernel
theorem dX3_unitDue_28 : decode cX3_unitDue 28 = .ok (.aload_n 0, 1) := by decide +kernel
theorem dX3_unitDue_29 : decode cX3_unitDue 29 = .ok (.iload_n 1, 1) := by decide +kernel
theorem dX3_unitDue_30 : decode cX3_unitDue 30 = .ok (.aload_n 0, 1) := by decide +kernel
theorem dX3_unitDue_31 : decode cX3_unitDue 31 = .ok (.getfield 79, 3) := by decide +kernel
theorem dX3_unitDue_34 : decode cX3_unitDue 34 = .ok (.invokevirtual 141, 3) := by decide +kernel
theorem dX3_unitDue_37 : decode cX3_unitDue 37 = .ok (.i2l, 1) := by decide +kernel
theorem dX3_unitDue_38 : decode cX3_unitDue 38 = .ok (.invokevirtual 145, 3) := by decide +kernel
theorem dX3_unitDue_41 : decode cX3_unitDue 41 = .ok (.iload_n 2, 1) := by decide +kernel
theorem dX3_unitDue_42 : decode cX3_unitDue 42 = .ok (.invokevirtual 108, 3) := by decide +kernel
theorem dX3_unitDue_45 : decode cX3_unitDue 45 = .ok (.lreturn, 1) := by decide +kernel
theorem dX3_due_0 : decode cX3_due 0 = .ok (.aload_n 0, 1) := by decide +kernel
theorem dX3_due_1 : decode cX3_due 1 = .ok (.iload_n 1, 1) := by decide +kernel
theorem dX3_due_2 : decode cX3_due 2 = .ok (.invokevirtual 57, 3) := by decide +kernel
theorem dX3_due_5 : decode cX3_due 5 = .ok (.ifCond .eq 12, 3) := by decide +kernel
theorem dX3_due_8 : decode cX3_due 8 = .ok (.iload_n 2, 1) := by decide +kernel
theorem dX3_due_9 : decode cX3_due 9 = .ok (.iconst 0, 1) := by decide +kernel
theorem dX3_due_10 : decode cX3_due 10 = .ok (.iconst 1, 1) := by decide +kernel
theorem dX3_due_11 : decode cX3_due 11 = .ok (.invokestatic 35, 3) := by decide +kernel
theorem dX3_due_14 : decode cX3_due 14 = .ok (.ifCond .eq 7, 3) := by decide +kernel
theorem dX3_due_17 : decode cX3_due 17 = .ok (.ldc2_w 96, 3) := by decide +kernel
theorem dX3_due_20 : decode cX3_due 20 = .ok (.lreturn, 1) := by decide +kernel
theorem dX3_due_21 : decode cX3_due 21 = .ok (.aload_n 0, 1) := by decide +kernel
theorem dX3_due_22 : decode cX3_due 22 = .ok (.invokevirtual 98, 3) := by decide +kernel
theorem dX3_due_25 : decode cX3_due 25 = .ok (.getfield 138, 3) := by decide +kernel
theorem dX3_due_28 : decode cX3_due 28 = .ok (.aload_n 0, 1) := by decide +kernel
theorem dX3_due_29 : decode cX3_due 29 = .ok (.iload_n 1, 1) := by decide +kernel
theorem dX3_due_30 : decode cX3_due 30 = .ok (.invokevirtual 149, 3) := by decide +kernel
theorem dX3_due_33 : decode cX3_due 33 = .ok (.i2l, 1) := by decide +kernel
theorem dX3_due_34 : decode cX3_due 34 = .ok (.invokevirtual 145, 3) := by decide +kernel
theorem dX3_due_37 : decode cX3_due 37 = .ok (.iload_n 2, 1) := by decide +kernel
theorem dX3_due_38 : decode cX3_due 38 = .ok (.invokevirtual 108, 3) := by decide +kernel
theorem dX3_due_41 : decode cX3_due 41 = .ok (.lreturn, 1) := by decide +kernel
theorem dX3_gets_0 : decode cX3_gets 0 = .ok (.iload_n 1, 1) := by decide +kernel
theorem dX3_gets_1 : decode cX3_gets 1 = .ok (.iconst 0, 1) := by decide +kernel
theorem dX3_gets_2 : decode cX3_gets 2 = .ok (.getstatic 90, 3) := by decide +kernel
theorem dX3_gets_5 : decode cX3_gets 5 = .ok (.iconst 0, 1) := by decide +kernel
theorem dX3_gets_6 : decode cX3_gets 6 = .ok (.iaload, 1) := by decide +kernel
theorem dX3_gets_7 : decode cX3_gets 7 = .ok (.invokestatic 35, 3) := by decide +kernel
theorem dX3_gets_10 : decode cX3_gets 10 = .ok (.ifCond .ne 25, 3) := by decide +kernel
theorem dX3_gets_13 : decode cX3_gets 13 = .ok (.iload_n 2, 1) := by decide +kernel
theorem dX3_gets_14 : decode cX3_gets 14 = .ok (.iconst 0, 1) := by decide +kernel
theorem dX3_gets_15 : decode cX3_gets 15 = .ok (.getstatic 90, 3) := by decide +kernel
theorem dX3_gets_18 : decode cX3_gets 18 = .ok (.iconst 1, 1) := by decide +kernel
theorem dX3_gets_19 : decode cX3_gets 19 = .ok (.iaload, 1) := by decide +kernel
theorem dX3_gets_20 : decode cX3_gets 20 = .ok (.invokestatic 35, 3) := by decide +kernel
theorem dX3_gets_23 : decode cX3_gets 23 = .ok (.ifCond .ne 12, 3) := by decide +kernel
theorem dX3_gets_26 : decode cX3_gets 26 = .ok (.iload_n 3, 1) := by decide +kernel
theorem dX3_gets_27 : decode cX3_gets 27 = .ok (.iconst 0, 1) := by decide +kernel
theorem dX3_gets_28 : decode cX3_gets 28 = .ok (.iconst 1, 1) := by decide +kernel
theorem dX3_gets_29 : decode cX3_gets 29 = .ok (.invokestatic 35, 3) := by decide +kernel
theorem dX3_gets_32 : decode cX3_gets 32 = .ok (.ifCond .eq 7, 3) := by decide +kernel
theorem dX3_gets_35 : decode cX3_gets 35 = .ok (.ldc2_w 96, 3) := by decide +kernel
theorem dX3_gets_38 : decode cX3_gets 38 = .ok (.lreturn, 1) := by decide +kernel
theorem dX3_gets_39 : decode cX3_gets 39 = .ok (.aload_n 0, 1) := by decide +kernel
theorem dX3_gets_40 : decode cX3_gets 40 = .ok (.iload_n 1, 1) := by decide +kernel
theorem dX3_gets_41 : decode cX3_gets 41 = .ok (.iload_n 2, 1) := by decide +kernel
theorem dX3_gets_42 : decode cX3_gets 42 = .ok (.invokevirtual 152, 3) := by decide +kernel
theorem dX3_gets_45 : decode cX3_gets 45 = .ok (.iload_n 3, 1) := by decide +kernel
theorem dX3_gets_46 : decode cX3_gets 46 = .ok (.invokevirtual 108, 3) := by decide +kernel
theorem dX3_gets_49 : decode cX3_gets 49 = .ok (.lreturn, 1) := by decide +kernel
theorem dX3_bestManner_0 : decode cX3_bestManner 0 = .ok (.iconst 0, 1) := by decide +kernel
theorem dX3_bestManner_1 : decode cX3_bestManner 1 = .ok (.istore_n 1, 1) := by decide +kernel
theorem dX3_bestManner_2 : decode cX3_bestManner 2 = .ok (.aload_n 0, 1) := by decide +kernel
theorem dX3_bestManner_3 : decode cX3_bestManner 3 = .ok (.iconst 0, 1) := by decide +kernel
theorem dX3_bestManner_4 : decode cX3_bestManner 4 = .ok (.aload_n 0, 1) := by decide +kernel
theorem dX3_bestManner_5 : decode cX3_bestManner 5 = .ok (.getfield 9, 3) := by decide +kernel
theorem dX3_bestManner_8 : decode cX3_bestManner 8 = .ok (.iconst 1, 1) := by decide +kernel
theorem dX3_bestManner_9 : decode cX3_bestManner 9 = .ok (.iaload, 1) := by decide +kernel
theorem dX3_bestManner_10 : decode cX3_bestManner 10 = .ok (.invokevirtual 152, 3) := by decide +kernel
theorem dX3_bestManner_13 : decode cX3_bestManner 13 = .ok (.astore_n 2, 1) := by decide +kernel
theorem dX3_bestManner_14 : decode cX3_bestManner 14 = .ok (.iconst 1, 1) := by decide +kernel
theorem dX3_bestManner_15 : decode cX3_bestManner 15 = .ok (.istore_n 3, 1) := by decide +kernel
theorem dX3_bestManner_16 : decode cX3_bestManner 16 = .ok (.iload_n 3, 1) := by decide +kernel
theorem dX3_bestManner_17 : decode cX3_bestManner 17 = .ok (.getstatic 90, 3) := by decide +kernel
theorem dX3_bestManner_20 : decode cX3_bestManner 20 = .ok (.iconst 0, 1) := by decide +kernel
theorem dX3_bestManner_21 : decode cX3_bestManner 21 = .ok (.iaload, 1) := by decide +kernel
theorem dX3_bestManner_22 : decode cX3_bestManner 22 = .ok (.if_icmp .gt 41, 3) := by decide +kernel
theorem dX3_bestManner_25 : decode cX3_bestManner 25 = .ok (.aload_n 0, 1) := by decide +kernel
theorem dX3_bestManner_26 : decode cX3_bestManner 26 = .ok (.iload_n 3, 1) := by decide +kernel
theorem dX3_bestManner_27 : decode cX3_bestManner 27 = .ok (.aload_n 0, 1) := by decide +kernel
theorem dX3_bestManner_28 : decode cX3_bestManner 28 = .ok (.getfield 9, 3) := by decide +kernel
theorem dX3_bestManner_31 : decode cX3_bestManner 31 = .ok (.iconst 1, 1) := by decide +kernel
theorem dX3_bestManner_32 : decode cX3_bestManner 32 = .ok (.iaload, 1) := by decide +kernel
theorem dX3_bestManner_33 : decode cX3_bestManner 33 = .ok (.invokevirtual 152, 3) := by decide +kernel
theorem dX3_bestManner_36 : decode cX3_bestManner 36 = .ok (.astore 4, 2) := by decide +kernel
theorem dX3_bestManner_38 : decode cX3_bestManner 38 = .ok (.aload 4, 2) := by decide +kernel
theorem dX3_bestManner_40 : decode cX3_bestManner 40 = .ok (.aload_n 2, 1) := by decide +kernel
theorem dX3_bestManner_41 : decode cX3_bestManner 41 = .ok (.invokevirtual 156, 3) := by decide +kernel
theorem dX3_bestManner_44 : decode cX3_bestManner 44 = .ok (.getfield 160, 3) := by decide +kernel
theorem dX3_bestManner_47 : decode cX3_bestManner 47 = .ok (.lconst 0, 1) := by decide +kernel
theorem dX3_bestManner_48 : decode cX3_bestManner 48 = .ok (.lcmp, 1) := by decide +kernel
theorem dX3_bestManner_49 : decode cX3_bestManner 49 = .ok (.ifCond .le 8, 3) := by decide +kernel
theorem dX3_bestManner_52 : decode cX3_bestManner 52 = .ok (.iload_n 3, 1) := by decide +kernel
theorem dX3_bestManner_53 : decode cX3_bestManner 53 = .ok (.istore_n 1, 1) := by decide +kernel
theorem dX3_bestManner_54 : decode cX3_bestManner 54 = .ok (.aload 4, 2) := by decide +kernel
theorem dX3_bestManner_56 : decode cX3_bestManner 56 = .ok (.astore_n 2, 1) := by decide +kernel
theorem dX3_bestManner_57 : decode cX3_bestManner 57 = .ok (.iinc 3 1, 3) := by decide +kernel
theorem dX3_bestManner_60 : decode cX3_bestManner 60 = .ok (.goto (-44), 3) := by decide +kernel
theorem dX3_bestManner_63 : decode cX3_bestManner 63 = .ok (.iload_n 1, 1) := by decide +kernel
theorem dX3_bestManner_64 : decode cX3_bestManner 64 = .ok (.ireturn, 1) := by decide +kernel
theorem dX3_saves_0 : decode cX3_saves 0 = .ok (.aload_n 0, 1) := by decide +kernel
theorem dX3_saves_1 : decode cX3_saves 1 = .ok (.iload_n 1, 1) := by decide +kernel
theorem dX3_saves_2 : decode cX3_saves 2 = .ok (.invokevirtual 57, 3) := by decide +kernel
theorem dX3_saves_5 : decode cX3_saves 5 = .ok (.ifCond .eq 22, 3) := by decide +kernel
theorem dX3_saves_8 : decode cX3_saves 8 = .ok (.iload_n 2, 1) := by decide +kernel
theorem dX3_saves_9 : decode cX3_saves 9 = .ok (.iconst 0, 1) := by decide +kernel
theorem dX3_saves_10 : decode cX3_saves 10 = .ok (.ldc 34, 2) := by decide +kernel
theorem dX3_saves_12 : decode cX3_saves 12 = .ok (.invokestatic 35, 3) := by decide +kernel
theorem dX3_saves_15 : decode cX3_saves 15 = .ok (.ifCond .ne 12, 3) := by decide +kernel
theorem dX3_saves_18 : decode cX3_saves 18 = .ok (.iload_n 3, 1) := by decide +kernel
theorem dX3_saves_19 : decode cX3_saves 19 = .ok (.iconst 0, 1) := by decide +kernel
theorem dX3_saves_20 : decode cX3_saves 20 = .ok (.iconst 1, 1) := by decide +kernel
theorem dX3_saves_21 : decode cX3_saves 21 = .ok (.invokestatic 35, 3) := by decide +kernel
theorem dX3_saves_24 : decode cX3_saves 24 = .ok (.ifCond .eq 7, 3) := by decide +kernel
theorem dX3_saves_27 : decode cX3_saves 27 = .ok (.ldc2_w 96, 3) := by decide +kernel
theorem dX3_saves_30 : decode cX3_saves 30 = .ok (.lreturn, 1) := by decide +kernel
theorem dX3_saves_31 : decode cX3_saves 31 = .ok (.aload_n 0, 1) := by decide +kernel
theorem dX3_saves_32 : decode cX3_saves 32 = .ok (.getfield 79, 3) := by decide +kernel
theorem dX3_saves_35 : decode cX3_saves 35 = .ok (.aload_n 0, 1) := by decide +kernel
theorem dX3_saves_36 : decode cX3_saves 36 = .ok (.getfield 18, 3) := by decide +kernel
theorem dX3_saves_39 : decode cX3_saves 39 = .ok (.iload_n 1, 1) := by decide +kernel
theorem dX3_saves_40 : decode cX3_saves 40 = .ok (.iaload, 1) := by decide +kernel
theorem dX3_saves_41 : decode cX3_saves 41 = .ok (.iconst (-1), 1) := by decide +kernel
theorem dX3_saves_42 : decode cX3_saves 42 = .ok (.ixor, 1) := by decide +kernel
theorem dX3_saves_43 : decode cX3_saves 43 = .ok (.iand, 1) := by decide +kernel
theorem dX3_saves_44 : decode cX3_saves 44 = .ok (.istore 4, 2) := by decide +kernel
theorem dX3_saves_46 : decode cX3_saves 46 = .ok (.aload_n 0, 1) := by decide +kernel
theorem dX3_saves_47 : decode cX3_saves 47 = .ok (.aload_n 0, 1) := by decide +kernel
theorem dX3_saves_48 : decode cX3_saves 48 = .ok (.getfield 9, 3) := by decide +kernel
theorem dX3_saves_51 : decode cX3_saves 51 = .ok (.iconst 0, 1) := by decide +kernel
theorem dX3_saves_52 : decode cX3_saves 52 = .ok (.iaload, 1) := by decide +kernel
theorem dX3_saves_53 : decode cX3_saves 53 = .ok (.aload_n 0, 1) := by decide +kernel
theorem dX3_saves_54 : decode cX3_saves 54 = .ok (.getfield 9, 3) := by decide +kernel
theorem dX3_saves_57 : decode cX3_saves 57 = .ok (.iconst 1, 1) := by decide +kernel
theorem dX3_saves_58 : decode cX3_saves 58 = .ok (.iaload, 1) := by decide +kernel
theorem dX3_saves_59 : decode cX3_saves 59 = .ok (.iload 4, 2) := by decide +kernel
theorem dX3_saves_61 : decode cX3_saves 61 = .ok (.aload_n 0, 1) := by decide +kernel
theorem dX3_saves_62 : decode cX3_saves 62 = .ok (.getfield 68, 3) := by decide +kernel
theorem dX3_saves_65 : decode cX3_saves 65 = .ok (.invokevirtual 164, 3) := by decide +kernel
theorem dX3_saves_68 : decode cX3_saves 68 = .ok (.astore 5, 2) := by decide +kernel
theorem dX3_saves_70 : decode cX3_saves 70 = .ok (.aload 5, 2) := by decide +kernel
theorem dX3_saves_72 : decode cX3_saves 72 = .ok (.getfield 138, 3) := by decide +kernel
theorem dX3_saves_75 : decode cX3_saves 75 = .ok (.aload_n 0, 1) := by decide +kernel
theorem dX3_saves_76 : decode cX3_saves 76 = .ok (.iload_n 1, 1) := by decide +kernel
theorem dX3_saves_77 : decode cX3_saves 77 = .ok (.iload 4, 2) := by decide +kernel
theorem dX3_saves_79 : decode cX3_saves 79 = .ok (.invokevirtual 141, 3) := by decide +kernel
theorem dX3_saves_82 : decode cX3_saves 82 = .ok (.i2l, 1) := by decide +kernel
theorem dX3_saves_83 : decode cX3_saves 83 = .ok (.invokevirtual 145, 3) := by decide +kernel
theorem dX3_saves_86 : decode cX3_saves 86 = .ok (.iload_n 2, 1) := by decide +kernel
theorem dX3_saves_87 : decode cX3_saves 87 = .ok (.ineg, 1) := by decide +kernel
theorem dX3_saves_88 : decode cX3_saves 88 = .ok (.i2l, 1) := by decide +kernel
theorem dX3_saves_89 : decode cX3_saves 89 = .ok (.invokevirtual 168, 3) := by decide +kernel
theorem dX3_saves_92 : decode cX3_saves 92 = .ok (.iload_n 3, 1) := by decide +kernel
theorem dX3_saves_93 : decode cX3_saves 93 = .ok (.invokevirtual 108, 3) := by decide +kernel
theorem dX3_saves_96 : decode cX3_saves 96 = .ok (.lreturn, 1) := by decide +kernel
theorem dX3_misses_0 : decode cX3_misses 0 = .ok (.aload_n 0, 1) := by decide +kernel
theorem dX3_misses_1 : decode cX3_misses 1 = .ok (.iload_n 1, 1) := by decide +kernel
theorem dX3_misses_2 : decode cX3_misses 2 = .ok (.invokevirtual 57, 3) := by decide +kernel
theorem dX3_misses_5 : decode cX3_misses 5 = .ok (.ifCond .eq 12, 3) := by decide +kernel
theorem dX3_misses_8 : decode cX3_misses 8 = .ok (.iload_n 2, 1) := by decide +kernel
theorem dX3_misses_9 : decode cX3_misses 9 = .ok (.iconst 0, 1) := by decide +kernel
theorem dX3_misses_10 : decode cX3_misses 10 = .ok (.iconst 1, 1) := by decide +kernel
theorem dX3_misses_11 : decode cX3_misses 11 = .ok (.invokestatic 35, 3) := by decide +kernel
theorem dX3_misses_14 : decode cX3_misses 14 = .ok (.ifCond .eq 7, 3) := by decide +kernel
theorem dX3_misses_17 : decode cX3_misses 17 = .ok (.ldc2_w 96, 3) := by decide +kernel
theorem dX3_misses_20 : decode cX3_misses 20 = .ok (.lreturn, 1) := by decide +kernel
theorem dX3_misses_21 : decode cX3_misses 21 = .ok (.aload_n 0, 1) := by decide +kernel
theorem dX3_misses_22 : decode cX3_misses 22 = .ok (.aload_n 0, 1) := by decide +kernel
theorem dX3_misses_23 : decode cX3_misses 23 = .ok (.getfield 9, 3) := by decide +kernel
theorem dX3_misses_26 : decode cX3_misses 26 = .ok (.iconst 0, 1) := by decide +kernel
theorem dX3_misses_27 : decode cX3_misses 27 = .ok (.iaload, 1) := by decide +kernel
theorem dX3_misses_28 : decode cX3_misses 28 = .ok (.aload_n 0, 1) := by decide +kernel
theorem dX3_misses_29 : decode cX3_misses 29 = .ok (.getfield 9, 3) := by decide +kernel
theorem dX3_misses_32 : decode cX3_misses 32 = .ok (.iconst 1, 1) := by decide +kernel
theorem dX3_misses_33 : decode cX3_misses 33 = .ok (.iaload, 1) := by decide +kernel
theorem dX3_misses_34 : decode cX3_misses 34 = .ok (.aload_n 0, 1) := by decide +kernel
theorem dX3_misses_35 : decode cX3_misses 35 = .ok (.getfield 79, 3) := by decide +kernel
theorem dX3_misses_38 : decode cX3_misses 38 = .ok (.aload_n 0, 1) := by decide +kernel
theorem dX3_misses_39 : decode cX3_misses 39 = .ok (.getfield 68, 3) := by decide +kernel
theorem dX3_misses_42 : decode cX3_misses 42 = .ok (.iload_n 1, 1) := by decide +kernel
