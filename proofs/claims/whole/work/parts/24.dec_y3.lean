/-! Printed by wip/whole/gen_dec.py: what each instruction is. -/
theorem d_Y_sways_0 : decode (mCd M_Y_sways) 0 = .ok (.aload_n 0, 1) := by decide +kernel
theorem d_Y_sways_1 : decode (mCd M_Y_sways) 1 = .ok (.iconst 0, 1) := by decide +kernel
theorem d_Y_sways_2 : decode (mCd M_Y_sways) 2 = .ok (.putfield 3, 3) := by decide +kernel
theorem d_Y_sways_5 : decode (mCd M_Y_sways) 5 = .ok (.aload_n 0, 1) := by decide +kernel
theorem d_Y_sways_6 : decode (mCd M_Y_sways) 6 = .ok (.iload_n 1, 1) := by decide +kernel
theorem d_Y_sways_7 : decode (mCd M_Y_sways) 7 = .ok (.invokevirtual 331, 3) := by decide +kernel
theorem d_Y_sways_10 : decode (mCd M_Y_sways) 10 = .ok (.ifCond .ne 5, 3) := by decide +kernel
theorem d_Y_sways_13 : decode (mCd M_Y_sways) 13 = .ok (.iconst (-1), 1) := by decide +kernel
theorem d_Y_sways_14 : decode (mCd M_Y_sways) 14 = .ok (.ireturn, 1) := by decide +kernel
theorem d_Y_sways_15 : decode (mCd M_Y_sways) 15 = .ok (.aload_n 0, 1) := by decide +kernel
theorem d_Y_sways_16 : decode (mCd M_Y_sways) 16 = .ok (.getfield 51, 3) := by decide +kernel
theorem d_Y_sways_19 : decode (mCd M_Y_sways) 19 = .ok (.bipush 33, 2) := by decide +kernel
theorem d_Y_sways_21 : decode (mCd M_Y_sways) 21 = .ok (.iaload, 1) := by decide +kernel
theorem d_Y_sways_22 : decode (mCd M_Y_sways) 22 = .ok (.aload_n 0, 1) := by decide +kernel
theorem d_Y_sways_23 : decode (mCd M_Y_sways) 23 = .ok (.aload_n 0, 1) := by decide +kernel
theorem d_Y_sways_24 : decode (mCd M_Y_sways) 24 = .ok (.getfield 51, 3) := by decide +kernel
theorem d_Y_sways_27 : decode (mCd M_Y_sways) 27 = .ok (.invokevirtual 367, 3) := by decide +kernel
theorem d_Y_sways_30 : decode (mCd M_Y_sways) 30 = .ok (.iand, 1) := by decide +kernel
theorem d_Y_sways_31 : decode (mCd M_Y_sways) 31 = .ok (.istore_n 2, 1) := by decide +kernel
theorem d_Y_sways_32 : decode (mCd M_Y_sways) 32 = .ok (.iload_n 2, 1) := by decide +kernel
theorem d_Y_sways_33 : decode (mCd M_Y_sways) 33 = .ok (.i2l, 1) := by decide +kernel
theorem d_Y_sways_34 : decode (mCd M_Y_sways) 34 = .ok (.iload_n 1, 1) := by decide +kernel
theorem d_Y_sways_35 : decode (mCd M_Y_sways) 35 = .ok (.invokestatic 280, 3) := by decide +kernel
theorem d_Y_sways_38 : decode (mCd M_Y_sways) 38 = .ok (.ifCond .ne 6, 3) := by decide +kernel
theorem d_Y_sways_41 : decode (mCd M_Y_sways) 41 = .ok (.bipush (-2), 2) := by decide +kernel
theorem d_Y_sways_43 : decode (mCd M_Y_sways) 43 = .ok (.ireturn, 1) := by decide +kernel
theorem d_Y_sways_44 : decode (mCd M_Y_sways) 44 = .ok (.aload_n 0, 1) := by decide +kernel
theorem d_Y_sways_45 : decode (mCd M_Y_sways) 45 = .ok (.aload_n 0, 1) := by decide +kernel
theorem d_Y_sways_46 : decode (mCd M_Y_sways) 46 = .ok (.getfield 51, 3) := by decide +kernel
theorem d_Y_sways_49 : decode (mCd M_Y_sways) 49 = .ok (.invokevirtual 324, 3) := by decide +kernel
theorem d_Y_sways_52 : decode (mCd M_Y_sways) 52 = .ok (.iload_n 2, 1) := by decide +kernel
theorem d_Y_sways_53 : decode (mCd M_Y_sways) 53 = .ok (.iconst 1, 1) := by decide +kernel
theorem d_Y_sways_54 : decode (mCd M_Y_sways) 54 = .ok (.iload_n 1, 1) := by decide +kernel
theorem d_Y_sways_55 : decode (mCd M_Y_sways) 55 = .ok (.ishl, 1) := by decide +kernel
theorem d_Y_sways_56 : decode (mCd M_Y_sways) 56 = .ok (.iconst (-1), 1) := by decide +kernel
theorem d_Y_sways_57 : decode (mCd M_Y_sways) 57 = .ok (.ixor, 1) := by decide +kernel
theorem d_Y_sways_58 : decode (mCd M_Y_sways) 58 = .ok (.iand, 1) := by decide +kernel
theorem d_Y_sways_59 : decode (mCd M_Y_sways) 59 = .ok (.istore_n 3, 1) := by decide +kernel
theorem d_Y_sways_60 : decode (mCd M_Y_sways) 60 = .ok (.iconst 0, 1) := by decide +kernel
theorem d_Y_sways_61 : decode (mCd M_Y_sways) 61 = .ok (.istore 4, 2) := by decide +kernel
theorem d_Y_sways_63 : decode (mCd M_Y_sways) 63 = .ok (.iconst 0, 1) := by decide +kernel
theorem d_Y_sways_64 : decode (mCd M_Y_sways) 64 = .ok (.istore 5, 2) := by decide +kernel
theorem d_Y_sways_66 : decode (mCd M_Y_sways) 66 = .ok (.iload 5, 2) := by decide +kernel
theorem d_Y_sways_68 : decode (mCd M_Y_sways) 68 = .ok (.iload_n 3, 1) := by decide +kernel
theorem d_Y_sways_69 : decode (mCd M_Y_sways) 69 = .ok (.if_icmp .gt 58, 3) := by decide +kernel
theorem d_Y_sways_72 : decode (mCd M_Y_sways) 72 = .ok (.iload 4, 2) := by decide +kernel
theorem d_Y_sways_74 : decode (mCd M_Y_sways) 74 = .ok (.iload 5, 2) := by decide +kernel
theorem d_Y_sways_76 : decode (mCd M_Y_sways) 76 = .ok (.iload_n 3, 1) := by decide +kernel
theorem d_Y_sways_77 : decode (mCd M_Y_sways) 77 = .ok (.iconst (-1), 1) := by decide +kernel
theorem d_Y_sways_78 : decode (mCd M_Y_sways) 78 = .ok (.ixor, 1) := by decide +kernel
theorem d_Y_sways_79 : decode (mCd M_Y_sways) 79 = .ok (.iand, 1) := by decide +kernel
theorem d_Y_sways_80 : decode (mCd M_Y_sways) 80 = .ok (.ifCond .ne 34, 3) := by decide +kernel
theorem d_Y_sways_83 : decode (mCd M_Y_sways) 83 = .ok (.aload_n 0, 1) := by decide +kernel
theorem d_Y_sways_84 : decode (mCd M_Y_sways) 84 = .ok (.aload_n 0, 1) := by decide +kernel
theorem d_Y_sways_85 : decode (mCd M_Y_sways) 85 = .ok (.getfield 51, 3) := by decide +kernel
theorem d_Y_sways_88 : decode (mCd M_Y_sways) 88 = .ok (.iload 5, 2) := by decide +kernel
theorem d_Y_sways_90 : decode (mCd M_Y_sways) 90 = .ok (.invokevirtual 328, 3) := by decide +kernel
theorem d_Y_sways_93 : decode (mCd M_Y_sways) 93 = .ok (.aload_n 0, 1) := by decide +kernel
theorem d_Y_sways_94 : decode (mCd M_Y_sways) 94 = .ok (.aload_n 0, 1) := by decide +kernel
theorem d_Y_sways_95 : decode (mCd M_Y_sways) 95 = .ok (.getfield 51, 3) := by decide +kernel
theorem d_Y_sways_98 : decode (mCd M_Y_sways) 98 = .ok (.iload 5, 2) := by decide +kernel
theorem d_Y_sways_100 : decode (mCd M_Y_sways) 100 = .ok (.iconst 1, 1) := by decide +kernel
theorem d_Y_sways_101 : decode (mCd M_Y_sways) 101 = .ok (.iload_n 1, 1) := by decide +kernel
theorem d_Y_sways_102 : decode (mCd M_Y_sways) 102 = .ok (.ishl, 1) := by decide +kernel
theorem d_Y_sways_103 : decode (mCd M_Y_sways) 103 = .ok (.ior, 1) := by decide +kernel
theorem d_Y_sways_104 : decode (mCd M_Y_sways) 104 = .ok (.invokevirtual 328, 3) := by decide +kernel
theorem d_Y_sways_107 : decode (mCd M_Y_sways) 107 = .ok (.if_icmp .eq 7, 3) := by decide +kernel
theorem d_Y_sways_110 : decode (mCd M_Y_sways) 110 = .ok (.iconst 1, 1) := by decide +kernel
theorem d_Y_sways_111 : decode (mCd M_Y_sways) 111 = .ok (.goto 4, 3) := by decide +kernel
theorem d_Y_sways_114 : decode (mCd M_Y_sways) 114 = .ok (.iconst 0, 1) := by decide +kernel
theorem d_Y_sways_115 : decode (mCd M_Y_sways) 115 = .ok (.invokestatic 171, 3) := by decide +kernel
theorem d_Y_sways_118 : decode (mCd M_Y_sways) 118 = .ok (.iadd, 1) := by decide +kernel
theorem d_Y_sways_119 : decode (mCd M_Y_sways) 119 = .ok (.istore 4, 2) := by decide +kernel
theorem d_Y_sways_121 : decode (mCd M_Y_sways) 121 = .ok (.iinc 5 1, 3) := by decide +kernel
theorem d_Y_sways_124 : decode (mCd M_Y_sways) 124 = .ok (.goto (-58), 3) := by decide +kernel
theorem d_Y_sways_127 : decode (mCd M_Y_sways) 127 = .ok (.aload_n 0, 1) := by decide +kernel
theorem d_Y_sways_128 : decode (mCd M_Y_sways) 128 = .ok (.iconst 0, 1) := by decide +kernel
theorem d_Y_sways_129 : decode (mCd M_Y_sways) 129 = .ok (.putfield 15, 3) := by decide +kernel
theorem d_Y_sways_132 : decode (mCd M_Y_sways) 132 = .ok (.aload_n 0, 1) := by decide +kernel
theorem d_Y_sways_133 : decode (mCd M_Y_sways) 133 = .ok (.iconst 1, 1) := by decide +kernel
theorem d_Y_sways_134 : decode (mCd M_Y_sways) 134 = .ok (.iload_n 3, 1) := by decide +kernel
theorem d_Y_sways_135 : decode (mCd M_Y_sways) 135 = .ok (.invokestatic 370, 3) := by decide +kernel
theorem d_Y_sways_138 : decode (mCd M_Y_sways) 138 = .ok (.ishl, 1) := by decide +kernel
theorem d_Y_sways_139 : decode (mCd M_Y_sways) 139 = .ok (.i2l, 1) := by decide +kernel
theorem d_Y_sways_140 : decode (mCd M_Y_sways) 140 = .ok (.invokevirtual 18, 3) := by decide +kernel
theorem d_Y_sways_143 : decode (mCd M_Y_sways) 143 = .ok (.iload 4, 2) := by decide +kernel
theorem d_Y_sways_145 : decode (mCd M_Y_sways) 145 = .ok (.ireturn, 1) := by decide +kernel
theorem d_Y_seen_0 : decode (mCd M_Y_seen) 0 = .ok (.aload_n 0, 1) := by decide +kernel
theorem d_Y_seen_1 : decode (mCd M_Y_seen) 1 = .ok (.iconst 0, 1) := by decide +kernel
theorem d_Y_seen_2 : decode (mCd M_Y_seen) 2 = .ok (.putfield 3, 3) := by decide +kernel
theorem d_Y_seen_5 : decode (mCd M_Y_seen) 5 = .ok (.iload_n 1, 1) := by decide +kernel
theorem d_Y_seen_6 : decode (mCd M_Y_seen) 6 = .ok (.i2l, 1) := by decide +kernel
theorem d_Y_seen_7 : decode (mCd M_Y_seen) 7 = .ok (.lconst 0, 1) := by decide +kernel
theorem d_Y_seen_8 : decode (mCd M_Y_seen) 8 = .ok (.ldc2_w 422, 3) := by decide +kernel
theorem d_Y_seen_11 : decode (mCd M_Y_seen) 11 = .ok (.invokestatic 142, 3) := by decide +kernel
theorem d_Y_seen_14 : decode (mCd M_Y_seen) 14 = .ok (.ifCond .eq 30, 3) := by decide +kernel
theorem d_Y_seen_17 : decode (mCd M_Y_seen) 17 = .ok (.aload_n 0, 1) := by decide +kernel
theorem d_Y_seen_18 : decode (mCd M_Y_seen) 18 = .ok (.iload_n 2, 1) := by decide +kernel
theorem d_Y_seen_19 : decode (mCd M_Y_seen) 19 = .ok (.invokevirtual 339, 3) := by decide +kernel
theorem d_Y_seen_22 : decode (mCd M_Y_seen) 22 = .ok (.ifCond .eq 22, 3) := by decide +kernel
theorem d_Y_seen_25 : decode (mCd M_Y_seen) 25 = .ok (.iload_n 3, 1) := by decide +kernel
theorem d_Y_seen_26 : decode (mCd M_Y_seen) 26 = .ok (.i2l, 1) := by decide +kernel
theorem d_Y_seen_27 : decode (mCd M_Y_seen) 27 = .ok (.lconst 0, 1) := by decide +kernel
theorem d_Y_seen_28 : decode (mCd M_Y_seen) 28 = .ok (.lconst 1, 1) := by decide +kernel
theorem d_Y_seen_29 : decode (mCd M_Y_seen) 29 = .ok (.invokestatic 142, 3) := by decide +kernel
theorem d_Y_seen_32 : decode (mCd M_Y_seen) 32 = .ok (.ifCond .eq 12, 3) := by decide +kernel
theorem d_Y_seen_35 : decode (mCd M_Y_seen) 35 = .ok (.aload_n 0, 1) := by decide +kernel
theorem d_Y_seen_36 : decode (mCd M_Y_seen) 36 = .ok (.getfield 210, 3) := by decide +kernel
theorem d_Y_seen_39 : decode (mCd M_Y_seen) 39 = .ok (.bipush 10, 2) := by decide +kernel
theorem d_Y_seen_41 : decode (mCd M_Y_seen) 41 = .ok (.if_icmp .ne 5, 3) := by decide +kernel
theorem d_Y_seen_44 : decode (mCd M_Y_seen) 44 = .ok (.iconst (-1), 1) := by decide +kernel
theorem d_Y_seen_45 : decode (mCd M_Y_seen) 45 = .ok (.ireturn, 1) := by decide +kernel
theorem d_Y_seen_46 : decode (mCd M_Y_seen) 46 = .ok (.aload_n 0, 1) := by decide +kernel
theorem d_Y_seen_47 : decode (mCd M_Y_seen) 47 = .ok (.getfield 102, 3) := by decide +kernel
theorem d_Y_seen_50 : decode (mCd M_Y_seen) 50 = .ok (.aload_n 0, 1) := by decide +kernel
theorem d_Y_seen_51 : decode (mCd M_Y_seen) 51 = .ok (.getfield 210, 3) := by decide +kernel
theorem d_Y_seen_54 : decode (mCd M_Y_seen) 54 = .ok (.iload_n 1, 1) := by decide +kernel
theorem d_Y_seen_55 : decode (mCd M_Y_seen) 55 = .ok (.iastore, 1) := by decide +kernel
theorem d_Y_seen_56 : decode (mCd M_Y_seen) 56 = .ok (.aload_n 0, 1) := by decide +kernel
theorem d_Y_seen_57 : decode (mCd M_Y_seen) 57 = .ok (.getfield 105, 3) := by decide +kernel
theorem d_Y_seen_60 : decode (mCd M_Y_seen) 60 = .ok (.aload_n 0, 1) := by decide +kernel
theorem d_Y_seen_61 : decode (mCd M_Y_seen) 61 = .ok (.getfield 210, 3) := by decide +kernel
theorem d_Y_seen_64 : decode (mCd M_Y_seen) 64 = .ok (.iload_n 2, 1) := by decide +kernel
theorem d_Y_seen_65 : decode (mCd M_Y_seen) 65 = .ok (.iastore, 1) := by decide +kernel
theorem d_Y_seen_66 : decode (mCd M_Y_seen) 66 = .ok (.aload_n 0, 1) := by decide +kernel
theorem d_Y_seen_67 : decode (mCd M_Y_seen) 67 = .ok (.getfield 108, 3) := by decide +kernel
theorem d_Y_seen_70 : decode (mCd M_Y_seen) 70 = .ok (.aload_n 0, 1) := by decide +kernel
theorem d_Y_seen_71 : decode (mCd M_Y_seen) 71 = .ok (.getfield 210, 3) := by decide +kernel
theorem d_Y_seen_74 : decode (mCd M_Y_seen) 74 = .ok (.iload_n 3, 1) := by decide +kernel
theorem d_Y_seen_75 : decode (mCd M_Y_seen) 75 = .ok (.iastore, 1) := by decide +kernel
theorem d_Y_seen_76 : decode (mCd M_Y_seen) 76 = .ok (.aload_n 0, 1) := by decide +kernel
theorem d_Y_seen_77 : decode (mCd M_Y_seen) 77 = .ok (.dup, 1) := by decide +kernel
theorem d_Y_seen_78 : decode (mCd M_Y_seen) 78 = .ok (.getfield 210, 3) := by decide +kernel
theorem d_Y_seen_81 : decode (mCd M_Y_seen) 81 = .ok (.iconst 1, 1) := by decide +kernel
theorem d_Y_seen_82 : decode (mCd M_Y_seen) 82 = .ok (.iadd, 1) := by decide +kernel
theorem d_Y_seen_83 : decode (mCd M_Y_seen) 83 = .ok (.putfield 210, 3) := by decide +kernel
theorem d_Y_seen_86 : decode (mCd M_Y_seen) 86 = .ok (.aload_n 0, 1) := by decide +kernel
theorem d_Y_seen_87 : decode (mCd M_Y_seen) 87 = .ok (.getfield 210, 3) := by decide +kernel
theorem d_Y_seen_90 : decode (mCd M_Y_seen) 90 = .ok (.ireturn, 1) := by decide +kernel
theorem d_Y_forget_0 : decode (mCd M_Y_forget) 0 = .ok (.aload_n 0, 1) := by decide +kernel
theorem d_Y_forget_1 : decode (mCd M_Y_forget) 1 = .ok (.iconst 0, 1) := by decide +kernel
theorem d_Y_forget_2 : decode (mCd M_Y_forget) 2 = .ok (.putfield 3, 3) := by decide +kernel
theorem d_Y_forget_5 : decode (mCd M_Y_forget) 5 = .ok (.aload_n 0, 1) := by decide +kernel
theorem d_Y_forget_6 : decode (mCd M_Y_forget) 6 = .ok (.getfield 210, 3) := by decide +kernel
theorem d_Y_forget_9 : decode (mCd M_Y_forget) 9 = .ok (.istore_n 1, 1) := by decide +kernel
theorem d_Y_forget_10 : decode (mCd M_Y_forget) 10 = .ok (.aload_n 0, 1) := by decide +kernel
theorem d_Y_forget_11 : decode (mCd M_Y_forget) 11 = .ok (.iconst 0, 1) := by decide +kernel
theorem d_Y_forget_12 : decode (mCd M_Y_forget) 12 = .ok (.putfield 210, 3) := by decide +kernel
theorem d_Y_forget_15 : decode (mCd M_Y_forget) 15 = .ok (.iload_n 1, 1) := by decide +kernel
theorem d_Y_forget_16 : decode (mCd M_Y_forget) 16 = .ok (.ireturn, 1) := by decide +kernel
theorem d_Y_place_0 : decode (mCd M_Y_place) 0 = .ok (.bipush 21, 2) := by decide +kernel
theorem d_Y_place_2 : decode (mCd M_Y_place) 2 = .ok (.iload_n 0, 1) := by decide +kernel
theorem d_Y_place_3 : decode (mCd M_Y_place) 3 = .ok (.imul, 1) := by decide +kernel
theorem d_Y_place_4 : decode (mCd M_Y_place) 4 = .ok (.iload_n 1, 1) := by decide +kernel
theorem d_Y_place_5 : decode (mCd M_Y_place) 5 = .ok (.iadd, 1) := by decide +kernel
theorem d_Y_place_6 : decode (mCd M_Y_place) 6 = .ok (.ireturn, 1) := by decide +kernel
theorem d_Y_isAsSeen_0 : decode (mCd M_Y_isAsSeen) 0 = .ok (.aload_n 0, 1) := by decide +kernel
theorem d_Y_isAsSeen_1 : decode (mCd M_Y_isAsSeen) 1 = .ok (.invokevirtual 409, 3) := by decide +kernel
theorem d_Y_isAsSeen_4 : decode (mCd M_Y_isAsSeen) 4 = .ok (.aload_n 0, 1) := by decide +kernel
theorem d_Y_isAsSeen_5 : decode (mCd M_Y_isAsSeen) 5 = .ok (.getfield 54, 3) := by decide +kernel
theorem d_Y_isAsSeen_8 : decode (mCd M_Y_isAsSeen) 8 = .ok (.bipush 33, 2) := by decide +kernel
theorem d_Y_isAsSeen_10 : decode (mCd M_Y_isAsSeen) 10 = .ok (.iload_n 1, 1) := by decide +kernel
theorem d_Y_isAsSeen_11 : decode (mCd M_Y_isAsSeen) 11 = .ok (.bipush 8, 2) := by decide +kernel
theorem d_Y_isAsSeen_13 : decode (mCd M_Y_isAsSeen) 13 = .ok (.if_icmp .ge 19, 3) := by decide +kernel
theorem d_Y_isAsSeen_16 : decode (mCd M_Y_isAsSeen) 16 = .ok (.aload_n 0, 1) := by decide +kernel
theorem d_Y_isAsSeen_17 : decode (mCd M_Y_isAsSeen) 17 = .ok (.getfield 51, 3) := by decide +kernel
theorem d_Y_isAsSeen_20 : decode (mCd M_Y_isAsSeen) 20 = .ok (.bipush 33, 2) := by decide +kernel
theorem d_Y_isAsSeen_22 : decode (mCd M_Y_isAsSeen) 22 = .ok (.iaload, 1) := by decide +kernel
theorem d_Y_isAsSeen_23 : decode (mCd M_Y_isAsSeen) 23 = .ok (.iconst 1, 1) := by decide +kernel
theorem d_Y_isAsSeen_24 : decode (mCd M_Y_isAsSeen) 24 = .ok (.iload_n 1, 1) := by decide +kernel
theorem d_Y_isAsSeen_25 : decode (mCd M_Y_isAsSeen) 25 = .ok (.ishl, 1) := by decide +kernel
theorem d_Y_isAsSeen_26 : decode (mCd M_Y_isAsSeen) 26 = .ok (.iconst (-1), 1) := by decide +kernel
theorem d_Y_isAsSeen_27 : decode (mCd M_Y_isAsSeen) 27 = .ok (.ixor, 1) := by decide +kernel
theorem d_Y_isAsSeen_28 : decode (mCd M_Y_isAsSeen) 28 = .ok (.iand, 1) := by decide +kernel
theorem d_Y_isAsSeen_29 : decode (mCd M_Y_isAsSeen) 29 = .ok (.goto 10, 3) := by decide +kernel
theorem d_Y_isAsSeen_32 : decode (mCd M_Y_isAsSeen) 32 = .ok (.aload_n 0, 1) := by decide +kernel
theorem d_Y_isAsSeen_33 : decode (mCd M_Y_isAsSeen) 33 = .ok (.getfield 51, 3) := by decide +kernel
theorem d_Y_isAsSeen_36 : decode (mCd M_Y_isAsSeen) 36 = .ok (.bipush 33, 2) := by decide +kernel
theorem d_Y_isAsSeen_38 : decode (mCd M_Y_isAsSeen) 38 = .ok (.iaload, 1) := by decide +kernel
theorem d_Y_isAsSeen_39 : decode (mCd M_Y_isAsSeen) 39 = .ok (.iastore, 1) := by decide +kernel
theorem d_Y_isAsSeen_40 : decode (mCd M_Y_isAsSeen) 40 = .ok (.iconst 0, 1) := by decide +kernel
theorem d_Y_isAsSeen_41 : decode (mCd M_Y_isAsSeen) 41 = .ok (.istore_n 2, 1) := by decide +kernel
theorem d_Y_isAsSeen_42 : decode (mCd M_Y_isAsSeen) 42 = .ok (.iload_n 2, 1) := by decide +kernel
theorem d_Y_isAsSeen_43 : decode (mCd M_Y_isAsSeen) 43 = .ok (.bipush 20, 2) := by decide +kernel
theorem d_Y_isAsSeen_45 : decode (mCd M_Y_isAsSeen) 45 = .ok (.if_icmp .gt 33, 3) := by decide +kernel
theorem d_Y_isAsSeen_48 : decode (mCd M_Y_isAsSeen) 48 = .ok (.aload_n 0, 1) := by decide +kernel
theorem d_Y_isAsSeen_49 : decode (mCd M_Y_isAsSeen) 49 = .ok (.getfield 111, 3) := by decide +kernel
theorem d_Y_isAsSeen_52 : decode (mCd M_Y_isAsSeen) 52 = .ok (.iload_n 1, 1) := by decide +kernel
theorem d_Y_isAsSeen_53 : decode (mCd M_Y_isAsSeen) 53 = .ok (.iload_n 2, 1) := by decide +kernel
theorem d_Y_isAsSeen_54 : decode (mCd M_Y_isAsSeen) 54 = .ok (.invokestatic 445, 3) := by decide +kernel
theorem d_Y_isAsSeen_57 : decode (mCd M_Y_isAsSeen) 57 = .ok (.aload_n 0, 1) := by decide +kernel
theorem d_Y_isAsSeen_58 : decode (mCd M_Y_isAsSeen) 58 = .ok (.getfield 54, 3) := by decide +kernel
theorem d_Y_isAsSeen_61 : decode (mCd M_Y_isAsSeen) 61 = .ok (.iconst 0, 1) := by decide +kernel
theorem d_Y_isAsSeen_62 : decode (mCd M_Y_isAsSeen) 62 = .ok (.iaload, 1) := by decide +kernel
theorem d_Y_isAsSeen_63 : decode (mCd M_Y_isAsSeen) 63 = .ok (.iastore, 1) := by decide +kernel
theorem d_Y_isAsSeen_64 : decode (mCd M_Y_isAsSeen) 64 = .ok (.aload_n 0, 1) := by decide +kernel
theorem d_Y_isAsSeen_65 : decode (mCd M_Y_isAsSeen) 65 = .ok (.aload_n 0, 1) := by decide +kernel
theorem d_Y_isAsSeen_66 : decode (mCd M_Y_isAsSeen) 66 = .ok (.getfield 54, 3) := by decide +kernel
theorem d_Y_isAsSeen_69 : decode (mCd M_Y_isAsSeen) 69 = .ok (.invokevirtual 362, 3) := by decide +kernel
theorem d_Y_isAsSeen_72 : decode (mCd M_Y_isAsSeen) 72 = .ok (.iinc 2 1, 3) := by decide +kernel
theorem d_Y_isAsSeen_75 : decode (mCd M_Y_isAsSeen) 75 = .ok (.goto (-33), 3) := by decide +kernel
theorem d_Y_isAsSeen_78 : decode (mCd M_Y_isAsSeen) 78 = .ok (.iconst 1, 1) := by decide +kernel
theorem d_Y_isAsSeen_79 : decode (mCd M_Y_isAsSeen) 79 = .ok (.istore_n 2, 1) := by decide +kernel
theorem d_Y_isAsSeen_80 : decode (mCd M_Y_isAsSeen) 80 = .ok (.iconst 0, 1) := by decide +kernel
theorem d_Y_isAsSeen_81 : decode (mCd M_Y_isAsSeen) 81 = .ok (.istore_n 3, 1) := by decide +kernel
theorem d_Y_isAsSeen_82 : decode (mCd M_Y_isAsSeen) 82 = .ok (.iload_n 3, 1) := by decide +kernel
theorem d_Y_isAsSeen_83 : decode (mCd M_Y_isAsSeen) 83 = .ok (.aload_n 0, 1) := by decide +kernel
theorem d_Y_isAsSeen_84 : decode (mCd M_Y_isAsSeen) 84 = .ok (.getfield 210, 3) := by decide +kernel
theorem d_Y_isAsSeen_87 : decode (mCd M_Y_isAsSeen) 87 = .ok (.if_icmp .ge 60, 3) := by decide +kernel
theorem d_Y_isAsSeen_90 : decode (mCd M_Y_isAsSeen) 90 = .ok (.iload_n 2, 1) := by decide +kernel
theorem d_Y_isAsSeen_91 : decode (mCd M_Y_isAsSeen) 91 = .ok (.ifCond .eq 48, 3) := by decide +kernel
theorem d_Y_isAsSeen_94 : decode (mCd M_Y_isAsSeen) 94 = .ok (.aload_n 0, 1) := by decide +kernel
theorem d_Y_isAsSeen_95 : decode (mCd M_Y_isAsSeen) 95 = .ok (.getfield 111, 3) := by decide +kernel
theorem d_Y_isAsSeen_98 : decode (mCd M_Y_isAsSeen) 98 = .ok (.iload_n 1, 1) := by decide +kernel
theorem d_Y_isAsSeen_99 : decode (mCd M_Y_isAsSeen) 99 = .ok (.aload_n 0, 1) := by decide +kernel
theorem d_Y_isAsSeen_100 : decode (mCd M_Y_isAsSeen) 100 = .ok (.getfield 102, 3) := by decide +kernel
theorem d_Y_isAsSeen_103 : decode (mCd M_Y_isAsSeen) 103 = .ok (.iload_n 3, 1) := by decide +kernel
theorem d_Y_isAsSeen_104 : decode (mCd M_Y_isAsSeen) 104 = .ok (.iaload, 1) := by decide +kernel
theorem d_Y_isAsSeen_105 : decode (mCd M_Y_isAsSeen) 105 = .ok (.invokestatic 445, 3) := by decide +kernel
theorem d_Y_isAsSeen_108 : decode (mCd M_Y_isAsSeen) 108 = .ok (.iaload, 1) := by decide +kernel
theorem d_Y_isAsSeen_109 : decode (mCd M_Y_isAsSeen) 109 = .ok (.aload_n 0, 1) := by decide +kernel
theorem d_Y_isAsSeen_110 : decode (mCd M_Y_isAsSeen) 110 = .ok (.getfield 105, 3) := by decide +kernel
theorem d_Y_isAsSeen_113 : decode (mCd M_Y_isAsSeen) 113 = .ok (.iload_n 3, 1) := by decide +kernel
theorem d_Y_isAsSeen_114 : decode (mCd M_Y_isAsSeen) 114 = .ok (.iaload, 1) := by decide +kernel
theorem d_Y_isAsSeen_115 : decode (mCd M_Y_isAsSeen) 115 = .ok (.if_icmp .ne 7, 3) := by decide +kernel
theorem d_Y_isAsSeen_118 : decode (mCd M_Y_isAsSeen) 118 = .ok (.iconst 1, 1) := by decide +kernel
theorem d_Y_isAsSeen_119 : decode (mCd M_Y_isAsSeen) 119 = .ok (.goto 4, 3) := by decide +kernel
theorem d_Y_isAsSeen_122 : decode (mCd M_Y_isAsSeen) 122 = .ok (.iconst 0, 1) := by decide +kernel
theorem d_Y_isAsSeen_123 : decode (mCd M_Y_isAsSeen) 123 = .ok (.invokestatic 171, 3) := by decide +kernel
theorem d_Y_isAsSeen_126 : decode (mCd M_Y_isAsSeen) 126 = .ok (.aload_n 0, 1) := by decide +kernel
theorem d_Y_isAsSeen_127 : decode (mCd M_Y_isAsSeen) 127 = .ok (.getfield 108, 3) := by decide +kernel
theorem d_Y_isAsSeen_130 : decode (mCd M_Y_isAsSeen) 130 = .ok (.iload_n 3, 1) := by decide +kernel
theorem d_Y_isAsSeen_131 : decode (mCd M_Y_isAsSeen) 131 = .ok (.iaload, 1) := by decide +kernel
theorem d_Y_isAsSeen_132 : decode (mCd M_Y_isAsSeen) 132 = .ok (.if_icmp .ne 7, 3) := by decide +kernel
theorem d_Y_isAsSeen_135 : decode (mCd M_Y_isAsSeen) 135 = .ok (.iconst 1, 1) := by decide +kernel
theorem d_Y_isAsSeen_136 : decode (mCd M_Y_isAsSeen) 136 = .ok (.goto 4, 3) := by decide +kernel
theorem d_Y_isAsSeen_139 : decode (mCd M_Y_isAsSeen) 139 = .ok (.iconst 0, 1) := by decide +kernel
theorem d_Y_isAsSeen_140 : decode (mCd M_Y_isAsSeen) 140 = .ok (.istore_n 2, 1) := by decide +kernel
theorem d_Y_isAsSeen_141 : decode (mCd M_Y_isAsSeen) 141 = .ok (.iinc 3 1, 3) := by decide +kernel
theorem d_Y_isAsSeen_144 : decode (mCd M_Y_isAsSeen) 144 = .ok (.goto (-62), 3) := by decide +kernel
theorem d_Y_isAsSeen_147 : decode (mCd M_Y_isAsSeen) 147 = .ok (.iload_n 2, 1) := by decide +kernel
theorem d_Y_isAsSeen_148 : decode (mCd M_Y_isAsSeen) 148 = .ok (.ireturn, 1) := by decide +kernel
theorem d_Y_fitting_0 : decode (mCd M_Y_fitting) 0 = .ok (.iconst 0, 1) := by decide +kernel
theorem d_Y_fitting_1 : decode (mCd M_Y_fitting) 1 = .ok (.istore_n 1, 1) := by decide +kernel
theorem d_Y_fitting_2 : decode (mCd M_Y_fitting) 2 = .ok (.iconst 0, 1) := by decide +kernel
theorem d_Y_fitting_3 : decode (mCd M_Y_fitting) 3 = .ok (.istore_n 2, 1) := by decide +kernel
theorem d_Y_fitting_4 : decode (mCd M_Y_fitting) 4 = .ok (.iload_n 2, 1) := by decide +kernel
theorem d_Y_fitting_5 : decode (mCd M_Y_fitting) 5 = .ok (.aload_n 0, 1) := by decide +kernel
theorem d_Y_fitting_6 : decode (mCd M_Y_fitting) 6 = .ok (.getfield 146, 3) := by decide +kernel
theorem d_Y_fitting_9 : decode (mCd M_Y_fitting) 9 = .ok (.if_icmp .ge 42, 3) := by decide +kernel
theorem d_Y_fitting_12 : decode (mCd M_Y_fitting) 12 = .ok (.iload_n 1, 1) := by decide +kernel
theorem d_Y_fitting_13 : decode (mCd M_Y_fitting) 13 = .ok (.aload_n 0, 1) := by decide +kernel
theorem d_Y_fitting_14 : decode (mCd M_Y_fitting) 14 = .ok (.getfield 51, 3) := by decide +kernel
theorem d_Y_fitting_17 : decode (mCd M_Y_fitting) 17 = .ok (.bipush 33, 2) := by decide +kernel
theorem d_Y_fitting_19 : decode (mCd M_Y_fitting) 19 = .ok (.iaload, 1) := by decide +kernel
theorem d_Y_fitting_20 : decode (mCd M_Y_fitting) 20 = .ok (.i2l, 1) := by decide +kernel
theorem d_Y_fitting_21 : decode (mCd M_Y_fitting) 21 = .ok (.iload_n 2, 1) := by decide +kernel
theorem d_Y_fitting_22 : decode (mCd M_Y_fitting) 22 = .ok (.invokestatic 280, 3) := by decide +kernel
theorem d_Y_fitting_25 : decode (mCd M_Y_fitting) 25 = .ok (.ifCond .eq 17, 3) := by decide +kernel
theorem d_Y_fitting_28 : decode (mCd M_Y_fitting) 28 = .ok (.aload_n 0, 1) := by decide +kernel
theorem d_Y_fitting_29 : decode (mCd M_Y_fitting) 29 = .ok (.iload_n 2, 1) := by decide +kernel
theorem d_Y_fitting_30 : decode (mCd M_Y_fitting) 30 = .ok (.invokevirtual 448, 3) := by decide +kernel
theorem d_Y_fitting_33 : decode (mCd M_Y_fitting) 33 = .ok (.ifCond .eq 9, 3) := by decide +kernel
theorem d_Y_fitting_36 : decode (mCd M_Y_fitting) 36 = .ok (.iconst 1, 1) := by decide +kernel
theorem d_Y_fitting_37 : decode (mCd M_Y_fitting) 37 = .ok (.iload_n 2, 1) := by decide +kernel
theorem d_Y_fitting_38 : decode (mCd M_Y_fitting) 38 = .ok (.ishl, 1) := by decide +kernel
theorem d_Y_fitting_39 : decode (mCd M_Y_fitting) 39 = .ok (.goto 4, 3) := by decide +kernel
theorem d_Y_fitting_42 : decode (mCd M_Y_fitting) 42 = .ok (.iconst 0, 1) := by decide +kernel
theorem d_Y_fitting_43 : decode (mCd M_Y_fitting) 43 = .ok (.ior, 1) := by decide +kernel
theorem d_Y_fitting_44 : decode (mCd M_Y_fitting) 44 = .ok (.istore_n 1, 1) := by decide +kernel
theorem d_Y_fitting_45 : decode (mCd M_Y_fitting) 45 = .ok (.iinc 2 1, 3) := by decide +kernel
theorem d_Y_fitting_48 : decode (mCd M_Y_fitting) 48 = .ok (.goto (-44), 3) := by decide +kernel
theorem d_Y_fitting_51 : decode (mCd M_Y_fitting) 51 = .ok (.iload_n 1, 1) := by decide +kernel
theorem d_Y_fitting_52 : decode (mCd M_Y_fitting) 52 = .ok (.ireturn, 1) := by decide +kernel
theorem d_Y_fits_0 : decode (mCd M_Y_fits) 0 = .ok (.aload_n 0, 1) := by decide +kernel
theorem d_Y_fits_1 : decode (mCd M_Y_fits) 1 = .ok (.iconst 0, 1) := by decide +kernel
theorem d_Y_fits_2 : decode (mCd M_Y_fits) 2 = .ok (.putfield 3, 3) := by decide +kernel
theorem d_Y_fits_5 : decode (mCd M_Y_fits) 5 = .ok (.aload_n 0, 1) := by decide +kernel
theorem d_Y_fits_6 : decode (mCd M_Y_fits) 6 = .ok (.invokevirtual 451, 3) := by decide +kernel
theorem d_Y_fits_9 : decode (mCd M_Y_fits) 9 = .ok (.istore_n 1, 1) := by decide +kernel
theorem d_Y_fits_10 : decode (mCd M_Y_fits) 10 = .ok (.aload_n 0, 1) := by decide +kernel
theorem d_Y_fits_11 : decode (mCd M_Y_fits) 11 = .ok (.iconst 0, 1) := by decide +kernel
theorem d_Y_fits_12 : decode (mCd M_Y_fits) 12 = .ok (.putfield 15, 3) := by decide +kernel
theorem d_Y_fits_15 : decode (mCd M_Y_fits) 15 = .ok (.aload_n 0, 1) := by decide +kernel
theorem d_Y_fits_16 : decode (mCd M_Y_fits) 16 = .ok (.iload_n 1, 1) := by decide +kernel
theorem d_Y_fits_17 : decode (mCd M_Y_fits) 17 = .ok (.invokestatic 370, 3) := by decide +kernel
theorem d_Y_fits_20 : decode (mCd M_Y_fits) 20 = .ok (.i2l, 1) := by decide +kernel
theorem d_Y_fits_21 : decode (mCd M_Y_fits) 21 = .ok (.invokevirtual 18, 3) := by decide +kernel
theorem d_Y_fits_24 : decode (mCd M_Y_fits) 24 = .ok (.aload_n 0, 1) := by decide +kernel
theorem d_Y_fits_25 : decode (mCd M_Y_fits) 25 = .ok (.aload_n 0, 1) := by decide +kernel
theorem d_Y_fits_26 : decode (mCd M_Y_fits) 26 = .ok (.bipush 8, 2) := by decide +kernel
theorem d_Y_fits_28 : decode (mCd M_Y_fits) 28 = .ok (.invokevirtual 448, 3) := by decide +kernel
theorem d_Y_fits_31 : decode (mCd M_Y_fits) 31 = .ok (.invokestatic 171, 3) := by decide +kernel
theorem d_Y_fits_34 : decode (mCd M_Y_fits) 34 = .ok (.i2l, 1) := by decide +kernel
theorem d_Y_fits_35 : decode (mCd M_Y_fits) 35 = .ok (.invokevirtual 18, 3) := by decide +kernel
theorem d_Y_fits_38 : decode (mCd M_Y_fits) 38 = .ok (.iload_n 1, 1) := by decide +kernel
theorem d_Y_fits_39 : decode (mCd M_Y_fits) 39 = .ok (.ireturn, 1) := by decide +kernel
theorem d_Y_looks_0 : decode (mCd M_Y_looks) 0 = .ok (.aload_n 0, 1) := by decide +kernel
theorem d_Y_looks_1 : decode (mCd M_Y_looks) 1 = .ok (.iconst 0, 1) := by decide +kernel
theorem d_Y_looks_2 : decode (mCd M_Y_looks) 2 = .ok (.putfield 3, 3) := by decide +kernel
theorem d_Y_looks_5 : decode (mCd M_Y_looks) 5 = .ok (.aload_n 0, 1) := by decide +kernel
theorem d_Y_looks_6 : decode (mCd M_Y_looks) 6 = .ok (.invokevirtual 451, 3) := by decide +kernel
theorem d_Y_looks_9 : decode (mCd M_Y_looks) 9 = .ok (.istore_n 1, 1) := by decide +kernel
theorem d_Y_looks_10 : decode (mCd M_Y_looks) 10 = .ok (.iload_n 1, 1) := by decide +kernel
theorem d_Y_looks_11 : decode (mCd M_Y_looks) 11 = .ok (.ifCond .ne 6, 3) := by decide +kernel
theorem d_Y_looks_14 : decode (mCd M_Y_looks) 14 = .ok (.bipush (-2), 2) := by decide +kernel
theorem d_Y_looks_16 : decode (mCd M_Y_looks) 16 = .ok (.ireturn, 1) := by decide +kernel
theorem d_Y_looks_17 : decode (mCd M_Y_looks) 17 = .ok (.iconst (-1), 1) := by decide +kernel
theorem d_Y_looks_18 : decode (mCd M_Y_looks) 18 = .ok (.istore_n 2, 1) := by decide +kernel
theorem d_Y_looks_19 : decode (mCd M_Y_looks) 19 = .ok (.ldc_w 435, 3) := by decide +kernel
theorem d_Y_looks_22 : decode (mCd M_Y_looks) 22 = .ok (.istore_n 3, 1) := by decide +kernel
theorem d_Y_looks_23 : decode (mCd M_Y_looks) 23 = .ok (.iconst 0, 1) := by decide +kernel
theorem d_Y_looks_24 : decode (mCd M_Y_looks) 24 = .ok (.istore 4, 2) := by decide +kernel
theorem d_Y_looks_26 : decode (mCd M_Y_looks) 26 = .ok (.iload 4, 2) := by decide +kernel
theorem d_Y_looks_28 : decode (mCd M_Y_looks) 28 = .ok (.bipush 20, 2) := by decide +kernel
theorem d_Y_looks_30 : decode (mCd M_Y_looks) 30 = .ok (.if_icmp .gt 138, 3) := by decide +kernel
theorem d_Y_looks_33 : decode (mCd M_Y_looks) 33 = .ok (.iconst 0, 1) := by decide +kernel
theorem d_Y_looks_34 : decode (mCd M_Y_looks) 34 = .ok (.istore 5, 2) := by decide +kernel
theorem d_Y_looks_36 : decode (mCd M_Y_looks) 36 = .ok (.iconst 0, 1) := by decide +kernel
theorem d_Y_looks_37 : decode (mCd M_Y_looks) 37 = .ok (.istore 6, 2) := by decide +kernel
theorem d_Y_looks_39 : decode (mCd M_Y_looks) 39 = .ok (.iload 6, 2) := by decide +kernel
theorem d_Y_looks_41 : decode (mCd M_Y_looks) 41 = .ok (.aload_n 0, 1) := by decide +kernel
theorem d_Y_looks_42 : decode (mCd M_Y_looks) 42 = .ok (.invokevirtual 138, 3) := by decide +kernel
theorem d_Y_looks_45 : decode (mCd M_Y_looks) 45 = .ok (.if_icmp .ge 17, 3) := by decide +kernel
theorem d_Y_looks_48 : decode (mCd M_Y_looks) 48 = .ok (.aload_n 0, 1) := by decide +kernel
theorem d_Y_looks_49 : decode (mCd M_Y_looks) 49 = .ok (.getfield 114, 3) := by decide +kernel
theorem d_Y_looks_52 : decode (mCd M_Y_looks) 52 = .ok (.iload 6, 2) := by decide +kernel
theorem d_Y_looks_54 : decode (mCd M_Y_looks) 54 = .ok (.iconst 0, 1) := by decide +kernel
theorem d_Y_looks_55 : decode (mCd M_Y_looks) 55 = .ok (.iastore, 1) := by decide +kernel
theorem d_Y_looks_56 : decode (mCd M_Y_looks) 56 = .ok (.iinc 6 1, 3) := by decide +kernel
theorem d_Y_looks_59 : decode (mCd M_Y_looks) 59 = .ok (.goto (-20), 3) := by decide +kernel
theorem d_Y_looks_62 : decode (mCd M_Y_looks) 62 = .ok (.iconst 0, 1) := by decide +kernel
theorem d_Y_looks_63 : decode (mCd M_Y_looks) 63 = .ok (.istore 6, 2) := by decide +kernel
theorem d_Y_looks_65 : decode (mCd M_Y_looks) 65 = .ok (.iload 6, 2) := by decide +kernel
theorem d_Y_looks_67 : decode (mCd M_Y_looks) 67 = .ok (.aload_n 0, 1) := by decide +kernel
theorem d_Y_looks_68 : decode (mCd M_Y_looks) 68 = .ok (.getfield 146, 3) := by decide +kernel
theorem d_Y_looks_71 : decode (mCd M_Y_looks) 71 = .ok (.if_icmp .ge 71, 3) := by decide +kernel
theorem d_Y_looks_74 : decode (mCd M_Y_looks) 74 = .ok (.iload_n 1, 1) := by decide +kernel
theorem d_Y_looks_75 : decode (mCd M_Y_looks) 75 = .ok (.i2l, 1) := by decide +kernel
theorem d_Y_looks_76 : decode (mCd M_Y_looks) 76 = .ok (.iload 6, 2) := by decide +kernel
theorem d_Y_looks_78 : decode (mCd M_Y_looks) 78 = .ok (.invokestatic 280, 3) := by decide +kernel
theorem d_Y_looks_81 : decode (mCd M_Y_looks) 81 = .ok (.ifCond .eq 18, 3) := by decide +kernel
theorem d_Y_looks_84 : decode (mCd M_Y_looks) 84 = .ok (.aload_n 0, 1) := by decide +kernel
theorem d_Y_looks_85 : decode (mCd M_Y_looks) 85 = .ok (.getfield 111, 3) := by decide +kernel
theorem d_Y_looks_88 : decode (mCd M_Y_looks) 88 = .ok (.iload 6, 2) := by decide +kernel
theorem d_Y_looks_90 : decode (mCd M_Y_looks) 90 = .ok (.iload 4, 2) := by decide +kernel
theorem d_Y_looks_92 : decode (mCd M_Y_looks) 92 = .ok (.invokestatic 445, 3) := by decide +kernel
theorem d_Y_looks_95 : decode (mCd M_Y_looks) 95 = .ok (.iaload, 1) := by decide +kernel
theorem d_Y_looks_96 : decode (mCd M_Y_looks) 96 = .ok (.goto 4, 3) := by decide +kernel
theorem d_Y_looks_99 : decode (mCd M_Y_looks) 99 = .ok (.iconst 0, 1) := by decide +kernel
theorem d_Y_looks_100 : decode (mCd M_Y_looks) 100 = .ok (.istore 7, 2) := by decide +kernel
theorem d_Y_looks_102 : decode (mCd M_Y_looks) 102 = .ok (.aload_n 0, 1) := by decide +kernel
theorem d_Y_looks_103 : decode (mCd M_Y_looks) 103 = .ok (.getfield 114, 3) := by decide +kernel
theorem d_Y_looks_106 : decode (mCd M_Y_looks) 106 = .ok (.iload 7, 2) := by decide +kernel
theorem d_Y_looks_108 : decode (mCd M_Y_looks) 108 = .ok (.dup2, 1) := by decide +kernel
theorem d_Y_looks_109 : decode (mCd M_Y_looks) 109 = .ok (.iaload, 1) := by decide +kernel
theorem d_Y_looks_110 : decode (mCd M_Y_looks) 110 = .ok (.iload_n 1, 1) := by decide +kernel
theorem d_Y_looks_111 : decode (mCd M_Y_looks) 111 = .ok (.i2l, 1) := by decide +kernel
theorem d_Y_looks_112 : decode (mCd M_Y_looks) 112 = .ok (.iload 6, 2) := by decide +kernel
theorem d_Y_looks_114 : decode (mCd M_Y_looks) 114 = .ok (.invokestatic 280, 3) := by decide +kernel
theorem d_Y_looks_117 : decode (mCd M_Y_looks) 117 = .ok (.invokestatic 171, 3) := by decide +kernel
theorem d_Y_looks_120 : decode (mCd M_Y_looks) 120 = .ok (.iadd, 1) := by decide +kernel
theorem d_Y_looks_121 : decode (mCd M_Y_looks) 121 = .ok (.iastore, 1) := by decide +kernel
theorem d_Y_looks_122 : decode (mCd M_Y_looks) 122 = .ok (.iload 5, 2) := by decide +kernel
theorem d_Y_looks_124 : decode (mCd M_Y_looks) 124 = .ok (.aload_n 0, 1) := by decide +kernel
theorem d_Y_looks_125 : decode (mCd M_Y_looks) 125 = .ok (.getfield 114, 3) := by decide +kernel
theorem d_Y_looks_128 : decode (mCd M_Y_looks) 128 = .ok (.iload 7, 2) := by decide +kernel
theorem d_Y_looks_130 : decode (mCd M_Y_looks) 130 = .ok (.iaload, 1) := by decide +kernel
theorem d_Y_looks_131 : decode (mCd M_Y_looks) 131 = .ok (.invokestatic 293, 3) := by decide +kernel
theorem d_Y_looks_134 : decode (mCd M_Y_looks) 134 = .ok (.istore 5, 2) := by decide +kernel
theorem d_Y_looks_136 : decode (mCd M_Y_looks) 136 = .ok (.iinc 6 1, 3) := by decide +kernel
theorem d_Y_looks_139 : decode (mCd M_Y_looks) 139 = .ok (.goto (-74), 3) := by decide +kernel
theorem d_Y_looks_142 : decode (mCd M_Y_looks) 142 = .ok (.iload 5, 2) := by decide +kernel
theorem d_Y_looks_144 : decode (mCd M_Y_looks) 144 = .ok (.iload_n 3, 1) := by decide +kernel
theorem d_Y_looks_145 : decode (mCd M_Y_looks) 145 = .ok (.if_icmp .ge 8, 3) := by decide +kernel
theorem d_Y_looks_148 : decode (mCd M_Y_looks) 148 = .ok (.iload 4, 2) := by decide +kernel
theorem d_Y_looks_150 : decode (mCd M_Y_looks) 150 = .ok (.goto 4, 3) := by decide +kernel
theorem d_Y_looks_153 : decode (mCd M_Y_looks) 153 = .ok (.iload_n 2, 1) := by decide +kernel
theorem d_Y_looks_154 : decode (mCd M_Y_looks) 154 = .ok (.istore_n 2, 1) := by decide +kernel
theorem d_Y_looks_155 : decode (mCd M_Y_looks) 155 = .ok (.iload_n 3, 1) := by decide +kernel
theorem d_Y_looks_156 : decode (mCd M_Y_looks) 156 = .ok (.iload 5, 2) := by decide +kernel
theorem d_Y_looks_158 : decode (mCd M_Y_looks) 158 = .ok (.invokestatic 164, 3) := by decide +kernel
theorem d_Y_looks_161 : decode (mCd M_Y_looks) 161 = .ok (.istore_n 3, 1) := by decide +kernel
theorem d_Y_looks_162 : decode (mCd M_Y_looks) 162 = .ok (.iinc 4 1, 3) := by decide +kernel
theorem d_Y_looks_165 : decode (mCd M_Y_looks) 165 = .ok (.goto (-139), 3) := by decide +kernel
theorem d_Y_looks_168 : decode (mCd M_Y_looks) 168 = .ok (.aload_n 0, 1) := by decide +kernel
theorem d_Y_looks_169 : decode (mCd M_Y_looks) 169 = .ok (.iconst 0, 1) := by decide +kernel
theorem d_Y_looks_170 : decode (mCd M_Y_looks) 170 = .ok (.putfield 15, 3) := by decide +kernel
theorem d_Y_looks_173 : decode (mCd M_Y_looks) 173 = .ok (.aload_n 0, 1) := by decide +kernel
theorem d_Y_looks_174 : decode (mCd M_Y_looks) 174 = .ok (.iload_n 3, 1) := by decide +kernel
theorem d_Y_looks_175 : decode (mCd M_Y_looks) 175 = .ok (.i2l, 1) := by decide +kernel
theorem d_Y_looks_176 : decode (mCd M_Y_looks) 176 = .ok (.invokevirtual 18, 3) := by decide +kernel
theorem d_Y_looks_179 : decode (mCd M_Y_looks) 179 = .ok (.iload_n 2, 1) := by decide +kernel
theorem d_Y_looks_180 : decode (mCd M_Y_looks) 180 = .ok (.ireturn, 1) := by decide +kernel
theorem d_Y_laysSteps_0 : decode (mCd M_Y_laysSteps) 0 = .ok (.iconst 0, 1) := by decide +kernel
theorem d_Y_laysSteps_1 : decode (mCd M_Y_laysSteps) 1 = .ok (.istore_n 2, 1) := by decide +kernel
theorem d_Y_laysSteps_2 : decode (mCd M_Y_laysSteps) 2 = .ok (.iload_n 2, 1) := by decide +kernel
theorem d_Y_laysSteps_3 : decode (mCd M_Y_laysSteps) 3 = .ok (.aload_n 0, 1) := by decide +kernel
theorem d_Y_laysSteps_4 : decode (mCd M_Y_laysSteps) 4 = .ok (.invokevirtual 138, 3) := by decide +kernel
theorem d_Y_laysSteps_7 : decode (mCd M_Y_laysSteps) 7 = .ok (.if_icmp .ge 27, 3) := by decide +kernel
theorem d_Y_laysSteps_10 : decode (mCd M_Y_laysSteps) 10 = .ok (.aload_n 0, 1) := by decide +kernel
theorem d_Y_laysSteps_11 : decode (mCd M_Y_laysSteps) 11 = .ok (.getfield 117, 3) := by decide +kernel
theorem d_Y_laysSteps_14 : decode (mCd M_Y_laysSteps) 14 = .ok (.iload_n 2, 1) := by decide +kernel
theorem d_Y_laysSteps_15 : decode (mCd M_Y_laysSteps) 15 = .ok (.iload_n 2, 1) := by decide +kernel
theorem d_Y_laysSteps_16 : decode (mCd M_Y_laysSteps) 16 = .ok (.iload_n 1, 1) := by decide +kernel
theorem d_Y_laysSteps_17 : decode (mCd M_Y_laysSteps) 17 = .ok (.if_icmp .ne 7, 3) := by decide +kernel
theorem d_Y_laysSteps_20 : decode (mCd M_Y_laysSteps) 20 = .ok (.iconst 0, 1) := by decide +kernel
theorem d_Y_laysSteps_21 : decode (mCd M_Y_laysSteps) 21 = .ok (.goto 6, 3) := by decide +kernel
theorem d_Y_laysSteps_24 : decode (mCd M_Y_laysSteps) 24 = .ok (.ldc_w 435, 3) := by decide +kernel
theorem d_Y_laysSteps_27 : decode (mCd M_Y_laysSteps) 27 = .ok (.iastore, 1) := by decide +kernel
theorem d_Y_laysSteps_28 : decode (mCd M_Y_laysSteps) 28 = .ok (.iinc 2 1, 3) := by decide +kernel
theorem d_Y_laysSteps_31 : decode (mCd M_Y_laysSteps) 31 = .ok (.goto (-29), 3) := by decide +kernel
theorem d_Y_laysSteps_34 : decode (mCd M_Y_laysSteps) 34 = .ok (.iconst 0, 1) := by decide +kernel
theorem d_Y_laysSteps_35 : decode (mCd M_Y_laysSteps) 35 = .ok (.istore_n 2, 1) := by decide +kernel
theorem d_Y_laysSteps_36 : decode (mCd M_Y_laysSteps) 36 = .ok (.iload_n 2, 1) := by decide +kernel
theorem d_Y_laysSteps_37 : decode (mCd M_Y_laysSteps) 37 = .ok (.aload_n 0, 1) := by decide +kernel
theorem d_Y_laysSteps_38 : decode (mCd M_Y_laysSteps) 38 = .ok (.invokevirtual 138, 3) := by decide +kernel
theorem d_Y_laysSteps_41 : decode (mCd M_Y_laysSteps) 41 = .ok (.if_icmp .ge 96, 3) := by decide +kernel
theorem d_Y_laysSteps_44 : decode (mCd M_Y_laysSteps) 44 = .ok (.iconst 0, 1) := by decide +kernel
theorem d_Y_laysSteps_45 : decode (mCd M_Y_laysSteps) 45 = .ok (.istore_n 3, 1) := by decide +kernel
theorem d_Y_laysSteps_46 : decode (mCd M_Y_laysSteps) 46 = .ok (.iload_n 3, 1) := by decide +kernel
theorem d_Y_laysSteps_47 : decode (mCd M_Y_laysSteps) 47 = .ok (.aload_n 0, 1) := by decide +kernel
theorem d_Y_laysSteps_48 : decode (mCd M_Y_laysSteps) 48 = .ok (.invokevirtual 138, 3) := by decide +kernel
theorem d_Y_laysSteps_51 : decode (mCd M_Y_laysSteps) 51 = .ok (.if_icmp .ge 80, 3) := by decide +kernel
theorem d_Y_laysSteps_54 : decode (mCd M_Y_laysSteps) 54 = .ok (.iconst 0, 1) := by decide +kernel
theorem d_Y_laysSteps_55 : decode (mCd M_Y_laysSteps) 55 = .ok (.istore 4, 2) := by decide +kernel
theorem d_Y_laysSteps_57 : decode (mCd M_Y_laysSteps) 57 = .ok (.iload 4, 2) := by decide +kernel
theorem d_Y_laysSteps_59 : decode (mCd M_Y_laysSteps) 59 = .ok (.iconst 4, 1) := by decide +kernel
theorem d_Y_laysSteps_60 : decode (mCd M_Y_laysSteps) 60 = .ok (.if_icmp .ge 65, 3) := by decide +kernel
theorem d_Y_laysSteps_63 : decode (mCd M_Y_laysSteps) 63 = .ok (.aload_n 0, 1) := by decide +kernel
theorem d_Y_laysSteps_64 : decode (mCd M_Y_laysSteps) 64 = .ok (.iload_n 3, 1) := by decide +kernel
theorem d_Y_laysSteps_65 : decode (mCd M_Y_laysSteps) 65 = .ok (.iload 4, 2) := by decide +kernel
theorem d_Y_laysSteps_67 : decode (mCd M_Y_laysSteps) 67 = .ok (.invokevirtual 321, 3) := by decide +kernel
theorem d_Y_laysSteps_70 : decode (mCd M_Y_laysSteps) 70 = .ok (.istore 5, 2) := by decide +kernel
theorem d_Y_laysSteps_72 : decode (mCd M_Y_laysSteps) 72 = .ok (.aload_n 0, 1) := by decide +kernel
theorem d_Y_laysSteps_73 : decode (mCd M_Y_laysSteps) 73 = .ok (.getfield 117, 3) := by decide +kernel
theorem d_Y_laysSteps_76 : decode (mCd M_Y_laysSteps) 76 = .ok (.iload_n 3, 1) := by decide +kernel
theorem d_Y_laysSteps_77 : decode (mCd M_Y_laysSteps) 77 = .ok (.iload 5, 2) := by decide +kernel
theorem d_Y_laysSteps_79 : decode (mCd M_Y_laysSteps) 79 = .ok (.ifCond .lt 33, 3) := by decide +kernel
theorem d_Y_laysSteps_82 : decode (mCd M_Y_laysSteps) 82 = .ok (.aload_n 0, 1) := by decide +kernel
theorem d_Y_laysSteps_83 : decode (mCd M_Y_laysSteps) 83 = .ok (.getfield 37, 3) := by decide +kernel
theorem d_Y_laysSteps_86 : decode (mCd M_Y_laysSteps) 86 = .ok (.iload_n 3, 1) := by decide +kernel
theorem d_Y_laysSteps_87 : decode (mCd M_Y_laysSteps) 87 = .ok (.baload, 1) := by decide +kernel
theorem d_Y_laysSteps_88 : decode (mCd M_Y_laysSteps) 88 = .ok (.ifCond .ne 24, 3) := by decide +kernel
theorem d_Y_laysSteps_91 : decode (mCd M_Y_laysSteps) 91 = .ok (.aload_n 0, 1) := by decide +kernel
theorem d_Y_laysSteps_92 : decode (mCd M_Y_laysSteps) 92 = .ok (.getfield 117, 3) := by decide +kernel
theorem d_Y_laysSteps_95 : decode (mCd M_Y_laysSteps) 95 = .ok (.iload_n 3, 1) := by decide +kernel
theorem d_Y_laysSteps_96 : decode (mCd M_Y_laysSteps) 96 = .ok (.iaload, 1) := by decide +kernel
theorem d_Y_laysSteps_97 : decode (mCd M_Y_laysSteps) 97 = .ok (.aload_n 0, 1) := by decide +kernel
theorem d_Y_laysSteps_98 : decode (mCd M_Y_laysSteps) 98 = .ok (.getfield 117, 3) := by decide +kernel
theorem d_Y_laysSteps_101 : decode (mCd M_Y_laysSteps) 101 = .ok (.iload 5, 2) := by decide +kernel
theorem d_Y_laysSteps_103 : decode (mCd M_Y_laysSteps) 103 = .ok (.iaload, 1) := by decide +kernel
theorem d_Y_laysSteps_104 : decode (mCd M_Y_laysSteps) 104 = .ok (.iconst 1, 1) := by decide +kernel
theorem d_Y_laysSteps_105 : decode (mCd M_Y_laysSteps) 105 = .ok (.iadd, 1) := by decide +kernel
theorem d_Y_laysSteps_106 : decode (mCd M_Y_laysSteps) 106 = .ok (.invokestatic 164, 3) := by decide +kernel
theorem d_Y_laysSteps_109 : decode (mCd M_Y_laysSteps) 109 = .ok (.goto 9, 3) := by decide +kernel
theorem d_Y_laysSteps_112 : decode (mCd M_Y_laysSteps) 112 = .ok (.aload_n 0, 1) := by decide +kernel
theorem d_Y_laysSteps_113 : decode (mCd M_Y_laysSteps) 113 = .ok (.getfield 117, 3) := by decide +kernel
theorem d_Y_laysSteps_116 : decode (mCd M_Y_laysSteps) 116 = .ok (.iload_n 3, 1) := by decide +kernel
theorem d_Y_laysSteps_117 : decode (mCd M_Y_laysSteps) 117 = .ok (.iaload, 1) := by decide +kernel
theorem d_Y_laysSteps_118 : decode (mCd M_Y_laysSteps) 118 = .ok (.iastore, 1) := by decide +kernel
theorem d_Y_laysSteps_119 : decode (mCd M_Y_laysSteps) 119 = .ok (.iinc 4 1, 3) := by decide +kernel
theorem d_Y_laysSteps_122 : decode (mCd M_Y_laysSteps) 122 = .ok (.goto (-65), 3) := by decide +kernel
theorem d_Y_laysSteps_125 : decode (mCd M_Y_laysSteps) 125 = .ok (.iinc 3 1, 3) := by decide +kernel
theorem d_Y_laysSteps_128 : decode (mCd M_Y_laysSteps) 128 = .ok (.goto (-82), 3) := by decide +kernel
theorem d_Y_laysSteps_131 : decode (mCd M_Y_laysSteps) 131 = .ok (.iinc 2 1, 3) := by decide +kernel
theorem d_Y_laysSteps_134 : decode (mCd M_Y_laysSteps) 134 = .ok (.goto (-98), 3) := by decide +kernel
theorem d_Y_laysSteps_137 : decode (mCd M_Y_laysSteps) 137 = .ok (.return_, 1) := by decide +kernel
theorem d_Y_way_0 : decode (mCd M_Y_way) 0 = .ok (.aload_n 0, 1) := by decide +kernel
theorem d_Y_way_1 : decode (mCd M_Y_way) 1 = .ok (.iconst 0, 1) := by decide +kernel
theorem d_Y_way_2 : decode (mCd M_Y_way) 2 = .ok (.putfield 3, 3) := by decide +kernel
theorem d_Y_way_5 : decode (mCd M_Y_way) 5 = .ok (.aload_n 0, 1) := by decide +kernel
theorem d_Y_way_6 : decode (mCd M_Y_way) 6 = .ok (.iload_n 1, 1) := by decide +kernel
theorem d_Y_way_7 : decode (mCd M_Y_way) 7 = .ok (.invokevirtual 339, 3) := by decide +kernel
theorem d_Y_way_10 : decode (mCd M_Y_way) 10 = .ok (.ifCond .eq 11, 3) := by decide +kernel
theorem d_Y_way_13 : decode (mCd M_Y_way) 13 = .ok (.aload_n 0, 1) := by decide +kernel
theorem d_Y_way_14 : decode (mCd M_Y_way) 14 = .ok (.iload_n 2, 1) := by decide +kernel
theorem d_Y_way_15 : decode (mCd M_Y_way) 15 = .ok (.invokevirtual 339, 3) := by decide +kernel
theorem d_Y_way_18 : decode (mCd M_Y_way) 18 = .ok (.ifCond .ne 5, 3) := by decide +kernel
theorem d_Y_way_21 : decode (mCd M_Y_way) 21 = .ok (.iconst (-1), 1) := by decide +kernel
theorem d_Y_way_22 : decode (mCd M_Y_way) 22 = .ok (.ireturn, 1) := by decide +kernel
theorem d_Y_way_23 : decode (mCd M_Y_way) 23 = .ok (.aload_n 0, 1) := by decide +kernel
theorem d_Y_way_24 : decode (mCd M_Y_way) 24 = .ok (.iload_n 2, 1) := by decide +kernel
theorem d_Y_way_25 : decode (mCd M_Y_way) 25 = .ok (.invokevirtual 454, 3) := by decide +kernel
theorem d_Y_way_28 : decode (mCd M_Y_way) 28 = .ok (.aload_n 0, 1) := by decide +kernel
theorem d_Y_way_29 : decode (mCd M_Y_way) 29 = .ok (.getfield 37, 3) := by decide +kernel
theorem d_Y_way_32 : decode (mCd M_Y_way) 32 = .ok (.iload_n 1, 1) := by decide +kernel
theorem d_Y_way_33 : decode (mCd M_Y_way) 33 = .ok (.baload, 1) := by decide +kernel
theorem d_Y_way_34 : decode (mCd M_Y_way) 34 = .ok (.ifCond .ne 24, 3) := by decide +kernel
theorem d_Y_way_37 : decode (mCd M_Y_way) 37 = .ok (.aload_n 0, 1) := by decide +kernel
theorem d_Y_way_38 : decode (mCd M_Y_way) 38 = .ok (.getfield 37, 3) := by decide +kernel
theorem d_Y_way_41 : decode (mCd M_Y_way) 41 = .ok (.iload_n 2, 1) := by decide +kernel
theorem d_Y_way_42 : decode (mCd M_Y_way) 42 = .ok (.baload, 1) := by decide +kernel
theorem d_Y_way_43 : decode (mCd M_Y_way) 43 = .ok (.ifCond .ne 15, 3) := by decide +kernel
theorem d_Y_way_46 : decode (mCd M_Y_way) 46 = .ok (.aload_n 0, 1) := by decide +kernel
theorem d_Y_way_47 : decode (mCd M_Y_way) 47 = .ok (.getfield 117, 3) := by decide +kernel
theorem d_Y_way_50 : decode (mCd M_Y_way) 50 = .ok (.iload_n 1, 1) := by decide +kernel
theorem d_Y_way_51 : decode (mCd M_Y_way) 51 = .ok (.iaload, 1) := by decide +kernel
theorem d_Y_way_52 : decode (mCd M_Y_way) 52 = .ok (.ldc_w 435, 3) := by decide +kernel
theorem d_Y_way_55 : decode (mCd M_Y_way) 55 = .ok (.if_icmp .lt 6, 3) := by decide +kernel
theorem d_Y_way_58 : decode (mCd M_Y_way) 58 = .ok (.bipush (-2), 2) := by decide +kernel
theorem d_Y_way_60 : decode (mCd M_Y_way) 60 = .ok (.ireturn, 1) := by decide +kernel
theorem d_Y_way_61 : decode (mCd M_Y_way) 61 = .ok (.aload_n 0, 1) := by decide +kernel
theorem d_Y_way_62 : decode (mCd M_Y_way) 62 = .ok (.iconst 0, 1) := by decide +kernel
theorem d_Y_way_63 : decode (mCd M_Y_way) 63 = .ok (.putfield 15, 3) := by decide +kernel
theorem d_Y_way_66 : decode (mCd M_Y_way) 66 = .ok (.iload_n 1, 1) := by decide +kernel
theorem d_Y_way_67 : decode (mCd M_Y_way) 67 = .ok (.istore_n 3, 1) := by decide +kernel
theorem d_Y_way_68 : decode (mCd M_Y_way) 68 = .ok (.aload_n 0, 1) := by decide +kernel
theorem d_Y_way_69 : decode (mCd M_Y_way) 69 = .ok (.iload_n 3, 1) := by decide +kernel
theorem d_Y_way_70 : decode (mCd M_Y_way) 70 = .ok (.i2l, 1) := by decide +kernel
theorem d_Y_way_71 : decode (mCd M_Y_way) 71 = .ok (.invokevirtual 18, 3) := by decide +kernel
theorem d_Y_way_74 : decode (mCd M_Y_way) 74 = .ok (.aload_n 0, 1) := by decide +kernel
theorem d_Y_way_75 : decode (mCd M_Y_way) 75 = .ok (.getfield 117, 3) := by decide +kernel
theorem d_Y_way_78 : decode (mCd M_Y_way) 78 = .ok (.iload_n 1, 1) := by decide +kernel
theorem d_Y_way_79 : decode (mCd M_Y_way) 79 = .ok (.iaload, 1) := by decide +kernel
theorem d_Y_way_80 : decode (mCd M_Y_way) 80 = .ok (.iconst 1, 1) := by decide +kernel
theorem d_Y_way_81 : decode (mCd M_Y_way) 81 = .ok (.isub, 1) := by decide +kernel
theorem d_Y_way_82 : decode (mCd M_Y_way) 82 = .ok (.istore 4, 2) := by decide +kernel
theorem d_Y_way_84 : decode (mCd M_Y_way) 84 = .ok (.iload 4, 2) := by decide +kernel
theorem d_Y_way_86 : decode (mCd M_Y_way) 86 = .ok (.ifCond .lt 83, 3) := by decide +kernel
theorem d_Y_way_89 : decode (mCd M_Y_way) 89 = .ok (.iconst (-1), 1) := by decide +kernel
theorem d_Y_way_90 : decode (mCd M_Y_way) 90 = .ok (.istore 5, 2) := by decide +kernel
theorem d_Y_way_92 : decode (mCd M_Y_way) 92 = .ok (.iconst 0, 1) := by decide +kernel
theorem d_Y_way_93 : decode (mCd M_Y_way) 93 = .ok (.istore 6, 2) := by decide +kernel
theorem d_Y_way_95 : decode (mCd M_Y_way) 95 = .ok (.iload 6, 2) := by decide +kernel
theorem d_Y_way_97 : decode (mCd M_Y_way) 97 = .ok (.iconst 4, 1) := by decide +kernel
theorem d_Y_way_98 : decode (mCd M_Y_way) 98 = .ok (.if_icmp .ge 56, 3) := by decide +kernel
theorem d_Y_way_101 : decode (mCd M_Y_way) 101 = .ok (.aload_n 0, 1) := by decide +kernel
theorem d_Y_way_102 : decode (mCd M_Y_way) 102 = .ok (.iload_n 3, 1) := by decide +kernel
theorem d_Y_way_103 : decode (mCd M_Y_way) 103 = .ok (.iload 6, 2) := by decide +kernel
theorem d_Y_way_105 : decode (mCd M_Y_way) 105 = .ok (.invokevirtual 321, 3) := by decide +kernel
theorem d_Y_way_108 : decode (mCd M_Y_way) 108 = .ok (.istore 7, 2) := by decide +kernel
theorem d_Y_way_110 : decode (mCd M_Y_way) 110 = .ok (.iload 7, 2) := by decide +kernel
theorem d_Y_way_112 : decode (mCd M_Y_way) 112 = .ok (.ifCond .lt 32, 3) := by decide +kernel
theorem d_Y_way_115 : decode (mCd M_Y_way) 115 = .ok (.aload_n 0, 1) := by decide +kernel
theorem d_Y_way_116 : decode (mCd M_Y_way) 116 = .ok (.getfield 117, 3) := by decide +kernel
theorem d_Y_way_119 : decode (mCd M_Y_way) 119 = .ok (.iload 7, 2) := by decide +kernel
theorem d_Y_way_121 : decode (mCd M_Y_way) 121 = .ok (.iaload, 1) := by decide +kernel
theorem d_Y_way_122 : decode (mCd M_Y_way) 122 = .ok (.iload 4, 2) := by decide +kernel
theorem d_Y_way_124 : decode (mCd M_Y_way) 124 = .ok (.if_icmp .ne 20, 3) := by decide +kernel
theorem d_Y_way_127 : decode (mCd M_Y_way) 127 = .ok (.iload 5, 2) := by decide +kernel
theorem d_Y_way_129 : decode (mCd M_Y_way) 129 = .ok (.ifCond .lt 10, 3) := by decide +kernel
theorem d_Y_way_132 : decode (mCd M_Y_way) 132 = .ok (.iload 7, 2) := by decide +kernel
theorem d_Y_way_134 : decode (mCd M_Y_way) 134 = .ok (.iload 5, 2) := by decide +kernel
theorem d_Y_way_136 : decode (mCd M_Y_way) 136 = .ok (.if_icmp .ge 8, 3) := by decide +kernel
theorem d_Y_way_139 : decode (mCd M_Y_way) 139 = .ok (.iload 7, 2) := by decide +kernel
theorem d_Y_way_141 : decode (mCd M_Y_way) 141 = .ok (.goto 5, 3) := by decide +kernel
theorem d_Y_way_144 : decode (mCd M_Y_way) 144 = .ok (.iload 5, 2) := by decide +kernel
theorem d_Y_way_146 : decode (mCd M_Y_way) 146 = .ok (.istore 5, 2) := by decide +kernel
theorem d_Y_way_148 : decode (mCd M_Y_way) 148 = .ok (.iinc 6 1, 3) := by decide +kernel
theorem d_Y_way_151 : decode (mCd M_Y_way) 151 = .ok (.goto (-56), 3) := by decide +kernel
theorem d_Y_way_154 : decode (mCd M_Y_way) 154 = .ok (.iload 5, 2) := by decide +kernel
theorem d_Y_way_156 : decode (mCd M_Y_way) 156 = .ok (.istore_n 3, 1) := by decide +kernel
theorem d_Y_way_157 : decode (mCd M_Y_way) 157 = .ok (.aload_n 0, 1) := by decide +kernel
theorem d_Y_way_158 : decode (mCd M_Y_way) 158 = .ok (.iload_n 3, 1) := by decide +kernel
theorem d_Y_way_159 : decode (mCd M_Y_way) 159 = .ok (.i2l, 1) := by decide +kernel
theorem d_Y_way_160 : decode (mCd M_Y_way) 160 = .ok (.invokevirtual 18, 3) := by decide +kernel
theorem d_Y_way_163 : decode (mCd M_Y_way) 163 = .ok (.iinc 4 (-1), 3) := by decide +kernel
theorem d_Y_way_166 : decode (mCd M_Y_way) 166 = .ok (.goto (-82), 3) := by decide +kernel
theorem d_Y_way_169 : decode (mCd M_Y_way) 169 = .ok (.aload_n 0, 1) := by decide +kernel
theorem d_Y_way_170 : decode (mCd M_Y_way) 170 = .ok (.getfield 117, 3) := by decide +kernel
theorem d_Y_way_173 : decode (mCd M_Y_way) 173 = .ok (.iload_n 1, 1) := by decide +kernel
theorem d_Y_way_174 : decode (mCd M_Y_way) 174 = .ok (.iaload, 1) := by decide +kernel
theorem d_Y_way_175 : decode (mCd M_Y_way) 175 = .ok (.ireturn, 1) := by decide +kernel
theorem d_Y_farthest_0 : decode (mCd M_Y_farthest) 0 = .ok (.aload_n 0, 1) := by decide +kernel
theorem d_Y_farthest_1 : decode (mCd M_Y_farthest) 1 = .ok (.iconst 0, 1) := by decide +kernel
theorem d_Y_farthest_2 : decode (mCd M_Y_farthest) 2 = .ok (.putfield 3, 3) := by decide +kernel
theorem d_Y_farthest_5 : decode (mCd M_Y_farthest) 5 = .ok (.aload_n 0, 1) := by decide +kernel
theorem d_Y_farthest_6 : decode (mCd M_Y_farthest) 6 = .ok (.aload_n 0, 1) := by decide +kernel
theorem d_Y_farthest_7 : decode (mCd M_Y_farthest) 7 = .ok (.getfield 51, 3) := by decide +kernel
theorem d_Y_farthest_10 : decode (mCd M_Y_farthest) 10 = .ok (.iconst 0, 1) := by decide +kernel
theorem d_Y_farthest_11 : decode (mCd M_Y_farthest) 11 = .ok (.iaload, 1) := by decide +kernel
theorem d_Y_farthest_12 : decode (mCd M_Y_farthest) 12 = .ok (.invokevirtual 454, 3) := by decide +kernel
theorem d_Y_farthest_15 : decode (mCd M_Y_farthest) 15 = .ok (.aload_n 0, 1) := by decide +kernel
theorem d_Y_farthest_16 : decode (mCd M_Y_farthest) 16 = .ok (.getfield 51, 3) := by decide +kernel
theorem d_Y_farthest_19 : decode (mCd M_Y_farthest) 19 = .ok (.iconst 0, 1) := by decide +kernel
theorem d_Y_farthest_20 : decode (mCd M_Y_farthest) 20 = .ok (.iaload, 1) := by decide +kernel
theorem d_Y_farthest_21 : decode (mCd M_Y_farthest) 21 = .ok (.istore_n 1, 1) := by decide +kernel
theorem d_Y_farthest_22 : decode (mCd M_Y_farthest) 22 = .ok (.lconst 0, 1) := by decide +kernel
theorem d_Y_farthest_23 : decode (mCd M_Y_farthest) 23 = .ok (.lstore_n 2, 1) := by decide +kernel
theorem d_Y_farthest_24 : decode (mCd M_Y_farthest) 24 = .ok (.iconst 0, 1) := by decide +kernel
theorem d_Y_farthest_25 : decode (mCd M_Y_farthest) 25 = .ok (.istore 4, 2) := by decide +kernel
theorem d_Y_farthest_27 : decode (mCd M_Y_farthest) 27 = .ok (.iload 4, 2) := by decide +kernel
theorem d_Y_farthest_29 : decode (mCd M_Y_farthest) 29 = .ok (.aload_n 0, 1) := by decide +kernel
theorem d_Y_farthest_30 : decode (mCd M_Y_farthest) 30 = .ok (.invokevirtual 138, 3) := by decide +kernel
theorem d_Y_farthest_33 : decode (mCd M_Y_farthest) 33 = .ok (.if_icmp .ge 105, 3) := by decide +kernel
theorem d_Y_farthest_36 : decode (mCd M_Y_farthest) 36 = .ok (.aload_n 0, 1) := by decide +kernel
theorem d_Y_farthest_37 : decode (mCd M_Y_farthest) 37 = .ok (.getfield 117, 3) := by decide +kernel
theorem d_Y_farthest_40 : decode (mCd M_Y_farthest) 40 = .ok (.iload 4, 2) := by decide +kernel
theorem d_Y_farthest_42 : decode (mCd M_Y_farthest) 42 = .ok (.iaload, 1) := by decide +kernel
theorem d_Y_farthest_43 : decode (mCd M_Y_farthest) 43 = .ok (.ldc_w 435, 3) := by decide +kernel
theorem d_Y_farthest_46 : decode (mCd M_Y_farthest) 46 = .ok (.if_icmp .ge 7, 3) := by decide +kernel
theorem d_Y_farthest_49 : decode (mCd M_Y_farthest) 49 = .ok (.iconst 1, 1) := by decide +kernel
theorem d_Y_farthest_50 : decode (mCd M_Y_farthest) 50 = .ok (.goto 4, 3) := by decide +kernel
theorem d_Y_farthest_53 : decode (mCd M_Y_farthest) 53 = .ok (.iconst 0, 1) := by decide +kernel
theorem d_Y_farthest_54 : decode (mCd M_Y_farthest) 54 = .ok (.istore 5, 2) := by decide +kernel
theorem d_Y_farthest_56 : decode (mCd M_Y_farthest) 56 = .ok (.iload 5, 2) := by decide +kernel
theorem d_Y_farthest_58 : decode (mCd M_Y_farthest) 58 = .ok (.ifCond .eq 46, 3) := by decide +kernel
theorem d_Y_farthest_61 : decode (mCd M_Y_farthest) 61 = .ok (.aload_n 0, 1) := by decide +kernel
theorem d_Y_farthest_62 : decode (mCd M_Y_farthest) 62 = .ok (.getfield 117, 3) := by decide +kernel
theorem d_Y_farthest_65 : decode (mCd M_Y_farthest) 65 = .ok (.iload 4, 2) := by decide +kernel
theorem d_Y_farthest_67 : decode (mCd M_Y_farthest) 67 = .ok (.iaload, 1) := by decide +kernel
theorem d_Y_farthest_68 : decode (mCd M_Y_farthest) 68 = .ok (.aload_n 0, 1) := by decide +kernel
theorem d_Y_farthest_69 : decode (mCd M_Y_farthest) 69 = .ok (.getfield 117, 3) := by decide +kernel
theorem d_Y_farthest_72 : decode (mCd M_Y_farthest) 72 = .ok (.iload_n 1, 1) := by decide +kernel
theorem d_Y_farthest_73 : decode (mCd M_Y_farthest) 73 = .ok (.iaload, 1) := by decide +kernel
theorem d_Y_farthest_74 : decode (mCd M_Y_farthest) 74 = .ok (.if_icmp .gt 25, 3) := by decide +kernel
theorem d_Y_farthest_77 : decode (mCd M_Y_farthest) 77 = .ok (.aload_n 0, 1) := by decide +kernel
theorem d_Y_farthest_78 : decode (mCd M_Y_farthest) 78 = .ok (.getfield 117, 3) := by decide +kernel
theorem d_Y_farthest_81 : decode (mCd M_Y_farthest) 81 = .ok (.iload 4, 2) := by decide +kernel
theorem d_Y_farthest_83 : decode (mCd M_Y_farthest) 83 = .ok (.iaload, 1) := by decide +kernel
theorem d_Y_farthest_84 : decode (mCd M_Y_farthest) 84 = .ok (.aload_n 0, 1) := by decide +kernel
theorem d_Y_farthest_85 : decode (mCd M_Y_farthest) 85 = .ok (.getfield 117, 3) := by decide +kernel
theorem d_Y_farthest_88 : decode (mCd M_Y_farthest) 88 = .ok (.iload_n 1, 1) := by decide +kernel
theorem d_Y_farthest_89 : decode (mCd M_Y_farthest) 89 = .ok (.iaload, 1) := by decide +kernel
theorem d_Y_farthest_90 : decode (mCd M_Y_farthest) 90 = .ok (.if_icmp .ne 14, 3) := by decide +kernel
theorem d_Y_farthest_93 : decode (mCd M_Y_farthest) 93 = .ok (.iload 4, 2) := by decide +kernel
theorem d_Y_farthest_95 : decode (mCd M_Y_farthest) 95 = .ok (.iload_n 1, 1) := by decide +kernel
theorem d_Y_farthest_96 : decode (mCd M_Y_farthest) 96 = .ok (.if_icmp .ge 8, 3) := by decide +kernel
theorem d_Y_farthest_99 : decode (mCd M_Y_farthest) 99 = .ok (.iload 4, 2) := by decide +kernel
theorem d_Y_farthest_101 : decode (mCd M_Y_farthest) 101 = .ok (.goto 4, 3) := by decide +kernel
theorem d_Y_farthest_104 : decode (mCd M_Y_farthest) 104 = .ok (.iload_n 1, 1) := by decide +kernel
theorem d_Y_farthest_105 : decode (mCd M_Y_farthest) 105 = .ok (.istore_n 1, 1) := by decide +kernel
theorem d_Y_farthest_106 : decode (mCd M_Y_farthest) 106 = .ok (.lload_n 2, 1) := by decide +kernel
theorem d_Y_farthest_107 : decode (mCd M_Y_farthest) 107 = .ok (.iload 5, 2) := by decide +kernel
theorem d_Y_farthest_109 : decode (mCd M_Y_farthest) 109 = .ok (.ifCond .ne 20, 3) := by decide +kernel
theorem d_Y_farthest_112 : decode (mCd M_Y_farthest) 112 = .ok (.aload_n 0, 1) := by decide +kernel
theorem d_Y_farthest_113 : decode (mCd M_Y_farthest) 113 = .ok (.getfield 37, 3) := by decide +kernel
theorem d_Y_farthest_116 : decode (mCd M_Y_farthest) 116 = .ok (.iload 4, 2) := by decide +kernel
theorem d_Y_farthest_118 : decode (mCd M_Y_farthest) 118 = .ok (.baload, 1) := by decide +kernel
theorem d_Y_farthest_119 : decode (mCd M_Y_farthest) 119 = .ok (.ifCond .ne 10, 3) := by decide +kernel
theorem d_Y_farthest_122 : decode (mCd M_Y_farthest) 122 = .ok (.lconst 1, 1) := by decide +kernel
theorem d_Y_farthest_123 : decode (mCd M_Y_farthest) 123 = .ok (.iload 4, 2) := by decide +kernel
theorem d_Y_farthest_125 : decode (mCd M_Y_farthest) 125 = .ok (.lshl, 1) := by decide +kernel
theorem d_Y_farthest_126 : decode (mCd M_Y_farthest) 126 = .ok (.goto 4, 3) := by decide +kernel
theorem d_Y_farthest_129 : decode (mCd M_Y_farthest) 129 = .ok (.lconst 0, 1) := by decide +kernel
theorem d_Y_farthest_130 : decode (mCd M_Y_farthest) 130 = .ok (.lor, 1) := by decide +kernel
theorem d_Y_farthest_131 : decode (mCd M_Y_farthest) 131 = .ok (.lstore_n 2, 1) := by decide +kernel
theorem d_Y_farthest_132 : decode (mCd M_Y_farthest) 132 = .ok (.iinc 4 1, 3) := by decide +kernel
theorem d_Y_farthest_135 : decode (mCd M_Y_farthest) 135 = .ok (.goto (-108), 3) := by decide +kernel
theorem d_Y_farthest_138 : decode (mCd M_Y_farthest) 138 = .ok (.aload_n 0, 1) := by decide +kernel
theorem d_Y_farthest_139 : decode (mCd M_Y_farthest) 139 = .ok (.iconst 0, 1) := by decide +kernel
theorem d_Y_farthest_140 : decode (mCd M_Y_farthest) 140 = .ok (.putfield 15, 3) := by decide +kernel
theorem d_Y_farthest_143 : decode (mCd M_Y_farthest) 143 = .ok (.aload_n 0, 1) := by decide +kernel
theorem d_Y_farthest_144 : decode (mCd M_Y_farthest) 144 = .ok (.aload_n 0, 1) := by decide +kernel
theorem d_Y_farthest_145 : decode (mCd M_Y_farthest) 145 = .ok (.getfield 117, 3) := by decide +kernel
theorem d_Y_farthest_148 : decode (mCd M_Y_farthest) 148 = .ok (.iload_n 1, 1) := by decide +kernel
theorem d_Y_farthest_149 : decode (mCd M_Y_farthest) 149 = .ok (.iaload, 1) := by decide +kernel
theorem d_Y_farthest_150 : decode (mCd M_Y_farthest) 150 = .ok (.i2l, 1) := by decide +kernel
theorem d_Y_farthest_151 : decode (mCd M_Y_farthest) 151 = .ok (.invokevirtual 18, 3) := by decide +kernel
theorem d_Y_farthest_154 : decode (mCd M_Y_farthest) 154 = .ok (.aload_n 0, 1) := by decide +kernel
theorem d_Y_farthest_155 : decode (mCd M_Y_farthest) 155 = .ok (.lload_n 2, 1) := by decide +kernel
theorem d_Y_farthest_156 : decode (mCd M_Y_farthest) 156 = .ok (.invokevirtual 18, 3) := by decide +kernel
theorem d_Y_farthest_159 : decode (mCd M_Y_farthest) 159 = .ok (.iload_n 1, 1) := by decide +kernel
theorem d_Y_farthest_160 : decode (mCd M_Y_farthest) 160 = .ok (.ireturn, 1) := by decide +kernel
theorem d_Y_drifts_0 : decode (mCd M_Y_drifts) 0 = .ok (.aload_n 0, 1) := by decide +kernel
theorem d_Y_drifts_1 : decode (mCd M_Y_drifts) 1 = .ok (.iconst 0, 1) := by decide +kernel
theorem d_Y_drifts_2 : decode (mCd M_Y_drifts) 2 = .ok (.putfield 3, 3) := by decide +kernel
theorem d_Y_drifts_5 : decode (mCd M_Y_drifts) 5 = .ok (.iload_n 1, 1) := by decide +kernel
theorem d_Y_drifts_6 : decode (mCd M_Y_drifts) 6 = .ok (.i2l, 1) := by decide +kernel
theorem d_Y_drifts_7 : decode (mCd M_Y_drifts) 7 = .ok (.lconst 0, 1) := by decide +kernel
theorem d_Y_drifts_8 : decode (mCd M_Y_drifts) 8 = .ok (.ldc2_w 457, 3) := by decide +kernel
theorem d_Y_drifts_11 : decode (mCd M_Y_drifts) 11 = .ok (.invokestatic 142, 3) := by decide +kernel
theorem d_Y_drifts_14 : decode (mCd M_Y_drifts) 14 = .ok (.ifCond .eq 15, 3) := by decide +kernel
theorem d_Y_drifts_17 : decode (mCd M_Y_drifts) 17 = .ok (.iload_n 2, 1) := by decide +kernel
theorem d_Y_drifts_18 : decode (mCd M_Y_drifts) 18 = .ok (.i2l, 1) := by decide +kernel
theorem d_Y_drifts_19 : decode (mCd M_Y_drifts) 19 = .ok (.lconst 0, 1) := by decide +kernel
theorem d_Y_drifts_20 : decode (mCd M_Y_drifts) 20 = .ok (.ldc2_w 459, 3) := by decide +kernel
theorem d_Y_drifts_23 : decode (mCd M_Y_drifts) 23 = .ok (.invokestatic 142, 3) := by decide +kernel
theorem d_Y_drifts_26 : decode (mCd M_Y_drifts) 26 = .ok (.ifCond .ne 5, 3) := by decide +kernel
theorem d_Y_drifts_29 : decode (mCd M_Y_drifts) 29 = .ok (.iconst (-1), 1) := by decide +kernel
theorem d_Y_drifts_30 : decode (mCd M_Y_drifts) 30 = .ok (.ireturn, 1) := by decide +kernel
theorem d_Y_drifts_31 : decode (mCd M_Y_drifts) 31 = .ok (.aload_n 0, 1) := by decide +kernel
theorem d_Y_drifts_32 : decode (mCd M_Y_drifts) 32 = .ok (.aload_n 0, 1) := by decide +kernel
theorem d_Y_drifts_33 : decode (mCd M_Y_drifts) 33 = .ok (.getfield 51, 3) := by decide +kernel
theorem d_Y_drifts_36 : decode (mCd M_Y_drifts) 36 = .ok (.invokevirtual 324, 3) := by decide +kernel
theorem d_Y_drifts_39 : decode (mCd M_Y_drifts) 39 = .ok (.aload_n 0, 1) := by decide +kernel
theorem d_Y_drifts_40 : decode (mCd M_Y_drifts) 40 = .ok (.invokevirtual 439, 3) := by decide +kernel
theorem d_Y_drifts_43 : decode (mCd M_Y_drifts) 43 = .ok (.istore_n 3, 1) := by decide +kernel
theorem d_Y_drifts_44 : decode (mCd M_Y_drifts) 44 = .ok (.lconst 0, 1) := by decide +kernel
theorem d_Y_drifts_45 : decode (mCd M_Y_drifts) 45 = .ok (.lstore 4, 2) := by decide +kernel
theorem d_Y_drifts_47 : decode (mCd M_Y_drifts) 47 = .ok (.lconst 1, 1) := by decide +kernel
theorem d_Y_drifts_48 : decode (mCd M_Y_drifts) 48 = .ok (.lstore 6, 2) := by decide +kernel
theorem d_Y_drifts_50 : decode (mCd M_Y_drifts) 50 = .ok (.iload_n 3, 1) := by decide +kernel
theorem d_Y_drifts_51 : decode (mCd M_Y_drifts) 51 = .ok (.invokestatic 370, 3) := by decide +kernel
theorem d_Y_drifts_54 : decode (mCd M_Y_drifts) 54 = .ok (.istore 8, 2) := by decide +kernel
theorem d_Y_drifts_56 : decode (mCd M_Y_drifts) 56 = .ok (.iload 8, 2) := by decide +kernel
theorem d_Y_drifts_58 : decode (mCd M_Y_drifts) 58 = .ok (.ifCond .le 17, 3) := by decide +kernel
theorem d_Y_drifts_61 : decode (mCd M_Y_drifts) 61 = .ok (.lload 6, 2) := by decide +kernel
theorem d_Y_drifts_63 : decode (mCd M_Y_drifts) 63 = .ok (.ldc2_w 459, 3) := by decide +kernel
theorem d_Y_drifts_66 : decode (mCd M_Y_drifts) 66 = .ok (.lmul, 1) := by decide +kernel
theorem d_Y_drifts_67 : decode (mCd M_Y_drifts) 67 = .ok (.lstore 6, 2) := by decide +kernel
theorem d_Y_drifts_69 : decode (mCd M_Y_drifts) 69 = .ok (.iinc 8 (-1), 3) := by decide +kernel
theorem d_Y_drifts_72 : decode (mCd M_Y_drifts) 72 = .ok (.goto (-16), 3) := by decide +kernel
theorem d_Y_drifts_75 : decode (mCd M_Y_drifts) 75 = .ok (.iconst 0, 1) := by decide +kernel
theorem d_Y_drifts_76 : decode (mCd M_Y_drifts) 76 = .ok (.istore 8, 2) := by decide +kernel
theorem d_Y_drifts_78 : decode (mCd M_Y_drifts) 78 = .ok (.iload 8, 2) := by decide +kernel
theorem d_Y_drifts_80 : decode (mCd M_Y_drifts) 80 = .ok (.iload_n 3, 1) := by decide +kernel
theorem d_Y_drifts_81 : decode (mCd M_Y_drifts) 81 = .ok (.if_icmp .gt 108, 3) := by decide +kernel
theorem d_Y_drifts_84 : decode (mCd M_Y_drifts) 84 = .ok (.iload 8, 2) := by decide +kernel
theorem d_Y_drifts_86 : decode (mCd M_Y_drifts) 86 = .ok (.iload_n 3, 1) := by decide +kernel
theorem d_Y_drifts_87 : decode (mCd M_Y_drifts) 87 = .ok (.iconst (-1), 1) := by decide +kernel
theorem d_Y_drifts_88 : decode (mCd M_Y_drifts) 88 = .ok (.ixor, 1) := by decide +kernel
theorem d_Y_drifts_89 : decode (mCd M_Y_drifts) 89 = .ok (.iand, 1) := by decide +kernel
theorem d_Y_drifts_90 : decode (mCd M_Y_drifts) 90 = .ok (.ifCond .ne 21, 3) := by decide +kernel
theorem d_Y_drifts_93 : decode (mCd M_Y_drifts) 93 = .ok (.aload_n 0, 1) := by decide +kernel
theorem d_Y_drifts_94 : decode (mCd M_Y_drifts) 94 = .ok (.aload_n 0, 1) := by decide +kernel
theorem d_Y_drifts_95 : decode (mCd M_Y_drifts) 95 = .ok (.getfield 51, 3) := by decide +kernel
theorem d_Y_drifts_98 : decode (mCd M_Y_drifts) 98 = .ok (.iload 8, 2) := by decide +kernel
theorem d_Y_drifts_100 : decode (mCd M_Y_drifts) 100 = .ok (.invokevirtual 328, 3) := by decide +kernel
theorem d_Y_drifts_103 : decode (mCd M_Y_drifts) 103 = .ok (.iload_n 1, 1) := by decide +kernel
theorem d_Y_drifts_104 : decode (mCd M_Y_drifts) 104 = .ok (.if_icmp .ne 7, 3) := by decide +kernel
theorem d_Y_drifts_107 : decode (mCd M_Y_drifts) 107 = .ok (.iconst 1, 1) := by decide +kernel
theorem d_Y_drifts_108 : decode (mCd M_Y_drifts) 108 = .ok (.goto 4, 3) := by decide +kernel
theorem d_Y_drifts_111 : decode (mCd M_Y_drifts) 111 = .ok (.iconst 0, 1) := by decide +kernel
theorem d_Y_drifts_112 : decode (mCd M_Y_drifts) 112 = .ok (.invokestatic 171, 3) := by decide +kernel
theorem d_Y_drifts_115 : decode (mCd M_Y_drifts) 115 = .ok (.i2l, 1) := by decide +kernel
theorem d_Y_drifts_116 : decode (mCd M_Y_drifts) 116 = .ok (.lstore 9, 2) := by decide +kernel
theorem d_Y_drifts_118 : decode (mCd M_Y_drifts) 118 = .ok (.iconst 0, 1) := by decide +kernel
theorem d_Y_drifts_119 : decode (mCd M_Y_drifts) 119 = .ok (.istore 11, 2) := by decide +kernel
theorem d_Y_drifts_121 : decode (mCd M_Y_drifts) 121 = .ok (.iload 11, 2) := by decide +kernel
theorem d_Y_drifts_123 : decode (mCd M_Y_drifts) 123 = .ok (.aload_n 0, 1) := by decide +kernel
theorem d_Y_drifts_124 : decode (mCd M_Y_drifts) 124 = .ok (.getfield 146, 3) := by decide +kernel
theorem d_Y_drifts_127 : decode (mCd M_Y_drifts) 127 = .ok (.if_icmp .ge 49, 3) := by decide +kernel
theorem d_Y_drifts_130 : decode (mCd M_Y_drifts) 130 = .ok (.lload 9, 2) := by decide +kernel
theorem d_Y_drifts_132 : decode (mCd M_Y_drifts) 132 = .ok (.iload_n 3, 1) := by decide +kernel
theorem d_Y_drifts_133 : decode (mCd M_Y_drifts) 133 = .ok (.i2l, 1) := by decide +kernel
theorem d_Y_drifts_134 : decode (mCd M_Y_drifts) 134 = .ok (.iload 11, 2) := by decide +kernel
theorem d_Y_drifts_136 : decode (mCd M_Y_drifts) 136 = .ok (.invokestatic 280, 3) := by decide +kernel
theorem d_Y_drifts_139 : decode (mCd M_Y_drifts) 139 = .ok (.ifCond .ne 7, 3) := by decide +kernel
theorem d_Y_drifts_142 : decode (mCd M_Y_drifts) 142 = .ok (.lconst 1, 1) := by decide +kernel
theorem d_Y_drifts_143 : decode (mCd M_Y_drifts) 143 = .ok (.goto 24, 3) := by decide +kernel
theorem d_Y_drifts_146 : decode (mCd M_Y_drifts) 146 = .ok (.iload 8, 2) := by decide +kernel
theorem d_Y_drifts_148 : decode (mCd M_Y_drifts) 148 = .ok (.i2l, 1) := by decide +kernel
theorem d_Y_drifts_149 : decode (mCd M_Y_drifts) 149 = .ok (.iload 11, 2) := by decide +kernel
theorem d_Y_drifts_151 : decode (mCd M_Y_drifts) 151 = .ok (.invokestatic 280, 3) := by decide +kernel
theorem d_Y_drifts_154 : decode (mCd M_Y_drifts) 154 = .ok (.ifCond .eq 11, 3) := by decide +kernel
theorem d_Y_drifts_157 : decode (mCd M_Y_drifts) 157 = .ok (.bipush 10, 2) := by decide +kernel
theorem d_Y_drifts_159 : decode (mCd M_Y_drifts) 159 = .ok (.iload_n 2, 1) := by decide +kernel
theorem d_Y_drifts_160 : decode (mCd M_Y_drifts) 160 = .ok (.isub, 1) := by decide +kernel
theorem d_Y_drifts_161 : decode (mCd M_Y_drifts) 161 = .ok (.i2l, 1) := by decide +kernel
theorem d_Y_drifts_162 : decode (mCd M_Y_drifts) 162 = .ok (.goto 5, 3) := by decide +kernel
theorem d_Y_drifts_165 : decode (mCd M_Y_drifts) 165 = .ok (.iload_n 2, 1) := by decide +kernel
theorem d_Y_drifts_166 : decode (mCd M_Y_drifts) 166 = .ok (.i2l, 1) := by decide +kernel
theorem d_Y_drifts_167 : decode (mCd M_Y_drifts) 167 = .ok (.lmul, 1) := by decide +kernel
theorem d_Y_drifts_168 : decode (mCd M_Y_drifts) 168 = .ok (.lstore 9, 2) := by decide +kernel
theorem d_Y_drifts_170 : decode (mCd M_Y_drifts) 170 = .ok (.iinc 11 1, 3) := by decide +kernel
theorem d_Y_drifts_173 : decode (mCd M_Y_drifts) 173 = .ok (.goto (-52), 3) := by decide +kernel
theorem d_Y_drifts_176 : decode (mCd M_Y_drifts) 176 = .ok (.lload 4, 2) := by decide +kernel
theorem d_Y_drifts_178 : decode (mCd M_Y_drifts) 178 = .ok (.lload 9, 2) := by decide +kernel
theorem d_Y_drifts_180 : decode (mCd M_Y_drifts) 180 = .ok (.ladd, 1) := by decide +kernel
theorem d_Y_drifts_181 : decode (mCd M_Y_drifts) 181 = .ok (.lstore 4, 2) := by decide +kernel
theorem d_Y_drifts_183 : decode (mCd M_Y_drifts) 183 = .ok (.iinc 8 1, 3) := by decide +kernel
theorem d_Y_drifts_186 : decode (mCd M_Y_drifts) 186 = .ok (.goto (-108), 3) := by decide +kernel
theorem d_Y_drifts_189 : decode (mCd M_Y_drifts) 189 = .ok (.aload_n 0, 1) := by decide +kernel
theorem d_Y_drifts_190 : decode (mCd M_Y_drifts) 190 = .ok (.lload 4, 2) := by decide +kernel
theorem d_Y_drifts_192 : decode (mCd M_Y_drifts) 192 = .ok (.lload 6, 2) := by decide +kernel
theorem d_Y_drifts_194 : decode (mCd M_Y_drifts) 194 = .ok (.invokevirtual 461, 3) := by decide +kernel
theorem d_Y_drifts_197 : decode (mCd M_Y_drifts) 197 = .ok (.iconst 0, 1) := by decide +kernel
theorem d_Y_drifts_198 : decode (mCd M_Y_drifts) 198 = .ok (.ireturn, 1) := by decide +kernel
theorem d_Y_game_0 : decode (mCd M_Y_game) 0 = .ok (.aload_n 0, 1) := by decide +kernel
theorem d_Y_game_1 : decode (mCd M_Y_game) 1 = .ok (.iconst 0, 1) := by decide +kernel
theorem d_Y_game_2 : decode (mCd M_Y_game) 2 = .ok (.putfield 3, 3) := by decide +kernel
theorem d_Y_game_5 : decode (mCd M_Y_game) 5 = .ok (.iload_n 1, 1) := by decide +kernel
theorem d_Y_game_6 : decode (mCd M_Y_game) 6 = .ok (.i2l, 1) := by decide +kernel
theorem d_Y_game_7 : decode (mCd M_Y_game) 7 = .ok (.lconst 0, 1) := by decide +kernel
theorem d_Y_game_8 : decode (mCd M_Y_game) 8 = .ok (.ldc2_w 377, 3) := by decide +kernel
theorem d_Y_game_11 : decode (mCd M_Y_game) 11 = .ok (.invokestatic 142, 3) := by decide +kernel
theorem d_Y_game_14 : decode (mCd M_Y_game) 14 = .ok (.ifCond .eq 17, 3) := by decide +kernel
theorem d_Y_game_17 : decode (mCd M_Y_game) 17 = .ok (.iload_n 2, 1) := by decide +kernel
theorem d_Y_game_18 : decode (mCd M_Y_game) 18 = .ok (.i2l, 1) := by decide +kernel
theorem d_Y_game_19 : decode (mCd M_Y_game) 19 = .ok (.ldc2_w 342, 3) := by decide +kernel
theorem d_Y_game_22 : decode (mCd M_Y_game) 22 = .ok (.ldc2_w 365, 3) := by decide +kernel
theorem d_Y_game_25 : decode (mCd M_Y_game) 25 = .ok (.invokestatic 142, 3) := by decide +kernel
theorem d_Y_game_28 : decode (mCd M_Y_game) 28 = .ok (.ifCond .ne 5, 3) := by decide +kernel
theorem d_Y_game_31 : decode (mCd M_Y_game) 31 = .ok (.iconst (-1), 1) := by decide +kernel
theorem d_Y_game_32 : decode (mCd M_Y_game) 32 = .ok (.ireturn, 1) := by decide +kernel
theorem d_Y_game_33 : decode (mCd M_Y_game) 33 = .ok (.iload_n 1, 1) := by decide +kernel
theorem d_Y_game_34 : decode (mCd M_Y_game) 34 = .ok (.ifCond .ne 6, 3) := by decide +kernel
theorem d_Y_game_37 : decode (mCd M_Y_game) 37 = .ok (.bipush (-2), 2) := by decide +kernel
theorem d_Y_game_39 : decode (mCd M_Y_game) 39 = .ok (.ireturn, 1) := by decide +kernel
theorem d_Y_game_40 : decode (mCd M_Y_game) 40 = .ok (.aload_n 0, 1) := by decide +kernel
theorem d_Y_game_41 : decode (mCd M_Y_game) 41 = .ok (.getfield 120, 3) := by decide +kernel
theorem d_Y_game_44 : decode (mCd M_Y_game) 44 = .ok (.iconst 0, 1) := by decide +kernel
theorem d_Y_game_45 : decode (mCd M_Y_game) 45 = .ok (.iconst 0, 1) := by decide +kernel
theorem d_Y_game_46 : decode (mCd M_Y_game) 46 = .ok (.bastore, 1) := by decide +kernel
theorem d_Y_game_47 : decode (mCd M_Y_game) 47 = .ok (.aload_n 0, 1) := by decide +kernel
theorem d_Y_game_48 : decode (mCd M_Y_game) 48 = .ok (.getfield 123, 3) := by decide +kernel
theorem d_Y_game_51 : decode (mCd M_Y_game) 51 = .ok (.iconst 0, 1) := by decide +kernel
theorem d_Y_game_52 : decode (mCd M_Y_game) 52 = .ok (.iconst 0, 1) := by decide +kernel
theorem d_Y_game_53 : decode (mCd M_Y_game) 53 = .ok (.bastore, 1) := by decide +kernel
theorem d_Y_game_54 : decode (mCd M_Y_game) 54 = .ok (.iconst 1, 1) := by decide +kernel
theorem d_Y_game_55 : decode (mCd M_Y_game) 55 = .ok (.istore_n 3, 1) := by decide +kernel
theorem d_Y_game_56 : decode (mCd M_Y_game) 56 = .ok (.iload_n 3, 1) := by decide +kernel
theorem d_Y_game_57 : decode (mCd M_Y_game) 57 = .ok (.iload_n 1, 1) := by decide +kernel
theorem d_Y_game_58 : decode (mCd M_Y_game) 58 = .ok (.if_icmp .gt 85, 3) := by decide +kernel
theorem d_Y_game_61 : decode (mCd M_Y_game) 61 = .ok (.aload_n 0, 1) := by decide +kernel
theorem d_Y_game_62 : decode (mCd M_Y_game) 62 = .ok (.getfield 120, 3) := by decide +kernel
theorem d_Y_game_65 : decode (mCd M_Y_game) 65 = .ok (.iload_n 3, 1) := by decide +kernel
theorem d_Y_game_66 : decode (mCd M_Y_game) 66 = .ok (.aload_n 0, 1) := by decide +kernel
theorem d_Y_game_67 : decode (mCd M_Y_game) 67 = .ok (.getfield 123, 3) := by decide +kernel
theorem d_Y_game_70 : decode (mCd M_Y_game) 70 = .ok (.iload_n 3, 1) := by decide +kernel
theorem d_Y_game_71 : decode (mCd M_Y_game) 71 = .ok (.iconst 1, 1) := by decide +kernel
theorem d_Y_game_72 : decode (mCd M_Y_game) 72 = .ok (.isub, 1) := by decide +kernel
theorem d_Y_game_73 : decode (mCd M_Y_game) 73 = .ok (.baload, 1) := by decide +kernel
theorem d_Y_game_74 : decode (mCd M_Y_game) 74 = .ok (.ifCond .eq 19, 3) := by decide +kernel
theorem d_Y_game_77 : decode (mCd M_Y_game) 77 = .ok (.iload_n 3, 1) := by decide +kernel
theorem d_Y_game_78 : decode (mCd M_Y_game) 78 = .ok (.iconst 1, 1) := by decide +kernel
theorem d_Y_game_79 : decode (mCd M_Y_game) 79 = .ok (.if_icmp .le 18, 3) := by decide +kernel
theorem d_Y_game_82 : decode (mCd M_Y_game) 82 = .ok (.aload_n 0, 1) := by decide +kernel
theorem d_Y_game_83 : decode (mCd M_Y_game) 83 = .ok (.getfield 123, 3) := by decide +kernel
theorem d_Y_game_86 : decode (mCd M_Y_game) 86 = .ok (.iload_n 3, 1) := by decide +kernel
theorem d_Y_game_87 : decode (mCd M_Y_game) 87 = .ok (.iconst 2, 1) := by decide +kernel
theorem d_Y_game_88 : decode (mCd M_Y_game) 88 = .ok (.isub, 1) := by decide +kernel
theorem d_Y_game_89 : decode (mCd M_Y_game) 89 = .ok (.baload, 1) := by decide +kernel
theorem d_Y_game_90 : decode (mCd M_Y_game) 90 = .ok (.ifCond .ne 7, 3) := by decide +kernel
theorem d_Y_game_93 : decode (mCd M_Y_game) 93 = .ok (.iconst 1, 1) := by decide +kernel
theorem d_Y_game_94 : decode (mCd M_Y_game) 94 = .ok (.goto 4, 3) := by decide +kernel
theorem d_Y_game_97 : decode (mCd M_Y_game) 97 = .ok (.iconst 0, 1) := by decide +kernel
theorem d_Y_game_98 : decode (mCd M_Y_game) 98 = .ok (.bastore, 1) := by decide +kernel
theorem d_Y_game_99 : decode (mCd M_Y_game) 99 = .ok (.aload_n 0, 1) := by decide +kernel
theorem d_Y_game_100 : decode (mCd M_Y_game) 100 = .ok (.getfield 123, 3) := by decide +kernel
theorem d_Y_game_103 : decode (mCd M_Y_game) 103 = .ok (.iload_n 3, 1) := by decide +kernel
theorem d_Y_game_104 : decode (mCd M_Y_game) 104 = .ok (.aload_n 0, 1) := by decide +kernel
theorem d_Y_game_105 : decode (mCd M_Y_game) 105 = .ok (.getfield 120, 3) := by decide +kernel
theorem d_Y_game_108 : decode (mCd M_Y_game) 108 = .ok (.iload_n 3, 1) := by decide +kernel
theorem d_Y_game_109 : decode (mCd M_Y_game) 109 = .ok (.iconst 1, 1) := by decide +kernel
theorem d_Y_game_110 : decode (mCd M_Y_game) 110 = .ok (.isub, 1) := by decide +kernel
theorem d_Y_game_111 : decode (mCd M_Y_game) 111 = .ok (.baload, 1) := by decide +kernel
theorem d_Y_game_112 : decode (mCd M_Y_game) 112 = .ok (.ifCond .eq 19, 3) := by decide +kernel
theorem d_Y_game_115 : decode (mCd M_Y_game) 115 = .ok (.iload_n 3, 1) := by decide +kernel
theorem d_Y_game_116 : decode (mCd M_Y_game) 116 = .ok (.iload_n 2, 1) := by decide +kernel
theorem d_Y_game_117 : decode (mCd M_Y_game) 117 = .ok (.if_icmp .lt 18, 3) := by decide +kernel
theorem d_Y_game_120 : decode (mCd M_Y_game) 120 = .ok (.aload_n 0, 1) := by decide +kernel
theorem d_Y_game_121 : decode (mCd M_Y_game) 121 = .ok (.getfield 120, 3) := by decide +kernel
theorem d_Y_game_124 : decode (mCd M_Y_game) 124 = .ok (.iload_n 3, 1) := by decide +kernel
theorem d_Y_game_125 : decode (mCd M_Y_game) 125 = .ok (.iload_n 2, 1) := by decide +kernel
theorem d_Y_game_126 : decode (mCd M_Y_game) 126 = .ok (.isub, 1) := by decide +kernel
theorem d_Y_game_127 : decode (mCd M_Y_game) 127 = .ok (.baload, 1) := by decide +kernel
theorem d_Y_game_128 : decode (mCd M_Y_game) 128 = .ok (.ifCond .ne 7, 3) := by decide +kernel
theorem d_Y_game_131 : decode (mCd M_Y_game) 131 = .ok (.iconst 1, 1) := by decide +kernel
theorem d_Y_game_132 : decode (mCd M_Y_game) 132 = .ok (.goto 4, 3) := by decide +kernel
theorem d_Y_game_135 : decode (mCd M_Y_game) 135 = .ok (.iconst 0, 1) := by decide +kernel
theorem d_Y_game_136 : decode (mCd M_Y_game) 136 = .ok (.bastore, 1) := by decide +kernel
theorem d_Y_game_137 : decode (mCd M_Y_game) 137 = .ok (.iinc 3 1, 3) := by decide +kernel
theorem d_Y_game_140 : decode (mCd M_Y_game) 140 = .ok (.goto (-84), 3) := by decide +kernel
theorem d_Y_game_143 : decode (mCd M_Y_game) 143 = .ok (.aload_n 0, 1) := by decide +kernel
theorem d_Y_game_144 : decode (mCd M_Y_game) 144 = .ok (.iconst 0, 1) := by decide +kernel
theorem d_Y_game_145 : decode (mCd M_Y_game) 145 = .ok (.putfield 15, 3) := by decide +kernel
theorem d_Y_game_148 : decode (mCd M_Y_game) 148 = .ok (.aload_n 0, 1) := by decide +kernel
theorem d_Y_game_149 : decode (mCd M_Y_game) 149 = .ok (.getfield 120, 3) := by decide +kernel
theorem d_Y_game_152 : decode (mCd M_Y_game) 152 = .ok (.iload_n 1, 1) := by decide +kernel
theorem d_Y_game_153 : decode (mCd M_Y_game) 153 = .ok (.baload, 1) := by decide +kernel
theorem d_Y_game_154 : decode (mCd M_Y_game) 154 = .ok (.ifCond .eq 25, 3) := by decide +kernel
theorem d_Y_game_157 : decode (mCd M_Y_game) 157 = .ok (.aload_n 0, 1) := by decide +kernel
theorem d_Y_game_158 : decode (mCd M_Y_game) 158 = .ok (.aload_n 0, 1) := by decide +kernel
theorem d_Y_game_159 : decode (mCd M_Y_game) 159 = .ok (.getfield 123, 3) := by decide +kernel
theorem d_Y_game_162 : decode (mCd M_Y_game) 162 = .ok (.iload_n 1, 1) := by decide +kernel
theorem d_Y_game_163 : decode (mCd M_Y_game) 163 = .ok (.iconst 1, 1) := by decide +kernel
theorem d_Y_game_164 : decode (mCd M_Y_game) 164 = .ok (.isub, 1) := by decide +kernel
theorem d_Y_game_165 : decode (mCd M_Y_game) 165 = .ok (.baload, 1) := by decide +kernel
theorem d_Y_game_166 : decode (mCd M_Y_game) 166 = .ok (.ifCond .eq 9, 3) := by decide +kernel
theorem d_Y_game_169 : decode (mCd M_Y_game) 169 = .ok (.ldc2_w 342, 3) := by decide +kernel
theorem d_Y_game_172 : decode (mCd M_Y_game) 172 = .ok (.goto 4, 3) := by decide +kernel
theorem d_Y_game_175 : decode (mCd M_Y_game) 175 = .ok (.lconst 1, 1) := by decide +kernel
theorem d_Y_game_176 : decode (mCd M_Y_game) 176 = .ok (.invokevirtual 18, 3) := by decide +kernel
theorem d_Y_game_179 : decode (mCd M_Y_game) 179 = .ok (.aload_n 0, 1) := by decide +kernel
theorem d_Y_game_180 : decode (mCd M_Y_game) 180 = .ok (.getfield 120, 3) := by decide +kernel
theorem d_Y_game_183 : decode (mCd M_Y_game) 183 = .ok (.iload_n 1, 1) := by decide +kernel
theorem d_Y_game_184 : decode (mCd M_Y_game) 184 = .ok (.baload, 1) := by decide +kernel
theorem d_Y_game_185 : decode (mCd M_Y_game) 185 = .ok (.invokestatic 171, 3) := by decide +kernel
theorem d_Y_game_188 : decode (mCd M_Y_game) 188 = .ok (.ireturn, 1) := by decide +kernel
theorem d_Y_law_0 : decode (mCd M_Y_law) 0 = .ok (.aload_n 0, 1) := by decide +kernel
theorem d_Y_law_1 : decode (mCd M_Y_law) 1 = .ok (.iconst 0, 1) := by decide +kernel
theorem d_Y_law_2 : decode (mCd M_Y_law) 2 = .ok (.putfield 3, 3) := by decide +kernel
theorem d_Y_law_5 : decode (mCd M_Y_law) 5 = .ok (.aload_n 0, 1) := by decide +kernel
theorem d_Y_law_6 : decode (mCd M_Y_law) 6 = .ok (.invokevirtual 269, 3) := by decide +kernel
theorem d_Y_law_9 : decode (mCd M_Y_law) 9 = .ok (.istore_n 1, 1) := by decide +kernel
theorem d_Y_law_10 : decode (mCd M_Y_law) 10 = .ok (.iload_n 1, 1) := by decide +kernel
theorem d_Y_law_11 : decode (mCd M_Y_law) 11 = .ok (.ifCond .ge 11, 3) := by decide +kernel
theorem d_Y_law_14 : decode (mCd M_Y_law) 14 = .ok (.iload_n 1, 1) := by decide +kernel
theorem d_Y_law_15 : decode (mCd M_Y_law) 15 = .ok (.iconst 1, 1) := by decide +kernel
theorem d_Y_law_16 : decode (mCd M_Y_law) 16 = .ok (.iadd, 1) := by decide +kernel
theorem d_Y_law_17 : decode (mCd M_Y_law) 17 = .ok (.sipush 10000, 3) := by decide +kernel
theorem d_Y_law_20 : decode (mCd M_Y_law) 20 = .ok (.isub, 1) := by decide +kernel
theorem d_Y_law_21 : decode (mCd M_Y_law) 21 = .ok (.ireturn, 1) := by decide +kernel
theorem d_Y_law_22 : decode (mCd M_Y_law) 22 = .ok (.aload_n 0, 1) := by decide +kernel
theorem d_Y_law_23 : decode (mCd M_Y_law) 23 = .ok (.invokevirtual 409, 3) := by decide +kernel
theorem d_Y_law_26 : decode (mCd M_Y_law) 26 = .ok (.aload_n 0, 1) := by decide +kernel
theorem d_Y_law_27 : decode (mCd M_Y_law) 27 = .ok (.aload_n 0, 1) := by decide +kernel
theorem d_Y_law_28 : decode (mCd M_Y_law) 28 = .ok (.getfield 54, 3) := by decide +kernel
theorem d_Y_law_31 : decode (mCd M_Y_law) 31 = .ok (.bipush 12, 2) := by decide +kernel
theorem d_Y_law_33 : decode (mCd M_Y_law) 33 = .ok (.invokevirtual 379, 3) := by decide +kernel
theorem d_Y_law_36 : decode (mCd M_Y_law) 36 = .ok (.aload_n 0, 1) := by decide +kernel
theorem d_Y_law_37 : decode (mCd M_Y_law) 37 = .ok (.getfield 54, 3) := by decide +kernel
theorem d_Y_law_40 : decode (mCd M_Y_law) 40 = .ok (.iconst 0, 1) := by decide +kernel
theorem d_Y_law_41 : decode (mCd M_Y_law) 41 = .ok (.iaload, 1) := by decide +kernel
theorem d_Y_law_42 : decode (mCd M_Y_law) 42 = .ok (.istore_n 2, 1) := by decide +kernel
theorem d_Y_law_43 : decode (mCd M_Y_law) 43 = .ok (.aload_n 0, 1) := by decide +kernel
theorem d_Y_law_44 : decode (mCd M_Y_law) 44 = .ok (.getfield 266, 3) := by decide +kernel
theorem d_Y_law_47 : decode (mCd M_Y_law) 47 = .ok (.istore_n 3, 1) := by decide +kernel
theorem d_Y_law_48 : decode (mCd M_Y_law) 48 = .ok (.iconst 0, 1) := by decide +kernel
theorem d_Y_law_49 : decode (mCd M_Y_law) 49 = .ok (.istore 4, 2) := by decide +kernel
theorem d_Y_law_51 : decode (mCd M_Y_law) 51 = .ok (.iload 4, 2) := by decide +kernel
theorem d_Y_law_53 : decode (mCd M_Y_law) 53 = .ok (.aload_n 0, 1) := by decide +kernel
theorem d_Y_law_54 : decode (mCd M_Y_law) 54 = .ok (.getfield 266, 3) := by decide +kernel
theorem d_Y_law_57 : decode (mCd M_Y_law) 57 = .ok (.if_icmp .ge 23, 3) := by decide +kernel
theorem d_Y_law_60 : decode (mCd M_Y_law) 60 = .ok (.aload_n 0, 1) := by decide +kernel
theorem d_Y_law_61 : decode (mCd M_Y_law) 61 = .ok (.getfield 126, 3) := by decide +kernel
theorem d_Y_law_64 : decode (mCd M_Y_law) 64 = .ok (.iload 4, 2) := by decide +kernel
theorem d_Y_law_66 : decode (mCd M_Y_law) 66 = .ok (.aload_n 0, 1) := by decide +kernel
theorem d_Y_law_67 : decode (mCd M_Y_law) 67 = .ok (.getfield 66, 3) := by decide +kernel
theorem d_Y_law_70 : decode (mCd M_Y_law) 70 = .ok (.iload 4, 2) := by decide +kernel
theorem d_Y_law_72 : decode (mCd M_Y_law) 72 = .ok (.iaload, 1) := by decide +kernel
theorem d_Y_law_73 : decode (mCd M_Y_law) 73 = .ok (.iastore, 1) := by decide +kernel
theorem d_Y_law_74 : decode (mCd M_Y_law) 74 = .ok (.iinc 4 1, 3) := by decide +kernel
theorem d_Y_law_77 : decode (mCd M_Y_law) 77 = .ok (.goto (-26), 3) := by decide +kernel
theorem d_Y_law_80 : decode (mCd M_Y_law) 80 = .ok (.aload_n 0, 1) := by decide +kernel
theorem d_Y_law_81 : decode (mCd M_Y_law) 81 = .ok (.aload_n 0, 1) := by decide +kernel
theorem d_Y_law_82 : decode (mCd M_Y_law) 82 = .ok (.getfield 69, 3) := by decide +kernel
theorem d_Y_law_85 : decode (mCd M_Y_law) 85 = .ok (.aload_n 0, 1) := by decide +kernel
theorem d_Y_law_86 : decode (mCd M_Y_law) 86 = .ok (.getfield 245, 3) := by decide +kernel
theorem d_Y_law_89 : decode (mCd M_Y_law) 89 = .ok (.invokevirtual 272, 3) := by decide +kernel
theorem d_Y_law_92 : decode (mCd M_Y_law) 92 = .ok (.aload_n 0, 1) := by decide +kernel
theorem d_Y_law_93 : decode (mCd M_Y_law) 93 = .ok (.invokevirtual 409, 3) := by decide +kernel
theorem d_Y_law_96 : decode (mCd M_Y_law) 96 = .ok (.aload_n 0, 1) := by decide +kernel
theorem d_Y_law_97 : decode (mCd M_Y_law) 97 = .ok (.aload_n 0, 1) := by decide +kernel
theorem d_Y_law_98 : decode (mCd M_Y_law) 98 = .ok (.getfield 54, 3) := by decide +kernel
theorem d_Y_law_101 : decode (mCd M_Y_law) 101 = .ok (.bipush 12, 2) := by decide +kernel
theorem d_Y_law_103 : decode (mCd M_Y_law) 103 = .ok (.invokevirtual 379, 3) := by decide +kernel
theorem d_Y_law_106 : decode (mCd M_Y_law) 106 = .ok (.aload_n 0, 1) := by decide +kernel
theorem d_Y_law_107 : decode (mCd M_Y_law) 107 = .ok (.iconst 0, 1) := by decide +kernel
theorem d_Y_law_108 : decode (mCd M_Y_law) 108 = .ok (.putfield 15, 3) := by decide +kernel
theorem d_Y_law_111 : decode (mCd M_Y_law) 111 = .ok (.aload_n 0, 1) := by decide +kernel
theorem d_Y_law_112 : decode (mCd M_Y_law) 112 = .ok (.iload_n 2, 1) := by decide +kernel
theorem d_Y_law_113 : decode (mCd M_Y_law) 113 = .ok (.i2l, 1) := by decide +kernel
theorem d_Y_law_114 : decode (mCd M_Y_law) 114 = .ok (.invokevirtual 18, 3) := by decide +kernel
theorem d_Y_law_117 : decode (mCd M_Y_law) 117 = .ok (.iconst 0, 1) := by decide +kernel
theorem d_Y_law_118 : decode (mCd M_Y_law) 118 = .ok (.istore 4, 2) := by decide +kernel
theorem d_Y_law_120 : decode (mCd M_Y_law) 120 = .ok (.iload 4, 2) := by decide +kernel
theorem d_Y_law_122 : decode (mCd M_Y_law) 122 = .ok (.aload_n 0, 1) := by decide +kernel
theorem d_Y_law_123 : decode (mCd M_Y_law) 123 = .ok (.getfield 146, 3) := by decide +kernel
theorem d_Y_law_126 : decode (mCd M_Y_law) 126 = .ok (.if_icmp .ge 24, 3) := by decide +kernel
theorem d_Y_law_129 : decode (mCd M_Y_law) 129 = .ok (.aload_n 0, 1) := by decide +kernel
theorem d_Y_law_130 : decode (mCd M_Y_law) 130 = .ok (.aload_n 0, 1) := by decide +kernel
theorem d_Y_law_131 : decode (mCd M_Y_law) 131 = .ok (.aload_n 0, 1) := by decide +kernel
theorem d_Y_law_132 : decode (mCd M_Y_law) 132 = .ok (.getfield 51, 3) := by decide +kernel
theorem d_Y_law_135 : decode (mCd M_Y_law) 135 = .ok (.iload 4, 2) := by decide +kernel
theorem d_Y_law_137 : decode (mCd M_Y_law) 137 = .ok (.invokevirtual 312, 3) := by decide +kernel
theorem d_Y_law_140 : decode (mCd M_Y_law) 140 = .ok (.i2l, 1) := by decide +kernel
theorem d_Y_law_141 : decode (mCd M_Y_law) 141 = .ok (.invokevirtual 18, 3) := by decide +kernel
theorem d_Y_law_144 : decode (mCd M_Y_law) 144 = .ok (.iinc 4 1, 3) := by decide +kernel
theorem d_Y_law_147 : decode (mCd M_Y_law) 147 = .ok (.goto (-27), 3) := by decide +kernel
theorem d_Y_law_150 : decode (mCd M_Y_law) 150 = .ok (.aload_n 0, 1) := by decide +kernel
theorem d_Y_law_151 : decode (mCd M_Y_law) 151 = .ok (.aload_n 0, 1) := by decide +kernel
theorem d_Y_law_152 : decode (mCd M_Y_law) 152 = .ok (.getfield 126, 3) := by decide +kernel
theorem d_Y_law_155 : decode (mCd M_Y_law) 155 = .ok (.iload_n 3, 1) := by decide +kernel
theorem d_Y_law_156 : decode (mCd M_Y_law) 156 = .ok (.invokevirtual 272, 3) := by decide +kernel
theorem d_Y_law_159 : decode (mCd M_Y_law) 159 = .ok (.aload_n 0, 1) := by decide +kernel
theorem d_Y_law_160 : decode (mCd M_Y_law) 160 = .ok (.getfield 54, 3) := by decide +kernel
theorem d_Y_law_163 : decode (mCd M_Y_law) 163 = .ok (.iconst 0, 1) := by decide +kernel
theorem d_Y_law_164 : decode (mCd M_Y_law) 164 = .ok (.iaload, 1) := by decide +kernel
theorem d_Y_law_165 : decode (mCd M_Y_law) 165 = .ok (.ireturn, 1) := by decide +kernel
theorem d_Y_gets_0 : decode (mCd M_Y_gets) 0 = .ok (.iload_n 0, 1) := by decide +kernel
theorem d_Y_gets_1 : decode (mCd M_Y_gets) 1 = .ok (.iload_n 1, 1) := by decide +kernel
theorem d_Y_gets_2 : decode (mCd M_Y_gets) 2 = .ok (.if_icmp .le 9, 3) := by decide +kernel
theorem d_Y_gets_5 : decode (mCd M_Y_gets) 5 = .ok (.iload_n 2, 1) := by decide +kernel
theorem d_Y_gets_6 : decode (mCd M_Y_gets) 6 = .ok (.iload_n 0, 1) := by decide +kernel
theorem d_Y_gets_7 : decode (mCd M_Y_gets) 7 = .ok (.isub, 1) := by decide +kernel
theorem d_Y_gets_8 : decode (mCd M_Y_gets) 8 = .ok (.goto 31, 3) := by decide +kernel
theorem d_Y_gets_11 : decode (mCd M_Y_gets) 11 = .ok (.iload_n 0, 1) := by decide +kernel
theorem d_Y_gets_12 : decode (mCd M_Y_gets) 12 = .ok (.iload_n 1, 1) := by decide +kernel
theorem d_Y_gets_13 : decode (mCd M_Y_gets) 13 = .ok (.if_icmp .ne 13, 3) := by decide +kernel
theorem d_Y_gets_16 : decode (mCd M_Y_gets) 16 = .ok (.iload_n 2, 1) := by decide +kernel
theorem d_Y_gets_17 : decode (mCd M_Y_gets) 17 = .ok (.iconst 2, 1) := by decide +kernel
theorem d_Y_gets_18 : decode (mCd M_Y_gets) 18 = .ok (.idiv, 1) := by decide +kernel
theorem d_Y_gets_19 : decode (mCd M_Y_gets) 19 = .ok (.iload_n 0, 1) := by decide +kernel
theorem d_Y_gets_20 : decode (mCd M_Y_gets) 20 = .ok (.iconst 2, 1) := by decide +kernel
theorem d_Y_gets_21 : decode (mCd M_Y_gets) 21 = .ok (.idiv, 1) := by decide +kernel
theorem d_Y_gets_22 : decode (mCd M_Y_gets) 22 = .ok (.isub, 1) := by decide +kernel
theorem d_Y_gets_23 : decode (mCd M_Y_gets) 23 = .ok (.goto 16, 3) := by decide +kernel
theorem d_Y_gets_26 : decode (mCd M_Y_gets) 26 = .ok (.iload_n 0, 1) := by decide +kernel
theorem d_Y_gets_27 : decode (mCd M_Y_gets) 27 = .ok (.ifCond .le 7, 3) := by decide +kernel
theorem d_Y_gets_30 : decode (mCd M_Y_gets) 30 = .ok (.iconst 1, 1) := by decide +kernel
theorem d_Y_gets_31 : decode (mCd M_Y_gets) 31 = .ok (.goto 4, 3) := by decide +kernel
theorem d_Y_gets_34 : decode (mCd M_Y_gets) 34 = .ok (.iconst 0, 1) := by decide +kernel
theorem d_Y_gets_35 : decode (mCd M_Y_gets) 35 = .ok (.invokestatic 171, 3) := by decide +kernel
theorem d_Y_gets_38 : decode (mCd M_Y_gets) 38 = .ok (.ineg, 1) := by decide +kernel
theorem d_Y_gets_39 : decode (mCd M_Y_gets) 39 = .ok (.ireturn, 1) := by decide +kernel
theorem d_Y_isRest_0 : decode (mCd M_Y_isRest) 0 = .ok (.iconst 1, 1) := by decide +kernel
theorem d_Y_isRest_1 : decode (mCd M_Y_isRest) 1 = .ok (.istore_n 3, 1) := by decide +kernel
theorem d_Y_isRest_2 : decode (mCd M_Y_isRest) 2 = .ok (.iconst 0, 1) := by decide +kernel
theorem d_Y_isRest_3 : decode (mCd M_Y_isRest) 3 = .ok (.istore 4, 2) := by decide +kernel
theorem d_Y_isRest_5 : decode (mCd M_Y_isRest) 5 = .ok (.iload 4, 2) := by decide +kernel
theorem d_Y_isRest_7 : decode (mCd M_Y_isRest) 7 = .ok (.bipush 9, 2) := by decide +kernel
theorem d_Y_isRest_9 : decode (mCd M_Y_isRest) 9 = .ok (.if_icmp .gt 35, 3) := by decide +kernel
theorem d_Y_isRest_12 : decode (mCd M_Y_isRest) 12 = .ok (.iload_n 3, 1) := by decide +kernel
theorem d_Y_isRest_13 : decode (mCd M_Y_isRest) 13 = .ok (.ifCond .eq 23, 3) := by decide +kernel
theorem d_Y_isRest_16 : decode (mCd M_Y_isRest) 16 = .ok (.iload 4, 2) := by decide +kernel
theorem d_Y_isRest_18 : decode (mCd M_Y_isRest) 18 = .ok (.iload_n 1, 1) := by decide +kernel
theorem d_Y_isRest_19 : decode (mCd M_Y_isRest) 19 = .ok (.iload_n 2, 1) := by decide +kernel
theorem d_Y_isRest_20 : decode (mCd M_Y_isRest) 20 = .ok (.invokestatic 465, 3) := by decide +kernel
theorem d_Y_isRest_23 : decode (mCd M_Y_isRest) 23 = .ok (.iload_n 0, 1) := by decide +kernel
theorem d_Y_isRest_24 : decode (mCd M_Y_isRest) 24 = .ok (.iload_n 1, 1) := by decide +kernel
theorem d_Y_isRest_25 : decode (mCd M_Y_isRest) 25 = .ok (.iload_n 2, 1) := by decide +kernel
theorem d_Y_isRest_26 : decode (mCd M_Y_isRest) 26 = .ok (.invokestatic 465, 3) := by decide +kernel
theorem d_Y_isRest_29 : decode (mCd M_Y_isRest) 29 = .ok (.if_icmp .gt 7, 3) := by decide +kernel
theorem d_Y_isRest_32 : decode (mCd M_Y_isRest) 32 = .ok (.iconst 1, 1) := by decide +kernel
theorem d_Y_isRest_33 : decode (mCd M_Y_isRest) 33 = .ok (.goto 4, 3) := by decide +kernel
theorem d_Y_isRest_36 : decode (mCd M_Y_isRest) 36 = .ok (.iconst 0, 1) := by decide +kernel
theorem d_Y_isRest_37 : decode (mCd M_Y_isRest) 37 = .ok (.istore_n 3, 1) := by decide +kernel
theorem d_Y_isRest_38 : decode (mCd M_Y_isRest) 38 = .ok (.iinc 4 1, 3) := by decide +kernel
theorem d_Y_isRest_41 : decode (mCd M_Y_isRest) 41 = .ok (.goto (-36), 3) := by decide +kernel
theorem d_Y_isRest_44 : decode (mCd M_Y_isRest) 44 = .ok (.iload_n 3, 1) := by decide +kernel
theorem d_Y_isRest_45 : decode (mCd M_Y_isRest) 45 = .ok (.ireturn, 1) := by decide +kernel
theorem d_Y_rests_0 : decode (mCd M_Y_rests) 0 = .ok (.aload_n 0, 1) := by decide +kernel
theorem d_Y_rests_1 : decode (mCd M_Y_rests) 1 = .ok (.iconst 0, 1) := by decide +kernel
theorem d_Y_rests_2 : decode (mCd M_Y_rests) 2 = .ok (.putfield 3, 3) := by decide +kernel
theorem d_Y_rests_5 : decode (mCd M_Y_rests) 5 = .ok (.iload_n 1, 1) := by decide +kernel
theorem d_Y_rests_6 : decode (mCd M_Y_rests) 6 = .ok (.i2l, 1) := by decide +kernel
theorem d_Y_rests_7 : decode (mCd M_Y_rests) 7 = .ok (.lconst 0, 1) := by decide +kernel
theorem d_Y_rests_8 : decode (mCd M_Y_rests) 8 = .ok (.ldc2_w 422, 3) := by decide +kernel
theorem d_Y_rests_11 : decode (mCd M_Y_rests) 11 = .ok (.invokestatic 142, 3) := by decide +kernel
theorem d_Y_rests_14 : decode (mCd M_Y_rests) 14 = .ok (.ifCond .ne 5, 3) := by decide +kernel
theorem d_Y_rests_17 : decode (mCd M_Y_rests) 17 = .ok (.iconst (-1), 1) := by decide +kernel
theorem d_Y_rests_18 : decode (mCd M_Y_rests) 18 = .ok (.ireturn, 1) := by decide +kernel
theorem d_Y_rests_19 : decode (mCd M_Y_rests) 19 = .ok (.iconst 0, 1) := by decide +kernel
theorem d_Y_rests_20 : decode (mCd M_Y_rests) 20 = .ok (.istore_n 2, 1) := by decide +kernel
theorem d_Y_rests_21 : decode (mCd M_Y_rests) 21 = .ok (.aload_n 0, 1) := by decide +kernel
theorem d_Y_rests_22 : decode (mCd M_Y_rests) 22 = .ok (.iconst 0, 1) := by decide +kernel
theorem d_Y_rests_23 : decode (mCd M_Y_rests) 23 = .ok (.putfield 15, 3) := by decide +kernel
theorem d_Y_rests_26 : decode (mCd M_Y_rests) 26 = .ok (.iconst 0, 1) := by decide +kernel
theorem d_Y_rests_27 : decode (mCd M_Y_rests) 27 = .ok (.istore_n 3, 1) := by decide +kernel
theorem d_Y_rests_28 : decode (mCd M_Y_rests) 28 = .ok (.iload_n 3, 1) := by decide +kernel
theorem d_Y_rests_29 : decode (mCd M_Y_rests) 29 = .ok (.bipush 9, 2) := by decide +kernel
theorem d_Y_rests_31 : decode (mCd M_Y_rests) 31 = .ok (.if_icmp .gt 65, 3) := by decide +kernel
theorem d_Y_rests_34 : decode (mCd M_Y_rests) 34 = .ok (.iconst 0, 1) := by decide +kernel
theorem d_Y_rests_35 : decode (mCd M_Y_rests) 35 = .ok (.istore 4, 2) := by decide +kernel
theorem d_Y_rests_37 : decode (mCd M_Y_rests) 37 = .ok (.iload 4, 2) := by decide +kernel
theorem d_Y_rests_39 : decode (mCd M_Y_rests) 39 = .ok (.bipush 9, 2) := by decide +kernel
theorem d_Y_rests_41 : decode (mCd M_Y_rests) 41 = .ok (.if_icmp .gt 49, 3) := by decide +kernel
theorem d_Y_rests_44 : decode (mCd M_Y_rests) 44 = .ok (.iload_n 3, 1) := by decide +kernel
theorem d_Y_rests_45 : decode (mCd M_Y_rests) 45 = .ok (.iload 4, 2) := by decide +kernel
theorem d_Y_rests_47 : decode (mCd M_Y_rests) 47 = .ok (.iload_n 1, 1) := by decide +kernel
theorem d_Y_rests_48 : decode (mCd M_Y_rests) 48 = .ok (.invokestatic 468, 3) := by decide +kernel
theorem d_Y_rests_51 : decode (mCd M_Y_rests) 51 = .ok (.ifCond .eq 33, 3) := by decide +kernel
theorem d_Y_rests_54 : decode (mCd M_Y_rests) 54 = .ok (.iload 4, 2) := by decide +kernel
theorem d_Y_rests_56 : decode (mCd M_Y_rests) 56 = .ok (.iload_n 3, 1) := by decide +kernel
theorem d_Y_rests_57 : decode (mCd M_Y_rests) 57 = .ok (.iload_n 1, 1) := by decide +kernel
theorem d_Y_rests_58 : decode (mCd M_Y_rests) 58 = .ok (.invokestatic 468, 3) := by decide +kernel
theorem d_Y_rests_61 : decode (mCd M_Y_rests) 61 = .ok (.ifCond .eq 23, 3) := by decide +kernel
theorem d_Y_rests_64 : decode (mCd M_Y_rests) 64 = .ok (.iload_n 2, 1) := by decide +kernel
theorem d_Y_rests_65 : decode (mCd M_Y_rests) 65 = .ok (.ifCond .ne 16, 3) := by decide +kernel
theorem d_Y_rests_68 : decode (mCd M_Y_rests) 68 = .ok (.aload_n 0, 1) := by decide +kernel
theorem d_Y_rests_69 : decode (mCd M_Y_rests) 69 = .ok (.iload_n 3, 1) := by decide +kernel
theorem d_Y_rests_70 : decode (mCd M_Y_rests) 70 = .ok (.i2l, 1) := by decide +kernel
theorem d_Y_rests_71 : decode (mCd M_Y_rests) 71 = .ok (.invokevirtual 18, 3) := by decide +kernel
theorem d_Y_rests_74 : decode (mCd M_Y_rests) 74 = .ok (.aload_n 0, 1) := by decide +kernel
theorem d_Y_rests_75 : decode (mCd M_Y_rests) 75 = .ok (.iload 4, 2) := by decide +kernel
theorem d_Y_rests_77 : decode (mCd M_Y_rests) 77 = .ok (.i2l, 1) := by decide +kernel
theorem d_Y_rests_78 : decode (mCd M_Y_rests) 78 = .ok (.invokevirtual 18, 3) := by decide +kernel
theorem d_Y_rests_81 : decode (mCd M_Y_rests) 81 = .ok (.iinc 2 1, 3) := by decide +kernel
theorem d_Y_rests_84 : decode (mCd M_Y_rests) 84 = .ok (.iinc 4 1, 3) := by decide +kernel
theorem d_Y_rests_87 : decode (mCd M_Y_rests) 87 = .ok (.goto (-50), 3) := by decide +kernel
theorem d_Y_rests_90 : decode (mCd M_Y_rests) 90 = .ok (.iinc 3 1, 3) := by decide +kernel
theorem d_Y_rests_93 : decode (mCd M_Y_rests) 93 = .ok (.goto (-65), 3) := by decide +kernel
theorem d_Y_rests_96 : decode (mCd M_Y_rests) 96 = .ok (.iload_n 2, 1) := by decide +kernel
theorem d_Y_rests_97 : decode (mCd M_Y_rests) 97 = .ok (.ireturn, 1) := by decide +kernel
theorem d_Y_draws_0 : decode (mCd M_Y_draws) 0 = .ok (.aload_n 0, 1) := by decide +kernel
theorem d_Y_draws_1 : decode (mCd M_Y_draws) 1 = .ok (.aload_n 0, 1) := by decide +kernel
theorem d_Y_draws_2 : decode (mCd M_Y_draws) 2 = .ok (.getfield 472, 3) := by decide +kernel
theorem d_Y_draws_5 : decode (mCd M_Y_draws) 5 = .ok (.ldc_w 475, 3) := by decide +kernel
theorem d_Y_draws_8 : decode (mCd M_Y_draws) 8 = .ok (.imul, 1) := by decide +kernel
theorem d_Y_draws_9 : decode (mCd M_Y_draws) 9 = .ok (.sipush 12345, 3) := by decide +kernel
theorem d_Y_draws_12 : decode (mCd M_Y_draws) 12 = .ok (.iadd, 1) := by decide +kernel
theorem d_Y_draws_13 : decode (mCd M_Y_draws) 13 = .ok (.putfield 472, 3) := by decide +kernel
theorem d_Y_draws_16 : decode (mCd M_Y_draws) 16 = .ok (.aload_n 0, 1) := by decide +kernel
theorem d_Y_draws_17 : decode (mCd M_Y_draws) 17 = .ok (.getfield 472, 3) := by decide +kernel
theorem d_Y_draws_20 : decode (mCd M_Y_draws) 20 = .ok (.bipush 16, 2) := by decide +kernel
theorem d_Y_draws_22 : decode (mCd M_Y_draws) 22 = .ok (.iushr, 1) := by decide +kernel
theorem d_Y_draws_23 : decode (mCd M_Y_draws) 23 = .ok (.iload_n 1, 1) := by decide +kernel
theorem d_Y_draws_24 : decode (mCd M_Y_draws) 24 = .ok (.irem, 1) := by decide +kernel
theorem d_Y_draws_25 : decode (mCd M_Y_draws) 25 = .ok (.ireturn, 1) := by decide +kernel
theorem d_Y_years_0 : decode (mCd M_Y_years) 0 = .ok (.aload_n 0, 1) := by decide +kernel
theorem d_Y_years_1 : decode (mCd M_Y_years) 1 = .ok (.iconst 0, 1) := by decide +kernel
theorem d_Y_years_2 : decode (mCd M_Y_years) 2 = .ok (.putfield 3, 3) := by decide +kernel
theorem d_Y_years_5 : decode (mCd M_Y_years) 5 = .ok (.iload_n 2, 1) := by decide +kernel
theorem d_Y_years_6 : decode (mCd M_Y_years) 6 = .ok (.i2l, 1) := by decide +kernel
theorem d_Y_years_7 : decode (mCd M_Y_years) 7 = .ok (.lconst 1, 1) := by decide +kernel
theorem d_Y_years_8 : decode (mCd M_Y_years) 8 = .ok (.ldc2_w 377, 3) := by decide +kernel
theorem d_Y_years_11 : decode (mCd M_Y_years) 11 = .ok (.invokestatic 142, 3) := by decide +kernel
theorem d_Y_years_14 : decode (mCd M_Y_years) 14 = .ok (.ifCond .ne 5, 3) := by decide +kernel
theorem d_Y_years_17 : decode (mCd M_Y_years) 17 = .ok (.iconst (-1), 1) := by decide +kernel
theorem d_Y_years_18 : decode (mCd M_Y_years) 18 = .ok (.ireturn, 1) := by decide +kernel
theorem d_Y_years_19 : decode (mCd M_Y_years) 19 = .ok (.aload_n 0, 1) := by decide +kernel
theorem d_Y_years_20 : decode (mCd M_Y_years) 20 = .ok (.iload_n 1, 1) := by decide +kernel
theorem d_Y_years_21 : decode (mCd M_Y_years) 21 = .ok (.putfield 472, 3) := by decide +kernel
theorem d_Y_years_24 : decode (mCd M_Y_years) 24 = .ok (.aload_n 0, 1) := by decide +kernel
theorem d_Y_years_25 : decode (mCd M_Y_years) 25 = .ok (.invokevirtual 409, 3) := by decide +kernel
theorem d_Y_years_28 : decode (mCd M_Y_years) 28 = .ok (.aload_n 0, 1) := by decide +kernel
theorem d_Y_years_29 : decode (mCd M_Y_years) 29 = .ok (.aload_n 0, 1) := by decide +kernel
theorem d_Y_years_30 : decode (mCd M_Y_years) 30 = .ok (.getfield 54, 3) := by decide +kernel
theorem d_Y_years_33 : decode (mCd M_Y_years) 33 = .ok (.iconst 0, 1) := by decide +kernel
theorem d_Y_years_34 : decode (mCd M_Y_years) 34 = .ok (.invokevirtual 379, 3) := by decide +kernel
theorem d_Y_years_37 : decode (mCd M_Y_years) 37 = .ok (.iconst 0, 1) := by decide +kernel
theorem d_Y_years_38 : decode (mCd M_Y_years) 38 = .ok (.istore_n 3, 1) := by decide +kernel
theorem d_Y_years_39 : decode (mCd M_Y_years) 39 = .ok (.iload_n 3, 1) := by decide +kernel
theorem d_Y_years_40 : decode (mCd M_Y_years) 40 = .ok (.iload_n 2, 1) := by decide +kernel
theorem d_Y_years_41 : decode (mCd M_Y_years) 41 = .ok (.if_icmp .ge 98, 3) := by decide +kernel
theorem d_Y_years_44 : decode (mCd M_Y_years) 44 = .ok (.aload_n 0, 1) := by decide +kernel
theorem d_Y_years_45 : decode (mCd M_Y_years) 45 = .ok (.iconst 4, 1) := by decide +kernel
theorem d_Y_years_46 : decode (mCd M_Y_years) 46 = .ok (.invokevirtual 476, 3) := by decide +kernel
theorem d_Y_years_49 : decode (mCd M_Y_years) 49 = .ok (.istore 4, 2) := by decide +kernel
theorem d_Y_years_51 : decode (mCd M_Y_years) 51 = .ok (.iload 4, 2) := by decide +kernel
theorem d_Y_years_53 : decode (mCd M_Y_years) 53 = .ok (.iconst 2, 1) := by decide +kernel
theorem d_Y_years_54 : decode (mCd M_Y_years) 54 = .ok (.if_icmp .ge 14, 3) := by decide +kernel
theorem d_Y_years_57 : decode (mCd M_Y_years) 57 = .ok (.aload_n 0, 1) := by decide +kernel
theorem d_Y_years_58 : decode (mCd M_Y_years) 58 = .ok (.aload_n 0, 1) := by decide +kernel
theorem d_Y_years_59 : decode (mCd M_Y_years) 59 = .ok (.getfield 54, 3) := by decide +kernel
theorem d_Y_years_62 : decode (mCd M_Y_years) 62 = .ok (.invokevirtual 362, 3) := by decide +kernel
theorem d_Y_years_65 : decode (mCd M_Y_years) 65 = .ok (.goto 68, 3) := by decide +kernel
theorem d_Y_years_68 : decode (mCd M_Y_years) 68 = .ok (.aload_n 0, 1) := by decide +kernel
theorem d_Y_years_69 : decode (mCd M_Y_years) 69 = .ok (.getfield 146, 3) := by decide +kernel
theorem d_Y_years_72 : decode (mCd M_Y_years) 72 = .ok (.ifCond .le 61, 3) := by decide +kernel
theorem d_Y_years_75 : decode (mCd M_Y_years) 75 = .ok (.aload_n 0, 1) := by decide +kernel
theorem d_Y_years_76 : decode (mCd M_Y_years) 76 = .ok (.aload_n 0, 1) := by decide +kernel
theorem d_Y_years_77 : decode (mCd M_Y_years) 77 = .ok (.getfield 146, 3) := by decide +kernel
theorem d_Y_years_80 : decode (mCd M_Y_years) 80 = .ok (.invokevirtual 476, 3) := by decide +kernel
theorem d_Y_years_83 : decode (mCd M_Y_years) 83 = .ok (.istore 5, 2) := by decide +kernel
theorem d_Y_years_85 : decode (mCd M_Y_years) 85 = .ok (.iload 4, 2) := by decide +kernel
theorem d_Y_years_87 : decode (mCd M_Y_years) 87 = .ok (.iconst 2, 1) := by decide +kernel
theorem d_Y_years_88 : decode (mCd M_Y_years) 88 = .ok (.if_icmp .ne 34, 3) := by decide +kernel
theorem d_Y_years_91 : decode (mCd M_Y_years) 91 = .ok (.aload_n 0, 1) := by decide +kernel
theorem d_Y_years_92 : decode (mCd M_Y_years) 92 = .ok (.aload_n 0, 1) := by decide +kernel
theorem d_Y_years_93 : decode (mCd M_Y_years) 93 = .ok (.invokevirtual 138, 3) := by decide +kernel
theorem d_Y_years_96 : decode (mCd M_Y_years) 96 = .ok (.invokevirtual 476, 3) := by decide +kernel
theorem d_Y_years_99 : decode (mCd M_Y_years) 99 = .ok (.istore 6, 2) := by decide +kernel
theorem d_Y_years_101 : decode (mCd M_Y_years) 101 = .ok (.aload_n 0, 1) := by decide +kernel
theorem d_Y_years_102 : decode (mCd M_Y_years) 102 = .ok (.aload_n 0, 1) := by decide +kernel
theorem d_Y_years_103 : decode (mCd M_Y_years) 103 = .ok (.getfield 54, 3) := by decide +kernel
theorem d_Y_years_106 : decode (mCd M_Y_years) 106 = .ok (.iload 5, 2) := by decide +kernel
theorem d_Y_years_108 : decode (mCd M_Y_years) 108 = .ok (.iload 6, 2) := by decide +kernel
theorem d_Y_years_110 : decode (mCd M_Y_years) 110 = .ok (.aload_n 0, 1) := by decide +kernel
theorem d_Y_years_111 : decode (mCd M_Y_years) 111 = .ok (.iconst 4, 1) := by decide +kernel
theorem d_Y_years_112 : decode (mCd M_Y_years) 112 = .ok (.invokevirtual 476, 3) := by decide +kernel
theorem d_Y_years_115 : decode (mCd M_Y_years) 115 = .ok (.invokevirtual 382, 3) := by decide +kernel
theorem d_Y_years_118 : decode (mCd M_Y_years) 118 = .ok (.pop, 1) := by decide +kernel
theorem d_Y_years_119 : decode (mCd M_Y_years) 119 = .ok (.goto 14, 3) := by decide +kernel
theorem d_Y_years_122 : decode (mCd M_Y_years) 122 = .ok (.aload_n 0, 1) := by decide +kernel
theorem d_Y_years_123 : decode (mCd M_Y_years) 123 = .ok (.aload_n 0, 1) := by decide +kernel
theorem d_Y_years_124 : decode (mCd M_Y_years) 124 = .ok (.getfield 54, 3) := by decide +kernel
theorem d_Y_years_127 : decode (mCd M_Y_years) 127 = .ok (.iload 5, 2) := by decide +kernel
theorem d_Y_years_129 : decode (mCd M_Y_years) 129 = .ok (.invokevirtual 392, 3) := by decide +kernel
theorem d_Y_years_132 : decode (mCd M_Y_years) 132 = .ok (.pop, 1) := by decide +kernel
theorem d_Y_years_133 : decode (mCd M_Y_years) 133 = .ok (.iinc 3 1, 3) := by decide +kernel
theorem d_Y_years_136 : decode (mCd M_Y_years) 136 = .ok (.goto (-97), 3) := by decide +kernel
theorem d_Y_years_139 : decode (mCd M_Y_years) 139 = .ok (.aload_n 0, 1) := by decide +kernel
theorem d_Y_years_140 : decode (mCd M_Y_years) 140 = .ok (.iconst 0, 1) := by decide +kernel
theorem d_Y_years_141 : decode (mCd M_Y_years) 141 = .ok (.putfield 15, 3) := by decide +kernel
theorem d_Y_years_144 : decode (mCd M_Y_years) 144 = .ok (.aload_n 0, 1) := by decide +kernel
theorem d_Y_years_145 : decode (mCd M_Y_years) 145 = .ok (.aload_n 0, 1) := by decide +kernel
theorem d_Y_years_146 : decode (mCd M_Y_years) 146 = .ok (.getfield 346, 3) := by decide +kernel
theorem d_Y_years_149 : decode (mCd M_Y_years) 149 = .ok (.i2l, 1) := by decide +kernel
theorem d_Y_years_150 : decode (mCd M_Y_years) 150 = .ok (.invokevirtual 18, 3) := by decide +kernel
theorem d_Y_years_153 : decode (mCd M_Y_years) 153 = .ok (.aload_n 0, 1) := by decide +kernel
theorem d_Y_years_154 : decode (mCd M_Y_years) 154 = .ok (.aload_n 0, 1) := by decide +kernel
theorem d_Y_years_155 : decode (mCd M_Y_years) 155 = .ok (.getfield 349, 3) := by decide +kernel
theorem d_Y_years_158 : decode (mCd M_Y_years) 158 = .ok (.i2l, 1) := by decide +kernel
theorem d_Y_years_159 : decode (mCd M_Y_years) 159 = .ok (.invokevirtual 18, 3) := by decide +kernel
theorem d_Y_years_162 : decode (mCd M_Y_years) 162 = .ok (.aload_n 0, 1) := by decide +kernel
theorem d_Y_years_163 : decode (mCd M_Y_years) 163 = .ok (.getfield 54, 3) := by decide +kernel
theorem d_Y_years_166 : decode (mCd M_Y_years) 166 = .ok (.iconst 0, 1) := by decide +kernel
theorem d_Y_years_167 : decode (mCd M_Y_years) 167 = .ok (.iaload, 1) := by decide +kernel
theorem d_Y_years_168 : decode (mCd M_Y_years) 168 = .ok (.ireturn, 1) := by decide +kernel
theorem d_Y_keep_0 : decode (mCd M_Y_keep) 0 = .ok (.aload_n 0, 1) := by decide +kernel
theorem d_Y_keep_1 : decode (mCd M_Y_keep) 1 = .ok (.iconst 0, 1) := by decide +kernel
theorem d_Y_keep_2 : decode (mCd M_Y_keep) 2 = .ok (.putfield 3, 3) := by decide +kernel
theorem d_Y_keep_5 : decode (mCd M_Y_keep) 5 = .ok (.iload_n 1, 1) := by decide +kernel
theorem d_Y_keep_6 : decode (mCd M_Y_keep) 6 = .ok (.i2l, 1) := by decide +kernel
theorem d_Y_keep_7 : decode (mCd M_Y_keep) 7 = .ok (.lconst 0, 1) := by decide +kernel
theorem d_Y_keep_8 : decode (mCd M_Y_keep) 8 = .ok (.ldc2_w 342, 3) := by decide +kernel
theorem d_Y_keep_11 : decode (mCd M_Y_keep) 11 = .ok (.invokestatic 142, 3) := by decide +kernel
theorem d_Y_keep_14 : decode (mCd M_Y_keep) 14 = .ok (.ifCond .ne 5, 3) := by decide +kernel
theorem d_Y_keep_17 : decode (mCd M_Y_keep) 17 = .ok (.iconst 0, 1) := by decide +kernel
theorem d_Y_keep_18 : decode (mCd M_Y_keep) 18 = .ok (.ireturn, 1) := by decide +kernel
theorem d_Y_keep_19 : decode (mCd M_Y_keep) 19 = .ok (.aload_n 0, 1) := by decide +kernel
theorem d_Y_keep_20 : decode (mCd M_Y_keep) 20 = .ok (.getfield 129, 3) := by decide +kernel
theorem d_Y_keep_23 : decode (mCd M_Y_keep) 23 = .ok (.iload_n 1, 1) := by decide +kernel
theorem d_Y_keep_24 : decode (mCd M_Y_keep) 24 = .ok (.iconst 1, 1) := by decide +kernel
theorem d_Y_keep_25 : decode (mCd M_Y_keep) 25 = .ok (.bastore, 1) := by decide +kernel
theorem d_Y_keep_26 : decode (mCd M_Y_keep) 26 = .ok (.aload_n 0, 1) := by decide +kernel
theorem d_Y_keep_27 : decode (mCd M_Y_keep) 27 = .ok (.getfield 132, 3) := by decide +kernel
theorem d_Y_keep_30 : decode (mCd M_Y_keep) 30 = .ok (.iload_n 1, 1) := by decide +kernel
theorem d_Y_keep_31 : decode (mCd M_Y_keep) 31 = .ok (.aload_n 0, 1) := by decide +kernel
theorem d_Y_keep_32 : decode (mCd M_Y_keep) 32 = .ok (.getfield 207, 3) := by decide +kernel
theorem d_Y_keep_35 : decode (mCd M_Y_keep) 35 = .ok (.iastore, 1) := by decide +kernel
theorem d_Y_keep_36 : decode (mCd M_Y_keep) 36 = .ok (.iconst 0, 1) := by decide +kernel
theorem d_Y_keep_37 : decode (mCd M_Y_keep) 37 = .ok (.istore_n 2, 1) := by decide +kernel
theorem d_Y_keep_38 : decode (mCd M_Y_keep) 38 = .ok (.iload_n 2, 1) := by decide +kernel
theorem d_Y_keep_39 : decode (mCd M_Y_keep) 39 = .ok (.bipush 38, 2) := by decide +kernel
theorem d_Y_keep_41 : decode (mCd M_Y_keep) 41 = .ok (.if_icmp .ge 26, 3) := by decide +kernel
theorem d_Y_keep_44 : decode (mCd M_Y_keep) 44 = .ok (.aload_n 0, 1) := by decide +kernel
theorem d_Y_keep_45 : decode (mCd M_Y_keep) 45 = .ok (.getfield 135, 3) := by decide +kernel
theorem d_Y_keep_48 : decode (mCd M_Y_keep) 48 = .ok (.bipush 38, 2) := by decide +kernel
theorem d_Y_keep_50 : decode (mCd M_Y_keep) 50 = .ok (.iload_n 1, 1) := by decide +kernel
theorem d_Y_keep_51 : decode (mCd M_Y_keep) 51 = .ok (.imul, 1) := by decide +kernel
theorem d_Y_keep_52 : decode (mCd M_Y_keep) 52 = .ok (.iload_n 2, 1) := by decide +kernel
theorem d_Y_keep_53 : decode (mCd M_Y_keep) 53 = .ok (.iadd, 1) := by decide +kernel
theorem d_Y_keep_54 : decode (mCd M_Y_keep) 54 = .ok (.aload_n 0, 1) := by decide +kernel
theorem d_Y_keep_55 : decode (mCd M_Y_keep) 55 = .ok (.getfield 51, 3) := by decide +kernel
theorem d_Y_keep_58 : decode (mCd M_Y_keep) 58 = .ok (.iload_n 2, 1) := by decide +kernel
theorem d_Y_keep_59 : decode (mCd M_Y_keep) 59 = .ok (.iaload, 1) := by decide +kernel
theorem d_Y_keep_60 : decode (mCd M_Y_keep) 60 = .ok (.iastore, 1) := by decide +kernel
theorem d_Y_keep_61 : decode (mCd M_Y_keep) 61 = .ok (.iinc 2 1, 3) := by decide +kernel
theorem d_Y_keep_64 : decode (mCd M_Y_keep) 64 = .ok (.goto (-26), 3) := by decide +kernel
theorem d_Y_keep_67 : decode (mCd M_Y_keep) 67 = .ok (.iconst 1, 1) := by decide +kernel
theorem d_Y_keep_68 : decode (mCd M_Y_keep) 68 = .ok (.ireturn, 1) := by decide +kernel
theorem d_Y_again_0 : decode (mCd M_Y_again) 0 = .ok (.aload_n 0, 1) := by decide +kernel
theorem d_Y_again_1 : decode (mCd M_Y_again) 1 = .ok (.iconst 0, 1) := by decide +kernel
theorem d_Y_again_2 : decode (mCd M_Y_again) 2 = .ok (.putfield 3, 3) := by decide +kernel
theorem d_Y_again_5 : decode (mCd M_Y_again) 5 = .ok (.iload_n 1, 1) := by decide +kernel
theorem d_Y_again_6 : decode (mCd M_Y_again) 6 = .ok (.i2l, 1) := by decide +kernel
theorem d_Y_again_7 : decode (mCd M_Y_again) 7 = .ok (.lconst 0, 1) := by decide +kernel
theorem d_Y_again_8 : decode (mCd M_Y_again) 8 = .ok (.ldc2_w 342, 3) := by decide +kernel
theorem d_Y_again_11 : decode (mCd M_Y_again) 11 = .ok (.invokestatic 142, 3) := by decide +kernel
theorem d_Y_again_14 : decode (mCd M_Y_again) 14 = .ok (.ifCond .eq 25, 3) := by decide +kernel
theorem d_Y_again_17 : decode (mCd M_Y_again) 17 = .ok (.aload_n 0, 1) := by decide +kernel
theorem d_Y_again_18 : decode (mCd M_Y_again) 18 = .ok (.getfield 129, 3) := by decide +kernel
theorem d_Y_again_21 : decode (mCd M_Y_again) 21 = .ok (.iload_n 1, 1) := by decide +kernel
theorem d_Y_again_22 : decode (mCd M_Y_again) 22 = .ok (.baload, 1) := by decide +kernel
theorem d_Y_again_23 : decode (mCd M_Y_again) 23 = .ok (.ifCond .eq 16, 3) := by decide +kernel
theorem d_Y_again_26 : decode (mCd M_Y_again) 26 = .ok (.aload_n 0, 1) := by decide +kernel
theorem d_Y_again_27 : decode (mCd M_Y_again) 27 = .ok (.getfield 132, 3) := by decide +kernel
theorem d_Y_again_30 : decode (mCd M_Y_again) 30 = .ok (.iload_n 1, 1) := by decide +kernel
theorem d_Y_again_31 : decode (mCd M_Y_again) 31 = .ok (.iaload, 1) := by decide +kernel
theorem d_Y_again_32 : decode (mCd M_Y_again) 32 = .ok (.aload_n 0, 1) := by decide +kernel
theorem d_Y_again_33 : decode (mCd M_Y_again) 33 = .ok (.getfield 207, 3) := by decide +kernel
theorem d_Y_again_36 : decode (mCd M_Y_again) 36 = .ok (.if_icmp .eq 5, 3) := by decide +kernel
theorem d_Y_again_39 : decode (mCd M_Y_again) 39 = .ok (.iconst 0, 1) := by decide +kernel
theorem d_Y_again_40 : decode (mCd M_Y_again) 40 = .ok (.ireturn, 1) := by decide +kernel
theorem d_Y_again_41 : decode (mCd M_Y_again) 41 = .ok (.iconst 0, 1) := by decide +kernel
theorem d_Y_again_42 : decode (mCd M_Y_again) 42 = .ok (.istore_n 2, 1) := by decide +kernel
theorem d_Y_again_43 : decode (mCd M_Y_again) 43 = .ok (.iload_n 2, 1) := by decide +kernel
theorem d_Y_again_44 : decode (mCd M_Y_again) 44 = .ok (.bipush 38, 2) := by decide +kernel
theorem d_Y_again_46 : decode (mCd M_Y_again) 46 = .ok (.if_icmp .ge 26, 3) := by decide +kernel
theorem d_Y_again_49 : decode (mCd M_Y_again) 49 = .ok (.aload_n 0, 1) := by decide +kernel
theorem d_Y_again_50 : decode (mCd M_Y_again) 50 = .ok (.getfield 51, 3) := by decide +kernel
theorem d_Y_again_53 : decode (mCd M_Y_again) 53 = .ok (.iload_n 2, 1) := by decide +kernel
theorem d_Y_again_54 : decode (mCd M_Y_again) 54 = .ok (.aload_n 0, 1) := by decide +kernel
theorem d_Y_again_55 : decode (mCd M_Y_again) 55 = .ok (.getfield 135, 3) := by decide +kernel
theorem d_Y_again_58 : decode (mCd M_Y_again) 58 = .ok (.bipush 38, 2) := by decide +kernel
theorem d_Y_again_60 : decode (mCd M_Y_again) 60 = .ok (.iload_n 1, 1) := by decide +kernel
theorem d_Y_again_61 : decode (mCd M_Y_again) 61 = .ok (.imul, 1) := by decide +kernel
theorem d_Y_again_62 : decode (mCd M_Y_again) 62 = .ok (.iload_n 2, 1) := by decide +kernel
theorem d_Y_again_63 : decode (mCd M_Y_again) 63 = .ok (.iadd, 1) := by decide +kernel
theorem d_Y_again_64 : decode (mCd M_Y_again) 64 = .ok (.iaload, 1) := by decide +kernel
theorem d_Y_again_65 : decode (mCd M_Y_again) 65 = .ok (.iastore, 1) := by decide +kernel
theorem d_Y_again_66 : decode (mCd M_Y_again) 66 = .ok (.iinc 2 1, 3) := by decide +kernel
theorem d_Y_again_69 : decode (mCd M_Y_again) 69 = .ok (.goto (-26), 3) := by decide +kernel
theorem d_Y_again_72 : decode (mCd M_Y_again) 72 = .ok (.aload_n 0, 1) := by decide +kernel
theorem d_Y_again_73 : decode (mCd M_Y_again) 73 = .ok (.iconst 0, 1) := by decide +kernel
theorem d_Y_again_74 : decode (mCd M_Y_again) 74 = .ok (.putfield 204, 3) := by decide +kernel
theorem d_Y_again_77 : decode (mCd M_Y_again) 77 = .ok (.iconst 1, 1) := by decide +kernel
theorem d_Y_again_78 : decode (mCd M_Y_again) 78 = .ok (.ireturn, 1) := by decide +kernel
theorem d_Y_count_0 : decode (mCd M_Y_count) 0 = .ok (.aload_n 0, 1) := by decide +kernel
theorem d_Y_count_1 : decode (mCd M_Y_count) 1 = .ok (.iconst 0, 1) := by decide +kernel
theorem d_Y_count_2 : decode (mCd M_Y_count) 2 = .ok (.putfield 3, 3) := by decide +kernel
theorem d_Y_count_5 : decode (mCd M_Y_count) 5 = .ok (.iload_n 1, 1) := by decide +kernel
theorem d_Y_count_6 : decode (mCd M_Y_count) 6 = .ok (.tableswitch 164 0 13 #[70, 75, 80, 85, 92, 100, 108, 116, 124, 136, 144, 149, 154, 159], 70) := by decide +kernel
theorem d_Y_count_76 : decode (mCd M_Y_count) 76 = .ok (.aload_n 0, 1) := by decide +kernel
theorem d_Y_count_77 : decode (mCd M_Y_count) 77 = .ok (.getfield 28, 3) := by decide +kernel
theorem d_Y_count_80 : decode (mCd M_Y_count) 80 = .ok (.ireturn, 1) := by decide +kernel
theorem d_Y_count_81 : decode (mCd M_Y_count) 81 = .ok (.aload_n 0, 1) := by decide +kernel
theorem d_Y_count_82 : decode (mCd M_Y_count) 82 = .ok (.getfield 31, 3) := by decide +kernel
theorem d_Y_count_85 : decode (mCd M_Y_count) 85 = .ok (.ireturn, 1) := by decide +kernel
theorem d_Y_count_86 : decode (mCd M_Y_count) 86 = .ok (.aload_n 0, 1) := by decide +kernel
theorem d_Y_count_87 : decode (mCd M_Y_count) 87 = .ok (.getfield 146, 3) := by decide +kernel
theorem d_Y_count_90 : decode (mCd M_Y_count) 90 = .ok (.ireturn, 1) := by decide +kernel
theorem d_Y_count_91 : decode (mCd M_Y_count) 91 = .ok (.aload_n 0, 1) := by decide +kernel
theorem d_Y_count_92 : decode (mCd M_Y_count) 92 = .ok (.getfield 51, 3) := by decide +kernel
theorem d_Y_count_95 : decode (mCd M_Y_count) 95 = .ok (.iconst 0, 1) := by decide +kernel
theorem d_Y_count_96 : decode (mCd M_Y_count) 96 = .ok (.iaload, 1) := by decide +kernel
theorem d_Y_count_97 : decode (mCd M_Y_count) 97 = .ok (.ireturn, 1) := by decide +kernel
theorem d_Y_count_98 : decode (mCd M_Y_count) 98 = .ok (.aload_n 0, 1) := by decide +kernel
theorem d_Y_count_99 : decode (mCd M_Y_count) 99 = .ok (.getfield 51, 3) := by decide +kernel
theorem d_Y_count_102 : decode (mCd M_Y_count) 102 = .ok (.bipush 34, 2) := by decide +kernel
theorem d_Y_count_104 : decode (mCd M_Y_count) 104 = .ok (.iaload, 1) := by decide +kernel
theorem d_Y_count_105 : decode (mCd M_Y_count) 105 = .ok (.ireturn, 1) := by decide +kernel
theorem d_Y_count_106 : decode (mCd M_Y_count) 106 = .ok (.aload_n 0, 1) := by decide +kernel
theorem d_Y_count_107 : decode (mCd M_Y_count) 107 = .ok (.getfield 51, 3) := by decide +kernel
theorem d_Y_count_110 : decode (mCd M_Y_count) 110 = .ok (.bipush 35, 2) := by decide +kernel
theorem d_Y_count_112 : decode (mCd M_Y_count) 112 = .ok (.iaload, 1) := by decide +kernel
theorem d_Y_count_113 : decode (mCd M_Y_count) 113 = .ok (.ireturn, 1) := by decide +kernel
theorem d_Y_count_114 : decode (mCd M_Y_count) 114 = .ok (.aload_n 0, 1) := by decide +kernel
theorem d_Y_count_115 : decode (mCd M_Y_count) 115 = .ok (.getfield 51, 3) := by decide +kernel
theorem d_Y_count_118 : decode (mCd M_Y_count) 118 = .ok (.bipush 36, 2) := by decide +kernel
theorem d_Y_count_120 : decode (mCd M_Y_count) 120 = .ok (.iaload, 1) := by decide +kernel
theorem d_Y_count_121 : decode (mCd M_Y_count) 121 = .ok (.ireturn, 1) := by decide +kernel
theorem d_Y_count_122 : decode (mCd M_Y_count) 122 = .ok (.aload_n 0, 1) := by decide +kernel
theorem d_Y_count_123 : decode (mCd M_Y_count) 123 = .ok (.getfield 51, 3) := by decide +kernel
theorem d_Y_count_126 : decode (mCd M_Y_count) 126 = .ok (.bipush 37, 2) := by decide +kernel
theorem d_Y_count_128 : decode (mCd M_Y_count) 128 = .ok (.iaload, 1) := by decide +kernel
theorem d_Y_count_129 : decode (mCd M_Y_count) 129 = .ok (.ireturn, 1) := by decide +kernel
theorem d_Y_count_130 : decode (mCd M_Y_count) 130 = .ok (.aload_n 0, 1) := by decide +kernel
theorem d_Y_count_131 : decode (mCd M_Y_count) 131 = .ok (.aload_n 0, 1) := by decide +kernel
theorem d_Y_count_132 : decode (mCd M_Y_count) 132 = .ok (.getfield 51, 3) := by decide +kernel
theorem d_Y_count_135 : decode (mCd M_Y_count) 135 = .ok (.bipush 37, 2) := by decide +kernel
theorem d_Y_count_137 : decode (mCd M_Y_count) 137 = .ok (.iaload, 1) := by decide +kernel
theorem d_Y_count_138 : decode (mCd M_Y_count) 138 = .ok (.invokevirtual 284, 3) := by decide +kernel
theorem d_Y_count_141 : decode (mCd M_Y_count) 141 = .ok (.ireturn, 1) := by decide +kernel
theorem d_Y_count_142 : decode (mCd M_Y_count) 142 = .ok (.aload_n 0, 1) := by decide +kernel
theorem d_Y_count_143 : decode (mCd M_Y_count) 143 = .ok (.getfield 51, 3) := by decide +kernel
theorem d_Y_count_146 : decode (mCd M_Y_count) 146 = .ok (.bipush 33, 2) := by decide +kernel
theorem d_Y_count_148 : decode (mCd M_Y_count) 148 = .ok (.iaload, 1) := by decide +kernel
theorem d_Y_count_149 : decode (mCd M_Y_count) 149 = .ok (.ireturn, 1) := by decide +kernel
theorem d_Y_count_150 : decode (mCd M_Y_count) 150 = .ok (.aload_n 0, 1) := by decide +kernel
theorem d_Y_count_151 : decode (mCd M_Y_count) 151 = .ok (.getfield 210, 3) := by decide +kernel
theorem d_Y_count_154 : decode (mCd M_Y_count) 154 = .ok (.ireturn, 1) := by decide +kernel
theorem d_Y_count_155 : decode (mCd M_Y_count) 155 = .ok (.aload_n 0, 1) := by decide +kernel
theorem d_Y_count_156 : decode (mCd M_Y_count) 156 = .ok (.getfield 204, 3) := by decide +kernel
theorem d_Y_count_159 : decode (mCd M_Y_count) 159 = .ok (.ireturn, 1) := by decide +kernel
theorem d_Y_count_160 : decode (mCd M_Y_count) 160 = .ok (.aload_n 0, 1) := by decide +kernel
theorem d_Y_count_161 : decode (mCd M_Y_count) 161 = .ok (.getfield 15, 3) := by decide +kernel
theorem d_Y_count_164 : decode (mCd M_Y_count) 164 = .ok (.ireturn, 1) := by decide +kernel
theorem d_Y_count_165 : decode (mCd M_Y_count) 165 = .ok (.aload_n 0, 1) := by decide +kernel
theorem d_Y_count_166 : decode (mCd M_Y_count) 166 = .ok (.getfield 155, 3) := by decide +kernel
theorem d_Y_count_169 : decode (mCd M_Y_count) 169 = .ok (.ireturn, 1) := by decide +kernel
theorem d_Y_count_170 : decode (mCd M_Y_count) 170 = .ok (.bipush (-100), 2) := by decide +kernel
theorem d_Y_count_172 : decode (mCd M_Y_count) 172 = .ok (.ireturn, 1) := by decide +kernel
theorem d_Y_row_0 : decode (mCd M_Y_row) 0 = .ok (.aload_n 0, 1) := by decide +kernel
theorem d_Y_row_1 : decode (mCd M_Y_row) 1 = .ok (.iconst 0, 1) := by decide +kernel
theorem d_Y_row_2 : decode (mCd M_Y_row) 2 = .ok (.putfield 3, 3) := by decide +kernel
theorem d_Y_row_5 : decode (mCd M_Y_row) 5 = .ok (.iload_n 1, 1) := by decide +kernel
theorem d_Y_row_6 : decode (mCd M_Y_row) 6 = .ok (.i2l, 1) := by decide +kernel
theorem d_Y_row_7 : decode (mCd M_Y_row) 7 = .ok (.lconst 0, 1) := by decide +kernel
theorem d_Y_row_8 : decode (mCd M_Y_row) 8 = .ok (.aload_n 0, 1) := by decide +kernel
theorem d_Y_row_9 : decode (mCd M_Y_row) 9 = .ok (.getfield 15, 3) := by decide +kernel
theorem d_Y_row_12 : decode (mCd M_Y_row) 12 = .ok (.iconst 1, 1) := by decide +kernel
theorem d_Y_row_13 : decode (mCd M_Y_row) 13 = .ok (.isub, 1) := by decide +kernel
theorem d_Y_row_14 : decode (mCd M_Y_row) 14 = .ok (.i2l, 1) := by decide +kernel
theorem d_Y_row_15 : decode (mCd M_Y_row) 15 = .ok (.invokestatic 142, 3) := by decide +kernel
theorem d_Y_row_18 : decode (mCd M_Y_row) 18 = .ok (.ifCond .ne 10, 3) := by decide +kernel
theorem d_Y_row_21 : decode (mCd M_Y_row) 21 = .ok (.aload_n 0, 1) := by decide +kernel
theorem d_Y_row_22 : decode (mCd M_Y_row) 22 = .ok (.iconst 1, 1) := by decide +kernel
theorem d_Y_row_23 : decode (mCd M_Y_row) 23 = .ok (.putfield 3, 3) := by decide +kernel
theorem d_Y_row_26 : decode (mCd M_Y_row) 26 = .ok (.lconst 0, 1) := by decide +kernel
theorem d_Y_row_27 : decode (mCd M_Y_row) 27 = .ok (.lreturn, 1) := by decide +kernel
theorem d_Y_row_28 : decode (mCd M_Y_row) 28 = .ok (.aload_n 0, 1) := by decide +kernel
theorem d_Y_row_29 : decode (mCd M_Y_row) 29 = .ok (.getfield 11, 3) := by decide +kernel
theorem d_Y_row_32 : decode (mCd M_Y_row) 32 = .ok (.iload_n 1, 1) := by decide +kernel
theorem d_Y_row_33 : decode (mCd M_Y_row) 33 = .ok (.laload, 1) := by decide +kernel
theorem d_Y_row_34 : decode (mCd M_Y_row) 34 = .ok (.lreturn, 1) := by decide +kernel
