/-! Printed by wip/whole/gen_dec.py: what each instruction is. -/
theorem d_X_owed_0 : decode (mCd M_X_owed) 0 = .ok (.aload_n 0, 1) := by decide +kernel
theorem d_X_owed_1 : decode (mCd M_X_owed) 1 = .ok (.getfield 65, 3) := by decide +kernel
theorem d_X_owed_4 : decode (mCd M_X_owed) 4 = .ok (.aload_n 0, 1) := by decide +kernel
theorem d_X_owed_5 : decode (mCd M_X_owed) 5 = .ok (.getfield 33, 3) := by decide +kernel
theorem d_X_owed_8 : decode (mCd M_X_owed) 8 = .ok (.getfield 131, 3) := by decide +kernel
theorem d_X_owed_11 : decode (mCd M_X_owed) 11 = .ok (.invokevirtual 329, 3) := by decide +kernel
theorem d_X_owed_14 : decode (mCd M_X_owed) 14 = .ok (.istore_n 1, 1) := by decide +kernel
theorem d_X_owed_15 : decode (mCd M_X_owed) 15 = .ok (.aload_n 0, 1) := by decide +kernel
theorem d_X_owed_16 : decode (mCd M_X_owed) 16 = .ok (.getfield 65, 3) := by decide +kernel
theorem d_X_owed_19 : decode (mCd M_X_owed) 19 = .ok (.iload_n 1, 1) := by decide +kernel
theorem d_X_owed_20 : decode (mCd M_X_owed) 20 = .ok (.aload_n 0, 1) := by decide +kernel
theorem d_X_owed_21 : decode (mCd M_X_owed) 21 = .ok (.getfield 33, 3) := by decide +kernel
theorem d_X_owed_24 : decode (mCd M_X_owed) 24 = .ok (.getfield 131, 3) := by decide +kernel
theorem d_X_owed_27 : decode (mCd M_X_owed) 27 = .ok (.invokevirtual 332, 3) := by decide +kernel
theorem d_X_owed_30 : decode (mCd M_X_owed) 30 = .ok (.istore_n 2, 1) := by decide +kernel
theorem d_X_owed_31 : decode (mCd M_X_owed) 31 = .ok (.aload_n 0, 1) := by decide +kernel
theorem d_X_owed_32 : decode (mCd M_X_owed) 32 = .ok (.getfield 19, 3) := by decide +kernel
theorem d_X_owed_35 : decode (mCd M_X_owed) 35 = .ok (.invokevirtual 228, 3) := by decide +kernel
theorem d_X_owed_38 : decode (mCd M_X_owed) 38 = .ok (.aload_n 0, 1) := by decide +kernel
theorem d_X_owed_39 : decode (mCd M_X_owed) 39 = .ok (.getfield 19, 3) := by decide +kernel
theorem d_X_owed_42 : decode (mCd M_X_owed) 42 = .ok (.iconst 0, 1) := by decide +kernel
theorem d_X_owed_43 : decode (mCd M_X_owed) 43 = .ok (.iload_n 2, 1) := by decide +kernel
theorem d_X_owed_44 : decode (mCd M_X_owed) 44 = .ok (.aload_n 0, 1) := by decide +kernel
theorem d_X_owed_45 : decode (mCd M_X_owed) 45 = .ok (.getfield 65, 3) := by decide +kernel
theorem d_X_owed_48 : decode (mCd M_X_owed) 48 = .ok (.getfield 295, 3) := by decide +kernel
theorem d_X_owed_51 : decode (mCd M_X_owed) 51 = .ok (.isub, 1) := by decide +kernel
theorem d_X_owed_52 : decode (mCd M_X_owed) 52 = .ok (.invokestatic 270, 3) := by decide +kernel
theorem d_X_owed_55 : decode (mCd M_X_owed) 55 = .ok (.i2l, 1) := by decide +kernel
theorem d_X_owed_56 : decode (mCd M_X_owed) 56 = .ok (.invokevirtual 234, 3) := by decide +kernel
theorem d_X_owed_59 : decode (mCd M_X_owed) 59 = .ok (.aload_n 0, 1) := by decide +kernel
theorem d_X_owed_60 : decode (mCd M_X_owed) 60 = .ok (.getfield 19, 3) := by decide +kernel
theorem d_X_owed_63 : decode (mCd M_X_owed) 63 = .ok (.iload_n 1, 1) := by decide +kernel
theorem d_X_owed_64 : decode (mCd M_X_owed) 64 = .ok (.i2l, 1) := by decide +kernel
theorem d_X_owed_65 : decode (mCd M_X_owed) 65 = .ok (.invokevirtual 234, 3) := by decide +kernel
theorem d_X_owed_68 : decode (mCd M_X_owed) 68 = .ok (.iload_n 2, 1) := by decide +kernel
theorem d_X_owed_69 : decode (mCd M_X_owed) 69 = .ok (.ireturn, 1) := by decide +kernel
theorem d_X_fates_0 : decode (mCd M_X_fates) 0 = .ok (.iload_n 1, 1) := by decide +kernel
theorem d_X_fates_1 : decode (mCd M_X_fates) 1 = .ok (.iconst 1, 1) := by decide +kernel
theorem d_X_fates_2 : decode (mCd M_X_fates) 2 = .ok (.if_icmp .lt 9, 3) := by decide +kernel
theorem d_X_fates_5 : decode (mCd M_X_fates) 5 = .ok (.iload_n 1, 1) := by decide +kernel
theorem d_X_fates_6 : decode (mCd M_X_fates) 6 = .ok (.bipush 99, 2) := by decide +kernel
theorem d_X_fates_8 : decode (mCd M_X_fates) 8 = .ok (.if_icmp .le 5, 3) := by decide +kernel
theorem d_X_fates_11 : decode (mCd M_X_fates) 11 = .ok (.iconst (-1), 1) := by decide +kernel
theorem d_X_fates_12 : decode (mCd M_X_fates) 12 = .ok (.ireturn, 1) := by decide +kernel
theorem d_X_fates_13 : decode (mCd M_X_fates) 13 = .ok (.aload_n 0, 1) := by decide +kernel
theorem d_X_fates_14 : decode (mCd M_X_fates) 14 = .ok (.getfield 72, 3) := by decide +kernel
theorem d_X_fates_17 : decode (mCd M_X_fates) 17 = .ok (.aload_n 0, 1) := by decide +kernel
theorem d_X_fates_18 : decode (mCd M_X_fates) 18 = .ok (.getfield 65, 3) := by decide +kernel
theorem d_X_fates_21 : decode (mCd M_X_fates) 21 = .ok (.invokevirtual 219, 3) := by decide +kernel
theorem d_X_fates_24 : decode (mCd M_X_fates) 24 = .ok (.aload_n 0, 1) := by decide +kernel
theorem d_X_fates_25 : decode (mCd M_X_fates) 25 = .ok (.getfield 58, 3) := by decide +kernel
theorem d_X_fates_28 : decode (mCd M_X_fates) 28 = .ok (.aload_n 0, 1) := by decide +kernel
theorem d_X_fates_29 : decode (mCd M_X_fates) 29 = .ok (.getfield 72, 3) := by decide +kernel
theorem d_X_fates_32 : decode (mCd M_X_fates) 32 = .ok (.aload_n 0, 1) := by decide +kernel
theorem d_X_fates_33 : decode (mCd M_X_fates) 33 = .ok (.getfield 105, 3) := by decide +kernel
theorem d_X_fates_36 : decode (mCd M_X_fates) 36 = .ok (.iload_n 1, 1) := by decide +kernel
theorem d_X_fates_37 : decode (mCd M_X_fates) 37 = .ok (.invokevirtual 291, 3) := by decide +kernel
theorem d_X_fates_40 : decode (mCd M_X_fates) 40 = .ok (.aload_n 0, 1) := by decide +kernel
theorem d_X_fates_41 : decode (mCd M_X_fates) 41 = .ok (.getfield 19, 3) := by decide +kernel
theorem d_X_fates_44 : decode (mCd M_X_fates) 44 = .ok (.invokevirtual 228, 3) := by decide +kernel
theorem d_X_fates_47 : decode (mCd M_X_fates) 47 = .ok (.aload_n 0, 1) := by decide +kernel
theorem d_X_fates_48 : decode (mCd M_X_fates) 48 = .ok (.getfield 19, 3) := by decide +kernel
theorem d_X_fates_51 : decode (mCd M_X_fates) 51 = .ok (.aload_n 0, 1) := by decide +kernel
theorem d_X_fates_52 : decode (mCd M_X_fates) 52 = .ok (.getfield 58, 3) := by decide +kernel
theorem d_X_fates_55 : decode (mCd M_X_fates) 55 = .ok (.getfield 335, 3) := by decide +kernel
theorem d_X_fates_58 : decode (mCd M_X_fates) 58 = .ok (.i2l, 1) := by decide +kernel
theorem d_X_fates_59 : decode (mCd M_X_fates) 59 = .ok (.invokevirtual 234, 3) := by decide +kernel
theorem d_X_fates_62 : decode (mCd M_X_fates) 62 = .ok (.aload_n 0, 1) := by decide +kernel
theorem d_X_fates_63 : decode (mCd M_X_fates) 63 = .ok (.getfield 19, 3) := by decide +kernel
theorem d_X_fates_66 : decode (mCd M_X_fates) 66 = .ok (.aload_n 0, 1) := by decide +kernel
theorem d_X_fates_67 : decode (mCd M_X_fates) 67 = .ok (.getfield 72, 3) := by decide +kernel
theorem d_X_fates_70 : decode (mCd M_X_fates) 70 = .ok (.aload_n 0, 1) := by decide +kernel
theorem d_X_fates_71 : decode (mCd M_X_fates) 71 = .ok (.getfield 33, 3) := by decide +kernel
theorem d_X_fates_74 : decode (mCd M_X_fates) 74 = .ok (.getfield 131, 3) := by decide +kernel
theorem d_X_fates_77 : decode (mCd M_X_fates) 77 = .ok (.invokevirtual 329, 3) := by decide +kernel
theorem d_X_fates_80 : decode (mCd M_X_fates) 80 = .ok (.i2l, 1) := by decide +kernel
theorem d_X_fates_81 : decode (mCd M_X_fates) 81 = .ok (.invokevirtual 234, 3) := by decide +kernel
theorem d_X_fates_84 : decode (mCd M_X_fates) 84 = .ok (.aload_n 0, 1) := by decide +kernel
theorem d_X_fates_85 : decode (mCd M_X_fates) 85 = .ok (.getfield 58, 3) := by decide +kernel
theorem d_X_fates_88 : decode (mCd M_X_fates) 88 = .ok (.getfield 338, 3) := by decide +kernel
theorem d_X_fates_91 : decode (mCd M_X_fates) 91 = .ok (.ireturn, 1) := by decide +kernel
theorem d_X_minds_0 : decode (mCd M_X_minds) 0 = .ok (.iconst 0, 1) := by decide +kernel
theorem d_X_minds_1 : decode (mCd M_X_minds) 1 = .ok (.istore_n 1, 1) := by decide +kernel
theorem d_X_minds_2 : decode (mCd M_X_minds) 2 = .ok (.iconst 0, 1) := by decide +kernel
theorem d_X_minds_3 : decode (mCd M_X_minds) 3 = .ok (.istore_n 2, 1) := by decide +kernel
theorem d_X_minds_4 : decode (mCd M_X_minds) 4 = .ok (.iconst 0, 1) := by decide +kernel
theorem d_X_minds_5 : decode (mCd M_X_minds) 5 = .ok (.istore_n 3, 1) := by decide +kernel
theorem d_X_minds_6 : decode (mCd M_X_minds) 6 = .ok (.iload_n 3, 1) := by decide +kernel
theorem d_X_minds_7 : decode (mCd M_X_minds) 7 = .ok (.aload_n 0, 1) := by decide +kernel
theorem d_X_minds_8 : decode (mCd M_X_minds) 8 = .ok (.getfield 33, 3) := by decide +kernel
theorem d_X_minds_11 : decode (mCd M_X_minds) 11 = .ok (.getfield 131, 3) := by decide +kernel
theorem d_X_minds_14 : decode (mCd M_X_minds) 14 = .ok (.if_icmp .ge 92, 3) := by decide +kernel
theorem d_X_minds_17 : decode (mCd M_X_minds) 17 = .ok (.aload_n 0, 1) := by decide +kernel
theorem d_X_minds_18 : decode (mCd M_X_minds) 18 = .ok (.getfield 65, 3) := by decide +kernel
theorem d_X_minds_21 : decode (mCd M_X_minds) 21 = .ok (.getfield 194, 3) := by decide +kernel
theorem d_X_minds_24 : decode (mCd M_X_minds) 24 = .ok (.iload_n 3, 1) := by decide +kernel
theorem d_X_minds_25 : decode (mCd M_X_minds) 25 = .ok (.iaload, 1) := by decide +kernel
theorem d_X_minds_26 : decode (mCd M_X_minds) 26 = .ok (.iconst (-1), 1) := by decide +kernel
theorem d_X_minds_27 : decode (mCd M_X_minds) 27 = .ok (.if_icmp .eq 73, 3) := by decide +kernel
theorem d_X_minds_30 : decode (mCd M_X_minds) 30 = .ok (.aload_n 0, 1) := by decide +kernel
theorem d_X_minds_31 : decode (mCd M_X_minds) 31 = .ok (.getfield 65, 3) := by decide +kernel
theorem d_X_minds_34 : decode (mCd M_X_minds) 34 = .ok (.getfield 194, 3) := by decide +kernel
theorem d_X_minds_37 : decode (mCd M_X_minds) 37 = .ok (.iload_n 3, 1) := by decide +kernel
theorem d_X_minds_38 : decode (mCd M_X_minds) 38 = .ok (.iaload, 1) := by decide +kernel
theorem d_X_minds_39 : decode (mCd M_X_minds) 39 = .ok (.aload_n 0, 1) := by decide +kernel
theorem d_X_minds_40 : decode (mCd M_X_minds) 40 = .ok (.getfield 65, 3) := by decide +kernel
theorem d_X_minds_43 : decode (mCd M_X_minds) 43 = .ok (.getfield 137, 3) := by decide +kernel
theorem d_X_minds_46 : decode (mCd M_X_minds) 46 = .ok (.if_icmp .eq 54, 3) := by decide +kernel
theorem d_X_minds_49 : decode (mCd M_X_minds) 49 = .ok (.aload_n 0, 1) := by decide +kernel
theorem d_X_minds_50 : decode (mCd M_X_minds) 50 = .ok (.getfield 26, 3) := by decide +kernel
theorem d_X_minds_53 : decode (mCd M_X_minds) 53 = .ok (.aload_n 0, 1) := by decide +kernel
theorem d_X_minds_54 : decode (mCd M_X_minds) 54 = .ok (.getfield 65, 3) := by decide +kernel
theorem d_X_minds_57 : decode (mCd M_X_minds) 57 = .ok (.getfield 137, 3) := by decide +kernel
theorem d_X_minds_60 : decode (mCd M_X_minds) 60 = .ok (.aload_n 0, 1) := by decide +kernel
theorem d_X_minds_61 : decode (mCd M_X_minds) 61 = .ok (.getfield 65, 3) := by decide +kernel
theorem d_X_minds_64 : decode (mCd M_X_minds) 64 = .ok (.getfield 194, 3) := by decide +kernel
theorem d_X_minds_67 : decode (mCd M_X_minds) 67 = .ok (.iload_n 3, 1) := by decide +kernel
theorem d_X_minds_68 : decode (mCd M_X_minds) 68 = .ok (.iaload, 1) := by decide +kernel
theorem d_X_minds_69 : decode (mCd M_X_minds) 69 = .ok (.invokevirtual 341, 3) := by decide +kernel
theorem d_X_minds_72 : decode (mCd M_X_minds) 72 = .ok (.ifCond .eq 28, 3) := by decide +kernel
theorem d_X_minds_75 : decode (mCd M_X_minds) 75 = .ok (.iload_n 1, 1) := by decide +kernel
theorem d_X_minds_76 : decode (mCd M_X_minds) 76 = .ok (.iconst 1, 1) := by decide +kernel
theorem d_X_minds_77 : decode (mCd M_X_minds) 77 = .ok (.iload_n 3, 1) := by decide +kernel
theorem d_X_minds_78 : decode (mCd M_X_minds) 78 = .ok (.ishl, 1) := by decide +kernel
theorem d_X_minds_79 : decode (mCd M_X_minds) 79 = .ok (.ior, 1) := by decide +kernel
theorem d_X_minds_80 : decode (mCd M_X_minds) 80 = .ok (.istore_n 1, 1) := by decide +kernel
theorem d_X_minds_81 : decode (mCd M_X_minds) 81 = .ok (.aload_n 0, 1) := by decide +kernel
theorem d_X_minds_82 : decode (mCd M_X_minds) 82 = .ok (.getfield 33, 3) := by decide +kernel
theorem d_X_minds_85 : decode (mCd M_X_minds) 85 = .ok (.getfield 178, 3) := by decide +kernel
theorem d_X_minds_88 : decode (mCd M_X_minds) 88 = .ok (.iload_n 3, 1) := by decide +kernel
theorem d_X_minds_89 : decode (mCd M_X_minds) 89 = .ok (.iaload, 1) := by decide +kernel
theorem d_X_minds_90 : decode (mCd M_X_minds) 90 = .ok (.iconst 3, 1) := by decide +kernel
theorem d_X_minds_91 : decode (mCd M_X_minds) 91 = .ok (.if_icmp .ne 9, 3) := by decide +kernel
theorem d_X_minds_94 : decode (mCd M_X_minds) 94 = .ok (.iload_n 2, 1) := by decide +kernel
theorem d_X_minds_95 : decode (mCd M_X_minds) 95 = .ok (.iconst 1, 1) := by decide +kernel
theorem d_X_minds_96 : decode (mCd M_X_minds) 96 = .ok (.iload_n 3, 1) := by decide +kernel
theorem d_X_minds_97 : decode (mCd M_X_minds) 97 = .ok (.ishl, 1) := by decide +kernel
theorem d_X_minds_98 : decode (mCd M_X_minds) 98 = .ok (.ior, 1) := by decide +kernel
theorem d_X_minds_99 : decode (mCd M_X_minds) 99 = .ok (.istore_n 2, 1) := by decide +kernel
theorem d_X_minds_100 : decode (mCd M_X_minds) 100 = .ok (.iinc 3 1, 3) := by decide +kernel
theorem d_X_minds_103 : decode (mCd M_X_minds) 103 = .ok (.goto (-97), 3) := by decide +kernel
theorem d_X_minds_106 : decode (mCd M_X_minds) 106 = .ok (.aload_n 0, 1) := by decide +kernel
theorem d_X_minds_107 : decode (mCd M_X_minds) 107 = .ok (.getfield 19, 3) := by decide +kernel
theorem d_X_minds_110 : decode (mCd M_X_minds) 110 = .ok (.invokevirtual 228, 3) := by decide +kernel
theorem d_X_minds_113 : decode (mCd M_X_minds) 113 = .ok (.aload_n 0, 1) := by decide +kernel
theorem d_X_minds_114 : decode (mCd M_X_minds) 114 = .ok (.getfield 19, 3) := by decide +kernel
theorem d_X_minds_117 : decode (mCd M_X_minds) 117 = .ok (.iload_n 1, 1) := by decide +kernel
theorem d_X_minds_118 : decode (mCd M_X_minds) 118 = .ok (.invokestatic 318, 3) := by decide +kernel
theorem d_X_minds_121 : decode (mCd M_X_minds) 121 = .ok (.i2l, 1) := by decide +kernel
theorem d_X_minds_122 : decode (mCd M_X_minds) 122 = .ok (.invokevirtual 234, 3) := by decide +kernel
theorem d_X_minds_125 : decode (mCd M_X_minds) 125 = .ok (.aload_n 0, 1) := by decide +kernel
theorem d_X_minds_126 : decode (mCd M_X_minds) 126 = .ok (.getfield 19, 3) := by decide +kernel
theorem d_X_minds_129 : decode (mCd M_X_minds) 129 = .ok (.iload_n 2, 1) := by decide +kernel
theorem d_X_minds_130 : decode (mCd M_X_minds) 130 = .ok (.i2l, 1) := by decide +kernel
theorem d_X_minds_131 : decode (mCd M_X_minds) 131 = .ok (.invokevirtual 234, 3) := by decide +kernel
theorem d_X_minds_134 : decode (mCd M_X_minds) 134 = .ok (.iload_n 1, 1) := by decide +kernel
theorem d_X_minds_135 : decode (mCd M_X_minds) 135 = .ok (.ireturn, 1) := by decide +kernel
theorem d_X_evens_0 : decode (mCd M_X_evens) 0 = .ok (.aload_n 0, 1) := by decide +kernel
theorem d_X_evens_1 : decode (mCd M_X_evens) 1 = .ok (.getfield 49, 3) := by decide +kernel
theorem d_X_evens_4 : decode (mCd M_X_evens) 4 = .ok (.aload_n 0, 1) := by decide +kernel
theorem d_X_evens_5 : decode (mCd M_X_evens) 5 = .ok (.getfield 65, 3) := by decide +kernel
theorem d_X_evens_8 : decode (mCd M_X_evens) 8 = .ok (.aload_n 0, 1) := by decide +kernel
theorem d_X_evens_9 : decode (mCd M_X_evens) 9 = .ok (.getfield 105, 3) := by decide +kernel
theorem d_X_evens_12 : decode (mCd M_X_evens) 12 = .ok (.invokevirtual 200, 3) := by decide +kernel
theorem d_X_evens_15 : decode (mCd M_X_evens) 15 = .ok (.aload_n 0, 1) := by decide +kernel
theorem d_X_evens_16 : decode (mCd M_X_evens) 16 = .ok (.getfield 49, 3) := by decide +kernel
theorem d_X_evens_19 : decode (mCd M_X_evens) 19 = .ok (.invokevirtual 344, 3) := by decide +kernel
theorem d_X_evens_22 : decode (mCd M_X_evens) 22 = .ok (.istore_n 1, 1) := by decide +kernel
theorem d_X_evens_23 : decode (mCd M_X_evens) 23 = .ok (.aload_n 0, 1) := by decide +kernel
theorem d_X_evens_24 : decode (mCd M_X_evens) 24 = .ok (.getfield 49, 3) := by decide +kernel
theorem d_X_evens_27 : decode (mCd M_X_evens) 27 = .ok (.iload_n 1, 1) := by decide +kernel
theorem d_X_evens_28 : decode (mCd M_X_evens) 28 = .ok (.invokevirtual 347, 3) := by decide +kernel
theorem d_X_evens_31 : decode (mCd M_X_evens) 31 = .ok (.istore_n 2, 1) := by decide +kernel
theorem d_X_evens_32 : decode (mCd M_X_evens) 32 = .ok (.iconst 0, 1) := by decide +kernel
theorem d_X_evens_33 : decode (mCd M_X_evens) 33 = .ok (.istore_n 3, 1) := by decide +kernel
theorem d_X_evens_34 : decode (mCd M_X_evens) 34 = .ok (.iload_n 2, 1) := by decide +kernel
theorem d_X_evens_35 : decode (mCd M_X_evens) 35 = .ok (.istore 4, 2) := by decide +kernel
theorem d_X_evens_37 : decode (mCd M_X_evens) 37 = .ok (.iconst 1, 1) := by decide +kernel
theorem d_X_evens_38 : decode (mCd M_X_evens) 38 = .ok (.istore 5, 2) := by decide +kernel
theorem d_X_evens_40 : decode (mCd M_X_evens) 40 = .ok (.iload 5, 2) := by decide +kernel
theorem d_X_evens_42 : decode (mCd M_X_evens) 42 = .ok (.iconst 1, 1) := by decide +kernel
theorem d_X_evens_43 : decode (mCd M_X_evens) 43 = .ok (.aload_n 0, 1) := by decide +kernel
theorem d_X_evens_44 : decode (mCd M_X_evens) 44 = .ok (.getfield 33, 3) := by decide +kernel
theorem d_X_evens_47 : decode (mCd M_X_evens) 47 = .ok (.getfield 131, 3) := by decide +kernel
theorem d_X_evens_50 : decode (mCd M_X_evens) 50 = .ok (.ishl, 1) := by decide +kernel
theorem d_X_evens_51 : decode (mCd M_X_evens) 51 = .ok (.if_icmp .ge 53, 3) := by decide +kernel
theorem d_X_evens_54 : decode (mCd M_X_evens) 54 = .ok (.iload 5, 2) := by decide +kernel
theorem d_X_evens_56 : decode (mCd M_X_evens) 56 = .ok (.iload_n 1, 1) := by decide +kernel
theorem d_X_evens_57 : decode (mCd M_X_evens) 57 = .ok (.iconst (-1), 1) := by decide +kernel
theorem d_X_evens_58 : decode (mCd M_X_evens) 58 = .ok (.ixor, 1) := by decide +kernel
theorem d_X_evens_59 : decode (mCd M_X_evens) 59 = .ok (.iand, 1) := by decide +kernel
theorem d_X_evens_60 : decode (mCd M_X_evens) 60 = .ok (.ifCond .eq 6, 3) := by decide +kernel
theorem d_X_evens_63 : decode (mCd M_X_evens) 63 = .ok (.goto 35, 3) := by decide +kernel
theorem d_X_evens_66 : decode (mCd M_X_evens) 66 = .ok (.iconst 2, 1) := by decide +kernel
theorem d_X_evens_67 : decode (mCd M_X_evens) 67 = .ok (.aload_n 0, 1) := by decide +kernel
theorem d_X_evens_68 : decode (mCd M_X_evens) 68 = .ok (.getfield 49, 3) := by decide +kernel
theorem d_X_evens_71 : decode (mCd M_X_evens) 71 = .ok (.iload 5, 2) := by decide +kernel
theorem d_X_evens_73 : decode (mCd M_X_evens) 73 = .ok (.invokevirtual 347, 3) := by decide +kernel
theorem d_X_evens_76 : decode (mCd M_X_evens) 76 = .ok (.imul, 1) := by decide +kernel
theorem d_X_evens_77 : decode (mCd M_X_evens) 77 = .ok (.iload_n 2, 1) := by decide +kernel
theorem d_X_evens_78 : decode (mCd M_X_evens) 78 = .ok (.isub, 1) := by decide +kernel
theorem d_X_evens_79 : decode (mCd M_X_evens) 79 = .ok (.invokestatic 350, 3) := by decide +kernel
theorem d_X_evens_82 : decode (mCd M_X_evens) 82 = .ok (.istore 6, 2) := by decide +kernel
theorem d_X_evens_84 : decode (mCd M_X_evens) 84 = .ok (.iload 6, 2) := by decide +kernel
theorem d_X_evens_86 : decode (mCd M_X_evens) 86 = .ok (.iload 4, 2) := by decide +kernel
theorem d_X_evens_88 : decode (mCd M_X_evens) 88 = .ok (.if_icmp .ge 10, 3) := by decide +kernel
theorem d_X_evens_91 : decode (mCd M_X_evens) 91 = .ok (.iload 6, 2) := by decide +kernel
theorem d_X_evens_93 : decode (mCd M_X_evens) 93 = .ok (.istore 4, 2) := by decide +kernel
theorem d_X_evens_95 : decode (mCd M_X_evens) 95 = .ok (.iload 5, 2) := by decide +kernel
theorem d_X_evens_97 : decode (mCd M_X_evens) 97 = .ok (.istore_n 3, 1) := by decide +kernel
theorem d_X_evens_98 : decode (mCd M_X_evens) 98 = .ok (.iinc 5 1, 3) := by decide +kernel
theorem d_X_evens_101 : decode (mCd M_X_evens) 101 = .ok (.goto (-61), 3) := by decide +kernel
theorem d_X_evens_104 : decode (mCd M_X_evens) 104 = .ok (.aload_n 0, 1) := by decide +kernel
theorem d_X_evens_105 : decode (mCd M_X_evens) 105 = .ok (.getfield 19, 3) := by decide +kernel
theorem d_X_evens_108 : decode (mCd M_X_evens) 108 = .ok (.invokevirtual 228, 3) := by decide +kernel
theorem d_X_evens_111 : decode (mCd M_X_evens) 111 = .ok (.aload_n 0, 1) := by decide +kernel
theorem d_X_evens_112 : decode (mCd M_X_evens) 112 = .ok (.getfield 19, 3) := by decide +kernel
theorem d_X_evens_115 : decode (mCd M_X_evens) 115 = .ok (.iload_n 3, 1) := by decide +kernel
theorem d_X_evens_116 : decode (mCd M_X_evens) 116 = .ok (.i2l, 1) := by decide +kernel
theorem d_X_evens_117 : decode (mCd M_X_evens) 117 = .ok (.invokevirtual 234, 3) := by decide +kernel
theorem d_X_evens_120 : decode (mCd M_X_evens) 120 = .ok (.aload_n 0, 1) := by decide +kernel
theorem d_X_evens_121 : decode (mCd M_X_evens) 121 = .ok (.getfield 19, 3) := by decide +kernel
theorem d_X_evens_124 : decode (mCd M_X_evens) 124 = .ok (.aload_n 0, 1) := by decide +kernel
theorem d_X_evens_125 : decode (mCd M_X_evens) 125 = .ok (.getfield 49, 3) := by decide +kernel
theorem d_X_evens_128 : decode (mCd M_X_evens) 128 = .ok (.iload_n 3, 1) := by decide +kernel
theorem d_X_evens_129 : decode (mCd M_X_evens) 129 = .ok (.invokevirtual 347, 3) := by decide +kernel
theorem d_X_evens_132 : decode (mCd M_X_evens) 132 = .ok (.i2l, 1) := by decide +kernel
theorem d_X_evens_133 : decode (mCd M_X_evens) 133 = .ok (.invokevirtual 234, 3) := by decide +kernel
theorem d_X_evens_136 : decode (mCd M_X_evens) 136 = .ok (.iload 4, 2) := by decide +kernel
theorem d_X_evens_138 : decode (mCd M_X_evens) 138 = .ok (.ireturn, 1) := by decide +kernel
theorem d_X_strongest_0 : decode (mCd M_X_strongest) 0 = .ok (.aload_n 0, 1) := by decide +kernel
theorem d_X_strongest_1 : decode (mCd M_X_strongest) 1 = .ok (.getfield 33, 3) := by decide +kernel
theorem d_X_strongest_4 : decode (mCd M_X_strongest) 4 = .ok (.getfield 131, 3) := by decide +kernel
theorem d_X_strongest_7 : decode (mCd M_X_strongest) 7 = .ok (.ifCond .ne 6, 3) := by decide +kernel
theorem d_X_strongest_10 : decode (mCd M_X_strongest) 10 = .ok (.bipush (-2), 2) := by decide +kernel
theorem d_X_strongest_12 : decode (mCd M_X_strongest) 12 = .ok (.ireturn, 1) := by decide +kernel
theorem d_X_strongest_13 : decode (mCd M_X_strongest) 13 = .ok (.aload_n 0, 1) := by decide +kernel
theorem d_X_strongest_14 : decode (mCd M_X_strongest) 14 = .ok (.getfield 49, 3) := by decide +kernel
theorem d_X_strongest_17 : decode (mCd M_X_strongest) 17 = .ok (.aload_n 0, 1) := by decide +kernel
theorem d_X_strongest_18 : decode (mCd M_X_strongest) 18 = .ok (.getfield 65, 3) := by decide +kernel
theorem d_X_strongest_21 : decode (mCd M_X_strongest) 21 = .ok (.aload_n 0, 1) := by decide +kernel
theorem d_X_strongest_22 : decode (mCd M_X_strongest) 22 = .ok (.getfield 105, 3) := by decide +kernel
theorem d_X_strongest_25 : decode (mCd M_X_strongest) 25 = .ok (.invokevirtual 200, 3) := by decide +kernel
theorem d_X_strongest_28 : decode (mCd M_X_strongest) 28 = .ok (.iconst 0, 1) := by decide +kernel
theorem d_X_strongest_29 : decode (mCd M_X_strongest) 29 = .ok (.istore_n 1, 1) := by decide +kernel
theorem d_X_strongest_30 : decode (mCd M_X_strongest) 30 = .ok (.iconst (-1), 1) := by decide +kernel
theorem d_X_strongest_31 : decode (mCd M_X_strongest) 31 = .ok (.istore_n 2, 1) := by decide +kernel
theorem d_X_strongest_32 : decode (mCd M_X_strongest) 32 = .ok (.iconst 0, 1) := by decide +kernel
theorem d_X_strongest_33 : decode (mCd M_X_strongest) 33 = .ok (.istore_n 3, 1) := by decide +kernel
theorem d_X_strongest_34 : decode (mCd M_X_strongest) 34 = .ok (.iconst 0, 1) := by decide +kernel
theorem d_X_strongest_35 : decode (mCd M_X_strongest) 35 = .ok (.istore 4, 2) := by decide +kernel
theorem d_X_strongest_37 : decode (mCd M_X_strongest) 37 = .ok (.iload 4, 2) := by decide +kernel
theorem d_X_strongest_39 : decode (mCd M_X_strongest) 39 = .ok (.aload_n 0, 1) := by decide +kernel
theorem d_X_strongest_40 : decode (mCd M_X_strongest) 40 = .ok (.getfield 33, 3) := by decide +kernel
theorem d_X_strongest_43 : decode (mCd M_X_strongest) 43 = .ok (.getfield 131, 3) := by decide +kernel
theorem d_X_strongest_46 : decode (mCd M_X_strongest) 46 = .ok (.if_icmp .ge 56, 3) := by decide +kernel
theorem d_X_strongest_49 : decode (mCd M_X_strongest) 49 = .ok (.aload_n 0, 1) := by decide +kernel
theorem d_X_strongest_50 : decode (mCd M_X_strongest) 50 = .ok (.getfield 49, 3) := by decide +kernel
theorem d_X_strongest_53 : decode (mCd M_X_strongest) 53 = .ok (.getfield 204, 3) := by decide +kernel
theorem d_X_strongest_56 : decode (mCd M_X_strongest) 56 = .ok (.iload 4, 2) := by decide +kernel
theorem d_X_strongest_58 : decode (mCd M_X_strongest) 58 = .ok (.iaload, 1) := by decide +kernel
theorem d_X_strongest_59 : decode (mCd M_X_strongest) 59 = .ok (.iload_n 2, 1) := by decide +kernel
theorem d_X_strongest_60 : decode (mCd M_X_strongest) 60 = .ok (.if_icmp .le 19, 3) := by decide +kernel
theorem d_X_strongest_63 : decode (mCd M_X_strongest) 63 = .ok (.aload_n 0, 1) := by decide +kernel
theorem d_X_strongest_64 : decode (mCd M_X_strongest) 64 = .ok (.getfield 49, 3) := by decide +kernel
theorem d_X_strongest_67 : decode (mCd M_X_strongest) 67 = .ok (.getfield 204, 3) := by decide +kernel
theorem d_X_strongest_70 : decode (mCd M_X_strongest) 70 = .ok (.iload 4, 2) := by decide +kernel
theorem d_X_strongest_72 : decode (mCd M_X_strongest) 72 = .ok (.iaload, 1) := by decide +kernel
theorem d_X_strongest_73 : decode (mCd M_X_strongest) 73 = .ok (.istore_n 2, 1) := by decide +kernel
theorem d_X_strongest_74 : decode (mCd M_X_strongest) 74 = .ok (.iload 4, 2) := by decide +kernel
theorem d_X_strongest_76 : decode (mCd M_X_strongest) 76 = .ok (.istore_n 1, 1) := by decide +kernel
theorem d_X_strongest_77 : decode (mCd M_X_strongest) 77 = .ok (.iconst 0, 1) := by decide +kernel
theorem d_X_strongest_78 : decode (mCd M_X_strongest) 78 = .ok (.istore_n 3, 1) := by decide +kernel
theorem d_X_strongest_79 : decode (mCd M_X_strongest) 79 = .ok (.aload_n 0, 1) := by decide +kernel
theorem d_X_strongest_80 : decode (mCd M_X_strongest) 80 = .ok (.getfield 49, 3) := by decide +kernel
theorem d_X_strongest_83 : decode (mCd M_X_strongest) 83 = .ok (.getfield 204, 3) := by decide +kernel
theorem d_X_strongest_86 : decode (mCd M_X_strongest) 86 = .ok (.iload 4, 2) := by decide +kernel
theorem d_X_strongest_88 : decode (mCd M_X_strongest) 88 = .ok (.iaload, 1) := by decide +kernel
theorem d_X_strongest_89 : decode (mCd M_X_strongest) 89 = .ok (.iload_n 2, 1) := by decide +kernel
theorem d_X_strongest_90 : decode (mCd M_X_strongest) 90 = .ok (.if_icmp .ne 6, 3) := by decide +kernel
theorem d_X_strongest_93 : decode (mCd M_X_strongest) 93 = .ok (.iinc 3 1, 3) := by decide +kernel
theorem d_X_strongest_96 : decode (mCd M_X_strongest) 96 = .ok (.iinc 4 1, 3) := by decide +kernel
theorem d_X_strongest_99 : decode (mCd M_X_strongest) 99 = .ok (.goto (-62), 3) := by decide +kernel
theorem d_X_strongest_102 : decode (mCd M_X_strongest) 102 = .ok (.aload_n 0, 1) := by decide +kernel
theorem d_X_strongest_103 : decode (mCd M_X_strongest) 103 = .ok (.getfield 19, 3) := by decide +kernel
theorem d_X_strongest_106 : decode (mCd M_X_strongest) 106 = .ok (.invokevirtual 228, 3) := by decide +kernel
theorem d_X_strongest_109 : decode (mCd M_X_strongest) 109 = .ok (.aload_n 0, 1) := by decide +kernel
theorem d_X_strongest_110 : decode (mCd M_X_strongest) 110 = .ok (.getfield 19, 3) := by decide +kernel
theorem d_X_strongest_113 : decode (mCd M_X_strongest) 113 = .ok (.iload_n 2, 1) := by decide +kernel
theorem d_X_strongest_114 : decode (mCd M_X_strongest) 114 = .ok (.i2l, 1) := by decide +kernel
theorem d_X_strongest_115 : decode (mCd M_X_strongest) 115 = .ok (.invokevirtual 234, 3) := by decide +kernel
theorem d_X_strongest_118 : decode (mCd M_X_strongest) 118 = .ok (.aload_n 0, 1) := by decide +kernel
theorem d_X_strongest_119 : decode (mCd M_X_strongest) 119 = .ok (.getfield 19, 3) := by decide +kernel
theorem d_X_strongest_122 : decode (mCd M_X_strongest) 122 = .ok (.iload_n 3, 1) := by decide +kernel
theorem d_X_strongest_123 : decode (mCd M_X_strongest) 123 = .ok (.i2l, 1) := by decide +kernel
theorem d_X_strongest_124 : decode (mCd M_X_strongest) 124 = .ok (.invokevirtual 234, 3) := by decide +kernel
theorem d_X_strongest_127 : decode (mCd M_X_strongest) 127 = .ok (.iload_n 1, 1) := by decide +kernel
theorem d_X_strongest_128 : decode (mCd M_X_strongest) 128 = .ok (.ireturn, 1) := by decide +kernel
theorem d_X_sways_0 : decode (mCd M_X_sways) 0 = .ok (.aload_n 0, 1) := by decide +kernel
theorem d_X_sways_1 : decode (mCd M_X_sways) 1 = .ok (.getfield 33, 3) := by decide +kernel
theorem d_X_sways_4 : decode (mCd M_X_sways) 4 = .ok (.iload_n 1, 1) := by decide +kernel
theorem d_X_sways_5 : decode (mCd M_X_sways) 5 = .ok (.invokevirtual 172, 3) := by decide +kernel
theorem d_X_sways_8 : decode (mCd M_X_sways) 8 = .ok (.ifCond .ne 5, 3) := by decide +kernel
theorem d_X_sways_11 : decode (mCd M_X_sways) 11 = .ok (.iconst (-1), 1) := by decide +kernel
theorem d_X_sways_12 : decode (mCd M_X_sways) 12 = .ok (.ireturn, 1) := by decide +kernel
theorem d_X_sways_13 : decode (mCd M_X_sways) 13 = .ok (.aload_n 0, 1) := by decide +kernel
theorem d_X_sways_14 : decode (mCd M_X_sways) 14 = .ok (.getfield 65, 3) := by decide +kernel
theorem d_X_sways_17 : decode (mCd M_X_sways) 17 = .ok (.iload_n 1, 1) := by decide +kernel
theorem d_X_sways_18 : decode (mCd M_X_sways) 18 = .ok (.invokevirtual 191, 3) := by decide +kernel
theorem d_X_sways_21 : decode (mCd M_X_sways) 21 = .ok (.ifCond .eq 16, 3) := by decide +kernel
theorem d_X_sways_24 : decode (mCd M_X_sways) 24 = .ok (.aload_n 0, 1) := by decide +kernel
theorem d_X_sways_25 : decode (mCd M_X_sways) 25 = .ok (.getfield 65, 3) := by decide +kernel
theorem d_X_sways_28 : decode (mCd M_X_sways) 28 = .ok (.getfield 194, 3) := by decide +kernel
theorem d_X_sways_31 : decode (mCd M_X_sways) 31 = .ok (.iload_n 1, 1) := by decide +kernel
theorem d_X_sways_32 : decode (mCd M_X_sways) 32 = .ok (.iaload, 1) := by decide +kernel
theorem d_X_sways_33 : decode (mCd M_X_sways) 33 = .ok (.iconst (-1), 1) := by decide +kernel
theorem d_X_sways_34 : decode (mCd M_X_sways) 34 = .ok (.if_icmp .ne 6, 3) := by decide +kernel
theorem d_X_sways_37 : decode (mCd M_X_sways) 37 = .ok (.bipush (-2), 2) := by decide +kernel
theorem d_X_sways_39 : decode (mCd M_X_sways) 39 = .ok (.ireturn, 1) := by decide +kernel
theorem d_X_sways_40 : decode (mCd M_X_sways) 40 = .ok (.aload_n 0, 1) := by decide +kernel
theorem d_X_sways_41 : decode (mCd M_X_sways) 41 = .ok (.getfield 65, 3) := by decide +kernel
theorem d_X_sways_44 : decode (mCd M_X_sways) 44 = .ok (.aload_n 0, 1) := by decide +kernel
theorem d_X_sways_45 : decode (mCd M_X_sways) 45 = .ok (.getfield 33, 3) := by decide +kernel
theorem d_X_sways_48 : decode (mCd M_X_sways) 48 = .ok (.getfield 131, 3) := by decide +kernel
theorem d_X_sways_51 : decode (mCd M_X_sways) 51 = .ok (.invokevirtual 329, 3) := by decide +kernel
theorem d_X_sways_54 : decode (mCd M_X_sways) 54 = .ok (.aload_n 0, 1) := by decide +kernel
theorem d_X_sways_55 : decode (mCd M_X_sways) 55 = .ok (.getfield 65, 3) := by decide +kernel
theorem d_X_sways_58 : decode (mCd M_X_sways) 58 = .ok (.getfield 134, 3) := by decide +kernel
theorem d_X_sways_61 : decode (mCd M_X_sways) 61 = .ok (.iand, 1) := by decide +kernel
theorem d_X_sways_62 : decode (mCd M_X_sways) 62 = .ok (.iconst 1, 1) := by decide +kernel
theorem d_X_sways_63 : decode (mCd M_X_sways) 63 = .ok (.iload_n 1, 1) := by decide +kernel
theorem d_X_sways_64 : decode (mCd M_X_sways) 64 = .ok (.ishl, 1) := by decide +kernel
theorem d_X_sways_65 : decode (mCd M_X_sways) 65 = .ok (.iconst (-1), 1) := by decide +kernel
theorem d_X_sways_66 : decode (mCd M_X_sways) 66 = .ok (.ixor, 1) := by decide +kernel
theorem d_X_sways_67 : decode (mCd M_X_sways) 67 = .ok (.iand, 1) := by decide +kernel
theorem d_X_sways_68 : decode (mCd M_X_sways) 68 = .ok (.istore_n 2, 1) := by decide +kernel
theorem d_X_sways_69 : decode (mCd M_X_sways) 69 = .ok (.aload_n 0, 1) := by decide +kernel
theorem d_X_sways_70 : decode (mCd M_X_sways) 70 = .ok (.getfield 49, 3) := by decide +kernel
theorem d_X_sways_73 : decode (mCd M_X_sways) 73 = .ok (.aload_n 0, 1) := by decide +kernel
theorem d_X_sways_74 : decode (mCd M_X_sways) 74 = .ok (.getfield 65, 3) := by decide +kernel
theorem d_X_sways_77 : decode (mCd M_X_sways) 77 = .ok (.aload_n 0, 1) := by decide +kernel
theorem d_X_sways_78 : decode (mCd M_X_sways) 78 = .ok (.getfield 105, 3) := by decide +kernel
theorem d_X_sways_81 : decode (mCd M_X_sways) 81 = .ok (.invokevirtual 200, 3) := by decide +kernel
theorem d_X_sways_84 : decode (mCd M_X_sways) 84 = .ok (.iconst 0, 1) := by decide +kernel
theorem d_X_sways_85 : decode (mCd M_X_sways) 85 = .ok (.istore_n 3, 1) := by decide +kernel
theorem d_X_sways_86 : decode (mCd M_X_sways) 86 = .ok (.iconst 0, 1) := by decide +kernel
theorem d_X_sways_87 : decode (mCd M_X_sways) 87 = .ok (.istore 4, 2) := by decide +kernel
theorem d_X_sways_89 : decode (mCd M_X_sways) 89 = .ok (.iload 4, 2) := by decide +kernel
theorem d_X_sways_91 : decode (mCd M_X_sways) 91 = .ok (.iconst 1, 1) := by decide +kernel
theorem d_X_sways_92 : decode (mCd M_X_sways) 92 = .ok (.aload_n 0, 1) := by decide +kernel
theorem d_X_sways_93 : decode (mCd M_X_sways) 93 = .ok (.getfield 33, 3) := by decide +kernel
theorem d_X_sways_96 : decode (mCd M_X_sways) 96 = .ok (.getfield 131, 3) := by decide +kernel
theorem d_X_sways_99 : decode (mCd M_X_sways) 99 = .ok (.ishl, 1) := by decide +kernel
theorem d_X_sways_100 : decode (mCd M_X_sways) 100 = .ok (.if_icmp .ge 40, 3) := by decide +kernel
theorem d_X_sways_103 : decode (mCd M_X_sways) 103 = .ok (.iload 4, 2) := by decide +kernel
theorem d_X_sways_105 : decode (mCd M_X_sways) 105 = .ok (.iload_n 2, 1) := by decide +kernel
theorem d_X_sways_106 : decode (mCd M_X_sways) 106 = .ok (.iconst (-1), 1) := by decide +kernel
theorem d_X_sways_107 : decode (mCd M_X_sways) 107 = .ok (.ixor, 1) := by decide +kernel
theorem d_X_sways_108 : decode (mCd M_X_sways) 108 = .ok (.iand, 1) := by decide +kernel
theorem d_X_sways_109 : decode (mCd M_X_sways) 109 = .ok (.ifCond .ne 25, 3) := by decide +kernel
theorem d_X_sways_112 : decode (mCd M_X_sways) 112 = .ok (.aload_n 0, 1) := by decide +kernel
theorem d_X_sways_113 : decode (mCd M_X_sways) 113 = .ok (.iload 4, 2) := by decide +kernel
theorem d_X_sways_115 : decode (mCd M_X_sways) 115 = .ok (.invokevirtual 353, 3) := by decide +kernel
theorem d_X_sways_118 : decode (mCd M_X_sways) 118 = .ok (.aload_n 0, 1) := by decide +kernel
theorem d_X_sways_119 : decode (mCd M_X_sways) 119 = .ok (.iload 4, 2) := by decide +kernel
theorem d_X_sways_121 : decode (mCd M_X_sways) 121 = .ok (.iconst 1, 1) := by decide +kernel
theorem d_X_sways_122 : decode (mCd M_X_sways) 122 = .ok (.iload_n 1, 1) := by decide +kernel
theorem d_X_sways_123 : decode (mCd M_X_sways) 123 = .ok (.ishl, 1) := by decide +kernel
theorem d_X_sways_124 : decode (mCd M_X_sways) 124 = .ok (.ior, 1) := by decide +kernel
theorem d_X_sways_125 : decode (mCd M_X_sways) 125 = .ok (.invokevirtual 353, 3) := by decide +kernel
theorem d_X_sways_128 : decode (mCd M_X_sways) 128 = .ok (.if_icmp .eq 6, 3) := by decide +kernel
theorem d_X_sways_131 : decode (mCd M_X_sways) 131 = .ok (.iinc 3 1, 3) := by decide +kernel
theorem d_X_sways_134 : decode (mCd M_X_sways) 134 = .ok (.iinc 4 1, 3) := by decide +kernel
theorem d_X_sways_137 : decode (mCd M_X_sways) 137 = .ok (.goto (-48), 3) := by decide +kernel
theorem d_X_sways_140 : decode (mCd M_X_sways) 140 = .ok (.aload_n 0, 1) := by decide +kernel
theorem d_X_sways_141 : decode (mCd M_X_sways) 141 = .ok (.getfield 19, 3) := by decide +kernel
theorem d_X_sways_144 : decode (mCd M_X_sways) 144 = .ok (.invokevirtual 228, 3) := by decide +kernel
theorem d_X_sways_147 : decode (mCd M_X_sways) 147 = .ok (.aload_n 0, 1) := by decide +kernel
theorem d_X_sways_148 : decode (mCd M_X_sways) 148 = .ok (.getfield 19, 3) := by decide +kernel
theorem d_X_sways_151 : decode (mCd M_X_sways) 151 = .ok (.iconst 1, 1) := by decide +kernel
theorem d_X_sways_152 : decode (mCd M_X_sways) 152 = .ok (.iload_n 2, 1) := by decide +kernel
theorem d_X_sways_153 : decode (mCd M_X_sways) 153 = .ok (.invokestatic 318, 3) := by decide +kernel
theorem d_X_sways_156 : decode (mCd M_X_sways) 156 = .ok (.ishl, 1) := by decide +kernel
theorem d_X_sways_157 : decode (mCd M_X_sways) 157 = .ok (.i2l, 1) := by decide +kernel
theorem d_X_sways_158 : decode (mCd M_X_sways) 158 = .ok (.invokevirtual 234, 3) := by decide +kernel
theorem d_X_sways_161 : decode (mCd M_X_sways) 161 = .ok (.iload_n 3, 1) := by decide +kernel
theorem d_X_sways_162 : decode (mCd M_X_sways) 162 = .ok (.ireturn, 1) := by decide +kernel
theorem d_X_seen_0 : decode (mCd M_X_seen) 0 = .ok (.iload_n 1, 1) := by decide +kernel
theorem d_X_seen_1 : decode (mCd M_X_seen) 1 = .ok (.ifCond .lt 29, 3) := by decide +kernel
theorem d_X_seen_4 : decode (mCd M_X_seen) 4 = .ok (.iload_n 1, 1) := by decide +kernel
theorem d_X_seen_5 : decode (mCd M_X_seen) 5 = .ok (.bipush 20, 2) := by decide +kernel
theorem d_X_seen_7 : decode (mCd M_X_seen) 7 = .ok (.if_icmp .gt 23, 3) := by decide +kernel
theorem d_X_seen_10 : decode (mCd M_X_seen) 10 = .ok (.aload_n 0, 1) := by decide +kernel
theorem d_X_seen_11 : decode (mCd M_X_seen) 11 = .ok (.getfield 26, 3) := by decide +kernel
theorem d_X_seen_14 : decode (mCd M_X_seen) 14 = .ok (.iload_n 2, 1) := by decide +kernel
theorem d_X_seen_15 : decode (mCd M_X_seen) 15 = .ok (.invokevirtual 211, 3) := by decide +kernel
theorem d_X_seen_18 : decode (mCd M_X_seen) 18 = .ok (.ifCond .eq 12, 3) := by decide +kernel
theorem d_X_seen_21 : decode (mCd M_X_seen) 21 = .ok (.iload_n 3, 1) := by decide +kernel
theorem d_X_seen_22 : decode (mCd M_X_seen) 22 = .ok (.ifCond .lt 8, 3) := by decide +kernel
theorem d_X_seen_25 : decode (mCd M_X_seen) 25 = .ok (.iload_n 3, 1) := by decide +kernel
theorem d_X_seen_26 : decode (mCd M_X_seen) 26 = .ok (.iconst 1, 1) := by decide +kernel
theorem d_X_seen_27 : decode (mCd M_X_seen) 27 = .ok (.if_icmp .le 5, 3) := by decide +kernel
theorem d_X_seen_30 : decode (mCd M_X_seen) 30 = .ok (.iconst (-1), 1) := by decide +kernel
theorem d_X_seen_31 : decode (mCd M_X_seen) 31 = .ok (.ireturn, 1) := by decide +kernel
theorem d_X_seen_32 : decode (mCd M_X_seen) 32 = .ok (.aload_n 0, 1) := by decide +kernel
theorem d_X_seen_33 : decode (mCd M_X_seen) 33 = .ok (.getfield 85, 3) := by decide +kernel
theorem d_X_seen_36 : decode (mCd M_X_seen) 36 = .ok (.iload_n 1, 1) := by decide +kernel
theorem d_X_seen_37 : decode (mCd M_X_seen) 37 = .ok (.iload_n 2, 1) := by decide +kernel
theorem d_X_seen_38 : decode (mCd M_X_seen) 38 = .ok (.iload_n 3, 1) := by decide +kernel
theorem d_X_seen_39 : decode (mCd M_X_seen) 39 = .ok (.iconst 1, 1) := by decide +kernel
theorem d_X_seen_40 : decode (mCd M_X_seen) 40 = .ok (.if_icmp .ne 7, 3) := by decide +kernel
theorem d_X_seen_43 : decode (mCd M_X_seen) 43 = .ok (.iconst 1, 1) := by decide +kernel
theorem d_X_seen_44 : decode (mCd M_X_seen) 44 = .ok (.goto 4, 3) := by decide +kernel
theorem d_X_seen_47 : decode (mCd M_X_seen) 47 = .ok (.iconst 0, 1) := by decide +kernel
theorem d_X_seen_48 : decode (mCd M_X_seen) 48 = .ok (.invokevirtual 356, 3) := by decide +kernel
theorem d_X_seen_51 : decode (mCd M_X_seen) 51 = .ok (.ifCond .eq 13, 3) := by decide +kernel
theorem d_X_seen_54 : decode (mCd M_X_seen) 54 = .ok (.aload_n 0, 1) := by decide +kernel
theorem d_X_seen_55 : decode (mCd M_X_seen) 55 = .ok (.getfield 85, 3) := by decide +kernel
theorem d_X_seen_58 : decode (mCd M_X_seen) 58 = .ok (.getfield 359, 3) := by decide +kernel
theorem d_X_seen_61 : decode (mCd M_X_seen) 61 = .ok (.goto 4, 3) := by decide +kernel
theorem d_X_seen_64 : decode (mCd M_X_seen) 64 = .ok (.iconst (-1), 1) := by decide +kernel
theorem d_X_seen_65 : decode (mCd M_X_seen) 65 = .ok (.ireturn, 1) := by decide +kernel
theorem d_X_forget_0 : decode (mCd M_X_forget) 0 = .ok (.aload_n 0, 1) := by decide +kernel
theorem d_X_forget_1 : decode (mCd M_X_forget) 1 = .ok (.getfield 85, 3) := by decide +kernel
theorem d_X_forget_4 : decode (mCd M_X_forget) 4 = .ok (.getfield 359, 3) := by decide +kernel
theorem d_X_forget_7 : decode (mCd M_X_forget) 7 = .ok (.istore_n 1, 1) := by decide +kernel
theorem d_X_forget_8 : decode (mCd M_X_forget) 8 = .ok (.aload_n 0, 1) := by decide +kernel
theorem d_X_forget_9 : decode (mCd M_X_forget) 9 = .ok (.getfield 85, 3) := by decide +kernel
theorem d_X_forget_12 : decode (mCd M_X_forget) 12 = .ok (.invokevirtual 146, 3) := by decide +kernel
theorem d_X_forget_15 : decode (mCd M_X_forget) 15 = .ok (.iload_n 1, 1) := by decide +kernel
theorem d_X_forget_16 : decode (mCd M_X_forget) 16 = .ok (.ireturn, 1) := by decide +kernel
theorem d_X_fits_0 : decode (mCd M_X_fits) 0 = .ok (.aload_n 0, 1) := by decide +kernel
theorem d_X_fits_1 : decode (mCd M_X_fits) 1 = .ok (.invokevirtual 360, 3) := by decide +kernel
theorem d_X_fits_4 : decode (mCd M_X_fits) 4 = .ok (.istore_n 1, 1) := by decide +kernel
theorem d_X_fits_5 : decode (mCd M_X_fits) 5 = .ok (.aload_n 0, 1) := by decide +kernel
theorem d_X_fits_6 : decode (mCd M_X_fits) 6 = .ok (.bipush 8, 2) := by decide +kernel
theorem d_X_fits_8 : decode (mCd M_X_fits) 8 = .ok (.invokevirtual 363, 3) := by decide +kernel
theorem d_X_fits_11 : decode (mCd M_X_fits) 11 = .ok (.aload_n 0, 1) := by decide +kernel
theorem d_X_fits_12 : decode (mCd M_X_fits) 12 = .ok (.getfield 19, 3) := by decide +kernel
theorem d_X_fits_15 : decode (mCd M_X_fits) 15 = .ok (.invokevirtual 228, 3) := by decide +kernel
theorem d_X_fits_18 : decode (mCd M_X_fits) 18 = .ok (.aload_n 0, 1) := by decide +kernel
theorem d_X_fits_19 : decode (mCd M_X_fits) 19 = .ok (.getfield 19, 3) := by decide +kernel
theorem d_X_fits_22 : decode (mCd M_X_fits) 22 = .ok (.iload_n 1, 1) := by decide +kernel
theorem d_X_fits_23 : decode (mCd M_X_fits) 23 = .ok (.invokestatic 318, 3) := by decide +kernel
theorem d_X_fits_26 : decode (mCd M_X_fits) 26 = .ok (.i2l, 1) := by decide +kernel
theorem d_X_fits_27 : decode (mCd M_X_fits) 27 = .ok (.invokevirtual 234, 3) := by decide +kernel
theorem d_X_fits_30 : decode (mCd M_X_fits) 30 = .ok (.aload_n 0, 1) := by decide +kernel
theorem d_X_fits_31 : decode (mCd M_X_fits) 31 = .ok (.getfield 19, 3) := by decide +kernel
theorem d_X_fits_34 : decode (mCd M_X_fits) 34 = .ok (.aload_n 0, 1) := by decide +kernel
theorem d_X_fits_35 : decode (mCd M_X_fits) 35 = .ok (.getfield 85, 3) := by decide +kernel
theorem d_X_fits_38 : decode (mCd M_X_fits) 38 = .ok (.aload_n 0, 1) := by decide +kernel
theorem d_X_fits_39 : decode (mCd M_X_fits) 39 = .ok (.getfield 95, 3) := by decide +kernel
theorem d_X_fits_42 : decode (mCd M_X_fits) 42 = .ok (.bipush 8, 2) := by decide +kernel
theorem d_X_fits_44 : decode (mCd M_X_fits) 44 = .ok (.aaload, 1) := by decide +kernel
theorem d_X_fits_45 : decode (mCd M_X_fits) 45 = .ok (.invokevirtual 366, 3) := by decide +kernel
theorem d_X_fits_48 : decode (mCd M_X_fits) 48 = .ok (.ifCond .eq 7, 3) := by decide +kernel
theorem d_X_fits_51 : decode (mCd M_X_fits) 51 = .ok (.lconst 1, 1) := by decide +kernel
theorem d_X_fits_52 : decode (mCd M_X_fits) 52 = .ok (.goto 4, 3) := by decide +kernel
theorem d_X_fits_55 : decode (mCd M_X_fits) 55 = .ok (.lconst 0, 1) := by decide +kernel
theorem d_X_fits_56 : decode (mCd M_X_fits) 56 = .ok (.invokevirtual 234, 3) := by decide +kernel
theorem d_X_fits_59 : decode (mCd M_X_fits) 59 = .ok (.iload_n 1, 1) := by decide +kernel
theorem d_X_fits_60 : decode (mCd M_X_fits) 60 = .ok (.ireturn, 1) := by decide +kernel
theorem d_X_looks_0 : decode (mCd M_X_looks) 0 = .ok (.aload_n 0, 1) := by decide +kernel
theorem d_X_looks_1 : decode (mCd M_X_looks) 1 = .ok (.invokevirtual 360, 3) := by decide +kernel
theorem d_X_looks_4 : decode (mCd M_X_looks) 4 = .ok (.istore_n 1, 1) := by decide +kernel
theorem d_X_looks_5 : decode (mCd M_X_looks) 5 = .ok (.iload_n 1, 1) := by decide +kernel
theorem d_X_looks_6 : decode (mCd M_X_looks) 6 = .ok (.ifCond .ne 6, 3) := by decide +kernel
theorem d_X_looks_9 : decode (mCd M_X_looks) 9 = .ok (.bipush (-2), 2) := by decide +kernel
theorem d_X_looks_11 : decode (mCd M_X_looks) 11 = .ok (.ireturn, 1) := by decide +kernel
theorem d_X_looks_12 : decode (mCd M_X_looks) 12 = .ok (.iconst 0, 1) := by decide +kernel
theorem d_X_looks_13 : decode (mCd M_X_looks) 13 = .ok (.istore_n 2, 1) := by decide +kernel
theorem d_X_looks_14 : decode (mCd M_X_looks) 14 = .ok (.bipush 9, 2) := by decide +kernel
theorem d_X_looks_16 : decode (mCd M_X_looks) 16 = .ok (.istore_n 3, 1) := by decide +kernel
theorem d_X_looks_17 : decode (mCd M_X_looks) 17 = .ok (.iconst 0, 1) := by decide +kernel
theorem d_X_looks_18 : decode (mCd M_X_looks) 18 = .ok (.istore 4, 2) := by decide +kernel
theorem d_X_looks_20 : decode (mCd M_X_looks) 20 = .ok (.iload 4, 2) := by decide +kernel
theorem d_X_looks_22 : decode (mCd M_X_looks) 22 = .ok (.bipush 20, 2) := by decide +kernel
theorem d_X_looks_24 : decode (mCd M_X_looks) 24 = .ok (.if_icmp .gt 30, 3) := by decide +kernel
theorem d_X_looks_27 : decode (mCd M_X_looks) 27 = .ok (.aload_n 0, 1) := by decide +kernel
theorem d_X_looks_28 : decode (mCd M_X_looks) 28 = .ok (.iload_n 1, 1) := by decide +kernel
theorem d_X_looks_29 : decode (mCd M_X_looks) 29 = .ok (.iload 4, 2) := by decide +kernel
theorem d_X_looks_31 : decode (mCd M_X_looks) 31 = .ok (.invokevirtual 370, 3) := by decide +kernel
theorem d_X_looks_34 : decode (mCd M_X_looks) 34 = .ok (.istore 5, 2) := by decide +kernel
theorem d_X_looks_36 : decode (mCd M_X_looks) 36 = .ok (.iload 5, 2) := by decide +kernel
theorem d_X_looks_38 : decode (mCd M_X_looks) 38 = .ok (.iload_n 3, 1) := by decide +kernel
theorem d_X_looks_39 : decode (mCd M_X_looks) 39 = .ok (.if_icmp .ge 9, 3) := by decide +kernel
theorem d_X_looks_42 : decode (mCd M_X_looks) 42 = .ok (.iload 5, 2) := by decide +kernel
theorem d_X_looks_44 : decode (mCd M_X_looks) 44 = .ok (.istore_n 3, 1) := by decide +kernel
theorem d_X_looks_45 : decode (mCd M_X_looks) 45 = .ok (.iload 4, 2) := by decide +kernel
theorem d_X_looks_47 : decode (mCd M_X_looks) 47 = .ok (.istore_n 2, 1) := by decide +kernel
theorem d_X_looks_48 : decode (mCd M_X_looks) 48 = .ok (.iinc 4 1, 3) := by decide +kernel
theorem d_X_looks_51 : decode (mCd M_X_looks) 51 = .ok (.goto (-31), 3) := by decide +kernel
theorem d_X_looks_54 : decode (mCd M_X_looks) 54 = .ok (.aload_n 0, 1) := by decide +kernel
theorem d_X_looks_55 : decode (mCd M_X_looks) 55 = .ok (.getfield 19, 3) := by decide +kernel
theorem d_X_looks_58 : decode (mCd M_X_looks) 58 = .ok (.invokevirtual 228, 3) := by decide +kernel
theorem d_X_looks_61 : decode (mCd M_X_looks) 61 = .ok (.aload_n 0, 1) := by decide +kernel
theorem d_X_looks_62 : decode (mCd M_X_looks) 62 = .ok (.getfield 19, 3) := by decide +kernel
theorem d_X_looks_65 : decode (mCd M_X_looks) 65 = .ok (.iload_n 3, 1) := by decide +kernel
theorem d_X_looks_66 : decode (mCd M_X_looks) 66 = .ok (.i2l, 1) := by decide +kernel
theorem d_X_looks_67 : decode (mCd M_X_looks) 67 = .ok (.invokevirtual 234, 3) := by decide +kernel
theorem d_X_looks_70 : decode (mCd M_X_looks) 70 = .ok (.iload_n 2, 1) := by decide +kernel
theorem d_X_looks_71 : decode (mCd M_X_looks) 71 = .ok (.ireturn, 1) := by decide +kernel
theorem d_X_way_0 : decode (mCd M_X_way) 0 = .ok (.aload_n 0, 1) := by decide +kernel
theorem d_X_way_1 : decode (mCd M_X_way) 1 = .ok (.getfield 26, 3) := by decide +kernel
theorem d_X_way_4 : decode (mCd M_X_way) 4 = .ok (.iload_n 1, 1) := by decide +kernel
theorem d_X_way_5 : decode (mCd M_X_way) 5 = .ok (.invokevirtual 211, 3) := by decide +kernel
theorem d_X_way_8 : decode (mCd M_X_way) 8 = .ok (.ifCond .eq 14, 3) := by decide +kernel
theorem d_X_way_11 : decode (mCd M_X_way) 11 = .ok (.aload_n 0, 1) := by decide +kernel
theorem d_X_way_12 : decode (mCd M_X_way) 12 = .ok (.getfield 26, 3) := by decide +kernel
theorem d_X_way_15 : decode (mCd M_X_way) 15 = .ok (.iload_n 2, 1) := by decide +kernel
theorem d_X_way_16 : decode (mCd M_X_way) 16 = .ok (.invokevirtual 211, 3) := by decide +kernel
theorem d_X_way_19 : decode (mCd M_X_way) 19 = .ok (.ifCond .ne 5, 3) := by decide +kernel
theorem d_X_way_22 : decode (mCd M_X_way) 22 = .ok (.iconst (-1), 1) := by decide +kernel
theorem d_X_way_23 : decode (mCd M_X_way) 23 = .ok (.ireturn, 1) := by decide +kernel
theorem d_X_way_24 : decode (mCd M_X_way) 24 = .ok (.aload_n 0, 1) := by decide +kernel
theorem d_X_way_25 : decode (mCd M_X_way) 25 = .ok (.getfield 26, 3) := by decide +kernel
theorem d_X_way_28 : decode (mCd M_X_way) 28 = .ok (.iload_n 1, 1) := by decide +kernel
theorem d_X_way_29 : decode (mCd M_X_way) 29 = .ok (.invokevirtual 212, 3) := by decide +kernel
theorem d_X_way_32 : decode (mCd M_X_way) 32 = .ok (.ifCond .ne 14, 3) := by decide +kernel
theorem d_X_way_35 : decode (mCd M_X_way) 35 = .ok (.aload_n 0, 1) := by decide +kernel
theorem d_X_way_36 : decode (mCd M_X_way) 36 = .ok (.getfield 26, 3) := by decide +kernel
theorem d_X_way_39 : decode (mCd M_X_way) 39 = .ok (.iload_n 2, 1) := by decide +kernel
theorem d_X_way_40 : decode (mCd M_X_way) 40 = .ok (.invokevirtual 212, 3) := by decide +kernel
theorem d_X_way_43 : decode (mCd M_X_way) 43 = .ok (.ifCond .eq 6, 3) := by decide +kernel
theorem d_X_way_46 : decode (mCd M_X_way) 46 = .ok (.bipush (-2), 2) := by decide +kernel
theorem d_X_way_48 : decode (mCd M_X_way) 48 = .ok (.ireturn, 1) := by decide +kernel
theorem d_X_way_49 : decode (mCd M_X_way) 49 = .ok (.aload_n 0, 1) := by decide +kernel
theorem d_X_way_50 : decode (mCd M_X_way) 50 = .ok (.getfield 26, 3) := by decide +kernel
theorem d_X_way_53 : decode (mCd M_X_way) 53 = .ok (.iload_n 2, 1) := by decide +kernel
theorem d_X_way_54 : decode (mCd M_X_way) 54 = .ok (.invokevirtual 373, 3) := by decide +kernel
theorem d_X_way_57 : decode (mCd M_X_way) 57 = .ok (.aload_n 0, 1) := by decide +kernel
theorem d_X_way_58 : decode (mCd M_X_way) 58 = .ok (.getfield 26, 3) := by decide +kernel
theorem d_X_way_61 : decode (mCd M_X_way) 61 = .ok (.iload_n 1, 1) := by decide +kernel
theorem d_X_way_62 : decode (mCd M_X_way) 62 = .ok (.invokevirtual 376, 3) := by decide +kernel
theorem d_X_way_65 : decode (mCd M_X_way) 65 = .ok (.istore_n 3, 1) := by decide +kernel
theorem d_X_way_66 : decode (mCd M_X_way) 66 = .ok (.iload_n 3, 1) := by decide +kernel
theorem d_X_way_67 : decode (mCd M_X_way) 67 = .ok (.iconst (-1), 1) := by decide +kernel
theorem d_X_way_68 : decode (mCd M_X_way) 68 = .ok (.if_icmp .ne 6, 3) := by decide +kernel
theorem d_X_way_71 : decode (mCd M_X_way) 71 = .ok (.bipush (-2), 2) := by decide +kernel
theorem d_X_way_73 : decode (mCd M_X_way) 73 = .ok (.ireturn, 1) := by decide +kernel
theorem d_X_way_74 : decode (mCd M_X_way) 74 = .ok (.aload_n 0, 1) := by decide +kernel
theorem d_X_way_75 : decode (mCd M_X_way) 75 = .ok (.getfield 19, 3) := by decide +kernel
theorem d_X_way_78 : decode (mCd M_X_way) 78 = .ok (.invokevirtual 228, 3) := by decide +kernel
theorem d_X_way_81 : decode (mCd M_X_way) 81 = .ok (.aload_n 0, 1) := by decide +kernel
theorem d_X_way_82 : decode (mCd M_X_way) 82 = .ok (.getfield 19, 3) := by decide +kernel
theorem d_X_way_85 : decode (mCd M_X_way) 85 = .ok (.iload_n 1, 1) := by decide +kernel
theorem d_X_way_86 : decode (mCd M_X_way) 86 = .ok (.i2l, 1) := by decide +kernel
theorem d_X_way_87 : decode (mCd M_X_way) 87 = .ok (.invokevirtual 234, 3) := by decide +kernel
theorem d_X_way_90 : decode (mCd M_X_way) 90 = .ok (.iload_n 1, 1) := by decide +kernel
theorem d_X_way_91 : decode (mCd M_X_way) 91 = .ok (.istore 4, 2) := by decide +kernel
theorem d_X_way_93 : decode (mCd M_X_way) 93 = .ok (.iload_n 3, 1) := by decide +kernel
theorem d_X_way_94 : decode (mCd M_X_way) 94 = .ok (.istore 5, 2) := by decide +kernel
theorem d_X_way_96 : decode (mCd M_X_way) 96 = .ok (.iload 5, 2) := by decide +kernel
theorem d_X_way_98 : decode (mCd M_X_way) 98 = .ok (.ifCond .le 40, 3) := by decide +kernel
theorem d_X_way_101 : decode (mCd M_X_way) 101 = .ok (.iload 4, 2) := by decide +kernel
theorem d_X_way_103 : decode (mCd M_X_way) 103 = .ok (.iconst (-1), 1) := by decide +kernel
theorem d_X_way_104 : decode (mCd M_X_way) 104 = .ok (.if_icmp .eq 34, 3) := by decide +kernel
theorem d_X_way_107 : decode (mCd M_X_way) 107 = .ok (.aload_n 0, 1) := by decide +kernel
theorem d_X_way_108 : decode (mCd M_X_way) 108 = .ok (.getfield 26, 3) := by decide +kernel
theorem d_X_way_111 : decode (mCd M_X_way) 111 = .ok (.iload 4, 2) := by decide +kernel
theorem d_X_way_113 : decode (mCd M_X_way) 113 = .ok (.iload 5, 2) := by decide +kernel
theorem d_X_way_115 : decode (mCd M_X_way) 115 = .ok (.iconst 1, 1) := by decide +kernel
theorem d_X_way_116 : decode (mCd M_X_way) 116 = .ok (.isub, 1) := by decide +kernel
theorem d_X_way_117 : decode (mCd M_X_way) 117 = .ok (.invokevirtual 379, 3) := by decide +kernel
theorem d_X_way_120 : decode (mCd M_X_way) 120 = .ok (.istore 4, 2) := by decide +kernel
theorem d_X_way_122 : decode (mCd M_X_way) 122 = .ok (.aload_n 0, 1) := by decide +kernel
theorem d_X_way_123 : decode (mCd M_X_way) 123 = .ok (.getfield 19, 3) := by decide +kernel
theorem d_X_way_126 : decode (mCd M_X_way) 126 = .ok (.iload 4, 2) := by decide +kernel
theorem d_X_way_128 : decode (mCd M_X_way) 128 = .ok (.i2l, 1) := by decide +kernel
theorem d_X_way_129 : decode (mCd M_X_way) 129 = .ok (.invokevirtual 234, 3) := by decide +kernel
theorem d_X_way_132 : decode (mCd M_X_way) 132 = .ok (.iinc 5 (-1), 3) := by decide +kernel
theorem d_X_way_135 : decode (mCd M_X_way) 135 = .ok (.goto (-39), 3) := by decide +kernel
theorem d_X_way_138 : decode (mCd M_X_way) 138 = .ok (.iload_n 3, 1) := by decide +kernel
theorem d_X_way_139 : decode (mCd M_X_way) 139 = .ok (.ireturn, 1) := by decide +kernel
theorem d_X_farthest_0 : decode (mCd M_X_farthest) 0 = .ok (.aload_n 0, 1) := by decide +kernel
theorem d_X_farthest_1 : decode (mCd M_X_farthest) 1 = .ok (.getfield 26, 3) := by decide +kernel
theorem d_X_farthest_4 : decode (mCd M_X_farthest) 4 = .ok (.aload_n 0, 1) := by decide +kernel
theorem d_X_farthest_5 : decode (mCd M_X_farthest) 5 = .ok (.getfield 65, 3) := by decide +kernel
theorem d_X_farthest_8 : decode (mCd M_X_farthest) 8 = .ok (.getfield 137, 3) := by decide +kernel
theorem d_X_farthest_11 : decode (mCd M_X_farthest) 11 = .ok (.invokevirtual 373, 3) := by decide +kernel
theorem d_X_farthest_14 : decode (mCd M_X_farthest) 14 = .ok (.aload_n 0, 1) := by decide +kernel
theorem d_X_farthest_15 : decode (mCd M_X_farthest) 15 = .ok (.getfield 65, 3) := by decide +kernel
theorem d_X_farthest_18 : decode (mCd M_X_farthest) 18 = .ok (.getfield 137, 3) := by decide +kernel
theorem d_X_farthest_21 : decode (mCd M_X_farthest) 21 = .ok (.istore_n 1, 1) := by decide +kernel
theorem d_X_farthest_22 : decode (mCd M_X_farthest) 22 = .ok (.iconst 0, 1) := by decide +kernel
theorem d_X_farthest_23 : decode (mCd M_X_farthest) 23 = .ok (.istore_n 2, 1) := by decide +kernel
theorem d_X_farthest_24 : decode (mCd M_X_farthest) 24 = .ok (.lconst 0, 1) := by decide +kernel
theorem d_X_farthest_25 : decode (mCd M_X_farthest) 25 = .ok (.lstore_n 3, 1) := by decide +kernel
theorem d_X_farthest_26 : decode (mCd M_X_farthest) 26 = .ok (.iconst 0, 1) := by decide +kernel
theorem d_X_farthest_27 : decode (mCd M_X_farthest) 27 = .ok (.istore 5, 2) := by decide +kernel
theorem d_X_farthest_29 : decode (mCd M_X_farthest) 29 = .ok (.iload 5, 2) := by decide +kernel
theorem d_X_farthest_31 : decode (mCd M_X_farthest) 31 = .ok (.aload_n 0, 1) := by decide +kernel
theorem d_X_farthest_32 : decode (mCd M_X_farthest) 32 = .ok (.getfield 26, 3) := by decide +kernel
theorem d_X_farthest_35 : decode (mCd M_X_farthest) 35 = .ok (.invokevirtual 148, 3) := by decide +kernel
theorem d_X_farthest_38 : decode (mCd M_X_farthest) 38 = .ok (.if_icmp .ge 57, 3) := by decide +kernel
theorem d_X_farthest_41 : decode (mCd M_X_farthest) 41 = .ok (.aload_n 0, 1) := by decide +kernel
theorem d_X_farthest_42 : decode (mCd M_X_farthest) 42 = .ok (.getfield 26, 3) := by decide +kernel
theorem d_X_farthest_45 : decode (mCd M_X_farthest) 45 = .ok (.iload 5, 2) := by decide +kernel
theorem d_X_farthest_47 : decode (mCd M_X_farthest) 47 = .ok (.invokevirtual 376, 3) := by decide +kernel
theorem d_X_farthest_50 : decode (mCd M_X_farthest) 50 = .ok (.istore 6, 2) := by decide +kernel
theorem d_X_farthest_52 : decode (mCd M_X_farthest) 52 = .ok (.iload 6, 2) := by decide +kernel
theorem d_X_farthest_54 : decode (mCd M_X_farthest) 54 = .ok (.iload_n 2, 1) := by decide +kernel
theorem d_X_farthest_55 : decode (mCd M_X_farthest) 55 = .ok (.if_icmp .le 9, 3) := by decide +kernel
theorem d_X_farthest_58 : decode (mCd M_X_farthest) 58 = .ok (.iload 6, 2) := by decide +kernel
theorem d_X_farthest_60 : decode (mCd M_X_farthest) 60 = .ok (.istore_n 2, 1) := by decide +kernel
theorem d_X_farthest_61 : decode (mCd M_X_farthest) 61 = .ok (.iload 5, 2) := by decide +kernel
theorem d_X_farthest_63 : decode (mCd M_X_farthest) 63 = .ok (.istore_n 1, 1) := by decide +kernel
theorem d_X_farthest_64 : decode (mCd M_X_farthest) 64 = .ok (.iload 6, 2) := by decide +kernel
theorem d_X_farthest_66 : decode (mCd M_X_farthest) 66 = .ok (.iconst (-1), 1) := by decide +kernel
theorem d_X_farthest_67 : decode (mCd M_X_farthest) 67 = .ok (.if_icmp .ne 22, 3) := by decide +kernel
theorem d_X_farthest_70 : decode (mCd M_X_farthest) 70 = .ok (.aload_n 0, 1) := by decide +kernel
theorem d_X_farthest_71 : decode (mCd M_X_farthest) 71 = .ok (.getfield 26, 3) := by decide +kernel
theorem d_X_farthest_74 : decode (mCd M_X_farthest) 74 = .ok (.iload 5, 2) := by decide +kernel
theorem d_X_farthest_76 : decode (mCd M_X_farthest) 76 = .ok (.invokevirtual 212, 3) := by decide +kernel
theorem d_X_farthest_79 : decode (mCd M_X_farthest) 79 = .ok (.ifCond .ne 10, 3) := by decide +kernel
theorem d_X_farthest_82 : decode (mCd M_X_farthest) 82 = .ok (.lload_n 3, 1) := by decide +kernel
theorem d_X_farthest_83 : decode (mCd M_X_farthest) 83 = .ok (.lconst 1, 1) := by decide +kernel
theorem d_X_farthest_84 : decode (mCd M_X_farthest) 84 = .ok (.iload 5, 2) := by decide +kernel
theorem d_X_farthest_86 : decode (mCd M_X_farthest) 86 = .ok (.lshl, 1) := by decide +kernel
theorem d_X_farthest_87 : decode (mCd M_X_farthest) 87 = .ok (.lor, 1) := by decide +kernel
theorem d_X_farthest_88 : decode (mCd M_X_farthest) 88 = .ok (.lstore_n 3, 1) := by decide +kernel
theorem d_X_farthest_89 : decode (mCd M_X_farthest) 89 = .ok (.iinc 5 1, 3) := by decide +kernel
theorem d_X_farthest_92 : decode (mCd M_X_farthest) 92 = .ok (.goto (-63), 3) := by decide +kernel
theorem d_X_farthest_95 : decode (mCd M_X_farthest) 95 = .ok (.aload_n 0, 1) := by decide +kernel
theorem d_X_farthest_96 : decode (mCd M_X_farthest) 96 = .ok (.getfield 19, 3) := by decide +kernel
theorem d_X_farthest_99 : decode (mCd M_X_farthest) 99 = .ok (.invokevirtual 228, 3) := by decide +kernel
theorem d_X_farthest_102 : decode (mCd M_X_farthest) 102 = .ok (.aload_n 0, 1) := by decide +kernel
theorem d_X_farthest_103 : decode (mCd M_X_farthest) 103 = .ok (.getfield 19, 3) := by decide +kernel
theorem d_X_farthest_106 : decode (mCd M_X_farthest) 106 = .ok (.iload_n 2, 1) := by decide +kernel
theorem d_X_farthest_107 : decode (mCd M_X_farthest) 107 = .ok (.i2l, 1) := by decide +kernel
theorem d_X_farthest_108 : decode (mCd M_X_farthest) 108 = .ok (.invokevirtual 234, 3) := by decide +kernel
theorem d_X_farthest_111 : decode (mCd M_X_farthest) 111 = .ok (.aload_n 0, 1) := by decide +kernel
theorem d_X_farthest_112 : decode (mCd M_X_farthest) 112 = .ok (.getfield 19, 3) := by decide +kernel
theorem d_X_farthest_115 : decode (mCd M_X_farthest) 115 = .ok (.lload_n 3, 1) := by decide +kernel
theorem d_X_farthest_116 : decode (mCd M_X_farthest) 116 = .ok (.invokevirtual 234, 3) := by decide +kernel
theorem d_X_farthest_119 : decode (mCd M_X_farthest) 119 = .ok (.iload_n 1, 1) := by decide +kernel
theorem d_X_farthest_120 : decode (mCd M_X_farthest) 120 = .ok (.ireturn, 1) := by decide +kernel
theorem d_X_drifts_0 : decode (mCd M_X_drifts) 0 = .ok (.iload_n 1, 1) := by decide +kernel
theorem d_X_drifts_1 : decode (mCd M_X_drifts) 1 = .ok (.ifCond .lt 18, 3) := by decide +kernel
theorem d_X_drifts_4 : decode (mCd M_X_drifts) 4 = .ok (.iload_n 1, 1) := by decide +kernel
theorem d_X_drifts_5 : decode (mCd M_X_drifts) 5 = .ok (.iconst 4, 1) := by decide +kernel
theorem d_X_drifts_6 : decode (mCd M_X_drifts) 6 = .ok (.if_icmp .gt 13, 3) := by decide +kernel
theorem d_X_drifts_9 : decode (mCd M_X_drifts) 9 = .ok (.iload_n 2, 1) := by decide +kernel
theorem d_X_drifts_10 : decode (mCd M_X_drifts) 10 = .ok (.ifCond .lt 9, 3) := by decide +kernel
theorem d_X_drifts_13 : decode (mCd M_X_drifts) 13 = .ok (.iload_n 2, 1) := by decide +kernel
theorem d_X_drifts_14 : decode (mCd M_X_drifts) 14 = .ok (.bipush 10, 2) := by decide +kernel
theorem d_X_drifts_16 : decode (mCd M_X_drifts) 16 = .ok (.if_icmp .le 5, 3) := by decide +kernel
theorem d_X_drifts_19 : decode (mCd M_X_drifts) 19 = .ok (.iconst (-1), 1) := by decide +kernel
theorem d_X_drifts_20 : decode (mCd M_X_drifts) 20 = .ok (.ireturn, 1) := by decide +kernel
theorem d_X_drifts_21 : decode (mCd M_X_drifts) 21 = .ok (.aload_n 0, 1) := by decide +kernel
theorem d_X_drifts_22 : decode (mCd M_X_drifts) 22 = .ok (.getfield 49, 3) := by decide +kernel
theorem d_X_drifts_25 : decode (mCd M_X_drifts) 25 = .ok (.aload_n 0, 1) := by decide +kernel
theorem d_X_drifts_26 : decode (mCd M_X_drifts) 26 = .ok (.getfield 65, 3) := by decide +kernel
theorem d_X_drifts_29 : decode (mCd M_X_drifts) 29 = .ok (.aload_n 0, 1) := by decide +kernel
theorem d_X_drifts_30 : decode (mCd M_X_drifts) 30 = .ok (.getfield 105, 3) := by decide +kernel
theorem d_X_drifts_33 : decode (mCd M_X_drifts) 33 = .ok (.invokevirtual 200, 3) := by decide +kernel
theorem d_X_drifts_36 : decode (mCd M_X_drifts) 36 = .ok (.aload_n 0, 1) := by decide +kernel
theorem d_X_drifts_37 : decode (mCd M_X_drifts) 37 = .ok (.getfield 49, 3) := by decide +kernel
theorem d_X_drifts_40 : decode (mCd M_X_drifts) 40 = .ok (.invokevirtual 344, 3) := by decide +kernel
theorem d_X_drifts_43 : decode (mCd M_X_drifts) 43 = .ok (.istore_n 3, 1) := by decide +kernel
theorem d_X_drifts_44 : decode (mCd M_X_drifts) 44 = .ok (.iload_n 1, 1) := by decide +kernel
theorem d_X_drifts_45 : decode (mCd M_X_drifts) 45 = .ok (.iconst 4, 1) := by decide +kernel
theorem d_X_drifts_46 : decode (mCd M_X_drifts) 46 = .ok (.if_icmp .ne 8, 3) := by decide +kernel
theorem d_X_drifts_49 : decode (mCd M_X_drifts) 49 = .ok (.bipush (-2), 2) := by decide +kernel
theorem d_X_drifts_51 : decode (mCd M_X_drifts) 51 = .ok (.goto 4, 3) := by decide +kernel
theorem d_X_drifts_54 : decode (mCd M_X_drifts) 54 = .ok (.iload_n 1, 1) := by decide +kernel
theorem d_X_drifts_55 : decode (mCd M_X_drifts) 55 = .ok (.istore 4, 2) := by decide +kernel
theorem d_X_drifts_57 : decode (mCd M_X_drifts) 57 = .ok (.lconst 0, 1) := by decide +kernel
theorem d_X_drifts_58 : decode (mCd M_X_drifts) 58 = .ok (.lstore 5, 2) := by decide +kernel
theorem d_X_drifts_60 : decode (mCd M_X_drifts) 60 = .ok (.bipush 10, 2) := by decide +kernel
theorem d_X_drifts_62 : decode (mCd M_X_drifts) 62 = .ok (.iload_n 3, 1) := by decide +kernel
theorem d_X_drifts_63 : decode (mCd M_X_drifts) 63 = .ok (.invokestatic 318, 3) := by decide +kernel
theorem d_X_drifts_66 : decode (mCd M_X_drifts) 66 = .ok (.invokestatic 382, 3) := by decide +kernel
theorem d_X_drifts_69 : decode (mCd M_X_drifts) 69 = .ok (.lstore 7, 2) := by decide +kernel
theorem d_X_drifts_71 : decode (mCd M_X_drifts) 71 = .ok (.iconst 0, 1) := by decide +kernel
theorem d_X_drifts_72 : decode (mCd M_X_drifts) 72 = .ok (.istore 9, 2) := by decide +kernel
theorem d_X_drifts_74 : decode (mCd M_X_drifts) 74 = .ok (.iload 9, 2) := by decide +kernel
theorem d_X_drifts_76 : decode (mCd M_X_drifts) 76 = .ok (.iconst 1, 1) := by decide +kernel
theorem d_X_drifts_77 : decode (mCd M_X_drifts) 77 = .ok (.aload_n 0, 1) := by decide +kernel
theorem d_X_drifts_78 : decode (mCd M_X_drifts) 78 = .ok (.getfield 33, 3) := by decide +kernel
theorem d_X_drifts_81 : decode (mCd M_X_drifts) 81 = .ok (.getfield 131, 3) := by decide +kernel
theorem d_X_drifts_84 : decode (mCd M_X_drifts) 84 = .ok (.ishl, 1) := by decide +kernel
theorem d_X_drifts_85 : decode (mCd M_X_drifts) 85 = .ok (.if_icmp .ge 64, 3) := by decide +kernel
theorem d_X_drifts_88 : decode (mCd M_X_drifts) 88 = .ok (.iload 9, 2) := by decide +kernel
theorem d_X_drifts_90 : decode (mCd M_X_drifts) 90 = .ok (.iload_n 3, 1) := by decide +kernel
theorem d_X_drifts_91 : decode (mCd M_X_drifts) 91 = .ok (.iconst (-1), 1) := by decide +kernel
theorem d_X_drifts_92 : decode (mCd M_X_drifts) 92 = .ok (.ixor, 1) := by decide +kernel
theorem d_X_drifts_93 : decode (mCd M_X_drifts) 93 = .ok (.iand, 1) := by decide +kernel
theorem d_X_drifts_94 : decode (mCd M_X_drifts) 94 = .ok (.ifCond .ne 49, 3) := by decide +kernel
theorem d_X_drifts_97 : decode (mCd M_X_drifts) 97 = .ok (.aload_n 0, 1) := by decide +kernel
theorem d_X_drifts_98 : decode (mCd M_X_drifts) 98 = .ok (.iload 9, 2) := by decide +kernel
theorem d_X_drifts_100 : decode (mCd M_X_drifts) 100 = .ok (.invokevirtual 353, 3) := by decide +kernel
theorem d_X_drifts_103 : decode (mCd M_X_drifts) 103 = .ok (.iload 4, 2) := by decide +kernel
theorem d_X_drifts_105 : decode (mCd M_X_drifts) 105 = .ok (.if_icmp .ne 38, 3) := by decide +kernel
theorem d_X_drifts_108 : decode (mCd M_X_drifts) 108 = .ok (.iload_n 3, 1) := by decide +kernel
theorem d_X_drifts_109 : decode (mCd M_X_drifts) 109 = .ok (.iload 9, 2) := by decide +kernel
theorem d_X_drifts_111 : decode (mCd M_X_drifts) 111 = .ok (.iconst (-1), 1) := by decide +kernel
theorem d_X_drifts_112 : decode (mCd M_X_drifts) 112 = .ok (.ixor, 1) := by decide +kernel
theorem d_X_drifts_113 : decode (mCd M_X_drifts) 113 = .ok (.iand, 1) := by decide +kernel
theorem d_X_drifts_114 : decode (mCd M_X_drifts) 114 = .ok (.invokestatic 318, 3) := by decide +kernel
theorem d_X_drifts_117 : decode (mCd M_X_drifts) 117 = .ok (.istore 10, 2) := by decide +kernel
theorem d_X_drifts_119 : decode (mCd M_X_drifts) 119 = .ok (.lload 5, 2) := by decide +kernel
theorem d_X_drifts_121 : decode (mCd M_X_drifts) 121 = .ok (.iload_n 2, 1) := by decide +kernel
theorem d_X_drifts_122 : decode (mCd M_X_drifts) 122 = .ok (.iload 10, 2) := by decide +kernel
theorem d_X_drifts_124 : decode (mCd M_X_drifts) 124 = .ok (.invokestatic 382, 3) := by decide +kernel
theorem d_X_drifts_127 : decode (mCd M_X_drifts) 127 = .ok (.bipush 10, 2) := by decide +kernel
theorem d_X_drifts_129 : decode (mCd M_X_drifts) 129 = .ok (.iload_n 2, 1) := by decide +kernel
theorem d_X_drifts_130 : decode (mCd M_X_drifts) 130 = .ok (.isub, 1) := by decide +kernel
theorem d_X_drifts_131 : decode (mCd M_X_drifts) 131 = .ok (.iload 9, 2) := by decide +kernel
theorem d_X_drifts_133 : decode (mCd M_X_drifts) 133 = .ok (.invokestatic 318, 3) := by decide +kernel
theorem d_X_drifts_136 : decode (mCd M_X_drifts) 136 = .ok (.invokestatic 382, 3) := by decide +kernel
theorem d_X_drifts_139 : decode (mCd M_X_drifts) 139 = .ok (.lmul, 1) := by decide +kernel
theorem d_X_drifts_140 : decode (mCd M_X_drifts) 140 = .ok (.ladd, 1) := by decide +kernel
theorem d_X_drifts_141 : decode (mCd M_X_drifts) 141 = .ok (.lstore 5, 2) := by decide +kernel
theorem d_X_drifts_143 : decode (mCd M_X_drifts) 143 = .ok (.iinc 9 1, 3) := by decide +kernel
theorem d_X_drifts_146 : decode (mCd M_X_drifts) 146 = .ok (.goto (-72), 3) := by decide +kernel
theorem d_X_drifts_149 : decode (mCd M_X_drifts) 149 = .ok (.lload 5, 2) := by decide +kernel
theorem d_X_drifts_151 : decode (mCd M_X_drifts) 151 = .ok (.lload 7, 2) := by decide +kernel
theorem d_X_drifts_153 : decode (mCd M_X_drifts) 153 = .ok (.invokestatic 386, 3) := by decide +kernel
theorem d_X_drifts_156 : decode (mCd M_X_drifts) 156 = .ok (.lstore 9, 2) := by decide +kernel
theorem d_X_drifts_158 : decode (mCd M_X_drifts) 158 = .ok (.aload_n 0, 1) := by decide +kernel
theorem d_X_drifts_159 : decode (mCd M_X_drifts) 159 = .ok (.getfield 19, 3) := by decide +kernel
theorem d_X_drifts_162 : decode (mCd M_X_drifts) 162 = .ok (.invokevirtual 228, 3) := by decide +kernel
theorem d_X_drifts_165 : decode (mCd M_X_drifts) 165 = .ok (.aload_n 0, 1) := by decide +kernel
theorem d_X_drifts_166 : decode (mCd M_X_drifts) 166 = .ok (.getfield 19, 3) := by decide +kernel
theorem d_X_drifts_169 : decode (mCd M_X_drifts) 169 = .ok (.lload 5, 2) := by decide +kernel
theorem d_X_drifts_171 : decode (mCd M_X_drifts) 171 = .ok (.lload 9, 2) := by decide +kernel
theorem d_X_drifts_173 : decode (mCd M_X_drifts) 173 = .ok (.ldiv, 1) := by decide +kernel
theorem d_X_drifts_174 : decode (mCd M_X_drifts) 174 = .ok (.invokevirtual 234, 3) := by decide +kernel
theorem d_X_drifts_177 : decode (mCd M_X_drifts) 177 = .ok (.aload_n 0, 1) := by decide +kernel
theorem d_X_drifts_178 : decode (mCd M_X_drifts) 178 = .ok (.getfield 19, 3) := by decide +kernel
theorem d_X_drifts_181 : decode (mCd M_X_drifts) 181 = .ok (.lload 7, 2) := by decide +kernel
theorem d_X_drifts_183 : decode (mCd M_X_drifts) 183 = .ok (.lload 9, 2) := by decide +kernel
theorem d_X_drifts_185 : decode (mCd M_X_drifts) 185 = .ok (.ldiv, 1) := by decide +kernel
theorem d_X_drifts_186 : decode (mCd M_X_drifts) 186 = .ok (.invokevirtual 234, 3) := by decide +kernel
theorem d_X_drifts_189 : decode (mCd M_X_drifts) 189 = .ok (.iconst 0, 1) := by decide +kernel
theorem d_X_drifts_190 : decode (mCd M_X_drifts) 190 = .ok (.ireturn, 1) := by decide +kernel
theorem d_X_game_0 : decode (mCd M_X_game) 0 = .ok (.iload_n 1, 1) := by decide +kernel
theorem d_X_game_1 : decode (mCd M_X_game) 1 = .ok (.ifCond .lt 20, 3) := by decide +kernel
theorem d_X_game_4 : decode (mCd M_X_game) 4 = .ok (.iload_n 1, 1) := by decide +kernel
theorem d_X_game_5 : decode (mCd M_X_game) 5 = .ok (.bipush 60, 2) := by decide +kernel
theorem d_X_game_7 : decode (mCd M_X_game) 7 = .ok (.if_icmp .gt 14, 3) := by decide +kernel
theorem d_X_game_10 : decode (mCd M_X_game) 10 = .ok (.iload_n 2, 1) := by decide +kernel
theorem d_X_game_11 : decode (mCd M_X_game) 11 = .ok (.iconst 2, 1) := by decide +kernel
theorem d_X_game_12 : decode (mCd M_X_game) 12 = .ok (.if_icmp .lt 9, 3) := by decide +kernel
theorem d_X_game_15 : decode (mCd M_X_game) 15 = .ok (.iload_n 2, 1) := by decide +kernel
theorem d_X_game_16 : decode (mCd M_X_game) 16 = .ok (.bipush 9, 2) := by decide +kernel
theorem d_X_game_18 : decode (mCd M_X_game) 18 = .ok (.if_icmp .le 5, 3) := by decide +kernel
theorem d_X_game_21 : decode (mCd M_X_game) 21 = .ok (.iconst (-1), 1) := by decide +kernel
theorem d_X_game_22 : decode (mCd M_X_game) 22 = .ok (.ireturn, 1) := by decide +kernel
theorem d_X_game_23 : decode (mCd M_X_game) 23 = .ok (.iload_n 1, 1) := by decide +kernel
theorem d_X_game_24 : decode (mCd M_X_game) 24 = .ok (.ifCond .ne 6, 3) := by decide +kernel
theorem d_X_game_27 : decode (mCd M_X_game) 27 = .ok (.bipush (-2), 2) := by decide +kernel
theorem d_X_game_29 : decode (mCd M_X_game) 29 = .ok (.ireturn, 1) := by decide +kernel
theorem d_X_game_30 : decode (mCd M_X_game) 30 = .ok (.lconst 0, 1) := by decide +kernel
theorem d_X_game_31 : decode (mCd M_X_game) 31 = .ok (.lstore_n 3, 1) := by decide +kernel
theorem d_X_game_32 : decode (mCd M_X_game) 32 = .ok (.lconst 0, 1) := by decide +kernel
theorem d_X_game_33 : decode (mCd M_X_game) 33 = .ok (.lstore 5, 2) := by decide +kernel
theorem d_X_game_35 : decode (mCd M_X_game) 35 = .ok (.iconst 1, 1) := by decide +kernel
theorem d_X_game_36 : decode (mCd M_X_game) 36 = .ok (.istore 7, 2) := by decide +kernel
theorem d_X_game_38 : decode (mCd M_X_game) 38 = .ok (.iload 7, 2) := by decide +kernel
theorem d_X_game_40 : decode (mCd M_X_game) 40 = .ok (.iload_n 1, 1) := by decide +kernel
theorem d_X_game_41 : decode (mCd M_X_game) 41 = .ok (.if_icmp .gt 99, 3) := by decide +kernel
theorem d_X_game_44 : decode (mCd M_X_game) 44 = .ok (.lload 5, 2) := by decide +kernel
theorem d_X_game_46 : decode (mCd M_X_game) 46 = .ok (.iload 7, 2) := by decide +kernel
theorem d_X_game_48 : decode (mCd M_X_game) 48 = .ok (.iconst 1, 1) := by decide +kernel
theorem d_X_game_49 : decode (mCd M_X_game) 49 = .ok (.invokestatic 390, 3) := by decide +kernel
theorem d_X_game_52 : decode (mCd M_X_game) 52 = .ok (.ifCond .ne 14, 3) := by decide +kernel
theorem d_X_game_55 : decode (mCd M_X_game) 55 = .ok (.lload 5, 2) := by decide +kernel
theorem d_X_game_57 : decode (mCd M_X_game) 57 = .ok (.iload 7, 2) := by decide +kernel
theorem d_X_game_59 : decode (mCd M_X_game) 59 = .ok (.iconst 2, 1) := by decide +kernel
theorem d_X_game_60 : decode (mCd M_X_game) 60 = .ok (.invokestatic 390, 3) := by decide +kernel
theorem d_X_game_63 : decode (mCd M_X_game) 63 = .ok (.ifCond .eq 7, 3) := by decide +kernel
theorem d_X_game_66 : decode (mCd M_X_game) 66 = .ok (.iconst 1, 1) := by decide +kernel
theorem d_X_game_67 : decode (mCd M_X_game) 67 = .ok (.goto 4, 3) := by decide +kernel
theorem d_X_game_70 : decode (mCd M_X_game) 70 = .ok (.iconst 0, 1) := by decide +kernel
theorem d_X_game_71 : decode (mCd M_X_game) 71 = .ok (.istore 8, 2) := by decide +kernel
theorem d_X_game_73 : decode (mCd M_X_game) 73 = .ok (.lload_n 3, 1) := by decide +kernel
theorem d_X_game_74 : decode (mCd M_X_game) 74 = .ok (.iload 7, 2) := by decide +kernel
theorem d_X_game_76 : decode (mCd M_X_game) 76 = .ok (.iconst 1, 1) := by decide +kernel
theorem d_X_game_77 : decode (mCd M_X_game) 77 = .ok (.invokestatic 390, 3) := by decide +kernel
theorem d_X_game_80 : decode (mCd M_X_game) 80 = .ok (.ifCond .ne 13, 3) := by decide +kernel
theorem d_X_game_83 : decode (mCd M_X_game) 83 = .ok (.lload_n 3, 1) := by decide +kernel
theorem d_X_game_84 : decode (mCd M_X_game) 84 = .ok (.iload 7, 2) := by decide +kernel
theorem d_X_game_86 : decode (mCd M_X_game) 86 = .ok (.iload_n 2, 1) := by decide +kernel
theorem d_X_game_87 : decode (mCd M_X_game) 87 = .ok (.invokestatic 390, 3) := by decide +kernel
theorem d_X_game_90 : decode (mCd M_X_game) 90 = .ok (.ifCond .eq 7, 3) := by decide +kernel
theorem d_X_game_93 : decode (mCd M_X_game) 93 = .ok (.iconst 1, 1) := by decide +kernel
theorem d_X_game_94 : decode (mCd M_X_game) 94 = .ok (.goto 4, 3) := by decide +kernel
theorem d_X_game_97 : decode (mCd M_X_game) 97 = .ok (.iconst 0, 1) := by decide +kernel
theorem d_X_game_98 : decode (mCd M_X_game) 98 = .ok (.istore 9, 2) := by decide +kernel
theorem d_X_game_100 : decode (mCd M_X_game) 100 = .ok (.lload_n 3, 1) := by decide +kernel
theorem d_X_game_101 : decode (mCd M_X_game) 101 = .ok (.iload 8, 2) := by decide +kernel
theorem d_X_game_103 : decode (mCd M_X_game) 103 = .ok (.ifCond .eq 10, 3) := by decide +kernel
theorem d_X_game_106 : decode (mCd M_X_game) 106 = .ok (.lconst 1, 1) := by decide +kernel
theorem d_X_game_107 : decode (mCd M_X_game) 107 = .ok (.iload 7, 2) := by decide +kernel
theorem d_X_game_109 : decode (mCd M_X_game) 109 = .ok (.lshl, 1) := by decide +kernel
theorem d_X_game_110 : decode (mCd M_X_game) 110 = .ok (.goto 4, 3) := by decide +kernel
theorem d_X_game_113 : decode (mCd M_X_game) 113 = .ok (.lconst 0, 1) := by decide +kernel
theorem d_X_game_114 : decode (mCd M_X_game) 114 = .ok (.lor, 1) := by decide +kernel
theorem d_X_game_115 : decode (mCd M_X_game) 115 = .ok (.lstore_n 3, 1) := by decide +kernel
theorem d_X_game_116 : decode (mCd M_X_game) 116 = .ok (.lload 5, 2) := by decide +kernel
theorem d_X_game_118 : decode (mCd M_X_game) 118 = .ok (.iload 9, 2) := by decide +kernel
theorem d_X_game_120 : decode (mCd M_X_game) 120 = .ok (.ifCond .eq 10, 3) := by decide +kernel
theorem d_X_game_123 : decode (mCd M_X_game) 123 = .ok (.lconst 1, 1) := by decide +kernel
theorem d_X_game_124 : decode (mCd M_X_game) 124 = .ok (.iload 7, 2) := by decide +kernel
theorem d_X_game_126 : decode (mCd M_X_game) 126 = .ok (.lshl, 1) := by decide +kernel
theorem d_X_game_127 : decode (mCd M_X_game) 127 = .ok (.goto 4, 3) := by decide +kernel
theorem d_X_game_130 : decode (mCd M_X_game) 130 = .ok (.lconst 0, 1) := by decide +kernel
theorem d_X_game_131 : decode (mCd M_X_game) 131 = .ok (.lor, 1) := by decide +kernel
theorem d_X_game_132 : decode (mCd M_X_game) 132 = .ok (.lstore 5, 2) := by decide +kernel
theorem d_X_game_134 : decode (mCd M_X_game) 134 = .ok (.iinc 7 1, 3) := by decide +kernel
theorem d_X_game_137 : decode (mCd M_X_game) 137 = .ok (.goto (-99), 3) := by decide +kernel
theorem d_X_game_140 : decode (mCd M_X_game) 140 = .ok (.aload_n 0, 1) := by decide +kernel
theorem d_X_game_141 : decode (mCd M_X_game) 141 = .ok (.getfield 19, 3) := by decide +kernel
theorem d_X_game_144 : decode (mCd M_X_game) 144 = .ok (.invokevirtual 228, 3) := by decide +kernel
theorem d_X_game_147 : decode (mCd M_X_game) 147 = .ok (.lload_n 3, 1) := by decide +kernel
theorem d_X_game_148 : decode (mCd M_X_game) 148 = .ok (.iload_n 1, 1) := by decide +kernel
theorem d_X_game_149 : decode (mCd M_X_game) 149 = .ok (.lushr, 1) := by decide +kernel
theorem d_X_game_150 : decode (mCd M_X_game) 150 = .ok (.lconst 1, 1) := by decide +kernel
theorem d_X_game_151 : decode (mCd M_X_game) 151 = .ok (.land, 1) := by decide +kernel
theorem d_X_game_152 : decode (mCd M_X_game) 152 = .ok (.lconst 0, 1) := by decide +kernel
theorem d_X_game_153 : decode (mCd M_X_game) 153 = .ok (.lcmp, 1) := by decide +kernel
theorem d_X_game_154 : decode (mCd M_X_game) 154 = .ok (.ifCond .ne 5, 3) := by decide +kernel
theorem d_X_game_157 : decode (mCd M_X_game) 157 = .ok (.iconst 0, 1) := by decide +kernel
theorem d_X_game_158 : decode (mCd M_X_game) 158 = .ok (.ireturn, 1) := by decide +kernel
theorem d_X_game_159 : decode (mCd M_X_game) 159 = .ok (.aload_n 0, 1) := by decide +kernel
theorem d_X_game_160 : decode (mCd M_X_game) 160 = .ok (.getfield 19, 3) := by decide +kernel
theorem d_X_game_163 : decode (mCd M_X_game) 163 = .ok (.lload 5, 2) := by decide +kernel
theorem d_X_game_165 : decode (mCd M_X_game) 165 = .ok (.iload_n 1, 1) := by decide +kernel
theorem d_X_game_166 : decode (mCd M_X_game) 166 = .ok (.iconst 1, 1) := by decide +kernel
theorem d_X_game_167 : decode (mCd M_X_game) 167 = .ok (.invokestatic 390, 3) := by decide +kernel
theorem d_X_game_170 : decode (mCd M_X_game) 170 = .ok (.ifCond .eq 7, 3) := by decide +kernel
theorem d_X_game_173 : decode (mCd M_X_game) 173 = .ok (.lconst 1, 1) := by decide +kernel
theorem d_X_game_174 : decode (mCd M_X_game) 174 = .ok (.goto 6, 3) := by decide +kernel
theorem d_X_game_177 : decode (mCd M_X_game) 177 = .ok (.ldc2_w 394, 3) := by decide +kernel
theorem d_X_game_180 : decode (mCd M_X_game) 180 = .ok (.invokevirtual 234, 3) := by decide +kernel
theorem d_X_game_183 : decode (mCd M_X_game) 183 = .ok (.iconst 1, 1) := by decide +kernel
theorem d_X_game_184 : decode (mCd M_X_game) 184 = .ok (.ireturn, 1) := by decide +kernel
theorem d_X_law_0 : decode (mCd M_X_law) 0 = .ok (.aload_n 0, 1) := by decide +kernel
theorem d_X_law_1 : decode (mCd M_X_law) 1 = .ok (.getfield 109, 3) := by decide +kernel
theorem d_X_law_4 : decode (mCd M_X_law) 4 = .ok (.aload_n 0, 1) := by decide +kernel
theorem d_X_law_5 : decode (mCd M_X_law) 5 = .ok (.getfield 10, 3) := by decide +kernel
theorem d_X_law_8 : decode (mCd M_X_law) 8 = .ok (.invokevirtual 169, 3) := by decide +kernel
theorem d_X_law_11 : decode (mCd M_X_law) 11 = .ok (.istore_n 1, 1) := by decide +kernel
theorem d_X_law_12 : decode (mCd M_X_law) 12 = .ok (.aload_n 0, 1) := by decide +kernel
theorem d_X_law_13 : decode (mCd M_X_law) 13 = .ok (.getfield 10, 3) := by decide +kernel
theorem d_X_law_16 : decode (mCd M_X_law) 16 = .ok (.invokevirtual 147, 3) := by decide +kernel
theorem d_X_law_19 : decode (mCd M_X_law) 19 = .ok (.iload_n 1, 1) := by decide +kernel
theorem d_X_law_20 : decode (mCd M_X_law) 20 = .ok (.iconst (-1), 1) := by decide +kernel
theorem d_X_law_21 : decode (mCd M_X_law) 21 = .ok (.if_icmp .eq 9, 3) := by decide +kernel
theorem d_X_law_24 : decode (mCd M_X_law) 24 = .ok (.sipush (-10000), 3) := by decide +kernel
theorem d_X_law_27 : decode (mCd M_X_law) 27 = .ok (.iload_n 1, 1) := by decide +kernel
theorem d_X_law_28 : decode (mCd M_X_law) 28 = .ok (.isub, 1) := by decide +kernel
theorem d_X_law_29 : decode (mCd M_X_law) 29 = .ok (.ireturn, 1) := by decide +kernel
theorem d_X_law_30 : decode (mCd M_X_law) 30 = .ok (.aload_n 0, 1) := by decide +kernel
theorem d_X_law_31 : decode (mCd M_X_law) 31 = .ok (.getfield 72, 3) := by decide +kernel
theorem d_X_law_34 : decode (mCd M_X_law) 34 = .ok (.aload_n 0, 1) := by decide +kernel
theorem d_X_law_35 : decode (mCd M_X_law) 35 = .ok (.getfield 65, 3) := by decide +kernel
theorem d_X_law_38 : decode (mCd M_X_law) 38 = .ok (.invokevirtual 219, 3) := by decide +kernel
theorem d_X_law_41 : decode (mCd M_X_law) 41 = .ok (.aload_n 0, 1) := by decide +kernel
theorem d_X_law_42 : decode (mCd M_X_law) 42 = .ok (.getfield 58, 3) := by decide +kernel
theorem d_X_law_45 : decode (mCd M_X_law) 45 = .ok (.aload_n 0, 1) := by decide +kernel
theorem d_X_law_46 : decode (mCd M_X_law) 46 = .ok (.getfield 72, 3) := by decide +kernel
theorem d_X_law_49 : decode (mCd M_X_law) 49 = .ok (.aload_n 0, 1) := by decide +kernel
theorem d_X_law_50 : decode (mCd M_X_law) 50 = .ok (.getfield 105, 3) := by decide +kernel
theorem d_X_law_53 : decode (mCd M_X_law) 53 = .ok (.bipush 12, 2) := by decide +kernel
theorem d_X_law_55 : decode (mCd M_X_law) 55 = .ok (.invokevirtual 291, 3) := by decide +kernel
theorem d_X_law_58 : decode (mCd M_X_law) 58 = .ok (.aload_n 0, 1) := by decide +kernel
theorem d_X_law_59 : decode (mCd M_X_law) 59 = .ok (.getfield 19, 3) := by decide +kernel
theorem d_X_law_62 : decode (mCd M_X_law) 62 = .ok (.invokevirtual 228, 3) := by decide +kernel
theorem d_X_law_65 : decode (mCd M_X_law) 65 = .ok (.aload_n 0, 1) := by decide +kernel
theorem d_X_law_66 : decode (mCd M_X_law) 66 = .ok (.getfield 19, 3) := by decide +kernel
theorem d_X_law_69 : decode (mCd M_X_law) 69 = .ok (.aload_n 0, 1) := by decide +kernel
theorem d_X_law_70 : decode (mCd M_X_law) 70 = .ok (.getfield 72, 3) := by decide +kernel
theorem d_X_law_73 : decode (mCd M_X_law) 73 = .ok (.getfield 137, 3) := by decide +kernel
theorem d_X_law_76 : decode (mCd M_X_law) 76 = .ok (.i2l, 1) := by decide +kernel
theorem d_X_law_77 : decode (mCd M_X_law) 77 = .ok (.invokevirtual 234, 3) := by decide +kernel
theorem d_X_law_80 : decode (mCd M_X_law) 80 = .ok (.aload_n 0, 1) := by decide +kernel
theorem d_X_law_81 : decode (mCd M_X_law) 81 = .ok (.getfield 49, 3) := by decide +kernel
theorem d_X_law_84 : decode (mCd M_X_law) 84 = .ok (.aload_n 0, 1) := by decide +kernel
theorem d_X_law_85 : decode (mCd M_X_law) 85 = .ok (.getfield 65, 3) := by decide +kernel
theorem d_X_law_88 : decode (mCd M_X_law) 88 = .ok (.aload_n 0, 1) := by decide +kernel
theorem d_X_law_89 : decode (mCd M_X_law) 89 = .ok (.getfield 109, 3) := by decide +kernel
theorem d_X_law_92 : decode (mCd M_X_law) 92 = .ok (.invokevirtual 200, 3) := by decide +kernel
theorem d_X_law_95 : decode (mCd M_X_law) 95 = .ok (.iconst 0, 1) := by decide +kernel
theorem d_X_law_96 : decode (mCd M_X_law) 96 = .ok (.istore_n 2, 1) := by decide +kernel
theorem d_X_law_97 : decode (mCd M_X_law) 97 = .ok (.iload_n 2, 1) := by decide +kernel
theorem d_X_law_98 : decode (mCd M_X_law) 98 = .ok (.aload_n 0, 1) := by decide +kernel
theorem d_X_law_99 : decode (mCd M_X_law) 99 = .ok (.getfield 33, 3) := by decide +kernel
theorem d_X_law_102 : decode (mCd M_X_law) 102 = .ok (.getfield 131, 3) := by decide +kernel
theorem d_X_law_105 : decode (mCd M_X_law) 105 = .ok (.if_icmp .ge 26, 3) := by decide +kernel
theorem d_X_law_108 : decode (mCd M_X_law) 108 = .ok (.aload_n 0, 1) := by decide +kernel
theorem d_X_law_109 : decode (mCd M_X_law) 109 = .ok (.getfield 19, 3) := by decide +kernel
theorem d_X_law_112 : decode (mCd M_X_law) 112 = .ok (.aload_n 0, 1) := by decide +kernel
theorem d_X_law_113 : decode (mCd M_X_law) 113 = .ok (.getfield 49, 3) := by decide +kernel
theorem d_X_law_116 : decode (mCd M_X_law) 116 = .ok (.getfield 204, 3) := by decide +kernel
theorem d_X_law_119 : decode (mCd M_X_law) 119 = .ok (.iload_n 2, 1) := by decide +kernel
theorem d_X_law_120 : decode (mCd M_X_law) 120 = .ok (.iaload, 1) := by decide +kernel
theorem d_X_law_121 : decode (mCd M_X_law) 121 = .ok (.i2l, 1) := by decide +kernel
theorem d_X_law_122 : decode (mCd M_X_law) 122 = .ok (.invokevirtual 234, 3) := by decide +kernel
theorem d_X_law_125 : decode (mCd M_X_law) 125 = .ok (.iinc 2 1, 3) := by decide +kernel
theorem d_X_law_128 : decode (mCd M_X_law) 128 = .ok (.goto (-31), 3) := by decide +kernel
theorem d_X_law_131 : decode (mCd M_X_law) 131 = .ok (.aload_n 0, 1) := by decide +kernel
theorem d_X_law_132 : decode (mCd M_X_law) 132 = .ok (.getfield 72, 3) := by decide +kernel
theorem d_X_law_135 : decode (mCd M_X_law) 135 = .ok (.aload_n 0, 1) := by decide +kernel
theorem d_X_law_136 : decode (mCd M_X_law) 136 = .ok (.getfield 65, 3) := by decide +kernel
theorem d_X_law_139 : decode (mCd M_X_law) 139 = .ok (.invokevirtual 219, 3) := by decide +kernel
theorem d_X_law_142 : decode (mCd M_X_law) 142 = .ok (.aload_n 0, 1) := by decide +kernel
theorem d_X_law_143 : decode (mCd M_X_law) 143 = .ok (.getfield 58, 3) := by decide +kernel
theorem d_X_law_146 : decode (mCd M_X_law) 146 = .ok (.aload_n 0, 1) := by decide +kernel
theorem d_X_law_147 : decode (mCd M_X_law) 147 = .ok (.getfield 72, 3) := by decide +kernel
theorem d_X_law_150 : decode (mCd M_X_law) 150 = .ok (.aload_n 0, 1) := by decide +kernel
theorem d_X_law_151 : decode (mCd M_X_law) 151 = .ok (.getfield 109, 3) := by decide +kernel
theorem d_X_law_154 : decode (mCd M_X_law) 154 = .ok (.bipush 12, 2) := by decide +kernel
theorem d_X_law_156 : decode (mCd M_X_law) 156 = .ok (.invokevirtual 291, 3) := by decide +kernel
theorem d_X_law_159 : decode (mCd M_X_law) 159 = .ok (.aload_n 0, 1) := by decide +kernel
theorem d_X_law_160 : decode (mCd M_X_law) 160 = .ok (.getfield 72, 3) := by decide +kernel
theorem d_X_law_163 : decode (mCd M_X_law) 163 = .ok (.getfield 137, 3) := by decide +kernel
theorem d_X_law_166 : decode (mCd M_X_law) 166 = .ok (.ireturn, 1) := by decide +kernel
theorem d_X_rests_0 : decode (mCd M_X_rests) 0 = .ok (.iload_n 1, 1) := by decide +kernel
theorem d_X_rests_1 : decode (mCd M_X_rests) 1 = .ok (.ifCond .lt 9, 3) := by decide +kernel
theorem d_X_rests_4 : decode (mCd M_X_rests) 4 = .ok (.iload_n 1, 1) := by decide +kernel
theorem d_X_rests_5 : decode (mCd M_X_rests) 5 = .ok (.bipush 20, 2) := by decide +kernel
theorem d_X_rests_7 : decode (mCd M_X_rests) 7 = .ok (.if_icmp .le 5, 3) := by decide +kernel
theorem d_X_rests_10 : decode (mCd M_X_rests) 10 = .ok (.iconst (-1), 1) := by decide +kernel
theorem d_X_rests_11 : decode (mCd M_X_rests) 11 = .ok (.ireturn, 1) := by decide +kernel
theorem d_X_rests_12 : decode (mCd M_X_rests) 12 = .ok (.iconst 0, 1) := by decide +kernel
theorem d_X_rests_13 : decode (mCd M_X_rests) 13 = .ok (.istore_n 2, 1) := by decide +kernel
theorem d_X_rests_14 : decode (mCd M_X_rests) 14 = .ok (.aload_n 0, 1) := by decide +kernel
theorem d_X_rests_15 : decode (mCd M_X_rests) 15 = .ok (.getfield 19, 3) := by decide +kernel
theorem d_X_rests_18 : decode (mCd M_X_rests) 18 = .ok (.invokevirtual 228, 3) := by decide +kernel
theorem d_X_rests_21 : decode (mCd M_X_rests) 21 = .ok (.iconst 0, 1) := by decide +kernel
theorem d_X_rests_22 : decode (mCd M_X_rests) 22 = .ok (.istore_n 3, 1) := by decide +kernel
theorem d_X_rests_23 : decode (mCd M_X_rests) 23 = .ok (.iload_n 3, 1) := by decide +kernel
theorem d_X_rests_24 : decode (mCd M_X_rests) 24 = .ok (.bipush 9, 2) := by decide +kernel
theorem d_X_rests_26 : decode (mCd M_X_rests) 26 = .ok (.if_icmp .gt 71, 3) := by decide +kernel
theorem d_X_rests_29 : decode (mCd M_X_rests) 29 = .ok (.iconst 0, 1) := by decide +kernel
theorem d_X_rests_30 : decode (mCd M_X_rests) 30 = .ok (.istore 4, 2) := by decide +kernel
theorem d_X_rests_32 : decode (mCd M_X_rests) 32 = .ok (.iload 4, 2) := by decide +kernel
theorem d_X_rests_34 : decode (mCd M_X_rests) 34 = .ok (.bipush 9, 2) := by decide +kernel
theorem d_X_rests_36 : decode (mCd M_X_rests) 36 = .ok (.if_icmp .gt 55, 3) := by decide +kernel
theorem d_X_rests_39 : decode (mCd M_X_rests) 39 = .ok (.iload_n 3, 1) := by decide +kernel
theorem d_X_rests_40 : decode (mCd M_X_rests) 40 = .ok (.iload 4, 2) := by decide +kernel
theorem d_X_rests_42 : decode (mCd M_X_rests) 42 = .ok (.iload_n 1, 1) := by decide +kernel
theorem d_X_rests_43 : decode (mCd M_X_rests) 43 = .ok (.invokestatic 396, 3) := by decide +kernel
theorem d_X_rests_46 : decode (mCd M_X_rests) 46 = .ok (.ifCond .eq 39, 3) := by decide +kernel
theorem d_X_rests_49 : decode (mCd M_X_rests) 49 = .ok (.iload 4, 2) := by decide +kernel
theorem d_X_rests_51 : decode (mCd M_X_rests) 51 = .ok (.iload_n 3, 1) := by decide +kernel
theorem d_X_rests_52 : decode (mCd M_X_rests) 52 = .ok (.iload_n 1, 1) := by decide +kernel
theorem d_X_rests_53 : decode (mCd M_X_rests) 53 = .ok (.invokestatic 396, 3) := by decide +kernel
theorem d_X_rests_56 : decode (mCd M_X_rests) 56 = .ok (.ifCond .eq 29, 3) := by decide +kernel
theorem d_X_rests_59 : decode (mCd M_X_rests) 59 = .ok (.iload_n 2, 1) := by decide +kernel
theorem d_X_rests_60 : decode (mCd M_X_rests) 60 = .ok (.ifCond .ne 22, 3) := by decide +kernel
theorem d_X_rests_63 : decode (mCd M_X_rests) 63 = .ok (.aload_n 0, 1) := by decide +kernel
theorem d_X_rests_64 : decode (mCd M_X_rests) 64 = .ok (.getfield 19, 3) := by decide +kernel
theorem d_X_rests_67 : decode (mCd M_X_rests) 67 = .ok (.iload_n 3, 1) := by decide +kernel
theorem d_X_rests_68 : decode (mCd M_X_rests) 68 = .ok (.i2l, 1) := by decide +kernel
theorem d_X_rests_69 : decode (mCd M_X_rests) 69 = .ok (.invokevirtual 234, 3) := by decide +kernel
theorem d_X_rests_72 : decode (mCd M_X_rests) 72 = .ok (.aload_n 0, 1) := by decide +kernel
theorem d_X_rests_73 : decode (mCd M_X_rests) 73 = .ok (.getfield 19, 3) := by decide +kernel
theorem d_X_rests_76 : decode (mCd M_X_rests) 76 = .ok (.iload 4, 2) := by decide +kernel
theorem d_X_rests_78 : decode (mCd M_X_rests) 78 = .ok (.i2l, 1) := by decide +kernel
theorem d_X_rests_79 : decode (mCd M_X_rests) 79 = .ok (.invokevirtual 234, 3) := by decide +kernel
theorem d_X_rests_82 : decode (mCd M_X_rests) 82 = .ok (.iinc 2 1, 3) := by decide +kernel
theorem d_X_rests_85 : decode (mCd M_X_rests) 85 = .ok (.iinc 4 1, 3) := by decide +kernel
theorem d_X_rests_88 : decode (mCd M_X_rests) 88 = .ok (.goto (-56), 3) := by decide +kernel
theorem d_X_rests_91 : decode (mCd M_X_rests) 91 = .ok (.iinc 3 1, 3) := by decide +kernel
theorem d_X_rests_94 : decode (mCd M_X_rests) 94 = .ok (.goto (-71), 3) := by decide +kernel
theorem d_X_rests_97 : decode (mCd M_X_rests) 97 = .ok (.iload_n 2, 1) := by decide +kernel
theorem d_X_rests_98 : decode (mCd M_X_rests) 98 = .ok (.ireturn, 1) := by decide +kernel
theorem d_X_years_0 : decode (mCd M_X_years) 0 = .ok (.iload_n 2, 1) := by decide +kernel
theorem d_X_years_1 : decode (mCd M_X_years) 1 = .ok (.iconst 1, 1) := by decide +kernel
theorem d_X_years_2 : decode (mCd M_X_years) 2 = .ok (.if_icmp .lt 9, 3) := by decide +kernel
theorem d_X_years_5 : decode (mCd M_X_years) 5 = .ok (.iload_n 2, 1) := by decide +kernel
theorem d_X_years_6 : decode (mCd M_X_years) 6 = .ok (.bipush 60, 2) := by decide +kernel
theorem d_X_years_8 : decode (mCd M_X_years) 8 = .ok (.if_icmp .le 5, 3) := by decide +kernel
theorem d_X_years_11 : decode (mCd M_X_years) 11 = .ok (.iconst (-1), 1) := by decide +kernel
theorem d_X_years_12 : decode (mCd M_X_years) 12 = .ok (.ireturn, 1) := by decide +kernel
theorem d_X_years_13 : decode (mCd M_X_years) 13 = .ok (.aload_n 0, 1) := by decide +kernel
theorem d_X_years_14 : decode (mCd M_X_years) 14 = .ok (.getfield 72, 3) := by decide +kernel
theorem d_X_years_17 : decode (mCd M_X_years) 17 = .ok (.aload_n 0, 1) := by decide +kernel
theorem d_X_years_18 : decode (mCd M_X_years) 18 = .ok (.getfield 65, 3) := by decide +kernel
theorem d_X_years_21 : decode (mCd M_X_years) 21 = .ok (.invokevirtual 219, 3) := by decide +kernel
theorem d_X_years_24 : decode (mCd M_X_years) 24 = .ok (.iload_n 1, 1) := by decide +kernel
theorem d_X_years_25 : decode (mCd M_X_years) 25 = .ok (.istore_n 3, 1) := by decide +kernel
theorem d_X_years_26 : decode (mCd M_X_years) 26 = .ok (.iconst 0, 1) := by decide +kernel
theorem d_X_years_27 : decode (mCd M_X_years) 27 = .ok (.istore 4, 2) := by decide +kernel
theorem d_X_years_29 : decode (mCd M_X_years) 29 = .ok (.iload 4, 2) := by decide +kernel
theorem d_X_years_31 : decode (mCd M_X_years) 31 = .ok (.iload_n 2, 1) := by decide +kernel
theorem d_X_years_32 : decode (mCd M_X_years) 32 = .ok (.if_icmp .ge 64, 3) := by decide +kernel
theorem d_X_years_35 : decode (mCd M_X_years) 35 = .ok (.iload_n 3, 1) := by decide +kernel
theorem d_X_years_36 : decode (mCd M_X_years) 36 = .ok (.invokestatic 400, 3) := by decide +kernel
theorem d_X_years_39 : decode (mCd M_X_years) 39 = .ok (.istore_n 3, 1) := by decide +kernel
theorem d_X_years_40 : decode (mCd M_X_years) 40 = .ok (.iload_n 3, 1) := by decide +kernel
theorem d_X_years_41 : decode (mCd M_X_years) 41 = .ok (.iconst 4, 1) := by decide +kernel
theorem d_X_years_42 : decode (mCd M_X_years) 42 = .ok (.invokestatic 403, 3) := by decide +kernel
theorem d_X_years_45 : decode (mCd M_X_years) 45 = .ok (.istore 5, 2) := by decide +kernel
theorem d_X_years_47 : decode (mCd M_X_years) 47 = .ok (.iload 5, 2) := by decide +kernel
theorem d_X_years_49 : decode (mCd M_X_years) 49 = .ok (.iconst 2, 1) := by decide +kernel
theorem d_X_years_50 : decode (mCd M_X_years) 50 = .ok (.if_icmp .ge 22, 3) := by decide +kernel
theorem d_X_years_53 : decode (mCd M_X_years) 53 = .ok (.aload_n 0, 1) := by decide +kernel
theorem d_X_years_54 : decode (mCd M_X_years) 54 = .ok (.getfield 58, 3) := by decide +kernel
theorem d_X_years_57 : decode (mCd M_X_years) 57 = .ok (.aload_n 0, 1) := by decide +kernel
theorem d_X_years_58 : decode (mCd M_X_years) 58 = .ok (.getfield 72, 3) := by decide +kernel
theorem d_X_years_61 : decode (mCd M_X_years) 61 = .ok (.aload_n 0, 1) := by decide +kernel
theorem d_X_years_62 : decode (mCd M_X_years) 62 = .ok (.getfield 105, 3) := by decide +kernel
theorem d_X_years_65 : decode (mCd M_X_years) 65 = .ok (.iconst 1, 1) := by decide +kernel
theorem d_X_years_66 : decode (mCd M_X_years) 66 = .ok (.invokevirtual 291, 3) := by decide +kernel
theorem d_X_years_69 : decode (mCd M_X_years) 69 = .ok (.goto 21, 3) := by decide +kernel
theorem d_X_years_72 : decode (mCd M_X_years) 72 = .ok (.aload_n 0, 1) := by decide +kernel
theorem d_X_years_73 : decode (mCd M_X_years) 73 = .ok (.getfield 33, 3) := by decide +kernel
theorem d_X_years_76 : decode (mCd M_X_years) 76 = .ok (.getfield 131, 3) := by decide +kernel
theorem d_X_years_79 : decode (mCd M_X_years) 79 = .ok (.ifCond .le 11, 3) := by decide +kernel
theorem d_X_years_82 : decode (mCd M_X_years) 82 = .ok (.aload_n 0, 1) := by decide +kernel
theorem d_X_years_83 : decode (mCd M_X_years) 83 = .ok (.iload_n 3, 1) := by decide +kernel
theorem d_X_years_84 : decode (mCd M_X_years) 84 = .ok (.iload 5, 2) := by decide +kernel
theorem d_X_years_86 : decode (mCd M_X_years) 86 = .ok (.invokevirtual 406, 3) := by decide +kernel
theorem d_X_years_89 : decode (mCd M_X_years) 89 = .ok (.istore_n 3, 1) := by decide +kernel
theorem d_X_years_90 : decode (mCd M_X_years) 90 = .ok (.iinc 4 1, 3) := by decide +kernel
theorem d_X_years_93 : decode (mCd M_X_years) 93 = .ok (.goto (-64), 3) := by decide +kernel
theorem d_X_years_96 : decode (mCd M_X_years) 96 = .ok (.aload_n 0, 1) := by decide +kernel
theorem d_X_years_97 : decode (mCd M_X_years) 97 = .ok (.getfield 19, 3) := by decide +kernel
theorem d_X_years_100 : decode (mCd M_X_years) 100 = .ok (.invokevirtual 228, 3) := by decide +kernel
theorem d_X_years_103 : decode (mCd M_X_years) 103 = .ok (.aload_n 0, 1) := by decide +kernel
theorem d_X_years_104 : decode (mCd M_X_years) 104 = .ok (.getfield 19, 3) := by decide +kernel
theorem d_X_years_107 : decode (mCd M_X_years) 107 = .ok (.aload_n 0, 1) := by decide +kernel
theorem d_X_years_108 : decode (mCd M_X_years) 108 = .ok (.getfield 72, 3) := by decide +kernel
theorem d_X_years_111 : decode (mCd M_X_years) 111 = .ok (.getfield 298, 3) := by decide +kernel
theorem d_X_years_114 : decode (mCd M_X_years) 114 = .ok (.aload_n 0, 1) := by decide +kernel
theorem d_X_years_115 : decode (mCd M_X_years) 115 = .ok (.getfield 65, 3) := by decide +kernel
theorem d_X_years_118 : decode (mCd M_X_years) 118 = .ok (.getfield 298, 3) := by decide +kernel
theorem d_X_years_121 : decode (mCd M_X_years) 121 = .ok (.isub, 1) := by decide +kernel
theorem d_X_years_122 : decode (mCd M_X_years) 122 = .ok (.i2l, 1) := by decide +kernel
theorem d_X_years_123 : decode (mCd M_X_years) 123 = .ok (.invokevirtual 234, 3) := by decide +kernel
theorem d_X_years_126 : decode (mCd M_X_years) 126 = .ok (.aload_n 0, 1) := by decide +kernel
theorem d_X_years_127 : decode (mCd M_X_years) 127 = .ok (.getfield 19, 3) := by decide +kernel
theorem d_X_years_130 : decode (mCd M_X_years) 130 = .ok (.aload_n 0, 1) := by decide +kernel
theorem d_X_years_131 : decode (mCd M_X_years) 131 = .ok (.getfield 72, 3) := by decide +kernel
theorem d_X_years_134 : decode (mCd M_X_years) 134 = .ok (.getfield 299, 3) := by decide +kernel
theorem d_X_years_137 : decode (mCd M_X_years) 137 = .ok (.aload_n 0, 1) := by decide +kernel
theorem d_X_years_138 : decode (mCd M_X_years) 138 = .ok (.getfield 65, 3) := by decide +kernel
theorem d_X_years_141 : decode (mCd M_X_years) 141 = .ok (.getfield 299, 3) := by decide +kernel
theorem d_X_years_144 : decode (mCd M_X_years) 144 = .ok (.isub, 1) := by decide +kernel
theorem d_X_years_145 : decode (mCd M_X_years) 145 = .ok (.i2l, 1) := by decide +kernel
theorem d_X_years_146 : decode (mCd M_X_years) 146 = .ok (.invokevirtual 234, 3) := by decide +kernel
theorem d_X_years_149 : decode (mCd M_X_years) 149 = .ok (.aload_n 0, 1) := by decide +kernel
theorem d_X_years_150 : decode (mCd M_X_years) 150 = .ok (.getfield 72, 3) := by decide +kernel
theorem d_X_years_153 : decode (mCd M_X_years) 153 = .ok (.getfield 137, 3) := by decide +kernel
theorem d_X_years_156 : decode (mCd M_X_years) 156 = .ok (.ireturn, 1) := by decide +kernel
theorem d_X_keep_0 : decode (mCd M_X_keep) 0 = .ok (.iload_n 1, 1) := by decide +kernel
theorem d_X_keep_1 : decode (mCd M_X_keep) 1 = .ok (.ifCond .lt 8, 3) := by decide +kernel
theorem d_X_keep_4 : decode (mCd M_X_keep) 4 = .ok (.iload_n 1, 1) := by decide +kernel
theorem d_X_keep_5 : decode (mCd M_X_keep) 5 = .ok (.iconst 3, 1) := by decide +kernel
theorem d_X_keep_6 : decode (mCd M_X_keep) 6 = .ok (.if_icmp .lt 5, 3) := by decide +kernel
theorem d_X_keep_9 : decode (mCd M_X_keep) 9 = .ok (.iconst 0, 1) := by decide +kernel
theorem d_X_keep_10 : decode (mCd M_X_keep) 10 = .ok (.ireturn, 1) := by decide +kernel
theorem d_X_keep_11 : decode (mCd M_X_keep) 11 = .ok (.aload_n 0, 1) := by decide +kernel
theorem d_X_keep_12 : decode (mCd M_X_keep) 12 = .ok (.getfield 89, 3) := by decide +kernel
theorem d_X_keep_15 : decode (mCd M_X_keep) 15 = .ok (.iload_n 1, 1) := by decide +kernel
theorem d_X_keep_16 : decode (mCd M_X_keep) 16 = .ok (.aaload, 1) := by decide +kernel
theorem d_X_keep_17 : decode (mCd M_X_keep) 17 = .ok (.aload_n 0, 1) := by decide +kernel
theorem d_X_keep_18 : decode (mCd M_X_keep) 18 = .ok (.getfield 65, 3) := by decide +kernel
theorem d_X_keep_21 : decode (mCd M_X_keep) 21 = .ok (.invokevirtual 219, 3) := by decide +kernel
theorem d_X_keep_24 : decode (mCd M_X_keep) 24 = .ok (.aload_n 0, 1) := by decide +kernel
theorem d_X_keep_25 : decode (mCd M_X_keep) 25 = .ok (.dup, 1) := by decide +kernel
theorem d_X_keep_26 : decode (mCd M_X_keep) 26 = .ok (.getfield 98, 3) := by decide +kernel
theorem d_X_keep_29 : decode (mCd M_X_keep) 29 = .ok (.iconst 1, 1) := by decide +kernel
theorem d_X_keep_30 : decode (mCd M_X_keep) 30 = .ok (.iload_n 1, 1) := by decide +kernel
theorem d_X_keep_31 : decode (mCd M_X_keep) 31 = .ok (.ishl, 1) := by decide +kernel
theorem d_X_keep_32 : decode (mCd M_X_keep) 32 = .ok (.ior, 1) := by decide +kernel
theorem d_X_keep_33 : decode (mCd M_X_keep) 33 = .ok (.putfield 98, 3) := by decide +kernel
theorem d_X_keep_36 : decode (mCd M_X_keep) 36 = .ok (.iconst 1, 1) := by decide +kernel
theorem d_X_keep_37 : decode (mCd M_X_keep) 37 = .ok (.ireturn, 1) := by decide +kernel
theorem d_X_again_0 : decode (mCd M_X_again) 0 = .ok (.iload_n 1, 1) := by decide +kernel
theorem d_X_again_1 : decode (mCd M_X_again) 1 = .ok (.ifCond .lt 19, 3) := by decide +kernel
theorem d_X_again_4 : decode (mCd M_X_again) 4 = .ok (.iload_n 1, 1) := by decide +kernel
theorem d_X_again_5 : decode (mCd M_X_again) 5 = .ok (.iconst 3, 1) := by decide +kernel
theorem d_X_again_6 : decode (mCd M_X_again) 6 = .ok (.if_icmp .ge 14, 3) := by decide +kernel
theorem d_X_again_9 : decode (mCd M_X_again) 9 = .ok (.aload_n 0, 1) := by decide +kernel
theorem d_X_again_10 : decode (mCd M_X_again) 10 = .ok (.getfield 98, 3) := by decide +kernel
theorem d_X_again_13 : decode (mCd M_X_again) 13 = .ok (.iload_n 1, 1) := by decide +kernel
theorem d_X_again_14 : decode (mCd M_X_again) 14 = .ok (.iushr, 1) := by decide +kernel
theorem d_X_again_15 : decode (mCd M_X_again) 15 = .ok (.iconst 1, 1) := by decide +kernel
theorem d_X_again_16 : decode (mCd M_X_again) 16 = .ok (.iand, 1) := by decide +kernel
theorem d_X_again_17 : decode (mCd M_X_again) 17 = .ok (.ifCond .ne 5, 3) := by decide +kernel
theorem d_X_again_20 : decode (mCd M_X_again) 20 = .ok (.iconst 0, 1) := by decide +kernel
theorem d_X_again_21 : decode (mCd M_X_again) 21 = .ok (.ireturn, 1) := by decide +kernel
theorem d_X_again_22 : decode (mCd M_X_again) 22 = .ok (.aload_n 0, 1) := by decide +kernel
theorem d_X_again_23 : decode (mCd M_X_again) 23 = .ok (.getfield 65, 3) := by decide +kernel
theorem d_X_again_26 : decode (mCd M_X_again) 26 = .ok (.aload_n 0, 1) := by decide +kernel
theorem d_X_again_27 : decode (mCd M_X_again) 27 = .ok (.getfield 89, 3) := by decide +kernel
theorem d_X_again_30 : decode (mCd M_X_again) 30 = .ok (.iload_n 1, 1) := by decide +kernel
theorem d_X_again_31 : decode (mCd M_X_again) 31 = .ok (.aaload, 1) := by decide +kernel
theorem d_X_again_32 : decode (mCd M_X_again) 32 = .ok (.invokevirtual 219, 3) := by decide +kernel
theorem d_X_again_35 : decode (mCd M_X_again) 35 = .ok (.aload_n 0, 1) := by decide +kernel
theorem d_X_again_36 : decode (mCd M_X_again) 36 = .ok (.getfield 78, 3) := by decide +kernel
theorem d_X_again_39 : decode (mCd M_X_again) 39 = .ok (.invokevirtual 143, 3) := by decide +kernel
theorem d_X_again_42 : decode (mCd M_X_again) 42 = .ok (.iconst 1, 1) := by decide +kernel
theorem d_X_again_43 : decode (mCd M_X_again) 43 = .ok (.ireturn, 1) := by decide +kernel
