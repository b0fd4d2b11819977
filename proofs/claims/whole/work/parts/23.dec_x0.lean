/-! Printed by wip/whole/gen_dec.py: what each instruction is. -/
theorem d_X_init_0 : decode (mCd M_X_init) 0 = .ok (.aload_n 0, 1) := by decide +kernel
theorem d_X_init_1 : decode (mCd M_X_init) 1 = .ok (.invokespecial 1, 3) := by decide +kernel
theorem d_X_init_4 : decode (mCd M_X_init) 4 = .ok (.aload_n 0, 1) := by decide +kernel
theorem d_X_init_5 : decode (mCd M_X_init) 5 = .ok (.new 7, 3) := by decide +kernel
theorem d_X_init_8 : decode (mCd M_X_init) 8 = .ok (.dup, 1) := by decide +kernel
theorem d_X_init_9 : decode (mCd M_X_init) 9 = .ok (.invokespecial 9, 3) := by decide +kernel
theorem d_X_init_12 : decode (mCd M_X_init) 12 = .ok (.putfield 10, 3) := by decide +kernel
theorem d_X_init_15 : decode (mCd M_X_init) 15 = .ok (.aload_n 0, 1) := by decide +kernel
theorem d_X_init_16 : decode (mCd M_X_init) 16 = .ok (.new 16, 3) := by decide +kernel
theorem d_X_init_19 : decode (mCd M_X_init) 19 = .ok (.dup, 1) := by decide +kernel
theorem d_X_init_20 : decode (mCd M_X_init) 20 = .ok (.invokespecial 18, 3) := by decide +kernel
theorem d_X_init_23 : decode (mCd M_X_init) 23 = .ok (.putfield 19, 3) := by decide +kernel
theorem d_X_init_26 : decode (mCd M_X_init) 26 = .ok (.aload_n 0, 1) := by decide +kernel
theorem d_X_init_27 : decode (mCd M_X_init) 27 = .ok (.new 23, 3) := by decide +kernel
theorem d_X_init_30 : decode (mCd M_X_init) 30 = .ok (.dup, 1) := by decide +kernel
theorem d_X_init_31 : decode (mCd M_X_init) 31 = .ok (.invokespecial 25, 3) := by decide +kernel
theorem d_X_init_34 : decode (mCd M_X_init) 34 = .ok (.putfield 26, 3) := by decide +kernel
theorem d_X_init_37 : decode (mCd M_X_init) 37 = .ok (.aload_n 0, 1) := by decide +kernel
theorem d_X_init_38 : decode (mCd M_X_init) 38 = .ok (.new 30, 3) := by decide +kernel
theorem d_X_init_41 : decode (mCd M_X_init) 41 = .ok (.dup, 1) := by decide +kernel
theorem d_X_init_42 : decode (mCd M_X_init) 42 = .ok (.invokespecial 32, 3) := by decide +kernel
theorem d_X_init_45 : decode (mCd M_X_init) 45 = .ok (.putfield 33, 3) := by decide +kernel
theorem d_X_init_48 : decode (mCd M_X_init) 48 = .ok (.aload_n 0, 1) := by decide +kernel
theorem d_X_init_49 : decode (mCd M_X_init) 49 = .ok (.new 37, 3) := by decide +kernel
theorem d_X_init_52 : decode (mCd M_X_init) 52 = .ok (.dup, 1) := by decide +kernel
theorem d_X_init_53 : decode (mCd M_X_init) 53 = .ok (.invokespecial 39, 3) := by decide +kernel
theorem d_X_init_56 : decode (mCd M_X_init) 56 = .ok (.putfield 40, 3) := by decide +kernel
theorem d_X_init_59 : decode (mCd M_X_init) 59 = .ok (.aload_n 0, 1) := by decide +kernel
theorem d_X_init_60 : decode (mCd M_X_init) 60 = .ok (.new 44, 3) := by decide +kernel
theorem d_X_init_63 : decode (mCd M_X_init) 63 = .ok (.dup, 1) := by decide +kernel
theorem d_X_init_64 : decode (mCd M_X_init) 64 = .ok (.aload_n 0, 1) := by decide +kernel
theorem d_X_init_65 : decode (mCd M_X_init) 65 = .ok (.getfield 26, 3) := by decide +kernel
theorem d_X_init_68 : decode (mCd M_X_init) 68 = .ok (.aload_n 0, 1) := by decide +kernel
theorem d_X_init_69 : decode (mCd M_X_init) 69 = .ok (.getfield 33, 3) := by decide +kernel
theorem d_X_init_72 : decode (mCd M_X_init) 72 = .ok (.aload_n 0, 1) := by decide +kernel
theorem d_X_init_73 : decode (mCd M_X_init) 73 = .ok (.getfield 40, 3) := by decide +kernel
theorem d_X_init_76 : decode (mCd M_X_init) 76 = .ok (.invokespecial 46, 3) := by decide +kernel
theorem d_X_init_79 : decode (mCd M_X_init) 79 = .ok (.putfield 49, 3) := by decide +kernel
theorem d_X_init_82 : decode (mCd M_X_init) 82 = .ok (.aload_n 0, 1) := by decide +kernel
theorem d_X_init_83 : decode (mCd M_X_init) 83 = .ok (.new 53, 3) := by decide +kernel
theorem d_X_init_86 : decode (mCd M_X_init) 86 = .ok (.dup, 1) := by decide +kernel
theorem d_X_init_87 : decode (mCd M_X_init) 87 = .ok (.aload_n 0, 1) := by decide +kernel
theorem d_X_init_88 : decode (mCd M_X_init) 88 = .ok (.getfield 26, 3) := by decide +kernel
theorem d_X_init_91 : decode (mCd M_X_init) 91 = .ok (.aload_n 0, 1) := by decide +kernel
theorem d_X_init_92 : decode (mCd M_X_init) 92 = .ok (.getfield 33, 3) := by decide +kernel
theorem d_X_init_95 : decode (mCd M_X_init) 95 = .ok (.aload_n 0, 1) := by decide +kernel
theorem d_X_init_96 : decode (mCd M_X_init) 96 = .ok (.getfield 49, 3) := by decide +kernel
theorem d_X_init_99 : decode (mCd M_X_init) 99 = .ok (.invokespecial 55, 3) := by decide +kernel
theorem d_X_init_102 : decode (mCd M_X_init) 102 = .ok (.putfield 58, 3) := by decide +kernel
theorem d_X_init_105 : decode (mCd M_X_init) 105 = .ok (.aload_n 0, 1) := by decide +kernel
theorem d_X_init_106 : decode (mCd M_X_init) 106 = .ok (.new 62, 3) := by decide +kernel
theorem d_X_init_109 : decode (mCd M_X_init) 109 = .ok (.dup, 1) := by decide +kernel
theorem d_X_init_110 : decode (mCd M_X_init) 110 = .ok (.invokespecial 64, 3) := by decide +kernel
theorem d_X_init_113 : decode (mCd M_X_init) 113 = .ok (.putfield 65, 3) := by decide +kernel
theorem d_X_init_116 : decode (mCd M_X_init) 116 = .ok (.aload_n 0, 1) := by decide +kernel
theorem d_X_init_117 : decode (mCd M_X_init) 117 = .ok (.new 62, 3) := by decide +kernel
theorem d_X_init_120 : decode (mCd M_X_init) 120 = .ok (.dup, 1) := by decide +kernel
theorem d_X_init_121 : decode (mCd M_X_init) 121 = .ok (.invokespecial 64, 3) := by decide +kernel
theorem d_X_init_124 : decode (mCd M_X_init) 124 = .ok (.putfield 69, 3) := by decide +kernel
theorem d_X_init_127 : decode (mCd M_X_init) 127 = .ok (.aload_n 0, 1) := by decide +kernel
theorem d_X_init_128 : decode (mCd M_X_init) 128 = .ok (.new 62, 3) := by decide +kernel
theorem d_X_init_131 : decode (mCd M_X_init) 131 = .ok (.dup, 1) := by decide +kernel
theorem d_X_init_132 : decode (mCd M_X_init) 132 = .ok (.invokespecial 64, 3) := by decide +kernel
theorem d_X_init_135 : decode (mCd M_X_init) 135 = .ok (.putfield 72, 3) := by decide +kernel
theorem d_X_init_138 : decode (mCd M_X_init) 138 = .ok (.aload_n 0, 1) := by decide +kernel
theorem d_X_init_139 : decode (mCd M_X_init) 139 = .ok (.new 75, 3) := by decide +kernel
theorem d_X_init_142 : decode (mCd M_X_init) 142 = .ok (.dup, 1) := by decide +kernel
theorem d_X_init_143 : decode (mCd M_X_init) 143 = .ok (.invokespecial 77, 3) := by decide +kernel
theorem d_X_init_146 : decode (mCd M_X_init) 146 = .ok (.putfield 78, 3) := by decide +kernel
theorem d_X_init_149 : decode (mCd M_X_init) 149 = .ok (.aload_n 0, 1) := by decide +kernel
theorem d_X_init_150 : decode (mCd M_X_init) 150 = .ok (.new 82, 3) := by decide +kernel
theorem d_X_init_153 : decode (mCd M_X_init) 153 = .ok (.dup, 1) := by decide +kernel
theorem d_X_init_154 : decode (mCd M_X_init) 154 = .ok (.invokespecial 84, 3) := by decide +kernel
theorem d_X_init_157 : decode (mCd M_X_init) 157 = .ok (.putfield 85, 3) := by decide +kernel
theorem d_X_init_160 : decode (mCd M_X_init) 160 = .ok (.aload_n 0, 1) := by decide +kernel
theorem d_X_init_161 : decode (mCd M_X_init) 161 = .ok (.iconst 3, 1) := by decide +kernel
theorem d_X_init_162 : decode (mCd M_X_init) 162 = .ok (.anewarray 62, 3) := by decide +kernel
theorem d_X_init_165 : decode (mCd M_X_init) 165 = .ok (.putfield 89, 3) := by decide +kernel
theorem d_X_init_168 : decode (mCd M_X_init) 168 = .ok (.aload_n 0, 1) := by decide +kernel
theorem d_X_init_169 : decode (mCd M_X_init) 169 = .ok (.bipush 9, 2) := by decide +kernel
theorem d_X_init_171 : decode (mCd M_X_init) 171 = .ok (.bipush 21, 2) := by decide +kernel
theorem d_X_init_173 : decode (mCd M_X_init) 173 = .ok (.multianewarray 93 2, 4) := by decide +kernel
theorem d_X_init_177 : decode (mCd M_X_init) 177 = .ok (.putfield 95, 3) := by decide +kernel
theorem d_X_init_180 : decode (mCd M_X_init) 180 = .ok (.aload_n 0, 1) := by decide +kernel
theorem d_X_init_181 : decode (mCd M_X_init) 181 = .ok (.iconst 0, 1) := by decide +kernel
theorem d_X_init_182 : decode (mCd M_X_init) 182 = .ok (.putfield 98, 3) := by decide +kernel
theorem d_X_init_185 : decode (mCd M_X_init) 185 = .ok (.aload_n 0, 1) := by decide +kernel
theorem d_X_init_186 : decode (mCd M_X_init) 186 = .ok (.new 102, 3) := by decide +kernel
theorem d_X_init_189 : decode (mCd M_X_init) 189 = .ok (.dup, 1) := by decide +kernel
theorem d_X_init_190 : decode (mCd M_X_init) 190 = .ok (.invokespecial 104, 3) := by decide +kernel
theorem d_X_init_193 : decode (mCd M_X_init) 193 = .ok (.putfield 105, 3) := by decide +kernel
theorem d_X_init_196 : decode (mCd M_X_init) 196 = .ok (.aload_n 0, 1) := by decide +kernel
theorem d_X_init_197 : decode (mCd M_X_init) 197 = .ok (.new 102, 3) := by decide +kernel
theorem d_X_init_200 : decode (mCd M_X_init) 200 = .ok (.dup, 1) := by decide +kernel
theorem d_X_init_201 : decode (mCd M_X_init) 201 = .ok (.invokespecial 104, 3) := by decide +kernel
theorem d_X_init_204 : decode (mCd M_X_init) 204 = .ok (.putfield 109, 3) := by decide +kernel
theorem d_X_init_207 : decode (mCd M_X_init) 207 = .ok (.iconst 0, 1) := by decide +kernel
theorem d_X_init_208 : decode (mCd M_X_init) 208 = .ok (.istore_n 1, 1) := by decide +kernel
theorem d_X_init_209 : decode (mCd M_X_init) 209 = .ok (.iload_n 1, 1) := by decide +kernel
theorem d_X_init_210 : decode (mCd M_X_init) 210 = .ok (.iconst 3, 1) := by decide +kernel
theorem d_X_init_211 : decode (mCd M_X_init) 211 = .ok (.if_icmp .ge 22, 3) := by decide +kernel
theorem d_X_init_214 : decode (mCd M_X_init) 214 = .ok (.aload_n 0, 1) := by decide +kernel
theorem d_X_init_215 : decode (mCd M_X_init) 215 = .ok (.getfield 89, 3) := by decide +kernel
theorem d_X_init_218 : decode (mCd M_X_init) 218 = .ok (.iload_n 1, 1) := by decide +kernel
theorem d_X_init_219 : decode (mCd M_X_init) 219 = .ok (.new 62, 3) := by decide +kernel
theorem d_X_init_222 : decode (mCd M_X_init) 222 = .ok (.dup, 1) := by decide +kernel
theorem d_X_init_223 : decode (mCd M_X_init) 223 = .ok (.invokespecial 64, 3) := by decide +kernel
theorem d_X_init_226 : decode (mCd M_X_init) 226 = .ok (.aastore, 1) := by decide +kernel
theorem d_X_init_227 : decode (mCd M_X_init) 227 = .ok (.iinc 1 1, 3) := by decide +kernel
theorem d_X_init_230 : decode (mCd M_X_init) 230 = .ok (.goto (-21), 3) := by decide +kernel
theorem d_X_init_233 : decode (mCd M_X_init) 233 = .ok (.return_, 1) := by decide +kernel
theorem d_X_sign_0 : decode (mCd M_X_sign) 0 = .ok (.aload_n 0, 1) := by decide +kernel
theorem d_X_sign_1 : decode (mCd M_X_sign) 1 = .ok (.getfield 10, 3) := by decide +kernel
theorem d_X_sign_4 : decode (mCd M_X_sign) 4 = .ok (.iload_n 1, 1) := by decide +kernel
theorem d_X_sign_5 : decode (mCd M_X_sign) 5 = .ok (.invokevirtual 112, 3) := by decide +kernel
theorem d_X_sign_8 : decode (mCd M_X_sign) 8 = .ok (.ifCond .eq 13, 3) := by decide +kernel
theorem d_X_sign_11 : decode (mCd M_X_sign) 11 = .ok (.aload_n 0, 1) := by decide +kernel
theorem d_X_sign_12 : decode (mCd M_X_sign) 12 = .ok (.getfield 10, 3) := by decide +kernel
theorem d_X_sign_15 : decode (mCd M_X_sign) 15 = .ok (.invokevirtual 116, 3) := by decide +kernel
theorem d_X_sign_18 : decode (mCd M_X_sign) 18 = .ok (.goto 4, 3) := by decide +kernel
theorem d_X_sign_21 : decode (mCd M_X_sign) 21 = .ok (.iconst (-1), 1) := by decide +kernel
theorem d_X_sign_22 : decode (mCd M_X_sign) 22 = .ok (.ireturn, 1) := by decide +kernel
theorem d_X_end_0 : decode (mCd M_X_end) 0 = .ok (.aload_n 0, 1) := by decide +kernel
theorem d_X_end_1 : decode (mCd M_X_end) 1 = .ok (.getfield 10, 3) := by decide +kernel
theorem d_X_end_4 : decode (mCd M_X_end) 4 = .ok (.iload_n 1, 1) := by decide +kernel
theorem d_X_end_5 : decode (mCd M_X_end) 5 = .ok (.invokevirtual 120, 3) := by decide +kernel
theorem d_X_end_8 : decode (mCd M_X_end) 8 = .ok (.ireturn, 1) := by decide +kernel
theorem d_X_lake_0 : decode (mCd M_X_lake) 0 = .ok (.aload_n 0, 1) := by decide +kernel
theorem d_X_lake_1 : decode (mCd M_X_lake) 1 = .ok (.getfield 26, 3) := by decide +kernel
theorem d_X_lake_4 : decode (mCd M_X_lake) 4 = .ok (.aload_n 0, 1) := by decide +kernel
theorem d_X_lake_5 : decode (mCd M_X_lake) 5 = .ok (.getfield 10, 3) := by decide +kernel
theorem d_X_lake_8 : decode (mCd M_X_lake) 8 = .ok (.invokevirtual 123, 3) := by decide +kernel
theorem d_X_lake_11 : decode (mCd M_X_lake) 11 = .ok (.istore_n 1, 1) := by decide +kernel
theorem d_X_lake_12 : decode (mCd M_X_lake) 12 = .ok (.iload_n 1, 1) := by decide +kernel
theorem d_X_lake_13 : decode (mCd M_X_lake) 13 = .ok (.iconst (-1), 1) := by decide +kernel
theorem d_X_lake_14 : decode (mCd M_X_lake) 14 = .ok (.if_icmp .ne 65, 3) := by decide +kernel
theorem d_X_lake_17 : decode (mCd M_X_lake) 17 = .ok (.aload_n 0, 1) := by decide +kernel
theorem d_X_lake_18 : decode (mCd M_X_lake) 18 = .ok (.getfield 26, 3) := by decide +kernel
theorem d_X_lake_21 : decode (mCd M_X_lake) 21 = .ok (.aload_n 0, 1) := by decide +kernel
theorem d_X_lake_22 : decode (mCd M_X_lake) 22 = .ok (.getfield 10, 3) := by decide +kernel
theorem d_X_lake_25 : decode (mCd M_X_lake) 25 = .ok (.invokevirtual 127, 3) := by decide +kernel
theorem d_X_lake_28 : decode (mCd M_X_lake) 28 = .ok (.aload_n 0, 1) := by decide +kernel
theorem d_X_lake_29 : decode (mCd M_X_lake) 29 = .ok (.getfield 33, 3) := by decide +kernel
theorem d_X_lake_32 : decode (mCd M_X_lake) 32 = .ok (.iconst 0, 1) := by decide +kernel
theorem d_X_lake_33 : decode (mCd M_X_lake) 33 = .ok (.putfield 131, 3) := by decide +kernel
theorem d_X_lake_36 : decode (mCd M_X_lake) 36 = .ok (.aload_n 0, 1) := by decide +kernel
theorem d_X_lake_37 : decode (mCd M_X_lake) 37 = .ok (.getfield 65, 3) := by decide +kernel
theorem d_X_lake_40 : decode (mCd M_X_lake) 40 = .ok (.iconst 0, 1) := by decide +kernel
theorem d_X_lake_41 : decode (mCd M_X_lake) 41 = .ok (.putfield 134, 3) := by decide +kernel
theorem d_X_lake_44 : decode (mCd M_X_lake) 44 = .ok (.aload_n 0, 1) := by decide +kernel
theorem d_X_lake_45 : decode (mCd M_X_lake) 45 = .ok (.getfield 65, 3) := by decide +kernel
theorem d_X_lake_48 : decode (mCd M_X_lake) 48 = .ok (.iconst 0, 1) := by decide +kernel
theorem d_X_lake_49 : decode (mCd M_X_lake) 49 = .ok (.putfield 137, 3) := by decide +kernel
theorem d_X_lake_52 : decode (mCd M_X_lake) 52 = .ok (.aload_n 0, 1) := by decide +kernel
theorem d_X_lake_53 : decode (mCd M_X_lake) 53 = .ok (.getfield 65, 3) := by decide +kernel
theorem d_X_lake_56 : decode (mCd M_X_lake) 56 = .ok (.iconst 0, 1) := by decide +kernel
theorem d_X_lake_57 : decode (mCd M_X_lake) 57 = .ok (.putfield 140, 3) := by decide +kernel
theorem d_X_lake_60 : decode (mCd M_X_lake) 60 = .ok (.aload_n 0, 1) := by decide +kernel
theorem d_X_lake_61 : decode (mCd M_X_lake) 61 = .ok (.getfield 78, 3) := by decide +kernel
theorem d_X_lake_64 : decode (mCd M_X_lake) 64 = .ok (.invokevirtual 143, 3) := by decide +kernel
theorem d_X_lake_67 : decode (mCd M_X_lake) 67 = .ok (.aload_n 0, 1) := by decide +kernel
theorem d_X_lake_68 : decode (mCd M_X_lake) 68 = .ok (.getfield 85, 3) := by decide +kernel
theorem d_X_lake_71 : decode (mCd M_X_lake) 71 = .ok (.invokevirtual 146, 3) := by decide +kernel
theorem d_X_lake_74 : decode (mCd M_X_lake) 74 = .ok (.aload_n 0, 1) := by decide +kernel
theorem d_X_lake_75 : decode (mCd M_X_lake) 75 = .ok (.iconst 0, 1) := by decide +kernel
theorem d_X_lake_76 : decode (mCd M_X_lake) 76 = .ok (.putfield 98, 3) := by decide +kernel
theorem d_X_lake_79 : decode (mCd M_X_lake) 79 = .ok (.aload_n 0, 1) := by decide +kernel
theorem d_X_lake_80 : decode (mCd M_X_lake) 80 = .ok (.getfield 10, 3) := by decide +kernel
theorem d_X_lake_83 : decode (mCd M_X_lake) 83 = .ok (.invokevirtual 147, 3) := by decide +kernel
theorem d_X_lake_86 : decode (mCd M_X_lake) 86 = .ok (.iload_n 1, 1) := by decide +kernel
theorem d_X_lake_87 : decode (mCd M_X_lake) 87 = .ok (.iconst (-1), 1) := by decide +kernel
theorem d_X_lake_88 : decode (mCd M_X_lake) 88 = .ok (.if_icmp .ne 13, 3) := by decide +kernel
theorem d_X_lake_91 : decode (mCd M_X_lake) 91 = .ok (.aload_n 0, 1) := by decide +kernel
theorem d_X_lake_92 : decode (mCd M_X_lake) 92 = .ok (.getfield 26, 3) := by decide +kernel
theorem d_X_lake_95 : decode (mCd M_X_lake) 95 = .ok (.invokevirtual 148, 3) := by decide +kernel
theorem d_X_lake_98 : decode (mCd M_X_lake) 98 = .ok (.goto 6, 3) := by decide +kernel
theorem d_X_lake_101 : decode (mCd M_X_lake) 101 = .ok (.iconst (-1), 1) := by decide +kernel
theorem d_X_lake_102 : decode (mCd M_X_lake) 102 = .ok (.iload_n 1, 1) := by decide +kernel
theorem d_X_lake_103 : decode (mCd M_X_lake) 103 = .ok (.isub, 1) := by decide +kernel
theorem d_X_lake_104 : decode (mCd M_X_lake) 104 = .ok (.ireturn, 1) := by decide +kernel
theorem d_X_fish_0 : decode (mCd M_X_fish) 0 = .ok (.aload_n 0, 1) := by decide +kernel
theorem d_X_fish_1 : decode (mCd M_X_fish) 1 = .ok (.getfield 10, 3) := by decide +kernel
theorem d_X_fish_4 : decode (mCd M_X_fish) 4 = .ok (.invokevirtual 116, 3) := by decide +kernel
theorem d_X_fish_7 : decode (mCd M_X_fish) 7 = .ok (.ifCond .ne 5, 3) := by decide +kernel
theorem d_X_fish_10 : decode (mCd M_X_fish) 10 = .ok (.iconst 0, 1) := by decide +kernel
theorem d_X_fish_11 : decode (mCd M_X_fish) 11 = .ok (.ireturn, 1) := by decide +kernel
theorem d_X_fish_12 : decode (mCd M_X_fish) 12 = .ok (.aload_n 0, 1) := by decide +kernel
theorem d_X_fish_13 : decode (mCd M_X_fish) 13 = .ok (.invokevirtual 151, 3) := by decide +kernel
theorem d_X_fish_16 : decode (mCd M_X_fish) 16 = .ok (.istore_n 1, 1) := by decide +kernel
theorem d_X_fish_17 : decode (mCd M_X_fish) 17 = .ok (.iconst 0, 1) := by decide +kernel
theorem d_X_fish_18 : decode (mCd M_X_fish) 18 = .ok (.istore_n 2, 1) := by decide +kernel
theorem d_X_fish_19 : decode (mCd M_X_fish) 19 = .ok (.iload_n 1, 1) := by decide +kernel
theorem d_X_fish_20 : decode (mCd M_X_fish) 20 = .ok (.iconst (-1), 1) := by decide +kernel
theorem d_X_fish_21 : decode (mCd M_X_fish) 21 = .ok (.if_icmp .ne 20, 3) := by decide +kernel
theorem d_X_fish_24 : decode (mCd M_X_fish) 24 = .ok (.aload_n 0, 1) := by decide +kernel
theorem d_X_fish_25 : decode (mCd M_X_fish) 25 = .ok (.invokevirtual 154, 3) := by decide +kernel
theorem d_X_fish_28 : decode (mCd M_X_fish) 28 = .ok (.istore_n 2, 1) := by decide +kernel
theorem d_X_fish_29 : decode (mCd M_X_fish) 29 = .ok (.aload_n 0, 1) := by decide +kernel
theorem d_X_fish_30 : decode (mCd M_X_fish) 30 = .ok (.getfield 78, 3) := by decide +kernel
theorem d_X_fish_33 : decode (mCd M_X_fish) 33 = .ok (.invokevirtual 143, 3) := by decide +kernel
theorem d_X_fish_36 : decode (mCd M_X_fish) 36 = .ok (.aload_n 0, 1) := by decide +kernel
theorem d_X_fish_37 : decode (mCd M_X_fish) 37 = .ok (.iconst 0, 1) := by decide +kernel
theorem d_X_fish_38 : decode (mCd M_X_fish) 38 = .ok (.putfield 98, 3) := by decide +kernel
theorem d_X_fish_41 : decode (mCd M_X_fish) 41 = .ok (.aload_n 0, 1) := by decide +kernel
theorem d_X_fish_42 : decode (mCd M_X_fish) 42 = .ok (.getfield 10, 3) := by decide +kernel
theorem d_X_fish_45 : decode (mCd M_X_fish) 45 = .ok (.invokevirtual 147, 3) := by decide +kernel
theorem d_X_fish_48 : decode (mCd M_X_fish) 48 = .ok (.iload_n 1, 1) := by decide +kernel
theorem d_X_fish_49 : decode (mCd M_X_fish) 49 = .ok (.iconst (-1), 1) := by decide +kernel
theorem d_X_fish_50 : decode (mCd M_X_fish) 50 = .ok (.if_icmp .ne 7, 3) := by decide +kernel
theorem d_X_fish_53 : decode (mCd M_X_fish) 53 = .ok (.iload_n 2, 1) := by decide +kernel
theorem d_X_fish_54 : decode (mCd M_X_fish) 54 = .ok (.goto 6, 3) := by decide +kernel
theorem d_X_fish_57 : decode (mCd M_X_fish) 57 = .ok (.iconst (-1), 1) := by decide +kernel
theorem d_X_fish_58 : decode (mCd M_X_fish) 58 = .ok (.iload_n 1, 1) := by decide +kernel
theorem d_X_fish_59 : decode (mCd M_X_fish) 59 = .ok (.isub, 1) := by decide +kernel
theorem d_X_fish_60 : decode (mCd M_X_fish) 60 = .ok (.ireturn, 1) := by decide +kernel
theorem d_X_oar_0 : decode (mCd M_X_oar) 0 = .ok (.aload_n 0, 1) := by decide +kernel
theorem d_X_oar_1 : decode (mCd M_X_oar) 1 = .ok (.getfield 10, 3) := by decide +kernel
theorem d_X_oar_4 : decode (mCd M_X_oar) 4 = .ok (.invokevirtual 116, 3) := by decide +kernel
theorem d_X_oar_7 : decode (mCd M_X_oar) 7 = .ok (.ifCond .ne 5, 3) := by decide +kernel
theorem d_X_oar_10 : decode (mCd M_X_oar) 10 = .ok (.iconst 0, 1) := by decide +kernel
theorem d_X_oar_11 : decode (mCd M_X_oar) 11 = .ok (.ireturn, 1) := by decide +kernel
theorem d_X_oar_12 : decode (mCd M_X_oar) 12 = .ok (.aload_n 0, 1) := by decide +kernel
theorem d_X_oar_13 : decode (mCd M_X_oar) 13 = .ok (.invokevirtual 157, 3) := by decide +kernel
theorem d_X_oar_16 : decode (mCd M_X_oar) 16 = .ok (.istore_n 1, 1) := by decide +kernel
theorem d_X_oar_17 : decode (mCd M_X_oar) 17 = .ok (.iconst 0, 1) := by decide +kernel
theorem d_X_oar_18 : decode (mCd M_X_oar) 18 = .ok (.istore_n 2, 1) := by decide +kernel
theorem d_X_oar_19 : decode (mCd M_X_oar) 19 = .ok (.iload_n 1, 1) := by decide +kernel
theorem d_X_oar_20 : decode (mCd M_X_oar) 20 = .ok (.iconst (-1), 1) := by decide +kernel
theorem d_X_oar_21 : decode (mCd M_X_oar) 21 = .ok (.if_icmp .ne 19, 3) := by decide +kernel
theorem d_X_oar_24 : decode (mCd M_X_oar) 24 = .ok (.aload_n 0, 1) := by decide +kernel
theorem d_X_oar_25 : decode (mCd M_X_oar) 25 = .ok (.getfield 78, 3) := by decide +kernel
theorem d_X_oar_28 : decode (mCd M_X_oar) 28 = .ok (.aload_n 0, 1) := by decide +kernel
theorem d_X_oar_29 : decode (mCd M_X_oar) 29 = .ok (.getfield 65, 3) := by decide +kernel
theorem d_X_oar_32 : decode (mCd M_X_oar) 32 = .ok (.invokevirtual 160, 3) := by decide +kernel
theorem d_X_oar_35 : decode (mCd M_X_oar) 35 = .ok (.aload_n 0, 1) := by decide +kernel
theorem d_X_oar_36 : decode (mCd M_X_oar) 36 = .ok (.invokevirtual 164, 3) := by decide +kernel
theorem d_X_oar_39 : decode (mCd M_X_oar) 39 = .ok (.istore_n 2, 1) := by decide +kernel
theorem d_X_oar_40 : decode (mCd M_X_oar) 40 = .ok (.aload_n 0, 1) := by decide +kernel
theorem d_X_oar_41 : decode (mCd M_X_oar) 41 = .ok (.getfield 10, 3) := by decide +kernel
theorem d_X_oar_44 : decode (mCd M_X_oar) 44 = .ok (.invokevirtual 147, 3) := by decide +kernel
theorem d_X_oar_47 : decode (mCd M_X_oar) 47 = .ok (.iload_n 1, 1) := by decide +kernel
theorem d_X_oar_48 : decode (mCd M_X_oar) 48 = .ok (.iconst (-1), 1) := by decide +kernel
theorem d_X_oar_49 : decode (mCd M_X_oar) 49 = .ok (.if_icmp .ne 7, 3) := by decide +kernel
theorem d_X_oar_52 : decode (mCd M_X_oar) 52 = .ok (.iload_n 2, 1) := by decide +kernel
theorem d_X_oar_53 : decode (mCd M_X_oar) 53 = .ok (.goto 6, 3) := by decide +kernel
theorem d_X_oar_56 : decode (mCd M_X_oar) 56 = .ok (.iconst (-1), 1) := by decide +kernel
theorem d_X_oar_57 : decode (mCd M_X_oar) 57 = .ok (.iload_n 1, 1) := by decide +kernel
theorem d_X_oar_58 : decode (mCd M_X_oar) 58 = .ok (.isub, 1) := by decide +kernel
theorem d_X_oar_59 : decode (mCd M_X_oar) 59 = .ok (.ireturn, 1) := by decide +kernel
theorem d_X_fog_0 : decode (mCd M_X_fog) 0 = .ok (.aload_n 0, 1) := by decide +kernel
theorem d_X_fog_1 : decode (mCd M_X_fog) 1 = .ok (.getfield 40, 3) := by decide +kernel
theorem d_X_fog_4 : decode (mCd M_X_fog) 4 = .ok (.aload_n 0, 1) := by decide +kernel
theorem d_X_fog_5 : decode (mCd M_X_fog) 5 = .ok (.getfield 10, 3) := by decide +kernel
theorem d_X_fog_8 : decode (mCd M_X_fog) 8 = .ok (.invokevirtual 167, 3) := by decide +kernel
theorem d_X_fog_11 : decode (mCd M_X_fog) 11 = .ok (.istore_n 1, 1) := by decide +kernel
theorem d_X_fog_12 : decode (mCd M_X_fog) 12 = .ok (.iload_n 1, 1) := by decide +kernel
theorem d_X_fog_13 : decode (mCd M_X_fog) 13 = .ok (.iconst (-1), 1) := by decide +kernel
theorem d_X_fog_14 : decode (mCd M_X_fog) 14 = .ok (.if_icmp .ne 14, 3) := by decide +kernel
theorem d_X_fog_17 : decode (mCd M_X_fog) 17 = .ok (.aload_n 0, 1) := by decide +kernel
theorem d_X_fog_18 : decode (mCd M_X_fog) 18 = .ok (.getfield 40, 3) := by decide +kernel
theorem d_X_fog_21 : decode (mCd M_X_fog) 21 = .ok (.aload_n 0, 1) := by decide +kernel
theorem d_X_fog_22 : decode (mCd M_X_fog) 22 = .ok (.getfield 10, 3) := by decide +kernel
theorem d_X_fog_25 : decode (mCd M_X_fog) 25 = .ok (.invokevirtual 168, 3) := by decide +kernel
theorem d_X_fog_28 : decode (mCd M_X_fog) 28 = .ok (.aload_n 0, 1) := by decide +kernel
theorem d_X_fog_29 : decode (mCd M_X_fog) 29 = .ok (.getfield 10, 3) := by decide +kernel
theorem d_X_fog_32 : decode (mCd M_X_fog) 32 = .ok (.invokevirtual 116, 3) := by decide +kernel
theorem d_X_fog_35 : decode (mCd M_X_fog) 35 = .ok (.istore_n 2, 1) := by decide +kernel
theorem d_X_fog_36 : decode (mCd M_X_fog) 36 = .ok (.aload_n 0, 1) := by decide +kernel
theorem d_X_fog_37 : decode (mCd M_X_fog) 37 = .ok (.getfield 10, 3) := by decide +kernel
theorem d_X_fog_40 : decode (mCd M_X_fog) 40 = .ok (.invokevirtual 147, 3) := by decide +kernel
theorem d_X_fog_43 : decode (mCd M_X_fog) 43 = .ok (.iload_n 1, 1) := by decide +kernel
theorem d_X_fog_44 : decode (mCd M_X_fog) 44 = .ok (.iconst (-1), 1) := by decide +kernel
theorem d_X_fog_45 : decode (mCd M_X_fog) 45 = .ok (.if_icmp .ne 7, 3) := by decide +kernel
theorem d_X_fog_48 : decode (mCd M_X_fog) 48 = .ok (.iload_n 2, 1) := by decide +kernel
theorem d_X_fog_49 : decode (mCd M_X_fog) 49 = .ok (.goto 6, 3) := by decide +kernel
theorem d_X_fog_52 : decode (mCd M_X_fog) 52 = .ok (.iconst (-1), 1) := by decide +kernel
theorem d_X_fog_53 : decode (mCd M_X_fog) 53 = .ok (.iload_n 1, 1) := by decide +kernel
theorem d_X_fog_54 : decode (mCd M_X_fog) 54 = .ok (.isub, 1) := by decide +kernel
theorem d_X_fog_55 : decode (mCd M_X_fog) 55 = .ok (.ireturn, 1) := by decide +kernel
theorem d_X_rule_0 : decode (mCd M_X_rule) 0 = .ok (.aload_n 0, 1) := by decide +kernel
theorem d_X_rule_1 : decode (mCd M_X_rule) 1 = .ok (.getfield 109, 3) := by decide +kernel
theorem d_X_rule_4 : decode (mCd M_X_rule) 4 = .ok (.aload_n 0, 1) := by decide +kernel
theorem d_X_rule_5 : decode (mCd M_X_rule) 5 = .ok (.getfield 10, 3) := by decide +kernel
theorem d_X_rule_8 : decode (mCd M_X_rule) 8 = .ok (.invokevirtual 169, 3) := by decide +kernel
theorem d_X_rule_11 : decode (mCd M_X_rule) 11 = .ok (.istore_n 1, 1) := by decide +kernel
theorem d_X_rule_12 : decode (mCd M_X_rule) 12 = .ok (.aload_n 0, 1) := by decide +kernel
theorem d_X_rule_13 : decode (mCd M_X_rule) 13 = .ok (.getfield 10, 3) := by decide +kernel
theorem d_X_rule_16 : decode (mCd M_X_rule) 16 = .ok (.invokevirtual 147, 3) := by decide +kernel
theorem d_X_rule_19 : decode (mCd M_X_rule) 19 = .ok (.iload_n 1, 1) := by decide +kernel
theorem d_X_rule_20 : decode (mCd M_X_rule) 20 = .ok (.iconst (-1), 1) := by decide +kernel
theorem d_X_rule_21 : decode (mCd M_X_rule) 21 = .ok (.if_icmp .eq 7, 3) := by decide +kernel
theorem d_X_rule_24 : decode (mCd M_X_rule) 24 = .ok (.iconst (-1), 1) := by decide +kernel
theorem d_X_rule_25 : decode (mCd M_X_rule) 25 = .ok (.iload_n 1, 1) := by decide +kernel
theorem d_X_rule_26 : decode (mCd M_X_rule) 26 = .ok (.isub, 1) := by decide +kernel
theorem d_X_rule_27 : decode (mCd M_X_rule) 27 = .ok (.ireturn, 1) := by decide +kernel
theorem d_X_rule_28 : decode (mCd M_X_rule) 28 = .ok (.aload_n 0, 1) := by decide +kernel
theorem d_X_rule_29 : decode (mCd M_X_rule) 29 = .ok (.getfield 105, 3) := by decide +kernel
theorem d_X_rule_32 : decode (mCd M_X_rule) 32 = .ok (.astore_n 2, 1) := by decide +kernel
theorem d_X_rule_33 : decode (mCd M_X_rule) 33 = .ok (.aload_n 0, 1) := by decide +kernel
theorem d_X_rule_34 : decode (mCd M_X_rule) 34 = .ok (.aload_n 0, 1) := by decide +kernel
theorem d_X_rule_35 : decode (mCd M_X_rule) 35 = .ok (.getfield 109, 3) := by decide +kernel
theorem d_X_rule_38 : decode (mCd M_X_rule) 38 = .ok (.putfield 105, 3) := by decide +kernel
theorem d_X_rule_41 : decode (mCd M_X_rule) 41 = .ok (.aload_n 0, 1) := by decide +kernel
theorem d_X_rule_42 : decode (mCd M_X_rule) 42 = .ok (.aload_n 2, 1) := by decide +kernel
theorem d_X_rule_43 : decode (mCd M_X_rule) 43 = .ok (.putfield 109, 3) := by decide +kernel
theorem d_X_rule_46 : decode (mCd M_X_rule) 46 = .ok (.iconst 0, 1) := by decide +kernel
theorem d_X_rule_47 : decode (mCd M_X_rule) 47 = .ok (.ireturn, 1) := by decide +kernel
theorem d_X_one_0 : decode (mCd M_X_one) 0 = .ok (.aload_n 0, 1) := by decide +kernel
theorem d_X_one_1 : decode (mCd M_X_one) 1 = .ok (.getfield 33, 3) := by decide +kernel
theorem d_X_one_4 : decode (mCd M_X_one) 4 = .ok (.iload_n 1, 1) := by decide +kernel
theorem d_X_one_5 : decode (mCd M_X_one) 5 = .ok (.invokevirtual 172, 3) := by decide +kernel
theorem d_X_one_8 : decode (mCd M_X_one) 8 = .ok (.ifCond .eq 13, 3) := by decide +kernel
theorem d_X_one_11 : decode (mCd M_X_one) 11 = .ok (.iload_n 2, 1) := by decide +kernel
theorem d_X_one_12 : decode (mCd M_X_one) 12 = .ok (.ifCond .lt 9, 3) := by decide +kernel
theorem d_X_one_15 : decode (mCd M_X_one) 15 = .ok (.iload_n 2, 1) := by decide +kernel
theorem d_X_one_16 : decode (mCd M_X_one) 16 = .ok (.bipush 8, 2) := by decide +kernel
theorem d_X_one_18 : decode (mCd M_X_one) 18 = .ok (.if_icmp .le 11, 3) := by decide +kernel
theorem d_X_one_21 : decode (mCd M_X_one) 21 = .ok (.new 175, 3) := by decide +kernel
theorem d_X_one_24 : decode (mCd M_X_one) 24 = .ok (.dup, 1) := by decide +kernel
theorem d_X_one_25 : decode (mCd M_X_one) 25 = .ok (.invokespecial 177, 3) := by decide +kernel
theorem d_X_one_28 : decode (mCd M_X_one) 28 = .ok (.athrow, 1) := by decide +kernel
theorem d_X_one_29 : decode (mCd M_X_one) 29 = .ok (.iload_n 2, 1) := by decide +kernel
theorem d_X_one_30 : decode (mCd M_X_one) 30 = .ok (.tableswitch 165 0 7 #[46, 56, 66, 76, 86, 103, 113, 140], 46) := by decide +kernel
theorem d_X_one_76 : decode (mCd M_X_one) 76 = .ok (.aload_n 0, 1) := by decide +kernel
theorem d_X_one_77 : decode (mCd M_X_one) 77 = .ok (.getfield 33, 3) := by decide +kernel
theorem d_X_one_80 : decode (mCd M_X_one) 80 = .ok (.getfield 178, 3) := by decide +kernel
theorem d_X_one_83 : decode (mCd M_X_one) 83 = .ok (.iload_n 1, 1) := by decide +kernel
theorem d_X_one_84 : decode (mCd M_X_one) 84 = .ok (.iaload, 1) := by decide +kernel
theorem d_X_one_85 : decode (mCd M_X_one) 85 = .ok (.ireturn, 1) := by decide +kernel
theorem d_X_one_86 : decode (mCd M_X_one) 86 = .ok (.aload_n 0, 1) := by decide +kernel
theorem d_X_one_87 : decode (mCd M_X_one) 87 = .ok (.getfield 33, 3) := by decide +kernel
theorem d_X_one_90 : decode (mCd M_X_one) 90 = .ok (.getfield 182, 3) := by decide +kernel
theorem d_X_one_93 : decode (mCd M_X_one) 93 = .ok (.iload_n 1, 1) := by decide +kernel
theorem d_X_one_94 : decode (mCd M_X_one) 94 = .ok (.iaload, 1) := by decide +kernel
theorem d_X_one_95 : decode (mCd M_X_one) 95 = .ok (.ireturn, 1) := by decide +kernel
theorem d_X_one_96 : decode (mCd M_X_one) 96 = .ok (.aload_n 0, 1) := by decide +kernel
theorem d_X_one_97 : decode (mCd M_X_one) 97 = .ok (.getfield 65, 3) := by decide +kernel
theorem d_X_one_100 : decode (mCd M_X_one) 100 = .ok (.getfield 185, 3) := by decide +kernel
theorem d_X_one_103 : decode (mCd M_X_one) 103 = .ok (.iload_n 1, 1) := by decide +kernel
theorem d_X_one_104 : decode (mCd M_X_one) 104 = .ok (.iaload, 1) := by decide +kernel
theorem d_X_one_105 : decode (mCd M_X_one) 105 = .ok (.ireturn, 1) := by decide +kernel
theorem d_X_one_106 : decode (mCd M_X_one) 106 = .ok (.aload_n 0, 1) := by decide +kernel
theorem d_X_one_107 : decode (mCd M_X_one) 107 = .ok (.getfield 65, 3) := by decide +kernel
theorem d_X_one_110 : decode (mCd M_X_one) 110 = .ok (.getfield 188, 3) := by decide +kernel
theorem d_X_one_113 : decode (mCd M_X_one) 113 = .ok (.iload_n 1, 1) := by decide +kernel
theorem d_X_one_114 : decode (mCd M_X_one) 114 = .ok (.iaload, 1) := by decide +kernel
theorem d_X_one_115 : decode (mCd M_X_one) 115 = .ok (.ireturn, 1) := by decide +kernel
theorem d_X_one_116 : decode (mCd M_X_one) 116 = .ok (.aload_n 0, 1) := by decide +kernel
theorem d_X_one_117 : decode (mCd M_X_one) 117 = .ok (.getfield 65, 3) := by decide +kernel
theorem d_X_one_120 : decode (mCd M_X_one) 120 = .ok (.iload_n 1, 1) := by decide +kernel
theorem d_X_one_121 : decode (mCd M_X_one) 121 = .ok (.invokevirtual 191, 3) := by decide +kernel
theorem d_X_one_124 : decode (mCd M_X_one) 124 = .ok (.ifCond .eq 7, 3) := by decide +kernel
theorem d_X_one_127 : decode (mCd M_X_one) 127 = .ok (.iconst 1, 1) := by decide +kernel
theorem d_X_one_128 : decode (mCd M_X_one) 128 = .ok (.goto 4, 3) := by decide +kernel
theorem d_X_one_131 : decode (mCd M_X_one) 131 = .ok (.iconst 0, 1) := by decide +kernel
theorem d_X_one_132 : decode (mCd M_X_one) 132 = .ok (.ireturn, 1) := by decide +kernel
theorem d_X_one_133 : decode (mCd M_X_one) 133 = .ok (.aload_n 0, 1) := by decide +kernel
theorem d_X_one_134 : decode (mCd M_X_one) 134 = .ok (.getfield 65, 3) := by decide +kernel
theorem d_X_one_137 : decode (mCd M_X_one) 137 = .ok (.getfield 194, 3) := by decide +kernel
theorem d_X_one_140 : decode (mCd M_X_one) 140 = .ok (.iload_n 1, 1) := by decide +kernel
theorem d_X_one_141 : decode (mCd M_X_one) 141 = .ok (.iaload, 1) := by decide +kernel
theorem d_X_one_142 : decode (mCd M_X_one) 142 = .ok (.ireturn, 1) := by decide +kernel
theorem d_X_one_143 : decode (mCd M_X_one) 143 = .ok (.aload_n 0, 1) := by decide +kernel
theorem d_X_one_144 : decode (mCd M_X_one) 144 = .ok (.getfield 65, 3) := by decide +kernel
theorem d_X_one_147 : decode (mCd M_X_one) 147 = .ok (.getfield 194, 3) := by decide +kernel
theorem d_X_one_150 : decode (mCd M_X_one) 150 = .ok (.iload_n 1, 1) := by decide +kernel
theorem d_X_one_151 : decode (mCd M_X_one) 151 = .ok (.iaload, 1) := by decide +kernel
theorem d_X_one_152 : decode (mCd M_X_one) 152 = .ok (.iconst (-1), 1) := by decide +kernel
theorem d_X_one_153 : decode (mCd M_X_one) 153 = .ok (.if_icmp .ne 7, 3) := by decide +kernel
theorem d_X_one_156 : decode (mCd M_X_one) 156 = .ok (.iconst (-1), 1) := by decide +kernel
theorem d_X_one_157 : decode (mCd M_X_one) 157 = .ok (.goto 12, 3) := by decide +kernel
theorem d_X_one_160 : decode (mCd M_X_one) 160 = .ok (.aload_n 0, 1) := by decide +kernel
theorem d_X_one_161 : decode (mCd M_X_one) 161 = .ok (.getfield 65, 3) := by decide +kernel
theorem d_X_one_164 : decode (mCd M_X_one) 164 = .ok (.getfield 197, 3) := by decide +kernel
theorem d_X_one_167 : decode (mCd M_X_one) 167 = .ok (.iload_n 1, 1) := by decide +kernel
theorem d_X_one_168 : decode (mCd M_X_one) 168 = .ok (.iaload, 1) := by decide +kernel
theorem d_X_one_169 : decode (mCd M_X_one) 169 = .ok (.ireturn, 1) := by decide +kernel
theorem d_X_one_170 : decode (mCd M_X_one) 170 = .ok (.aload_n 0, 1) := by decide +kernel
theorem d_X_one_171 : decode (mCd M_X_one) 171 = .ok (.getfield 49, 3) := by decide +kernel
theorem d_X_one_174 : decode (mCd M_X_one) 174 = .ok (.aload_n 0, 1) := by decide +kernel
theorem d_X_one_175 : decode (mCd M_X_one) 175 = .ok (.getfield 65, 3) := by decide +kernel
theorem d_X_one_178 : decode (mCd M_X_one) 178 = .ok (.aload_n 0, 1) := by decide +kernel
theorem d_X_one_179 : decode (mCd M_X_one) 179 = .ok (.getfield 105, 3) := by decide +kernel
theorem d_X_one_182 : decode (mCd M_X_one) 182 = .ok (.invokevirtual 200, 3) := by decide +kernel
theorem d_X_one_185 : decode (mCd M_X_one) 185 = .ok (.aload_n 0, 1) := by decide +kernel
theorem d_X_one_186 : decode (mCd M_X_one) 186 = .ok (.getfield 49, 3) := by decide +kernel
theorem d_X_one_189 : decode (mCd M_X_one) 189 = .ok (.getfield 204, 3) := by decide +kernel
theorem d_X_one_192 : decode (mCd M_X_one) 192 = .ok (.iload_n 1, 1) := by decide +kernel
theorem d_X_one_193 : decode (mCd M_X_one) 193 = .ok (.iaload, 1) := by decide +kernel
theorem d_X_one_194 : decode (mCd M_X_one) 194 = .ok (.ireturn, 1) := by decide +kernel
theorem d_X_one_195 : decode (mCd M_X_one) 195 = .ok (.aload_n 0, 1) := by decide +kernel
theorem d_X_one_196 : decode (mCd M_X_one) 196 = .ok (.getfield 49, 3) := by decide +kernel
theorem d_X_one_199 : decode (mCd M_X_one) 199 = .ok (.aload_n 0, 1) := by decide +kernel
theorem d_X_one_200 : decode (mCd M_X_one) 200 = .ok (.getfield 65, 3) := by decide +kernel
theorem d_X_one_203 : decode (mCd M_X_one) 203 = .ok (.aload_n 0, 1) := by decide +kernel
theorem d_X_one_204 : decode (mCd M_X_one) 204 = .ok (.getfield 105, 3) := by decide +kernel
theorem d_X_one_207 : decode (mCd M_X_one) 207 = .ok (.invokevirtual 200, 3) := by decide +kernel
theorem d_X_one_210 : decode (mCd M_X_one) 210 = .ok (.aload_n 0, 1) := by decide +kernel
theorem d_X_one_211 : decode (mCd M_X_one) 211 = .ok (.getfield 49, 3) := by decide +kernel
theorem d_X_one_214 : decode (mCd M_X_one) 214 = .ok (.iload_n 1, 1) := by decide +kernel
theorem d_X_one_215 : decode (mCd M_X_one) 215 = .ok (.invokevirtual 207, 3) := by decide +kernel
theorem d_X_one_218 : decode (mCd M_X_one) 218 = .ok (.ireturn, 1) := by decide +kernel
theorem d_X_field_0 : decode (mCd M_X_field) 0 = .ok (.aload_n 0, 1) := by decide +kernel
theorem d_X_field_1 : decode (mCd M_X_field) 1 = .ok (.getfield 26, 3) := by decide +kernel
theorem d_X_field_4 : decode (mCd M_X_field) 4 = .ok (.iload_n 1, 1) := by decide +kernel
theorem d_X_field_5 : decode (mCd M_X_field) 5 = .ok (.invokevirtual 211, 3) := by decide +kernel
theorem d_X_field_8 : decode (mCd M_X_field) 8 = .ok (.ifCond .eq 12, 3) := by decide +kernel
theorem d_X_field_11 : decode (mCd M_X_field) 11 = .ok (.iload_n 2, 1) := by decide +kernel
theorem d_X_field_12 : decode (mCd M_X_field) 12 = .ok (.ifCond .lt 8, 3) := by decide +kernel
theorem d_X_field_15 : decode (mCd M_X_field) 15 = .ok (.iload_n 2, 1) := by decide +kernel
theorem d_X_field_16 : decode (mCd M_X_field) 16 = .ok (.iconst 2, 1) := by decide +kernel
theorem d_X_field_17 : decode (mCd M_X_field) 17 = .ok (.if_icmp .le 11, 3) := by decide +kernel
theorem d_X_field_20 : decode (mCd M_X_field) 20 = .ok (.new 175, 3) := by decide +kernel
theorem d_X_field_23 : decode (mCd M_X_field) 23 = .ok (.dup, 1) := by decide +kernel
theorem d_X_field_24 : decode (mCd M_X_field) 24 = .ok (.invokespecial 177, 3) := by decide +kernel
theorem d_X_field_27 : decode (mCd M_X_field) 27 = .ok (.athrow, 1) := by decide +kernel
theorem d_X_field_28 : decode (mCd M_X_field) 28 = .ok (.iload_n 2, 1) := by decide +kernel
theorem d_X_field_29 : decode (mCd M_X_field) 29 = .ok (.ifCond .ne 20, 3) := by decide +kernel
theorem d_X_field_32 : decode (mCd M_X_field) 32 = .ok (.aload_n 0, 1) := by decide +kernel
theorem d_X_field_33 : decode (mCd M_X_field) 33 = .ok (.getfield 26, 3) := by decide +kernel
theorem d_X_field_36 : decode (mCd M_X_field) 36 = .ok (.iload_n 1, 1) := by decide +kernel
theorem d_X_field_37 : decode (mCd M_X_field) 37 = .ok (.invokevirtual 212, 3) := by decide +kernel
theorem d_X_field_40 : decode (mCd M_X_field) 40 = .ok (.ifCond .eq 7, 3) := by decide +kernel
theorem d_X_field_43 : decode (mCd M_X_field) 43 = .ok (.iconst 1, 1) := by decide +kernel
theorem d_X_field_44 : decode (mCd M_X_field) 44 = .ok (.goto 4, 3) := by decide +kernel
theorem d_X_field_47 : decode (mCd M_X_field) 47 = .ok (.iconst 0, 1) := by decide +kernel
theorem d_X_field_48 : decode (mCd M_X_field) 48 = .ok (.ireturn, 1) := by decide +kernel
theorem d_X_field_49 : decode (mCd M_X_field) 49 = .ok (.iload_n 2, 1) := by decide +kernel
theorem d_X_field_50 : decode (mCd M_X_field) 50 = .ok (.iconst 1, 1) := by decide +kernel
theorem d_X_field_51 : decode (mCd M_X_field) 51 = .ok (.if_icmp .ne 20, 3) := by decide +kernel
theorem d_X_field_54 : decode (mCd M_X_field) 54 = .ok (.aload_n 0, 1) := by decide +kernel
theorem d_X_field_55 : decode (mCd M_X_field) 55 = .ok (.getfield 65, 3) := by decide +kernel
theorem d_X_field_58 : decode (mCd M_X_field) 58 = .ok (.getfield 137, 3) := by decide +kernel
theorem d_X_field_61 : decode (mCd M_X_field) 61 = .ok (.iload_n 1, 1) := by decide +kernel
theorem d_X_field_62 : decode (mCd M_X_field) 62 = .ok (.if_icmp .ne 7, 3) := by decide +kernel
theorem d_X_field_65 : decode (mCd M_X_field) 65 = .ok (.iconst 1, 1) := by decide +kernel
theorem d_X_field_66 : decode (mCd M_X_field) 66 = .ok (.goto 4, 3) := by decide +kernel
theorem d_X_field_69 : decode (mCd M_X_field) 69 = .ok (.iconst 0, 1) := by decide +kernel
theorem d_X_field_70 : decode (mCd M_X_field) 70 = .ok (.ireturn, 1) := by decide +kernel
theorem d_X_field_71 : decode (mCd M_X_field) 71 = .ok (.iconst 0, 1) := by decide +kernel
theorem d_X_field_72 : decode (mCd M_X_field) 72 = .ok (.istore_n 3, 1) := by decide +kernel
theorem d_X_field_73 : decode (mCd M_X_field) 73 = .ok (.iconst 0, 1) := by decide +kernel
theorem d_X_field_74 : decode (mCd M_X_field) 74 = .ok (.istore 4, 2) := by decide +kernel
theorem d_X_field_76 : decode (mCd M_X_field) 76 = .ok (.iload 4, 2) := by decide +kernel
theorem d_X_field_78 : decode (mCd M_X_field) 78 = .ok (.aload_n 0, 1) := by decide +kernel
theorem d_X_field_79 : decode (mCd M_X_field) 79 = .ok (.getfield 33, 3) := by decide +kernel
theorem d_X_field_82 : decode (mCd M_X_field) 82 = .ok (.getfield 131, 3) := by decide +kernel
theorem d_X_field_85 : decode (mCd M_X_field) 85 = .ok (.if_icmp .ge 30, 3) := by decide +kernel
theorem d_X_field_88 : decode (mCd M_X_field) 88 = .ok (.aload_n 0, 1) := by decide +kernel
theorem d_X_field_89 : decode (mCd M_X_field) 89 = .ok (.getfield 65, 3) := by decide +kernel
theorem d_X_field_92 : decode (mCd M_X_field) 92 = .ok (.getfield 194, 3) := by decide +kernel
theorem d_X_field_95 : decode (mCd M_X_field) 95 = .ok (.iload 4, 2) := by decide +kernel
theorem d_X_field_97 : decode (mCd M_X_field) 97 = .ok (.iaload, 1) := by decide +kernel
theorem d_X_field_98 : decode (mCd M_X_field) 98 = .ok (.iload_n 1, 1) := by decide +kernel
theorem d_X_field_99 : decode (mCd M_X_field) 99 = .ok (.if_icmp .ne 10, 3) := by decide +kernel
theorem d_X_field_102 : decode (mCd M_X_field) 102 = .ok (.iload_n 3, 1) := by decide +kernel
theorem d_X_field_103 : decode (mCd M_X_field) 103 = .ok (.iconst 1, 1) := by decide +kernel
theorem d_X_field_104 : decode (mCd M_X_field) 104 = .ok (.iload 4, 2) := by decide +kernel
theorem d_X_field_106 : decode (mCd M_X_field) 106 = .ok (.ishl, 1) := by decide +kernel
theorem d_X_field_107 : decode (mCd M_X_field) 107 = .ok (.ior, 1) := by decide +kernel
theorem d_X_field_108 : decode (mCd M_X_field) 108 = .ok (.istore_n 3, 1) := by decide +kernel
theorem d_X_field_109 : decode (mCd M_X_field) 109 = .ok (.iinc 4 1, 3) := by decide +kernel
theorem d_X_field_112 : decode (mCd M_X_field) 112 = .ok (.goto (-36), 3) := by decide +kernel
theorem d_X_field_115 : decode (mCd M_X_field) 115 = .ok (.iload_n 3, 1) := by decide +kernel
theorem d_X_field_116 : decode (mCd M_X_field) 116 = .ok (.ireturn, 1) := by decide +kernel
theorem d_X_sheet_0 : decode (mCd M_X_sheet) 0 = .ok (.iload_n 1, 1) := by decide +kernel
theorem d_X_sheet_1 : decode (mCd M_X_sheet) 1 = .ok (.ifCond .lt 14, 3) := by decide +kernel
theorem d_X_sheet_4 : decode (mCd M_X_sheet) 4 = .ok (.iload_n 1, 1) := by decide +kernel
theorem d_X_sheet_5 : decode (mCd M_X_sheet) 5 = .ok (.iconst 3, 1) := by decide +kernel
theorem d_X_sheet_6 : decode (mCd M_X_sheet) 6 = .ok (.if_icmp .gt 9, 3) := by decide +kernel
theorem d_X_sheet_9 : decode (mCd M_X_sheet) 9 = .ok (.iload_n 2, 1) := by decide +kernel
theorem d_X_sheet_10 : decode (mCd M_X_sheet) 10 = .ok (.bipush 8, 2) := by decide +kernel
theorem d_X_sheet_12 : decode (mCd M_X_sheet) 12 = .ok (.if_icmp .le 5, 3) := by decide +kernel
theorem d_X_sheet_15 : decode (mCd M_X_sheet) 15 = .ok (.iconst (-1), 1) := by decide +kernel
theorem d_X_sheet_16 : decode (mCd M_X_sheet) 16 = .ok (.ireturn, 1) := by decide +kernel
theorem d_X_sheet_17 : decode (mCd M_X_sheet) 17 = .ok (.iload_n 1, 1) := by decide +kernel
theorem d_X_sheet_18 : decode (mCd M_X_sheet) 18 = .ok (.iconst 3, 1) := by decide +kernel
theorem d_X_sheet_19 : decode (mCd M_X_sheet) 19 = .ok (.if_icmp .ne 19, 3) := by decide +kernel
theorem d_X_sheet_22 : decode (mCd M_X_sheet) 22 = .ok (.aload_n 0, 1) := by decide +kernel
theorem d_X_sheet_23 : decode (mCd M_X_sheet) 23 = .ok (.getfield 33, 3) := by decide +kernel
theorem d_X_sheet_26 : decode (mCd M_X_sheet) 26 = .ok (.iconst 0, 1) := by decide +kernel
theorem d_X_sheet_27 : decode (mCd M_X_sheet) 27 = .ok (.iload_n 1, 1) := by decide +kernel
theorem d_X_sheet_28 : decode (mCd M_X_sheet) 28 = .ok (.iload_n 3, 1) := by decide +kernel
theorem d_X_sheet_29 : decode (mCd M_X_sheet) 29 = .ok (.iload 4, 2) := by decide +kernel
theorem d_X_sheet_31 : decode (mCd M_X_sheet) 31 = .ok (.invokevirtual 215, 3) := by decide +kernel
theorem d_X_sheet_34 : decode (mCd M_X_sheet) 34 = .ok (.pop, 1) := by decide +kernel
theorem d_X_sheet_35 : decode (mCd M_X_sheet) 35 = .ok (.bipush (-3), 2) := by decide +kernel
theorem d_X_sheet_37 : decode (mCd M_X_sheet) 37 = .ok (.ireturn, 1) := by decide +kernel
theorem d_X_sheet_38 : decode (mCd M_X_sheet) 38 = .ok (.iload_n 2, 1) := by decide +kernel
theorem d_X_sheet_39 : decode (mCd M_X_sheet) 39 = .ok (.ifCond .ge 6, 3) := by decide +kernel
theorem d_X_sheet_42 : decode (mCd M_X_sheet) 42 = .ok (.bipush (-2), 2) := by decide +kernel
theorem d_X_sheet_44 : decode (mCd M_X_sheet) 44 = .ok (.ireturn, 1) := by decide +kernel
theorem d_X_sheet_45 : decode (mCd M_X_sheet) 45 = .ok (.aload_n 0, 1) := by decide +kernel
theorem d_X_sheet_46 : decode (mCd M_X_sheet) 46 = .ok (.getfield 33, 3) := by decide +kernel
theorem d_X_sheet_49 : decode (mCd M_X_sheet) 49 = .ok (.iload_n 2, 1) := by decide +kernel
theorem d_X_sheet_50 : decode (mCd M_X_sheet) 50 = .ok (.iload_n 1, 1) := by decide +kernel
theorem d_X_sheet_51 : decode (mCd M_X_sheet) 51 = .ok (.iload_n 3, 1) := by decide +kernel
theorem d_X_sheet_52 : decode (mCd M_X_sheet) 52 = .ok (.iload 4, 2) := by decide +kernel
theorem d_X_sheet_54 : decode (mCd M_X_sheet) 54 = .ok (.invokevirtual 215, 3) := by decide +kernel
theorem d_X_sheet_57 : decode (mCd M_X_sheet) 57 = .ok (.ireturn, 1) := by decide +kernel
theorem d_X_hours_0 : decode (mCd M_X_hours) 0 = .ok (.aload_n 0, 1) := by decide +kernel
theorem d_X_hours_1 : decode (mCd M_X_hours) 1 = .ok (.getfield 69, 3) := by decide +kernel
theorem d_X_hours_4 : decode (mCd M_X_hours) 4 = .ok (.aload_n 0, 1) := by decide +kernel
theorem d_X_hours_5 : decode (mCd M_X_hours) 5 = .ok (.getfield 65, 3) := by decide +kernel
theorem d_X_hours_8 : decode (mCd M_X_hours) 8 = .ok (.invokevirtual 219, 3) := by decide +kernel
theorem d_X_hours_11 : decode (mCd M_X_hours) 11 = .ok (.aload_n 0, 1) := by decide +kernel
theorem d_X_hours_12 : decode (mCd M_X_hours) 12 = .ok (.aload_n 0, 1) := by decide +kernel
theorem d_X_hours_13 : decode (mCd M_X_hours) 13 = .ok (.iload_n 1, 1) := by decide +kernel
theorem d_X_hours_14 : decode (mCd M_X_hours) 14 = .ok (.invokevirtual 222, 3) := by decide +kernel
theorem d_X_hours_17 : decode (mCd M_X_hours) 17 = .ok (.invokevirtual 225, 3) := by decide +kernel
theorem d_X_hours_20 : decode (mCd M_X_hours) 20 = .ok (.istore_n 2, 1) := by decide +kernel
theorem d_X_hours_21 : decode (mCd M_X_hours) 21 = .ok (.iload_n 2, 1) := by decide +kernel
theorem d_X_hours_22 : decode (mCd M_X_hours) 22 = .ok (.iconst (-1), 1) := by decide +kernel
theorem d_X_hours_23 : decode (mCd M_X_hours) 23 = .ok (.if_icmp .eq 55, 3) := by decide +kernel
theorem d_X_hours_26 : decode (mCd M_X_hours) 26 = .ok (.aload_n 0, 1) := by decide +kernel
theorem d_X_hours_27 : decode (mCd M_X_hours) 27 = .ok (.getfield 19, 3) := by decide +kernel
theorem d_X_hours_30 : decode (mCd M_X_hours) 30 = .ok (.invokevirtual 228, 3) := by decide +kernel
theorem d_X_hours_33 : decode (mCd M_X_hours) 33 = .ok (.aload_n 0, 1) := by decide +kernel
theorem d_X_hours_34 : decode (mCd M_X_hours) 34 = .ok (.getfield 19, 3) := by decide +kernel
theorem d_X_hours_37 : decode (mCd M_X_hours) 37 = .ok (.aload_n 0, 1) := by decide +kernel
theorem d_X_hours_38 : decode (mCd M_X_hours) 38 = .ok (.getfield 58, 3) := by decide +kernel
theorem d_X_hours_41 : decode (mCd M_X_hours) 41 = .ok (.getfield 231, 3) := by decide +kernel
theorem d_X_hours_44 : decode (mCd M_X_hours) 44 = .ok (.i2l, 1) := by decide +kernel
theorem d_X_hours_45 : decode (mCd M_X_hours) 45 = .ok (.invokevirtual 234, 3) := by decide +kernel
theorem d_X_hours_48 : decode (mCd M_X_hours) 48 = .ok (.aload_n 0, 1) := by decide +kernel
theorem d_X_hours_49 : decode (mCd M_X_hours) 49 = .ok (.getfield 19, 3) := by decide +kernel
theorem d_X_hours_52 : decode (mCd M_X_hours) 52 = .ok (.aload_n 0, 1) := by decide +kernel
theorem d_X_hours_53 : decode (mCd M_X_hours) 53 = .ok (.getfield 58, 3) := by decide +kernel
theorem d_X_hours_56 : decode (mCd M_X_hours) 56 = .ok (.getfield 238, 3) := by decide +kernel
theorem d_X_hours_59 : decode (mCd M_X_hours) 59 = .ok (.i2l, 1) := by decide +kernel
theorem d_X_hours_60 : decode (mCd M_X_hours) 60 = .ok (.invokevirtual 234, 3) := by decide +kernel
theorem d_X_hours_63 : decode (mCd M_X_hours) 63 = .ok (.aload_n 0, 1) := by decide +kernel
theorem d_X_hours_64 : decode (mCd M_X_hours) 64 = .ok (.getfield 19, 3) := by decide +kernel
theorem d_X_hours_67 : decode (mCd M_X_hours) 67 = .ok (.aload_n 0, 1) := by decide +kernel
theorem d_X_hours_68 : decode (mCd M_X_hours) 68 = .ok (.getfield 58, 3) := by decide +kernel
theorem d_X_hours_71 : decode (mCd M_X_hours) 71 = .ok (.getfield 241, 3) := by decide +kernel
theorem d_X_hours_74 : decode (mCd M_X_hours) 74 = .ok (.i2l, 1) := by decide +kernel
theorem d_X_hours_75 : decode (mCd M_X_hours) 75 = .ok (.invokevirtual 234, 3) := by decide +kernel
theorem d_X_hours_78 : decode (mCd M_X_hours) 78 = .ok (.iload_n 2, 1) := by decide +kernel
theorem d_X_hours_79 : decode (mCd M_X_hours) 79 = .ok (.ireturn, 1) := by decide +kernel
theorem d_X_promise_0 : decode (mCd M_X_promise) 0 = .ok (.aload_n 0, 1) := by decide +kernel
theorem d_X_promise_1 : decode (mCd M_X_promise) 1 = .ok (.getfield 69, 3) := by decide +kernel
theorem d_X_promise_4 : decode (mCd M_X_promise) 4 = .ok (.aload_n 0, 1) := by decide +kernel
theorem d_X_promise_5 : decode (mCd M_X_promise) 5 = .ok (.getfield 65, 3) := by decide +kernel
theorem d_X_promise_8 : decode (mCd M_X_promise) 8 = .ok (.invokevirtual 219, 3) := by decide +kernel
theorem d_X_promise_11 : decode (mCd M_X_promise) 11 = .ok (.aload_n 0, 1) := by decide +kernel
theorem d_X_promise_12 : decode (mCd M_X_promise) 12 = .ok (.aload_n 0, 1) := by decide +kernel
theorem d_X_promise_13 : decode (mCd M_X_promise) 13 = .ok (.aload_n 0, 1) := by decide +kernel
theorem d_X_promise_14 : decode (mCd M_X_promise) 14 = .ok (.getfield 65, 3) := by decide +kernel
theorem d_X_promise_17 : decode (mCd M_X_promise) 17 = .ok (.iload_n 1, 1) := by decide +kernel
theorem d_X_promise_18 : decode (mCd M_X_promise) 18 = .ok (.iload_n 2, 1) := by decide +kernel
theorem d_X_promise_19 : decode (mCd M_X_promise) 19 = .ok (.iload_n 3, 1) := by decide +kernel
theorem d_X_promise_20 : decode (mCd M_X_promise) 20 = .ok (.invokevirtual 244, 3) := by decide +kernel
theorem d_X_promise_23 : decode (mCd M_X_promise) 23 = .ok (.invokevirtual 225, 3) := by decide +kernel
theorem d_X_promise_26 : decode (mCd M_X_promise) 26 = .ok (.ireturn, 1) := by decide +kernel
theorem d_X_takesBack_0 : decode (mCd M_X_takesBack) 0 = .ok (.aload_n 0, 1) := by decide +kernel
theorem d_X_takesBack_1 : decode (mCd M_X_takesBack) 1 = .ok (.getfield 69, 3) := by decide +kernel
theorem d_X_takesBack_4 : decode (mCd M_X_takesBack) 4 = .ok (.aload_n 0, 1) := by decide +kernel
theorem d_X_takesBack_5 : decode (mCd M_X_takesBack) 5 = .ok (.getfield 65, 3) := by decide +kernel
theorem d_X_takesBack_8 : decode (mCd M_X_takesBack) 8 = .ok (.invokevirtual 219, 3) := by decide +kernel
theorem d_X_takesBack_11 : decode (mCd M_X_takesBack) 11 = .ok (.aload_n 0, 1) := by decide +kernel
theorem d_X_takesBack_12 : decode (mCd M_X_takesBack) 12 = .ok (.aload_n 0, 1) := by decide +kernel
theorem d_X_takesBack_13 : decode (mCd M_X_takesBack) 13 = .ok (.iload_n 1, 1) := by decide +kernel
theorem d_X_takesBack_14 : decode (mCd M_X_takesBack) 14 = .ok (.invokevirtual 248, 3) := by decide +kernel
theorem d_X_takesBack_17 : decode (mCd M_X_takesBack) 17 = .ok (.invokevirtual 225, 3) := by decide +kernel
theorem d_X_takesBack_20 : decode (mCd M_X_takesBack) 20 = .ok (.ireturn, 1) := by decide +kernel
theorem d_X_letsGo_0 : decode (mCd M_X_letsGo) 0 = .ok (.aload_n 0, 1) := by decide +kernel
theorem d_X_letsGo_1 : decode (mCd M_X_letsGo) 1 = .ok (.getfield 69, 3) := by decide +kernel
theorem d_X_letsGo_4 : decode (mCd M_X_letsGo) 4 = .ok (.aload_n 0, 1) := by decide +kernel
theorem d_X_letsGo_5 : decode (mCd M_X_letsGo) 5 = .ok (.getfield 65, 3) := by decide +kernel
theorem d_X_letsGo_8 : decode (mCd M_X_letsGo) 8 = .ok (.invokevirtual 219, 3) := by decide +kernel
theorem d_X_letsGo_11 : decode (mCd M_X_letsGo) 11 = .ok (.aload_n 0, 1) := by decide +kernel
theorem d_X_letsGo_12 : decode (mCd M_X_letsGo) 12 = .ok (.aload_n 0, 1) := by decide +kernel
theorem d_X_letsGo_13 : decode (mCd M_X_letsGo) 13 = .ok (.aload_n 0, 1) := by decide +kernel
theorem d_X_letsGo_14 : decode (mCd M_X_letsGo) 14 = .ok (.getfield 65, 3) := by decide +kernel
theorem d_X_letsGo_17 : decode (mCd M_X_letsGo) 17 = .ok (.iload_n 1, 1) := by decide +kernel
theorem d_X_letsGo_18 : decode (mCd M_X_letsGo) 18 = .ok (.invokevirtual 251, 3) := by decide +kernel
theorem d_X_letsGo_21 : decode (mCd M_X_letsGo) 21 = .ok (.invokevirtual 225, 3) := by decide +kernel
theorem d_X_letsGo_24 : decode (mCd M_X_letsGo) 24 = .ok (.ireturn, 1) := by decide +kernel
theorem d_X_buys_0 : decode (mCd M_X_buys) 0 = .ok (.aload_n 0, 1) := by decide +kernel
theorem d_X_buys_1 : decode (mCd M_X_buys) 1 = .ok (.getfield 69, 3) := by decide +kernel
theorem d_X_buys_4 : decode (mCd M_X_buys) 4 = .ok (.aload_n 0, 1) := by decide +kernel
theorem d_X_buys_5 : decode (mCd M_X_buys) 5 = .ok (.getfield 65, 3) := by decide +kernel
theorem d_X_buys_8 : decode (mCd M_X_buys) 8 = .ok (.invokevirtual 219, 3) := by decide +kernel
theorem d_X_buys_11 : decode (mCd M_X_buys) 11 = .ok (.aload_n 0, 1) := by decide +kernel
theorem d_X_buys_12 : decode (mCd M_X_buys) 12 = .ok (.aload_n 0, 1) := by decide +kernel
theorem d_X_buys_13 : decode (mCd M_X_buys) 13 = .ok (.iload_n 1, 1) := by decide +kernel
theorem d_X_buys_14 : decode (mCd M_X_buys) 14 = .ok (.invokevirtual 255, 3) := by decide +kernel
theorem d_X_buys_17 : decode (mCd M_X_buys) 17 = .ok (.invokevirtual 225, 3) := by decide +kernel
theorem d_X_buys_20 : decode (mCd M_X_buys) 20 = .ok (.ireturn, 1) := by decide +kernel
theorem d_X_day_0 : decode (mCd M_X_day) 0 = .ok (.aload_n 0, 1) := by decide +kernel
theorem d_X_day_1 : decode (mCd M_X_day) 1 = .ok (.invokevirtual 258, 3) := by decide +kernel
theorem d_X_day_4 : decode (mCd M_X_day) 4 = .ok (.istore_n 1, 1) := by decide +kernel
theorem d_X_day_5 : decode (mCd M_X_day) 5 = .ok (.iload_n 1, 1) := by decide +kernel
theorem d_X_day_6 : decode (mCd M_X_day) 6 = .ok (.iconst (-1), 1) := by decide +kernel
theorem d_X_day_7 : decode (mCd M_X_day) 7 = .ok (.if_icmp .eq 14, 3) := by decide +kernel
theorem d_X_day_10 : decode (mCd M_X_day) 10 = .ok (.aload_n 0, 1) := by decide +kernel
theorem d_X_day_11 : decode (mCd M_X_day) 11 = .ok (.getfield 10, 3) := by decide +kernel
theorem d_X_day_14 : decode (mCd M_X_day) 14 = .ok (.invokevirtual 147, 3) := by decide +kernel
theorem d_X_day_17 : decode (mCd M_X_day) 17 = .ok (.iconst (-1), 1) := by decide +kernel
theorem d_X_day_18 : decode (mCd M_X_day) 18 = .ok (.iload_n 1, 1) := by decide +kernel
theorem d_X_day_19 : decode (mCd M_X_day) 19 = .ok (.isub, 1) := by decide +kernel
theorem d_X_day_20 : decode (mCd M_X_day) 20 = .ok (.ireturn, 1) := by decide +kernel
theorem d_X_day_21 : decode (mCd M_X_day) 21 = .ok (.aload_n 0, 1) := by decide +kernel
theorem d_X_day_22 : decode (mCd M_X_day) 22 = .ok (.getfield 69, 3) := by decide +kernel
theorem d_X_day_25 : decode (mCd M_X_day) 25 = .ok (.aload_n 0, 1) := by decide +kernel
theorem d_X_day_26 : decode (mCd M_X_day) 26 = .ok (.getfield 65, 3) := by decide +kernel
theorem d_X_day_29 : decode (mCd M_X_day) 29 = .ok (.invokevirtual 219, 3) := by decide +kernel
theorem d_X_day_32 : decode (mCd M_X_day) 32 = .ok (.iconst 0, 1) := by decide +kernel
theorem d_X_day_33 : decode (mCd M_X_day) 33 = .ok (.istore_n 2, 1) := by decide +kernel
theorem d_X_day_34 : decode (mCd M_X_day) 34 = .ok (.iconst 0, 1) := by decide +kernel
theorem d_X_day_35 : decode (mCd M_X_day) 35 = .ok (.istore_n 3, 1) := by decide +kernel
theorem d_X_day_36 : decode (mCd M_X_day) 36 = .ok (.iconst 0, 1) := by decide +kernel
theorem d_X_day_37 : decode (mCd M_X_day) 37 = .ok (.istore 4, 2) := by decide +kernel
theorem d_X_day_39 : decode (mCd M_X_day) 39 = .ok (.iload 4, 2) := by decide +kernel
theorem d_X_day_41 : decode (mCd M_X_day) 41 = .ok (.aload_n 0, 1) := by decide +kernel
theorem d_X_day_42 : decode (mCd M_X_day) 42 = .ok (.getfield 10, 3) := by decide +kernel
theorem d_X_day_45 : decode (mCd M_X_day) 45 = .ok (.invokevirtual 116, 3) := by decide +kernel
theorem d_X_day_48 : decode (mCd M_X_day) 48 = .ok (.if_icmp .ge 60, 3) := by decide +kernel
theorem d_X_day_51 : decode (mCd M_X_day) 51 = .ok (.iload_n 3, 1) := by decide +kernel
theorem d_X_day_52 : decode (mCd M_X_day) 52 = .ok (.ifCond .ne 56, 3) := by decide +kernel
theorem d_X_day_55 : decode (mCd M_X_day) 55 = .ok (.aload_n 0, 1) := by decide +kernel
theorem d_X_day_56 : decode (mCd M_X_day) 56 = .ok (.iload 4, 2) := by decide +kernel
theorem d_X_day_58 : decode (mCd M_X_day) 58 = .ok (.invokevirtual 261, 3) := by decide +kernel
theorem d_X_day_61 : decode (mCd M_X_day) 61 = .ok (.ifCond .ge 7, 3) := by decide +kernel
theorem d_X_day_64 : decode (mCd M_X_day) 64 = .ok (.iconst 1, 1) := by decide +kernel
theorem d_X_day_65 : decode (mCd M_X_day) 65 = .ok (.goto 4, 3) := by decide +kernel
theorem d_X_day_68 : decode (mCd M_X_day) 68 = .ok (.iconst 0, 1) := by decide +kernel
theorem d_X_day_69 : decode (mCd M_X_day) 69 = .ok (.istore_n 3, 1) := by decide +kernel
theorem d_X_day_70 : decode (mCd M_X_day) 70 = .ok (.iload_n 2, 1) := by decide +kernel
theorem d_X_day_71 : decode (mCd M_X_day) 71 = .ok (.iload_n 3, 1) := by decide +kernel
theorem d_X_day_72 : decode (mCd M_X_day) 72 = .ok (.ifCond .eq 7, 3) := by decide +kernel
theorem d_X_day_75 : decode (mCd M_X_day) 75 = .ok (.iconst 0, 1) := by decide +kernel
theorem d_X_day_76 : decode (mCd M_X_day) 76 = .ok (.goto 4, 3) := by decide +kernel
theorem d_X_day_79 : decode (mCd M_X_day) 79 = .ok (.iconst 1, 1) := by decide +kernel
theorem d_X_day_80 : decode (mCd M_X_day) 80 = .ok (.iadd, 1) := by decide +kernel
theorem d_X_day_81 : decode (mCd M_X_day) 81 = .ok (.istore_n 2, 1) := by decide +kernel
theorem d_X_day_82 : decode (mCd M_X_day) 82 = .ok (.iload 4, 2) := by decide +kernel
theorem d_X_day_84 : decode (mCd M_X_day) 84 = .ok (.iconst 1, 1) := by decide +kernel
theorem d_X_day_85 : decode (mCd M_X_day) 85 = .ok (.iconst 0, 1) := by decide +kernel
theorem d_X_day_86 : decode (mCd M_X_day) 86 = .ok (.aload_n 0, 1) := by decide +kernel
theorem d_X_day_87 : decode (mCd M_X_day) 87 = .ok (.getfield 10, 3) := by decide +kernel
theorem d_X_day_90 : decode (mCd M_X_day) 90 = .ok (.iload 4, 2) := by decide +kernel
theorem d_X_day_92 : decode (mCd M_X_day) 92 = .ok (.invokevirtual 264, 3) := by decide +kernel
theorem d_X_day_95 : decode (mCd M_X_day) 95 = .ok (.invokestatic 267, 3) := by decide +kernel
theorem d_X_day_98 : decode (mCd M_X_day) 98 = .ok (.invokestatic 270, 3) := by decide +kernel
theorem d_X_day_101 : decode (mCd M_X_day) 101 = .ok (.iadd, 1) := by decide +kernel
theorem d_X_day_102 : decode (mCd M_X_day) 102 = .ok (.iadd, 1) := by decide +kernel
theorem d_X_day_103 : decode (mCd M_X_day) 103 = .ok (.istore 4, 2) := by decide +kernel
theorem d_X_day_105 : decode (mCd M_X_day) 105 = .ok (.goto (-66), 3) := by decide +kernel
theorem d_X_day_108 : decode (mCd M_X_day) 108 = .ok (.iload_n 2, 1) := by decide +kernel
theorem d_X_day_109 : decode (mCd M_X_day) 109 = .ok (.ifCond .le 14, 3) := by decide +kernel
theorem d_X_day_112 : decode (mCd M_X_day) 112 = .ok (.aload_n 0, 1) := by decide +kernel
theorem d_X_day_113 : decode (mCd M_X_day) 113 = .ok (.getfield 78, 3) := by decide +kernel
theorem d_X_day_116 : decode (mCd M_X_day) 116 = .ok (.aload_n 0, 1) := by decide +kernel
theorem d_X_day_117 : decode (mCd M_X_day) 117 = .ok (.getfield 69, 3) := by decide +kernel
theorem d_X_day_120 : decode (mCd M_X_day) 120 = .ok (.invokevirtual 160, 3) := by decide +kernel
theorem d_X_day_123 : decode (mCd M_X_day) 123 = .ok (.aload_n 0, 1) := by decide +kernel
theorem d_X_day_124 : decode (mCd M_X_day) 124 = .ok (.getfield 10, 3) := by decide +kernel
theorem d_X_day_127 : decode (mCd M_X_day) 127 = .ok (.invokevirtual 147, 3) := by decide +kernel
theorem d_X_day_130 : decode (mCd M_X_day) 130 = .ok (.aload_n 0, 1) := by decide +kernel
theorem d_X_day_131 : decode (mCd M_X_day) 131 = .ok (.getfield 19, 3) := by decide +kernel
theorem d_X_day_134 : decode (mCd M_X_day) 134 = .ok (.invokevirtual 228, 3) := by decide +kernel
theorem d_X_day_137 : decode (mCd M_X_day) 137 = .ok (.aload_n 0, 1) := by decide +kernel
theorem d_X_day_138 : decode (mCd M_X_day) 138 = .ok (.getfield 19, 3) := by decide +kernel
theorem d_X_day_141 : decode (mCd M_X_day) 141 = .ok (.iload_n 3, 1) := by decide +kernel
theorem d_X_day_142 : decode (mCd M_X_day) 142 = .ok (.ifCond .eq 7, 3) := by decide +kernel
theorem d_X_day_145 : decode (mCd M_X_day) 145 = .ok (.lconst 1, 1) := by decide +kernel
theorem d_X_day_146 : decode (mCd M_X_day) 146 = .ok (.goto 4, 3) := by decide +kernel
theorem d_X_day_149 : decode (mCd M_X_day) 149 = .ok (.lconst 0, 1) := by decide +kernel
theorem d_X_day_150 : decode (mCd M_X_day) 150 = .ok (.invokevirtual 234, 3) := by decide +kernel
theorem d_X_day_153 : decode (mCd M_X_day) 153 = .ok (.aload_n 0, 1) := by decide +kernel
theorem d_X_day_154 : decode (mCd M_X_day) 154 = .ok (.getfield 19, 3) := by decide +kernel
theorem d_X_day_157 : decode (mCd M_X_day) 157 = .ok (.aload_n 0, 1) := by decide +kernel
theorem d_X_day_158 : decode (mCd M_X_day) 158 = .ok (.getfield 65, 3) := by decide +kernel
theorem d_X_day_161 : decode (mCd M_X_day) 161 = .ok (.getfield 137, 3) := by decide +kernel
theorem d_X_day_164 : decode (mCd M_X_day) 164 = .ok (.i2l, 1) := by decide +kernel
theorem d_X_day_165 : decode (mCd M_X_day) 165 = .ok (.invokevirtual 234, 3) := by decide +kernel
theorem d_X_day_168 : decode (mCd M_X_day) 168 = .ok (.iload_n 2, 1) := by decide +kernel
theorem d_X_day_169 : decode (mCd M_X_day) 169 = .ok (.ireturn, 1) := by decide +kernel
theorem d_X_undo_0 : decode (mCd M_X_undo) 0 = .ok (.aload_n 0, 1) := by decide +kernel
theorem d_X_undo_1 : decode (mCd M_X_undo) 1 = .ok (.getfield 78, 3) := by decide +kernel
theorem d_X_undo_4 : decode (mCd M_X_undo) 4 = .ok (.aload_n 0, 1) := by decide +kernel
theorem d_X_undo_5 : decode (mCd M_X_undo) 5 = .ok (.getfield 65, 3) := by decide +kernel
theorem d_X_undo_8 : decode (mCd M_X_undo) 8 = .ok (.invokevirtual 276, 3) := by decide +kernel
theorem d_X_undo_11 : decode (mCd M_X_undo) 11 = .ok (.ifCond .eq 13, 3) := by decide +kernel
theorem d_X_undo_14 : decode (mCd M_X_undo) 14 = .ok (.aload_n 0, 1) := by decide +kernel
theorem d_X_undo_15 : decode (mCd M_X_undo) 15 = .ok (.getfield 78, 3) := by decide +kernel
theorem d_X_undo_18 : decode (mCd M_X_undo) 18 = .ok (.getfield 280, 3) := by decide +kernel
theorem d_X_undo_21 : decode (mCd M_X_undo) 21 = .ok (.goto 4, 3) := by decide +kernel
theorem d_X_undo_24 : decode (mCd M_X_undo) 24 = .ok (.iconst (-1), 1) := by decide +kernel
theorem d_X_undo_25 : decode (mCd M_X_undo) 25 = .ok (.ireturn, 1) := by decide +kernel
theorem d_X_towed_0 : decode (mCd M_X_towed) 0 = .ok (.aload_n 0, 1) := by decide +kernel
theorem d_X_towed_1 : decode (mCd M_X_towed) 1 = .ok (.getfield 49, 3) := by decide +kernel
theorem d_X_towed_4 : decode (mCd M_X_towed) 4 = .ok (.aload_n 0, 1) := by decide +kernel
theorem d_X_towed_5 : decode (mCd M_X_towed) 5 = .ok (.getfield 65, 3) := by decide +kernel
theorem d_X_towed_8 : decode (mCd M_X_towed) 8 = .ok (.aload_n 0, 1) := by decide +kernel
theorem d_X_towed_9 : decode (mCd M_X_towed) 9 = .ok (.getfield 105, 3) := by decide +kernel
theorem d_X_towed_12 : decode (mCd M_X_towed) 12 = .ok (.invokevirtual 200, 3) := by decide +kernel
theorem d_X_towed_15 : decode (mCd M_X_towed) 15 = .ok (.aload_n 0, 1) := by decide +kernel
theorem d_X_towed_16 : decode (mCd M_X_towed) 16 = .ok (.getfield 49, 3) := by decide +kernel
theorem d_X_towed_19 : decode (mCd M_X_towed) 19 = .ok (.sipush 255, 3) := by decide +kernel
theorem d_X_towed_22 : decode (mCd M_X_towed) 22 = .ok (.invokevirtual 281, 3) := by decide +kernel
theorem d_X_towed_25 : decode (mCd M_X_towed) 25 = .ok (.aload_n 0, 1) := by decide +kernel
theorem d_X_towed_26 : decode (mCd M_X_towed) 26 = .ok (.getfield 19, 3) := by decide +kernel
theorem d_X_towed_29 : decode (mCd M_X_towed) 29 = .ok (.invokevirtual 228, 3) := by decide +kernel
theorem d_X_towed_32 : decode (mCd M_X_towed) 32 = .ok (.iconst 0, 1) := by decide +kernel
theorem d_X_towed_33 : decode (mCd M_X_towed) 33 = .ok (.istore_n 1, 1) := by decide +kernel
theorem d_X_towed_34 : decode (mCd M_X_towed) 34 = .ok (.iload_n 1, 1) := by decide +kernel
theorem d_X_towed_35 : decode (mCd M_X_towed) 35 = .ok (.iconst 4, 1) := by decide +kernel
theorem d_X_towed_36 : decode (mCd M_X_towed) 36 = .ok (.if_icmp .ge 26, 3) := by decide +kernel
theorem d_X_towed_39 : decode (mCd M_X_towed) 39 = .ok (.aload_n 0, 1) := by decide +kernel
theorem d_X_towed_40 : decode (mCd M_X_towed) 40 = .ok (.getfield 19, 3) := by decide +kernel
theorem d_X_towed_43 : decode (mCd M_X_towed) 43 = .ok (.aload_n 0, 1) := by decide +kernel
theorem d_X_towed_44 : decode (mCd M_X_towed) 44 = .ok (.getfield 49, 3) := by decide +kernel
theorem d_X_towed_47 : decode (mCd M_X_towed) 47 = .ok (.getfield 285, 3) := by decide +kernel
theorem d_X_towed_50 : decode (mCd M_X_towed) 50 = .ok (.iload_n 1, 1) := by decide +kernel
theorem d_X_towed_51 : decode (mCd M_X_towed) 51 = .ok (.iaload, 1) := by decide +kernel
theorem d_X_towed_52 : decode (mCd M_X_towed) 52 = .ok (.i2l, 1) := by decide +kernel
theorem d_X_towed_53 : decode (mCd M_X_towed) 53 = .ok (.invokevirtual 234, 3) := by decide +kernel
theorem d_X_towed_56 : decode (mCd M_X_towed) 56 = .ok (.iinc 1 1, 3) := by decide +kernel
theorem d_X_towed_59 : decode (mCd M_X_towed) 59 = .ok (.goto (-25), 3) := by decide +kernel
theorem d_X_towed_62 : decode (mCd M_X_towed) 62 = .ok (.aload_n 0, 1) := by decide +kernel
theorem d_X_towed_63 : decode (mCd M_X_towed) 63 = .ok (.getfield 49, 3) := by decide +kernel
theorem d_X_towed_66 : decode (mCd M_X_towed) 66 = .ok (.aload_n 0, 1) := by decide +kernel
theorem d_X_towed_67 : decode (mCd M_X_towed) 67 = .ok (.getfield 65, 3) := by decide +kernel
theorem d_X_towed_70 : decode (mCd M_X_towed) 70 = .ok (.getfield 137, 3) := by decide +kernel
theorem d_X_towed_73 : decode (mCd M_X_towed) 73 = .ok (.invokevirtual 288, 3) := by decide +kernel
theorem d_X_towed_76 : decode (mCd M_X_towed) 76 = .ok (.ireturn, 1) := by decide +kernel
theorem d_X_ahead_0 : decode (mCd M_X_ahead) 0 = .ok (.iload_n 1, 1) := by decide +kernel
theorem d_X_ahead_1 : decode (mCd M_X_ahead) 1 = .ok (.ifCond .lt 9, 3) := by decide +kernel
theorem d_X_ahead_4 : decode (mCd M_X_ahead) 4 = .ok (.iload_n 1, 1) := by decide +kernel
theorem d_X_ahead_5 : decode (mCd M_X_ahead) 5 = .ok (.bipush 99, 2) := by decide +kernel
theorem d_X_ahead_7 : decode (mCd M_X_ahead) 7 = .ok (.if_icmp .le 5, 3) := by decide +kernel
theorem d_X_ahead_10 : decode (mCd M_X_ahead) 10 = .ok (.iconst (-1), 1) := by decide +kernel
theorem d_X_ahead_11 : decode (mCd M_X_ahead) 11 = .ok (.ireturn, 1) := by decide +kernel
theorem d_X_ahead_12 : decode (mCd M_X_ahead) 12 = .ok (.aload_n 0, 1) := by decide +kernel
theorem d_X_ahead_13 : decode (mCd M_X_ahead) 13 = .ok (.getfield 72, 3) := by decide +kernel
theorem d_X_ahead_16 : decode (mCd M_X_ahead) 16 = .ok (.aload_n 0, 1) := by decide +kernel
theorem d_X_ahead_17 : decode (mCd M_X_ahead) 17 = .ok (.getfield 65, 3) := by decide +kernel
theorem d_X_ahead_20 : decode (mCd M_X_ahead) 20 = .ok (.invokevirtual 219, 3) := by decide +kernel
theorem d_X_ahead_23 : decode (mCd M_X_ahead) 23 = .ok (.aload_n 0, 1) := by decide +kernel
theorem d_X_ahead_24 : decode (mCd M_X_ahead) 24 = .ok (.getfield 58, 3) := by decide +kernel
theorem d_X_ahead_27 : decode (mCd M_X_ahead) 27 = .ok (.aload_n 0, 1) := by decide +kernel
theorem d_X_ahead_28 : decode (mCd M_X_ahead) 28 = .ok (.getfield 72, 3) := by decide +kernel
theorem d_X_ahead_31 : decode (mCd M_X_ahead) 31 = .ok (.aload_n 0, 1) := by decide +kernel
theorem d_X_ahead_32 : decode (mCd M_X_ahead) 32 = .ok (.getfield 105, 3) := by decide +kernel
theorem d_X_ahead_35 : decode (mCd M_X_ahead) 35 = .ok (.iload_n 1, 1) := by decide +kernel
theorem d_X_ahead_36 : decode (mCd M_X_ahead) 36 = .ok (.invokevirtual 291, 3) := by decide +kernel
theorem d_X_ahead_39 : decode (mCd M_X_ahead) 39 = .ok (.aload_n 0, 1) := by decide +kernel
theorem d_X_ahead_40 : decode (mCd M_X_ahead) 40 = .ok (.getfield 19, 3) := by decide +kernel
theorem d_X_ahead_43 : decode (mCd M_X_ahead) 43 = .ok (.invokevirtual 228, 3) := by decide +kernel
theorem d_X_ahead_46 : decode (mCd M_X_ahead) 46 = .ok (.aload_n 0, 1) := by decide +kernel
theorem d_X_ahead_47 : decode (mCd M_X_ahead) 47 = .ok (.getfield 19, 3) := by decide +kernel
theorem d_X_ahead_50 : decode (mCd M_X_ahead) 50 = .ok (.aload_n 0, 1) := by decide +kernel
theorem d_X_ahead_51 : decode (mCd M_X_ahead) 51 = .ok (.getfield 72, 3) := by decide +kernel
theorem d_X_ahead_54 : decode (mCd M_X_ahead) 54 = .ok (.getfield 295, 3) := by decide +kernel
theorem d_X_ahead_57 : decode (mCd M_X_ahead) 57 = .ok (.i2l, 1) := by decide +kernel
theorem d_X_ahead_58 : decode (mCd M_X_ahead) 58 = .ok (.invokevirtual 234, 3) := by decide +kernel
theorem d_X_ahead_61 : decode (mCd M_X_ahead) 61 = .ok (.aload_n 0, 1) := by decide +kernel
theorem d_X_ahead_62 : decode (mCd M_X_ahead) 62 = .ok (.getfield 19, 3) := by decide +kernel
theorem d_X_ahead_65 : decode (mCd M_X_ahead) 65 = .ok (.aload_n 0, 1) := by decide +kernel
theorem d_X_ahead_66 : decode (mCd M_X_ahead) 66 = .ok (.getfield 72, 3) := by decide +kernel
theorem d_X_ahead_69 : decode (mCd M_X_ahead) 69 = .ok (.getfield 298, 3) := by decide +kernel
theorem d_X_ahead_72 : decode (mCd M_X_ahead) 72 = .ok (.i2l, 1) := by decide +kernel
theorem d_X_ahead_73 : decode (mCd M_X_ahead) 73 = .ok (.invokevirtual 234, 3) := by decide +kernel
theorem d_X_ahead_76 : decode (mCd M_X_ahead) 76 = .ok (.aload_n 0, 1) := by decide +kernel
theorem d_X_ahead_77 : decode (mCd M_X_ahead) 77 = .ok (.getfield 19, 3) := by decide +kernel
theorem d_X_ahead_80 : decode (mCd M_X_ahead) 80 = .ok (.aload_n 0, 1) := by decide +kernel
theorem d_X_ahead_81 : decode (mCd M_X_ahead) 81 = .ok (.getfield 72, 3) := by decide +kernel
theorem d_X_ahead_84 : decode (mCd M_X_ahead) 84 = .ok (.getfield 299, 3) := by decide +kernel
theorem d_X_ahead_87 : decode (mCd M_X_ahead) 87 = .ok (.i2l, 1) := by decide +kernel
theorem d_X_ahead_88 : decode (mCd M_X_ahead) 88 = .ok (.invokevirtual 234, 3) := by decide +kernel
theorem d_X_ahead_91 : decode (mCd M_X_ahead) 91 = .ok (.aload_n 0, 1) := by decide +kernel
theorem d_X_ahead_92 : decode (mCd M_X_ahead) 92 = .ok (.getfield 72, 3) := by decide +kernel
theorem d_X_ahead_95 : decode (mCd M_X_ahead) 95 = .ok (.getfield 137, 3) := by decide +kernel
theorem d_X_ahead_98 : decode (mCd M_X_ahead) 98 = .ok (.ireturn, 1) := by decide +kernel
theorem d_X_comes_0 : decode (mCd M_X_comes) 0 = .ok (.aload_n 0, 1) := by decide +kernel
theorem d_X_comes_1 : decode (mCd M_X_comes) 1 = .ok (.getfield 26, 3) := by decide +kernel
theorem d_X_comes_4 : decode (mCd M_X_comes) 4 = .ok (.iload_n 1, 1) := by decide +kernel
theorem d_X_comes_5 : decode (mCd M_X_comes) 5 = .ok (.invokevirtual 211, 3) := by decide +kernel
theorem d_X_comes_8 : decode (mCd M_X_comes) 8 = .ok (.ifCond .ne 5, 3) := by decide +kernel
theorem d_X_comes_11 : decode (mCd M_X_comes) 11 = .ok (.iconst (-1), 1) := by decide +kernel
theorem d_X_comes_12 : decode (mCd M_X_comes) 12 = .ok (.ireturn, 1) := by decide +kernel
theorem d_X_comes_13 : decode (mCd M_X_comes) 13 = .ok (.aload_n 0, 1) := by decide +kernel
theorem d_X_comes_14 : decode (mCd M_X_comes) 14 = .ok (.iconst 0, 1) := by decide +kernel
theorem d_X_comes_15 : decode (mCd M_X_comes) 15 = .ok (.iload_n 1, 1) := by decide +kernel
theorem d_X_comes_16 : decode (mCd M_X_comes) 16 = .ok (.iconst 0, 1) := by decide +kernel
theorem d_X_comes_17 : decode (mCd M_X_comes) 17 = .ok (.bipush 99, 2) := by decide +kernel
theorem d_X_comes_19 : decode (mCd M_X_comes) 19 = .ok (.invokevirtual 300, 3) := by decide +kernel
theorem d_X_comes_22 : decode (mCd M_X_comes) 22 = .ok (.istore_n 2, 1) := by decide +kernel
theorem d_X_comes_23 : decode (mCd M_X_comes) 23 = .ok (.iload_n 2, 1) := by decide +kernel
theorem d_X_comes_24 : decode (mCd M_X_comes) 24 = .ok (.iconst (-1), 1) := by decide +kernel
theorem d_X_comes_25 : decode (mCd M_X_comes) 25 = .ok (.if_icmp .ne 6, 3) := by decide +kernel
theorem d_X_comes_28 : decode (mCd M_X_comes) 28 = .ok (.bipush (-2), 2) := by decide +kernel
theorem d_X_comes_30 : decode (mCd M_X_comes) 30 = .ok (.ireturn, 1) := by decide +kernel
theorem d_X_comes_31 : decode (mCd M_X_comes) 31 = .ok (.aload_n 0, 1) := by decide +kernel
theorem d_X_comes_32 : decode (mCd M_X_comes) 32 = .ok (.getfield 19, 3) := by decide +kernel
theorem d_X_comes_35 : decode (mCd M_X_comes) 35 = .ok (.invokevirtual 228, 3) := by decide +kernel
theorem d_X_comes_38 : decode (mCd M_X_comes) 38 = .ok (.aload_n 0, 1) := by decide +kernel
theorem d_X_comes_39 : decode (mCd M_X_comes) 39 = .ok (.getfield 19, 3) := by decide +kernel
theorem d_X_comes_42 : decode (mCd M_X_comes) 42 = .ok (.aload_n 0, 1) := by decide +kernel
theorem d_X_comes_43 : decode (mCd M_X_comes) 43 = .ok (.getfield 72, 3) := by decide +kernel
theorem d_X_comes_46 : decode (mCd M_X_comes) 46 = .ok (.getfield 295, 3) := by decide +kernel
theorem d_X_comes_49 : decode (mCd M_X_comes) 49 = .ok (.i2l, 1) := by decide +kernel
theorem d_X_comes_50 : decode (mCd M_X_comes) 50 = .ok (.invokevirtual 234, 3) := by decide +kernel
theorem d_X_comes_53 : decode (mCd M_X_comes) 53 = .ok (.iload_n 2, 1) := by decide +kernel
theorem d_X_comes_54 : decode (mCd M_X_comes) 54 = .ok (.ireturn, 1) := by decide +kernel
theorem d_X_sticks_0 : decode (mCd M_X_sticks) 0 = .ok (.aload_n 0, 1) := by decide +kernel
theorem d_X_sticks_1 : decode (mCd M_X_sticks) 1 = .ok (.getfield 72, 3) := by decide +kernel
theorem d_X_sticks_4 : decode (mCd M_X_sticks) 4 = .ok (.aload_n 0, 1) := by decide +kernel
theorem d_X_sticks_5 : decode (mCd M_X_sticks) 5 = .ok (.getfield 65, 3) := by decide +kernel
theorem d_X_sticks_8 : decode (mCd M_X_sticks) 8 = .ok (.invokevirtual 219, 3) := by decide +kernel
theorem d_X_sticks_11 : decode (mCd M_X_sticks) 11 = .ok (.iconst 0, 1) := by decide +kernel
theorem d_X_sticks_12 : decode (mCd M_X_sticks) 12 = .ok (.istore_n 1, 1) := by decide +kernel
theorem d_X_sticks_13 : decode (mCd M_X_sticks) 13 = .ok (.iload_n 1, 1) := by decide +kernel
theorem d_X_sticks_14 : decode (mCd M_X_sticks) 14 = .ok (.bipush 99, 2) := by decide +kernel
theorem d_X_sticks_16 : decode (mCd M_X_sticks) 16 = .ok (.if_icmp .gt 59, 3) := by decide +kernel
theorem d_X_sticks_19 : decode (mCd M_X_sticks) 19 = .ok (.aload_n 0, 1) := by decide +kernel
theorem d_X_sticks_20 : decode (mCd M_X_sticks) 20 = .ok (.getfield 58, 3) := by decide +kernel
theorem d_X_sticks_23 : decode (mCd M_X_sticks) 23 = .ok (.aload_n 0, 1) := by decide +kernel
theorem d_X_sticks_24 : decode (mCd M_X_sticks) 24 = .ok (.getfield 72, 3) := by decide +kernel
theorem d_X_sticks_27 : decode (mCd M_X_sticks) 27 = .ok (.aload_n 0, 1) := by decide +kernel
theorem d_X_sticks_28 : decode (mCd M_X_sticks) 28 = .ok (.getfield 105, 3) := by decide +kernel
theorem d_X_sticks_31 : decode (mCd M_X_sticks) 31 = .ok (.iconst 1, 1) := by decide +kernel
theorem d_X_sticks_32 : decode (mCd M_X_sticks) 32 = .ok (.invokevirtual 291, 3) := by decide +kernel
theorem d_X_sticks_35 : decode (mCd M_X_sticks) 35 = .ok (.aload_n 0, 1) := by decide +kernel
theorem d_X_sticks_36 : decode (mCd M_X_sticks) 36 = .ok (.getfield 58, 3) := by decide +kernel
theorem d_X_sticks_39 : decode (mCd M_X_sticks) 39 = .ok (.getfield 241, 3) := by decide +kernel
theorem d_X_sticks_42 : decode (mCd M_X_sticks) 42 = .ok (.ifCond .le 27, 3) := by decide +kernel
theorem d_X_sticks_45 : decode (mCd M_X_sticks) 45 = .ok (.aload_n 0, 1) := by decide +kernel
theorem d_X_sticks_46 : decode (mCd M_X_sticks) 46 = .ok (.getfield 19, 3) := by decide +kernel
theorem d_X_sticks_49 : decode (mCd M_X_sticks) 49 = .ok (.invokevirtual 228, 3) := by decide +kernel
theorem d_X_sticks_52 : decode (mCd M_X_sticks) 52 = .ok (.aload_n 0, 1) := by decide +kernel
theorem d_X_sticks_53 : decode (mCd M_X_sticks) 53 = .ok (.getfield 19, 3) := by decide +kernel
theorem d_X_sticks_56 : decode (mCd M_X_sticks) 56 = .ok (.aload_n 0, 1) := by decide +kernel
theorem d_X_sticks_57 : decode (mCd M_X_sticks) 57 = .ok (.getfield 72, 3) := by decide +kernel
theorem d_X_sticks_60 : decode (mCd M_X_sticks) 60 = .ok (.getfield 137, 3) := by decide +kernel
theorem d_X_sticks_63 : decode (mCd M_X_sticks) 63 = .ok (.i2l, 1) := by decide +kernel
theorem d_X_sticks_64 : decode (mCd M_X_sticks) 64 = .ok (.invokevirtual 234, 3) := by decide +kernel
theorem d_X_sticks_67 : decode (mCd M_X_sticks) 67 = .ok (.iload_n 1, 1) := by decide +kernel
theorem d_X_sticks_68 : decode (mCd M_X_sticks) 68 = .ok (.ireturn, 1) := by decide +kernel
theorem d_X_sticks_69 : decode (mCd M_X_sticks) 69 = .ok (.iinc 1 1, 3) := by decide +kernel
theorem d_X_sticks_72 : decode (mCd M_X_sticks) 72 = .ok (.goto (-59), 3) := by decide +kernel
theorem d_X_sticks_75 : decode (mCd M_X_sticks) 75 = .ok (.bipush (-2), 2) := by decide +kernel
theorem d_X_sticks_77 : decode (mCd M_X_sticks) 77 = .ok (.ireturn, 1) := by decide +kernel
theorem d_X_track_0 : decode (mCd M_X_track) 0 = .ok (.iload_n 1, 1) := by decide +kernel
theorem d_X_track_1 : decode (mCd M_X_track) 1 = .ok (.iconst 1, 1) := by decide +kernel
theorem d_X_track_2 : decode (mCd M_X_track) 2 = .ok (.if_icmp .lt 9, 3) := by decide +kernel
theorem d_X_track_5 : decode (mCd M_X_track) 5 = .ok (.iload_n 1, 1) := by decide +kernel
theorem d_X_track_6 : decode (mCd M_X_track) 6 = .ok (.bipush 99, 2) := by decide +kernel
theorem d_X_track_8 : decode (mCd M_X_track) 8 = .ok (.if_icmp .le 7, 3) := by decide +kernel
theorem d_X_track_11 : decode (mCd M_X_track) 11 = .ok (.ldc2_w 303, 3) := by decide +kernel
theorem d_X_track_14 : decode (mCd M_X_track) 14 = .ok (.lreturn, 1) := by decide +kernel
theorem d_X_track_15 : decode (mCd M_X_track) 15 = .ok (.aload_n 0, 1) := by decide +kernel
theorem d_X_track_16 : decode (mCd M_X_track) 16 = .ok (.getfield 72, 3) := by decide +kernel
theorem d_X_track_19 : decode (mCd M_X_track) 19 = .ok (.aload_n 0, 1) := by decide +kernel
theorem d_X_track_20 : decode (mCd M_X_track) 20 = .ok (.getfield 65, 3) := by decide +kernel
theorem d_X_track_23 : decode (mCd M_X_track) 23 = .ok (.invokevirtual 219, 3) := by decide +kernel
theorem d_X_track_26 : decode (mCd M_X_track) 26 = .ok (.lconst 1, 1) := by decide +kernel
theorem d_X_track_27 : decode (mCd M_X_track) 27 = .ok (.aload_n 0, 1) := by decide +kernel
theorem d_X_track_28 : decode (mCd M_X_track) 28 = .ok (.getfield 72, 3) := by decide +kernel
theorem d_X_track_31 : decode (mCd M_X_track) 31 = .ok (.getfield 137, 3) := by decide +kernel
theorem d_X_track_34 : decode (mCd M_X_track) 34 = .ok (.lshl, 1) := by decide +kernel
theorem d_X_track_35 : decode (mCd M_X_track) 35 = .ok (.lstore_n 2, 1) := by decide +kernel
theorem d_X_track_36 : decode (mCd M_X_track) 36 = .ok (.iconst 0, 1) := by decide +kernel
theorem d_X_track_37 : decode (mCd M_X_track) 37 = .ok (.istore 4, 2) := by decide +kernel
theorem d_X_track_39 : decode (mCd M_X_track) 39 = .ok (.iconst 0, 1) := by decide +kernel
theorem d_X_track_40 : decode (mCd M_X_track) 40 = .ok (.istore 5, 2) := by decide +kernel
theorem d_X_track_42 : decode (mCd M_X_track) 42 = .ok (.iload 5, 2) := by decide +kernel
theorem d_X_track_44 : decode (mCd M_X_track) 44 = .ok (.iload_n 1, 1) := by decide +kernel
theorem d_X_track_45 : decode (mCd M_X_track) 45 = .ok (.if_icmp .ge 49, 3) := by decide +kernel
theorem d_X_track_48 : decode (mCd M_X_track) 48 = .ok (.aload_n 0, 1) := by decide +kernel
theorem d_X_track_49 : decode (mCd M_X_track) 49 = .ok (.getfield 58, 3) := by decide +kernel
theorem d_X_track_52 : decode (mCd M_X_track) 52 = .ok (.aload_n 0, 1) := by decide +kernel
theorem d_X_track_53 : decode (mCd M_X_track) 53 = .ok (.getfield 72, 3) := by decide +kernel
theorem d_X_track_56 : decode (mCd M_X_track) 56 = .ok (.aload_n 0, 1) := by decide +kernel
theorem d_X_track_57 : decode (mCd M_X_track) 57 = .ok (.getfield 105, 3) := by decide +kernel
theorem d_X_track_60 : decode (mCd M_X_track) 60 = .ok (.iconst 1, 1) := by decide +kernel
theorem d_X_track_61 : decode (mCd M_X_track) 61 = .ok (.invokevirtual 291, 3) := by decide +kernel
theorem d_X_track_64 : decode (mCd M_X_track) 64 = .ok (.lload_n 2, 1) := by decide +kernel
theorem d_X_track_65 : decode (mCd M_X_track) 65 = .ok (.lconst 1, 1) := by decide +kernel
theorem d_X_track_66 : decode (mCd M_X_track) 66 = .ok (.aload_n 0, 1) := by decide +kernel
theorem d_X_track_67 : decode (mCd M_X_track) 67 = .ok (.getfield 72, 3) := by decide +kernel
theorem d_X_track_70 : decode (mCd M_X_track) 70 = .ok (.getfield 137, 3) := by decide +kernel
theorem d_X_track_73 : decode (mCd M_X_track) 73 = .ok (.lshl, 1) := by decide +kernel
theorem d_X_track_74 : decode (mCd M_X_track) 74 = .ok (.lor, 1) := by decide +kernel
theorem d_X_track_75 : decode (mCd M_X_track) 75 = .ok (.lstore_n 2, 1) := by decide +kernel
theorem d_X_track_76 : decode (mCd M_X_track) 76 = .ok (.iload 4, 2) := by decide +kernel
theorem d_X_track_78 : decode (mCd M_X_track) 78 = .ok (.aload_n 0, 1) := by decide +kernel
theorem d_X_track_79 : decode (mCd M_X_track) 79 = .ok (.getfield 58, 3) := by decide +kernel
theorem d_X_track_82 : decode (mCd M_X_track) 82 = .ok (.getfield 241, 3) := by decide +kernel
theorem d_X_track_85 : decode (mCd M_X_track) 85 = .ok (.iadd, 1) := by decide +kernel
theorem d_X_track_86 : decode (mCd M_X_track) 86 = .ok (.istore 4, 2) := by decide +kernel
theorem d_X_track_88 : decode (mCd M_X_track) 88 = .ok (.iinc 5 1, 3) := by decide +kernel
theorem d_X_track_91 : decode (mCd M_X_track) 91 = .ok (.goto (-49), 3) := by decide +kernel
theorem d_X_track_94 : decode (mCd M_X_track) 94 = .ok (.aload_n 0, 1) := by decide +kernel
theorem d_X_track_95 : decode (mCd M_X_track) 95 = .ok (.getfield 19, 3) := by decide +kernel
theorem d_X_track_98 : decode (mCd M_X_track) 98 = .ok (.invokevirtual 228, 3) := by decide +kernel
theorem d_X_track_101 : decode (mCd M_X_track) 101 = .ok (.aload_n 0, 1) := by decide +kernel
theorem d_X_track_102 : decode (mCd M_X_track) 102 = .ok (.getfield 19, 3) := by decide +kernel
theorem d_X_track_105 : decode (mCd M_X_track) 105 = .ok (.lload_n 2, 1) := by decide +kernel
theorem d_X_track_106 : decode (mCd M_X_track) 106 = .ok (.invokestatic 305, 3) := by decide +kernel
theorem d_X_track_109 : decode (mCd M_X_track) 109 = .ok (.i2l, 1) := by decide +kernel
theorem d_X_track_110 : decode (mCd M_X_track) 110 = .ok (.invokevirtual 234, 3) := by decide +kernel
theorem d_X_track_113 : decode (mCd M_X_track) 113 = .ok (.aload_n 0, 1) := by decide +kernel
theorem d_X_track_114 : decode (mCd M_X_track) 114 = .ok (.getfield 19, 3) := by decide +kernel
theorem d_X_track_117 : decode (mCd M_X_track) 117 = .ok (.iload 4, 2) := by decide +kernel
theorem d_X_track_119 : decode (mCd M_X_track) 119 = .ok (.i2l, 1) := by decide +kernel
theorem d_X_track_120 : decode (mCd M_X_track) 120 = .ok (.invokevirtual 234, 3) := by decide +kernel
theorem d_X_track_123 : decode (mCd M_X_track) 123 = .ok (.lload_n 2, 1) := by decide +kernel
theorem d_X_track_124 : decode (mCd M_X_track) 124 = .ok (.lreturn, 1) := by decide +kernel
theorem d_X_sends_0 : decode (mCd M_X_sends) 0 = .ok (.aload_n 0, 1) := by decide +kernel
theorem d_X_sends_1 : decode (mCd M_X_sends) 1 = .ok (.iload_n 1, 1) := by decide +kernel
theorem d_X_sends_2 : decode (mCd M_X_sends) 2 = .ok (.iload_n 3, 1) := by decide +kernel
theorem d_X_sends_3 : decode (mCd M_X_sends) 3 = .ok (.invokevirtual 311, 3) := by decide +kernel
theorem d_X_sends_6 : decode (mCd M_X_sends) 6 = .ok (.ifCond .eq 13, 3) := by decide +kernel
theorem d_X_sends_9 : decode (mCd M_X_sends) 9 = .ok (.iload_n 2, 1) := by decide +kernel
theorem d_X_sends_10 : decode (mCd M_X_sends) 10 = .ok (.ifCond .lt 9, 3) := by decide +kernel
theorem d_X_sends_13 : decode (mCd M_X_sends) 13 = .ok (.iload_n 2, 1) := by decide +kernel
theorem d_X_sends_14 : decode (mCd M_X_sends) 14 = .ok (.bipush 9, 2) := by decide +kernel
theorem d_X_sends_16 : decode (mCd M_X_sends) 16 = .ok (.if_icmp .le 5, 3) := by decide +kernel
theorem d_X_sends_19 : decode (mCd M_X_sends) 19 = .ok (.iconst (-1), 1) := by decide +kernel
theorem d_X_sends_20 : decode (mCd M_X_sends) 20 = .ok (.ireturn, 1) := by decide +kernel
theorem d_X_sends_21 : decode (mCd M_X_sends) 21 = .ok (.aload_n 0, 1) := by decide +kernel
theorem d_X_sends_22 : decode (mCd M_X_sends) 22 = .ok (.iload_n 1, 1) := by decide +kernel
theorem d_X_sends_23 : decode (mCd M_X_sends) 23 = .ok (.iload_n 2, 1) := by decide +kernel
theorem d_X_sends_24 : decode (mCd M_X_sends) 24 = .ok (.iload_n 3, 1) := by decide +kernel
theorem d_X_sends_25 : decode (mCd M_X_sends) 25 = .ok (.bipush 8, 2) := by decide +kernel
theorem d_X_sends_27 : decode (mCd M_X_sends) 27 = .ok (.invokevirtual 315, 3) := by decide +kernel
theorem d_X_sends_30 : decode (mCd M_X_sends) 30 = .ok (.istore 4, 2) := by decide +kernel
theorem d_X_sends_32 : decode (mCd M_X_sends) 32 = .ok (.iload 4, 2) := by decide +kernel
theorem d_X_sends_34 : decode (mCd M_X_sends) 34 = .ok (.iconst (-1), 1) := by decide +kernel
theorem d_X_sends_35 : decode (mCd M_X_sends) 35 = .ok (.if_icmp .ne 6, 3) := by decide +kernel
theorem d_X_sends_38 : decode (mCd M_X_sends) 38 = .ok (.bipush (-2), 2) := by decide +kernel
theorem d_X_sends_40 : decode (mCd M_X_sends) 40 = .ok (.ireturn, 1) := by decide +kernel
theorem d_X_sends_41 : decode (mCd M_X_sends) 41 = .ok (.aload_n 0, 1) := by decide +kernel
theorem d_X_sends_42 : decode (mCd M_X_sends) 42 = .ok (.getfield 19, 3) := by decide +kernel
theorem d_X_sends_45 : decode (mCd M_X_sends) 45 = .ok (.invokevirtual 228, 3) := by decide +kernel
theorem d_X_sends_48 : decode (mCd M_X_sends) 48 = .ok (.aload_n 0, 1) := by decide +kernel
theorem d_X_sends_49 : decode (mCd M_X_sends) 49 = .ok (.getfield 19, 3) := by decide +kernel
theorem d_X_sends_52 : decode (mCd M_X_sends) 52 = .ok (.iload 4, 2) := by decide +kernel
theorem d_X_sends_54 : decode (mCd M_X_sends) 54 = .ok (.i2l, 1) := by decide +kernel
theorem d_X_sends_55 : decode (mCd M_X_sends) 55 = .ok (.invokevirtual 234, 3) := by decide +kernel
theorem d_X_sends_58 : decode (mCd M_X_sends) 58 = .ok (.aload_n 0, 1) := by decide +kernel
theorem d_X_sends_59 : decode (mCd M_X_sends) 59 = .ok (.getfield 19, 3) := by decide +kernel
theorem d_X_sends_62 : decode (mCd M_X_sends) 62 = .ok (.aload_n 0, 1) := by decide +kernel
theorem d_X_sends_63 : decode (mCd M_X_sends) 63 = .ok (.iload 4, 2) := by decide +kernel
theorem d_X_sends_65 : decode (mCd M_X_sends) 65 = .ok (.iload_n 1, 1) := by decide +kernel
theorem d_X_sends_66 : decode (mCd M_X_sends) 66 = .ok (.iload_n 2, 1) := by decide +kernel
theorem d_X_sends_67 : decode (mCd M_X_sends) 67 = .ok (.iload_n 3, 1) := by decide +kernel
theorem d_X_sends_68 : decode (mCd M_X_sends) 68 = .ok (.invokevirtual 300, 3) := by decide +kernel
theorem d_X_sends_71 : decode (mCd M_X_sends) 71 = .ok (.i2l, 1) := by decide +kernel
theorem d_X_sends_72 : decode (mCd M_X_sends) 72 = .ok (.invokevirtual 234, 3) := by decide +kernel
theorem d_X_sends_75 : decode (mCd M_X_sends) 75 = .ok (.iload 4, 2) := by decide +kernel
theorem d_X_sends_77 : decode (mCd M_X_sends) 77 = .ok (.invokestatic 318, 3) := by decide +kernel
theorem d_X_sends_80 : decode (mCd M_X_sends) 80 = .ok (.ireturn, 1) := by decide +kernel
theorem d_X_cheapest_0 : decode (mCd M_X_cheapest) 0 = .ok (.aload_n 0, 1) := by decide +kernel
theorem d_X_cheapest_1 : decode (mCd M_X_cheapest) 1 = .ok (.iload_n 1, 1) := by decide +kernel
theorem d_X_cheapest_2 : decode (mCd M_X_cheapest) 2 = .ok (.iload_n 2, 1) := by decide +kernel
theorem d_X_cheapest_3 : decode (mCd M_X_cheapest) 3 = .ok (.invokevirtual 311, 3) := by decide +kernel
theorem d_X_cheapest_6 : decode (mCd M_X_cheapest) 6 = .ok (.ifCond .ne 5, 3) := by decide +kernel
theorem d_X_cheapest_9 : decode (mCd M_X_cheapest) 9 = .ok (.iconst (-1), 1) := by decide +kernel
theorem d_X_cheapest_10 : decode (mCd M_X_cheapest) 10 = .ok (.ireturn, 1) := by decide +kernel
theorem d_X_cheapest_11 : decode (mCd M_X_cheapest) 11 = .ok (.iconst (-1), 1) := by decide +kernel
theorem d_X_cheapest_12 : decode (mCd M_X_cheapest) 12 = .ok (.istore_n 3, 1) := by decide +kernel
theorem d_X_cheapest_13 : decode (mCd M_X_cheapest) 13 = .ok (.iconst 0, 1) := by decide +kernel
theorem d_X_cheapest_14 : decode (mCd M_X_cheapest) 14 = .ok (.istore 4, 2) := by decide +kernel
theorem d_X_cheapest_16 : decode (mCd M_X_cheapest) 16 = .ok (.iconst 0, 1) := by decide +kernel
theorem d_X_cheapest_17 : decode (mCd M_X_cheapest) 17 = .ok (.istore 5, 2) := by decide +kernel
theorem d_X_cheapest_19 : decode (mCd M_X_cheapest) 19 = .ok (.aload_n 0, 1) := by decide +kernel
theorem d_X_cheapest_20 : decode (mCd M_X_cheapest) 20 = .ok (.getfield 105, 3) := by decide +kernel
theorem d_X_cheapest_23 : decode (mCd M_X_cheapest) 23 = .ok (.invokevirtual 322, 3) := by decide +kernel
theorem d_X_cheapest_26 : decode (mCd M_X_cheapest) 26 = .ok (.ifCond .eq 8, 3) := by decide +kernel
theorem d_X_cheapest_29 : decode (mCd M_X_cheapest) 29 = .ok (.bipush 9, 2) := by decide +kernel
theorem d_X_cheapest_31 : decode (mCd M_X_cheapest) 31 = .ok (.goto 4, 3) := by decide +kernel
theorem d_X_cheapest_34 : decode (mCd M_X_cheapest) 34 = .ok (.iconst 0, 1) := by decide +kernel
theorem d_X_cheapest_35 : decode (mCd M_X_cheapest) 35 = .ok (.istore 6, 2) := by decide +kernel
theorem d_X_cheapest_37 : decode (mCd M_X_cheapest) 37 = .ok (.iconst 0, 1) := by decide +kernel
theorem d_X_cheapest_38 : decode (mCd M_X_cheapest) 38 = .ok (.istore 7, 2) := by decide +kernel
theorem d_X_cheapest_40 : decode (mCd M_X_cheapest) 40 = .ok (.iload 7, 2) := by decide +kernel
theorem d_X_cheapest_42 : decode (mCd M_X_cheapest) 42 = .ok (.iload 6, 2) := by decide +kernel
theorem d_X_cheapest_44 : decode (mCd M_X_cheapest) 44 = .ok (.if_icmp .gt 71, 3) := by decide +kernel
theorem d_X_cheapest_47 : decode (mCd M_X_cheapest) 47 = .ok (.iload_n 3, 1) := by decide +kernel
theorem d_X_cheapest_48 : decode (mCd M_X_cheapest) 48 = .ok (.ifCond .eq 67, 3) := by decide +kernel
theorem d_X_cheapest_51 : decode (mCd M_X_cheapest) 51 = .ok (.iload_n 3, 1) := by decide +kernel
theorem d_X_cheapest_52 : decode (mCd M_X_cheapest) 52 = .ok (.iconst (-1), 1) := by decide +kernel
theorem d_X_cheapest_53 : decode (mCd M_X_cheapest) 53 = .ok (.if_icmp .eq 8, 3) := by decide +kernel
theorem d_X_cheapest_56 : decode (mCd M_X_cheapest) 56 = .ok (.iload 7, 2) := by decide +kernel
theorem d_X_cheapest_58 : decode (mCd M_X_cheapest) 58 = .ok (.ifCond .ne 8, 3) := by decide +kernel
theorem d_X_cheapest_61 : decode (mCd M_X_cheapest) 61 = .ok (.bipush 8, 2) := by decide +kernel
theorem d_X_cheapest_63 : decode (mCd M_X_cheapest) 63 = .ok (.goto 9, 3) := by decide +kernel
theorem d_X_cheapest_66 : decode (mCd M_X_cheapest) 66 = .ok (.iload_n 3, 1) := by decide +kernel
theorem d_X_cheapest_67 : decode (mCd M_X_cheapest) 67 = .ok (.iconst 1, 1) := by decide +kernel
theorem d_X_cheapest_68 : decode (mCd M_X_cheapest) 68 = .ok (.isub, 1) := by decide +kernel
theorem d_X_cheapest_69 : decode (mCd M_X_cheapest) 69 = .ok (.iload 7, 2) := by decide +kernel
theorem d_X_cheapest_71 : decode (mCd M_X_cheapest) 71 = .ok (.idiv, 1) := by decide +kernel
theorem d_X_cheapest_72 : decode (mCd M_X_cheapest) 72 = .ok (.istore 8, 2) := by decide +kernel
theorem d_X_cheapest_74 : decode (mCd M_X_cheapest) 74 = .ok (.aload_n 0, 1) := by decide +kernel
theorem d_X_cheapest_75 : decode (mCd M_X_cheapest) 75 = .ok (.iload_n 1, 1) := by decide +kernel
theorem d_X_cheapest_76 : decode (mCd M_X_cheapest) 76 = .ok (.iload 7, 2) := by decide +kernel
theorem d_X_cheapest_78 : decode (mCd M_X_cheapest) 78 = .ok (.iload_n 2, 1) := by decide +kernel
theorem d_X_cheapest_79 : decode (mCd M_X_cheapest) 79 = .ok (.iload 8, 2) := by decide +kernel
theorem d_X_cheapest_81 : decode (mCd M_X_cheapest) 81 = .ok (.invokevirtual 315, 3) := by decide +kernel
theorem d_X_cheapest_84 : decode (mCd M_X_cheapest) 84 = .ok (.istore 9, 2) := by decide +kernel
theorem d_X_cheapest_86 : decode (mCd M_X_cheapest) 86 = .ok (.iload 9, 2) := by decide +kernel
theorem d_X_cheapest_88 : decode (mCd M_X_cheapest) 88 = .ok (.iconst (-1), 1) := by decide +kernel
theorem d_X_cheapest_89 : decode (mCd M_X_cheapest) 89 = .ok (.if_icmp .eq 20, 3) := by decide +kernel
theorem d_X_cheapest_92 : decode (mCd M_X_cheapest) 92 = .ok (.iload 7, 2) := by decide +kernel
theorem d_X_cheapest_94 : decode (mCd M_X_cheapest) 94 = .ok (.iload 9, 2) := by decide +kernel
theorem d_X_cheapest_96 : decode (mCd M_X_cheapest) 96 = .ok (.invokestatic 318, 3) := by decide +kernel
theorem d_X_cheapest_99 : decode (mCd M_X_cheapest) 99 = .ok (.imul, 1) := by decide +kernel
theorem d_X_cheapest_100 : decode (mCd M_X_cheapest) 100 = .ok (.istore_n 3, 1) := by decide +kernel
theorem d_X_cheapest_101 : decode (mCd M_X_cheapest) 101 = .ok (.iload 7, 2) := by decide +kernel
theorem d_X_cheapest_103 : decode (mCd M_X_cheapest) 103 = .ok (.istore 4, 2) := by decide +kernel
theorem d_X_cheapest_105 : decode (mCd M_X_cheapest) 105 = .ok (.iload 9, 2) := by decide +kernel
theorem d_X_cheapest_107 : decode (mCd M_X_cheapest) 107 = .ok (.istore 5, 2) := by decide +kernel
theorem d_X_cheapest_109 : decode (mCd M_X_cheapest) 109 = .ok (.iinc 7 1, 3) := by decide +kernel
theorem d_X_cheapest_112 : decode (mCd M_X_cheapest) 112 = .ok (.goto (-72), 3) := by decide +kernel
theorem d_X_cheapest_115 : decode (mCd M_X_cheapest) 115 = .ok (.iload_n 3, 1) := by decide +kernel
theorem d_X_cheapest_116 : decode (mCd M_X_cheapest) 116 = .ok (.iconst (-1), 1) := by decide +kernel
theorem d_X_cheapest_117 : decode (mCd M_X_cheapest) 117 = .ok (.if_icmp .ne 6, 3) := by decide +kernel
theorem d_X_cheapest_120 : decode (mCd M_X_cheapest) 120 = .ok (.bipush (-2), 2) := by decide +kernel
theorem d_X_cheapest_122 : decode (mCd M_X_cheapest) 122 = .ok (.ireturn, 1) := by decide +kernel
theorem d_X_cheapest_123 : decode (mCd M_X_cheapest) 123 = .ok (.aload_n 0, 1) := by decide +kernel
theorem d_X_cheapest_124 : decode (mCd M_X_cheapest) 124 = .ok (.getfield 19, 3) := by decide +kernel
theorem d_X_cheapest_127 : decode (mCd M_X_cheapest) 127 = .ok (.invokevirtual 228, 3) := by decide +kernel
theorem d_X_cheapest_130 : decode (mCd M_X_cheapest) 130 = .ok (.aload_n 0, 1) := by decide +kernel
theorem d_X_cheapest_131 : decode (mCd M_X_cheapest) 131 = .ok (.getfield 19, 3) := by decide +kernel
theorem d_X_cheapest_134 : decode (mCd M_X_cheapest) 134 = .ok (.iload 4, 2) := by decide +kernel
theorem d_X_cheapest_136 : decode (mCd M_X_cheapest) 136 = .ok (.i2l, 1) := by decide +kernel
theorem d_X_cheapest_137 : decode (mCd M_X_cheapest) 137 = .ok (.invokevirtual 234, 3) := by decide +kernel
theorem d_X_cheapest_140 : decode (mCd M_X_cheapest) 140 = .ok (.aload_n 0, 1) := by decide +kernel
theorem d_X_cheapest_141 : decode (mCd M_X_cheapest) 141 = .ok (.getfield 19, 3) := by decide +kernel
theorem d_X_cheapest_144 : decode (mCd M_X_cheapest) 144 = .ok (.iload 5, 2) := by decide +kernel
theorem d_X_cheapest_146 : decode (mCd M_X_cheapest) 146 = .ok (.i2l, 1) := by decide +kernel
theorem d_X_cheapest_147 : decode (mCd M_X_cheapest) 147 = .ok (.invokevirtual 234, 3) := by decide +kernel
theorem d_X_cheapest_150 : decode (mCd M_X_cheapest) 150 = .ok (.iload_n 3, 1) := by decide +kernel
theorem d_X_cheapest_151 : decode (mCd M_X_cheapest) 151 = .ok (.ireturn, 1) := by decide +kernel
theorem d_X_matters_0 : decode (mCd M_X_matters) 0 = .ok (.iload_n 1, 1) := by decide +kernel
theorem d_X_matters_1 : decode (mCd M_X_matters) 1 = .ok (.iconst 1, 1) := by decide +kernel
theorem d_X_matters_2 : decode (mCd M_X_matters) 2 = .ok (.if_icmp .lt 9, 3) := by decide +kernel
theorem d_X_matters_5 : decode (mCd M_X_matters) 5 = .ok (.iload_n 1, 1) := by decide +kernel
theorem d_X_matters_6 : decode (mCd M_X_matters) 6 = .ok (.bipush 60, 2) := by decide +kernel
theorem d_X_matters_8 : decode (mCd M_X_matters) 8 = .ok (.if_icmp .le 5, 3) := by decide +kernel
theorem d_X_matters_11 : decode (mCd M_X_matters) 11 = .ok (.iconst (-1), 1) := by decide +kernel
theorem d_X_matters_12 : decode (mCd M_X_matters) 12 = .ok (.ireturn, 1) := by decide +kernel
theorem d_X_matters_13 : decode (mCd M_X_matters) 13 = .ok (.aload_n 0, 1) := by decide +kernel
theorem d_X_matters_14 : decode (mCd M_X_matters) 14 = .ok (.getfield 72, 3) := by decide +kernel
theorem d_X_matters_17 : decode (mCd M_X_matters) 17 = .ok (.aload_n 0, 1) := by decide +kernel
theorem d_X_matters_18 : decode (mCd M_X_matters) 18 = .ok (.getfield 65, 3) := by decide +kernel
theorem d_X_matters_21 : decode (mCd M_X_matters) 21 = .ok (.invokevirtual 219, 3) := by decide +kernel
theorem d_X_matters_24 : decode (mCd M_X_matters) 24 = .ok (.aload_n 0, 1) := by decide +kernel
theorem d_X_matters_25 : decode (mCd M_X_matters) 25 = .ok (.getfield 58, 3) := by decide +kernel
theorem d_X_matters_28 : decode (mCd M_X_matters) 28 = .ok (.aload_n 0, 1) := by decide +kernel
theorem d_X_matters_29 : decode (mCd M_X_matters) 29 = .ok (.getfield 72, 3) := by decide +kernel
theorem d_X_matters_32 : decode (mCd M_X_matters) 32 = .ok (.aload_n 0, 1) := by decide +kernel
theorem d_X_matters_33 : decode (mCd M_X_matters) 33 = .ok (.getfield 105, 3) := by decide +kernel
theorem d_X_matters_36 : decode (mCd M_X_matters) 36 = .ok (.iload_n 1, 1) := by decide +kernel
theorem d_X_matters_37 : decode (mCd M_X_matters) 37 = .ok (.invokevirtual 291, 3) := by decide +kernel
theorem d_X_matters_40 : decode (mCd M_X_matters) 40 = .ok (.aload_n 0, 1) := by decide +kernel
theorem d_X_matters_41 : decode (mCd M_X_matters) 41 = .ok (.getfield 72, 3) := by decide +kernel
theorem d_X_matters_44 : decode (mCd M_X_matters) 44 = .ok (.getfield 137, 3) := by decide +kernel
theorem d_X_matters_47 : decode (mCd M_X_matters) 47 = .ok (.istore_n 2, 1) := by decide +kernel
theorem d_X_matters_48 : decode (mCd M_X_matters) 48 = .ok (.bipush (-2), 2) := by decide +kernel
theorem d_X_matters_50 : decode (mCd M_X_matters) 50 = .ok (.istore_n 3, 1) := by decide +kernel
theorem d_X_matters_51 : decode (mCd M_X_matters) 51 = .ok (.iconst (-1), 1) := by decide +kernel
theorem d_X_matters_52 : decode (mCd M_X_matters) 52 = .ok (.istore 4, 2) := by decide +kernel
theorem d_X_matters_54 : decode (mCd M_X_matters) 54 = .ok (.iconst 0, 1) := by decide +kernel
theorem d_X_matters_55 : decode (mCd M_X_matters) 55 = .ok (.istore 5, 2) := by decide +kernel
theorem d_X_matters_57 : decode (mCd M_X_matters) 57 = .ok (.iload 5, 2) := by decide +kernel
theorem d_X_matters_59 : decode (mCd M_X_matters) 59 = .ok (.aload_n 0, 1) := by decide +kernel
theorem d_X_matters_60 : decode (mCd M_X_matters) 60 = .ok (.getfield 33, 3) := by decide +kernel
theorem d_X_matters_63 : decode (mCd M_X_matters) 63 = .ok (.getfield 131, 3) := by decide +kernel
theorem d_X_matters_66 : decode (mCd M_X_matters) 66 = .ok (.if_icmp .ge 111, 3) := by decide +kernel
theorem d_X_matters_69 : decode (mCd M_X_matters) 69 = .ok (.aload_n 0, 1) := by decide +kernel
theorem d_X_matters_70 : decode (mCd M_X_matters) 70 = .ok (.getfield 65, 3) := by decide +kernel
theorem d_X_matters_73 : decode (mCd M_X_matters) 73 = .ok (.iload 5, 2) := by decide +kernel
theorem d_X_matters_75 : decode (mCd M_X_matters) 75 = .ok (.invokevirtual 191, 3) := by decide +kernel
theorem d_X_matters_78 : decode (mCd M_X_matters) 78 = .ok (.ifCond .eq 93, 3) := by decide +kernel
theorem d_X_matters_81 : decode (mCd M_X_matters) 81 = .ok (.aload_n 0, 1) := by decide +kernel
theorem d_X_matters_82 : decode (mCd M_X_matters) 82 = .ok (.getfield 65, 3) := by decide +kernel
theorem d_X_matters_85 : decode (mCd M_X_matters) 85 = .ok (.getfield 194, 3) := by decide +kernel
theorem d_X_matters_88 : decode (mCd M_X_matters) 88 = .ok (.iload 5, 2) := by decide +kernel
theorem d_X_matters_90 : decode (mCd M_X_matters) 90 = .ok (.iaload, 1) := by decide +kernel
theorem d_X_matters_91 : decode (mCd M_X_matters) 91 = .ok (.iconst (-1), 1) := by decide +kernel
theorem d_X_matters_92 : decode (mCd M_X_matters) 92 = .ok (.if_icmp .eq 79, 3) := by decide +kernel
theorem d_X_matters_95 : decode (mCd M_X_matters) 95 = .ok (.aload_n 0, 1) := by decide +kernel
theorem d_X_matters_96 : decode (mCd M_X_matters) 96 = .ok (.getfield 72, 3) := by decide +kernel
theorem d_X_matters_99 : decode (mCd M_X_matters) 99 = .ok (.aload_n 0, 1) := by decide +kernel
theorem d_X_matters_100 : decode (mCd M_X_matters) 100 = .ok (.getfield 65, 3) := by decide +kernel
theorem d_X_matters_103 : decode (mCd M_X_matters) 103 = .ok (.invokevirtual 219, 3) := by decide +kernel
theorem d_X_matters_106 : decode (mCd M_X_matters) 106 = .ok (.aload_n 0, 1) := by decide +kernel
theorem d_X_matters_107 : decode (mCd M_X_matters) 107 = .ok (.getfield 72, 3) := by decide +kernel
theorem d_X_matters_110 : decode (mCd M_X_matters) 110 = .ok (.dup, 1) := by decide +kernel
theorem d_X_matters_111 : decode (mCd M_X_matters) 111 = .ok (.getfield 134, 3) := by decide +kernel
theorem d_X_matters_114 : decode (mCd M_X_matters) 114 = .ok (.iconst 1, 1) := by decide +kernel
theorem d_X_matters_115 : decode (mCd M_X_matters) 115 = .ok (.iload 5, 2) := by decide +kernel
theorem d_X_matters_117 : decode (mCd M_X_matters) 117 = .ok (.ishl, 1) := by decide +kernel
theorem d_X_matters_118 : decode (mCd M_X_matters) 118 = .ok (.iconst (-1), 1) := by decide +kernel
theorem d_X_matters_119 : decode (mCd M_X_matters) 119 = .ok (.ixor, 1) := by decide +kernel
theorem d_X_matters_120 : decode (mCd M_X_matters) 120 = .ok (.iand, 1) := by decide +kernel
theorem d_X_matters_121 : decode (mCd M_X_matters) 121 = .ok (.putfield 134, 3) := by decide +kernel
theorem d_X_matters_124 : decode (mCd M_X_matters) 124 = .ok (.aload_n 0, 1) := by decide +kernel
theorem d_X_matters_125 : decode (mCd M_X_matters) 125 = .ok (.getfield 58, 3) := by decide +kernel
theorem d_X_matters_128 : decode (mCd M_X_matters) 128 = .ok (.aload_n 0, 1) := by decide +kernel
theorem d_X_matters_129 : decode (mCd M_X_matters) 129 = .ok (.getfield 72, 3) := by decide +kernel
theorem d_X_matters_132 : decode (mCd M_X_matters) 132 = .ok (.aload_n 0, 1) := by decide +kernel
theorem d_X_matters_133 : decode (mCd M_X_matters) 133 = .ok (.getfield 105, 3) := by decide +kernel
theorem d_X_matters_136 : decode (mCd M_X_matters) 136 = .ok (.iload_n 1, 1) := by decide +kernel
theorem d_X_matters_137 : decode (mCd M_X_matters) 137 = .ok (.invokevirtual 291, 3) := by decide +kernel
theorem d_X_matters_140 : decode (mCd M_X_matters) 140 = .ok (.aload_n 0, 1) := by decide +kernel
theorem d_X_matters_141 : decode (mCd M_X_matters) 141 = .ok (.getfield 26, 3) := by decide +kernel
theorem d_X_matters_144 : decode (mCd M_X_matters) 144 = .ok (.iload_n 2, 1) := by decide +kernel
theorem d_X_matters_145 : decode (mCd M_X_matters) 145 = .ok (.aload_n 0, 1) := by decide +kernel
theorem d_X_matters_146 : decode (mCd M_X_matters) 146 = .ok (.getfield 72, 3) := by decide +kernel
theorem d_X_matters_149 : decode (mCd M_X_matters) 149 = .ok (.getfield 137, 3) := by decide +kernel
theorem d_X_matters_152 : decode (mCd M_X_matters) 152 = .ok (.invokevirtual 326, 3) := by decide +kernel
theorem d_X_matters_155 : decode (mCd M_X_matters) 155 = .ok (.istore 6, 2) := by decide +kernel
theorem d_X_matters_157 : decode (mCd M_X_matters) 157 = .ok (.iload 6, 2) := by decide +kernel
theorem d_X_matters_159 : decode (mCd M_X_matters) 159 = .ok (.iload 4, 2) := by decide +kernel
theorem d_X_matters_161 : decode (mCd M_X_matters) 161 = .ok (.if_icmp .le 10, 3) := by decide +kernel
theorem d_X_matters_164 : decode (mCd M_X_matters) 164 = .ok (.iload 6, 2) := by decide +kernel
theorem d_X_matters_166 : decode (mCd M_X_matters) 166 = .ok (.istore 4, 2) := by decide +kernel
theorem d_X_matters_168 : decode (mCd M_X_matters) 168 = .ok (.iload 5, 2) := by decide +kernel
theorem d_X_matters_170 : decode (mCd M_X_matters) 170 = .ok (.istore_n 3, 1) := by decide +kernel
theorem d_X_matters_171 : decode (mCd M_X_matters) 171 = .ok (.iinc 5 1, 3) := by decide +kernel
theorem d_X_matters_174 : decode (mCd M_X_matters) 174 = .ok (.goto (-117), 3) := by decide +kernel
theorem d_X_matters_177 : decode (mCd M_X_matters) 177 = .ok (.iload_n 3, 1) := by decide +kernel
theorem d_X_matters_178 : decode (mCd M_X_matters) 178 = .ok (.bipush (-2), 2) := by decide +kernel
theorem d_X_matters_180 : decode (mCd M_X_matters) 180 = .ok (.if_icmp .eq 20, 3) := by decide +kernel
theorem d_X_matters_183 : decode (mCd M_X_matters) 183 = .ok (.aload_n 0, 1) := by decide +kernel
theorem d_X_matters_184 : decode (mCd M_X_matters) 184 = .ok (.getfield 19, 3) := by decide +kernel
theorem d_X_matters_187 : decode (mCd M_X_matters) 187 = .ok (.invokevirtual 228, 3) := by decide +kernel
theorem d_X_matters_190 : decode (mCd M_X_matters) 190 = .ok (.aload_n 0, 1) := by decide +kernel
theorem d_X_matters_191 : decode (mCd M_X_matters) 191 = .ok (.getfield 19, 3) := by decide +kernel
theorem d_X_matters_194 : decode (mCd M_X_matters) 194 = .ok (.iload 4, 2) := by decide +kernel
theorem d_X_matters_196 : decode (mCd M_X_matters) 196 = .ok (.i2l, 1) := by decide +kernel
theorem d_X_matters_197 : decode (mCd M_X_matters) 197 = .ok (.invokevirtual 234, 3) := by decide +kernel
theorem d_X_matters_200 : decode (mCd M_X_matters) 200 = .ok (.iload_n 3, 1) := by decide +kernel
theorem d_X_matters_201 : decode (mCd M_X_matters) 201 = .ok (.ireturn, 1) := by decide +kernel
theorem d_X_keeps_0 : decode (mCd M_X_keeps) 0 = .ok (.aload_n 0, 1) := by decide +kernel
theorem d_X_keeps_1 : decode (mCd M_X_keeps) 1 = .ok (.getfield 65, 3) := by decide +kernel
theorem d_X_keeps_4 : decode (mCd M_X_keeps) 4 = .ok (.aload_n 0, 1) := by decide +kernel
theorem d_X_keeps_5 : decode (mCd M_X_keeps) 5 = .ok (.getfield 33, 3) := by decide +kernel
theorem d_X_keeps_8 : decode (mCd M_X_keeps) 8 = .ok (.getfield 131, 3) := by decide +kernel
theorem d_X_keeps_11 : decode (mCd M_X_keeps) 11 = .ok (.invokevirtual 329, 3) := by decide +kernel
theorem d_X_keeps_14 : decode (mCd M_X_keeps) 14 = .ok (.istore_n 1, 1) := by decide +kernel
theorem d_X_keeps_15 : decode (mCd M_X_keeps) 15 = .ok (.iconst 0, 1) := by decide +kernel
theorem d_X_keeps_16 : decode (mCd M_X_keeps) 16 = .ok (.istore_n 2, 1) := by decide +kernel
theorem d_X_keeps_17 : decode (mCd M_X_keeps) 17 = .ok (.iconst 0, 1) := by decide +kernel
theorem d_X_keeps_18 : decode (mCd M_X_keeps) 18 = .ok (.istore_n 3, 1) := by decide +kernel
theorem d_X_keeps_19 : decode (mCd M_X_keeps) 19 = .ok (.iconst 0, 1) := by decide +kernel
theorem d_X_keeps_20 : decode (mCd M_X_keeps) 20 = .ok (.istore 4, 2) := by decide +kernel
theorem d_X_keeps_22 : decode (mCd M_X_keeps) 22 = .ok (.iconst 1, 1) := by decide +kernel
theorem d_X_keeps_23 : decode (mCd M_X_keeps) 23 = .ok (.istore 5, 2) := by decide +kernel
theorem d_X_keeps_25 : decode (mCd M_X_keeps) 25 = .ok (.iload 5, 2) := by decide +kernel
theorem d_X_keeps_27 : decode (mCd M_X_keeps) 27 = .ok (.iconst 1, 1) := by decide +kernel
theorem d_X_keeps_28 : decode (mCd M_X_keeps) 28 = .ok (.aload_n 0, 1) := by decide +kernel
theorem d_X_keeps_29 : decode (mCd M_X_keeps) 29 = .ok (.getfield 33, 3) := by decide +kernel
theorem d_X_keeps_32 : decode (mCd M_X_keeps) 32 = .ok (.getfield 131, 3) := by decide +kernel
theorem d_X_keeps_35 : decode (mCd M_X_keeps) 35 = .ok (.ishl, 1) := by decide +kernel
theorem d_X_keeps_36 : decode (mCd M_X_keeps) 36 = .ok (.if_icmp .ge 99, 3) := by decide +kernel
theorem d_X_keeps_39 : decode (mCd M_X_keeps) 39 = .ok (.iload 5, 2) := by decide +kernel
theorem d_X_keeps_41 : decode (mCd M_X_keeps) 41 = .ok (.iload_n 1, 1) := by decide +kernel
theorem d_X_keeps_42 : decode (mCd M_X_keeps) 42 = .ok (.iconst (-1), 1) := by decide +kernel
theorem d_X_keeps_43 : decode (mCd M_X_keeps) 43 = .ok (.ixor, 1) := by decide +kernel
theorem d_X_keeps_44 : decode (mCd M_X_keeps) 44 = .ok (.iand, 1) := by decide +kernel
theorem d_X_keeps_45 : decode (mCd M_X_keeps) 45 = .ok (.ifCond .eq 6, 3) := by decide +kernel
theorem d_X_keeps_48 : decode (mCd M_X_keeps) 48 = .ok (.goto 81, 3) := by decide +kernel
theorem d_X_keeps_51 : decode (mCd M_X_keeps) 51 = .ok (.iload 5, 2) := by decide +kernel
theorem d_X_keeps_53 : decode (mCd M_X_keeps) 53 = .ok (.invokestatic 318, 3) := by decide +kernel
theorem d_X_keeps_56 : decode (mCd M_X_keeps) 56 = .ok (.istore 6, 2) := by decide +kernel
theorem d_X_keeps_58 : decode (mCd M_X_keeps) 58 = .ok (.aload_n 0, 1) := by decide +kernel
theorem d_X_keeps_59 : decode (mCd M_X_keeps) 59 = .ok (.getfield 65, 3) := by decide +kernel
theorem d_X_keeps_62 : decode (mCd M_X_keeps) 62 = .ok (.iload 5, 2) := by decide +kernel
theorem d_X_keeps_64 : decode (mCd M_X_keeps) 64 = .ok (.aload_n 0, 1) := by decide +kernel
theorem d_X_keeps_65 : decode (mCd M_X_keeps) 65 = .ok (.getfield 33, 3) := by decide +kernel
theorem d_X_keeps_68 : decode (mCd M_X_keeps) 68 = .ok (.getfield 131, 3) := by decide +kernel
theorem d_X_keeps_71 : decode (mCd M_X_keeps) 71 = .ok (.invokevirtual 332, 3) := by decide +kernel
theorem d_X_keeps_74 : decode (mCd M_X_keeps) 74 = .ok (.istore 7, 2) := by decide +kernel
theorem d_X_keeps_76 : decode (mCd M_X_keeps) 76 = .ok (.iload 6, 2) := by decide +kernel
theorem d_X_keeps_78 : decode (mCd M_X_keeps) 78 = .ok (.iload_n 3, 1) := by decide +kernel
theorem d_X_keeps_79 : decode (mCd M_X_keeps) 79 = .ok (.if_icmp .gt 16, 3) := by decide +kernel
theorem d_X_keeps_82 : decode (mCd M_X_keeps) 82 = .ok (.iload 6, 2) := by decide +kernel
theorem d_X_keeps_84 : decode (mCd M_X_keeps) 84 = .ok (.iload_n 3, 1) := by decide +kernel
theorem d_X_keeps_85 : decode (mCd M_X_keeps) 85 = .ok (.if_icmp .ne 14, 3) := by decide +kernel
theorem d_X_keeps_88 : decode (mCd M_X_keeps) 88 = .ok (.iload 7, 2) := by decide +kernel
theorem d_X_keeps_90 : decode (mCd M_X_keeps) 90 = .ok (.iload 4, 2) := by decide +kernel
theorem d_X_keeps_92 : decode (mCd M_X_keeps) 92 = .ok (.if_icmp .ge 7, 3) := by decide +kernel
theorem d_X_keeps_95 : decode (mCd M_X_keeps) 95 = .ok (.iconst 1, 1) := by decide +kernel
theorem d_X_keeps_96 : decode (mCd M_X_keeps) 96 = .ok (.goto 4, 3) := by decide +kernel
theorem d_X_keeps_99 : decode (mCd M_X_keeps) 99 = .ok (.iconst 0, 1) := by decide +kernel
theorem d_X_keeps_100 : decode (mCd M_X_keeps) 100 = .ok (.istore 8, 2) := by decide +kernel
theorem d_X_keeps_102 : decode (mCd M_X_keeps) 102 = .ok (.iload 7, 2) := by decide +kernel
theorem d_X_keeps_104 : decode (mCd M_X_keeps) 104 = .ok (.aload_n 0, 1) := by decide +kernel
theorem d_X_keeps_105 : decode (mCd M_X_keeps) 105 = .ok (.getfield 65, 3) := by decide +kernel
theorem d_X_keeps_108 : decode (mCd M_X_keeps) 108 = .ok (.getfield 295, 3) := by decide +kernel
theorem d_X_keeps_111 : decode (mCd M_X_keeps) 111 = .ok (.if_icmp .gt 18, 3) := by decide +kernel
theorem d_X_keeps_114 : decode (mCd M_X_keeps) 114 = .ok (.iload 8, 2) := by decide +kernel
theorem d_X_keeps_116 : decode (mCd M_X_keeps) 116 = .ok (.ifCond .eq 13, 3) := by decide +kernel
theorem d_X_keeps_119 : decode (mCd M_X_keeps) 119 = .ok (.iload 5, 2) := by decide +kernel
theorem d_X_keeps_121 : decode (mCd M_X_keeps) 121 = .ok (.istore_n 2, 1) := by decide +kernel
theorem d_X_keeps_122 : decode (mCd M_X_keeps) 122 = .ok (.iload 6, 2) := by decide +kernel
theorem d_X_keeps_124 : decode (mCd M_X_keeps) 124 = .ok (.istore_n 3, 1) := by decide +kernel
theorem d_X_keeps_125 : decode (mCd M_X_keeps) 125 = .ok (.iload 7, 2) := by decide +kernel
theorem d_X_keeps_127 : decode (mCd M_X_keeps) 127 = .ok (.istore 4, 2) := by decide +kernel
theorem d_X_keeps_129 : decode (mCd M_X_keeps) 129 = .ok (.iinc 5 1, 3) := by decide +kernel
theorem d_X_keeps_132 : decode (mCd M_X_keeps) 132 = .ok (.goto (-107), 3) := by decide +kernel
theorem d_X_keeps_135 : decode (mCd M_X_keeps) 135 = .ok (.aload_n 0, 1) := by decide +kernel
theorem d_X_keeps_136 : decode (mCd M_X_keeps) 136 = .ok (.getfield 19, 3) := by decide +kernel
theorem d_X_keeps_139 : decode (mCd M_X_keeps) 139 = .ok (.invokevirtual 228, 3) := by decide +kernel
theorem d_X_keeps_142 : decode (mCd M_X_keeps) 142 = .ok (.aload_n 0, 1) := by decide +kernel
theorem d_X_keeps_143 : decode (mCd M_X_keeps) 143 = .ok (.getfield 19, 3) := by decide +kernel
theorem d_X_keeps_146 : decode (mCd M_X_keeps) 146 = .ok (.iload_n 2, 1) := by decide +kernel
theorem d_X_keeps_147 : decode (mCd M_X_keeps) 147 = .ok (.i2l, 1) := by decide +kernel
theorem d_X_keeps_148 : decode (mCd M_X_keeps) 148 = .ok (.invokevirtual 234, 3) := by decide +kernel
theorem d_X_keeps_151 : decode (mCd M_X_keeps) 151 = .ok (.aload_n 0, 1) := by decide +kernel
theorem d_X_keeps_152 : decode (mCd M_X_keeps) 152 = .ok (.getfield 19, 3) := by decide +kernel
theorem d_X_keeps_155 : decode (mCd M_X_keeps) 155 = .ok (.aload_n 0, 1) := by decide +kernel
theorem d_X_keeps_156 : decode (mCd M_X_keeps) 156 = .ok (.getfield 65, 3) := by decide +kernel
theorem d_X_keeps_159 : decode (mCd M_X_keeps) 159 = .ok (.getfield 295, 3) := by decide +kernel
theorem d_X_keeps_162 : decode (mCd M_X_keeps) 162 = .ok (.iload 4, 2) := by decide +kernel
theorem d_X_keeps_164 : decode (mCd M_X_keeps) 164 = .ok (.isub, 1) := by decide +kernel
theorem d_X_keeps_165 : decode (mCd M_X_keeps) 165 = .ok (.i2l, 1) := by decide +kernel
theorem d_X_keeps_166 : decode (mCd M_X_keeps) 166 = .ok (.invokevirtual 234, 3) := by decide +kernel
theorem d_X_keeps_169 : decode (mCd M_X_keeps) 169 = .ok (.iload_n 3, 1) := by decide +kernel
theorem d_X_keeps_170 : decode (mCd M_X_keeps) 170 = .ok (.ireturn, 1) := by decide +kernel
