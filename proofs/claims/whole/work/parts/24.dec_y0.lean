/-! Printed by wip/whole/gen_dec.py: what each instruction is. -/
theorem d_Y_thrown_0 : decode (mCd M_Y_thrown) 0 = .ok (.aload_n 0, 1) := by decide +kernel
theorem d_Y_thrown_1 : decode (mCd M_Y_thrown) 1 = .ok (.getfield 3, 3) := by decide +kernel
theorem d_Y_thrown_4 : decode (mCd M_Y_thrown) 4 = .ok (.ireturn, 1) := by decide +kernel
theorem d_Y_refuse_0 : decode (mCd M_Y_refuse) 0 = .ok (.aload_n 0, 1) := by decide +kernel
theorem d_Y_refuse_1 : decode (mCd M_Y_refuse) 1 = .ok (.iconst 1, 1) := by decide +kernel
theorem d_Y_refuse_2 : decode (mCd M_Y_refuse) 2 = .ok (.putfield 3, 3) := by decide +kernel
theorem d_Y_refuse_5 : decode (mCd M_Y_refuse) 5 = .ok (.iconst 0, 1) := by decide +kernel
theorem d_Y_refuse_6 : decode (mCd M_Y_refuse) 6 = .ok (.ireturn, 1) := by decide +kernel
theorem d_Y_in_0 : decode (mCd M_Y_in) 0 = .ok (.lload_n 0, 1) := by decide +kernel
theorem d_Y_in_1 : decode (mCd M_Y_in) 1 = .ok (.lload_n 2, 1) := by decide +kernel
theorem d_Y_in_2 : decode (mCd M_Y_in) 2 = .ok (.lcmp, 1) := by decide +kernel
theorem d_Y_in_3 : decode (mCd M_Y_in) 3 = .ok (.ifCond .lt 14, 3) := by decide +kernel
theorem d_Y_in_6 : decode (mCd M_Y_in) 6 = .ok (.lload_n 0, 1) := by decide +kernel
theorem d_Y_in_7 : decode (mCd M_Y_in) 7 = .ok (.lload 4, 2) := by decide +kernel
theorem d_Y_in_9 : decode (mCd M_Y_in) 9 = .ok (.lcmp, 1) := by decide +kernel
theorem d_Y_in_10 : decode (mCd M_Y_in) 10 = .ok (.ifCond .gt 7, 3) := by decide +kernel
theorem d_Y_in_13 : decode (mCd M_Y_in) 13 = .ok (.iconst 1, 1) := by decide +kernel
theorem d_Y_in_14 : decode (mCd M_Y_in) 14 = .ok (.goto 4, 3) := by decide +kernel
theorem d_Y_in_17 : decode (mCd M_Y_in) 17 = .ok (.iconst 0, 1) := by decide +kernel
theorem d_Y_in_18 : decode (mCd M_Y_in) 18 = .ok (.ireturn, 1) := by decide +kernel
theorem d_Y_has_0 : decode (mCd M_Y_has) 0 = .ok (.lload_n 0, 1) := by decide +kernel
theorem d_Y_has_1 : decode (mCd M_Y_has) 1 = .ok (.iload_n 2, 1) := by decide +kernel
theorem d_Y_has_2 : decode (mCd M_Y_has) 2 = .ok (.lshr, 1) := by decide +kernel
theorem d_Y_has_3 : decode (mCd M_Y_has) 3 = .ok (.lconst 1, 1) := by decide +kernel
theorem d_Y_has_4 : decode (mCd M_Y_has) 4 = .ok (.land, 1) := by decide +kernel
theorem d_Y_has_5 : decode (mCd M_Y_has) 5 = .ok (.lconst 1, 1) := by decide +kernel
theorem d_Y_has_6 : decode (mCd M_Y_has) 6 = .ok (.lcmp, 1) := by decide +kernel
theorem d_Y_has_7 : decode (mCd M_Y_has) 7 = .ok (.ifCond .ne 7, 3) := by decide +kernel
theorem d_Y_has_10 : decode (mCd M_Y_has) 10 = .ok (.iconst 1, 1) := by decide +kernel
theorem d_Y_has_11 : decode (mCd M_Y_has) 11 = .ok (.goto 4, 3) := by decide +kernel
theorem d_Y_has_14 : decode (mCd M_Y_has) 14 = .ok (.iconst 0, 1) := by decide +kernel
theorem d_Y_has_15 : decode (mCd M_Y_has) 15 = .ok (.ireturn, 1) := by decide +kernel
theorem d_Y_flag_0 : decode (mCd M_Y_flag) 0 = .ok (.iload_n 0, 1) := by decide +kernel
theorem d_Y_flag_1 : decode (mCd M_Y_flag) 1 = .ok (.ifCond .eq 7, 3) := by decide +kernel
theorem d_Y_flag_4 : decode (mCd M_Y_flag) 4 = .ok (.iconst 1, 1) := by decide +kernel
theorem d_Y_flag_5 : decode (mCd M_Y_flag) 5 = .ok (.goto 4, 3) := by decide +kernel
theorem d_Y_flag_8 : decode (mCd M_Y_flag) 8 = .ok (.iconst 0, 1) := by decide +kernel
theorem d_Y_flag_9 : decode (mCd M_Y_flag) 9 = .ok (.ireturn, 1) := by decide +kernel
theorem d_Y_common_0 : decode (mCd M_Y_common) 0 = .ok (.lload_n 2, 1) := by decide +kernel
theorem d_Y_common_1 : decode (mCd M_Y_common) 1 = .ok (.lconst 0, 1) := by decide +kernel
theorem d_Y_common_2 : decode (mCd M_Y_common) 2 = .ok (.lcmp, 1) := by decide +kernel
theorem d_Y_common_3 : decode (mCd M_Y_common) 3 = .ok (.ifCond .ne 7, 3) := by decide +kernel
theorem d_Y_common_6 : decode (mCd M_Y_common) 6 = .ok (.lload_n 0, 1) := by decide +kernel
theorem d_Y_common_7 : decode (mCd M_Y_common) 7 = .ok (.goto 10, 3) := by decide +kernel
theorem d_Y_common_10 : decode (mCd M_Y_common) 10 = .ok (.lload_n 2, 1) := by decide +kernel
theorem d_Y_common_11 : decode (mCd M_Y_common) 11 = .ok (.lload_n 0, 1) := by decide +kernel
theorem d_Y_common_12 : decode (mCd M_Y_common) 12 = .ok (.lload_n 2, 1) := by decide +kernel
theorem d_Y_common_13 : decode (mCd M_Y_common) 13 = .ok (.lrem, 1) := by decide +kernel
theorem d_Y_common_14 : decode (mCd M_Y_common) 14 = .ok (.invokestatic 7, 3) := by decide +kernel
theorem d_Y_common_17 : decode (mCd M_Y_common) 17 = .ok (.lreturn, 1) := by decide +kernel
theorem d_Y_enters_0 : decode (mCd M_Y_enters) 0 = .ok (.aload_n 0, 1) := by decide +kernel
theorem d_Y_enters_1 : decode (mCd M_Y_enters) 1 = .ok (.getfield 11, 3) := by decide +kernel
theorem d_Y_enters_4 : decode (mCd M_Y_enters) 4 = .ok (.aload_n 0, 1) := by decide +kernel
theorem d_Y_enters_5 : decode (mCd M_Y_enters) 5 = .ok (.getfield 15, 3) := by decide +kernel
theorem d_Y_enters_8 : decode (mCd M_Y_enters) 8 = .ok (.lload_n 1, 1) := by decide +kernel
theorem d_Y_enters_9 : decode (mCd M_Y_enters) 9 = .ok (.lastore, 1) := by decide +kernel
theorem d_Y_enters_10 : decode (mCd M_Y_enters) 10 = .ok (.aload_n 0, 1) := by decide +kernel
theorem d_Y_enters_11 : decode (mCd M_Y_enters) 11 = .ok (.dup, 1) := by decide +kernel
theorem d_Y_enters_12 : decode (mCd M_Y_enters) 12 = .ok (.getfield 15, 3) := by decide +kernel
theorem d_Y_enters_15 : decode (mCd M_Y_enters) 15 = .ok (.iconst 1, 1) := by decide +kernel
theorem d_Y_enters_16 : decode (mCd M_Y_enters) 16 = .ok (.iadd, 1) := by decide +kernel
theorem d_Y_enters_17 : decode (mCd M_Y_enters) 17 = .ok (.putfield 15, 3) := by decide +kernel
theorem d_Y_enters_20 : decode (mCd M_Y_enters) 20 = .ok (.return_, 1) := by decide +kernel
theorem d_Y_tellsFraction_0 : decode (mCd M_Y_tellsFraction) 0 = .ok (.lload_n 1, 1) := by decide +kernel
theorem d_Y_tellsFraction_1 : decode (mCd M_Y_tellsFraction) 1 = .ok (.lload_n 3, 1) := by decide +kernel
theorem d_Y_tellsFraction_2 : decode (mCd M_Y_tellsFraction) 2 = .ok (.invokestatic 7, 3) := by decide +kernel
theorem d_Y_tellsFraction_5 : decode (mCd M_Y_tellsFraction) 5 = .ok (.lstore 5, 2) := by decide +kernel
theorem d_Y_tellsFraction_7 : decode (mCd M_Y_tellsFraction) 7 = .ok (.aload_n 0, 1) := by decide +kernel
theorem d_Y_tellsFraction_8 : decode (mCd M_Y_tellsFraction) 8 = .ok (.iconst 0, 1) := by decide +kernel
theorem d_Y_tellsFraction_9 : decode (mCd M_Y_tellsFraction) 9 = .ok (.putfield 15, 3) := by decide +kernel
theorem d_Y_tellsFraction_12 : decode (mCd M_Y_tellsFraction) 12 = .ok (.aload_n 0, 1) := by decide +kernel
theorem d_Y_tellsFraction_13 : decode (mCd M_Y_tellsFraction) 13 = .ok (.lload_n 1, 1) := by decide +kernel
theorem d_Y_tellsFraction_14 : decode (mCd M_Y_tellsFraction) 14 = .ok (.lload 5, 2) := by decide +kernel
theorem d_Y_tellsFraction_16 : decode (mCd M_Y_tellsFraction) 16 = .ok (.ldiv, 1) := by decide +kernel
theorem d_Y_tellsFraction_17 : decode (mCd M_Y_tellsFraction) 17 = .ok (.invokevirtual 18, 3) := by decide +kernel
theorem d_Y_tellsFraction_20 : decode (mCd M_Y_tellsFraction) 20 = .ok (.aload_n 0, 1) := by decide +kernel
theorem d_Y_tellsFraction_21 : decode (mCd M_Y_tellsFraction) 21 = .ok (.lload_n 3, 1) := by decide +kernel
theorem d_Y_tellsFraction_22 : decode (mCd M_Y_tellsFraction) 22 = .ok (.lload 5, 2) := by decide +kernel
theorem d_Y_tellsFraction_24 : decode (mCd M_Y_tellsFraction) 24 = .ok (.ldiv, 1) := by decide +kernel
theorem d_Y_tellsFraction_25 : decode (mCd M_Y_tellsFraction) 25 = .ok (.invokevirtual 18, 3) := by decide +kernel
theorem d_Y_tellsFraction_28 : decode (mCd M_Y_tellsFraction) 28 = .ok (.return_, 1) := by decide +kernel
theorem d_Y_init_0 : decode (mCd M_Y_init) 0 = .ok (.aload_n 0, 1) := by decide +kernel
theorem d_Y_init_1 : decode (mCd M_Y_init) 1 = .ok (.invokespecial 22, 3) := by decide +kernel
theorem d_Y_init_4 : decode (mCd M_Y_init) 4 = .ok (.aload_n 0, 1) := by decide +kernel
theorem d_Y_init_5 : decode (mCd M_Y_init) 5 = .ok (.bipush 40, 2) := by decide +kernel
theorem d_Y_init_7 : decode (mCd M_Y_init) 7 = .ok (.newarray .long, 2) := by decide +kernel
theorem d_Y_init_9 : decode (mCd M_Y_init) 9 = .ok (.putfield 11, 3) := by decide +kernel
theorem d_Y_init_12 : decode (mCd M_Y_init) 12 = .ok (.aload_n 0, 1) := by decide +kernel
theorem d_Y_init_13 : decode (mCd M_Y_init) 13 = .ok (.iconst 2, 1) := by decide +kernel
theorem d_Y_init_14 : decode (mCd M_Y_init) 14 = .ok (.putfield 28, 3) := by decide +kernel
theorem d_Y_init_17 : decode (mCd M_Y_init) 17 = .ok (.aload_n 0, 1) := by decide +kernel
theorem d_Y_init_18 : decode (mCd M_Y_init) 18 = .ok (.iconst 2, 1) := by decide +kernel
theorem d_Y_init_19 : decode (mCd M_Y_init) 19 = .ok (.putfield 31, 3) := by decide +kernel
theorem d_Y_init_22 : decode (mCd M_Y_init) 22 = .ok (.aload_n 0, 1) := by decide +kernel
theorem d_Y_init_23 : decode (mCd M_Y_init) 23 = .ok (.iconst 1, 1) := by decide +kernel
theorem d_Y_init_24 : decode (mCd M_Y_init) 24 = .ok (.putfield 34, 3) := by decide +kernel
theorem d_Y_init_27 : decode (mCd M_Y_init) 27 = .ok (.aload_n 0, 1) := by decide +kernel
theorem d_Y_init_28 : decode (mCd M_Y_init) 28 = .ok (.bipush 36, 2) := by decide +kernel
theorem d_Y_init_30 : decode (mCd M_Y_init) 30 = .ok (.newarray .boolean, 2) := by decide +kernel
theorem d_Y_init_32 : decode (mCd M_Y_init) 32 = .ok (.putfield 37, 3) := by decide +kernel
theorem d_Y_init_35 : decode (mCd M_Y_init) 35 = .ok (.aload_n 0, 1) := by decide +kernel
theorem d_Y_init_36 : decode (mCd M_Y_init) 36 = .ok (.bipush 20, 2) := by decide +kernel
theorem d_Y_init_38 : decode (mCd M_Y_init) 38 = .ok (.newarray .int, 2) := by decide +kernel
theorem d_Y_init_40 : decode (mCd M_Y_init) 40 = .ok (.putfield 41, 3) := by decide +kernel
theorem d_Y_init_43 : decode (mCd M_Y_init) 43 = .ok (.aload_n 0, 1) := by decide +kernel
theorem d_Y_init_44 : decode (mCd M_Y_init) 44 = .ok (.bipush 8, 2) := by decide +kernel
theorem d_Y_init_46 : decode (mCd M_Y_init) 46 = .ok (.newarray .int, 2) := by decide +kernel
theorem d_Y_init_48 : decode (mCd M_Y_init) 48 = .ok (.putfield 45, 3) := by decide +kernel
theorem d_Y_init_51 : decode (mCd M_Y_init) 51 = .ok (.aload_n 0, 1) := by decide +kernel
theorem d_Y_init_52 : decode (mCd M_Y_init) 52 = .ok (.bipush 8, 2) := by decide +kernel
theorem d_Y_init_54 : decode (mCd M_Y_init) 54 = .ok (.newarray .int, 2) := by decide +kernel
theorem d_Y_init_56 : decode (mCd M_Y_init) 56 = .ok (.putfield 48, 3) := by decide +kernel
theorem d_Y_init_59 : decode (mCd M_Y_init) 59 = .ok (.aload_n 0, 1) := by decide +kernel
theorem d_Y_init_60 : decode (mCd M_Y_init) 60 = .ok (.bipush 38, 2) := by decide +kernel
theorem d_Y_init_62 : decode (mCd M_Y_init) 62 = .ok (.newarray .int, 2) := by decide +kernel
theorem d_Y_init_64 : decode (mCd M_Y_init) 64 = .ok (.putfield 51, 3) := by decide +kernel
theorem d_Y_init_67 : decode (mCd M_Y_init) 67 = .ok (.aload_n 0, 1) := by decide +kernel
theorem d_Y_init_68 : decode (mCd M_Y_init) 68 = .ok (.bipush 38, 2) := by decide +kernel
theorem d_Y_init_70 : decode (mCd M_Y_init) 70 = .ok (.newarray .int, 2) := by decide +kernel
theorem d_Y_init_72 : decode (mCd M_Y_init) 72 = .ok (.putfield 54, 3) := by decide +kernel
theorem d_Y_init_75 : decode (mCd M_Y_init) 75 = .ok (.aload_n 0, 1) := by decide +kernel
theorem d_Y_init_76 : decode (mCd M_Y_init) 76 = .ok (.bipush 80, 2) := by decide +kernel
theorem d_Y_init_78 : decode (mCd M_Y_init) 78 = .ok (.newarray .int, 2) := by decide +kernel
theorem d_Y_init_80 : decode (mCd M_Y_init) 80 = .ok (.putfield 57, 3) := by decide +kernel
theorem d_Y_init_83 : decode (mCd M_Y_init) 83 = .ok (.aload_n 0, 1) := by decide +kernel
theorem d_Y_init_84 : decode (mCd M_Y_init) 84 = .ok (.bipush 36, 2) := by decide +kernel
theorem d_Y_init_86 : decode (mCd M_Y_init) 86 = .ok (.newarray .boolean, 2) := by decide +kernel
theorem d_Y_init_88 : decode (mCd M_Y_init) 88 = .ok (.putfield 60, 3) := by decide +kernel
theorem d_Y_init_91 : decode (mCd M_Y_init) 91 = .ok (.aload_n 0, 1) := by decide +kernel
theorem d_Y_init_92 : decode (mCd M_Y_init) 92 = .ok (.bipush 36, 2) := by decide +kernel
theorem d_Y_init_94 : decode (mCd M_Y_init) 94 = .ok (.newarray .int, 2) := by decide +kernel
theorem d_Y_init_96 : decode (mCd M_Y_init) 96 = .ok (.putfield 63, 3) := by decide +kernel
theorem d_Y_init_99 : decode (mCd M_Y_init) 99 = .ok (.aload_n 0, 1) := by decide +kernel
theorem d_Y_init_100 : decode (mCd M_Y_init) 100 = .ok (.bipush 80, 2) := by decide +kernel
theorem d_Y_init_102 : decode (mCd M_Y_init) 102 = .ok (.newarray .int, 2) := by decide +kernel
theorem d_Y_init_104 : decode (mCd M_Y_init) 104 = .ok (.putfield 66, 3) := by decide +kernel
theorem d_Y_init_107 : decode (mCd M_Y_init) 107 = .ok (.aload_n 0, 1) := by decide +kernel
theorem d_Y_init_108 : decode (mCd M_Y_init) 108 = .ok (.bipush 80, 2) := by decide +kernel
theorem d_Y_init_110 : decode (mCd M_Y_init) 110 = .ok (.newarray .int, 2) := by decide +kernel
theorem d_Y_init_112 : decode (mCd M_Y_init) 112 = .ok (.putfield 69, 3) := by decide +kernel
theorem d_Y_init_115 : decode (mCd M_Y_init) 115 = .ok (.aload_n 0, 1) := by decide +kernel
theorem d_Y_init_116 : decode (mCd M_Y_init) 116 = .ok (.bipush 80, 2) := by decide +kernel
theorem d_Y_init_118 : decode (mCd M_Y_init) 118 = .ok (.newarray .int, 2) := by decide +kernel
theorem d_Y_init_120 : decode (mCd M_Y_init) 120 = .ok (.putfield 72, 3) := by decide +kernel
theorem d_Y_init_123 : decode (mCd M_Y_init) 123 = .ok (.aload_n 0, 1) := by decide +kernel
theorem d_Y_init_124 : decode (mCd M_Y_init) 124 = .ok (.bipush 8, 2) := by decide +kernel
theorem d_Y_init_126 : decode (mCd M_Y_init) 126 = .ok (.newarray .int, 2) := by decide +kernel
theorem d_Y_init_128 : decode (mCd M_Y_init) 128 = .ok (.putfield 75, 3) := by decide +kernel
theorem d_Y_init_131 : decode (mCd M_Y_init) 131 = .ok (.aload_n 0, 1) := by decide +kernel
theorem d_Y_init_132 : decode (mCd M_Y_init) 132 = .ok (.bipush 8, 2) := by decide +kernel
theorem d_Y_init_134 : decode (mCd M_Y_init) 134 = .ok (.newarray .int, 2) := by decide +kernel
theorem d_Y_init_136 : decode (mCd M_Y_init) 136 = .ok (.putfield 78, 3) := by decide +kernel
theorem d_Y_init_139 : decode (mCd M_Y_init) 139 = .ok (.aload_n 0, 1) := by decide +kernel
theorem d_Y_init_140 : decode (mCd M_Y_init) 140 = .ok (.iconst 4, 1) := by decide +kernel
theorem d_Y_init_141 : decode (mCd M_Y_init) 141 = .ok (.newarray .int, 2) := by decide +kernel
theorem d_Y_init_143 : decode (mCd M_Y_init) 143 = .ok (.putfield 81, 3) := by decide +kernel
theorem d_Y_init_146 : decode (mCd M_Y_init) 146 = .ok (.aload_n 0, 1) := by decide +kernel
theorem d_Y_init_147 : decode (mCd M_Y_init) 147 = .ok (.sipush 608, 3) := by decide +kernel
theorem d_Y_init_150 : decode (mCd M_Y_init) 150 = .ok (.newarray .int, 2) := by decide +kernel
theorem d_Y_init_152 : decode (mCd M_Y_init) 152 = .ok (.putfield 84, 3) := by decide +kernel
theorem d_Y_init_155 : decode (mCd M_Y_init) 155 = .ok (.aload_n 0, 1) := by decide +kernel
theorem d_Y_init_156 : decode (mCd M_Y_init) 156 = .ok (.bipush 60, 2) := by decide +kernel
theorem d_Y_init_158 : decode (mCd M_Y_init) 158 = .ok (.newarray .int, 2) := by decide +kernel
theorem d_Y_init_160 : decode (mCd M_Y_init) 160 = .ok (.putfield 87, 3) := by decide +kernel
theorem d_Y_init_163 : decode (mCd M_Y_init) 163 = .ok (.aload_n 0, 1) := by decide +kernel
theorem d_Y_init_164 : decode (mCd M_Y_init) 164 = .ok (.bipush 60, 2) := by decide +kernel
theorem d_Y_init_166 : decode (mCd M_Y_init) 166 = .ok (.newarray .int, 2) := by decide +kernel
theorem d_Y_init_168 : decode (mCd M_Y_init) 168 = .ok (.putfield 90, 3) := by decide +kernel
theorem d_Y_init_171 : decode (mCd M_Y_init) 171 = .ok (.aload_n 0, 1) := by decide +kernel
theorem d_Y_init_172 : decode (mCd M_Y_init) 172 = .ok (.bipush 60, 2) := by decide +kernel
theorem d_Y_init_174 : decode (mCd M_Y_init) 174 = .ok (.newarray .int, 2) := by decide +kernel
theorem d_Y_init_176 : decode (mCd M_Y_init) 176 = .ok (.putfield 93, 3) := by decide +kernel
theorem d_Y_init_179 : decode (mCd M_Y_init) 179 = .ok (.aload_n 0, 1) := by decide +kernel
theorem d_Y_init_180 : decode (mCd M_Y_init) 180 = .ok (.bipush 60, 2) := by decide +kernel
theorem d_Y_init_182 : decode (mCd M_Y_init) 182 = .ok (.newarray .int, 2) := by decide +kernel
theorem d_Y_init_184 : decode (mCd M_Y_init) 184 = .ok (.putfield 96, 3) := by decide +kernel
theorem d_Y_init_187 : decode (mCd M_Y_init) 187 = .ok (.aload_n 0, 1) := by decide +kernel
theorem d_Y_init_188 : decode (mCd M_Y_init) 188 = .ok (.bipush 60, 2) := by decide +kernel
theorem d_Y_init_190 : decode (mCd M_Y_init) 190 = .ok (.newarray .int, 2) := by decide +kernel
theorem d_Y_init_192 : decode (mCd M_Y_init) 192 = .ok (.putfield 99, 3) := by decide +kernel
theorem d_Y_init_195 : decode (mCd M_Y_init) 195 = .ok (.aload_n 0, 1) := by decide +kernel
theorem d_Y_init_196 : decode (mCd M_Y_init) 196 = .ok (.bipush 10, 2) := by decide +kernel
theorem d_Y_init_198 : decode (mCd M_Y_init) 198 = .ok (.newarray .int, 2) := by decide +kernel
theorem d_Y_init_200 : decode (mCd M_Y_init) 200 = .ok (.putfield 102, 3) := by decide +kernel
theorem d_Y_init_203 : decode (mCd M_Y_init) 203 = .ok (.aload_n 0, 1) := by decide +kernel
theorem d_Y_init_204 : decode (mCd M_Y_init) 204 = .ok (.bipush 10, 2) := by decide +kernel
theorem d_Y_init_206 : decode (mCd M_Y_init) 206 = .ok (.newarray .int, 2) := by decide +kernel
theorem d_Y_init_208 : decode (mCd M_Y_init) 208 = .ok (.putfield 105, 3) := by decide +kernel
theorem d_Y_init_211 : decode (mCd M_Y_init) 211 = .ok (.aload_n 0, 1) := by decide +kernel
theorem d_Y_init_212 : decode (mCd M_Y_init) 212 = .ok (.bipush 10, 2) := by decide +kernel
theorem d_Y_init_214 : decode (mCd M_Y_init) 214 = .ok (.newarray .int, 2) := by decide +kernel
theorem d_Y_init_216 : decode (mCd M_Y_init) 216 = .ok (.putfield 108, 3) := by decide +kernel
theorem d_Y_init_219 : decode (mCd M_Y_init) 219 = .ok (.aload_n 0, 1) := by decide +kernel
theorem d_Y_init_220 : decode (mCd M_Y_init) 220 = .ok (.sipush 189, 3) := by decide +kernel
theorem d_Y_init_223 : decode (mCd M_Y_init) 223 = .ok (.newarray .int, 2) := by decide +kernel
theorem d_Y_init_225 : decode (mCd M_Y_init) 225 = .ok (.putfield 111, 3) := by decide +kernel
theorem d_Y_init_228 : decode (mCd M_Y_init) 228 = .ok (.aload_n 0, 1) := by decide +kernel
theorem d_Y_init_229 : decode (mCd M_Y_init) 229 = .ok (.bipush 36, 2) := by decide +kernel
theorem d_Y_init_231 : decode (mCd M_Y_init) 231 = .ok (.newarray .int, 2) := by decide +kernel
theorem d_Y_init_233 : decode (mCd M_Y_init) 233 = .ok (.putfield 114, 3) := by decide +kernel
theorem d_Y_init_236 : decode (mCd M_Y_init) 236 = .ok (.aload_n 0, 1) := by decide +kernel
theorem d_Y_init_237 : decode (mCd M_Y_init) 237 = .ok (.bipush 36, 2) := by decide +kernel
theorem d_Y_init_239 : decode (mCd M_Y_init) 239 = .ok (.newarray .int, 2) := by decide +kernel
theorem d_Y_init_241 : decode (mCd M_Y_init) 241 = .ok (.putfield 117, 3) := by decide +kernel
theorem d_Y_init_244 : decode (mCd M_Y_init) 244 = .ok (.aload_n 0, 1) := by decide +kernel
theorem d_Y_init_245 : decode (mCd M_Y_init) 245 = .ok (.bipush 61, 2) := by decide +kernel
theorem d_Y_init_247 : decode (mCd M_Y_init) 247 = .ok (.newarray .boolean, 2) := by decide +kernel
theorem d_Y_init_249 : decode (mCd M_Y_init) 249 = .ok (.putfield 120, 3) := by decide +kernel
theorem d_Y_init_252 : decode (mCd M_Y_init) 252 = .ok (.aload_n 0, 1) := by decide +kernel
theorem d_Y_init_253 : decode (mCd M_Y_init) 253 = .ok (.bipush 61, 2) := by decide +kernel
theorem d_Y_init_255 : decode (mCd M_Y_init) 255 = .ok (.newarray .boolean, 2) := by decide +kernel
theorem d_Y_init_257 : decode (mCd M_Y_init) 257 = .ok (.putfield 123, 3) := by decide +kernel
theorem d_Y_init_260 : decode (mCd M_Y_init) 260 = .ok (.aload_n 0, 1) := by decide +kernel
theorem d_Y_init_261 : decode (mCd M_Y_init) 261 = .ok (.bipush 80, 2) := by decide +kernel
theorem d_Y_init_263 : decode (mCd M_Y_init) 263 = .ok (.newarray .int, 2) := by decide +kernel
theorem d_Y_init_265 : decode (mCd M_Y_init) 265 = .ok (.putfield 126, 3) := by decide +kernel
theorem d_Y_init_268 : decode (mCd M_Y_init) 268 = .ok (.aload_n 0, 1) := by decide +kernel
theorem d_Y_init_269 : decode (mCd M_Y_init) 269 = .ok (.iconst 3, 1) := by decide +kernel
theorem d_Y_init_270 : decode (mCd M_Y_init) 270 = .ok (.newarray .boolean, 2) := by decide +kernel
theorem d_Y_init_272 : decode (mCd M_Y_init) 272 = .ok (.putfield 129, 3) := by decide +kernel
theorem d_Y_init_275 : decode (mCd M_Y_init) 275 = .ok (.aload_n 0, 1) := by decide +kernel
theorem d_Y_init_276 : decode (mCd M_Y_init) 276 = .ok (.iconst 3, 1) := by decide +kernel
theorem d_Y_init_277 : decode (mCd M_Y_init) 277 = .ok (.newarray .int, 2) := by decide +kernel
theorem d_Y_init_279 : decode (mCd M_Y_init) 279 = .ok (.putfield 132, 3) := by decide +kernel
theorem d_Y_init_282 : decode (mCd M_Y_init) 282 = .ok (.aload_n 0, 1) := by decide +kernel
theorem d_Y_init_283 : decode (mCd M_Y_init) 283 = .ok (.bipush 114, 2) := by decide +kernel
theorem d_Y_init_285 : decode (mCd M_Y_init) 285 = .ok (.newarray .int, 2) := by decide +kernel
theorem d_Y_init_287 : decode (mCd M_Y_init) 287 = .ok (.putfield 135, 3) := by decide +kernel
theorem d_Y_init_290 : decode (mCd M_Y_init) 290 = .ok (.aload_n 0, 1) := by decide +kernel
theorem d_Y_init_291 : decode (mCd M_Y_init) 291 = .ok (.getfield 51, 3) := by decide +kernel
theorem d_Y_init_294 : decode (mCd M_Y_init) 294 = .ok (.bipush 34, 2) := by decide +kernel
theorem d_Y_init_296 : decode (mCd M_Y_init) 296 = .ok (.bipush 20, 2) := by decide +kernel
theorem d_Y_init_298 : decode (mCd M_Y_init) 298 = .ok (.iastore, 1) := by decide +kernel
theorem d_Y_init_299 : decode (mCd M_Y_init) 299 = .ok (.return_, 1) := by decide +kernel
theorem d_Y_fields_0 : decode (mCd M_Y_fields) 0 = .ok (.aload_n 0, 1) := by decide +kernel
theorem d_Y_fields_1 : decode (mCd M_Y_fields) 1 = .ok (.getfield 28, 3) := by decide +kernel
theorem d_Y_fields_4 : decode (mCd M_Y_fields) 4 = .ok (.aload_n 0, 1) := by decide +kernel
theorem d_Y_fields_5 : decode (mCd M_Y_fields) 5 = .ok (.getfield 31, 3) := by decide +kernel
theorem d_Y_fields_8 : decode (mCd M_Y_fields) 8 = .ok (.imul, 1) := by decide +kernel
theorem d_Y_fields_9 : decode (mCd M_Y_fields) 9 = .ok (.ireturn, 1) := by decide +kernel
theorem d_Y_isField_0 : decode (mCd M_Y_isField) 0 = .ok (.iload_n 1, 1) := by decide +kernel
theorem d_Y_isField_1 : decode (mCd M_Y_isField) 1 = .ok (.i2l, 1) := by decide +kernel
theorem d_Y_isField_2 : decode (mCd M_Y_isField) 2 = .ok (.lconst 0, 1) := by decide +kernel
theorem d_Y_isField_3 : decode (mCd M_Y_isField) 3 = .ok (.aload_n 0, 1) := by decide +kernel
theorem d_Y_isField_4 : decode (mCd M_Y_isField) 4 = .ok (.invokevirtual 138, 3) := by decide +kernel
theorem d_Y_isField_7 : decode (mCd M_Y_isField) 7 = .ok (.iconst 1, 1) := by decide +kernel
theorem d_Y_isField_8 : decode (mCd M_Y_isField) 8 = .ok (.isub, 1) := by decide +kernel
theorem d_Y_isField_9 : decode (mCd M_Y_isField) 9 = .ok (.i2l, 1) := by decide +kernel
theorem d_Y_isField_10 : decode (mCd M_Y_isField) 10 = .ok (.invokestatic 142, 3) := by decide +kernel
theorem d_Y_isField_13 : decode (mCd M_Y_isField) 13 = .ok (.ireturn, 1) := by decide +kernel
theorem d_Y_isFish_0 : decode (mCd M_Y_isFish) 0 = .ok (.iload_n 1, 1) := by decide +kernel
theorem d_Y_isFish_1 : decode (mCd M_Y_isFish) 1 = .ok (.i2l, 1) := by decide +kernel
theorem d_Y_isFish_2 : decode (mCd M_Y_isFish) 2 = .ok (.lconst 0, 1) := by decide +kernel
theorem d_Y_isFish_3 : decode (mCd M_Y_isFish) 3 = .ok (.aload_n 0, 1) := by decide +kernel
theorem d_Y_isFish_4 : decode (mCd M_Y_isFish) 4 = .ok (.getfield 146, 3) := by decide +kernel
theorem d_Y_isFish_7 : decode (mCd M_Y_isFish) 7 = .ok (.iconst 1, 1) := by decide +kernel
theorem d_Y_isFish_8 : decode (mCd M_Y_isFish) 8 = .ok (.isub, 1) := by decide +kernel
theorem d_Y_isFish_9 : decode (mCd M_Y_isFish) 9 = .ok (.i2l, 1) := by decide +kernel
theorem d_Y_isFish_10 : decode (mCd M_Y_isFish) 10 = .ok (.invokestatic 142, 3) := by decide +kernel
theorem d_Y_isFish_13 : decode (mCd M_Y_isFish) 13 = .ok (.ireturn, 1) := by decide +kernel
theorem d_Y_far_0 : decode (mCd M_Y_far) 0 = .ok (.iload_n 1, 1) := by decide +kernel
theorem d_Y_far_1 : decode (mCd M_Y_far) 1 = .ok (.aload_n 0, 1) := by decide +kernel
theorem d_Y_far_2 : decode (mCd M_Y_far) 2 = .ok (.getfield 31, 3) := by decide +kernel
theorem d_Y_far_5 : decode (mCd M_Y_far) 5 = .ok (.idiv, 1) := by decide +kernel
theorem d_Y_far_6 : decode (mCd M_Y_far) 6 = .ok (.iload_n 2, 1) := by decide +kernel
theorem d_Y_far_7 : decode (mCd M_Y_far) 7 = .ok (.aload_n 0, 1) := by decide +kernel
theorem d_Y_far_8 : decode (mCd M_Y_far) 8 = .ok (.getfield 31, 3) := by decide +kernel
theorem d_Y_far_11 : decode (mCd M_Y_far) 11 = .ok (.idiv, 1) := by decide +kernel
theorem d_Y_far_12 : decode (mCd M_Y_far) 12 = .ok (.isub, 1) := by decide +kernel
theorem d_Y_far_13 : decode (mCd M_Y_far) 13 = .ok (.invokestatic 149, 3) := by decide +kernel
theorem d_Y_far_16 : decode (mCd M_Y_far) 16 = .ok (.iload_n 1, 1) := by decide +kernel
theorem d_Y_far_17 : decode (mCd M_Y_far) 17 = .ok (.aload_n 0, 1) := by decide +kernel
theorem d_Y_far_18 : decode (mCd M_Y_far) 18 = .ok (.getfield 31, 3) := by decide +kernel
theorem d_Y_far_21 : decode (mCd M_Y_far) 21 = .ok (.irem, 1) := by decide +kernel
theorem d_Y_far_22 : decode (mCd M_Y_far) 22 = .ok (.iload_n 2, 1) := by decide +kernel
theorem d_Y_far_23 : decode (mCd M_Y_far) 23 = .ok (.aload_n 0, 1) := by decide +kernel
theorem d_Y_far_24 : decode (mCd M_Y_far) 24 = .ok (.getfield 31, 3) := by decide +kernel
theorem d_Y_far_27 : decode (mCd M_Y_far) 27 = .ok (.irem, 1) := by decide +kernel
theorem d_Y_far_28 : decode (mCd M_Y_far) 28 = .ok (.isub, 1) := by decide +kernel
theorem d_Y_far_29 : decode (mCd M_Y_far) 29 = .ok (.invokestatic 149, 3) := by decide +kernel
theorem d_Y_far_32 : decode (mCd M_Y_far) 32 = .ok (.iadd, 1) := by decide +kernel
theorem d_Y_far_33 : decode (mCd M_Y_far) 33 = .ok (.ireturn, 1) := by decide +kernel
theorem d_Y_beside_0 : decode (mCd M_Y_beside) 0 = .ok (.iload_n 1, 1) := by decide +kernel
theorem d_Y_beside_1 : decode (mCd M_Y_beside) 1 = .ok (.aload_n 0, 1) := by decide +kernel
theorem d_Y_beside_2 : decode (mCd M_Y_beside) 2 = .ok (.getfield 31, 3) := by decide +kernel
theorem d_Y_beside_5 : decode (mCd M_Y_beside) 5 = .ok (.idiv, 1) := by decide +kernel
theorem d_Y_beside_6 : decode (mCd M_Y_beside) 6 = .ok (.iload_n 2, 1) := by decide +kernel
theorem d_Y_beside_7 : decode (mCd M_Y_beside) 7 = .ok (.iconst 2, 1) := by decide +kernel
theorem d_Y_beside_8 : decode (mCd M_Y_beside) 8 = .ok (.if_icmp .ne 7, 3) := by decide +kernel
theorem d_Y_beside_11 : decode (mCd M_Y_beside) 11 = .ok (.iconst 1, 1) := by decide +kernel
theorem d_Y_beside_12 : decode (mCd M_Y_beside) 12 = .ok (.goto 12, 3) := by decide +kernel
theorem d_Y_beside_15 : decode (mCd M_Y_beside) 15 = .ok (.iload_n 2, 1) := by decide +kernel
theorem d_Y_beside_16 : decode (mCd M_Y_beside) 16 = .ok (.ifCond .ne 7, 3) := by decide +kernel
theorem d_Y_beside_19 : decode (mCd M_Y_beside) 19 = .ok (.iconst (-1), 1) := by decide +kernel
theorem d_Y_beside_20 : decode (mCd M_Y_beside) 20 = .ok (.goto 4, 3) := by decide +kernel
theorem d_Y_beside_23 : decode (mCd M_Y_beside) 23 = .ok (.iconst 0, 1) := by decide +kernel
theorem d_Y_beside_24 : decode (mCd M_Y_beside) 24 = .ok (.iadd, 1) := by decide +kernel
theorem d_Y_beside_25 : decode (mCd M_Y_beside) 25 = .ok (.istore_n 3, 1) := by decide +kernel
theorem d_Y_beside_26 : decode (mCd M_Y_beside) 26 = .ok (.iload_n 1, 1) := by decide +kernel
theorem d_Y_beside_27 : decode (mCd M_Y_beside) 27 = .ok (.aload_n 0, 1) := by decide +kernel
theorem d_Y_beside_28 : decode (mCd M_Y_beside) 28 = .ok (.getfield 31, 3) := by decide +kernel
theorem d_Y_beside_31 : decode (mCd M_Y_beside) 31 = .ok (.irem, 1) := by decide +kernel
theorem d_Y_beside_32 : decode (mCd M_Y_beside) 32 = .ok (.iload_n 2, 1) := by decide +kernel
theorem d_Y_beside_33 : decode (mCd M_Y_beside) 33 = .ok (.iconst 1, 1) := by decide +kernel
theorem d_Y_beside_34 : decode (mCd M_Y_beside) 34 = .ok (.if_icmp .ne 7, 3) := by decide +kernel
theorem d_Y_beside_37 : decode (mCd M_Y_beside) 37 = .ok (.iconst 1, 1) := by decide +kernel
theorem d_Y_beside_38 : decode (mCd M_Y_beside) 38 = .ok (.goto 13, 3) := by decide +kernel
theorem d_Y_beside_41 : decode (mCd M_Y_beside) 41 = .ok (.iload_n 2, 1) := by decide +kernel
theorem d_Y_beside_42 : decode (mCd M_Y_beside) 42 = .ok (.iconst 3, 1) := by decide +kernel
theorem d_Y_beside_43 : decode (mCd M_Y_beside) 43 = .ok (.if_icmp .ne 7, 3) := by decide +kernel
theorem d_Y_beside_46 : decode (mCd M_Y_beside) 46 = .ok (.iconst (-1), 1) := by decide +kernel
theorem d_Y_beside_47 : decode (mCd M_Y_beside) 47 = .ok (.goto 4, 3) := by decide +kernel
theorem d_Y_beside_50 : decode (mCd M_Y_beside) 50 = .ok (.iconst 0, 1) := by decide +kernel
theorem d_Y_beside_51 : decode (mCd M_Y_beside) 51 = .ok (.iadd, 1) := by decide +kernel
theorem d_Y_beside_52 : decode (mCd M_Y_beside) 52 = .ok (.istore 4, 2) := by decide +kernel
theorem d_Y_beside_54 : decode (mCd M_Y_beside) 54 = .ok (.iload_n 3, 1) := by decide +kernel
theorem d_Y_beside_55 : decode (mCd M_Y_beside) 55 = .ok (.i2l, 1) := by decide +kernel
theorem d_Y_beside_56 : decode (mCd M_Y_beside) 56 = .ok (.lconst 0, 1) := by decide +kernel
theorem d_Y_beside_57 : decode (mCd M_Y_beside) 57 = .ok (.aload_n 0, 1) := by decide +kernel
theorem d_Y_beside_58 : decode (mCd M_Y_beside) 58 = .ok (.getfield 28, 3) := by decide +kernel
theorem d_Y_beside_61 : decode (mCd M_Y_beside) 61 = .ok (.iconst 1, 1) := by decide +kernel
theorem d_Y_beside_62 : decode (mCd M_Y_beside) 62 = .ok (.isub, 1) := by decide +kernel
theorem d_Y_beside_63 : decode (mCd M_Y_beside) 63 = .ok (.i2l, 1) := by decide +kernel
theorem d_Y_beside_64 : decode (mCd M_Y_beside) 64 = .ok (.invokestatic 142, 3) := by decide +kernel
theorem d_Y_beside_67 : decode (mCd M_Y_beside) 67 = .ok (.ifCond .eq 32, 3) := by decide +kernel
theorem d_Y_beside_70 : decode (mCd M_Y_beside) 70 = .ok (.iload 4, 2) := by decide +kernel
theorem d_Y_beside_72 : decode (mCd M_Y_beside) 72 = .ok (.i2l, 1) := by decide +kernel
theorem d_Y_beside_73 : decode (mCd M_Y_beside) 73 = .ok (.lconst 0, 1) := by decide +kernel
theorem d_Y_beside_74 : decode (mCd M_Y_beside) 74 = .ok (.aload_n 0, 1) := by decide +kernel
theorem d_Y_beside_75 : decode (mCd M_Y_beside) 75 = .ok (.getfield 31, 3) := by decide +kernel
theorem d_Y_beside_78 : decode (mCd M_Y_beside) 78 = .ok (.iconst 1, 1) := by decide +kernel
theorem d_Y_beside_79 : decode (mCd M_Y_beside) 79 = .ok (.isub, 1) := by decide +kernel
theorem d_Y_beside_80 : decode (mCd M_Y_beside) 80 = .ok (.i2l, 1) := by decide +kernel
theorem d_Y_beside_81 : decode (mCd M_Y_beside) 81 = .ok (.invokestatic 142, 3) := by decide +kernel
theorem d_Y_beside_84 : decode (mCd M_Y_beside) 84 = .ok (.ifCond .eq 15, 3) := by decide +kernel
theorem d_Y_beside_87 : decode (mCd M_Y_beside) 87 = .ok (.aload_n 0, 1) := by decide +kernel
theorem d_Y_beside_88 : decode (mCd M_Y_beside) 88 = .ok (.getfield 31, 3) := by decide +kernel
theorem d_Y_beside_91 : decode (mCd M_Y_beside) 91 = .ok (.iload_n 3, 1) := by decide +kernel
theorem d_Y_beside_92 : decode (mCd M_Y_beside) 92 = .ok (.imul, 1) := by decide +kernel
theorem d_Y_beside_93 : decode (mCd M_Y_beside) 93 = .ok (.iload 4, 2) := by decide +kernel
theorem d_Y_beside_95 : decode (mCd M_Y_beside) 95 = .ok (.iadd, 1) := by decide +kernel
theorem d_Y_beside_96 : decode (mCd M_Y_beside) 96 = .ok (.goto 4, 3) := by decide +kernel
theorem d_Y_beside_99 : decode (mCd M_Y_beside) 99 = .ok (.iconst (-1), 1) := by decide +kernel
theorem d_Y_beside_100 : decode (mCd M_Y_beside) 100 = .ok (.ireturn, 1) := by decide +kernel
theorem d_Y_sign_0 : decode (mCd M_Y_sign) 0 = .ok (.aload_n 0, 1) := by decide +kernel
theorem d_Y_sign_1 : decode (mCd M_Y_sign) 1 = .ok (.iconst 0, 1) := by decide +kernel
theorem d_Y_sign_2 : decode (mCd M_Y_sign) 2 = .ok (.putfield 3, 3) := by decide +kernel
theorem d_Y_sign_5 : decode (mCd M_Y_sign) 5 = .ok (.aload_n 0, 1) := by decide +kernel
theorem d_Y_sign_6 : decode (mCd M_Y_sign) 6 = .ok (.getfield 155, 3) := by decide +kernel
theorem d_Y_sign_9 : decode (mCd M_Y_sign) 9 = .ok (.bipush 76, 2) := by decide +kernel
theorem d_Y_sign_11 : decode (mCd M_Y_sign) 11 = .ok (.if_icmp .le 5, 3) := by decide +kernel
theorem d_Y_sign_14 : decode (mCd M_Y_sign) 14 = .ok (.iconst (-1), 1) := by decide +kernel
theorem d_Y_sign_15 : decode (mCd M_Y_sign) 15 = .ok (.ireturn, 1) := by decide +kernel
theorem d_Y_sign_16 : decode (mCd M_Y_sign) 16 = .ok (.iconst 0, 1) := by decide +kernel
theorem d_Y_sign_17 : decode (mCd M_Y_sign) 17 = .ok (.istore_n 2, 1) := by decide +kernel
theorem d_Y_sign_18 : decode (mCd M_Y_sign) 18 = .ok (.iload_n 2, 1) := by decide +kernel
theorem d_Y_sign_19 : decode (mCd M_Y_sign) 19 = .ok (.iconst 4, 1) := by decide +kernel
theorem d_Y_sign_20 : decode (mCd M_Y_sign) 20 = .ok (.if_icmp .ge 33, 3) := by decide +kernel
theorem d_Y_sign_23 : decode (mCd M_Y_sign) 23 = .ok (.aload_n 0, 1) := by decide +kernel
theorem d_Y_sign_24 : decode (mCd M_Y_sign) 24 = .ok (.getfield 57, 3) := by decide +kernel
theorem d_Y_sign_27 : decode (mCd M_Y_sign) 27 = .ok (.aload_n 0, 1) := by decide +kernel
theorem d_Y_sign_28 : decode (mCd M_Y_sign) 28 = .ok (.getfield 155, 3) := by decide +kernel
theorem d_Y_sign_31 : decode (mCd M_Y_sign) 31 = .ok (.iload_n 2, 1) := by decide +kernel
theorem d_Y_sign_32 : decode (mCd M_Y_sign) 32 = .ok (.iadd, 1) := by decide +kernel
theorem d_Y_sign_33 : decode (mCd M_Y_sign) 33 = .ok (.iload_n 1, 1) := by decide +kernel
theorem d_Y_sign_34 : decode (mCd M_Y_sign) 34 = .ok (.bipush 24, 2) := by decide +kernel
theorem d_Y_sign_36 : decode (mCd M_Y_sign) 36 = .ok (.bipush 8, 2) := by decide +kernel
theorem d_Y_sign_38 : decode (mCd M_Y_sign) 38 = .ok (.iload_n 2, 1) := by decide +kernel
theorem d_Y_sign_39 : decode (mCd M_Y_sign) 39 = .ok (.imul, 1) := by decide +kernel
theorem d_Y_sign_40 : decode (mCd M_Y_sign) 40 = .ok (.isub, 1) := by decide +kernel
theorem d_Y_sign_41 : decode (mCd M_Y_sign) 41 = .ok (.ishr, 1) := by decide +kernel
theorem d_Y_sign_42 : decode (mCd M_Y_sign) 42 = .ok (.sipush 255, 3) := by decide +kernel
theorem d_Y_sign_45 : decode (mCd M_Y_sign) 45 = .ok (.iand, 1) := by decide +kernel
theorem d_Y_sign_46 : decode (mCd M_Y_sign) 46 = .ok (.iastore, 1) := by decide +kernel
theorem d_Y_sign_47 : decode (mCd M_Y_sign) 47 = .ok (.iinc 2 1, 3) := by decide +kernel
theorem d_Y_sign_50 : decode (mCd M_Y_sign) 50 = .ok (.goto (-32), 3) := by decide +kernel
theorem d_Y_sign_53 : decode (mCd M_Y_sign) 53 = .ok (.aload_n 0, 1) := by decide +kernel
theorem d_Y_sign_54 : decode (mCd M_Y_sign) 54 = .ok (.dup, 1) := by decide +kernel
theorem d_Y_sign_55 : decode (mCd M_Y_sign) 55 = .ok (.getfield 155, 3) := by decide +kernel
theorem d_Y_sign_58 : decode (mCd M_Y_sign) 58 = .ok (.iconst 4, 1) := by decide +kernel
theorem d_Y_sign_59 : decode (mCd M_Y_sign) 59 = .ok (.iadd, 1) := by decide +kernel
theorem d_Y_sign_60 : decode (mCd M_Y_sign) 60 = .ok (.putfield 155, 3) := by decide +kernel
theorem d_Y_sign_63 : decode (mCd M_Y_sign) 63 = .ok (.aload_n 0, 1) := by decide +kernel
theorem d_Y_sign_64 : decode (mCd M_Y_sign) 64 = .ok (.getfield 155, 3) := by decide +kernel
theorem d_Y_sign_67 : decode (mCd M_Y_sign) 67 = .ok (.ireturn, 1) := by decide +kernel
theorem d_Y_end_0 : decode (mCd M_Y_end) 0 = .ok (.aload_n 0, 1) := by decide +kernel
theorem d_Y_end_1 : decode (mCd M_Y_end) 1 = .ok (.iconst 0, 1) := by decide +kernel
theorem d_Y_end_2 : decode (mCd M_Y_end) 2 = .ok (.putfield 3, 3) := by decide +kernel
theorem d_Y_end_5 : decode (mCd M_Y_end) 5 = .ok (.iload_n 1, 1) := by decide +kernel
theorem d_Y_end_6 : decode (mCd M_Y_end) 6 = .ok (.i2l, 1) := by decide +kernel
theorem d_Y_end_7 : decode (mCd M_Y_end) 7 = .ok (.lconst 0, 1) := by decide +kernel
theorem d_Y_end_8 : decode (mCd M_Y_end) 8 = .ok (.aload_n 0, 1) := by decide +kernel
theorem d_Y_end_9 : decode (mCd M_Y_end) 9 = .ok (.getfield 155, 3) := by decide +kernel
theorem d_Y_end_12 : decode (mCd M_Y_end) 12 = .ok (.i2l, 1) := by decide +kernel
theorem d_Y_end_13 : decode (mCd M_Y_end) 13 = .ok (.invokestatic 142, 3) := by decide +kernel
theorem d_Y_end_16 : decode (mCd M_Y_end) 16 = .ok (.ifCond .ne 5, 3) := by decide +kernel
theorem d_Y_end_19 : decode (mCd M_Y_end) 19 = .ok (.iconst 0, 1) := by decide +kernel
theorem d_Y_end_20 : decode (mCd M_Y_end) 20 = .ok (.ireturn, 1) := by decide +kernel
theorem d_Y_end_21 : decode (mCd M_Y_end) 21 = .ok (.aload_n 0, 1) := by decide +kernel
theorem d_Y_end_22 : decode (mCd M_Y_end) 22 = .ok (.iload_n 1, 1) := by decide +kernel
theorem d_Y_end_23 : decode (mCd M_Y_end) 23 = .ok (.putfield 155, 3) := by decide +kernel
theorem d_Y_end_26 : decode (mCd M_Y_end) 26 = .ok (.iconst 1, 1) := by decide +kernel
theorem d_Y_end_27 : decode (mCd M_Y_end) 27 = .ok (.ireturn, 1) := by decide +kernel
theorem d_Y_begins_0 : decode (mCd M_Y_begins) 0 = .ok (.aload_n 0, 1) := by decide +kernel
theorem d_Y_begins_1 : decode (mCd M_Y_begins) 1 = .ok (.getfield 155, 3) := by decide +kernel
theorem d_Y_begins_4 : decode (mCd M_Y_begins) 4 = .ok (.istore_n 2, 1) := by decide +kernel
theorem d_Y_begins_5 : decode (mCd M_Y_begins) 5 = .ok (.aload_n 0, 1) := by decide +kernel
theorem d_Y_begins_6 : decode (mCd M_Y_begins) 6 = .ok (.iconst 0, 1) := by decide +kernel
theorem d_Y_begins_7 : decode (mCd M_Y_begins) 7 = .ok (.putfield 155, 3) := by decide +kernel
theorem d_Y_begins_10 : decode (mCd M_Y_begins) 10 = .ok (.aload_n 0, 1) := by decide +kernel
theorem d_Y_begins_11 : decode (mCd M_Y_begins) 11 = .ok (.iconst 0, 1) := by decide +kernel
theorem d_Y_begins_12 : decode (mCd M_Y_begins) 12 = .ok (.putfield 158, 3) := by decide +kernel
theorem d_Y_begins_15 : decode (mCd M_Y_begins) 15 = .ok (.aload_n 0, 1) := by decide +kernel
theorem d_Y_begins_16 : decode (mCd M_Y_begins) 16 = .ok (.iconst 0, 1) := by decide +kernel
theorem d_Y_begins_17 : decode (mCd M_Y_begins) 17 = .ok (.putfield 161, 3) := by decide +kernel
theorem d_Y_begins_20 : decode (mCd M_Y_begins) 20 = .ok (.aload_n 0, 1) := by decide +kernel
theorem d_Y_begins_21 : decode (mCd M_Y_begins) 21 = .ok (.iload_n 2, 1) := by decide +kernel
theorem d_Y_begins_22 : decode (mCd M_Y_begins) 22 = .ok (.iload_n 1, 1) := by decide +kernel
theorem d_Y_begins_23 : decode (mCd M_Y_begins) 23 = .ok (.invokestatic 164, 3) := by decide +kernel
theorem d_Y_begins_26 : decode (mCd M_Y_begins) 26 = .ok (.putfield 168, 3) := by decide +kernel
theorem d_Y_begins_29 : decode (mCd M_Y_begins) 29 = .ok (.iload_n 2, 1) := by decide +kernel
theorem d_Y_begins_30 : decode (mCd M_Y_begins) 30 = .ok (.ireturn, 1) := by decide +kernel
theorem d_Y_takes_0 : decode (mCd M_Y_takes) 0 = .ok (.aload_n 0, 1) := by decide +kernel
theorem d_Y_takes_1 : decode (mCd M_Y_takes) 1 = .ok (.getfield 158, 3) := by decide +kernel
theorem d_Y_takes_4 : decode (mCd M_Y_takes) 4 = .ok (.aload_n 0, 1) := by decide +kernel
theorem d_Y_takes_5 : decode (mCd M_Y_takes) 5 = .ok (.getfield 168, 3) := by decide +kernel
theorem d_Y_takes_8 : decode (mCd M_Y_takes) 8 = .ok (.if_icmp .ge 20, 3) := by decide +kernel
theorem d_Y_takes_11 : decode (mCd M_Y_takes) 11 = .ok (.aload_n 0, 1) := by decide +kernel
theorem d_Y_takes_12 : decode (mCd M_Y_takes) 12 = .ok (.getfield 57, 3) := by decide +kernel
theorem d_Y_takes_15 : decode (mCd M_Y_takes) 15 = .ok (.aload_n 0, 1) := by decide +kernel
theorem d_Y_takes_16 : decode (mCd M_Y_takes) 16 = .ok (.getfield 158, 3) := by decide +kernel
theorem d_Y_takes_19 : decode (mCd M_Y_takes) 19 = .ok (.iaload, 1) := by decide +kernel
theorem d_Y_takes_20 : decode (mCd M_Y_takes) 20 = .ok (.iload_n 1, 1) := by decide +kernel
theorem d_Y_takes_21 : decode (mCd M_Y_takes) 21 = .ok (.if_icmp .ne 7, 3) := by decide +kernel
theorem d_Y_takes_24 : decode (mCd M_Y_takes) 24 = .ok (.iconst 1, 1) := by decide +kernel
theorem d_Y_takes_25 : decode (mCd M_Y_takes) 25 = .ok (.goto 4, 3) := by decide +kernel
theorem d_Y_takes_28 : decode (mCd M_Y_takes) 28 = .ok (.iconst 0, 1) := by decide +kernel
theorem d_Y_takes_29 : decode (mCd M_Y_takes) 29 = .ok (.istore_n 2, 1) := by decide +kernel
theorem d_Y_takes_30 : decode (mCd M_Y_takes) 30 = .ok (.aload_n 0, 1) := by decide +kernel
theorem d_Y_takes_31 : decode (mCd M_Y_takes) 31 = .ok (.dup, 1) := by decide +kernel
theorem d_Y_takes_32 : decode (mCd M_Y_takes) 32 = .ok (.getfield 158, 3) := by decide +kernel
theorem d_Y_takes_35 : decode (mCd M_Y_takes) 35 = .ok (.iload_n 2, 1) := by decide +kernel
theorem d_Y_takes_36 : decode (mCd M_Y_takes) 36 = .ok (.invokestatic 171, 3) := by decide +kernel
theorem d_Y_takes_39 : decode (mCd M_Y_takes) 39 = .ok (.iadd, 1) := by decide +kernel
theorem d_Y_takes_40 : decode (mCd M_Y_takes) 40 = .ok (.putfield 158, 3) := by decide +kernel
theorem d_Y_takes_43 : decode (mCd M_Y_takes) 43 = .ok (.iload_n 2, 1) := by decide +kernel
theorem d_Y_takes_44 : decode (mCd M_Y_takes) 44 = .ok (.ireturn, 1) := by decide +kernel
theorem d_Y_isDigit_0 : decode (mCd M_Y_isDigit) 0 = .ok (.aload_n 0, 1) := by decide +kernel
theorem d_Y_isDigit_1 : decode (mCd M_Y_isDigit) 1 = .ok (.getfield 158, 3) := by decide +kernel
theorem d_Y_isDigit_4 : decode (mCd M_Y_isDigit) 4 = .ok (.aload_n 0, 1) := by decide +kernel
theorem d_Y_isDigit_5 : decode (mCd M_Y_isDigit) 5 = .ok (.getfield 168, 3) := by decide +kernel
theorem d_Y_isDigit_8 : decode (mCd M_Y_isDigit) 8 = .ok (.if_icmp .ge 29, 3) := by decide +kernel
theorem d_Y_isDigit_11 : decode (mCd M_Y_isDigit) 11 = .ok (.aload_n 0, 1) := by decide +kernel
theorem d_Y_isDigit_12 : decode (mCd M_Y_isDigit) 12 = .ok (.getfield 57, 3) := by decide +kernel
theorem d_Y_isDigit_15 : decode (mCd M_Y_isDigit) 15 = .ok (.aload_n 0, 1) := by decide +kernel
theorem d_Y_isDigit_16 : decode (mCd M_Y_isDigit) 16 = .ok (.getfield 158, 3) := by decide +kernel
theorem d_Y_isDigit_19 : decode (mCd M_Y_isDigit) 19 = .ok (.iaload, 1) := by decide +kernel
theorem d_Y_isDigit_20 : decode (mCd M_Y_isDigit) 20 = .ok (.i2l, 1) := by decide +kernel
theorem d_Y_isDigit_21 : decode (mCd M_Y_isDigit) 21 = .ok (.ldc2_w 175, 3) := by decide +kernel
theorem d_Y_isDigit_24 : decode (mCd M_Y_isDigit) 24 = .ok (.ldc2_w 177, 3) := by decide +kernel
theorem d_Y_isDigit_27 : decode (mCd M_Y_isDigit) 27 = .ok (.invokestatic 142, 3) := by decide +kernel
theorem d_Y_isDigit_30 : decode (mCd M_Y_isDigit) 30 = .ok (.ifCond .eq 7, 3) := by decide +kernel
theorem d_Y_isDigit_33 : decode (mCd M_Y_isDigit) 33 = .ok (.iconst 1, 1) := by decide +kernel
theorem d_Y_isDigit_34 : decode (mCd M_Y_isDigit) 34 = .ok (.goto 4, 3) := by decide +kernel
theorem d_Y_isDigit_37 : decode (mCd M_Y_isDigit) 37 = .ok (.iconst 0, 1) := by decide +kernel
theorem d_Y_isDigit_38 : decode (mCd M_Y_isDigit) 38 = .ok (.ireturn, 1) := by decide +kernel
theorem d_Y_takesOf_0 : decode (mCd M_Y_takesOf) 0 = .ok (.iconst 0, 1) := by decide +kernel
theorem d_Y_takesOf_1 : decode (mCd M_Y_takesOf) 1 = .ok (.istore_n 2, 1) := by decide +kernel
theorem d_Y_takesOf_2 : decode (mCd M_Y_takesOf) 2 = .ok (.iload_n 2, 1) := by decide +kernel
theorem d_Y_takesOf_3 : decode (mCd M_Y_takesOf) 3 = .ok (.aload_n 1, 1) := by decide +kernel
theorem d_Y_takesOf_4 : decode (mCd M_Y_takesOf) 4 = .ok (.invokevirtual 179, 3) := by decide +kernel
theorem d_Y_takesOf_7 : decode (mCd M_Y_takesOf) 7 = .ok (.if_icmp .ge 49, 3) := by decide +kernel
theorem d_Y_takesOf_10 : decode (mCd M_Y_takesOf) 10 = .ok (.aload_n 0, 1) := by decide +kernel
theorem d_Y_takesOf_11 : decode (mCd M_Y_takesOf) 11 = .ok (.getfield 158, 3) := by decide +kernel
theorem d_Y_takesOf_14 : decode (mCd M_Y_takesOf) 14 = .ok (.aload_n 0, 1) := by decide +kernel
theorem d_Y_takesOf_15 : decode (mCd M_Y_takesOf) 15 = .ok (.getfield 168, 3) := by decide +kernel
theorem d_Y_takesOf_18 : decode (mCd M_Y_takesOf) 18 = .ok (.if_icmp .ge 38, 3) := by decide +kernel
theorem d_Y_takesOf_21 : decode (mCd M_Y_takesOf) 21 = .ok (.aload_n 1, 1) := by decide +kernel
theorem d_Y_takesOf_22 : decode (mCd M_Y_takesOf) 22 = .ok (.iload_n 2, 1) := by decide +kernel
theorem d_Y_takesOf_23 : decode (mCd M_Y_takesOf) 23 = .ok (.invokevirtual 184, 3) := by decide +kernel
theorem d_Y_takesOf_26 : decode (mCd M_Y_takesOf) 26 = .ok (.aload_n 0, 1) := by decide +kernel
theorem d_Y_takesOf_27 : decode (mCd M_Y_takesOf) 27 = .ok (.getfield 57, 3) := by decide +kernel
theorem d_Y_takesOf_30 : decode (mCd M_Y_takesOf) 30 = .ok (.aload_n 0, 1) := by decide +kernel
theorem d_Y_takesOf_31 : decode (mCd M_Y_takesOf) 31 = .ok (.getfield 158, 3) := by decide +kernel
theorem d_Y_takesOf_34 : decode (mCd M_Y_takesOf) 34 = .ok (.iaload, 1) := by decide +kernel
theorem d_Y_takesOf_35 : decode (mCd M_Y_takesOf) 35 = .ok (.if_icmp .ne 15, 3) := by decide +kernel
theorem d_Y_takesOf_38 : decode (mCd M_Y_takesOf) 38 = .ok (.aload_n 0, 1) := by decide +kernel
theorem d_Y_takesOf_39 : decode (mCd M_Y_takesOf) 39 = .ok (.dup, 1) := by decide +kernel
theorem d_Y_takesOf_40 : decode (mCd M_Y_takesOf) 40 = .ok (.getfield 158, 3) := by decide +kernel
theorem d_Y_takesOf_43 : decode (mCd M_Y_takesOf) 43 = .ok (.iconst 1, 1) := by decide +kernel
theorem d_Y_takesOf_44 : decode (mCd M_Y_takesOf) 44 = .ok (.iadd, 1) := by decide +kernel
theorem d_Y_takesOf_45 : decode (mCd M_Y_takesOf) 45 = .ok (.putfield 158, 3) := by decide +kernel
theorem d_Y_takesOf_48 : decode (mCd M_Y_takesOf) 48 = .ok (.iload_n 2, 1) := by decide +kernel
theorem d_Y_takesOf_49 : decode (mCd M_Y_takesOf) 49 = .ok (.ireturn, 1) := by decide +kernel
theorem d_Y_takesOf_50 : decode (mCd M_Y_takesOf) 50 = .ok (.iinc 2 1, 3) := by decide +kernel
theorem d_Y_takesOf_53 : decode (mCd M_Y_takesOf) 53 = .ok (.goto (-51), 3) := by decide +kernel
theorem d_Y_takesOf_56 : decode (mCd M_Y_takesOf) 56 = .ok (.iconst (-1), 1) := by decide +kernel
theorem d_Y_takesOf_57 : decode (mCd M_Y_takesOf) 57 = .ok (.ireturn, 1) := by decide +kernel
theorem d_Y_number_0 : decode (mCd M_Y_number) 0 = .ok (.aload_n 0, 1) := by decide +kernel
theorem d_Y_number_1 : decode (mCd M_Y_number) 1 = .ok (.invokevirtual 188, 3) := by decide +kernel
theorem d_Y_number_4 : decode (mCd M_Y_number) 4 = .ok (.ifCond .ne 5, 3) := by decide +kernel
theorem d_Y_number_7 : decode (mCd M_Y_number) 7 = .ok (.iconst (-1), 1) := by decide +kernel
theorem d_Y_number_8 : decode (mCd M_Y_number) 8 = .ok (.ireturn, 1) := by decide +kernel
theorem d_Y_number_9 : decode (mCd M_Y_number) 9 = .ok (.iconst 0, 1) := by decide +kernel
theorem d_Y_number_10 : decode (mCd M_Y_number) 10 = .ok (.istore_n 2, 1) := by decide +kernel
theorem d_Y_number_11 : decode (mCd M_Y_number) 11 = .ok (.iconst 0, 1) := by decide +kernel
theorem d_Y_number_12 : decode (mCd M_Y_number) 12 = .ok (.istore_n 3, 1) := by decide +kernel
theorem d_Y_number_13 : decode (mCd M_Y_number) 13 = .ok (.iload_n 3, 1) := by decide +kernel
theorem d_Y_number_14 : decode (mCd M_Y_number) 14 = .ok (.iload_n 1, 1) := by decide +kernel
theorem d_Y_number_15 : decode (mCd M_Y_number) 15 = .ok (.if_icmp .ge 44, 3) := by decide +kernel
theorem d_Y_number_18 : decode (mCd M_Y_number) 18 = .ok (.aload_n 0, 1) := by decide +kernel
theorem d_Y_number_19 : decode (mCd M_Y_number) 19 = .ok (.invokevirtual 188, 3) := by decide +kernel
theorem d_Y_number_22 : decode (mCd M_Y_number) 22 = .ok (.ifCond .eq 37, 3) := by decide +kernel
theorem d_Y_number_25 : decode (mCd M_Y_number) 25 = .ok (.bipush 10, 2) := by decide +kernel
theorem d_Y_number_27 : decode (mCd M_Y_number) 27 = .ok (.iload_n 2, 1) := by decide +kernel
theorem d_Y_number_28 : decode (mCd M_Y_number) 28 = .ok (.imul, 1) := by decide +kernel
theorem d_Y_number_29 : decode (mCd M_Y_number) 29 = .ok (.aload_n 0, 1) := by decide +kernel
theorem d_Y_number_30 : decode (mCd M_Y_number) 30 = .ok (.getfield 57, 3) := by decide +kernel
theorem d_Y_number_33 : decode (mCd M_Y_number) 33 = .ok (.aload_n 0, 1) := by decide +kernel
theorem d_Y_number_34 : decode (mCd M_Y_number) 34 = .ok (.getfield 158, 3) := by decide +kernel
theorem d_Y_number_37 : decode (mCd M_Y_number) 37 = .ok (.iaload, 1) := by decide +kernel
theorem d_Y_number_38 : decode (mCd M_Y_number) 38 = .ok (.iadd, 1) := by decide +kernel
theorem d_Y_number_39 : decode (mCd M_Y_number) 39 = .ok (.bipush 48, 2) := by decide +kernel
theorem d_Y_number_41 : decode (mCd M_Y_number) 41 = .ok (.isub, 1) := by decide +kernel
theorem d_Y_number_42 : decode (mCd M_Y_number) 42 = .ok (.istore_n 2, 1) := by decide +kernel
theorem d_Y_number_43 : decode (mCd M_Y_number) 43 = .ok (.aload_n 0, 1) := by decide +kernel
theorem d_Y_number_44 : decode (mCd M_Y_number) 44 = .ok (.dup, 1) := by decide +kernel
theorem d_Y_number_45 : decode (mCd M_Y_number) 45 = .ok (.getfield 158, 3) := by decide +kernel
theorem d_Y_number_48 : decode (mCd M_Y_number) 48 = .ok (.iconst 1, 1) := by decide +kernel
theorem d_Y_number_49 : decode (mCd M_Y_number) 49 = .ok (.iadd, 1) := by decide +kernel
theorem d_Y_number_50 : decode (mCd M_Y_number) 50 = .ok (.putfield 158, 3) := by decide +kernel
theorem d_Y_number_53 : decode (mCd M_Y_number) 53 = .ok (.iinc 3 1, 3) := by decide +kernel
theorem d_Y_number_56 : decode (mCd M_Y_number) 56 = .ok (.goto (-43), 3) := by decide +kernel
theorem d_Y_number_59 : decode (mCd M_Y_number) 59 = .ok (.iload_n 2, 1) := by decide +kernel
theorem d_Y_number_60 : decode (mCd M_Y_number) 60 = .ok (.ireturn, 1) := by decide +kernel
theorem d_Y_digitIn_0 : decode (mCd M_Y_digitIn) 0 = .ok (.aload_n 0, 1) := by decide +kernel
theorem d_Y_digitIn_1 : decode (mCd M_Y_digitIn) 1 = .ok (.getfield 158, 3) := by decide +kernel
theorem d_Y_digitIn_4 : decode (mCd M_Y_digitIn) 4 = .ok (.aload_n 0, 1) := by decide +kernel
theorem d_Y_digitIn_5 : decode (mCd M_Y_digitIn) 5 = .ok (.getfield 168, 3) := by decide +kernel
theorem d_Y_digitIn_8 : decode (mCd M_Y_digitIn) 8 = .ok (.if_icmp .ge 26, 3) := by decide +kernel
theorem d_Y_digitIn_11 : decode (mCd M_Y_digitIn) 11 = .ok (.aload_n 0, 1) := by decide +kernel
theorem d_Y_digitIn_12 : decode (mCd M_Y_digitIn) 12 = .ok (.getfield 57, 3) := by decide +kernel
theorem d_Y_digitIn_15 : decode (mCd M_Y_digitIn) 15 = .ok (.aload_n 0, 1) := by decide +kernel
theorem d_Y_digitIn_16 : decode (mCd M_Y_digitIn) 16 = .ok (.getfield 158, 3) := by decide +kernel
theorem d_Y_digitIn_19 : decode (mCd M_Y_digitIn) 19 = .ok (.iaload, 1) := by decide +kernel
theorem d_Y_digitIn_20 : decode (mCd M_Y_digitIn) 20 = .ok (.bipush 48, 2) := by decide +kernel
theorem d_Y_digitIn_22 : decode (mCd M_Y_digitIn) 22 = .ok (.isub, 1) := by decide +kernel
theorem d_Y_digitIn_23 : decode (mCd M_Y_digitIn) 23 = .ok (.i2l, 1) := by decide +kernel
theorem d_Y_digitIn_24 : decode (mCd M_Y_digitIn) 24 = .ok (.iload_n 1, 1) := by decide +kernel
theorem d_Y_digitIn_25 : decode (mCd M_Y_digitIn) 25 = .ok (.i2l, 1) := by decide +kernel
theorem d_Y_digitIn_26 : decode (mCd M_Y_digitIn) 26 = .ok (.iload_n 2, 1) := by decide +kernel
theorem d_Y_digitIn_27 : decode (mCd M_Y_digitIn) 27 = .ok (.i2l, 1) := by decide +kernel
theorem d_Y_digitIn_28 : decode (mCd M_Y_digitIn) 28 = .ok (.invokestatic 142, 3) := by decide +kernel
theorem d_Y_digitIn_31 : decode (mCd M_Y_digitIn) 31 = .ok (.ifCond .ne 5, 3) := by decide +kernel
theorem d_Y_digitIn_34 : decode (mCd M_Y_digitIn) 34 = .ok (.iconst (-1), 1) := by decide +kernel
theorem d_Y_digitIn_35 : decode (mCd M_Y_digitIn) 35 = .ok (.ireturn, 1) := by decide +kernel
theorem d_Y_digitIn_36 : decode (mCd M_Y_digitIn) 36 = .ok (.aload_n 0, 1) := by decide +kernel
theorem d_Y_digitIn_37 : decode (mCd M_Y_digitIn) 37 = .ok (.dup, 1) := by decide +kernel
theorem d_Y_digitIn_38 : decode (mCd M_Y_digitIn) 38 = .ok (.getfield 158, 3) := by decide +kernel
theorem d_Y_digitIn_41 : decode (mCd M_Y_digitIn) 41 = .ok (.iconst 1, 1) := by decide +kernel
theorem d_Y_digitIn_42 : decode (mCd M_Y_digitIn) 42 = .ok (.iadd, 1) := by decide +kernel
theorem d_Y_digitIn_43 : decode (mCd M_Y_digitIn) 43 = .ok (.putfield 158, 3) := by decide +kernel
theorem d_Y_digitIn_46 : decode (mCd M_Y_digitIn) 46 = .ok (.aload_n 0, 1) := by decide +kernel
theorem d_Y_digitIn_47 : decode (mCd M_Y_digitIn) 47 = .ok (.getfield 57, 3) := by decide +kernel
theorem d_Y_digitIn_50 : decode (mCd M_Y_digitIn) 50 = .ok (.aload_n 0, 1) := by decide +kernel
theorem d_Y_digitIn_51 : decode (mCd M_Y_digitIn) 51 = .ok (.getfield 158, 3) := by decide +kernel
theorem d_Y_digitIn_54 : decode (mCd M_Y_digitIn) 54 = .ok (.iconst 1, 1) := by decide +kernel
theorem d_Y_digitIn_55 : decode (mCd M_Y_digitIn) 55 = .ok (.isub, 1) := by decide +kernel
theorem d_Y_digitIn_56 : decode (mCd M_Y_digitIn) 56 = .ok (.iaload, 1) := by decide +kernel
theorem d_Y_digitIn_57 : decode (mCd M_Y_digitIn) 57 = .ok (.bipush 48, 2) := by decide +kernel
theorem d_Y_digitIn_59 : decode (mCd M_Y_digitIn) 59 = .ok (.isub, 1) := by decide +kernel
theorem d_Y_digitIn_60 : decode (mCd M_Y_digitIn) 60 = .ok (.ireturn, 1) := by decide +kernel
theorem d_Y_faultOf_0 : decode (mCd M_Y_faultOf) 0 = .ok (.iload_n 3, 1) := by decide +kernel
theorem d_Y_faultOf_1 : decode (mCd M_Y_faultOf) 1 = .ok (.ifCond .eq 18, 3) := by decide +kernel
theorem d_Y_faultOf_4 : decode (mCd M_Y_faultOf) 4 = .ok (.aload_n 0, 1) := by decide +kernel
theorem d_Y_faultOf_5 : decode (mCd M_Y_faultOf) 5 = .ok (.getfield 158, 3) := by decide +kernel
theorem d_Y_faultOf_8 : decode (mCd M_Y_faultOf) 8 = .ok (.aload_n 0, 1) := by decide +kernel
theorem d_Y_faultOf_9 : decode (mCd M_Y_faultOf) 9 = .ok (.getfield 168, 3) := by decide +kernel
theorem d_Y_faultOf_12 : decode (mCd M_Y_faultOf) 12 = .ok (.if_icmp .ne 7, 3) := by decide +kernel
theorem d_Y_faultOf_15 : decode (mCd M_Y_faultOf) 15 = .ok (.iconst 1, 1) := by decide +kernel
theorem d_Y_faultOf_16 : decode (mCd M_Y_faultOf) 16 = .ok (.goto 4, 3) := by decide +kernel
theorem d_Y_faultOf_19 : decode (mCd M_Y_faultOf) 19 = .ok (.iconst 0, 1) := by decide +kernel
theorem d_Y_faultOf_20 : decode (mCd M_Y_faultOf) 20 = .ok (.istore 4, 2) := by decide +kernel
theorem d_Y_faultOf_22 : decode (mCd M_Y_faultOf) 22 = .ok (.iload_n 1, 1) := by decide +kernel
theorem d_Y_faultOf_23 : decode (mCd M_Y_faultOf) 23 = .ok (.iload_n 2, 1) := by decide +kernel
theorem d_Y_faultOf_24 : decode (mCd M_Y_faultOf) 24 = .ok (.if_icmp .le 20, 3) := by decide +kernel
theorem d_Y_faultOf_27 : decode (mCd M_Y_faultOf) 27 = .ok (.iload 4, 2) := by decide +kernel
theorem d_Y_faultOf_29 : decode (mCd M_Y_faultOf) 29 = .ok (.ifCond .ne 11, 3) := by decide +kernel
theorem d_Y_faultOf_32 : decode (mCd M_Y_faultOf) 32 = .ok (.aload_n 0, 1) := by decide +kernel
theorem d_Y_faultOf_33 : decode (mCd M_Y_faultOf) 33 = .ok (.getfield 158, 3) := by decide +kernel
theorem d_Y_faultOf_36 : decode (mCd M_Y_faultOf) 36 = .ok (.iload_n 2, 1) := by decide +kernel
theorem d_Y_faultOf_37 : decode (mCd M_Y_faultOf) 37 = .ok (.if_icmp .lt 7, 3) := by decide +kernel
theorem d_Y_faultOf_40 : decode (mCd M_Y_faultOf) 40 = .ok (.iconst (-1), 1) := by decide +kernel
theorem d_Y_faultOf_41 : decode (mCd M_Y_faultOf) 41 = .ok (.iload_n 2, 1) := by decide +kernel
theorem d_Y_faultOf_42 : decode (mCd M_Y_faultOf) 42 = .ok (.isub, 1) := by decide +kernel
theorem d_Y_faultOf_43 : decode (mCd M_Y_faultOf) 43 = .ok (.ireturn, 1) := by decide +kernel
theorem d_Y_faultOf_44 : decode (mCd M_Y_faultOf) 44 = .ok (.iload 4, 2) := by decide +kernel
theorem d_Y_faultOf_46 : decode (mCd M_Y_faultOf) 46 = .ok (.ifCond .eq 7, 3) := by decide +kernel
theorem d_Y_faultOf_49 : decode (mCd M_Y_faultOf) 49 = .ok (.iconst 0, 1) := by decide +kernel
theorem d_Y_faultOf_50 : decode (mCd M_Y_faultOf) 50 = .ok (.goto 9, 3) := by decide +kernel
theorem d_Y_faultOf_53 : decode (mCd M_Y_faultOf) 53 = .ok (.iconst (-1), 1) := by decide +kernel
theorem d_Y_faultOf_54 : decode (mCd M_Y_faultOf) 54 = .ok (.aload_n 0, 1) := by decide +kernel
theorem d_Y_faultOf_55 : decode (mCd M_Y_faultOf) 55 = .ok (.getfield 158, 3) := by decide +kernel
theorem d_Y_faultOf_58 : decode (mCd M_Y_faultOf) 58 = .ok (.isub, 1) := by decide +kernel
theorem d_Y_faultOf_59 : decode (mCd M_Y_faultOf) 59 = .ok (.ireturn, 1) := by decide +kernel
theorem d_Y_lake_0 : decode (mCd M_Y_lake) 0 = .ok (.aload_n 0, 1) := by decide +kernel
theorem d_Y_lake_1 : decode (mCd M_Y_lake) 1 = .ok (.iconst 0, 1) := by decide +kernel
theorem d_Y_lake_2 : decode (mCd M_Y_lake) 2 = .ok (.putfield 3, 3) := by decide +kernel
theorem d_Y_lake_5 : decode (mCd M_Y_lake) 5 = .ok (.aload_n 0, 1) := by decide +kernel
theorem d_Y_lake_6 : decode (mCd M_Y_lake) 6 = .ok (.bipush 80, 2) := by decide +kernel
theorem d_Y_lake_8 : decode (mCd M_Y_lake) 8 = .ok (.invokevirtual 192, 3) := by decide +kernel
theorem d_Y_lake_11 : decode (mCd M_Y_lake) 11 = .ok (.pop, 1) := by decide +kernel
theorem d_Y_lake_12 : decode (mCd M_Y_lake) 12 = .ok (.aload_n 0, 1) := by decide +kernel
theorem d_Y_lake_13 : decode (mCd M_Y_lake) 13 = .ok (.iconst 2, 1) := by decide +kernel
theorem d_Y_lake_14 : decode (mCd M_Y_lake) 14 = .ok (.bipush 6, 2) := by decide +kernel
theorem d_Y_lake_16 : decode (mCd M_Y_lake) 16 = .ok (.invokevirtual 195, 3) := by decide +kernel
theorem d_Y_lake_19 : decode (mCd M_Y_lake) 19 = .ok (.istore_n 1, 1) := by decide +kernel
theorem d_Y_lake_20 : decode (mCd M_Y_lake) 20 = .ok (.iload_n 1, 1) := by decide +kernel
theorem d_Y_lake_21 : decode (mCd M_Y_lake) 21 = .ok (.ifCond .ge 7, 3) := by decide +kernel
theorem d_Y_lake_24 : decode (mCd M_Y_lake) 24 = .ok (.iconst (-1), 1) := by decide +kernel
theorem d_Y_lake_25 : decode (mCd M_Y_lake) 25 = .ok (.goto 10, 3) := by decide +kernel
theorem d_Y_lake_28 : decode (mCd M_Y_lake) 28 = .ok (.aload_n 0, 1) := by decide +kernel
theorem d_Y_lake_29 : decode (mCd M_Y_lake) 29 = .ok (.iconst 2, 1) := by decide +kernel
theorem d_Y_lake_30 : decode (mCd M_Y_lake) 30 = .ok (.bipush 6, 2) := by decide +kernel
theorem d_Y_lake_32 : decode (mCd M_Y_lake) 32 = .ok (.invokevirtual 195, 3) := by decide +kernel
theorem d_Y_lake_35 : decode (mCd M_Y_lake) 35 = .ok (.istore_n 2, 1) := by decide +kernel
theorem d_Y_lake_36 : decode (mCd M_Y_lake) 36 = .ok (.iload_n 2, 1) := by decide +kernel
theorem d_Y_lake_37 : decode (mCd M_Y_lake) 37 = .ok (.ifCond .le 7, 3) := by decide +kernel
theorem d_Y_lake_40 : decode (mCd M_Y_lake) 40 = .ok (.iconst 1, 1) := by decide +kernel
theorem d_Y_lake_41 : decode (mCd M_Y_lake) 41 = .ok (.goto 4, 3) := by decide +kernel
theorem d_Y_lake_44 : decode (mCd M_Y_lake) 44 = .ok (.iconst 0, 1) := by decide +kernel
theorem d_Y_lake_45 : decode (mCd M_Y_lake) 45 = .ok (.istore_n 3, 1) := by decide +kernel
theorem d_Y_lake_46 : decode (mCd M_Y_lake) 46 = .ok (.iconst 0, 1) := by decide +kernel
theorem d_Y_lake_47 : decode (mCd M_Y_lake) 47 = .ok (.istore 4, 2) := by decide +kernel
theorem d_Y_lake_49 : decode (mCd M_Y_lake) 49 = .ok (.iload_n 3, 1) := by decide +kernel
theorem d_Y_lake_50 : decode (mCd M_Y_lake) 50 = .ok (.ifCond .eq 54, 3) := by decide +kernel
theorem d_Y_lake_53 : decode (mCd M_Y_lake) 53 = .ok (.iload 4, 2) := by decide +kernel
theorem d_Y_lake_55 : decode (mCd M_Y_lake) 55 = .ok (.iload_n 1, 1) := by decide +kernel
theorem d_Y_lake_56 : decode (mCd M_Y_lake) 56 = .ok (.iload_n 2, 1) := by decide +kernel
theorem d_Y_lake_57 : decode (mCd M_Y_lake) 57 = .ok (.imul, 1) := by decide +kernel
theorem d_Y_lake_58 : decode (mCd M_Y_lake) 58 = .ok (.if_icmp .ge 46, 3) := by decide +kernel
theorem d_Y_lake_61 : decode (mCd M_Y_lake) 61 = .ok (.aload_n 0, 1) := by decide +kernel
theorem d_Y_lake_62 : decode (mCd M_Y_lake) 62 = .ok (.ldc 198, 2) := by decide +kernel
theorem d_Y_lake_64 : decode (mCd M_Y_lake) 64 = .ok (.invokevirtual 200, 3) := by decide +kernel
theorem d_Y_lake_67 : decode (mCd M_Y_lake) 67 = .ok (.istore 5, 2) := by decide +kernel
theorem d_Y_lake_69 : decode (mCd M_Y_lake) 69 = .ok (.aload_n 0, 1) := by decide +kernel
theorem d_Y_lake_70 : decode (mCd M_Y_lake) 70 = .ok (.getfield 60, 3) := by decide +kernel
theorem d_Y_lake_73 : decode (mCd M_Y_lake) 73 = .ok (.iload 4, 2) := by decide +kernel
theorem d_Y_lake_75 : decode (mCd M_Y_lake) 75 = .ok (.iload 5, 2) := by decide +kernel
theorem d_Y_lake_77 : decode (mCd M_Y_lake) 77 = .ok (.iconst 1, 1) := by decide +kernel
theorem d_Y_lake_78 : decode (mCd M_Y_lake) 78 = .ok (.if_icmp .ne 7, 3) := by decide +kernel
theorem d_Y_lake_81 : decode (mCd M_Y_lake) 81 = .ok (.iconst 1, 1) := by decide +kernel
theorem d_Y_lake_82 : decode (mCd M_Y_lake) 82 = .ok (.goto 4, 3) := by decide +kernel
theorem d_Y_lake_85 : decode (mCd M_Y_lake) 85 = .ok (.iconst 0, 1) := by decide +kernel
theorem d_Y_lake_86 : decode (mCd M_Y_lake) 86 = .ok (.bastore, 1) := by decide +kernel
theorem d_Y_lake_87 : decode (mCd M_Y_lake) 87 = .ok (.iload 5, 2) := by decide +kernel
theorem d_Y_lake_89 : decode (mCd M_Y_lake) 89 = .ok (.ifCond .lt 7, 3) := by decide +kernel
theorem d_Y_lake_92 : decode (mCd M_Y_lake) 92 = .ok (.iconst 1, 1) := by decide +kernel
theorem d_Y_lake_93 : decode (mCd M_Y_lake) 93 = .ok (.goto 4, 3) := by decide +kernel
theorem d_Y_lake_96 : decode (mCd M_Y_lake) 96 = .ok (.iconst 0, 1) := by decide +kernel
theorem d_Y_lake_97 : decode (mCd M_Y_lake) 97 = .ok (.istore_n 3, 1) := by decide +kernel
theorem d_Y_lake_98 : decode (mCd M_Y_lake) 98 = .ok (.iinc 4 1, 3) := by decide +kernel
theorem d_Y_lake_101 : decode (mCd M_Y_lake) 101 = .ok (.goto (-52), 3) := by decide +kernel
theorem d_Y_lake_104 : decode (mCd M_Y_lake) 104 = .ok (.iload_n 3, 1) := by decide +kernel
theorem d_Y_lake_105 : decode (mCd M_Y_lake) 105 = .ok (.ifCond .eq 14, 3) := by decide +kernel
theorem d_Y_lake_108 : decode (mCd M_Y_lake) 108 = .ok (.aload_n 0, 1) := by decide +kernel
theorem d_Y_lake_109 : decode (mCd M_Y_lake) 109 = .ok (.getfield 158, 3) := by decide +kernel
theorem d_Y_lake_112 : decode (mCd M_Y_lake) 112 = .ok (.aload_n 0, 1) := by decide +kernel
theorem d_Y_lake_113 : decode (mCd M_Y_lake) 113 = .ok (.getfield 168, 3) := by decide +kernel
theorem d_Y_lake_116 : decode (mCd M_Y_lake) 116 = .ok (.if_icmp .ge 10, 3) := by decide +kernel
theorem d_Y_lake_119 : decode (mCd M_Y_lake) 119 = .ok (.iconst (-1), 1) := by decide +kernel
theorem d_Y_lake_120 : decode (mCd M_Y_lake) 120 = .ok (.aload_n 0, 1) := by decide +kernel
theorem d_Y_lake_121 : decode (mCd M_Y_lake) 121 = .ok (.getfield 158, 3) := by decide +kernel
theorem d_Y_lake_124 : decode (mCd M_Y_lake) 124 = .ok (.isub, 1) := by decide +kernel
theorem d_Y_lake_125 : decode (mCd M_Y_lake) 125 = .ok (.ireturn, 1) := by decide +kernel
theorem d_Y_lake_126 : decode (mCd M_Y_lake) 126 = .ok (.aload_n 0, 1) := by decide +kernel
theorem d_Y_lake_127 : decode (mCd M_Y_lake) 127 = .ok (.iload_n 1, 1) := by decide +kernel
theorem d_Y_lake_128 : decode (mCd M_Y_lake) 128 = .ok (.putfield 28, 3) := by decide +kernel
theorem d_Y_lake_131 : decode (mCd M_Y_lake) 131 = .ok (.aload_n 0, 1) := by decide +kernel
theorem d_Y_lake_132 : decode (mCd M_Y_lake) 132 = .ok (.iload_n 2, 1) := by decide +kernel
theorem d_Y_lake_133 : decode (mCd M_Y_lake) 133 = .ok (.putfield 31, 3) := by decide +kernel
theorem d_Y_lake_136 : decode (mCd M_Y_lake) 136 = .ok (.iconst 0, 1) := by decide +kernel
theorem d_Y_lake_137 : decode (mCd M_Y_lake) 137 = .ok (.istore 4, 2) := by decide +kernel
theorem d_Y_lake_139 : decode (mCd M_Y_lake) 139 = .ok (.iload 4, 2) := by decide +kernel
theorem d_Y_lake_141 : decode (mCd M_Y_lake) 141 = .ok (.aload_n 0, 1) := by decide +kernel
theorem d_Y_lake_142 : decode (mCd M_Y_lake) 142 = .ok (.invokevirtual 138, 3) := by decide +kernel
theorem d_Y_lake_145 : decode (mCd M_Y_lake) 145 = .ok (.if_icmp .ge 23, 3) := by decide +kernel
theorem d_Y_lake_148 : decode (mCd M_Y_lake) 148 = .ok (.aload_n 0, 1) := by decide +kernel
theorem d_Y_lake_149 : decode (mCd M_Y_lake) 149 = .ok (.getfield 37, 3) := by decide +kernel
theorem d_Y_lake_152 : decode (mCd M_Y_lake) 152 = .ok (.iload 4, 2) := by decide +kernel
theorem d_Y_lake_154 : decode (mCd M_Y_lake) 154 = .ok (.aload_n 0, 1) := by decide +kernel
theorem d_Y_lake_155 : decode (mCd M_Y_lake) 155 = .ok (.getfield 60, 3) := by decide +kernel
theorem d_Y_lake_158 : decode (mCd M_Y_lake) 158 = .ok (.iload 4, 2) := by decide +kernel
theorem d_Y_lake_160 : decode (mCd M_Y_lake) 160 = .ok (.baload, 1) := by decide +kernel
theorem d_Y_lake_161 : decode (mCd M_Y_lake) 161 = .ok (.bastore, 1) := by decide +kernel
theorem d_Y_lake_162 : decode (mCd M_Y_lake) 162 = .ok (.iinc 4 1, 3) := by decide +kernel
theorem d_Y_lake_165 : decode (mCd M_Y_lake) 165 = .ok (.goto (-26), 3) := by decide +kernel
theorem d_Y_lake_168 : decode (mCd M_Y_lake) 168 = .ok (.aload_n 0, 1) := by decide +kernel
theorem d_Y_lake_169 : decode (mCd M_Y_lake) 169 = .ok (.getfield 51, 3) := by decide +kernel
theorem d_Y_lake_172 : decode (mCd M_Y_lake) 172 = .ok (.iconst 0, 1) := by decide +kernel
theorem d_Y_lake_173 : decode (mCd M_Y_lake) 173 = .ok (.iconst 0, 1) := by decide +kernel
theorem d_Y_lake_174 : decode (mCd M_Y_lake) 174 = .ok (.iastore, 1) := by decide +kernel
theorem d_Y_lake_175 : decode (mCd M_Y_lake) 175 = .ok (.aload_n 0, 1) := by decide +kernel
theorem d_Y_lake_176 : decode (mCd M_Y_lake) 176 = .ok (.getfield 51, 3) := by decide +kernel
theorem d_Y_lake_179 : decode (mCd M_Y_lake) 179 = .ok (.bipush 37, 2) := by decide +kernel
theorem d_Y_lake_181 : decode (mCd M_Y_lake) 181 = .ok (.iconst 0, 1) := by decide +kernel
theorem d_Y_lake_182 : decode (mCd M_Y_lake) 182 = .ok (.iastore, 1) := by decide +kernel
theorem d_Y_lake_183 : decode (mCd M_Y_lake) 183 = .ok (.aload_n 0, 1) := by decide +kernel
theorem d_Y_lake_184 : decode (mCd M_Y_lake) 184 = .ok (.getfield 51, 3) := by decide +kernel
theorem d_Y_lake_187 : decode (mCd M_Y_lake) 187 = .ok (.bipush 33, 2) := by decide +kernel
theorem d_Y_lake_189 : decode (mCd M_Y_lake) 189 = .ok (.iconst 0, 1) := by decide +kernel
theorem d_Y_lake_190 : decode (mCd M_Y_lake) 190 = .ok (.iastore, 1) := by decide +kernel
theorem d_Y_lake_191 : decode (mCd M_Y_lake) 191 = .ok (.aload_n 0, 1) := by decide +kernel
theorem d_Y_lake_192 : decode (mCd M_Y_lake) 192 = .ok (.iconst 0, 1) := by decide +kernel
theorem d_Y_lake_193 : decode (mCd M_Y_lake) 193 = .ok (.putfield 146, 3) := by decide +kernel
theorem d_Y_lake_196 : decode (mCd M_Y_lake) 196 = .ok (.aload_n 0, 1) := by decide +kernel
theorem d_Y_lake_197 : decode (mCd M_Y_lake) 197 = .ok (.iconst 0, 1) := by decide +kernel
theorem d_Y_lake_198 : decode (mCd M_Y_lake) 198 = .ok (.putfield 204, 3) := by decide +kernel
theorem d_Y_lake_201 : decode (mCd M_Y_lake) 201 = .ok (.aload_n 0, 1) := by decide +kernel
theorem d_Y_lake_202 : decode (mCd M_Y_lake) 202 = .ok (.dup, 1) := by decide +kernel
theorem d_Y_lake_203 : decode (mCd M_Y_lake) 203 = .ok (.getfield 207, 3) := by decide +kernel
theorem d_Y_lake_206 : decode (mCd M_Y_lake) 206 = .ok (.iconst 1, 1) := by decide +kernel
theorem d_Y_lake_207 : decode (mCd M_Y_lake) 207 = .ok (.iadd, 1) := by decide +kernel
theorem d_Y_lake_208 : decode (mCd M_Y_lake) 208 = .ok (.putfield 207, 3) := by decide +kernel
theorem d_Y_lake_211 : decode (mCd M_Y_lake) 211 = .ok (.aload_n 0, 1) := by decide +kernel
theorem d_Y_lake_212 : decode (mCd M_Y_lake) 212 = .ok (.iconst 0, 1) := by decide +kernel
theorem d_Y_lake_213 : decode (mCd M_Y_lake) 213 = .ok (.putfield 210, 3) := by decide +kernel
theorem d_Y_lake_216 : decode (mCd M_Y_lake) 216 = .ok (.aload_n 0, 1) := by decide +kernel
theorem d_Y_lake_217 : decode (mCd M_Y_lake) 217 = .ok (.invokevirtual 138, 3) := by decide +kernel
theorem d_Y_lake_220 : decode (mCd M_Y_lake) 220 = .ok (.ireturn, 1) := by decide +kernel
theorem d_Y_readsFish_0 : decode (mCd M_Y_readsFish) 0 = .ok (.aload_n 0, 1) := by decide +kernel
theorem d_Y_readsFish_1 : decode (mCd M_Y_readsFish) 1 = .ok (.getfield 146, 3) := by decide +kernel
theorem d_Y_readsFish_4 : decode (mCd M_Y_readsFish) 4 = .ok (.aload_n 0, 1) := by decide +kernel
theorem d_Y_readsFish_5 : decode (mCd M_Y_readsFish) 5 = .ok (.getfield 213, 3) := by decide +kernel
theorem d_Y_readsFish_8 : decode (mCd M_Y_readsFish) 8 = .ok (.iadd, 1) := by decide +kernel
theorem d_Y_readsFish_9 : decode (mCd M_Y_readsFish) 9 = .ok (.bipush 8, 2) := by decide +kernel
theorem d_Y_readsFish_11 : decode (mCd M_Y_readsFish) 11 = .ok (.if_icmp .ne 5, 3) := by decide +kernel
theorem d_Y_readsFish_14 : decode (mCd M_Y_readsFish) 14 = .ok (.iconst 0, 1) := by decide +kernel
theorem d_Y_readsFish_15 : decode (mCd M_Y_readsFish) 15 = .ok (.ireturn, 1) := by decide +kernel
theorem d_Y_readsFish_16 : decode (mCd M_Y_readsFish) 16 = .ok (.iconst 2, 1) := by decide +kernel
theorem d_Y_readsFish_17 : decode (mCd M_Y_readsFish) 17 = .ok (.aload_n 0, 1) := by decide +kernel
theorem d_Y_readsFish_18 : decode (mCd M_Y_readsFish) 18 = .ok (.getfield 213, 3) := by decide +kernel
theorem d_Y_readsFish_21 : decode (mCd M_Y_readsFish) 21 = .ok (.imul, 1) := by decide +kernel
theorem d_Y_readsFish_22 : decode (mCd M_Y_readsFish) 22 = .ok (.istore_n 1, 1) := by decide +kernel
theorem d_Y_readsFish_23 : decode (mCd M_Y_readsFish) 23 = .ok (.aload_n 0, 1) := by decide +kernel
theorem d_Y_readsFish_24 : decode (mCd M_Y_readsFish) 24 = .ok (.getfield 63, 3) := by decide +kernel
theorem d_Y_readsFish_27 : decode (mCd M_Y_readsFish) 27 = .ok (.iload_n 1, 1) := by decide +kernel
theorem d_Y_readsFish_28 : decode (mCd M_Y_readsFish) 28 = .ok (.aload_n 0, 1) := by decide +kernel
theorem d_Y_readsFish_29 : decode (mCd M_Y_readsFish) 29 = .ok (.ldc 216, 2) := by decide +kernel
theorem d_Y_readsFish_31 : decode (mCd M_Y_readsFish) 31 = .ok (.invokevirtual 200, 3) := by decide +kernel
theorem d_Y_readsFish_34 : decode (mCd M_Y_readsFish) 34 = .ok (.iastore, 1) := by decide +kernel
theorem d_Y_readsFish_35 : decode (mCd M_Y_readsFish) 35 = .ok (.aload_n 0, 1) := by decide +kernel
theorem d_Y_readsFish_36 : decode (mCd M_Y_readsFish) 36 = .ok (.getfield 63, 3) := by decide +kernel
theorem d_Y_readsFish_39 : decode (mCd M_Y_readsFish) 39 = .ok (.iload_n 1, 1) := by decide +kernel
theorem d_Y_readsFish_40 : decode (mCd M_Y_readsFish) 40 = .ok (.iconst 1, 1) := by decide +kernel
theorem d_Y_readsFish_41 : decode (mCd M_Y_readsFish) 41 = .ok (.iadd, 1) := by decide +kernel
theorem d_Y_readsFish_42 : decode (mCd M_Y_readsFish) 42 = .ok (.aload_n 0, 1) := by decide +kernel
theorem d_Y_readsFish_43 : decode (mCd M_Y_readsFish) 43 = .ok (.getfield 63, 3) := by decide +kernel
theorem d_Y_readsFish_46 : decode (mCd M_Y_readsFish) 46 = .ok (.iload_n 1, 1) := by decide +kernel
theorem d_Y_readsFish_47 : decode (mCd M_Y_readsFish) 47 = .ok (.iaload, 1) := by decide +kernel
theorem d_Y_readsFish_48 : decode (mCd M_Y_readsFish) 48 = .ok (.ifCond .ge 7, 3) := by decide +kernel
theorem d_Y_readsFish_51 : decode (mCd M_Y_readsFish) 51 = .ok (.iconst (-1), 1) := by decide +kernel
theorem d_Y_readsFish_52 : decode (mCd M_Y_readsFish) 52 = .ok (.goto 10, 3) := by decide +kernel
theorem d_Y_readsFish_55 : decode (mCd M_Y_readsFish) 55 = .ok (.aload_n 0, 1) := by decide +kernel
theorem d_Y_readsFish_56 : decode (mCd M_Y_readsFish) 56 = .ok (.iconst 1, 1) := by decide +kernel
theorem d_Y_readsFish_57 : decode (mCd M_Y_readsFish) 57 = .ok (.bipush 9, 2) := by decide +kernel
theorem d_Y_readsFish_59 : decode (mCd M_Y_readsFish) 59 = .ok (.invokevirtual 195, 3) := by decide +kernel
theorem d_Y_readsFish_62 : decode (mCd M_Y_readsFish) 62 = .ok (.iastore, 1) := by decide +kernel
theorem d_Y_readsFish_63 : decode (mCd M_Y_readsFish) 63 = .ok (.aload_n 0, 1) := by decide +kernel
theorem d_Y_readsFish_64 : decode (mCd M_Y_readsFish) 64 = .ok (.dup, 1) := by decide +kernel
theorem d_Y_readsFish_65 : decode (mCd M_Y_readsFish) 65 = .ok (.getfield 213, 3) := by decide +kernel
theorem d_Y_readsFish_68 : decode (mCd M_Y_readsFish) 68 = .ok (.iconst 1, 1) := by decide +kernel
theorem d_Y_readsFish_69 : decode (mCd M_Y_readsFish) 69 = .ok (.iadd, 1) := by decide +kernel
theorem d_Y_readsFish_70 : decode (mCd M_Y_readsFish) 70 = .ok (.putfield 213, 3) := by decide +kernel
theorem d_Y_readsFish_73 : decode (mCd M_Y_readsFish) 73 = .ok (.aload_n 0, 1) := by decide +kernel
theorem d_Y_readsFish_74 : decode (mCd M_Y_readsFish) 74 = .ok (.getfield 63, 3) := by decide +kernel
theorem d_Y_readsFish_77 : decode (mCd M_Y_readsFish) 77 = .ok (.iload_n 1, 1) := by decide +kernel
theorem d_Y_readsFish_78 : decode (mCd M_Y_readsFish) 78 = .ok (.iconst 1, 1) := by decide +kernel
theorem d_Y_readsFish_79 : decode (mCd M_Y_readsFish) 79 = .ok (.iadd, 1) := by decide +kernel
theorem d_Y_readsFish_80 : decode (mCd M_Y_readsFish) 80 = .ok (.iaload, 1) := by decide +kernel
theorem d_Y_readsFish_81 : decode (mCd M_Y_readsFish) 81 = .ok (.ifCond .le 7, 3) := by decide +kernel
theorem d_Y_readsFish_84 : decode (mCd M_Y_readsFish) 84 = .ok (.iconst 1, 1) := by decide +kernel
theorem d_Y_readsFish_85 : decode (mCd M_Y_readsFish) 85 = .ok (.goto 4, 3) := by decide +kernel
theorem d_Y_readsFish_88 : decode (mCd M_Y_readsFish) 88 = .ok (.iconst 0, 1) := by decide +kernel
theorem d_Y_readsFish_89 : decode (mCd M_Y_readsFish) 89 = .ok (.ireturn, 1) := by decide +kernel
theorem d_Y_fish_0 : decode (mCd M_Y_fish) 0 = .ok (.aload_n 0, 1) := by decide +kernel
theorem d_Y_fish_1 : decode (mCd M_Y_fish) 1 = .ok (.iconst 0, 1) := by decide +kernel
theorem d_Y_fish_2 : decode (mCd M_Y_fish) 2 = .ok (.putfield 3, 3) := by decide +kernel
theorem d_Y_fish_5 : decode (mCd M_Y_fish) 5 = .ok (.aload_n 0, 1) := by decide +kernel
theorem d_Y_fish_6 : decode (mCd M_Y_fish) 6 = .ok (.bipush 23, 2) := by decide +kernel
theorem d_Y_fish_8 : decode (mCd M_Y_fish) 8 = .ok (.invokevirtual 192, 3) := by decide +kernel
theorem d_Y_fish_11 : decode (mCd M_Y_fish) 11 = .ok (.istore_n 1, 1) := by decide +kernel
theorem d_Y_fish_12 : decode (mCd M_Y_fish) 12 = .ok (.aload_n 0, 1) := by decide +kernel
theorem d_Y_fish_13 : decode (mCd M_Y_fish) 13 = .ok (.iconst 0, 1) := by decide +kernel
theorem d_Y_fish_14 : decode (mCd M_Y_fish) 14 = .ok (.putfield 213, 3) := by decide +kernel
theorem d_Y_fish_17 : decode (mCd M_Y_fish) 17 = .ok (.iconst 1, 1) := by decide +kernel
theorem d_Y_fish_18 : decode (mCd M_Y_fish) 18 = .ok (.istore_n 2, 1) := by decide +kernel
theorem d_Y_fish_19 : decode (mCd M_Y_fish) 19 = .ok (.iload_n 1, 1) := by decide +kernel
theorem d_Y_fish_20 : decode (mCd M_Y_fish) 20 = .ok (.ifCond .le 7, 3) := by decide +kernel
theorem d_Y_fish_23 : decode (mCd M_Y_fish) 23 = .ok (.iconst 1, 1) := by decide +kernel
theorem d_Y_fish_24 : decode (mCd M_Y_fish) 24 = .ok (.goto 4, 3) := by decide +kernel
theorem d_Y_fish_27 : decode (mCd M_Y_fish) 27 = .ok (.iconst 0, 1) := by decide +kernel
theorem d_Y_fish_28 : decode (mCd M_Y_fish) 28 = .ok (.istore_n 3, 1) := by decide +kernel
theorem d_Y_fish_29 : decode (mCd M_Y_fish) 29 = .ok (.iload_n 3, 1) := by decide +kernel
theorem d_Y_fish_30 : decode (mCd M_Y_fish) 30 = .ok (.ifCond .eq 30, 3) := by decide +kernel
theorem d_Y_fish_33 : decode (mCd M_Y_fish) 33 = .ok (.aload_n 0, 1) := by decide +kernel
theorem d_Y_fish_34 : decode (mCd M_Y_fish) 34 = .ok (.invokevirtual 218, 3) := by decide +kernel
theorem d_Y_fish_37 : decode (mCd M_Y_fish) 37 = .ok (.istore_n 2, 1) := by decide +kernel
theorem d_Y_fish_38 : decode (mCd M_Y_fish) 38 = .ok (.iload_n 2, 1) := by decide +kernel
theorem d_Y_fish_39 : decode (mCd M_Y_fish) 39 = .ok (.ifCond .eq 16, 3) := by decide +kernel
theorem d_Y_fish_42 : decode (mCd M_Y_fish) 42 = .ok (.aload_n 0, 1) := by decide +kernel
theorem d_Y_fish_43 : decode (mCd M_Y_fish) 43 = .ok (.bipush 59, 2) := by decide +kernel
theorem d_Y_fish_45 : decode (mCd M_Y_fish) 45 = .ok (.invokevirtual 221, 3) := by decide +kernel
theorem d_Y_fish_48 : decode (mCd M_Y_fish) 48 = .ok (.ifCond .eq 7, 3) := by decide +kernel
theorem d_Y_fish_51 : decode (mCd M_Y_fish) 51 = .ok (.iconst 1, 1) := by decide +kernel
theorem d_Y_fish_52 : decode (mCd M_Y_fish) 52 = .ok (.goto 4, 3) := by decide +kernel
theorem d_Y_fish_55 : decode (mCd M_Y_fish) 55 = .ok (.iconst 0, 1) := by decide +kernel
theorem d_Y_fish_56 : decode (mCd M_Y_fish) 56 = .ok (.istore_n 3, 1) := by decide +kernel
theorem d_Y_fish_57 : decode (mCd M_Y_fish) 57 = .ok (.goto (-28), 3) := by decide +kernel
theorem d_Y_fish_60 : decode (mCd M_Y_fish) 60 = .ok (.aload_n 0, 1) := by decide +kernel
theorem d_Y_fish_61 : decode (mCd M_Y_fish) 61 = .ok (.iload_n 1, 1) := by decide +kernel
theorem d_Y_fish_62 : decode (mCd M_Y_fish) 62 = .ok (.bipush 23, 2) := by decide +kernel
theorem d_Y_fish_64 : decode (mCd M_Y_fish) 64 = .ok (.iload_n 2, 1) := by decide +kernel
theorem d_Y_fish_65 : decode (mCd M_Y_fish) 65 = .ok (.invokevirtual 225, 3) := by decide +kernel
theorem d_Y_fish_68 : decode (mCd M_Y_fish) 68 = .ok (.istore 4, 2) := by decide +kernel
theorem d_Y_fish_70 : decode (mCd M_Y_fish) 70 = .ok (.iload 4, 2) := by decide +kernel
theorem d_Y_fish_72 : decode (mCd M_Y_fish) 72 = .ok (.ifCond .ge 6, 3) := by decide +kernel
theorem d_Y_fish_75 : decode (mCd M_Y_fish) 75 = .ok (.iload 4, 2) := by decide +kernel
theorem d_Y_fish_77 : decode (mCd M_Y_fish) 77 = .ok (.ireturn, 1) := by decide +kernel
theorem d_Y_fish_78 : decode (mCd M_Y_fish) 78 = .ok (.iconst 0, 1) := by decide +kernel
theorem d_Y_fish_79 : decode (mCd M_Y_fish) 79 = .ok (.istore 5, 2) := by decide +kernel
theorem d_Y_fish_81 : decode (mCd M_Y_fish) 81 = .ok (.iload 5, 2) := by decide +kernel
theorem d_Y_fish_83 : decode (mCd M_Y_fish) 83 = .ok (.aload_n 0, 1) := by decide +kernel
theorem d_Y_fish_84 : decode (mCd M_Y_fish) 84 = .ok (.getfield 213, 3) := by decide +kernel
theorem d_Y_fish_87 : decode (mCd M_Y_fish) 87 = .ok (.if_icmp .ge 124, 3) := by decide +kernel
theorem d_Y_fish_90 : decode (mCd M_Y_fish) 90 = .ok (.aload_n 0, 1) := by decide +kernel
theorem d_Y_fish_91 : decode (mCd M_Y_fish) 91 = .ok (.getfield 45, 3) := by decide +kernel
theorem d_Y_fish_94 : decode (mCd M_Y_fish) 94 = .ok (.aload_n 0, 1) := by decide +kernel
theorem d_Y_fish_95 : decode (mCd M_Y_fish) 95 = .ok (.getfield 146, 3) := by decide +kernel
theorem d_Y_fish_98 : decode (mCd M_Y_fish) 98 = .ok (.aload_n 0, 1) := by decide +kernel
theorem d_Y_fish_99 : decode (mCd M_Y_fish) 99 = .ok (.getfield 63, 3) := by decide +kernel
theorem d_Y_fish_102 : decode (mCd M_Y_fish) 102 = .ok (.iconst 2, 1) := by decide +kernel
theorem d_Y_fish_103 : decode (mCd M_Y_fish) 103 = .ok (.iload 5, 2) := by decide +kernel
theorem d_Y_fish_105 : decode (mCd M_Y_fish) 105 = .ok (.imul, 1) := by decide +kernel
theorem d_Y_fish_106 : decode (mCd M_Y_fish) 106 = .ok (.iaload, 1) := by decide +kernel
theorem d_Y_fish_107 : decode (mCd M_Y_fish) 107 = .ok (.iastore, 1) := by decide +kernel
theorem d_Y_fish_108 : decode (mCd M_Y_fish) 108 = .ok (.aload_n 0, 1) := by decide +kernel
theorem d_Y_fish_109 : decode (mCd M_Y_fish) 109 = .ok (.getfield 48, 3) := by decide +kernel
theorem d_Y_fish_112 : decode (mCd M_Y_fish) 112 = .ok (.aload_n 0, 1) := by decide +kernel
theorem d_Y_fish_113 : decode (mCd M_Y_fish) 113 = .ok (.getfield 146, 3) := by decide +kernel
theorem d_Y_fish_116 : decode (mCd M_Y_fish) 116 = .ok (.aload_n 0, 1) := by decide +kernel
theorem d_Y_fish_117 : decode (mCd M_Y_fish) 117 = .ok (.getfield 63, 3) := by decide +kernel
theorem d_Y_fish_120 : decode (mCd M_Y_fish) 120 = .ok (.iconst 2, 1) := by decide +kernel
theorem d_Y_fish_121 : decode (mCd M_Y_fish) 121 = .ok (.iload 5, 2) := by decide +kernel
theorem d_Y_fish_123 : decode (mCd M_Y_fish) 123 = .ok (.imul, 1) := by decide +kernel
theorem d_Y_fish_124 : decode (mCd M_Y_fish) 124 = .ok (.iconst 1, 1) := by decide +kernel
theorem d_Y_fish_125 : decode (mCd M_Y_fish) 125 = .ok (.iadd, 1) := by decide +kernel
theorem d_Y_fish_126 : decode (mCd M_Y_fish) 126 = .ok (.iaload, 1) := by decide +kernel
theorem d_Y_fish_127 : decode (mCd M_Y_fish) 127 = .ok (.iastore, 1) := by decide +kernel
theorem d_Y_fish_128 : decode (mCd M_Y_fish) 128 = .ok (.aload_n 0, 1) := by decide +kernel
theorem d_Y_fish_129 : decode (mCd M_Y_fish) 129 = .ok (.getfield 51, 3) := by decide +kernel
theorem d_Y_fish_132 : decode (mCd M_Y_fish) 132 = .ok (.iconst 1, 1) := by decide +kernel
theorem d_Y_fish_133 : decode (mCd M_Y_fish) 133 = .ok (.aload_n 0, 1) := by decide +kernel
theorem d_Y_fish_134 : decode (mCd M_Y_fish) 134 = .ok (.getfield 146, 3) := by decide +kernel
theorem d_Y_fish_137 : decode (mCd M_Y_fish) 137 = .ok (.iadd, 1) := by decide +kernel
theorem d_Y_fish_138 : decode (mCd M_Y_fish) 138 = .ok (.iconst 0, 1) := by decide +kernel
theorem d_Y_fish_139 : decode (mCd M_Y_fish) 139 = .ok (.iastore, 1) := by decide +kernel
theorem d_Y_fish_140 : decode (mCd M_Y_fish) 140 = .ok (.aload_n 0, 1) := by decide +kernel
theorem d_Y_fish_141 : decode (mCd M_Y_fish) 141 = .ok (.getfield 51, 3) := by decide +kernel
theorem d_Y_fish_144 : decode (mCd M_Y_fish) 144 = .ok (.bipush 9, 2) := by decide +kernel
theorem d_Y_fish_146 : decode (mCd M_Y_fish) 146 = .ok (.aload_n 0, 1) := by decide +kernel
theorem d_Y_fish_147 : decode (mCd M_Y_fish) 147 = .ok (.getfield 146, 3) := by decide +kernel
theorem d_Y_fish_150 : decode (mCd M_Y_fish) 150 = .ok (.iadd, 1) := by decide +kernel
theorem d_Y_fish_151 : decode (mCd M_Y_fish) 151 = .ok (.iconst 5, 1) := by decide +kernel
theorem d_Y_fish_152 : decode (mCd M_Y_fish) 152 = .ok (.iastore, 1) := by decide +kernel
theorem d_Y_fish_153 : decode (mCd M_Y_fish) 153 = .ok (.aload_n 0, 1) := by decide +kernel
theorem d_Y_fish_154 : decode (mCd M_Y_fish) 154 = .ok (.getfield 51, 3) := by decide +kernel
theorem d_Y_fish_157 : decode (mCd M_Y_fish) 157 = .ok (.bipush 17, 2) := by decide +kernel
theorem d_Y_fish_159 : decode (mCd M_Y_fish) 159 = .ok (.aload_n 0, 1) := by decide +kernel
theorem d_Y_fish_160 : decode (mCd M_Y_fish) 160 = .ok (.getfield 146, 3) := by decide +kernel
theorem d_Y_fish_163 : decode (mCd M_Y_fish) 163 = .ok (.iadd, 1) := by decide +kernel
theorem d_Y_fish_164 : decode (mCd M_Y_fish) 164 = .ok (.iconst (-1), 1) := by decide +kernel
theorem d_Y_fish_165 : decode (mCd M_Y_fish) 165 = .ok (.iastore, 1) := by decide +kernel
theorem d_Y_fish_166 : decode (mCd M_Y_fish) 166 = .ok (.aload_n 0, 1) := by decide +kernel
theorem d_Y_fish_167 : decode (mCd M_Y_fish) 167 = .ok (.getfield 51, 3) := by decide +kernel
theorem d_Y_fish_170 : decode (mCd M_Y_fish) 170 = .ok (.bipush 25, 2) := by decide +kernel
theorem d_Y_fish_172 : decode (mCd M_Y_fish) 172 = .ok (.aload_n 0, 1) := by decide +kernel
theorem d_Y_fish_173 : decode (mCd M_Y_fish) 173 = .ok (.getfield 146, 3) := by decide +kernel
theorem d_Y_fish_176 : decode (mCd M_Y_fish) 176 = .ok (.iadd, 1) := by decide +kernel
theorem d_Y_fish_177 : decode (mCd M_Y_fish) 177 = .ok (.iconst (-1), 1) := by decide +kernel
theorem d_Y_fish_178 : decode (mCd M_Y_fish) 178 = .ok (.iastore, 1) := by decide +kernel
theorem d_Y_fish_179 : decode (mCd M_Y_fish) 179 = .ok (.aload_n 0, 1) := by decide +kernel
theorem d_Y_fish_180 : decode (mCd M_Y_fish) 180 = .ok (.getfield 51, 3) := by decide +kernel
theorem d_Y_fish_183 : decode (mCd M_Y_fish) 183 = .ok (.bipush 33, 2) := by decide +kernel
theorem d_Y_fish_185 : decode (mCd M_Y_fish) 185 = .ok (.dup2, 1) := by decide +kernel
theorem d_Y_fish_186 : decode (mCd M_Y_fish) 186 = .ok (.iaload, 1) := by decide +kernel
theorem d_Y_fish_187 : decode (mCd M_Y_fish) 187 = .ok (.iconst 1, 1) := by decide +kernel
theorem d_Y_fish_188 : decode (mCd M_Y_fish) 188 = .ok (.aload_n 0, 1) := by decide +kernel
theorem d_Y_fish_189 : decode (mCd M_Y_fish) 189 = .ok (.getfield 146, 3) := by decide +kernel
theorem d_Y_fish_192 : decode (mCd M_Y_fish) 192 = .ok (.ishl, 1) := by decide +kernel
theorem d_Y_fish_193 : decode (mCd M_Y_fish) 193 = .ok (.ior, 1) := by decide +kernel
theorem d_Y_fish_194 : decode (mCd M_Y_fish) 194 = .ok (.iastore, 1) := by decide +kernel
theorem d_Y_fish_195 : decode (mCd M_Y_fish) 195 = .ok (.aload_n 0, 1) := by decide +kernel
theorem d_Y_fish_196 : decode (mCd M_Y_fish) 196 = .ok (.dup, 1) := by decide +kernel
theorem d_Y_fish_197 : decode (mCd M_Y_fish) 197 = .ok (.getfield 146, 3) := by decide +kernel
theorem d_Y_fish_200 : decode (mCd M_Y_fish) 200 = .ok (.iconst 1, 1) := by decide +kernel
theorem d_Y_fish_201 : decode (mCd M_Y_fish) 201 = .ok (.iadd, 1) := by decide +kernel
theorem d_Y_fish_202 : decode (mCd M_Y_fish) 202 = .ok (.putfield 146, 3) := by decide +kernel
theorem d_Y_fish_205 : decode (mCd M_Y_fish) 205 = .ok (.iinc 5 1, 3) := by decide +kernel
theorem d_Y_fish_208 : decode (mCd M_Y_fish) 208 = .ok (.goto (-127), 3) := by decide +kernel
theorem d_Y_fish_211 : decode (mCd M_Y_fish) 211 = .ok (.aload_n 0, 1) := by decide +kernel
theorem d_Y_fish_212 : decode (mCd M_Y_fish) 212 = .ok (.getfield 213, 3) := by decide +kernel
theorem d_Y_fish_215 : decode (mCd M_Y_fish) 215 = .ok (.ifCond .le 18, 3) := by decide +kernel
theorem d_Y_fish_218 : decode (mCd M_Y_fish) 218 = .ok (.aload_n 0, 1) := by decide +kernel
theorem d_Y_fish_219 : decode (mCd M_Y_fish) 219 = .ok (.iconst 0, 1) := by decide +kernel
theorem d_Y_fish_220 : decode (mCd M_Y_fish) 220 = .ok (.putfield 204, 3) := by decide +kernel
theorem d_Y_fish_223 : decode (mCd M_Y_fish) 223 = .ok (.aload_n 0, 1) := by decide +kernel
theorem d_Y_fish_224 : decode (mCd M_Y_fish) 224 = .ok (.dup, 1) := by decide +kernel
theorem d_Y_fish_225 : decode (mCd M_Y_fish) 225 = .ok (.getfield 207, 3) := by decide +kernel
theorem d_Y_fish_228 : decode (mCd M_Y_fish) 228 = .ok (.iconst 1, 1) := by decide +kernel
theorem d_Y_fish_229 : decode (mCd M_Y_fish) 229 = .ok (.iadd, 1) := by decide +kernel
theorem d_Y_fish_230 : decode (mCd M_Y_fish) 230 = .ok (.putfield 207, 3) := by decide +kernel
theorem d_Y_fish_233 : decode (mCd M_Y_fish) 233 = .ok (.aload_n 0, 1) := by decide +kernel
theorem d_Y_fish_234 : decode (mCd M_Y_fish) 234 = .ok (.getfield 213, 3) := by decide +kernel
theorem d_Y_fish_237 : decode (mCd M_Y_fish) 237 = .ok (.ireturn, 1) := by decide +kernel
theorem d_Y_canBePromised_0 : decode (mCd M_Y_canBePromised) 0 = .ok (.aload_n 0, 1) := by decide +kernel
theorem d_Y_canBePromised_1 : decode (mCd M_Y_canBePromised) 1 = .ok (.getfield 45, 3) := by decide +kernel
theorem d_Y_canBePromised_4 : decode (mCd M_Y_canBePromised) 4 = .ok (.iload_n 2, 1) := by decide +kernel
theorem d_Y_canBePromised_5 : decode (mCd M_Y_canBePromised) 5 = .ok (.iaload, 1) := by decide +kernel
theorem d_Y_canBePromised_6 : decode (mCd M_Y_canBePromised) 6 = .ok (.iconst 2, 1) := by decide +kernel
theorem d_Y_canBePromised_7 : decode (mCd M_Y_canBePromised) 7 = .ok (.if_icmp .eq 16, 3) := by decide +kernel
theorem d_Y_canBePromised_10 : decode (mCd M_Y_canBePromised) 10 = .ok (.aload_n 1, 1) := by decide +kernel
theorem d_Y_canBePromised_11 : decode (mCd M_Y_canBePromised) 11 = .ok (.bipush 9, 2) := by decide +kernel
theorem d_Y_canBePromised_13 : decode (mCd M_Y_canBePromised) 13 = .ok (.iload_n 2, 1) := by decide +kernel
theorem d_Y_canBePromised_14 : decode (mCd M_Y_canBePromised) 14 = .ok (.iadd, 1) := by decide +kernel
theorem d_Y_canBePromised_15 : decode (mCd M_Y_canBePromised) 15 = .ok (.iaload, 1) := by decide +kernel
theorem d_Y_canBePromised_16 : decode (mCd M_Y_canBePromised) 16 = .ok (.ifCond .le 7, 3) := by decide +kernel
theorem d_Y_canBePromised_19 : decode (mCd M_Y_canBePromised) 19 = .ok (.iconst 1, 1) := by decide +kernel
theorem d_Y_canBePromised_20 : decode (mCd M_Y_canBePromised) 20 = .ok (.goto 4, 3) := by decide +kernel
theorem d_Y_canBePromised_23 : decode (mCd M_Y_canBePromised) 23 = .ok (.iconst 0, 1) := by decide +kernel
theorem d_Y_canBePromised_24 : decode (mCd M_Y_canBePromised) 24 = .ok (.ireturn, 1) := by decide +kernel
theorem d_Y_readsPromise_0 : decode (mCd M_Y_readsPromise) 0 = .ok (.aload_n 0, 1) := by decide +kernel
theorem d_Y_readsPromise_1 : decode (mCd M_Y_readsPromise) 1 = .ok (.getfield 213, 3) := by decide +kernel
theorem d_Y_readsPromise_4 : decode (mCd M_Y_readsPromise) 4 = .ok (.bipush 12, 2) := by decide +kernel
theorem d_Y_readsPromise_6 : decode (mCd M_Y_readsPromise) 6 = .ok (.if_icmp .ne 5, 3) := by decide +kernel
theorem d_Y_readsPromise_9 : decode (mCd M_Y_readsPromise) 9 = .ok (.iconst 0, 1) := by decide +kernel
theorem d_Y_readsPromise_10 : decode (mCd M_Y_readsPromise) 10 = .ok (.ireturn, 1) := by decide +kernel
theorem d_Y_readsPromise_11 : decode (mCd M_Y_readsPromise) 11 = .ok (.aload_n 0, 1) := by decide +kernel
theorem d_Y_readsPromise_12 : decode (mCd M_Y_readsPromise) 12 = .ok (.iconst 0, 1) := by decide +kernel
theorem d_Y_readsPromise_13 : decode (mCd M_Y_readsPromise) 13 = .ok (.aload_n 0, 1) := by decide +kernel
theorem d_Y_readsPromise_14 : decode (mCd M_Y_readsPromise) 14 = .ok (.getfield 146, 3) := by decide +kernel
theorem d_Y_readsPromise_17 : decode (mCd M_Y_readsPromise) 17 = .ok (.iconst 1, 1) := by decide +kernel
theorem d_Y_readsPromise_18 : decode (mCd M_Y_readsPromise) 18 = .ok (.isub, 1) := by decide +kernel
theorem d_Y_readsPromise_19 : decode (mCd M_Y_readsPromise) 19 = .ok (.invokevirtual 195, 3) := by decide +kernel
theorem d_Y_readsPromise_22 : decode (mCd M_Y_readsPromise) 22 = .ok (.istore_n 1, 1) := by decide +kernel
theorem d_Y_readsPromise_23 : decode (mCd M_Y_readsPromise) 23 = .ok (.iload_n 1, 1) := by decide +kernel
theorem d_Y_readsPromise_24 : decode (mCd M_Y_readsPromise) 24 = .ok (.ifCond .lt 27, 3) := by decide +kernel
theorem d_Y_readsPromise_27 : decode (mCd M_Y_readsPromise) 27 = .ok (.aload_n 0, 1) := by decide +kernel
theorem d_Y_readsPromise_28 : decode (mCd M_Y_readsPromise) 28 = .ok (.aload_n 0, 1) := by decide +kernel
theorem d_Y_readsPromise_29 : decode (mCd M_Y_readsPromise) 29 = .ok (.getfield 51, 3) := by decide +kernel
theorem d_Y_readsPromise_32 : decode (mCd M_Y_readsPromise) 32 = .ok (.iload_n 1, 1) := by decide +kernel
theorem d_Y_readsPromise_33 : decode (mCd M_Y_readsPromise) 33 = .ok (.invokevirtual 229, 3) := by decide +kernel
theorem d_Y_readsPromise_36 : decode (mCd M_Y_readsPromise) 36 = .ok (.ifCond .ne 15, 3) := by decide +kernel
theorem d_Y_readsPromise_39 : decode (mCd M_Y_readsPromise) 39 = .ok (.aload_n 0, 1) := by decide +kernel
theorem d_Y_readsPromise_40 : decode (mCd M_Y_readsPromise) 40 = .ok (.dup, 1) := by decide +kernel
theorem d_Y_readsPromise_41 : decode (mCd M_Y_readsPromise) 41 = .ok (.getfield 158, 3) := by decide +kernel
theorem d_Y_readsPromise_44 : decode (mCd M_Y_readsPromise) 44 = .ok (.iconst 1, 1) := by decide +kernel
theorem d_Y_readsPromise_45 : decode (mCd M_Y_readsPromise) 45 = .ok (.isub, 1) := by decide +kernel
theorem d_Y_readsPromise_46 : decode (mCd M_Y_readsPromise) 46 = .ok (.putfield 158, 3) := by decide +kernel
theorem d_Y_readsPromise_49 : decode (mCd M_Y_readsPromise) 49 = .ok (.iconst (-1), 1) := by decide +kernel
theorem d_Y_readsPromise_50 : decode (mCd M_Y_readsPromise) 50 = .ok (.istore_n 1, 1) := by decide +kernel
theorem d_Y_readsPromise_51 : decode (mCd M_Y_readsPromise) 51 = .ok (.iload_n 1, 1) := by decide +kernel
theorem d_Y_readsPromise_52 : decode (mCd M_Y_readsPromise) 52 = .ok (.ifCond .ge 7, 3) := by decide +kernel
theorem d_Y_readsPromise_55 : decode (mCd M_Y_readsPromise) 55 = .ok (.iconst (-1), 1) := by decide +kernel
theorem d_Y_readsPromise_56 : decode (mCd M_Y_readsPromise) 56 = .ok (.goto 14, 3) := by decide +kernel
theorem d_Y_readsPromise_59 : decode (mCd M_Y_readsPromise) 59 = .ok (.aload_n 0, 1) := by decide +kernel
theorem d_Y_readsPromise_60 : decode (mCd M_Y_readsPromise) 60 = .ok (.iconst 0, 1) := by decide +kernel
theorem d_Y_readsPromise_61 : decode (mCd M_Y_readsPromise) 61 = .ok (.aload_n 0, 1) := by decide +kernel
theorem d_Y_readsPromise_62 : decode (mCd M_Y_readsPromise) 62 = .ok (.getfield 28, 3) := by decide +kernel
theorem d_Y_readsPromise_65 : decode (mCd M_Y_readsPromise) 65 = .ok (.iconst 1, 1) := by decide +kernel
theorem d_Y_readsPromise_66 : decode (mCd M_Y_readsPromise) 66 = .ok (.isub, 1) := by decide +kernel
theorem d_Y_readsPromise_67 : decode (mCd M_Y_readsPromise) 67 = .ok (.invokevirtual 195, 3) := by decide +kernel
theorem d_Y_readsPromise_70 : decode (mCd M_Y_readsPromise) 70 = .ok (.istore_n 2, 1) := by decide +kernel
theorem d_Y_readsPromise_71 : decode (mCd M_Y_readsPromise) 71 = .ok (.iload_n 2, 1) := by decide +kernel
theorem d_Y_readsPromise_72 : decode (mCd M_Y_readsPromise) 72 = .ok (.ifCond .ge 7, 3) := by decide +kernel
theorem d_Y_readsPromise_75 : decode (mCd M_Y_readsPromise) 75 = .ok (.iconst (-1), 1) := by decide +kernel
theorem d_Y_readsPromise_76 : decode (mCd M_Y_readsPromise) 76 = .ok (.goto 14, 3) := by decide +kernel
theorem d_Y_readsPromise_79 : decode (mCd M_Y_readsPromise) 79 = .ok (.aload_n 0, 1) := by decide +kernel
theorem d_Y_readsPromise_80 : decode (mCd M_Y_readsPromise) 80 = .ok (.iconst 0, 1) := by decide +kernel
theorem d_Y_readsPromise_81 : decode (mCd M_Y_readsPromise) 81 = .ok (.aload_n 0, 1) := by decide +kernel
theorem d_Y_readsPromise_82 : decode (mCd M_Y_readsPromise) 82 = .ok (.getfield 31, 3) := by decide +kernel
theorem d_Y_readsPromise_85 : decode (mCd M_Y_readsPromise) 85 = .ok (.iconst 1, 1) := by decide +kernel
theorem d_Y_readsPromise_86 : decode (mCd M_Y_readsPromise) 86 = .ok (.isub, 1) := by decide +kernel
theorem d_Y_readsPromise_87 : decode (mCd M_Y_readsPromise) 87 = .ok (.invokevirtual 195, 3) := by decide +kernel
theorem d_Y_readsPromise_90 : decode (mCd M_Y_readsPromise) 90 = .ok (.istore_n 3, 1) := by decide +kernel
theorem d_Y_readsPromise_91 : decode (mCd M_Y_readsPromise) 91 = .ok (.iload_n 3, 1) := by decide +kernel
theorem d_Y_readsPromise_92 : decode (mCd M_Y_readsPromise) 92 = .ok (.ifCond .ge 7, 3) := by decide +kernel
theorem d_Y_readsPromise_95 : decode (mCd M_Y_readsPromise) 95 = .ok (.iconst (-1), 1) := by decide +kernel
theorem d_Y_readsPromise_96 : decode (mCd M_Y_readsPromise) 96 = .ok (.goto 8, 3) := by decide +kernel
theorem d_Y_readsPromise_99 : decode (mCd M_Y_readsPromise) 99 = .ok (.aload_n 0, 1) := by decide +kernel
theorem d_Y_readsPromise_100 : decode (mCd M_Y_readsPromise) 100 = .ok (.iconst 1, 1) := by decide +kernel
theorem d_Y_readsPromise_101 : decode (mCd M_Y_readsPromise) 101 = .ok (.invokevirtual 233, 3) := by decide +kernel
theorem d_Y_readsPromise_104 : decode (mCd M_Y_readsPromise) 104 = .ok (.istore 4, 2) := by decide +kernel
theorem d_Y_readsPromise_106 : decode (mCd M_Y_readsPromise) 106 = .ok (.aload_n 0, 1) := by decide +kernel
theorem d_Y_readsPromise_107 : decode (mCd M_Y_readsPromise) 107 = .ok (.getfield 63, 3) := by decide +kernel
theorem d_Y_readsPromise_110 : decode (mCd M_Y_readsPromise) 110 = .ok (.iconst 3, 1) := by decide +kernel
theorem d_Y_readsPromise_111 : decode (mCd M_Y_readsPromise) 111 = .ok (.aload_n 0, 1) := by decide +kernel
theorem d_Y_readsPromise_112 : decode (mCd M_Y_readsPromise) 112 = .ok (.getfield 213, 3) := by decide +kernel
theorem d_Y_readsPromise_115 : decode (mCd M_Y_readsPromise) 115 = .ok (.imul, 1) := by decide +kernel
theorem d_Y_readsPromise_116 : decode (mCd M_Y_readsPromise) 116 = .ok (.iload_n 1, 1) := by decide +kernel
theorem d_Y_readsPromise_117 : decode (mCd M_Y_readsPromise) 117 = .ok (.iastore, 1) := by decide +kernel
theorem d_Y_readsPromise_118 : decode (mCd M_Y_readsPromise) 118 = .ok (.aload_n 0, 1) := by decide +kernel
theorem d_Y_readsPromise_119 : decode (mCd M_Y_readsPromise) 119 = .ok (.getfield 63, 3) := by decide +kernel
theorem d_Y_readsPromise_122 : decode (mCd M_Y_readsPromise) 122 = .ok (.iconst 3, 1) := by decide +kernel
theorem d_Y_readsPromise_123 : decode (mCd M_Y_readsPromise) 123 = .ok (.aload_n 0, 1) := by decide +kernel
theorem d_Y_readsPromise_124 : decode (mCd M_Y_readsPromise) 124 = .ok (.getfield 213, 3) := by decide +kernel
theorem d_Y_readsPromise_127 : decode (mCd M_Y_readsPromise) 127 = .ok (.imul, 1) := by decide +kernel
theorem d_Y_readsPromise_128 : decode (mCd M_Y_readsPromise) 128 = .ok (.iconst 1, 1) := by decide +kernel
theorem d_Y_readsPromise_129 : decode (mCd M_Y_readsPromise) 129 = .ok (.iadd, 1) := by decide +kernel
theorem d_Y_readsPromise_130 : decode (mCd M_Y_readsPromise) 130 = .ok (.aload_n 0, 1) := by decide +kernel
theorem d_Y_readsPromise_131 : decode (mCd M_Y_readsPromise) 131 = .ok (.getfield 31, 3) := by decide +kernel
theorem d_Y_readsPromise_134 : decode (mCd M_Y_readsPromise) 134 = .ok (.iload_n 2, 1) := by decide +kernel
theorem d_Y_readsPromise_135 : decode (mCd M_Y_readsPromise) 135 = .ok (.imul, 1) := by decide +kernel
theorem d_Y_readsPromise_136 : decode (mCd M_Y_readsPromise) 136 = .ok (.iload_n 3, 1) := by decide +kernel
theorem d_Y_readsPromise_137 : decode (mCd M_Y_readsPromise) 137 = .ok (.iadd, 1) := by decide +kernel
theorem d_Y_readsPromise_138 : decode (mCd M_Y_readsPromise) 138 = .ok (.iastore, 1) := by decide +kernel
theorem d_Y_readsPromise_139 : decode (mCd M_Y_readsPromise) 139 = .ok (.aload_n 0, 1) := by decide +kernel
theorem d_Y_readsPromise_140 : decode (mCd M_Y_readsPromise) 140 = .ok (.getfield 63, 3) := by decide +kernel
theorem d_Y_readsPromise_143 : decode (mCd M_Y_readsPromise) 143 = .ok (.iconst 3, 1) := by decide +kernel
theorem d_Y_readsPromise_144 : decode (mCd M_Y_readsPromise) 144 = .ok (.aload_n 0, 1) := by decide +kernel
theorem d_Y_readsPromise_145 : decode (mCd M_Y_readsPromise) 145 = .ok (.getfield 213, 3) := by decide +kernel
theorem d_Y_readsPromise_148 : decode (mCd M_Y_readsPromise) 148 = .ok (.imul, 1) := by decide +kernel
theorem d_Y_readsPromise_149 : decode (mCd M_Y_readsPromise) 149 = .ok (.iconst 2, 1) := by decide +kernel
theorem d_Y_readsPromise_150 : decode (mCd M_Y_readsPromise) 150 = .ok (.iadd, 1) := by decide +kernel
theorem d_Y_readsPromise_151 : decode (mCd M_Y_readsPromise) 151 = .ok (.iload 4, 2) := by decide +kernel
theorem d_Y_readsPromise_153 : decode (mCd M_Y_readsPromise) 153 = .ok (.iastore, 1) := by decide +kernel
theorem d_Y_readsPromise_154 : decode (mCd M_Y_readsPromise) 154 = .ok (.aload_n 0, 1) := by decide +kernel
theorem d_Y_readsPromise_155 : decode (mCd M_Y_readsPromise) 155 = .ok (.dup, 1) := by decide +kernel
theorem d_Y_readsPromise_156 : decode (mCd M_Y_readsPromise) 156 = .ok (.getfield 213, 3) := by decide +kernel
theorem d_Y_readsPromise_159 : decode (mCd M_Y_readsPromise) 159 = .ok (.iconst 1, 1) := by decide +kernel
theorem d_Y_readsPromise_160 : decode (mCd M_Y_readsPromise) 160 = .ok (.iadd, 1) := by decide +kernel
theorem d_Y_readsPromise_161 : decode (mCd M_Y_readsPromise) 161 = .ok (.putfield 213, 3) := by decide +kernel
theorem d_Y_readsPromise_164 : decode (mCd M_Y_readsPromise) 164 = .ok (.iload 4, 2) := by decide +kernel
theorem d_Y_readsPromise_166 : decode (mCd M_Y_readsPromise) 166 = .ok (.ifCond .lt 7, 3) := by decide +kernel
theorem d_Y_readsPromise_169 : decode (mCd M_Y_readsPromise) 169 = .ok (.iconst 1, 1) := by decide +kernel
theorem d_Y_readsPromise_170 : decode (mCd M_Y_readsPromise) 170 = .ok (.goto 4, 3) := by decide +kernel
theorem d_Y_readsPromise_173 : decode (mCd M_Y_readsPromise) 173 = .ok (.iconst 0, 1) := by decide +kernel
theorem d_Y_readsPromise_174 : decode (mCd M_Y_readsPromise) 174 = .ok (.ireturn, 1) := by decide +kernel
theorem d_Y_oar_0 : decode (mCd M_Y_oar) 0 = .ok (.aload_n 0, 1) := by decide +kernel
theorem d_Y_oar_1 : decode (mCd M_Y_oar) 1 = .ok (.iconst 0, 1) := by decide +kernel
theorem d_Y_oar_2 : decode (mCd M_Y_oar) 2 = .ok (.putfield 3, 3) := by decide +kernel
theorem d_Y_oar_5 : decode (mCd M_Y_oar) 5 = .ok (.aload_n 0, 1) := by decide +kernel
theorem d_Y_oar_6 : decode (mCd M_Y_oar) 6 = .ok (.bipush 80, 2) := by decide +kernel
theorem d_Y_oar_8 : decode (mCd M_Y_oar) 8 = .ok (.invokevirtual 192, 3) := by decide +kernel
theorem d_Y_oar_11 : decode (mCd M_Y_oar) 11 = .ok (.istore_n 1, 1) := by decide +kernel
theorem d_Y_oar_12 : decode (mCd M_Y_oar) 12 = .ok (.aload_n 0, 1) := by decide +kernel
theorem d_Y_oar_13 : decode (mCd M_Y_oar) 13 = .ok (.iconst 0, 1) := by decide +kernel
theorem d_Y_oar_14 : decode (mCd M_Y_oar) 14 = .ok (.putfield 213, 3) := by decide +kernel
theorem d_Y_oar_17 : decode (mCd M_Y_oar) 17 = .ok (.iconst 1, 1) := by decide +kernel
theorem d_Y_oar_18 : decode (mCd M_Y_oar) 18 = .ok (.istore_n 2, 1) := by decide +kernel
theorem d_Y_oar_19 : decode (mCd M_Y_oar) 19 = .ok (.iload_n 1, 1) := by decide +kernel
theorem d_Y_oar_20 : decode (mCd M_Y_oar) 20 = .ok (.ifCond .le 7, 3) := by decide +kernel
theorem d_Y_oar_23 : decode (mCd M_Y_oar) 23 = .ok (.iconst 1, 1) := by decide +kernel
theorem d_Y_oar_24 : decode (mCd M_Y_oar) 24 = .ok (.goto 4, 3) := by decide +kernel
theorem d_Y_oar_27 : decode (mCd M_Y_oar) 27 = .ok (.iconst 0, 1) := by decide +kernel
theorem d_Y_oar_28 : decode (mCd M_Y_oar) 28 = .ok (.istore_n 3, 1) := by decide +kernel
theorem d_Y_oar_29 : decode (mCd M_Y_oar) 29 = .ok (.iload_n 3, 1) := by decide +kernel
theorem d_Y_oar_30 : decode (mCd M_Y_oar) 30 = .ok (.ifCond .eq 30, 3) := by decide +kernel
theorem d_Y_oar_33 : decode (mCd M_Y_oar) 33 = .ok (.aload_n 0, 1) := by decide +kernel
theorem d_Y_oar_34 : decode (mCd M_Y_oar) 34 = .ok (.invokevirtual 236, 3) := by decide +kernel
theorem d_Y_oar_37 : decode (mCd M_Y_oar) 37 = .ok (.istore_n 2, 1) := by decide +kernel
theorem d_Y_oar_38 : decode (mCd M_Y_oar) 38 = .ok (.iload_n 2, 1) := by decide +kernel
theorem d_Y_oar_39 : decode (mCd M_Y_oar) 39 = .ok (.ifCond .eq 16, 3) := by decide +kernel
theorem d_Y_oar_42 : decode (mCd M_Y_oar) 42 = .ok (.aload_n 0, 1) := by decide +kernel
theorem d_Y_oar_43 : decode (mCd M_Y_oar) 43 = .ok (.bipush 59, 2) := by decide +kernel
theorem d_Y_oar_45 : decode (mCd M_Y_oar) 45 = .ok (.invokevirtual 221, 3) := by decide +kernel
theorem d_Y_oar_48 : decode (mCd M_Y_oar) 48 = .ok (.ifCond .eq 7, 3) := by decide +kernel
theorem d_Y_oar_51 : decode (mCd M_Y_oar) 51 = .ok (.iconst 1, 1) := by decide +kernel
theorem d_Y_oar_52 : decode (mCd M_Y_oar) 52 = .ok (.goto 4, 3) := by decide +kernel
theorem d_Y_oar_55 : decode (mCd M_Y_oar) 55 = .ok (.iconst 0, 1) := by decide +kernel
theorem d_Y_oar_56 : decode (mCd M_Y_oar) 56 = .ok (.istore_n 3, 1) := by decide +kernel
theorem d_Y_oar_57 : decode (mCd M_Y_oar) 57 = .ok (.goto (-28), 3) := by decide +kernel
theorem d_Y_oar_60 : decode (mCd M_Y_oar) 60 = .ok (.iload_n 2, 1) := by decide +kernel
theorem d_Y_oar_61 : decode (mCd M_Y_oar) 61 = .ok (.ifCond .eq 14, 3) := by decide +kernel
theorem d_Y_oar_64 : decode (mCd M_Y_oar) 64 = .ok (.aload_n 0, 1) := by decide +kernel
theorem d_Y_oar_65 : decode (mCd M_Y_oar) 65 = .ok (.getfield 158, 3) := by decide +kernel
theorem d_Y_oar_68 : decode (mCd M_Y_oar) 68 = .ok (.aload_n 0, 1) := by decide +kernel
theorem d_Y_oar_69 : decode (mCd M_Y_oar) 69 = .ok (.getfield 168, 3) := by decide +kernel
theorem d_Y_oar_72 : decode (mCd M_Y_oar) 72 = .ok (.if_icmp .ge 10, 3) := by decide +kernel
theorem d_Y_oar_75 : decode (mCd M_Y_oar) 75 = .ok (.iconst (-1), 1) := by decide +kernel
theorem d_Y_oar_76 : decode (mCd M_Y_oar) 76 = .ok (.aload_n 0, 1) := by decide +kernel
theorem d_Y_oar_77 : decode (mCd M_Y_oar) 77 = .ok (.getfield 158, 3) := by decide +kernel
theorem d_Y_oar_80 : decode (mCd M_Y_oar) 80 = .ok (.isub, 1) := by decide +kernel
theorem d_Y_oar_81 : decode (mCd M_Y_oar) 81 = .ok (.ireturn, 1) := by decide +kernel
theorem d_Y_oar_82 : decode (mCd M_Y_oar) 82 = .ok (.aload_n 0, 1) := by decide +kernel
theorem d_Y_oar_83 : decode (mCd M_Y_oar) 83 = .ok (.getfield 213, 3) := by decide +kernel
theorem d_Y_oar_86 : decode (mCd M_Y_oar) 86 = .ok (.ifCond .le 87, 3) := by decide +kernel
theorem d_Y_oar_89 : decode (mCd M_Y_oar) 89 = .ok (.aload_n 0, 1) := by decide +kernel
theorem d_Y_oar_90 : decode (mCd M_Y_oar) 90 = .ok (.invokevirtual 239, 3) := by decide +kernel
theorem d_Y_oar_93 : decode (mCd M_Y_oar) 93 = .ok (.iconst 0, 1) := by decide +kernel
theorem d_Y_oar_94 : decode (mCd M_Y_oar) 94 = .ok (.istore 4, 2) := by decide +kernel
theorem d_Y_oar_96 : decode (mCd M_Y_oar) 96 = .ok (.iload 4, 2) := by decide +kernel
theorem d_Y_oar_98 : decode (mCd M_Y_oar) 98 = .ok (.aload_n 0, 1) := by decide +kernel
theorem d_Y_oar_99 : decode (mCd M_Y_oar) 99 = .ok (.getfield 213, 3) := by decide +kernel
theorem d_Y_oar_102 : decode (mCd M_Y_oar) 102 = .ok (.if_icmp .ge 65, 3) := by decide +kernel
theorem d_Y_oar_105 : decode (mCd M_Y_oar) 105 = .ok (.aload_n 0, 1) := by decide +kernel
theorem d_Y_oar_106 : decode (mCd M_Y_oar) 106 = .ok (.getfield 51, 3) := by decide +kernel
theorem d_Y_oar_109 : decode (mCd M_Y_oar) 109 = .ok (.bipush 17, 2) := by decide +kernel
theorem d_Y_oar_111 : decode (mCd M_Y_oar) 111 = .ok (.aload_n 0, 1) := by decide +kernel
theorem d_Y_oar_112 : decode (mCd M_Y_oar) 112 = .ok (.getfield 63, 3) := by decide +kernel
theorem d_Y_oar_115 : decode (mCd M_Y_oar) 115 = .ok (.iconst 3, 1) := by decide +kernel
theorem d_Y_oar_116 : decode (mCd M_Y_oar) 116 = .ok (.iload 4, 2) := by decide +kernel
theorem d_Y_oar_118 : decode (mCd M_Y_oar) 118 = .ok (.imul, 1) := by decide +kernel
theorem d_Y_oar_119 : decode (mCd M_Y_oar) 119 = .ok (.iaload, 1) := by decide +kernel
theorem d_Y_oar_120 : decode (mCd M_Y_oar) 120 = .ok (.iadd, 1) := by decide +kernel
theorem d_Y_oar_121 : decode (mCd M_Y_oar) 121 = .ok (.aload_n 0, 1) := by decide +kernel
theorem d_Y_oar_122 : decode (mCd M_Y_oar) 122 = .ok (.getfield 63, 3) := by decide +kernel
theorem d_Y_oar_125 : decode (mCd M_Y_oar) 125 = .ok (.iconst 3, 1) := by decide +kernel
theorem d_Y_oar_126 : decode (mCd M_Y_oar) 126 = .ok (.iload 4, 2) := by decide +kernel
theorem d_Y_oar_128 : decode (mCd M_Y_oar) 128 = .ok (.imul, 1) := by decide +kernel
theorem d_Y_oar_129 : decode (mCd M_Y_oar) 129 = .ok (.iconst 1, 1) := by decide +kernel
theorem d_Y_oar_130 : decode (mCd M_Y_oar) 130 = .ok (.iadd, 1) := by decide +kernel
theorem d_Y_oar_131 : decode (mCd M_Y_oar) 131 = .ok (.iaload, 1) := by decide +kernel
theorem d_Y_oar_132 : decode (mCd M_Y_oar) 132 = .ok (.iastore, 1) := by decide +kernel
theorem d_Y_oar_133 : decode (mCd M_Y_oar) 133 = .ok (.aload_n 0, 1) := by decide +kernel
theorem d_Y_oar_134 : decode (mCd M_Y_oar) 134 = .ok (.getfield 51, 3) := by decide +kernel
theorem d_Y_oar_137 : decode (mCd M_Y_oar) 137 = .ok (.bipush 25, 2) := by decide +kernel
theorem d_Y_oar_139 : decode (mCd M_Y_oar) 139 = .ok (.aload_n 0, 1) := by decide +kernel
theorem d_Y_oar_140 : decode (mCd M_Y_oar) 140 = .ok (.getfield 63, 3) := by decide +kernel
theorem d_Y_oar_143 : decode (mCd M_Y_oar) 143 = .ok (.iconst 3, 1) := by decide +kernel
theorem d_Y_oar_144 : decode (mCd M_Y_oar) 144 = .ok (.iload 4, 2) := by decide +kernel
theorem d_Y_oar_146 : decode (mCd M_Y_oar) 146 = .ok (.imul, 1) := by decide +kernel
theorem d_Y_oar_147 : decode (mCd M_Y_oar) 147 = .ok (.iaload, 1) := by decide +kernel
theorem d_Y_oar_148 : decode (mCd M_Y_oar) 148 = .ok (.iadd, 1) := by decide +kernel
theorem d_Y_oar_149 : decode (mCd M_Y_oar) 149 = .ok (.aload_n 0, 1) := by decide +kernel
theorem d_Y_oar_150 : decode (mCd M_Y_oar) 150 = .ok (.getfield 63, 3) := by decide +kernel
theorem d_Y_oar_153 : decode (mCd M_Y_oar) 153 = .ok (.iconst 3, 1) := by decide +kernel
theorem d_Y_oar_154 : decode (mCd M_Y_oar) 154 = .ok (.iload 4, 2) := by decide +kernel
theorem d_Y_oar_156 : decode (mCd M_Y_oar) 156 = .ok (.imul, 1) := by decide +kernel
theorem d_Y_oar_157 : decode (mCd M_Y_oar) 157 = .ok (.iconst 2, 1) := by decide +kernel
theorem d_Y_oar_158 : decode (mCd M_Y_oar) 158 = .ok (.iadd, 1) := by decide +kernel
theorem d_Y_oar_159 : decode (mCd M_Y_oar) 159 = .ok (.iaload, 1) := by decide +kernel
theorem d_Y_oar_160 : decode (mCd M_Y_oar) 160 = .ok (.iastore, 1) := by decide +kernel
theorem d_Y_oar_161 : decode (mCd M_Y_oar) 161 = .ok (.iinc 4 1, 3) := by decide +kernel
theorem d_Y_oar_164 : decode (mCd M_Y_oar) 164 = .ok (.goto (-68), 3) := by decide +kernel
theorem d_Y_oar_167 : decode (mCd M_Y_oar) 167 = .ok (.aload_n 0, 1) := by decide +kernel
theorem d_Y_oar_168 : decode (mCd M_Y_oar) 168 = .ok (.iconst 0, 1) := by decide +kernel
theorem d_Y_oar_169 : decode (mCd M_Y_oar) 169 = .ok (.invokevirtual 242, 3) := by decide +kernel
theorem d_Y_oar_172 : decode (mCd M_Y_oar) 172 = .ok (.pop, 1) := by decide +kernel
theorem d_Y_oar_173 : decode (mCd M_Y_oar) 173 = .ok (.aload_n 0, 1) := by decide +kernel
theorem d_Y_oar_174 : decode (mCd M_Y_oar) 174 = .ok (.getfield 213, 3) := by decide +kernel
theorem d_Y_oar_177 : decode (mCd M_Y_oar) 177 = .ok (.ireturn, 1) := by decide +kernel
theorem d_Y_fog_0 : decode (mCd M_Y_fog) 0 = .ok (.aload_n 0, 1) := by decide +kernel
theorem d_Y_fog_1 : decode (mCd M_Y_fog) 1 = .ok (.iconst 0, 1) := by decide +kernel
theorem d_Y_fog_2 : decode (mCd M_Y_fog) 2 = .ok (.putfield 3, 3) := by decide +kernel
theorem d_Y_fog_5 : decode (mCd M_Y_fog) 5 = .ok (.aload_n 0, 1) := by decide +kernel
theorem d_Y_fog_6 : decode (mCd M_Y_fog) 6 = .ok (.bipush 80, 2) := by decide +kernel
theorem d_Y_fog_8 : decode (mCd M_Y_fog) 8 = .ok (.invokevirtual 192, 3) := by decide +kernel
theorem d_Y_fog_11 : decode (mCd M_Y_fog) 11 = .ok (.pop, 1) := by decide +kernel
theorem d_Y_fog_12 : decode (mCd M_Y_fog) 12 = .ok (.iconst 0, 1) := by decide +kernel
theorem d_Y_fog_13 : decode (mCd M_Y_fog) 13 = .ok (.istore_n 1, 1) := by decide +kernel
theorem d_Y_fog_14 : decode (mCd M_Y_fog) 14 = .ok (.iload_n 1, 1) := by decide +kernel
theorem d_Y_fog_15 : decode (mCd M_Y_fog) 15 = .ok (.bipush 20, 2) := by decide +kernel
theorem d_Y_fog_17 : decode (mCd M_Y_fog) 17 = .ok (.if_icmp .ge 27, 3) := by decide +kernel
theorem d_Y_fog_20 : decode (mCd M_Y_fog) 20 = .ok (.aload_n 0, 1) := by decide +kernel
theorem d_Y_fog_21 : decode (mCd M_Y_fog) 21 = .ok (.invokevirtual 188, 3) := by decide +kernel
theorem d_Y_fog_24 : decode (mCd M_Y_fog) 24 = .ok (.ifCond .eq 20, 3) := by decide +kernel
theorem d_Y_fog_27 : decode (mCd M_Y_fog) 27 = .ok (.aload_n 0, 1) := by decide +kernel
theorem d_Y_fog_28 : decode (mCd M_Y_fog) 28 = .ok (.getfield 63, 3) := by decide +kernel
theorem d_Y_fog_31 : decode (mCd M_Y_fog) 31 = .ok (.iload_n 1, 1) := by decide +kernel
theorem d_Y_fog_32 : decode (mCd M_Y_fog) 32 = .ok (.aload_n 0, 1) := by decide +kernel
theorem d_Y_fog_33 : decode (mCd M_Y_fog) 33 = .ok (.iconst 1, 1) := by decide +kernel
theorem d_Y_fog_34 : decode (mCd M_Y_fog) 34 = .ok (.invokevirtual 233, 3) := by decide +kernel
theorem d_Y_fog_37 : decode (mCd M_Y_fog) 37 = .ok (.iastore, 1) := by decide +kernel
theorem d_Y_fog_38 : decode (mCd M_Y_fog) 38 = .ok (.iinc 1 1, 3) := by decide +kernel
theorem d_Y_fog_41 : decode (mCd M_Y_fog) 41 = .ok (.goto (-27), 3) := by decide +kernel
theorem d_Y_fog_44 : decode (mCd M_Y_fog) 44 = .ok (.iload_n 1, 1) := by decide +kernel
theorem d_Y_fog_45 : decode (mCd M_Y_fog) 45 = .ok (.ifCond .eq 14, 3) := by decide +kernel
theorem d_Y_fog_48 : decode (mCd M_Y_fog) 48 = .ok (.aload_n 0, 1) := by decide +kernel
theorem d_Y_fog_49 : decode (mCd M_Y_fog) 49 = .ok (.getfield 158, 3) := by decide +kernel
theorem d_Y_fog_52 : decode (mCd M_Y_fog) 52 = .ok (.aload_n 0, 1) := by decide +kernel
theorem d_Y_fog_53 : decode (mCd M_Y_fog) 53 = .ok (.getfield 168, 3) := by decide +kernel
theorem d_Y_fog_56 : decode (mCd M_Y_fog) 56 = .ok (.if_icmp .ge 10, 3) := by decide +kernel
theorem d_Y_fog_59 : decode (mCd M_Y_fog) 59 = .ok (.iconst (-1), 1) := by decide +kernel
theorem d_Y_fog_60 : decode (mCd M_Y_fog) 60 = .ok (.aload_n 0, 1) := by decide +kernel
theorem d_Y_fog_61 : decode (mCd M_Y_fog) 61 = .ok (.getfield 158, 3) := by decide +kernel
theorem d_Y_fog_64 : decode (mCd M_Y_fog) 64 = .ok (.isub, 1) := by decide +kernel
theorem d_Y_fog_65 : decode (mCd M_Y_fog) 65 = .ok (.ireturn, 1) := by decide +kernel
theorem d_Y_fog_66 : decode (mCd M_Y_fog) 66 = .ok (.aload_n 0, 1) := by decide +kernel
theorem d_Y_fog_67 : decode (mCd M_Y_fog) 67 = .ok (.iload_n 1, 1) := by decide +kernel
theorem d_Y_fog_68 : decode (mCd M_Y_fog) 68 = .ok (.putfield 34, 3) := by decide +kernel
theorem d_Y_fog_71 : decode (mCd M_Y_fog) 71 = .ok (.iconst 0, 1) := by decide +kernel
theorem d_Y_fog_72 : decode (mCd M_Y_fog) 72 = .ok (.istore_n 2, 1) := by decide +kernel
theorem d_Y_fog_73 : decode (mCd M_Y_fog) 73 = .ok (.iload_n 2, 1) := by decide +kernel
theorem d_Y_fog_74 : decode (mCd M_Y_fog) 74 = .ok (.iload_n 1, 1) := by decide +kernel
theorem d_Y_fog_75 : decode (mCd M_Y_fog) 75 = .ok (.if_icmp .ge 21, 3) := by decide +kernel
theorem d_Y_fog_78 : decode (mCd M_Y_fog) 78 = .ok (.aload_n 0, 1) := by decide +kernel
theorem d_Y_fog_79 : decode (mCd M_Y_fog) 79 = .ok (.getfield 41, 3) := by decide +kernel
theorem d_Y_fog_82 : decode (mCd M_Y_fog) 82 = .ok (.iload_n 2, 1) := by decide +kernel
theorem d_Y_fog_83 : decode (mCd M_Y_fog) 83 = .ok (.aload_n 0, 1) := by decide +kernel
theorem d_Y_fog_84 : decode (mCd M_Y_fog) 84 = .ok (.getfield 63, 3) := by decide +kernel
theorem d_Y_fog_87 : decode (mCd M_Y_fog) 87 = .ok (.iload_n 2, 1) := by decide +kernel
theorem d_Y_fog_88 : decode (mCd M_Y_fog) 88 = .ok (.iaload, 1) := by decide +kernel
theorem d_Y_fog_89 : decode (mCd M_Y_fog) 89 = .ok (.iastore, 1) := by decide +kernel
theorem d_Y_fog_90 : decode (mCd M_Y_fog) 90 = .ok (.iinc 2 1, 3) := by decide +kernel
theorem d_Y_fog_93 : decode (mCd M_Y_fog) 93 = .ok (.goto (-20), 3) := by decide +kernel
theorem d_Y_fog_96 : decode (mCd M_Y_fog) 96 = .ok (.iload_n 1, 1) := by decide +kernel
theorem d_Y_fog_97 : decode (mCd M_Y_fog) 97 = .ok (.ireturn, 1) := by decide +kernel
theorem d_Y_fogOn_0 : decode (mCd M_Y_fogOn) 0 = .ok (.aload_n 0, 1) := by decide +kernel
theorem d_Y_fogOn_1 : decode (mCd M_Y_fogOn) 1 = .ok (.getfield 41, 3) := by decide +kernel
theorem d_Y_fogOn_4 : decode (mCd M_Y_fogOn) 4 = .ok (.iload_n 1, 1) := by decide +kernel
theorem d_Y_fogOn_5 : decode (mCd M_Y_fogOn) 5 = .ok (.aload_n 0, 1) := by decide +kernel
theorem d_Y_fogOn_6 : decode (mCd M_Y_fogOn) 6 = .ok (.getfield 34, 3) := by decide +kernel
theorem d_Y_fogOn_9 : decode (mCd M_Y_fogOn) 9 = .ok (.irem, 1) := by decide +kernel
theorem d_Y_fogOn_10 : decode (mCd M_Y_fogOn) 10 = .ok (.iaload, 1) := by decide +kernel
theorem d_Y_fogOn_11 : decode (mCd M_Y_fogOn) 11 = .ok (.ireturn, 1) := by decide +kernel
theorem d_Y_codes_0 : decode (mCd M_Y_codes) 0 = .ok (.aload_n 0, 1) := by decide +kernel
theorem d_Y_codes_1 : decode (mCd M_Y_codes) 1 = .ok (.getfield 69, 3) := by decide +kernel
theorem d_Y_codes_4 : decode (mCd M_Y_codes) 4 = .ok (.aload_n 0, 1) := by decide +kernel
theorem d_Y_codes_5 : decode (mCd M_Y_codes) 5 = .ok (.getfield 245, 3) := by decide +kernel
theorem d_Y_codes_8 : decode (mCd M_Y_codes) 8 = .ok (.iload_n 1, 1) := by decide +kernel
theorem d_Y_codes_9 : decode (mCd M_Y_codes) 9 = .ok (.iastore, 1) := by decide +kernel
theorem d_Y_codes_10 : decode (mCd M_Y_codes) 10 = .ok (.aload_n 0, 1) := by decide +kernel
theorem d_Y_codes_11 : decode (mCd M_Y_codes) 11 = .ok (.dup, 1) := by decide +kernel
theorem d_Y_codes_12 : decode (mCd M_Y_codes) 12 = .ok (.getfield 245, 3) := by decide +kernel
theorem d_Y_codes_15 : decode (mCd M_Y_codes) 15 = .ok (.iconst 1, 1) := by decide +kernel
theorem d_Y_codes_16 : decode (mCd M_Y_codes) 16 = .ok (.iadd, 1) := by decide +kernel
theorem d_Y_codes_17 : decode (mCd M_Y_codes) 17 = .ok (.putfield 245, 3) := by decide +kernel
theorem d_Y_codes_20 : decode (mCd M_Y_codes) 20 = .ok (.return_, 1) := by decide +kernel
theorem d_Y_readsThing_0 : decode (mCd M_Y_readsThing) 0 = .ok (.aload_n 0, 1) := by decide +kernel
theorem d_Y_readsThing_1 : decode (mCd M_Y_readsThing) 1 = .ok (.bipush 45, 2) := by decide +kernel
theorem d_Y_readsThing_3 : decode (mCd M_Y_readsThing) 3 = .ok (.invokevirtual 221, 3) := by decide +kernel
theorem d_Y_readsThing_6 : decode (mCd M_Y_readsThing) 6 = .ok (.ifCond .eq 17, 3) := by decide +kernel
theorem d_Y_readsThing_9 : decode (mCd M_Y_readsThing) 9 = .ok (.aload_n 0, 1) := by decide +kernel
theorem d_Y_readsThing_10 : decode (mCd M_Y_readsThing) 10 = .ok (.invokevirtual 248, 3) := by decide +kernel
theorem d_Y_readsThing_13 : decode (mCd M_Y_readsThing) 13 = .ok (.istore_n 1, 1) := by decide +kernel
theorem d_Y_readsThing_14 : decode (mCd M_Y_readsThing) 14 = .ok (.aload_n 0, 1) := by decide +kernel
theorem d_Y_readsThing_15 : decode (mCd M_Y_readsThing) 15 = .ok (.sipush 3000, 3) := by decide +kernel
theorem d_Y_readsThing_18 : decode (mCd M_Y_readsThing) 18 = .ok (.invokevirtual 251, 3) := by decide +kernel
theorem d_Y_readsThing_21 : decode (mCd M_Y_readsThing) 21 = .ok (.iload_n 1, 1) := by decide +kernel
theorem d_Y_readsThing_22 : decode (mCd M_Y_readsThing) 22 = .ok (.ireturn, 1) := by decide +kernel
theorem d_Y_readsThing_23 : decode (mCd M_Y_readsThing) 23 = .ok (.aload_n 0, 1) := by decide +kernel
theorem d_Y_readsThing_24 : decode (mCd M_Y_readsThing) 24 = .ok (.invokevirtual 188, 3) := by decide +kernel
theorem d_Y_readsThing_27 : decode (mCd M_Y_readsThing) 27 = .ok (.ifCond .eq 14, 3) := by decide +kernel
theorem d_Y_readsThing_30 : decode (mCd M_Y_readsThing) 30 = .ok (.aload_n 0, 1) := by decide +kernel
theorem d_Y_readsThing_31 : decode (mCd M_Y_readsThing) 31 = .ok (.aload_n 0, 1) := by decide +kernel
theorem d_Y_readsThing_32 : decode (mCd M_Y_readsThing) 32 = .ok (.iconst 3, 1) := by decide +kernel
theorem d_Y_readsThing_33 : decode (mCd M_Y_readsThing) 33 = .ok (.invokevirtual 233, 3) := by decide +kernel
theorem d_Y_readsThing_36 : decode (mCd M_Y_readsThing) 36 = .ok (.invokevirtual 251, 3) := by decide +kernel
theorem d_Y_readsThing_39 : decode (mCd M_Y_readsThing) 39 = .ok (.iconst 1, 1) := by decide +kernel
theorem d_Y_readsThing_40 : decode (mCd M_Y_readsThing) 40 = .ok (.ireturn, 1) := by decide +kernel
theorem d_Y_readsThing_41 : decode (mCd M_Y_readsThing) 41 = .ok (.aload_n 0, 1) := by decide +kernel
theorem d_Y_readsThing_42 : decode (mCd M_Y_readsThing) 42 = .ok (.ldc 255, 2) := by decide +kernel
theorem d_Y_readsThing_44 : decode (mCd M_Y_readsThing) 44 = .ok (.invokevirtual 200, 3) := by decide +kernel
theorem d_Y_readsThing_47 : decode (mCd M_Y_readsThing) 47 = .ok (.istore_n 1, 1) := by decide +kernel
theorem d_Y_readsThing_48 : decode (mCd M_Y_readsThing) 48 = .ok (.iload_n 1, 1) := by decide +kernel
theorem d_Y_readsThing_49 : decode (mCd M_Y_readsThing) 49 = .ok (.ifCond .lt 14, 3) := by decide +kernel
theorem d_Y_readsThing_52 : decode (mCd M_Y_readsThing) 52 = .ok (.aload_n 0, 1) := by decide +kernel
theorem d_Y_readsThing_53 : decode (mCd M_Y_readsThing) 53 = .ok (.sipush 1000, 3) := by decide +kernel
theorem d_Y_readsThing_56 : decode (mCd M_Y_readsThing) 56 = .ok (.iload_n 1, 1) := by decide +kernel
theorem d_Y_readsThing_57 : decode (mCd M_Y_readsThing) 57 = .ok (.iadd, 1) := by decide +kernel
theorem d_Y_readsThing_58 : decode (mCd M_Y_readsThing) 58 = .ok (.invokevirtual 251, 3) := by decide +kernel
theorem d_Y_readsThing_61 : decode (mCd M_Y_readsThing) 61 = .ok (.iconst 1, 1) := by decide +kernel
theorem d_Y_readsThing_62 : decode (mCd M_Y_readsThing) 62 = .ok (.ireturn, 1) := by decide +kernel
theorem d_Y_readsThing_63 : decode (mCd M_Y_readsThing) 63 = .ok (.aload_n 0, 1) := by decide +kernel
theorem d_Y_readsThing_64 : decode (mCd M_Y_readsThing) 64 = .ok (.getfield 161, 3) := by decide +kernel
theorem d_Y_readsThing_67 : decode (mCd M_Y_readsThing) 67 = .ok (.iconst 4, 1) := by decide +kernel
theorem d_Y_readsThing_68 : decode (mCd M_Y_readsThing) 68 = .ok (.if_icmp .eq 12, 3) := by decide +kernel
theorem d_Y_readsThing_71 : decode (mCd M_Y_readsThing) 71 = .ok (.aload_n 0, 1) := by decide +kernel
theorem d_Y_readsThing_72 : decode (mCd M_Y_readsThing) 72 = .ok (.bipush 40, 2) := by decide +kernel
theorem d_Y_readsThing_74 : decode (mCd M_Y_readsThing) 74 = .ok (.invokevirtual 221, 3) := by decide +kernel
theorem d_Y_readsThing_77 : decode (mCd M_Y_readsThing) 77 = .ok (.ifCond .ne 5, 3) := by decide +kernel
theorem d_Y_readsThing_80 : decode (mCd M_Y_readsThing) 80 = .ok (.iconst 0, 1) := by decide +kernel
theorem d_Y_readsThing_81 : decode (mCd M_Y_readsThing) 81 = .ok (.ireturn, 1) := by decide +kernel
theorem d_Y_readsThing_82 : decode (mCd M_Y_readsThing) 82 = .ok (.aload_n 0, 1) := by decide +kernel
theorem d_Y_readsThing_83 : decode (mCd M_Y_readsThing) 83 = .ok (.dup, 1) := by decide +kernel
theorem d_Y_readsThing_84 : decode (mCd M_Y_readsThing) 84 = .ok (.getfield 161, 3) := by decide +kernel
theorem d_Y_readsThing_87 : decode (mCd M_Y_readsThing) 87 = .ok (.iconst 1, 1) := by decide +kernel
theorem d_Y_readsThing_88 : decode (mCd M_Y_readsThing) 88 = .ok (.iadd, 1) := by decide +kernel
theorem d_Y_readsThing_89 : decode (mCd M_Y_readsThing) 89 = .ok (.putfield 161, 3) := by decide +kernel
theorem d_Y_readsThing_92 : decode (mCd M_Y_readsThing) 92 = .ok (.aload_n 0, 1) := by decide +kernel
theorem d_Y_readsThing_93 : decode (mCd M_Y_readsThing) 93 = .ok (.iconst 0, 1) := by decide +kernel
theorem d_Y_readsThing_94 : decode (mCd M_Y_readsThing) 94 = .ok (.invokevirtual 257, 3) := by decide +kernel
theorem d_Y_readsThing_97 : decode (mCd M_Y_readsThing) 97 = .ok (.ifCond .eq 12, 3) := by decide +kernel
theorem d_Y_readsThing_100 : decode (mCd M_Y_readsThing) 100 = .ok (.aload_n 0, 1) := by decide +kernel
theorem d_Y_readsThing_101 : decode (mCd M_Y_readsThing) 101 = .ok (.bipush 41, 2) := by decide +kernel
theorem d_Y_readsThing_103 : decode (mCd M_Y_readsThing) 103 = .ok (.invokevirtual 221, 3) := by decide +kernel
theorem d_Y_readsThing_106 : decode (mCd M_Y_readsThing) 106 = .ok (.ifCond .ne 5, 3) := by decide +kernel
theorem d_Y_readsThing_109 : decode (mCd M_Y_readsThing) 109 = .ok (.iconst 0, 1) := by decide +kernel
theorem d_Y_readsThing_110 : decode (mCd M_Y_readsThing) 110 = .ok (.ireturn, 1) := by decide +kernel
theorem d_Y_readsThing_111 : decode (mCd M_Y_readsThing) 111 = .ok (.aload_n 0, 1) := by decide +kernel
theorem d_Y_readsThing_112 : decode (mCd M_Y_readsThing) 112 = .ok (.dup, 1) := by decide +kernel
theorem d_Y_readsThing_113 : decode (mCd M_Y_readsThing) 113 = .ok (.getfield 161, 3) := by decide +kernel
theorem d_Y_readsThing_116 : decode (mCd M_Y_readsThing) 116 = .ok (.iconst 1, 1) := by decide +kernel
theorem d_Y_readsThing_117 : decode (mCd M_Y_readsThing) 117 = .ok (.isub, 1) := by decide +kernel
theorem d_Y_readsThing_118 : decode (mCd M_Y_readsThing) 118 = .ok (.putfield 161, 3) := by decide +kernel
theorem d_Y_readsThing_121 : decode (mCd M_Y_readsThing) 121 = .ok (.iconst 1, 1) := by decide +kernel
theorem d_Y_readsThing_122 : decode (mCd M_Y_readsThing) 122 = .ok (.ireturn, 1) := by decide +kernel
theorem d_Y_readsRank_0 : decode (mCd M_Y_readsRank) 0 = .ok (.iload_n 1, 1) := by decide +kernel
theorem d_Y_readsRank_1 : decode (mCd M_Y_readsRank) 1 = .ok (.iconst 3, 1) := by decide +kernel
theorem d_Y_readsRank_2 : decode (mCd M_Y_readsRank) 2 = .ok (.if_icmp .ne 8, 3) := by decide +kernel
theorem d_Y_readsRank_5 : decode (mCd M_Y_readsRank) 5 = .ok (.aload_n 0, 1) := by decide +kernel
theorem d_Y_readsRank_6 : decode (mCd M_Y_readsRank) 6 = .ok (.invokevirtual 248, 3) := by decide +kernel
theorem d_Y_readsRank_9 : decode (mCd M_Y_readsRank) 9 = .ok (.ireturn, 1) := by decide +kernel
theorem d_Y_readsRank_10 : decode (mCd M_Y_readsRank) 10 = .ok (.aload_n 0, 1) := by decide +kernel
theorem d_Y_readsRank_11 : decode (mCd M_Y_readsRank) 11 = .ok (.iload_n 1, 1) := by decide +kernel
theorem d_Y_readsRank_12 : decode (mCd M_Y_readsRank) 12 = .ok (.iconst 1, 1) := by decide +kernel
theorem d_Y_readsRank_13 : decode (mCd M_Y_readsRank) 13 = .ok (.iadd, 1) := by decide +kernel
theorem d_Y_readsRank_14 : decode (mCd M_Y_readsRank) 14 = .ok (.invokevirtual 257, 3) := by decide +kernel
theorem d_Y_readsRank_17 : decode (mCd M_Y_readsRank) 17 = .ok (.ifCond .ne 5, 3) := by decide +kernel
theorem d_Y_readsRank_20 : decode (mCd M_Y_readsRank) 20 = .ok (.iconst 0, 1) := by decide +kernel
theorem d_Y_readsRank_21 : decode (mCd M_Y_readsRank) 21 = .ok (.ireturn, 1) := by decide +kernel
theorem d_Y_readsRank_22 : decode (mCd M_Y_readsRank) 22 = .ok (.iconst 1, 1) := by decide +kernel
theorem d_Y_readsRank_23 : decode (mCd M_Y_readsRank) 23 = .ok (.istore_n 2, 1) := by decide +kernel
theorem d_Y_readsRank_24 : decode (mCd M_Y_readsRank) 24 = .ok (.iload_n 2, 1) := by decide +kernel
theorem d_Y_readsRank_25 : decode (mCd M_Y_readsRank) 25 = .ok (.ifCond .eq 91, 3) := by decide +kernel
theorem d_Y_readsRank_28 : decode (mCd M_Y_readsRank) 28 = .ok (.aload_n 0, 1) := by decide +kernel
theorem d_Y_readsRank_29 : decode (mCd M_Y_readsRank) 29 = .ok (.iload_n 1, 1) := by decide +kernel
theorem d_Y_readsRank_30 : decode (mCd M_Y_readsRank) 30 = .ok (.ifCond .ne 9, 3) := by decide +kernel
theorem d_Y_readsRank_33 : decode (mCd M_Y_readsRank) 33 = .ok (.ldc_w 260, 3) := by decide +kernel
theorem d_Y_readsRank_36 : decode (mCd M_Y_readsRank) 36 = .ok (.goto 17, 3) := by decide +kernel
theorem d_Y_readsRank_39 : decode (mCd M_Y_readsRank) 39 = .ok (.iload_n 1, 1) := by decide +kernel
theorem d_Y_readsRank_40 : decode (mCd M_Y_readsRank) 40 = .ok (.iconst 1, 1) := by decide +kernel
theorem d_Y_readsRank_41 : decode (mCd M_Y_readsRank) 41 = .ok (.if_icmp .ne 9, 3) := by decide +kernel
theorem d_Y_readsRank_44 : decode (mCd M_Y_readsRank) 44 = .ok (.ldc_w 262, 3) := by decide +kernel
theorem d_Y_readsRank_47 : decode (mCd M_Y_readsRank) 47 = .ok (.goto 6, 3) := by decide +kernel
theorem d_Y_readsRank_50 : decode (mCd M_Y_readsRank) 50 = .ok (.ldc_w 264, 3) := by decide +kernel
theorem d_Y_readsRank_53 : decode (mCd M_Y_readsRank) 53 = .ok (.invokevirtual 200, 3) := by decide +kernel
theorem d_Y_readsRank_56 : decode (mCd M_Y_readsRank) 56 = .ok (.istore_n 3, 1) := by decide +kernel
theorem d_Y_readsRank_57 : decode (mCd M_Y_readsRank) 57 = .ok (.iload_n 3, 1) := by decide +kernel
theorem d_Y_readsRank_58 : decode (mCd M_Y_readsRank) 58 = .ok (.ifCond .ge 5, 3) := by decide +kernel
theorem d_Y_readsRank_61 : decode (mCd M_Y_readsRank) 61 = .ok (.iconst 1, 1) := by decide +kernel
theorem d_Y_readsRank_62 : decode (mCd M_Y_readsRank) 62 = .ok (.ireturn, 1) := by decide +kernel
theorem d_Y_readsRank_63 : decode (mCd M_Y_readsRank) 63 = .ok (.aload_n 0, 1) := by decide +kernel
theorem d_Y_readsRank_64 : decode (mCd M_Y_readsRank) 64 = .ok (.iload_n 1, 1) := by decide +kernel
theorem d_Y_readsRank_65 : decode (mCd M_Y_readsRank) 65 = .ok (.iconst 1, 1) := by decide +kernel
theorem d_Y_readsRank_66 : decode (mCd M_Y_readsRank) 66 = .ok (.iadd, 1) := by decide +kernel
theorem d_Y_readsRank_67 : decode (mCd M_Y_readsRank) 67 = .ok (.invokevirtual 257, 3) := by decide +kernel
theorem d_Y_readsRank_70 : decode (mCd M_Y_readsRank) 70 = .ok (.ifCond .ne 5, 3) := by decide +kernel
theorem d_Y_readsRank_73 : decode (mCd M_Y_readsRank) 73 = .ok (.iconst 0, 1) := by decide +kernel
theorem d_Y_readsRank_74 : decode (mCd M_Y_readsRank) 74 = .ok (.ireturn, 1) := by decide +kernel
theorem d_Y_readsRank_75 : decode (mCd M_Y_readsRank) 75 = .ok (.aload_n 0, 1) := by decide +kernel
theorem d_Y_readsRank_76 : decode (mCd M_Y_readsRank) 76 = .ok (.sipush 2000, 3) := by decide +kernel
theorem d_Y_readsRank_79 : decode (mCd M_Y_readsRank) 79 = .ok (.iload_n 3, 1) := by decide +kernel
theorem d_Y_readsRank_80 : decode (mCd M_Y_readsRank) 80 = .ok (.iadd, 1) := by decide +kernel
theorem d_Y_readsRank_81 : decode (mCd M_Y_readsRank) 81 = .ok (.iload_n 1, 1) := by decide +kernel
theorem d_Y_readsRank_82 : decode (mCd M_Y_readsRank) 82 = .ok (.ifCond .ne 7, 3) := by decide +kernel
theorem d_Y_readsRank_85 : decode (mCd M_Y_readsRank) 85 = .ok (.iconst 0, 1) := by decide +kernel
theorem d_Y_readsRank_86 : decode (mCd M_Y_readsRank) 86 = .ok (.goto 13, 3) := by decide +kernel
theorem d_Y_readsRank_89 : decode (mCd M_Y_readsRank) 89 = .ok (.iload_n 1, 1) := by decide +kernel
theorem d_Y_readsRank_90 : decode (mCd M_Y_readsRank) 90 = .ok (.iconst 1, 1) := by decide +kernel
theorem d_Y_readsRank_91 : decode (mCd M_Y_readsRank) 91 = .ok (.if_icmp .ne 7, 3) := by decide +kernel
theorem d_Y_readsRank_94 : decode (mCd M_Y_readsRank) 94 = .ok (.iconst 3, 1) := by decide +kernel
theorem d_Y_readsRank_95 : decode (mCd M_Y_readsRank) 95 = .ok (.goto 4, 3) := by decide +kernel
theorem d_Y_readsRank_98 : decode (mCd M_Y_readsRank) 98 = .ok (.iconst 5, 1) := by decide +kernel
theorem d_Y_readsRank_99 : decode (mCd M_Y_readsRank) 99 = .ok (.iadd, 1) := by decide +kernel
theorem d_Y_readsRank_100 : decode (mCd M_Y_readsRank) 100 = .ok (.invokevirtual 251, 3) := by decide +kernel
theorem d_Y_readsRank_103 : decode (mCd M_Y_readsRank) 103 = .ok (.iload_n 1, 1) := by decide +kernel
theorem d_Y_readsRank_104 : decode (mCd M_Y_readsRank) 104 = .ok (.ifCond .le 7, 3) := by decide +kernel
theorem d_Y_readsRank_107 : decode (mCd M_Y_readsRank) 107 = .ok (.iconst 1, 1) := by decide +kernel
theorem d_Y_readsRank_108 : decode (mCd M_Y_readsRank) 108 = .ok (.goto 4, 3) := by decide +kernel
theorem d_Y_readsRank_111 : decode (mCd M_Y_readsRank) 111 = .ok (.iconst 0, 1) := by decide +kernel
theorem d_Y_readsRank_112 : decode (mCd M_Y_readsRank) 112 = .ok (.istore_n 2, 1) := by decide +kernel
theorem d_Y_readsRank_113 : decode (mCd M_Y_readsRank) 113 = .ok (.goto (-89), 3) := by decide +kernel
theorem d_Y_readsRank_116 : decode (mCd M_Y_readsRank) 116 = .ok (.iconst 1, 1) := by decide +kernel
theorem d_Y_readsRank_117 : decode (mCd M_Y_readsRank) 117 = .ok (.ireturn, 1) := by decide +kernel
theorem d_Y_readsRule_0 : decode (mCd M_Y_readsRule) 0 = .ok (.aload_n 0, 1) := by decide +kernel
theorem d_Y_readsRule_1 : decode (mCd M_Y_readsRule) 1 = .ok (.bipush 40, 2) := by decide +kernel
theorem d_Y_readsRule_3 : decode (mCd M_Y_readsRule) 3 = .ok (.invokevirtual 192, 3) := by decide +kernel
theorem d_Y_readsRule_6 : decode (mCd M_Y_readsRule) 6 = .ok (.istore_n 1, 1) := by decide +kernel
theorem d_Y_readsRule_7 : decode (mCd M_Y_readsRule) 7 = .ok (.aload_n 0, 1) := by decide +kernel
theorem d_Y_readsRule_8 : decode (mCd M_Y_readsRule) 8 = .ok (.iconst 0, 1) := by decide +kernel
theorem d_Y_readsRule_9 : decode (mCd M_Y_readsRule) 9 = .ok (.putfield 245, 3) := by decide +kernel
theorem d_Y_readsRule_12 : decode (mCd M_Y_readsRule) 12 = .ok (.iload_n 1, 1) := by decide +kernel
theorem d_Y_readsRule_13 : decode (mCd M_Y_readsRule) 13 = .ok (.ifCond .eq 11, 3) := by decide +kernel
theorem d_Y_readsRule_16 : decode (mCd M_Y_readsRule) 16 = .ok (.aload_n 0, 1) := by decide +kernel
theorem d_Y_readsRule_17 : decode (mCd M_Y_readsRule) 17 = .ok (.iconst 0, 1) := by decide +kernel
theorem d_Y_readsRule_18 : decode (mCd M_Y_readsRule) 18 = .ok (.invokevirtual 257, 3) := by decide +kernel
theorem d_Y_readsRule_21 : decode (mCd M_Y_readsRule) 21 = .ok (.ifCond .eq 7, 3) := by decide +kernel
theorem d_Y_readsRule_24 : decode (mCd M_Y_readsRule) 24 = .ok (.iconst 1, 1) := by decide +kernel
theorem d_Y_readsRule_25 : decode (mCd M_Y_readsRule) 25 = .ok (.goto 4, 3) := by decide +kernel
theorem d_Y_readsRule_28 : decode (mCd M_Y_readsRule) 28 = .ok (.iconst 0, 1) := by decide +kernel
theorem d_Y_readsRule_29 : decode (mCd M_Y_readsRule) 29 = .ok (.istore_n 2, 1) := by decide +kernel
theorem d_Y_readsRule_30 : decode (mCd M_Y_readsRule) 30 = .ok (.aload_n 0, 1) := by decide +kernel
theorem d_Y_readsRule_31 : decode (mCd M_Y_readsRule) 31 = .ok (.iload_n 1, 1) := by decide +kernel
theorem d_Y_readsRule_32 : decode (mCd M_Y_readsRule) 32 = .ok (.bipush 40, 2) := by decide +kernel
theorem d_Y_readsRule_34 : decode (mCd M_Y_readsRule) 34 = .ok (.iload_n 2, 1) := by decide +kernel
theorem d_Y_readsRule_35 : decode (mCd M_Y_readsRule) 35 = .ok (.invokevirtual 225, 3) := by decide +kernel
theorem d_Y_readsRule_38 : decode (mCd M_Y_readsRule) 38 = .ok (.ireturn, 1) := by decide +kernel
