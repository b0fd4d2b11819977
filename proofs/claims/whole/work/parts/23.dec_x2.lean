/-! Printed by wip/whole/gen_dec.py: what each instruction is. -/
theorem d_X_count_0 : decode (mCd M_X_count) 0 = .ok (.iload_n 1, 1) := by decide +kernel
theorem d_X_count_1 : decode (mCd M_X_count) 1 = .ok (.tableswitch 190 0 13 #[71, 79, 87, 95, 103, 111, 119, 127, 135, 150, 158, 166, 174, 182], 71) := by decide +kernel
theorem d_X_count_72 : decode (mCd M_X_count) 72 = .ok (.aload_n 0, 1) := by decide +kernel
theorem d_X_count_73 : decode (mCd M_X_count) 73 = .ok (.getfield 26, 3) := by decide +kernel
theorem d_X_count_76 : decode (mCd M_X_count) 76 = .ok (.getfield 409, 3) := by decide +kernel
theorem d_X_count_79 : decode (mCd M_X_count) 79 = .ok (.ireturn, 1) := by decide +kernel
theorem d_X_count_80 : decode (mCd M_X_count) 80 = .ok (.aload_n 0, 1) := by decide +kernel
theorem d_X_count_81 : decode (mCd M_X_count) 81 = .ok (.getfield 26, 3) := by decide +kernel
theorem d_X_count_84 : decode (mCd M_X_count) 84 = .ok (.getfield 412, 3) := by decide +kernel
theorem d_X_count_87 : decode (mCd M_X_count) 87 = .ok (.ireturn, 1) := by decide +kernel
theorem d_X_count_88 : decode (mCd M_X_count) 88 = .ok (.aload_n 0, 1) := by decide +kernel
theorem d_X_count_89 : decode (mCd M_X_count) 89 = .ok (.getfield 33, 3) := by decide +kernel
theorem d_X_count_92 : decode (mCd M_X_count) 92 = .ok (.getfield 131, 3) := by decide +kernel
theorem d_X_count_95 : decode (mCd M_X_count) 95 = .ok (.ireturn, 1) := by decide +kernel
theorem d_X_count_96 : decode (mCd M_X_count) 96 = .ok (.aload_n 0, 1) := by decide +kernel
theorem d_X_count_97 : decode (mCd M_X_count) 97 = .ok (.getfield 65, 3) := by decide +kernel
theorem d_X_count_100 : decode (mCd M_X_count) 100 = .ok (.getfield 137, 3) := by decide +kernel
theorem d_X_count_103 : decode (mCd M_X_count) 103 = .ok (.ireturn, 1) := by decide +kernel
theorem d_X_count_104 : decode (mCd M_X_count) 104 = .ok (.aload_n 0, 1) := by decide +kernel
theorem d_X_count_105 : decode (mCd M_X_count) 105 = .ok (.getfield 65, 3) := by decide +kernel
theorem d_X_count_108 : decode (mCd M_X_count) 108 = .ok (.getfield 295, 3) := by decide +kernel
theorem d_X_count_111 : decode (mCd M_X_count) 111 = .ok (.ireturn, 1) := by decide +kernel
theorem d_X_count_112 : decode (mCd M_X_count) 112 = .ok (.aload_n 0, 1) := by decide +kernel
theorem d_X_count_113 : decode (mCd M_X_count) 113 = .ok (.getfield 65, 3) := by decide +kernel
theorem d_X_count_116 : decode (mCd M_X_count) 116 = .ok (.getfield 298, 3) := by decide +kernel
theorem d_X_count_119 : decode (mCd M_X_count) 119 = .ok (.ireturn, 1) := by decide +kernel
theorem d_X_count_120 : decode (mCd M_X_count) 120 = .ok (.aload_n 0, 1) := by decide +kernel
theorem d_X_count_121 : decode (mCd M_X_count) 121 = .ok (.getfield 65, 3) := by decide +kernel
theorem d_X_count_124 : decode (mCd M_X_count) 124 = .ok (.getfield 299, 3) := by decide +kernel
theorem d_X_count_127 : decode (mCd M_X_count) 127 = .ok (.ireturn, 1) := by decide +kernel
theorem d_X_count_128 : decode (mCd M_X_count) 128 = .ok (.aload_n 0, 1) := by decide +kernel
theorem d_X_count_129 : decode (mCd M_X_count) 129 = .ok (.getfield 65, 3) := by decide +kernel
theorem d_X_count_132 : decode (mCd M_X_count) 132 = .ok (.getfield 140, 3) := by decide +kernel
theorem d_X_count_135 : decode (mCd M_X_count) 135 = .ok (.ireturn, 1) := by decide +kernel
theorem d_X_count_136 : decode (mCd M_X_count) 136 = .ok (.aload_n 0, 1) := by decide +kernel
theorem d_X_count_137 : decode (mCd M_X_count) 137 = .ok (.getfield 40, 3) := by decide +kernel
theorem d_X_count_140 : decode (mCd M_X_count) 140 = .ok (.aload_n 0, 1) := by decide +kernel
theorem d_X_count_141 : decode (mCd M_X_count) 141 = .ok (.getfield 65, 3) := by decide +kernel
theorem d_X_count_144 : decode (mCd M_X_count) 144 = .ok (.getfield 140, 3) := by decide +kernel
theorem d_X_count_147 : decode (mCd M_X_count) 147 = .ok (.invokevirtual 415, 3) := by decide +kernel
theorem d_X_count_150 : decode (mCd M_X_count) 150 = .ok (.ireturn, 1) := by decide +kernel
theorem d_X_count_151 : decode (mCd M_X_count) 151 = .ok (.aload_n 0, 1) := by decide +kernel
theorem d_X_count_152 : decode (mCd M_X_count) 152 = .ok (.getfield 65, 3) := by decide +kernel
theorem d_X_count_155 : decode (mCd M_X_count) 155 = .ok (.getfield 134, 3) := by decide +kernel
theorem d_X_count_158 : decode (mCd M_X_count) 158 = .ok (.ireturn, 1) := by decide +kernel
theorem d_X_count_159 : decode (mCd M_X_count) 159 = .ok (.aload_n 0, 1) := by decide +kernel
theorem d_X_count_160 : decode (mCd M_X_count) 160 = .ok (.getfield 85, 3) := by decide +kernel
theorem d_X_count_163 : decode (mCd M_X_count) 163 = .ok (.getfield 359, 3) := by decide +kernel
theorem d_X_count_166 : decode (mCd M_X_count) 166 = .ok (.ireturn, 1) := by decide +kernel
theorem d_X_count_167 : decode (mCd M_X_count) 167 = .ok (.aload_n 0, 1) := by decide +kernel
theorem d_X_count_168 : decode (mCd M_X_count) 168 = .ok (.getfield 78, 3) := by decide +kernel
theorem d_X_count_171 : decode (mCd M_X_count) 171 = .ok (.getfield 280, 3) := by decide +kernel
theorem d_X_count_174 : decode (mCd M_X_count) 174 = .ok (.ireturn, 1) := by decide +kernel
theorem d_X_count_175 : decode (mCd M_X_count) 175 = .ok (.aload_n 0, 1) := by decide +kernel
theorem d_X_count_176 : decode (mCd M_X_count) 176 = .ok (.getfield 19, 3) := by decide +kernel
theorem d_X_count_179 : decode (mCd M_X_count) 179 = .ok (.getfield 418, 3) := by decide +kernel
theorem d_X_count_182 : decode (mCd M_X_count) 182 = .ok (.ireturn, 1) := by decide +kernel
theorem d_X_count_183 : decode (mCd M_X_count) 183 = .ok (.aload_n 0, 1) := by decide +kernel
theorem d_X_count_184 : decode (mCd M_X_count) 184 = .ok (.getfield 10, 3) := by decide +kernel
theorem d_X_count_187 : decode (mCd M_X_count) 187 = .ok (.invokevirtual 116, 3) := by decide +kernel
theorem d_X_count_190 : decode (mCd M_X_count) 190 = .ok (.ireturn, 1) := by decide +kernel
theorem d_X_count_191 : decode (mCd M_X_count) 191 = .ok (.bipush (-100), 2) := by decide +kernel
theorem d_X_count_193 : decode (mCd M_X_count) 193 = .ok (.ireturn, 1) := by decide +kernel
theorem d_X_row_0 : decode (mCd M_X_row) 0 = .ok (.iload_n 1, 1) := by decide +kernel
theorem d_X_row_1 : decode (mCd M_X_row) 1 = .ok (.ifCond .lt 26, 3) := by decide +kernel
theorem d_X_row_4 : decode (mCd M_X_row) 4 = .ok (.iload_n 1, 1) := by decide +kernel
theorem d_X_row_5 : decode (mCd M_X_row) 5 = .ok (.aload_n 0, 1) := by decide +kernel
theorem d_X_row_6 : decode (mCd M_X_row) 6 = .ok (.getfield 19, 3) := by decide +kernel
theorem d_X_row_9 : decode (mCd M_X_row) 9 = .ok (.getfield 418, 3) := by decide +kernel
theorem d_X_row_12 : decode (mCd M_X_row) 12 = .ok (.if_icmp .ge 15, 3) := by decide +kernel
theorem d_X_row_15 : decode (mCd M_X_row) 15 = .ok (.iload_n 1, 1) := by decide +kernel
theorem d_X_row_16 : decode (mCd M_X_row) 16 = .ok (.aload_n 0, 1) := by decide +kernel
theorem d_X_row_17 : decode (mCd M_X_row) 17 = .ok (.getfield 19, 3) := by decide +kernel
theorem d_X_row_20 : decode (mCd M_X_row) 20 = .ok (.getfield 419, 3) := by decide +kernel
theorem d_X_row_23 : decode (mCd M_X_row) 23 = .ok (.arraylength, 1) := by decide +kernel
theorem d_X_row_24 : decode (mCd M_X_row) 24 = .ok (.if_icmp .lt 11, 3) := by decide +kernel
theorem d_X_row_27 : decode (mCd M_X_row) 27 = .ok (.new 175, 3) := by decide +kernel
theorem d_X_row_30 : decode (mCd M_X_row) 30 = .ok (.dup, 1) := by decide +kernel
theorem d_X_row_31 : decode (mCd M_X_row) 31 = .ok (.invokespecial 177, 3) := by decide +kernel
theorem d_X_row_34 : decode (mCd M_X_row) 34 = .ok (.athrow, 1) := by decide +kernel
theorem d_X_row_35 : decode (mCd M_X_row) 35 = .ok (.aload_n 0, 1) := by decide +kernel
theorem d_X_row_36 : decode (mCd M_X_row) 36 = .ok (.getfield 19, 3) := by decide +kernel
theorem d_X_row_39 : decode (mCd M_X_row) 39 = .ok (.getfield 419, 3) := by decide +kernel
theorem d_X_row_42 : decode (mCd M_X_row) 42 = .ok (.iload_n 1, 1) := by decide +kernel
theorem d_X_row_43 : decode (mCd M_X_row) 43 = .ok (.laload, 1) := by decide +kernel
theorem d_X_row_44 : decode (mCd M_X_row) 44 = .ok (.lreturn, 1) := by decide +kernel
theorem d_X_kindOf_0 : decode (mCd M_X_kindOf) 0 = .ok (.iload_n 0, 1) := by decide +kernel
theorem d_X_kindOf_1 : decode (mCd M_X_kindOf) 1 = .ok (.lookupswitch 51 #[(101, 47), (112, 45), (115, 49), (116, 43)], 43) := by decide +kernel
theorem d_X_kindOf_44 : decode (mCd M_X_kindOf) 44 = .ok (.iconst 0, 1) := by decide +kernel
theorem d_X_kindOf_45 : decode (mCd M_X_kindOf) 45 = .ok (.ireturn, 1) := by decide +kernel
theorem d_X_kindOf_46 : decode (mCd M_X_kindOf) 46 = .ok (.iconst 1, 1) := by decide +kernel
theorem d_X_kindOf_47 : decode (mCd M_X_kindOf) 47 = .ok (.ireturn, 1) := by decide +kernel
theorem d_X_kindOf_48 : decode (mCd M_X_kindOf) 48 = .ok (.iconst 2, 1) := by decide +kernel
theorem d_X_kindOf_49 : decode (mCd M_X_kindOf) 49 = .ok (.ireturn, 1) := by decide +kernel
theorem d_X_kindOf_50 : decode (mCd M_X_kindOf) 50 = .ok (.iconst 3, 1) := by decide +kernel
theorem d_X_kindOf_51 : decode (mCd M_X_kindOf) 51 = .ok (.ireturn, 1) := by decide +kernel
theorem d_X_kindOf_52 : decode (mCd M_X_kindOf) 52 = .ok (.iconst (-1), 1) := by decide +kernel
theorem d_X_kindOf_53 : decode (mCd M_X_kindOf) 53 = .ok (.ireturn, 1) := by decide +kernel
theorem d_X_fishFault_0 : decode (mCd M_X_fishFault) 0 = .ok (.iconst 0, 1) := by decide +kernel
theorem d_X_fishFault_1 : decode (mCd M_X_fishFault) 1 = .ok (.istore_n 1, 1) := by decide +kernel
theorem d_X_fishFault_2 : decode (mCd M_X_fishFault) 2 = .ok (.aload_n 0, 1) := by decide +kernel
theorem d_X_fishFault_3 : decode (mCd M_X_fishFault) 3 = .ok (.getfield 33, 3) := by decide +kernel
theorem d_X_fishFault_6 : decode (mCd M_X_fishFault) 6 = .ok (.getfield 131, 3) := by decide +kernel
theorem d_X_fishFault_9 : decode (mCd M_X_fishFault) 9 = .ok (.istore_n 2, 1) := by decide +kernel
theorem d_X_fishFault_10 : decode (mCd M_X_fishFault) 10 = .ok (.iload_n 2, 1) := by decide +kernel
theorem d_X_fishFault_11 : decode (mCd M_X_fishFault) 11 = .ok (.bipush 8, 2) := by decide +kernel
theorem d_X_fishFault_13 : decode (mCd M_X_fishFault) 13 = .ok (.if_icmp .ge 84, 3) := by decide +kernel
theorem d_X_fishFault_16 : decode (mCd M_X_fishFault) 16 = .ok (.aload_n 0, 1) := by decide +kernel
theorem d_X_fishFault_17 : decode (mCd M_X_fishFault) 17 = .ok (.getfield 10, 3) := by decide +kernel
theorem d_X_fishFault_20 : decode (mCd M_X_fishFault) 20 = .ok (.iload_n 1, 1) := by decide +kernel
theorem d_X_fishFault_21 : decode (mCd M_X_fishFault) 21 = .ok (.invokevirtual 264, 3) := by decide +kernel
theorem d_X_fishFault_24 : decode (mCd M_X_fishFault) 24 = .ok (.invokestatic 423, 3) := by decide +kernel
theorem d_X_fishFault_27 : decode (mCd M_X_fishFault) 27 = .ok (.iconst (-1), 1) := by decide +kernel
theorem d_X_fishFault_28 : decode (mCd M_X_fishFault) 28 = .ok (.if_icmp .ne 5, 3) := by decide +kernel
theorem d_X_fishFault_31 : decode (mCd M_X_fishFault) 31 = .ok (.iload_n 1, 1) := by decide +kernel
theorem d_X_fishFault_32 : decode (mCd M_X_fishFault) 32 = .ok (.ireturn, 1) := by decide +kernel
theorem d_X_fishFault_33 : decode (mCd M_X_fishFault) 33 = .ok (.aload_n 0, 1) := by decide +kernel
theorem d_X_fishFault_34 : decode (mCd M_X_fishFault) 34 = .ok (.getfield 10, 3) := by decide +kernel
theorem d_X_fishFault_37 : decode (mCd M_X_fishFault) 37 = .ok (.iload_n 1, 1) := by decide +kernel
theorem d_X_fishFault_38 : decode (mCd M_X_fishFault) 38 = .ok (.iconst 1, 1) := by decide +kernel
theorem d_X_fishFault_39 : decode (mCd M_X_fishFault) 39 = .ok (.iadd, 1) := by decide +kernel
theorem d_X_fishFault_40 : decode (mCd M_X_fishFault) 40 = .ok (.invokevirtual 426, 3) := by decide +kernel
theorem d_X_fishFault_43 : decode (mCd M_X_fishFault) 43 = .ok (.iconst 1, 1) := by decide +kernel
theorem d_X_fishFault_44 : decode (mCd M_X_fishFault) 44 = .ok (.if_icmp .ge 7, 3) := by decide +kernel
theorem d_X_fishFault_47 : decode (mCd M_X_fishFault) 47 = .ok (.iload_n 1, 1) := by decide +kernel
theorem d_X_fishFault_48 : decode (mCd M_X_fishFault) 48 = .ok (.iconst 1, 1) := by decide +kernel
theorem d_X_fishFault_49 : decode (mCd M_X_fishFault) 49 = .ok (.iadd, 1) := by decide +kernel
theorem d_X_fishFault_50 : decode (mCd M_X_fishFault) 50 = .ok (.ireturn, 1) := by decide +kernel
theorem d_X_fishFault_51 : decode (mCd M_X_fishFault) 51 = .ok (.iinc 1 2, 3) := by decide +kernel
theorem d_X_fishFault_54 : decode (mCd M_X_fishFault) 54 = .ok (.iload_n 1, 1) := by decide +kernel
theorem d_X_fishFault_55 : decode (mCd M_X_fishFault) 55 = .ok (.aload_n 0, 1) := by decide +kernel
theorem d_X_fishFault_56 : decode (mCd M_X_fishFault) 56 = .ok (.getfield 10, 3) := by decide +kernel
theorem d_X_fishFault_59 : decode (mCd M_X_fishFault) 59 = .ok (.invokevirtual 116, 3) := by decide +kernel
theorem d_X_fishFault_62 : decode (mCd M_X_fishFault) 62 = .ok (.if_icmp .ne 5, 3) := by decide +kernel
theorem d_X_fishFault_65 : decode (mCd M_X_fishFault) 65 = .ok (.iconst (-1), 1) := by decide +kernel
theorem d_X_fishFault_66 : decode (mCd M_X_fishFault) 66 = .ok (.ireturn, 1) := by decide +kernel
theorem d_X_fishFault_67 : decode (mCd M_X_fishFault) 67 = .ok (.iload_n 1, 1) := by decide +kernel
theorem d_X_fishFault_68 : decode (mCd M_X_fishFault) 68 = .ok (.bipush 23, 2) := by decide +kernel
theorem d_X_fishFault_70 : decode (mCd M_X_fishFault) 70 = .ok (.if_icmp .ge 16, 3) := by decide +kernel
theorem d_X_fishFault_73 : decode (mCd M_X_fishFault) 73 = .ok (.aload_n 0, 1) := by decide +kernel
theorem d_X_fishFault_74 : decode (mCd M_X_fishFault) 74 = .ok (.getfield 10, 3) := by decide +kernel
theorem d_X_fishFault_77 : decode (mCd M_X_fishFault) 77 = .ok (.iload_n 1, 1) := by decide +kernel
theorem d_X_fishFault_78 : decode (mCd M_X_fishFault) 78 = .ok (.invokevirtual 264, 3) := by decide +kernel
theorem d_X_fishFault_81 : decode (mCd M_X_fishFault) 81 = .ok (.bipush 59, 2) := by decide +kernel
theorem d_X_fishFault_83 : decode (mCd M_X_fishFault) 83 = .ok (.if_icmp .eq 5, 3) := by decide +kernel
theorem d_X_fishFault_86 : decode (mCd M_X_fishFault) 86 = .ok (.iload_n 1, 1) := by decide +kernel
theorem d_X_fishFault_87 : decode (mCd M_X_fishFault) 87 = .ok (.ireturn, 1) := by decide +kernel
theorem d_X_fishFault_88 : decode (mCd M_X_fishFault) 88 = .ok (.iinc 1 1, 3) := by decide +kernel
theorem d_X_fishFault_91 : decode (mCd M_X_fishFault) 91 = .ok (.iinc 2 1, 3) := by decide +kernel
theorem d_X_fishFault_94 : decode (mCd M_X_fishFault) 94 = .ok (.goto (-84), 3) := by decide +kernel
theorem d_X_fishFault_97 : decode (mCd M_X_fishFault) 97 = .ok (.iload_n 1, 1) := by decide +kernel
theorem d_X_fishFault_98 : decode (mCd M_X_fishFault) 98 = .ok (.ireturn, 1) := by decide +kernel
theorem d_X_addFish_0 : decode (mCd M_X_addFish) 0 = .ok (.iconst 0, 1) := by decide +kernel
theorem d_X_addFish_1 : decode (mCd M_X_addFish) 1 = .ok (.istore_n 1, 1) := by decide +kernel
theorem d_X_addFish_2 : decode (mCd M_X_addFish) 2 = .ok (.iconst 0, 1) := by decide +kernel
theorem d_X_addFish_3 : decode (mCd M_X_addFish) 3 = .ok (.istore_n 2, 1) := by decide +kernel
theorem d_X_addFish_4 : decode (mCd M_X_addFish) 4 = .ok (.iload_n 2, 1) := by decide +kernel
theorem d_X_addFish_5 : decode (mCd M_X_addFish) 5 = .ok (.aload_n 0, 1) := by decide +kernel
theorem d_X_addFish_6 : decode (mCd M_X_addFish) 6 = .ok (.getfield 10, 3) := by decide +kernel
theorem d_X_addFish_9 : decode (mCd M_X_addFish) 9 = .ok (.invokevirtual 116, 3) := by decide +kernel
theorem d_X_addFish_12 : decode (mCd M_X_addFish) 12 = .ok (.if_icmp .ge 66, 3) := by decide +kernel
theorem d_X_addFish_15 : decode (mCd M_X_addFish) 15 = .ok (.aload_n 0, 1) := by decide +kernel
theorem d_X_addFish_16 : decode (mCd M_X_addFish) 16 = .ok (.getfield 33, 3) := by decide +kernel
theorem d_X_addFish_19 : decode (mCd M_X_addFish) 19 = .ok (.getfield 131, 3) := by decide +kernel
theorem d_X_addFish_22 : decode (mCd M_X_addFish) 22 = .ok (.bipush 8, 2) := by decide +kernel
theorem d_X_addFish_24 : decode (mCd M_X_addFish) 24 = .ok (.if_icmp .ge 54, 3) := by decide +kernel
theorem d_X_addFish_27 : decode (mCd M_X_addFish) 27 = .ok (.aload_n 0, 1) := by decide +kernel
theorem d_X_addFish_28 : decode (mCd M_X_addFish) 28 = .ok (.getfield 65, 3) := by decide +kernel
theorem d_X_addFish_31 : decode (mCd M_X_addFish) 31 = .ok (.aload_n 0, 1) := by decide +kernel
theorem d_X_addFish_32 : decode (mCd M_X_addFish) 32 = .ok (.getfield 33, 3) := by decide +kernel
theorem d_X_addFish_35 : decode (mCd M_X_addFish) 35 = .ok (.getfield 131, 3) := by decide +kernel
theorem d_X_addFish_38 : decode (mCd M_X_addFish) 38 = .ok (.invokevirtual 429, 3) := by decide +kernel
theorem d_X_addFish_41 : decode (mCd M_X_addFish) 41 = .ok (.aload_n 0, 1) := by decide +kernel
theorem d_X_addFish_42 : decode (mCd M_X_addFish) 42 = .ok (.getfield 33, 3) := by decide +kernel
theorem d_X_addFish_45 : decode (mCd M_X_addFish) 45 = .ok (.aload_n 0, 1) := by decide +kernel
theorem d_X_addFish_46 : decode (mCd M_X_addFish) 46 = .ok (.getfield 10, 3) := by decide +kernel
theorem d_X_addFish_49 : decode (mCd M_X_addFish) 49 = .ok (.iload_n 2, 1) := by decide +kernel
theorem d_X_addFish_50 : decode (mCd M_X_addFish) 50 = .ok (.invokevirtual 264, 3) := by decide +kernel
theorem d_X_addFish_53 : decode (mCd M_X_addFish) 53 = .ok (.invokestatic 423, 3) := by decide +kernel
theorem d_X_addFish_56 : decode (mCd M_X_addFish) 56 = .ok (.aload_n 0, 1) := by decide +kernel
theorem d_X_addFish_57 : decode (mCd M_X_addFish) 57 = .ok (.getfield 10, 3) := by decide +kernel
theorem d_X_addFish_60 : decode (mCd M_X_addFish) 60 = .ok (.iload_n 2, 1) := by decide +kernel
theorem d_X_addFish_61 : decode (mCd M_X_addFish) 61 = .ok (.iconst 1, 1) := by decide +kernel
theorem d_X_addFish_62 : decode (mCd M_X_addFish) 62 = .ok (.iadd, 1) := by decide +kernel
theorem d_X_addFish_63 : decode (mCd M_X_addFish) 63 = .ok (.invokevirtual 426, 3) := by decide +kernel
theorem d_X_addFish_66 : decode (mCd M_X_addFish) 66 = .ok (.invokevirtual 432, 3) := by decide +kernel
theorem d_X_addFish_69 : decode (mCd M_X_addFish) 69 = .ok (.iinc 1 1, 3) := by decide +kernel
theorem d_X_addFish_72 : decode (mCd M_X_addFish) 72 = .ok (.iinc 2 3, 3) := by decide +kernel
theorem d_X_addFish_75 : decode (mCd M_X_addFish) 75 = .ok (.goto (-71), 3) := by decide +kernel
theorem d_X_addFish_78 : decode (mCd M_X_addFish) 78 = .ok (.iload_n 1, 1) := by decide +kernel
theorem d_X_addFish_79 : decode (mCd M_X_addFish) 79 = .ok (.ireturn, 1) := by decide +kernel
theorem d_X_oarFault_0 : decode (mCd M_X_oarFault) 0 = .ok (.iconst 0, 1) := by decide +kernel
theorem d_X_oarFault_1 : decode (mCd M_X_oarFault) 1 = .ok (.istore_n 1, 1) := by decide +kernel
theorem d_X_oarFault_2 : decode (mCd M_X_oarFault) 2 = .ok (.iconst 0, 1) := by decide +kernel
theorem d_X_oarFault_3 : decode (mCd M_X_oarFault) 3 = .ok (.istore_n 2, 1) := by decide +kernel
theorem d_X_oarFault_4 : decode (mCd M_X_oarFault) 4 = .ok (.iload_n 2, 1) := by decide +kernel
theorem d_X_oarFault_5 : decode (mCd M_X_oarFault) 5 = .ok (.bipush 12, 2) := by decide +kernel
theorem d_X_oarFault_7 : decode (mCd M_X_oarFault) 7 = .ok (.if_icmp .ge 140, 3) := by decide +kernel
theorem d_X_oarFault_10 : decode (mCd M_X_oarFault) 10 = .ok (.aload_n 0, 1) := by decide +kernel
theorem d_X_oarFault_11 : decode (mCd M_X_oarFault) 11 = .ok (.aload_n 0, 1) := by decide +kernel
theorem d_X_oarFault_12 : decode (mCd M_X_oarFault) 12 = .ok (.getfield 10, 3) := by decide +kernel
theorem d_X_oarFault_15 : decode (mCd M_X_oarFault) 15 = .ok (.iload_n 1, 1) := by decide +kernel
theorem d_X_oarFault_16 : decode (mCd M_X_oarFault) 16 = .ok (.invokevirtual 426, 3) := by decide +kernel
theorem d_X_oarFault_19 : decode (mCd M_X_oarFault) 19 = .ok (.invokevirtual 435, 3) := by decide +kernel
theorem d_X_oarFault_22 : decode (mCd M_X_oarFault) 22 = .ok (.ifCond .ne 5, 3) := by decide +kernel
theorem d_X_oarFault_25 : decode (mCd M_X_oarFault) 25 = .ok (.iload_n 1, 1) := by decide +kernel
theorem d_X_oarFault_26 : decode (mCd M_X_oarFault) 26 = .ok (.ireturn, 1) := by decide +kernel
theorem d_X_oarFault_27 : decode (mCd M_X_oarFault) 27 = .ok (.aload_n 0, 1) := by decide +kernel
theorem d_X_oarFault_28 : decode (mCd M_X_oarFault) 28 = .ok (.getfield 10, 3) := by decide +kernel
theorem d_X_oarFault_31 : decode (mCd M_X_oarFault) 31 = .ok (.iload_n 1, 1) := by decide +kernel
theorem d_X_oarFault_32 : decode (mCd M_X_oarFault) 32 = .ok (.iconst 1, 1) := by decide +kernel
theorem d_X_oarFault_33 : decode (mCd M_X_oarFault) 33 = .ok (.iadd, 1) := by decide +kernel
theorem d_X_oarFault_34 : decode (mCd M_X_oarFault) 34 = .ok (.invokevirtual 426, 3) := by decide +kernel
theorem d_X_oarFault_37 : decode (mCd M_X_oarFault) 37 = .ok (.istore_n 3, 1) := by decide +kernel
theorem d_X_oarFault_38 : decode (mCd M_X_oarFault) 38 = .ok (.iload_n 3, 1) := by decide +kernel
theorem d_X_oarFault_39 : decode (mCd M_X_oarFault) 39 = .ok (.ifCond .lt 14, 3) := by decide +kernel
theorem d_X_oarFault_42 : decode (mCd M_X_oarFault) 42 = .ok (.iload_n 3, 1) := by decide +kernel
theorem d_X_oarFault_43 : decode (mCd M_X_oarFault) 43 = .ok (.aload_n 0, 1) := by decide +kernel
theorem d_X_oarFault_44 : decode (mCd M_X_oarFault) 44 = .ok (.getfield 26, 3) := by decide +kernel
theorem d_X_oarFault_47 : decode (mCd M_X_oarFault) 47 = .ok (.getfield 409, 3) := by decide +kernel
theorem d_X_oarFault_50 : decode (mCd M_X_oarFault) 50 = .ok (.if_icmp .lt 7, 3) := by decide +kernel
theorem d_X_oarFault_53 : decode (mCd M_X_oarFault) 53 = .ok (.iload_n 1, 1) := by decide +kernel
theorem d_X_oarFault_54 : decode (mCd M_X_oarFault) 54 = .ok (.iconst 1, 1) := by decide +kernel
theorem d_X_oarFault_55 : decode (mCd M_X_oarFault) 55 = .ok (.iadd, 1) := by decide +kernel
theorem d_X_oarFault_56 : decode (mCd M_X_oarFault) 56 = .ok (.ireturn, 1) := by decide +kernel
theorem d_X_oarFault_57 : decode (mCd M_X_oarFault) 57 = .ok (.aload_n 0, 1) := by decide +kernel
theorem d_X_oarFault_58 : decode (mCd M_X_oarFault) 58 = .ok (.getfield 10, 3) := by decide +kernel
theorem d_X_oarFault_61 : decode (mCd M_X_oarFault) 61 = .ok (.iload_n 1, 1) := by decide +kernel
theorem d_X_oarFault_62 : decode (mCd M_X_oarFault) 62 = .ok (.iconst 2, 1) := by decide +kernel
theorem d_X_oarFault_63 : decode (mCd M_X_oarFault) 63 = .ok (.iadd, 1) := by decide +kernel
theorem d_X_oarFault_64 : decode (mCd M_X_oarFault) 64 = .ok (.invokevirtual 426, 3) := by decide +kernel
theorem d_X_oarFault_67 : decode (mCd M_X_oarFault) 67 = .ok (.istore 4, 2) := by decide +kernel
theorem d_X_oarFault_69 : decode (mCd M_X_oarFault) 69 = .ok (.iload 4, 2) := by decide +kernel
theorem d_X_oarFault_71 : decode (mCd M_X_oarFault) 71 = .ok (.ifCond .lt 15, 3) := by decide +kernel
theorem d_X_oarFault_74 : decode (mCd M_X_oarFault) 74 = .ok (.iload 4, 2) := by decide +kernel
theorem d_X_oarFault_76 : decode (mCd M_X_oarFault) 76 = .ok (.aload_n 0, 1) := by decide +kernel
theorem d_X_oarFault_77 : decode (mCd M_X_oarFault) 77 = .ok (.getfield 26, 3) := by decide +kernel
theorem d_X_oarFault_80 : decode (mCd M_X_oarFault) 80 = .ok (.getfield 412, 3) := by decide +kernel
theorem d_X_oarFault_83 : decode (mCd M_X_oarFault) 83 = .ok (.if_icmp .lt 7, 3) := by decide +kernel
theorem d_X_oarFault_86 : decode (mCd M_X_oarFault) 86 = .ok (.iload_n 1, 1) := by decide +kernel
theorem d_X_oarFault_87 : decode (mCd M_X_oarFault) 87 = .ok (.iconst 2, 1) := by decide +kernel
theorem d_X_oarFault_88 : decode (mCd M_X_oarFault) 88 = .ok (.iadd, 1) := by decide +kernel
theorem d_X_oarFault_89 : decode (mCd M_X_oarFault) 89 = .ok (.ireturn, 1) := by decide +kernel
theorem d_X_oarFault_90 : decode (mCd M_X_oarFault) 90 = .ok (.aload_n 0, 1) := by decide +kernel
theorem d_X_oarFault_91 : decode (mCd M_X_oarFault) 91 = .ok (.getfield 10, 3) := by decide +kernel
theorem d_X_oarFault_94 : decode (mCd M_X_oarFault) 94 = .ok (.iload_n 1, 1) := by decide +kernel
theorem d_X_oarFault_95 : decode (mCd M_X_oarFault) 95 = .ok (.iconst 3, 1) := by decide +kernel
theorem d_X_oarFault_96 : decode (mCd M_X_oarFault) 96 = .ok (.iadd, 1) := by decide +kernel
theorem d_X_oarFault_97 : decode (mCd M_X_oarFault) 97 = .ok (.invokevirtual 426, 3) := by decide +kernel
theorem d_X_oarFault_100 : decode (mCd M_X_oarFault) 100 = .ok (.ifCond .ge 7, 3) := by decide +kernel
theorem d_X_oarFault_103 : decode (mCd M_X_oarFault) 103 = .ok (.iload_n 1, 1) := by decide +kernel
theorem d_X_oarFault_104 : decode (mCd M_X_oarFault) 104 = .ok (.iconst 3, 1) := by decide +kernel
theorem d_X_oarFault_105 : decode (mCd M_X_oarFault) 105 = .ok (.iadd, 1) := by decide +kernel
theorem d_X_oarFault_106 : decode (mCd M_X_oarFault) 106 = .ok (.ireturn, 1) := by decide +kernel
theorem d_X_oarFault_107 : decode (mCd M_X_oarFault) 107 = .ok (.iinc 1 4, 3) := by decide +kernel
theorem d_X_oarFault_110 : decode (mCd M_X_oarFault) 110 = .ok (.iload_n 1, 1) := by decide +kernel
theorem d_X_oarFault_111 : decode (mCd M_X_oarFault) 111 = .ok (.aload_n 0, 1) := by decide +kernel
theorem d_X_oarFault_112 : decode (mCd M_X_oarFault) 112 = .ok (.getfield 10, 3) := by decide +kernel
theorem d_X_oarFault_115 : decode (mCd M_X_oarFault) 115 = .ok (.invokevirtual 116, 3) := by decide +kernel
theorem d_X_oarFault_118 : decode (mCd M_X_oarFault) 118 = .ok (.if_icmp .ne 5, 3) := by decide +kernel
theorem d_X_oarFault_121 : decode (mCd M_X_oarFault) 121 = .ok (.iconst (-1), 1) := by decide +kernel
theorem d_X_oarFault_122 : decode (mCd M_X_oarFault) 122 = .ok (.ireturn, 1) := by decide +kernel
theorem d_X_oarFault_123 : decode (mCd M_X_oarFault) 123 = .ok (.aload_n 0, 1) := by decide +kernel
theorem d_X_oarFault_124 : decode (mCd M_X_oarFault) 124 = .ok (.getfield 10, 3) := by decide +kernel
theorem d_X_oarFault_127 : decode (mCd M_X_oarFault) 127 = .ok (.iload_n 1, 1) := by decide +kernel
theorem d_X_oarFault_128 : decode (mCd M_X_oarFault) 128 = .ok (.invokevirtual 264, 3) := by decide +kernel
theorem d_X_oarFault_131 : decode (mCd M_X_oarFault) 131 = .ok (.bipush 59, 2) := by decide +kernel
theorem d_X_oarFault_133 : decode (mCd M_X_oarFault) 133 = .ok (.if_icmp .eq 5, 3) := by decide +kernel
theorem d_X_oarFault_136 : decode (mCd M_X_oarFault) 136 = .ok (.iload_n 1, 1) := by decide +kernel
theorem d_X_oarFault_137 : decode (mCd M_X_oarFault) 137 = .ok (.ireturn, 1) := by decide +kernel
theorem d_X_oarFault_138 : decode (mCd M_X_oarFault) 138 = .ok (.iinc 1 1, 3) := by decide +kernel
theorem d_X_oarFault_141 : decode (mCd M_X_oarFault) 141 = .ok (.iinc 2 1, 3) := by decide +kernel
theorem d_X_oarFault_144 : decode (mCd M_X_oarFault) 144 = .ok (.goto (-140), 3) := by decide +kernel
theorem d_X_oarFault_147 : decode (mCd M_X_oarFault) 147 = .ok (.iload_n 1, 1) := by decide +kernel
theorem d_X_oarFault_148 : decode (mCd M_X_oarFault) 148 = .ok (.ireturn, 1) := by decide +kernel
theorem d_X_addPromises_0 : decode (mCd M_X_addPromises) 0 = .ok (.iconst 0, 1) := by decide +kernel
theorem d_X_addPromises_1 : decode (mCd M_X_addPromises) 1 = .ok (.istore_n 1, 1) := by decide +kernel
theorem d_X_addPromises_2 : decode (mCd M_X_addPromises) 2 = .ok (.iconst 0, 1) := by decide +kernel
theorem d_X_addPromises_3 : decode (mCd M_X_addPromises) 3 = .ok (.istore_n 2, 1) := by decide +kernel
theorem d_X_addPromises_4 : decode (mCd M_X_addPromises) 4 = .ok (.iload_n 2, 1) := by decide +kernel
theorem d_X_addPromises_5 : decode (mCd M_X_addPromises) 5 = .ok (.aload_n 0, 1) := by decide +kernel
theorem d_X_addPromises_6 : decode (mCd M_X_addPromises) 6 = .ok (.getfield 10, 3) := by decide +kernel
theorem d_X_addPromises_9 : decode (mCd M_X_addPromises) 9 = .ok (.invokevirtual 116, 3) := by decide +kernel
theorem d_X_addPromises_12 : decode (mCd M_X_addPromises) 12 = .ok (.if_icmp .ge 68, 3) := by decide +kernel
theorem d_X_addPromises_15 : decode (mCd M_X_addPromises) 15 = .ok (.aload_n 0, 1) := by decide +kernel
theorem d_X_addPromises_16 : decode (mCd M_X_addPromises) 16 = .ok (.getfield 26, 3) := by decide +kernel
theorem d_X_addPromises_19 : decode (mCd M_X_addPromises) 19 = .ok (.aload_n 0, 1) := by decide +kernel
theorem d_X_addPromises_20 : decode (mCd M_X_addPromises) 20 = .ok (.getfield 10, 3) := by decide +kernel
theorem d_X_addPromises_23 : decode (mCd M_X_addPromises) 23 = .ok (.iload_n 2, 1) := by decide +kernel
theorem d_X_addPromises_24 : decode (mCd M_X_addPromises) 24 = .ok (.iconst 1, 1) := by decide +kernel
theorem d_X_addPromises_25 : decode (mCd M_X_addPromises) 25 = .ok (.iadd, 1) := by decide +kernel
theorem d_X_addPromises_26 : decode (mCd M_X_addPromises) 26 = .ok (.invokevirtual 426, 3) := by decide +kernel
theorem d_X_addPromises_29 : decode (mCd M_X_addPromises) 29 = .ok (.aload_n 0, 1) := by decide +kernel
theorem d_X_addPromises_30 : decode (mCd M_X_addPromises) 30 = .ok (.getfield 10, 3) := by decide +kernel
theorem d_X_addPromises_33 : decode (mCd M_X_addPromises) 33 = .ok (.iload_n 2, 1) := by decide +kernel
theorem d_X_addPromises_34 : decode (mCd M_X_addPromises) 34 = .ok (.iconst 2, 1) := by decide +kernel
theorem d_X_addPromises_35 : decode (mCd M_X_addPromises) 35 = .ok (.iadd, 1) := by decide +kernel
theorem d_X_addPromises_36 : decode (mCd M_X_addPromises) 36 = .ok (.invokevirtual 426, 3) := by decide +kernel
theorem d_X_addPromises_39 : decode (mCd M_X_addPromises) 39 = .ok (.invokevirtual 438, 3) := by decide +kernel
theorem d_X_addPromises_42 : decode (mCd M_X_addPromises) 42 = .ok (.istore_n 3, 1) := by decide +kernel
theorem d_X_addPromises_43 : decode (mCd M_X_addPromises) 43 = .ok (.aload_n 0, 1) := by decide +kernel
theorem d_X_addPromises_44 : decode (mCd M_X_addPromises) 44 = .ok (.aload_n 0, 1) := by decide +kernel
theorem d_X_addPromises_45 : decode (mCd M_X_addPromises) 45 = .ok (.getfield 65, 3) := by decide +kernel
theorem d_X_addPromises_48 : decode (mCd M_X_addPromises) 48 = .ok (.aload_n 0, 1) := by decide +kernel
theorem d_X_addPromises_49 : decode (mCd M_X_addPromises) 49 = .ok (.getfield 10, 3) := by decide +kernel
theorem d_X_addPromises_52 : decode (mCd M_X_addPromises) 52 = .ok (.iload_n 2, 1) := by decide +kernel
theorem d_X_addPromises_53 : decode (mCd M_X_addPromises) 53 = .ok (.invokevirtual 426, 3) := by decide +kernel
theorem d_X_addPromises_56 : decode (mCd M_X_addPromises) 56 = .ok (.iload_n 3, 1) := by decide +kernel
theorem d_X_addPromises_57 : decode (mCd M_X_addPromises) 57 = .ok (.aload_n 0, 1) := by decide +kernel
theorem d_X_addPromises_58 : decode (mCd M_X_addPromises) 58 = .ok (.getfield 10, 3) := by decide +kernel
theorem d_X_addPromises_61 : decode (mCd M_X_addPromises) 61 = .ok (.iload_n 2, 1) := by decide +kernel
theorem d_X_addPromises_62 : decode (mCd M_X_addPromises) 62 = .ok (.iconst 3, 1) := by decide +kernel
theorem d_X_addPromises_63 : decode (mCd M_X_addPromises) 63 = .ok (.iadd, 1) := by decide +kernel
theorem d_X_addPromises_64 : decode (mCd M_X_addPromises) 64 = .ok (.invokevirtual 426, 3) := by decide +kernel
theorem d_X_addPromises_67 : decode (mCd M_X_addPromises) 67 = .ok (.invokevirtual 244, 3) := by decide +kernel
theorem d_X_addPromises_70 : decode (mCd M_X_addPromises) 70 = .ok (.pop, 1) := by decide +kernel
theorem d_X_addPromises_71 : decode (mCd M_X_addPromises) 71 = .ok (.iinc 1 1, 3) := by decide +kernel
theorem d_X_addPromises_74 : decode (mCd M_X_addPromises) 74 = .ok (.iinc 2 5, 3) := by decide +kernel
theorem d_X_addPromises_77 : decode (mCd M_X_addPromises) 77 = .ok (.goto (-73), 3) := by decide +kernel
theorem d_X_addPromises_80 : decode (mCd M_X_addPromises) 80 = .ok (.iload_n 1, 1) := by decide +kernel
theorem d_X_addPromises_81 : decode (mCd M_X_addPromises) 81 = .ok (.ireturn, 1) := by decide +kernel
theorem d_X_digitsBehind_0 : decode (mCd M_X_digitsBehind) 0 = .ok (.iload_n 0, 1) := by decide +kernel
theorem d_X_digitsBehind_1 : decode (mCd M_X_digitsBehind) 1 = .ok (.lookupswitch 55 #[(98, 53), (108, 53), (110, 53), (112, 51), (116, 53)], 51) := by decide +kernel
theorem d_X_digitsBehind_52 : decode (mCd M_X_digitsBehind) 52 = .ok (.iconst 4, 1) := by decide +kernel
theorem d_X_digitsBehind_53 : decode (mCd M_X_digitsBehind) 53 = .ok (.ireturn, 1) := by decide +kernel
theorem d_X_digitsBehind_54 : decode (mCd M_X_digitsBehind) 54 = .ok (.iconst 1, 1) := by decide +kernel
theorem d_X_digitsBehind_55 : decode (mCd M_X_digitsBehind) 55 = .ok (.ireturn, 1) := by decide +kernel
theorem d_X_digitsBehind_56 : decode (mCd M_X_digitsBehind) 56 = .ok (.iconst (-1), 1) := by decide +kernel
theorem d_X_digitsBehind_57 : decode (mCd M_X_digitsBehind) 57 = .ok (.ireturn, 1) := by decide +kernel
theorem d_X_dayFault_0 : decode (mCd M_X_dayFault) 0 = .ok (.iconst 0, 1) := by decide +kernel
theorem d_X_dayFault_1 : decode (mCd M_X_dayFault) 1 = .ok (.istore_n 1, 1) := by decide +kernel
theorem d_X_dayFault_2 : decode (mCd M_X_dayFault) 2 = .ok (.iload_n 1, 1) := by decide +kernel
theorem d_X_dayFault_3 : decode (mCd M_X_dayFault) 3 = .ok (.aload_n 0, 1) := by decide +kernel
theorem d_X_dayFault_4 : decode (mCd M_X_dayFault) 4 = .ok (.getfield 10, 3) := by decide +kernel
theorem d_X_dayFault_7 : decode (mCd M_X_dayFault) 7 = .ok (.invokevirtual 116, 3) := by decide +kernel
theorem d_X_dayFault_10 : decode (mCd M_X_dayFault) 10 = .ok (.if_icmp .ge 87, 3) := by decide +kernel
theorem d_X_dayFault_13 : decode (mCd M_X_dayFault) 13 = .ok (.aload_n 0, 1) := by decide +kernel
theorem d_X_dayFault_14 : decode (mCd M_X_dayFault) 14 = .ok (.getfield 10, 3) := by decide +kernel
theorem d_X_dayFault_17 : decode (mCd M_X_dayFault) 17 = .ok (.iload_n 1, 1) := by decide +kernel
theorem d_X_dayFault_18 : decode (mCd M_X_dayFault) 18 = .ok (.invokevirtual 264, 3) := by decide +kernel
theorem d_X_dayFault_21 : decode (mCd M_X_dayFault) 21 = .ok (.istore_n 2, 1) := by decide +kernel
theorem d_X_dayFault_22 : decode (mCd M_X_dayFault) 22 = .ok (.iload_n 2, 1) := by decide +kernel
theorem d_X_dayFault_23 : decode (mCd M_X_dayFault) 23 = .ok (.invokestatic 267, 3) := by decide +kernel
theorem d_X_dayFault_26 : decode (mCd M_X_dayFault) 26 = .ok (.istore_n 3, 1) := by decide +kernel
theorem d_X_dayFault_27 : decode (mCd M_X_dayFault) 27 = .ok (.iload_n 1, 1) := by decide +kernel
theorem d_X_dayFault_28 : decode (mCd M_X_dayFault) 28 = .ok (.bipush 60, 2) := by decide +kernel
theorem d_X_dayFault_30 : decode (mCd M_X_dayFault) 30 = .ok (.if_icmp .ge 8, 3) := by decide +kernel
theorem d_X_dayFault_33 : decode (mCd M_X_dayFault) 33 = .ok (.iload_n 3, 1) := by decide +kernel
theorem d_X_dayFault_34 : decode (mCd M_X_dayFault) 34 = .ok (.iconst (-1), 1) := by decide +kernel
theorem d_X_dayFault_35 : decode (mCd M_X_dayFault) 35 = .ok (.if_icmp .ne 5, 3) := by decide +kernel
theorem d_X_dayFault_38 : decode (mCd M_X_dayFault) 38 = .ok (.iload_n 1, 1) := by decide +kernel
theorem d_X_dayFault_39 : decode (mCd M_X_dayFault) 39 = .ok (.ireturn, 1) := by decide +kernel
theorem d_X_dayFault_40 : decode (mCd M_X_dayFault) 40 = .ok (.iload_n 2, 1) := by decide +kernel
theorem d_X_dayFault_41 : decode (mCd M_X_dayFault) 41 = .ok (.bipush 98, 2) := by decide +kernel
theorem d_X_dayFault_43 : decode (mCd M_X_dayFault) 43 = .ok (.if_icmp .ne 7, 3) := by decide +kernel
theorem d_X_dayFault_46 : decode (mCd M_X_dayFault) 46 = .ok (.iconst 1, 1) := by decide +kernel
theorem d_X_dayFault_47 : decode (mCd M_X_dayFault) 47 = .ok (.goto 4, 3) := by decide +kernel
theorem d_X_dayFault_50 : decode (mCd M_X_dayFault) 50 = .ok (.iconst 0, 1) := by decide +kernel
theorem d_X_dayFault_51 : decode (mCd M_X_dayFault) 51 = .ok (.istore 4, 2) := by decide +kernel
theorem d_X_dayFault_53 : decode (mCd M_X_dayFault) 53 = .ok (.iload_n 3, 1) := by decide +kernel
theorem d_X_dayFault_54 : decode (mCd M_X_dayFault) 54 = .ok (.istore 5, 2) := by decide +kernel
theorem d_X_dayFault_56 : decode (mCd M_X_dayFault) 56 = .ok (.iload 5, 2) := by decide +kernel
theorem d_X_dayFault_58 : decode (mCd M_X_dayFault) 58 = .ok (.ifCond .le 33, 3) := by decide +kernel
theorem d_X_dayFault_61 : decode (mCd M_X_dayFault) 61 = .ok (.iinc 1 1, 3) := by decide +kernel
theorem d_X_dayFault_64 : decode (mCd M_X_dayFault) 64 = .ok (.iload_n 1, 1) := by decide +kernel
theorem d_X_dayFault_65 : decode (mCd M_X_dayFault) 65 = .ok (.bipush 60, 2) := by decide +kernel
theorem d_X_dayFault_67 : decode (mCd M_X_dayFault) 67 = .ok (.if_icmp .ge 16, 3) := by decide +kernel
theorem d_X_dayFault_70 : decode (mCd M_X_dayFault) 70 = .ok (.aload_n 0, 1) := by decide +kernel
theorem d_X_dayFault_71 : decode (mCd M_X_dayFault) 71 = .ok (.getfield 10, 3) := by decide +kernel
theorem d_X_dayFault_74 : decode (mCd M_X_dayFault) 74 = .ok (.iload_n 1, 1) := by decide +kernel
theorem d_X_dayFault_75 : decode (mCd M_X_dayFault) 75 = .ok (.invokevirtual 426, 3) := by decide +kernel
theorem d_X_dayFault_78 : decode (mCd M_X_dayFault) 78 = .ok (.iload 4, 2) := by decide +kernel
theorem d_X_dayFault_80 : decode (mCd M_X_dayFault) 80 = .ok (.if_icmp .ge 5, 3) := by decide +kernel
theorem d_X_dayFault_83 : decode (mCd M_X_dayFault) 83 = .ok (.iload_n 1, 1) := by decide +kernel
theorem d_X_dayFault_84 : decode (mCd M_X_dayFault) 84 = .ok (.ireturn, 1) := by decide +kernel
theorem d_X_dayFault_85 : decode (mCd M_X_dayFault) 85 = .ok (.iinc 5 (-1), 3) := by decide +kernel
theorem d_X_dayFault_88 : decode (mCd M_X_dayFault) 88 = .ok (.goto (-32), 3) := by decide +kernel
theorem d_X_dayFault_91 : decode (mCd M_X_dayFault) 91 = .ok (.iinc 1 1, 3) := by decide +kernel
theorem d_X_dayFault_94 : decode (mCd M_X_dayFault) 94 = .ok (.goto (-92), 3) := by decide +kernel
theorem d_X_dayFault_97 : decode (mCd M_X_dayFault) 97 = .ok (.iconst (-1), 1) := by decide +kernel
theorem d_X_dayFault_98 : decode (mCd M_X_dayFault) 98 = .ok (.ireturn, 1) := by decide +kernel
theorem d_X_doAct_0 : decode (mCd M_X_doAct) 0 = .ok (.aload_n 0, 1) := by decide +kernel
theorem d_X_doAct_1 : decode (mCd M_X_doAct) 1 = .ok (.getfield 10, 3) := by decide +kernel
theorem d_X_doAct_4 : decode (mCd M_X_doAct) 4 = .ok (.iload_n 1, 1) := by decide +kernel
theorem d_X_doAct_5 : decode (mCd M_X_doAct) 5 = .ok (.iconst 1, 1) := by decide +kernel
theorem d_X_doAct_6 : decode (mCd M_X_doAct) 6 = .ok (.iadd, 1) := by decide +kernel
theorem d_X_doAct_7 : decode (mCd M_X_doAct) 7 = .ok (.invokevirtual 426, 3) := by decide +kernel
theorem d_X_doAct_10 : decode (mCd M_X_doAct) 10 = .ok (.istore_n 2, 1) := by decide +kernel
theorem d_X_doAct_11 : decode (mCd M_X_doAct) 11 = .ok (.aload_n 0, 1) := by decide +kernel
theorem d_X_doAct_12 : decode (mCd M_X_doAct) 12 = .ok (.getfield 10, 3) := by decide +kernel
theorem d_X_doAct_15 : decode (mCd M_X_doAct) 15 = .ok (.iload_n 1, 1) := by decide +kernel
theorem d_X_doAct_16 : decode (mCd M_X_doAct) 16 = .ok (.invokevirtual 264, 3) := by decide +kernel
theorem d_X_doAct_19 : decode (mCd M_X_doAct) 19 = .ok (.lookupswitch 124 #[(98, 118), (108, 108), (110, 49), (112, 55), (116, 102)], 49) := by decide +kernel
theorem d_X_doAct_68 : decode (mCd M_X_doAct) 68 = .ok (.aload_n 0, 1) := by decide +kernel
theorem d_X_doAct_69 : decode (mCd M_X_doAct) 69 = .ok (.iload_n 2, 1) := by decide +kernel
theorem d_X_doAct_70 : decode (mCd M_X_doAct) 70 = .ok (.invokevirtual 222, 3) := by decide +kernel
theorem d_X_doAct_73 : decode (mCd M_X_doAct) 73 = .ok (.ireturn, 1) := by decide +kernel
theorem d_X_doAct_74 : decode (mCd M_X_doAct) 74 = .ok (.aload_n 0, 1) := by decide +kernel
theorem d_X_doAct_75 : decode (mCd M_X_doAct) 75 = .ok (.aload_n 0, 1) := by decide +kernel
theorem d_X_doAct_76 : decode (mCd M_X_doAct) 76 = .ok (.getfield 65, 3) := by decide +kernel
theorem d_X_doAct_79 : decode (mCd M_X_doAct) 79 = .ok (.iload_n 2, 1) := by decide +kernel
theorem d_X_doAct_80 : decode (mCd M_X_doAct) 80 = .ok (.aload_n 0, 1) := by decide +kernel
theorem d_X_doAct_81 : decode (mCd M_X_doAct) 81 = .ok (.getfield 26, 3) := by decide +kernel
theorem d_X_doAct_84 : decode (mCd M_X_doAct) 84 = .ok (.aload_n 0, 1) := by decide +kernel
theorem d_X_doAct_85 : decode (mCd M_X_doAct) 85 = .ok (.getfield 10, 3) := by decide +kernel
theorem d_X_doAct_88 : decode (mCd M_X_doAct) 88 = .ok (.iload_n 1, 1) := by decide +kernel
theorem d_X_doAct_89 : decode (mCd M_X_doAct) 89 = .ok (.iconst 2, 1) := by decide +kernel
theorem d_X_doAct_90 : decode (mCd M_X_doAct) 90 = .ok (.iadd, 1) := by decide +kernel
theorem d_X_doAct_91 : decode (mCd M_X_doAct) 91 = .ok (.invokevirtual 426, 3) := by decide +kernel
theorem d_X_doAct_94 : decode (mCd M_X_doAct) 94 = .ok (.aload_n 0, 1) := by decide +kernel
theorem d_X_doAct_95 : decode (mCd M_X_doAct) 95 = .ok (.getfield 10, 3) := by decide +kernel
theorem d_X_doAct_98 : decode (mCd M_X_doAct) 98 = .ok (.iload_n 1, 1) := by decide +kernel
theorem d_X_doAct_99 : decode (mCd M_X_doAct) 99 = .ok (.iconst 3, 1) := by decide +kernel
theorem d_X_doAct_100 : decode (mCd M_X_doAct) 100 = .ok (.iadd, 1) := by decide +kernel
theorem d_X_doAct_101 : decode (mCd M_X_doAct) 101 = .ok (.invokevirtual 426, 3) := by decide +kernel
theorem d_X_doAct_104 : decode (mCd M_X_doAct) 104 = .ok (.invokevirtual 438, 3) := by decide +kernel
theorem d_X_doAct_107 : decode (mCd M_X_doAct) 107 = .ok (.aload_n 0, 1) := by decide +kernel
theorem d_X_doAct_108 : decode (mCd M_X_doAct) 108 = .ok (.getfield 10, 3) := by decide +kernel
theorem d_X_doAct_111 : decode (mCd M_X_doAct) 111 = .ok (.iload_n 1, 1) := by decide +kernel
theorem d_X_doAct_112 : decode (mCd M_X_doAct) 112 = .ok (.iconst 4, 1) := by decide +kernel
theorem d_X_doAct_113 : decode (mCd M_X_doAct) 113 = .ok (.iadd, 1) := by decide +kernel
theorem d_X_doAct_114 : decode (mCd M_X_doAct) 114 = .ok (.invokevirtual 426, 3) := by decide +kernel
theorem d_X_doAct_117 : decode (mCd M_X_doAct) 117 = .ok (.invokevirtual 244, 3) := by decide +kernel
theorem d_X_doAct_120 : decode (mCd M_X_doAct) 120 = .ok (.ireturn, 1) := by decide +kernel
theorem d_X_doAct_121 : decode (mCd M_X_doAct) 121 = .ok (.aload_n 0, 1) := by decide +kernel
theorem d_X_doAct_122 : decode (mCd M_X_doAct) 122 = .ok (.iload_n 2, 1) := by decide +kernel
theorem d_X_doAct_123 : decode (mCd M_X_doAct) 123 = .ok (.invokevirtual 248, 3) := by decide +kernel
theorem d_X_doAct_126 : decode (mCd M_X_doAct) 126 = .ok (.ireturn, 1) := by decide +kernel
theorem d_X_doAct_127 : decode (mCd M_X_doAct) 127 = .ok (.aload_n 0, 1) := by decide +kernel
theorem d_X_doAct_128 : decode (mCd M_X_doAct) 128 = .ok (.aload_n 0, 1) := by decide +kernel
theorem d_X_doAct_129 : decode (mCd M_X_doAct) 129 = .ok (.getfield 65, 3) := by decide +kernel
theorem d_X_doAct_132 : decode (mCd M_X_doAct) 132 = .ok (.iload_n 2, 1) := by decide +kernel
theorem d_X_doAct_133 : decode (mCd M_X_doAct) 133 = .ok (.invokevirtual 251, 3) := by decide +kernel
theorem d_X_doAct_136 : decode (mCd M_X_doAct) 136 = .ok (.ireturn, 1) := by decide +kernel
theorem d_X_doAct_137 : decode (mCd M_X_doAct) 137 = .ok (.aload_n 0, 1) := by decide +kernel
theorem d_X_doAct_138 : decode (mCd M_X_doAct) 138 = .ok (.iload_n 2, 1) := by decide +kernel
theorem d_X_doAct_139 : decode (mCd M_X_doAct) 139 = .ok (.invokevirtual 255, 3) := by decide +kernel
theorem d_X_doAct_142 : decode (mCd M_X_doAct) 142 = .ok (.ireturn, 1) := by decide +kernel
theorem d_X_doAct_143 : decode (mCd M_X_doAct) 143 = .ok (.iconst (-1), 1) := by decide +kernel
theorem d_X_doAct_144 : decode (mCd M_X_doAct) 144 = .ok (.ireturn, 1) := by decide +kernel
theorem d_X_noted_0 : decode (mCd M_X_noted) 0 = .ok (.iload_n 1, 1) := by decide +kernel
theorem d_X_noted_1 : decode (mCd M_X_noted) 1 = .ok (.ifCond .lt 14, 3) := by decide +kernel
theorem d_X_noted_4 : decode (mCd M_X_noted) 4 = .ok (.aload_n 0, 1) := by decide +kernel
theorem d_X_noted_5 : decode (mCd M_X_noted) 5 = .ok (.getfield 78, 3) := by decide +kernel
theorem d_X_noted_8 : decode (mCd M_X_noted) 8 = .ok (.aload_n 0, 1) := by decide +kernel
theorem d_X_noted_9 : decode (mCd M_X_noted) 9 = .ok (.getfield 69, 3) := by decide +kernel
theorem d_X_noted_12 : decode (mCd M_X_noted) 12 = .ok (.invokevirtual 160, 3) := by decide +kernel
theorem d_X_noted_15 : decode (mCd M_X_noted) 15 = .ok (.iload_n 1, 1) := by decide +kernel
theorem d_X_noted_16 : decode (mCd M_X_noted) 16 = .ok (.ireturn, 1) := by decide +kernel
theorem d_X_passHours_0 : decode (mCd M_X_passHours) 0 = .ok (.iload_n 1, 1) := by decide +kernel
theorem d_X_passHours_1 : decode (mCd M_X_passHours) 1 = .ok (.ifCond .lt 9, 3) := by decide +kernel
theorem d_X_passHours_4 : decode (mCd M_X_passHours) 4 = .ok (.iload_n 1, 1) := by decide +kernel
theorem d_X_passHours_5 : decode (mCd M_X_passHours) 5 = .ok (.bipush 60, 2) := by decide +kernel
theorem d_X_passHours_7 : decode (mCd M_X_passHours) 7 = .ok (.if_icmp .le 5, 3) := by decide +kernel
theorem d_X_passHours_10 : decode (mCd M_X_passHours) 10 = .ok (.iconst (-1), 1) := by decide +kernel
theorem d_X_passHours_11 : decode (mCd M_X_passHours) 11 = .ok (.ireturn, 1) := by decide +kernel
theorem d_X_passHours_12 : decode (mCd M_X_passHours) 12 = .ok (.aload_n 0, 1) := by decide +kernel
theorem d_X_passHours_13 : decode (mCd M_X_passHours) 13 = .ok (.getfield 58, 3) := by decide +kernel
theorem d_X_passHours_16 : decode (mCd M_X_passHours) 16 = .ok (.aload_n 0, 1) := by decide +kernel
theorem d_X_passHours_17 : decode (mCd M_X_passHours) 17 = .ok (.getfield 65, 3) := by decide +kernel
theorem d_X_passHours_20 : decode (mCd M_X_passHours) 20 = .ok (.aload_n 0, 1) := by decide +kernel
theorem d_X_passHours_21 : decode (mCd M_X_passHours) 21 = .ok (.getfield 105, 3) := by decide +kernel
theorem d_X_passHours_24 : decode (mCd M_X_passHours) 24 = .ok (.iload_n 1, 1) := by decide +kernel
theorem d_X_passHours_25 : decode (mCd M_X_passHours) 25 = .ok (.invokevirtual 291, 3) := by decide +kernel
theorem d_X_passHours_28 : decode (mCd M_X_passHours) 28 = .ok (.aload_n 0, 1) := by decide +kernel
theorem d_X_passHours_29 : decode (mCd M_X_passHours) 29 = .ok (.getfield 65, 3) := by decide +kernel
theorem d_X_passHours_32 : decode (mCd M_X_passHours) 32 = .ok (.getfield 137, 3) := by decide +kernel
theorem d_X_passHours_35 : decode (mCd M_X_passHours) 35 = .ok (.ireturn, 1) := by decide +kernel
theorem d_X_canBePromised_0 : decode (mCd M_X_canBePromised) 0 = .ok (.aload_n 0, 1) := by decide +kernel
theorem d_X_canBePromised_1 : decode (mCd M_X_canBePromised) 1 = .ok (.getfield 33, 3) := by decide +kernel
theorem d_X_canBePromised_4 : decode (mCd M_X_canBePromised) 4 = .ok (.iload_n 1, 1) := by decide +kernel
theorem d_X_canBePromised_5 : decode (mCd M_X_canBePromised) 5 = .ok (.invokevirtual 172, 3) := by decide +kernel
theorem d_X_canBePromised_8 : decode (mCd M_X_canBePromised) 8 = .ok (.ifCond .eq 32, 3) := by decide +kernel
theorem d_X_canBePromised_11 : decode (mCd M_X_canBePromised) 11 = .ok (.aload_n 0, 1) := by decide +kernel
theorem d_X_canBePromised_12 : decode (mCd M_X_canBePromised) 12 = .ok (.getfield 33, 3) := by decide +kernel
theorem d_X_canBePromised_15 : decode (mCd M_X_canBePromised) 15 = .ok (.getfield 178, 3) := by decide +kernel
theorem d_X_canBePromised_18 : decode (mCd M_X_canBePromised) 18 = .ok (.iload_n 1, 1) := by decide +kernel
theorem d_X_canBePromised_19 : decode (mCd M_X_canBePromised) 19 = .ok (.iaload, 1) := by decide +kernel
theorem d_X_canBePromised_20 : decode (mCd M_X_canBePromised) 20 = .ok (.iconst 2, 1) := by decide +kernel
theorem d_X_canBePromised_21 : decode (mCd M_X_canBePromised) 21 = .ok (.if_icmp .eq 19, 3) := by decide +kernel
theorem d_X_canBePromised_24 : decode (mCd M_X_canBePromised) 24 = .ok (.aload_n 0, 1) := by decide +kernel
theorem d_X_canBePromised_25 : decode (mCd M_X_canBePromised) 25 = .ok (.getfield 65, 3) := by decide +kernel
theorem d_X_canBePromised_28 : decode (mCd M_X_canBePromised) 28 = .ok (.getfield 188, 3) := by decide +kernel
theorem d_X_canBePromised_31 : decode (mCd M_X_canBePromised) 31 = .ok (.iload_n 1, 1) := by decide +kernel
theorem d_X_canBePromised_32 : decode (mCd M_X_canBePromised) 32 = .ok (.iaload, 1) := by decide +kernel
theorem d_X_canBePromised_33 : decode (mCd M_X_canBePromised) 33 = .ok (.ifCond .le 7, 3) := by decide +kernel
theorem d_X_canBePromised_36 : decode (mCd M_X_canBePromised) 36 = .ok (.iconst 1, 1) := by decide +kernel
theorem d_X_canBePromised_37 : decode (mCd M_X_canBePromised) 37 = .ok (.goto 4, 3) := by decide +kernel
theorem d_X_canBePromised_40 : decode (mCd M_X_canBePromised) 40 = .ok (.iconst 0, 1) := by decide +kernel
theorem d_X_canBePromised_41 : decode (mCd M_X_canBePromised) 41 = .ok (.ireturn, 1) := by decide +kernel
theorem d_X_makePromise_0 : decode (mCd M_X_makePromise) 0 = .ok (.aload_n 0, 1) := by decide +kernel
theorem d_X_makePromise_1 : decode (mCd M_X_makePromise) 1 = .ok (.getfield 33, 3) := by decide +kernel
theorem d_X_makePromise_4 : decode (mCd M_X_makePromise) 4 = .ok (.iload_n 2, 1) := by decide +kernel
theorem d_X_makePromise_5 : decode (mCd M_X_makePromise) 5 = .ok (.invokevirtual 172, 3) := by decide +kernel
theorem d_X_makePromise_8 : decode (mCd M_X_makePromise) 8 = .ok (.ifCond .eq 26, 3) := by decide +kernel
theorem d_X_makePromise_11 : decode (mCd M_X_makePromise) 11 = .ok (.aload_n 0, 1) := by decide +kernel
theorem d_X_makePromise_12 : decode (mCd M_X_makePromise) 12 = .ok (.getfield 26, 3) := by decide +kernel
theorem d_X_makePromise_15 : decode (mCd M_X_makePromise) 15 = .ok (.iload_n 3, 1) := by decide +kernel
theorem d_X_makePromise_16 : decode (mCd M_X_makePromise) 16 = .ok (.invokevirtual 211, 3) := by decide +kernel
theorem d_X_makePromise_19 : decode (mCd M_X_makePromise) 19 = .ok (.ifCond .eq 15, 3) := by decide +kernel
theorem d_X_makePromise_22 : decode (mCd M_X_makePromise) 22 = .ok (.iload 4, 2) := by decide +kernel
theorem d_X_makePromise_24 : decode (mCd M_X_makePromise) 24 = .ok (.ifCond .lt 10, 3) := by decide +kernel
theorem d_X_makePromise_27 : decode (mCd M_X_makePromise) 27 = .ok (.iload 4, 2) := by decide +kernel
theorem d_X_makePromise_29 : decode (mCd M_X_makePromise) 29 = .ok (.bipush 9, 2) := by decide +kernel
theorem d_X_makePromise_31 : decode (mCd M_X_makePromise) 31 = .ok (.if_icmp .le 5, 3) := by decide +kernel
theorem d_X_makePromise_34 : decode (mCd M_X_makePromise) 34 = .ok (.iconst (-1), 1) := by decide +kernel
theorem d_X_makePromise_35 : decode (mCd M_X_makePromise) 35 = .ok (.ireturn, 1) := by decide +kernel
theorem d_X_makePromise_36 : decode (mCd M_X_makePromise) 36 = .ok (.aload_n 0, 1) := by decide +kernel
theorem d_X_makePromise_37 : decode (mCd M_X_makePromise) 37 = .ok (.getfield 33, 3) := by decide +kernel
theorem d_X_makePromise_40 : decode (mCd M_X_makePromise) 40 = .ok (.getfield 178, 3) := by decide +kernel
theorem d_X_makePromise_43 : decode (mCd M_X_makePromise) 43 = .ok (.iload_n 2, 1) := by decide +kernel
theorem d_X_makePromise_44 : decode (mCd M_X_makePromise) 44 = .ok (.iaload, 1) := by decide +kernel
theorem d_X_makePromise_45 : decode (mCd M_X_makePromise) 45 = .ok (.iconst 2, 1) := by decide +kernel
theorem d_X_makePromise_46 : decode (mCd M_X_makePromise) 46 = .ok (.if_icmp .ne 6, 3) := by decide +kernel
theorem d_X_makePromise_49 : decode (mCd M_X_makePromise) 49 = .ok (.bipush (-3), 2) := by decide +kernel
theorem d_X_makePromise_51 : decode (mCd M_X_makePromise) 51 = .ok (.ireturn, 1) := by decide +kernel
theorem d_X_makePromise_52 : decode (mCd M_X_makePromise) 52 = .ok (.aload_n 1, 1) := by decide +kernel
theorem d_X_makePromise_53 : decode (mCd M_X_makePromise) 53 = .ok (.getfield 188, 3) := by decide +kernel
theorem d_X_makePromise_56 : decode (mCd M_X_makePromise) 56 = .ok (.iload_n 2, 1) := by decide +kernel
theorem d_X_makePromise_57 : decode (mCd M_X_makePromise) 57 = .ok (.iaload, 1) := by decide +kernel
theorem d_X_makePromise_58 : decode (mCd M_X_makePromise) 58 = .ok (.ifCond .ne 6, 3) := by decide +kernel
theorem d_X_makePromise_61 : decode (mCd M_X_makePromise) 61 = .ok (.bipush (-4), 2) := by decide +kernel
theorem d_X_makePromise_63 : decode (mCd M_X_makePromise) 63 = .ok (.ireturn, 1) := by decide +kernel
theorem d_X_makePromise_64 : decode (mCd M_X_makePromise) 64 = .ok (.aload_n 1, 1) := by decide +kernel
theorem d_X_makePromise_65 : decode (mCd M_X_makePromise) 65 = .ok (.getfield 194, 3) := by decide +kernel
theorem d_X_makePromise_68 : decode (mCd M_X_makePromise) 68 = .ok (.iload_n 2, 1) := by decide +kernel
theorem d_X_makePromise_69 : decode (mCd M_X_makePromise) 69 = .ok (.iload_n 3, 1) := by decide +kernel
theorem d_X_makePromise_70 : decode (mCd M_X_makePromise) 70 = .ok (.iastore, 1) := by decide +kernel
theorem d_X_makePromise_71 : decode (mCd M_X_makePromise) 71 = .ok (.aload_n 1, 1) := by decide +kernel
theorem d_X_makePromise_72 : decode (mCd M_X_makePromise) 72 = .ok (.getfield 197, 3) := by decide +kernel
theorem d_X_makePromise_75 : decode (mCd M_X_makePromise) 75 = .ok (.iload_n 2, 1) := by decide +kernel
theorem d_X_makePromise_76 : decode (mCd M_X_makePromise) 76 = .ok (.iload 4, 2) := by decide +kernel
theorem d_X_makePromise_78 : decode (mCd M_X_makePromise) 78 = .ok (.iastore, 1) := by decide +kernel
theorem d_X_makePromise_79 : decode (mCd M_X_makePromise) 79 = .ok (.aload_n 1, 1) := by decide +kernel
theorem d_X_makePromise_80 : decode (mCd M_X_makePromise) 80 = .ok (.aload_n 0, 1) := by decide +kernel
theorem d_X_makePromise_81 : decode (mCd M_X_makePromise) 81 = .ok (.getfield 33, 3) := by decide +kernel
theorem d_X_makePromise_84 : decode (mCd M_X_makePromise) 84 = .ok (.getfield 131, 3) := by decide +kernel
theorem d_X_makePromise_87 : decode (mCd M_X_makePromise) 87 = .ok (.invokevirtual 329, 3) := by decide +kernel
theorem d_X_makePromise_90 : decode (mCd M_X_makePromise) 90 = .ok (.invokestatic 318, 3) := by decide +kernel
theorem d_X_makePromise_93 : decode (mCd M_X_makePromise) 93 = .ok (.ireturn, 1) := by decide +kernel
theorem d_X_dropPromise_0 : decode (mCd M_X_dropPromise) 0 = .ok (.aload_n 0, 1) := by decide +kernel
theorem d_X_dropPromise_1 : decode (mCd M_X_dropPromise) 1 = .ok (.getfield 33, 3) := by decide +kernel
theorem d_X_dropPromise_4 : decode (mCd M_X_dropPromise) 4 = .ok (.iload_n 1, 1) := by decide +kernel
theorem d_X_dropPromise_5 : decode (mCd M_X_dropPromise) 5 = .ok (.invokevirtual 172, 3) := by decide +kernel
theorem d_X_dropPromise_8 : decode (mCd M_X_dropPromise) 8 = .ok (.ifCond .ne 5, 3) := by decide +kernel
theorem d_X_dropPromise_11 : decode (mCd M_X_dropPromise) 11 = .ok (.iconst (-1), 1) := by decide +kernel
theorem d_X_dropPromise_12 : decode (mCd M_X_dropPromise) 12 = .ok (.ireturn, 1) := by decide +kernel
theorem d_X_dropPromise_13 : decode (mCd M_X_dropPromise) 13 = .ok (.aload_n 0, 1) := by decide +kernel
theorem d_X_dropPromise_14 : decode (mCd M_X_dropPromise) 14 = .ok (.getfield 65, 3) := by decide +kernel
theorem d_X_dropPromise_17 : decode (mCd M_X_dropPromise) 17 = .ok (.getfield 194, 3) := by decide +kernel
theorem d_X_dropPromise_20 : decode (mCd M_X_dropPromise) 20 = .ok (.iload_n 1, 1) := by decide +kernel
theorem d_X_dropPromise_21 : decode (mCd M_X_dropPromise) 21 = .ok (.iaload, 1) := by decide +kernel
theorem d_X_dropPromise_22 : decode (mCd M_X_dropPromise) 22 = .ok (.iconst (-1), 1) := by decide +kernel
theorem d_X_dropPromise_23 : decode (mCd M_X_dropPromise) 23 = .ok (.if_icmp .ne 6, 3) := by decide +kernel
theorem d_X_dropPromise_26 : decode (mCd M_X_dropPromise) 26 = .ok (.bipush (-2), 2) := by decide +kernel
theorem d_X_dropPromise_28 : decode (mCd M_X_dropPromise) 28 = .ok (.ireturn, 1) := by decide +kernel
theorem d_X_dropPromise_29 : decode (mCd M_X_dropPromise) 29 = .ok (.aload_n 0, 1) := by decide +kernel
theorem d_X_dropPromise_30 : decode (mCd M_X_dropPromise) 30 = .ok (.getfield 65, 3) := by decide +kernel
theorem d_X_dropPromise_33 : decode (mCd M_X_dropPromise) 33 = .ok (.getfield 194, 3) := by decide +kernel
theorem d_X_dropPromise_36 : decode (mCd M_X_dropPromise) 36 = .ok (.iload_n 1, 1) := by decide +kernel
theorem d_X_dropPromise_37 : decode (mCd M_X_dropPromise) 37 = .ok (.iconst (-1), 1) := by decide +kernel
theorem d_X_dropPromise_38 : decode (mCd M_X_dropPromise) 38 = .ok (.iastore, 1) := by decide +kernel
theorem d_X_dropPromise_39 : decode (mCd M_X_dropPromise) 39 = .ok (.aload_n 0, 1) := by decide +kernel
theorem d_X_dropPromise_40 : decode (mCd M_X_dropPromise) 40 = .ok (.getfield 65, 3) := by decide +kernel
theorem d_X_dropPromise_43 : decode (mCd M_X_dropPromise) 43 = .ok (.getfield 188, 3) := by decide +kernel
theorem d_X_dropPromise_46 : decode (mCd M_X_dropPromise) 46 = .ok (.iload_n 1, 1) := by decide +kernel
theorem d_X_dropPromise_47 : decode (mCd M_X_dropPromise) 47 = .ok (.iconst 0, 1) := by decide +kernel
theorem d_X_dropPromise_48 : decode (mCd M_X_dropPromise) 48 = .ok (.aload_n 0, 1) := by decide +kernel
theorem d_X_dropPromise_49 : decode (mCd M_X_dropPromise) 49 = .ok (.getfield 65, 3) := by decide +kernel
theorem d_X_dropPromise_52 : decode (mCd M_X_dropPromise) 52 = .ok (.getfield 188, 3) := by decide +kernel
theorem d_X_dropPromise_55 : decode (mCd M_X_dropPromise) 55 = .ok (.iload_n 1, 1) := by decide +kernel
theorem d_X_dropPromise_56 : decode (mCd M_X_dropPromise) 56 = .ok (.iaload, 1) := by decide +kernel
theorem d_X_dropPromise_57 : decode (mCd M_X_dropPromise) 57 = .ok (.iconst 3, 1) := by decide +kernel
theorem d_X_dropPromise_58 : decode (mCd M_X_dropPromise) 58 = .ok (.isub, 1) := by decide +kernel
theorem d_X_dropPromise_59 : decode (mCd M_X_dropPromise) 59 = .ok (.invokestatic 270, 3) := by decide +kernel
theorem d_X_dropPromise_62 : decode (mCd M_X_dropPromise) 62 = .ok (.iastore, 1) := by decide +kernel
theorem d_X_dropPromise_63 : decode (mCd M_X_dropPromise) 63 = .ok (.aload_n 0, 1) := by decide +kernel
theorem d_X_dropPromise_64 : decode (mCd M_X_dropPromise) 64 = .ok (.getfield 65, 3) := by decide +kernel
theorem d_X_dropPromise_67 : decode (mCd M_X_dropPromise) 67 = .ok (.getfield 188, 3) := by decide +kernel
theorem d_X_dropPromise_70 : decode (mCd M_X_dropPromise) 70 = .ok (.iload_n 1, 1) := by decide +kernel
theorem d_X_dropPromise_71 : decode (mCd M_X_dropPromise) 71 = .ok (.iaload, 1) := by decide +kernel
theorem d_X_dropPromise_72 : decode (mCd M_X_dropPromise) 72 = .ok (.ireturn, 1) := by decide +kernel
theorem d_X_turnHold_0 : decode (mCd M_X_turnHold) 0 = .ok (.aload_n 0, 1) := by decide +kernel
theorem d_X_turnHold_1 : decode (mCd M_X_turnHold) 1 = .ok (.getfield 33, 3) := by decide +kernel
theorem d_X_turnHold_4 : decode (mCd M_X_turnHold) 4 = .ok (.iload_n 2, 1) := by decide +kernel
theorem d_X_turnHold_5 : decode (mCd M_X_turnHold) 5 = .ok (.invokevirtual 172, 3) := by decide +kernel
theorem d_X_turnHold_8 : decode (mCd M_X_turnHold) 8 = .ok (.ifCond .ne 5, 3) := by decide +kernel
theorem d_X_turnHold_11 : decode (mCd M_X_turnHold) 11 = .ok (.iconst (-1), 1) := by decide +kernel
theorem d_X_turnHold_12 : decode (mCd M_X_turnHold) 12 = .ok (.ireturn, 1) := by decide +kernel
theorem d_X_turnHold_13 : decode (mCd M_X_turnHold) 13 = .ok (.aload_n 1, 1) := by decide +kernel
theorem d_X_turnHold_14 : decode (mCd M_X_turnHold) 14 = .ok (.dup, 1) := by decide +kernel
theorem d_X_turnHold_15 : decode (mCd M_X_turnHold) 15 = .ok (.getfield 134, 3) := by decide +kernel
theorem d_X_turnHold_18 : decode (mCd M_X_turnHold) 18 = .ok (.iconst 1, 1) := by decide +kernel
theorem d_X_turnHold_19 : decode (mCd M_X_turnHold) 19 = .ok (.iload_n 2, 1) := by decide +kernel
theorem d_X_turnHold_20 : decode (mCd M_X_turnHold) 20 = .ok (.ishl, 1) := by decide +kernel
theorem d_X_turnHold_21 : decode (mCd M_X_turnHold) 21 = .ok (.ixor, 1) := by decide +kernel
theorem d_X_turnHold_22 : decode (mCd M_X_turnHold) 22 = .ok (.putfield 134, 3) := by decide +kernel
theorem d_X_turnHold_25 : decode (mCd M_X_turnHold) 25 = .ok (.aload_n 1, 1) := by decide +kernel
theorem d_X_turnHold_26 : decode (mCd M_X_turnHold) 26 = .ok (.getfield 134, 3) := by decide +kernel
theorem d_X_turnHold_29 : decode (mCd M_X_turnHold) 29 = .ok (.invokestatic 318, 3) := by decide +kernel
theorem d_X_turnHold_32 : decode (mCd M_X_turnHold) 32 = .ok (.ireturn, 1) := by decide +kernel
theorem d_X_addCrumbs_0 : decode (mCd M_X_addCrumbs) 0 = .ok (.iload_n 1, 1) := by decide +kernel
theorem d_X_addCrumbs_1 : decode (mCd M_X_addCrumbs) 1 = .ok (.iconst 1, 1) := by decide +kernel
theorem d_X_addCrumbs_2 : decode (mCd M_X_addCrumbs) 2 = .ok (.if_icmp .lt 9, 3) := by decide +kernel
theorem d_X_addCrumbs_5 : decode (mCd M_X_addCrumbs) 5 = .ok (.iload_n 1, 1) := by decide +kernel
theorem d_X_addCrumbs_6 : decode (mCd M_X_addCrumbs) 6 = .ok (.bipush 99, 2) := by decide +kernel
theorem d_X_addCrumbs_8 : decode (mCd M_X_addCrumbs) 8 = .ok (.if_icmp .le 5, 3) := by decide +kernel
theorem d_X_addCrumbs_11 : decode (mCd M_X_addCrumbs) 11 = .ok (.iconst (-1), 1) := by decide +kernel
theorem d_X_addCrumbs_12 : decode (mCd M_X_addCrumbs) 12 = .ok (.ireturn, 1) := by decide +kernel
theorem d_X_addCrumbs_13 : decode (mCd M_X_addCrumbs) 13 = .ok (.aload_n 0, 1) := by decide +kernel
theorem d_X_addCrumbs_14 : decode (mCd M_X_addCrumbs) 14 = .ok (.getfield 65, 3) := by decide +kernel
theorem d_X_addCrumbs_17 : decode (mCd M_X_addCrumbs) 17 = .ok (.getfield 295, 3) := by decide +kernel
theorem d_X_addCrumbs_20 : decode (mCd M_X_addCrumbs) 20 = .ok (.iload_n 1, 1) := by decide +kernel
theorem d_X_addCrumbs_21 : decode (mCd M_X_addCrumbs) 21 = .ok (.iadd, 1) := by decide +kernel
theorem d_X_addCrumbs_22 : decode (mCd M_X_addCrumbs) 22 = .ok (.bipush 99, 2) := by decide +kernel
theorem d_X_addCrumbs_24 : decode (mCd M_X_addCrumbs) 24 = .ok (.if_icmp .le 6, 3) := by decide +kernel
theorem d_X_addCrumbs_27 : decode (mCd M_X_addCrumbs) 27 = .ok (.bipush (-3), 2) := by decide +kernel
theorem d_X_addCrumbs_29 : decode (mCd M_X_addCrumbs) 29 = .ok (.ireturn, 1) := by decide +kernel
theorem d_X_addCrumbs_30 : decode (mCd M_X_addCrumbs) 30 = .ok (.aload_n 0, 1) := by decide +kernel
theorem d_X_addCrumbs_31 : decode (mCd M_X_addCrumbs) 31 = .ok (.getfield 65, 3) := by decide +kernel
theorem d_X_addCrumbs_34 : decode (mCd M_X_addCrumbs) 34 = .ok (.dup, 1) := by decide +kernel
theorem d_X_addCrumbs_35 : decode (mCd M_X_addCrumbs) 35 = .ok (.getfield 295, 3) := by decide +kernel
theorem d_X_addCrumbs_38 : decode (mCd M_X_addCrumbs) 38 = .ok (.iload_n 1, 1) := by decide +kernel
theorem d_X_addCrumbs_39 : decode (mCd M_X_addCrumbs) 39 = .ok (.iadd, 1) := by decide +kernel
theorem d_X_addCrumbs_40 : decode (mCd M_X_addCrumbs) 40 = .ok (.putfield 295, 3) := by decide +kernel
theorem d_X_addCrumbs_43 : decode (mCd M_X_addCrumbs) 43 = .ok (.aload_n 0, 1) := by decide +kernel
theorem d_X_addCrumbs_44 : decode (mCd M_X_addCrumbs) 44 = .ok (.getfield 65, 3) := by decide +kernel
theorem d_X_addCrumbs_47 : decode (mCd M_X_addCrumbs) 47 = .ok (.getfield 295, 3) := by decide +kernel
theorem d_X_addCrumbs_50 : decode (mCd M_X_addCrumbs) 50 = .ok (.ireturn, 1) := by decide +kernel
theorem d_X_canBeAskedFor_0 : decode (mCd M_X_canBeAskedFor) 0 = .ok (.aload_n 0, 1) := by decide +kernel
theorem d_X_canBeAskedFor_1 : decode (mCd M_X_canBeAskedFor) 1 = .ok (.getfield 26, 3) := by decide +kernel
theorem d_X_canBeAskedFor_4 : decode (mCd M_X_canBeAskedFor) 4 = .ok (.iload_n 1, 1) := by decide +kernel
theorem d_X_canBeAskedFor_5 : decode (mCd M_X_canBeAskedFor) 5 = .ok (.invokevirtual 211, 3) := by decide +kernel
theorem d_X_canBeAskedFor_8 : decode (mCd M_X_canBeAskedFor) 8 = .ok (.ifCond .eq 18, 3) := by decide +kernel
theorem d_X_canBeAskedFor_11 : decode (mCd M_X_canBeAskedFor) 11 = .ok (.iload_n 2, 1) := by decide +kernel
theorem d_X_canBeAskedFor_12 : decode (mCd M_X_canBeAskedFor) 12 = .ok (.iconst 1, 1) := by decide +kernel
theorem d_X_canBeAskedFor_13 : decode (mCd M_X_canBeAskedFor) 13 = .ok (.if_icmp .lt 13, 3) := by decide +kernel
theorem d_X_canBeAskedFor_16 : decode (mCd M_X_canBeAskedFor) 16 = .ok (.iload_n 2, 1) := by decide +kernel
theorem d_X_canBeAskedFor_17 : decode (mCd M_X_canBeAskedFor) 17 = .ok (.bipush 20, 2) := by decide +kernel
theorem d_X_canBeAskedFor_19 : decode (mCd M_X_canBeAskedFor) 19 = .ok (.if_icmp .gt 7, 3) := by decide +kernel
theorem d_X_canBeAskedFor_22 : decode (mCd M_X_canBeAskedFor) 22 = .ok (.iconst 1, 1) := by decide +kernel
theorem d_X_canBeAskedFor_23 : decode (mCd M_X_canBeAskedFor) 23 = .ok (.goto 4, 3) := by decide +kernel
theorem d_X_canBeAskedFor_26 : decode (mCd M_X_canBeAskedFor) 26 = .ok (.iconst 0, 1) := by decide +kernel
theorem d_X_canBeAskedFor_27 : decode (mCd M_X_canBeAskedFor) 27 = .ok (.ireturn, 1) := by decide +kernel
theorem d_X_fewestBy_0 : decode (mCd M_X_fewestBy) 0 = .ok (.aload_n 0, 1) := by decide +kernel
theorem d_X_fewestBy_1 : decode (mCd M_X_fewestBy) 1 = .ok (.getfield 26, 3) := by decide +kernel
theorem d_X_fewestBy_4 : decode (mCd M_X_fewestBy) 4 = .ok (.aload_n 0, 1) := by decide +kernel
theorem d_X_fewestBy_5 : decode (mCd M_X_fewestBy) 5 = .ok (.getfield 65, 3) := by decide +kernel
theorem d_X_fewestBy_8 : decode (mCd M_X_fewestBy) 8 = .ok (.getfield 137, 3) := by decide +kernel
theorem d_X_fewestBy_11 : decode (mCd M_X_fewestBy) 11 = .ok (.invokevirtual 373, 3) := by decide +kernel
theorem d_X_fewestBy_14 : decode (mCd M_X_fewestBy) 14 = .ok (.aload_n 0, 1) := by decide +kernel
theorem d_X_fewestBy_15 : decode (mCd M_X_fewestBy) 15 = .ok (.getfield 26, 3) := by decide +kernel
theorem d_X_fewestBy_18 : decode (mCd M_X_fewestBy) 18 = .ok (.iload_n 1, 1) := by decide +kernel
theorem d_X_fewestBy_19 : decode (mCd M_X_fewestBy) 19 = .ok (.invokevirtual 376, 3) := by decide +kernel
theorem d_X_fewestBy_22 : decode (mCd M_X_fewestBy) 22 = .ok (.istore 5, 2) := by decide +kernel
theorem d_X_fewestBy_24 : decode (mCd M_X_fewestBy) 24 = .ok (.iload 5, 2) := by decide +kernel
theorem d_X_fewestBy_26 : decode (mCd M_X_fewestBy) 26 = .ok (.iconst (-1), 1) := by decide +kernel
theorem d_X_fewestBy_27 : decode (mCd M_X_fewestBy) 27 = .ok (.if_icmp .eq 9, 3) := by decide +kernel
theorem d_X_fewestBy_30 : decode (mCd M_X_fewestBy) 30 = .ok (.iload 5, 2) := by decide +kernel
theorem d_X_fewestBy_32 : decode (mCd M_X_fewestBy) 32 = .ok (.iload_n 3, 1) := by decide +kernel
theorem d_X_fewestBy_33 : decode (mCd M_X_fewestBy) 33 = .ok (.if_icmp .le 5, 3) := by decide +kernel
theorem d_X_fewestBy_36 : decode (mCd M_X_fewestBy) 36 = .ok (.iconst (-1), 1) := by decide +kernel
theorem d_X_fewestBy_37 : decode (mCd M_X_fewestBy) 37 = .ok (.ireturn, 1) := by decide +kernel
theorem d_X_fewestBy_38 : decode (mCd M_X_fewestBy) 38 = .ok (.iconst 0, 1) := by decide +kernel
theorem d_X_fewestBy_39 : decode (mCd M_X_fewestBy) 39 = .ok (.istore 6, 2) := by decide +kernel
theorem d_X_fewestBy_41 : decode (mCd M_X_fewestBy) 41 = .ok (.iconst 0, 1) := by decide +kernel
theorem d_X_fewestBy_42 : decode (mCd M_X_fewestBy) 42 = .ok (.istore 7, 2) := by decide +kernel
theorem d_X_fewestBy_44 : decode (mCd M_X_fewestBy) 44 = .ok (.iload 7, 2) := by decide +kernel
theorem d_X_fewestBy_46 : decode (mCd M_X_fewestBy) 46 = .ok (.aload_n 0, 1) := by decide +kernel
theorem d_X_fewestBy_47 : decode (mCd M_X_fewestBy) 47 = .ok (.getfield 33, 3) := by decide +kernel
theorem d_X_fewestBy_50 : decode (mCd M_X_fewestBy) 50 = .ok (.getfield 131, 3) := by decide +kernel
theorem d_X_fewestBy_53 : decode (mCd M_X_fewestBy) 53 = .ok (.if_icmp .ge 31, 3) := by decide +kernel
theorem d_X_fewestBy_56 : decode (mCd M_X_fewestBy) 56 = .ok (.iload 6, 2) := by decide +kernel
theorem d_X_fewestBy_58 : decode (mCd M_X_fewestBy) 58 = .ok (.aload_n 0, 1) := by decide +kernel
theorem d_X_fewestBy_59 : decode (mCd M_X_fewestBy) 59 = .ok (.iload 7, 2) := by decide +kernel
theorem d_X_fewestBy_61 : decode (mCd M_X_fewestBy) 61 = .ok (.invokevirtual 435, 3) := by decide +kernel
theorem d_X_fewestBy_64 : decode (mCd M_X_fewestBy) 64 = .ok (.ifCond .eq 10, 3) := by decide +kernel
theorem d_X_fewestBy_67 : decode (mCd M_X_fewestBy) 67 = .ok (.iconst 1, 1) := by decide +kernel
theorem d_X_fewestBy_68 : decode (mCd M_X_fewestBy) 68 = .ok (.iload 7, 2) := by decide +kernel
theorem d_X_fewestBy_70 : decode (mCd M_X_fewestBy) 70 = .ok (.ishl, 1) := by decide +kernel
theorem d_X_fewestBy_71 : decode (mCd M_X_fewestBy) 71 = .ok (.goto 4, 3) := by decide +kernel
theorem d_X_fewestBy_74 : decode (mCd M_X_fewestBy) 74 = .ok (.iconst 0, 1) := by decide +kernel
theorem d_X_fewestBy_75 : decode (mCd M_X_fewestBy) 75 = .ok (.ior, 1) := by decide +kernel
theorem d_X_fewestBy_76 : decode (mCd M_X_fewestBy) 76 = .ok (.istore 6, 2) := by decide +kernel
theorem d_X_fewestBy_78 : decode (mCd M_X_fewestBy) 78 = .ok (.iinc 7 1, 3) := by decide +kernel
theorem d_X_fewestBy_81 : decode (mCd M_X_fewestBy) 81 = .ok (.goto (-37), 3) := by decide +kernel
theorem d_X_fewestBy_84 : decode (mCd M_X_fewestBy) 84 = .ok (.iconst 0, 1) := by decide +kernel
theorem d_X_fewestBy_85 : decode (mCd M_X_fewestBy) 85 = .ok (.istore 7, 2) := by decide +kernel
theorem d_X_fewestBy_87 : decode (mCd M_X_fewestBy) 87 = .ok (.iload 7, 2) := by decide +kernel
theorem d_X_fewestBy_89 : decode (mCd M_X_fewestBy) 89 = .ok (.iload 4, 2) := by decide +kernel
theorem d_X_fewestBy_91 : decode (mCd M_X_fewestBy) 91 = .ok (.if_icmp .gt 83, 3) := by decide +kernel
theorem d_X_fewestBy_94 : decode (mCd M_X_fewestBy) 94 = .ok (.iload 7, 2) := by decide +kernel
theorem d_X_fewestBy_96 : decode (mCd M_X_fewestBy) 96 = .ok (.iload 6, 2) := by decide +kernel
theorem d_X_fewestBy_98 : decode (mCd M_X_fewestBy) 98 = .ok (.invokestatic 318, 3) := by decide +kernel
theorem d_X_fewestBy_101 : decode (mCd M_X_fewestBy) 101 = .ok (.if_icmp .gt 73, 3) := by decide +kernel
theorem d_X_fewestBy_104 : decode (mCd M_X_fewestBy) 104 = .ok (.iconst 0, 1) := by decide +kernel
theorem d_X_fewestBy_105 : decode (mCd M_X_fewestBy) 105 = .ok (.istore 8, 2) := by decide +kernel
theorem d_X_fewestBy_107 : decode (mCd M_X_fewestBy) 107 = .ok (.iload 8, 2) := by decide +kernel
theorem d_X_fewestBy_109 : decode (mCd M_X_fewestBy) 109 = .ok (.iload 6, 2) := by decide +kernel
theorem d_X_fewestBy_111 : decode (mCd M_X_fewestBy) 111 = .ok (.if_icmp .gt 57, 3) := by decide +kernel
theorem d_X_fewestBy_114 : decode (mCd M_X_fewestBy) 114 = .ok (.iload 8, 2) := by decide +kernel
theorem d_X_fewestBy_116 : decode (mCd M_X_fewestBy) 116 = .ok (.iload 6, 2) := by decide +kernel
theorem d_X_fewestBy_118 : decode (mCd M_X_fewestBy) 118 = .ok (.iconst (-1), 1) := by decide +kernel
theorem d_X_fewestBy_119 : decode (mCd M_X_fewestBy) 119 = .ok (.ixor, 1) := by decide +kernel
theorem d_X_fewestBy_120 : decode (mCd M_X_fewestBy) 120 = .ok (.iand, 1) := by decide +kernel
theorem d_X_fewestBy_121 : decode (mCd M_X_fewestBy) 121 = .ok (.ifCond .ne 17, 3) := by decide +kernel
theorem d_X_fewestBy_124 : decode (mCd M_X_fewestBy) 124 = .ok (.iload 8, 2) := by decide +kernel
theorem d_X_fewestBy_126 : decode (mCd M_X_fewestBy) 126 = .ok (.invokestatic 318, 3) := by decide +kernel
theorem d_X_fewestBy_129 : decode (mCd M_X_fewestBy) 129 = .ok (.iload 7, 2) := by decide +kernel
theorem d_X_fewestBy_131 : decode (mCd M_X_fewestBy) 131 = .ok (.if_icmp .ne 7, 3) := by decide +kernel
theorem d_X_fewestBy_134 : decode (mCd M_X_fewestBy) 134 = .ok (.iconst 1, 1) := by decide +kernel
theorem d_X_fewestBy_135 : decode (mCd M_X_fewestBy) 135 = .ok (.goto 4, 3) := by decide +kernel
theorem d_X_fewestBy_138 : decode (mCd M_X_fewestBy) 138 = .ok (.iconst 0, 1) := by decide +kernel
theorem d_X_fewestBy_139 : decode (mCd M_X_fewestBy) 139 = .ok (.istore 9, 2) := by decide +kernel
theorem d_X_fewestBy_141 : decode (mCd M_X_fewestBy) 141 = .ok (.iload 9, 2) := by decide +kernel
theorem d_X_fewestBy_143 : decode (mCd M_X_fewestBy) 143 = .ok (.ifCond .eq 19, 3) := by decide +kernel
theorem d_X_fewestBy_146 : decode (mCd M_X_fewestBy) 146 = .ok (.aload_n 0, 1) := by decide +kernel
theorem d_X_fewestBy_147 : decode (mCd M_X_fewestBy) 147 = .ok (.iload 8, 2) := by decide +kernel
theorem d_X_fewestBy_149 : decode (mCd M_X_fewestBy) 149 = .ok (.iload_n 1, 1) := by decide +kernel
theorem d_X_fewestBy_150 : decode (mCd M_X_fewestBy) 150 = .ok (.iload_n 2, 1) := by decide +kernel
theorem d_X_fewestBy_151 : decode (mCd M_X_fewestBy) 151 = .ok (.iload_n 3, 1) := by decide +kernel
theorem d_X_fewestBy_152 : decode (mCd M_X_fewestBy) 152 = .ok (.invokevirtual 300, 3) := by decide +kernel
theorem d_X_fewestBy_155 : decode (mCd M_X_fewestBy) 155 = .ok (.iconst (-1), 1) := by decide +kernel
theorem d_X_fewestBy_156 : decode (mCd M_X_fewestBy) 156 = .ok (.if_icmp .eq 6, 3) := by decide +kernel
theorem d_X_fewestBy_159 : decode (mCd M_X_fewestBy) 159 = .ok (.iload 8, 2) := by decide +kernel
theorem d_X_fewestBy_161 : decode (mCd M_X_fewestBy) 161 = .ok (.ireturn, 1) := by decide +kernel
theorem d_X_fewestBy_162 : decode (mCd M_X_fewestBy) 162 = .ok (.iinc 8 1, 3) := by decide +kernel
theorem d_X_fewestBy_165 : decode (mCd M_X_fewestBy) 165 = .ok (.goto (-58), 3) := by decide +kernel
theorem d_X_fewestBy_168 : decode (mCd M_X_fewestBy) 168 = .ok (.iinc 7 1, 3) := by decide +kernel
theorem d_X_fewestBy_171 : decode (mCd M_X_fewestBy) 171 = .ok (.goto (-84), 3) := by decide +kernel
theorem d_X_fewestBy_174 : decode (mCd M_X_fewestBy) 174 = .ok (.iconst (-1), 1) := by decide +kernel
theorem d_X_fewestBy_175 : decode (mCd M_X_fewestBy) 175 = .ok (.ireturn, 1) := by decide +kernel
theorem d_X_arrivesBy_0 : decode (mCd M_X_arrivesBy) 0 = .ok (.aload_n 0, 1) := by decide +kernel
theorem d_X_arrivesBy_1 : decode (mCd M_X_arrivesBy) 1 = .ok (.getfield 72, 3) := by decide +kernel
theorem d_X_arrivesBy_4 : decode (mCd M_X_arrivesBy) 4 = .ok (.aload_n 0, 1) := by decide +kernel
theorem d_X_arrivesBy_5 : decode (mCd M_X_arrivesBy) 5 = .ok (.getfield 65, 3) := by decide +kernel
theorem d_X_arrivesBy_8 : decode (mCd M_X_arrivesBy) 8 = .ok (.invokevirtual 219, 3) := by decide +kernel
theorem d_X_arrivesBy_11 : decode (mCd M_X_arrivesBy) 11 = .ok (.iconst 0, 1) := by decide +kernel
theorem d_X_arrivesBy_12 : decode (mCd M_X_arrivesBy) 12 = .ok (.istore 5, 2) := by decide +kernel
theorem d_X_arrivesBy_14 : decode (mCd M_X_arrivesBy) 14 = .ok (.iload 5, 2) := by decide +kernel
theorem d_X_arrivesBy_16 : decode (mCd M_X_arrivesBy) 16 = .ok (.aload_n 0, 1) := by decide +kernel
theorem d_X_arrivesBy_17 : decode (mCd M_X_arrivesBy) 17 = .ok (.getfield 33, 3) := by decide +kernel
theorem d_X_arrivesBy_20 : decode (mCd M_X_arrivesBy) 20 = .ok (.getfield 131, 3) := by decide +kernel
theorem d_X_arrivesBy_23 : decode (mCd M_X_arrivesBy) 23 = .ok (.if_icmp .ge 41, 3) := by decide +kernel
theorem d_X_arrivesBy_26 : decode (mCd M_X_arrivesBy) 26 = .ok (.iload_n 1, 1) := by decide +kernel
theorem d_X_arrivesBy_27 : decode (mCd M_X_arrivesBy) 27 = .ok (.iload 5, 2) := by decide +kernel
theorem d_X_arrivesBy_29 : decode (mCd M_X_arrivesBy) 29 = .ok (.iushr, 1) := by decide +kernel
theorem d_X_arrivesBy_30 : decode (mCd M_X_arrivesBy) 30 = .ok (.iconst 1, 1) := by decide +kernel
theorem d_X_arrivesBy_31 : decode (mCd M_X_arrivesBy) 31 = .ok (.iand, 1) := by decide +kernel
theorem d_X_arrivesBy_32 : decode (mCd M_X_arrivesBy) 32 = .ok (.iconst 1, 1) := by decide +kernel
theorem d_X_arrivesBy_33 : decode (mCd M_X_arrivesBy) 33 = .ok (.if_icmp .ne 25, 3) := by decide +kernel
theorem d_X_arrivesBy_36 : decode (mCd M_X_arrivesBy) 36 = .ok (.aload_n 0, 1) := by decide +kernel
theorem d_X_arrivesBy_37 : decode (mCd M_X_arrivesBy) 37 = .ok (.getfield 72, 3) := by decide +kernel
theorem d_X_arrivesBy_40 : decode (mCd M_X_arrivesBy) 40 = .ok (.getfield 194, 3) := by decide +kernel
theorem d_X_arrivesBy_43 : decode (mCd M_X_arrivesBy) 43 = .ok (.iload 5, 2) := by decide +kernel
theorem d_X_arrivesBy_45 : decode (mCd M_X_arrivesBy) 45 = .ok (.iload_n 2, 1) := by decide +kernel
theorem d_X_arrivesBy_46 : decode (mCd M_X_arrivesBy) 46 = .ok (.iastore, 1) := by decide +kernel
theorem d_X_arrivesBy_47 : decode (mCd M_X_arrivesBy) 47 = .ok (.aload_n 0, 1) := by decide +kernel
theorem d_X_arrivesBy_48 : decode (mCd M_X_arrivesBy) 48 = .ok (.getfield 72, 3) := by decide +kernel
theorem d_X_arrivesBy_51 : decode (mCd M_X_arrivesBy) 51 = .ok (.getfield 197, 3) := by decide +kernel
theorem d_X_arrivesBy_54 : decode (mCd M_X_arrivesBy) 54 = .ok (.iload 5, 2) := by decide +kernel
theorem d_X_arrivesBy_56 : decode (mCd M_X_arrivesBy) 56 = .ok (.iload_n 3, 1) := by decide +kernel
theorem d_X_arrivesBy_57 : decode (mCd M_X_arrivesBy) 57 = .ok (.iastore, 1) := by decide +kernel
theorem d_X_arrivesBy_58 : decode (mCd M_X_arrivesBy) 58 = .ok (.iinc 5 1, 3) := by decide +kernel
theorem d_X_arrivesBy_61 : decode (mCd M_X_arrivesBy) 61 = .ok (.goto (-47), 3) := by decide +kernel
theorem d_X_arrivesBy_64 : decode (mCd M_X_arrivesBy) 64 = .ok (.iconst 0, 1) := by decide +kernel
theorem d_X_arrivesBy_65 : decode (mCd M_X_arrivesBy) 65 = .ok (.istore 5, 2) := by decide +kernel
theorem d_X_arrivesBy_67 : decode (mCd M_X_arrivesBy) 67 = .ok (.iload 5, 2) := by decide +kernel
theorem d_X_arrivesBy_69 : decode (mCd M_X_arrivesBy) 69 = .ok (.iload 4, 2) := by decide +kernel
theorem d_X_arrivesBy_71 : decode (mCd M_X_arrivesBy) 71 = .ok (.if_icmp .gt 64, 3) := by decide +kernel
theorem d_X_arrivesBy_74 : decode (mCd M_X_arrivesBy) 74 = .ok (.aload_n 0, 1) := by decide +kernel
theorem d_X_arrivesBy_75 : decode (mCd M_X_arrivesBy) 75 = .ok (.getfield 72, 3) := by decide +kernel
theorem d_X_arrivesBy_78 : decode (mCd M_X_arrivesBy) 78 = .ok (.getfield 137, 3) := by decide +kernel
theorem d_X_arrivesBy_81 : decode (mCd M_X_arrivesBy) 81 = .ok (.iload_n 2, 1) := by decide +kernel
theorem d_X_arrivesBy_82 : decode (mCd M_X_arrivesBy) 82 = .ok (.if_icmp .ne 6, 3) := by decide +kernel
theorem d_X_arrivesBy_85 : decode (mCd M_X_arrivesBy) 85 = .ok (.iload 5, 2) := by decide +kernel
theorem d_X_arrivesBy_87 : decode (mCd M_X_arrivesBy) 87 = .ok (.ireturn, 1) := by decide +kernel
theorem d_X_arrivesBy_88 : decode (mCd M_X_arrivesBy) 88 = .ok (.aload_n 0, 1) := by decide +kernel
theorem d_X_arrivesBy_89 : decode (mCd M_X_arrivesBy) 89 = .ok (.getfield 26, 3) := by decide +kernel
theorem d_X_arrivesBy_92 : decode (mCd M_X_arrivesBy) 92 = .ok (.aload_n 0, 1) := by decide +kernel
theorem d_X_arrivesBy_93 : decode (mCd M_X_arrivesBy) 93 = .ok (.getfield 72, 3) := by decide +kernel
theorem d_X_arrivesBy_96 : decode (mCd M_X_arrivesBy) 96 = .ok (.getfield 137, 3) := by decide +kernel
theorem d_X_arrivesBy_99 : decode (mCd M_X_arrivesBy) 99 = .ok (.iload_n 2, 1) := by decide +kernel
theorem d_X_arrivesBy_100 : decode (mCd M_X_arrivesBy) 100 = .ok (.invokevirtual 326, 3) := by decide +kernel
theorem d_X_arrivesBy_103 : decode (mCd M_X_arrivesBy) 103 = .ok (.iload 4, 2) := by decide +kernel
theorem d_X_arrivesBy_105 : decode (mCd M_X_arrivesBy) 105 = .ok (.iload 5, 2) := by decide +kernel
theorem d_X_arrivesBy_107 : decode (mCd M_X_arrivesBy) 107 = .ok (.isub, 1) := by decide +kernel
theorem d_X_arrivesBy_108 : decode (mCd M_X_arrivesBy) 108 = .ok (.if_icmp .le 5, 3) := by decide +kernel
theorem d_X_arrivesBy_111 : decode (mCd M_X_arrivesBy) 111 = .ok (.iconst (-1), 1) := by decide +kernel
theorem d_X_arrivesBy_112 : decode (mCd M_X_arrivesBy) 112 = .ok (.ireturn, 1) := by decide +kernel
theorem d_X_arrivesBy_113 : decode (mCd M_X_arrivesBy) 113 = .ok (.aload_n 0, 1) := by decide +kernel
theorem d_X_arrivesBy_114 : decode (mCd M_X_arrivesBy) 114 = .ok (.getfield 58, 3) := by decide +kernel
theorem d_X_arrivesBy_117 : decode (mCd M_X_arrivesBy) 117 = .ok (.aload_n 0, 1) := by decide +kernel
theorem d_X_arrivesBy_118 : decode (mCd M_X_arrivesBy) 118 = .ok (.getfield 72, 3) := by decide +kernel
theorem d_X_arrivesBy_121 : decode (mCd M_X_arrivesBy) 121 = .ok (.aload_n 0, 1) := by decide +kernel
theorem d_X_arrivesBy_122 : decode (mCd M_X_arrivesBy) 122 = .ok (.getfield 105, 3) := by decide +kernel
theorem d_X_arrivesBy_125 : decode (mCd M_X_arrivesBy) 125 = .ok (.iconst 1, 1) := by decide +kernel
theorem d_X_arrivesBy_126 : decode (mCd M_X_arrivesBy) 126 = .ok (.invokevirtual 291, 3) := by decide +kernel
theorem d_X_arrivesBy_129 : decode (mCd M_X_arrivesBy) 129 = .ok (.iinc 5 1, 3) := by decide +kernel
theorem d_X_arrivesBy_132 : decode (mCd M_X_arrivesBy) 132 = .ok (.goto (-65), 3) := by decide +kernel
theorem d_X_arrivesBy_135 : decode (mCd M_X_arrivesBy) 135 = .ok (.iconst (-1), 1) := by decide +kernel
theorem d_X_arrivesBy_136 : decode (mCd M_X_arrivesBy) 136 = .ok (.ireturn, 1) := by decide +kernel
theorem d_X_goesWith_0 : decode (mCd M_X_goesWith) 0 = .ok (.aload_n 0, 1) := by decide +kernel
theorem d_X_goesWith_1 : decode (mCd M_X_goesWith) 1 = .ok (.getfield 49, 3) := by decide +kernel
theorem d_X_goesWith_4 : decode (mCd M_X_goesWith) 4 = .ok (.iload_n 1, 1) := by decide +kernel
theorem d_X_goesWith_5 : decode (mCd M_X_goesWith) 5 = .ok (.invokevirtual 281, 3) := by decide +kernel
theorem d_X_goesWith_8 : decode (mCd M_X_goesWith) 8 = .ok (.aload_n 0, 1) := by decide +kernel
theorem d_X_goesWith_9 : decode (mCd M_X_goesWith) 9 = .ok (.getfield 49, 3) := by decide +kernel
theorem d_X_goesWith_12 : decode (mCd M_X_goesWith) 12 = .ok (.aload_n 0, 1) := by decide +kernel
theorem d_X_goesWith_13 : decode (mCd M_X_goesWith) 13 = .ok (.getfield 65, 3) := by decide +kernel
theorem d_X_goesWith_16 : decode (mCd M_X_goesWith) 16 = .ok (.getfield 137, 3) := by decide +kernel
theorem d_X_goesWith_19 : decode (mCd M_X_goesWith) 19 = .ok (.invokevirtual 288, 3) := by decide +kernel
theorem d_X_goesWith_22 : decode (mCd M_X_goesWith) 22 = .ok (.ireturn, 1) := by decide +kernel
theorem d_X_follow_0 : decode (mCd M_X_follow) 0 = .ok (.aload_n 0, 1) := by decide +kernel
theorem d_X_follow_1 : decode (mCd M_X_follow) 1 = .ok (.getfield 72, 3) := by decide +kernel
theorem d_X_follow_4 : decode (mCd M_X_follow) 4 = .ok (.aload_n 0, 1) := by decide +kernel
theorem d_X_follow_5 : decode (mCd M_X_follow) 5 = .ok (.getfield 65, 3) := by decide +kernel
theorem d_X_follow_8 : decode (mCd M_X_follow) 8 = .ok (.invokevirtual 219, 3) := by decide +kernel
theorem d_X_follow_11 : decode (mCd M_X_follow) 11 = .ok (.aload_n 0, 1) := by decide +kernel
theorem d_X_follow_12 : decode (mCd M_X_follow) 12 = .ok (.getfield 33, 3) := by decide +kernel
theorem d_X_follow_15 : decode (mCd M_X_follow) 15 = .ok (.iload_n 1, 1) := by decide +kernel
theorem d_X_follow_16 : decode (mCd M_X_follow) 16 = .ok (.invokevirtual 172, 3) := by decide +kernel
theorem d_X_follow_19 : decode (mCd M_X_follow) 19 = .ok (.ifCond .eq 20, 3) := by decide +kernel
theorem d_X_follow_22 : decode (mCd M_X_follow) 22 = .ok (.aload_n 0, 1) := by decide +kernel
theorem d_X_follow_23 : decode (mCd M_X_follow) 23 = .ok (.getfield 72, 3) := by decide +kernel
theorem d_X_follow_26 : decode (mCd M_X_follow) 26 = .ok (.dup, 1) := by decide +kernel
theorem d_X_follow_27 : decode (mCd M_X_follow) 27 = .ok (.getfield 134, 3) := by decide +kernel
theorem d_X_follow_30 : decode (mCd M_X_follow) 30 = .ok (.iconst 1, 1) := by decide +kernel
theorem d_X_follow_31 : decode (mCd M_X_follow) 31 = .ok (.iload_n 1, 1) := by decide +kernel
theorem d_X_follow_32 : decode (mCd M_X_follow) 32 = .ok (.ishl, 1) := by decide +kernel
theorem d_X_follow_33 : decode (mCd M_X_follow) 33 = .ok (.iconst (-1), 1) := by decide +kernel
theorem d_X_follow_34 : decode (mCd M_X_follow) 34 = .ok (.ixor, 1) := by decide +kernel
theorem d_X_follow_35 : decode (mCd M_X_follow) 35 = .ok (.iand, 1) := by decide +kernel
theorem d_X_follow_36 : decode (mCd M_X_follow) 36 = .ok (.putfield 134, 3) := by decide +kernel
theorem d_X_follow_39 : decode (mCd M_X_follow) 39 = .ok (.iload_n 1, 1) := by decide +kernel
theorem d_X_follow_40 : decode (mCd M_X_follow) 40 = .ok (.ifCond .lt 57, 3) := by decide +kernel
theorem d_X_follow_43 : decode (mCd M_X_follow) 43 = .ok (.iload_n 1, 1) := by decide +kernel
theorem d_X_follow_44 : decode (mCd M_X_follow) 44 = .ok (.aload_n 0, 1) := by decide +kernel
theorem d_X_follow_45 : decode (mCd M_X_follow) 45 = .ok (.getfield 95, 3) := by decide +kernel
theorem d_X_follow_48 : decode (mCd M_X_follow) 48 = .ok (.arraylength, 1) := by decide +kernel
theorem d_X_follow_49 : decode (mCd M_X_follow) 49 = .ok (.if_icmp .ge 48, 3) := by decide +kernel
theorem d_X_follow_52 : decode (mCd M_X_follow) 52 = .ok (.iconst 0, 1) := by decide +kernel
theorem d_X_follow_53 : decode (mCd M_X_follow) 53 = .ok (.istore_n 2, 1) := by decide +kernel
theorem d_X_follow_54 : decode (mCd M_X_follow) 54 = .ok (.iload_n 2, 1) := by decide +kernel
theorem d_X_follow_55 : decode (mCd M_X_follow) 55 = .ok (.bipush 20, 2) := by decide +kernel
theorem d_X_follow_57 : decode (mCd M_X_follow) 57 = .ok (.if_icmp .gt 40, 3) := by decide +kernel
theorem d_X_follow_60 : decode (mCd M_X_follow) 60 = .ok (.aload_n 0, 1) := by decide +kernel
theorem d_X_follow_61 : decode (mCd M_X_follow) 61 = .ok (.getfield 95, 3) := by decide +kernel
theorem d_X_follow_64 : decode (mCd M_X_follow) 64 = .ok (.iload_n 1, 1) := by decide +kernel
theorem d_X_follow_65 : decode (mCd M_X_follow) 65 = .ok (.aaload, 1) := by decide +kernel
theorem d_X_follow_66 : decode (mCd M_X_follow) 66 = .ok (.iload_n 2, 1) := by decide +kernel
theorem d_X_follow_67 : decode (mCd M_X_follow) 67 = .ok (.aload_n 0, 1) := by decide +kernel
theorem d_X_follow_68 : decode (mCd M_X_follow) 68 = .ok (.getfield 72, 3) := by decide +kernel
theorem d_X_follow_71 : decode (mCd M_X_follow) 71 = .ok (.getfield 137, 3) := by decide +kernel
theorem d_X_follow_74 : decode (mCd M_X_follow) 74 = .ok (.iastore, 1) := by decide +kernel
theorem d_X_follow_75 : decode (mCd M_X_follow) 75 = .ok (.aload_n 0, 1) := by decide +kernel
theorem d_X_follow_76 : decode (mCd M_X_follow) 76 = .ok (.getfield 58, 3) := by decide +kernel
theorem d_X_follow_79 : decode (mCd M_X_follow) 79 = .ok (.aload_n 0, 1) := by decide +kernel
theorem d_X_follow_80 : decode (mCd M_X_follow) 80 = .ok (.getfield 72, 3) := by decide +kernel
theorem d_X_follow_83 : decode (mCd M_X_follow) 83 = .ok (.aload_n 0, 1) := by decide +kernel
theorem d_X_follow_84 : decode (mCd M_X_follow) 84 = .ok (.getfield 105, 3) := by decide +kernel
theorem d_X_follow_87 : decode (mCd M_X_follow) 87 = .ok (.iconst 1, 1) := by decide +kernel
theorem d_X_follow_88 : decode (mCd M_X_follow) 88 = .ok (.invokevirtual 291, 3) := by decide +kernel
theorem d_X_follow_91 : decode (mCd M_X_follow) 91 = .ok (.iinc 2 1, 3) := by decide +kernel
theorem d_X_follow_94 : decode (mCd M_X_follow) 94 = .ok (.goto (-40), 3) := by decide +kernel
theorem d_X_follow_97 : decode (mCd M_X_follow) 97 = .ok (.return_, 1) := by decide +kernel
theorem d_X_fitting_0 : decode (mCd M_X_fitting) 0 = .ok (.iconst 0, 1) := by decide +kernel
theorem d_X_fitting_1 : decode (mCd M_X_fitting) 1 = .ok (.istore_n 1, 1) := by decide +kernel
theorem d_X_fitting_2 : decode (mCd M_X_fitting) 2 = .ok (.iconst 0, 1) := by decide +kernel
theorem d_X_fitting_3 : decode (mCd M_X_fitting) 3 = .ok (.istore_n 2, 1) := by decide +kernel
theorem d_X_fitting_4 : decode (mCd M_X_fitting) 4 = .ok (.iload_n 2, 1) := by decide +kernel
theorem d_X_fitting_5 : decode (mCd M_X_fitting) 5 = .ok (.aload_n 0, 1) := by decide +kernel
theorem d_X_fitting_6 : decode (mCd M_X_fitting) 6 = .ok (.getfield 33, 3) := by decide +kernel
theorem d_X_fitting_9 : decode (mCd M_X_fitting) 9 = .ok (.getfield 131, 3) := by decide +kernel
theorem d_X_fitting_12 : decode (mCd M_X_fitting) 12 = .ok (.if_icmp .ge 51, 3) := by decide +kernel
theorem d_X_fitting_15 : decode (mCd M_X_fitting) 15 = .ok (.aload_n 0, 1) := by decide +kernel
theorem d_X_fitting_16 : decode (mCd M_X_fitting) 16 = .ok (.getfield 65, 3) := by decide +kernel
theorem d_X_fitting_19 : decode (mCd M_X_fitting) 19 = .ok (.iload_n 2, 1) := by decide +kernel
theorem d_X_fitting_20 : decode (mCd M_X_fitting) 20 = .ok (.invokevirtual 191, 3) := by decide +kernel
theorem d_X_fitting_23 : decode (mCd M_X_fitting) 23 = .ok (.ifCond .eq 34, 3) := by decide +kernel
theorem d_X_fitting_26 : decode (mCd M_X_fitting) 26 = .ok (.aload_n 0, 1) := by decide +kernel
theorem d_X_fitting_27 : decode (mCd M_X_fitting) 27 = .ok (.iload_n 2, 1) := by decide +kernel
theorem d_X_fitting_28 : decode (mCd M_X_fitting) 28 = .ok (.invokevirtual 363, 3) := by decide +kernel
theorem d_X_fitting_31 : decode (mCd M_X_fitting) 31 = .ok (.iload_n 1, 1) := by decide +kernel
theorem d_X_fitting_32 : decode (mCd M_X_fitting) 32 = .ok (.aload_n 0, 1) := by decide +kernel
theorem d_X_fitting_33 : decode (mCd M_X_fitting) 33 = .ok (.getfield 85, 3) := by decide +kernel
theorem d_X_fitting_36 : decode (mCd M_X_fitting) 36 = .ok (.aload_n 0, 1) := by decide +kernel
theorem d_X_fitting_37 : decode (mCd M_X_fitting) 37 = .ok (.getfield 95, 3) := by decide +kernel
theorem d_X_fitting_40 : decode (mCd M_X_fitting) 40 = .ok (.iload_n 2, 1) := by decide +kernel
theorem d_X_fitting_41 : decode (mCd M_X_fitting) 41 = .ok (.aaload, 1) := by decide +kernel
theorem d_X_fitting_42 : decode (mCd M_X_fitting) 42 = .ok (.invokevirtual 366, 3) := by decide +kernel
theorem d_X_fitting_45 : decode (mCd M_X_fitting) 45 = .ok (.ifCond .eq 9, 3) := by decide +kernel
theorem d_X_fitting_48 : decode (mCd M_X_fitting) 48 = .ok (.iconst 1, 1) := by decide +kernel
theorem d_X_fitting_49 : decode (mCd M_X_fitting) 49 = .ok (.iload_n 2, 1) := by decide +kernel
theorem d_X_fitting_50 : decode (mCd M_X_fitting) 50 = .ok (.ishl, 1) := by decide +kernel
theorem d_X_fitting_51 : decode (mCd M_X_fitting) 51 = .ok (.goto 4, 3) := by decide +kernel
theorem d_X_fitting_54 : decode (mCd M_X_fitting) 54 = .ok (.iconst 0, 1) := by decide +kernel
theorem d_X_fitting_55 : decode (mCd M_X_fitting) 55 = .ok (.ior, 1) := by decide +kernel
theorem d_X_fitting_56 : decode (mCd M_X_fitting) 56 = .ok (.istore_n 1, 1) := by decide +kernel
theorem d_X_fitting_57 : decode (mCd M_X_fitting) 57 = .ok (.iinc 2 1, 3) := by decide +kernel
theorem d_X_fitting_60 : decode (mCd M_X_fitting) 60 = .ok (.goto (-56), 3) := by decide +kernel
theorem d_X_fitting_63 : decode (mCd M_X_fitting) 63 = .ok (.iload_n 1, 1) := by decide +kernel
theorem d_X_fitting_64 : decode (mCd M_X_fitting) 64 = .ok (.ireturn, 1) := by decide +kernel
theorem d_X_mostTogether_0 : decode (mCd M_X_mostTogether) 0 = .ok (.iconst 0, 1) := by decide +kernel
theorem d_X_mostTogether_1 : decode (mCd M_X_mostTogether) 1 = .ok (.istore_n 3, 1) := by decide +kernel
theorem d_X_mostTogether_2 : decode (mCd M_X_mostTogether) 2 = .ok (.iconst 0, 1) := by decide +kernel
theorem d_X_mostTogether_3 : decode (mCd M_X_mostTogether) 3 = .ok (.istore 4, 2) := by decide +kernel
theorem d_X_mostTogether_5 : decode (mCd M_X_mostTogether) 5 = .ok (.iload 4, 2) := by decide +kernel
theorem d_X_mostTogether_7 : decode (mCd M_X_mostTogether) 7 = .ok (.aload_n 0, 1) := by decide +kernel
theorem d_X_mostTogether_8 : decode (mCd M_X_mostTogether) 8 = .ok (.getfield 33, 3) := by decide +kernel
theorem d_X_mostTogether_11 : decode (mCd M_X_mostTogether) 11 = .ok (.getfield 131, 3) := by decide +kernel
theorem d_X_mostTogether_14 : decode (mCd M_X_mostTogether) 14 = .ok (.if_icmp .ge 96, 3) := by decide +kernel
theorem d_X_mostTogether_17 : decode (mCd M_X_mostTogether) 17 = .ok (.iconst 0, 1) := by decide +kernel
theorem d_X_mostTogether_18 : decode (mCd M_X_mostTogether) 18 = .ok (.istore 5, 2) := by decide +kernel
theorem d_X_mostTogether_20 : decode (mCd M_X_mostTogether) 20 = .ok (.iconst 0, 1) := by decide +kernel
theorem d_X_mostTogether_21 : decode (mCd M_X_mostTogether) 21 = .ok (.istore 6, 2) := by decide +kernel
theorem d_X_mostTogether_23 : decode (mCd M_X_mostTogether) 23 = .ok (.iload 6, 2) := by decide +kernel
theorem d_X_mostTogether_25 : decode (mCd M_X_mostTogether) 25 = .ok (.aload_n 0, 1) := by decide +kernel
theorem d_X_mostTogether_26 : decode (mCd M_X_mostTogether) 26 = .ok (.getfield 33, 3) := by decide +kernel
theorem d_X_mostTogether_29 : decode (mCd M_X_mostTogether) 29 = .ok (.getfield 131, 3) := by decide +kernel
theorem d_X_mostTogether_32 : decode (mCd M_X_mostTogether) 32 = .ok (.if_icmp .ge 65, 3) := by decide +kernel
theorem d_X_mostTogether_35 : decode (mCd M_X_mostTogether) 35 = .ok (.iload_n 1, 1) := by decide +kernel
theorem d_X_mostTogether_36 : decode (mCd M_X_mostTogether) 36 = .ok (.iload 4, 2) := by decide +kernel
theorem d_X_mostTogether_38 : decode (mCd M_X_mostTogether) 38 = .ok (.iushr, 1) := by decide +kernel
theorem d_X_mostTogether_39 : decode (mCd M_X_mostTogether) 39 = .ok (.iconst 1, 1) := by decide +kernel
theorem d_X_mostTogether_40 : decode (mCd M_X_mostTogether) 40 = .ok (.iand, 1) := by decide +kernel
theorem d_X_mostTogether_41 : decode (mCd M_X_mostTogether) 41 = .ok (.iconst 1, 1) := by decide +kernel
theorem d_X_mostTogether_42 : decode (mCd M_X_mostTogether) 42 = .ok (.if_icmp .ne 17, 3) := by decide +kernel
theorem d_X_mostTogether_45 : decode (mCd M_X_mostTogether) 45 = .ok (.iload_n 1, 1) := by decide +kernel
theorem d_X_mostTogether_46 : decode (mCd M_X_mostTogether) 46 = .ok (.iload 6, 2) := by decide +kernel
theorem d_X_mostTogether_48 : decode (mCd M_X_mostTogether) 48 = .ok (.iushr, 1) := by decide +kernel
theorem d_X_mostTogether_49 : decode (mCd M_X_mostTogether) 49 = .ok (.iconst 1, 1) := by decide +kernel
theorem d_X_mostTogether_50 : decode (mCd M_X_mostTogether) 50 = .ok (.iand, 1) := by decide +kernel
theorem d_X_mostTogether_51 : decode (mCd M_X_mostTogether) 51 = .ok (.iconst 1, 1) := by decide +kernel
theorem d_X_mostTogether_52 : decode (mCd M_X_mostTogether) 52 = .ok (.if_icmp .ne 7, 3) := by decide +kernel
theorem d_X_mostTogether_55 : decode (mCd M_X_mostTogether) 55 = .ok (.iconst 1, 1) := by decide +kernel
theorem d_X_mostTogether_56 : decode (mCd M_X_mostTogether) 56 = .ok (.goto 4, 3) := by decide +kernel
theorem d_X_mostTogether_59 : decode (mCd M_X_mostTogether) 59 = .ok (.iconst 0, 1) := by decide +kernel
theorem d_X_mostTogether_60 : decode (mCd M_X_mostTogether) 60 = .ok (.istore 7, 2) := by decide +kernel
theorem d_X_mostTogether_62 : decode (mCd M_X_mostTogether) 62 = .ok (.iload 7, 2) := by decide +kernel
theorem d_X_mostTogether_64 : decode (mCd M_X_mostTogether) 64 = .ok (.ifCond .eq 27, 3) := by decide +kernel
theorem d_X_mostTogether_67 : decode (mCd M_X_mostTogether) 67 = .ok (.aload_n 0, 1) := by decide +kernel
theorem d_X_mostTogether_68 : decode (mCd M_X_mostTogether) 68 = .ok (.getfield 95, 3) := by decide +kernel
theorem d_X_mostTogether_71 : decode (mCd M_X_mostTogether) 71 = .ok (.iload 4, 2) := by decide +kernel
theorem d_X_mostTogether_73 : decode (mCd M_X_mostTogether) 73 = .ok (.aaload, 1) := by decide +kernel
theorem d_X_mostTogether_74 : decode (mCd M_X_mostTogether) 74 = .ok (.iload_n 2, 1) := by decide +kernel
theorem d_X_mostTogether_75 : decode (mCd M_X_mostTogether) 75 = .ok (.iaload, 1) := by decide +kernel
theorem d_X_mostTogether_76 : decode (mCd M_X_mostTogether) 76 = .ok (.aload_n 0, 1) := by decide +kernel
theorem d_X_mostTogether_77 : decode (mCd M_X_mostTogether) 77 = .ok (.getfield 95, 3) := by decide +kernel
theorem d_X_mostTogether_80 : decode (mCd M_X_mostTogether) 80 = .ok (.iload 6, 2) := by decide +kernel
theorem d_X_mostTogether_82 : decode (mCd M_X_mostTogether) 82 = .ok (.aaload, 1) := by decide +kernel
theorem d_X_mostTogether_83 : decode (mCd M_X_mostTogether) 83 = .ok (.iload_n 2, 1) := by decide +kernel
theorem d_X_mostTogether_84 : decode (mCd M_X_mostTogether) 84 = .ok (.iaload, 1) := by decide +kernel
theorem d_X_mostTogether_85 : decode (mCd M_X_mostTogether) 85 = .ok (.if_icmp .ne 6, 3) := by decide +kernel
theorem d_X_mostTogether_88 : decode (mCd M_X_mostTogether) 88 = .ok (.iinc 5 1, 3) := by decide +kernel
theorem d_X_mostTogether_91 : decode (mCd M_X_mostTogether) 91 = .ok (.iinc 6 1, 3) := by decide +kernel
theorem d_X_mostTogether_94 : decode (mCd M_X_mostTogether) 94 = .ok (.goto (-71), 3) := by decide +kernel
theorem d_X_mostTogether_97 : decode (mCd M_X_mostTogether) 97 = .ok (.iload_n 3, 1) := by decide +kernel
theorem d_X_mostTogether_98 : decode (mCd M_X_mostTogether) 98 = .ok (.iload 5, 2) := by decide +kernel
theorem d_X_mostTogether_100 : decode (mCd M_X_mostTogether) 100 = .ok (.invokestatic 270, 3) := by decide +kernel
theorem d_X_mostTogether_103 : decode (mCd M_X_mostTogether) 103 = .ok (.istore_n 3, 1) := by decide +kernel
theorem d_X_mostTogether_104 : decode (mCd M_X_mostTogether) 104 = .ok (.iinc 4 1, 3) := by decide +kernel
theorem d_X_mostTogether_107 : decode (mCd M_X_mostTogether) 107 = .ok (.goto (-102), 3) := by decide +kernel
theorem d_X_mostTogether_110 : decode (mCd M_X_mostTogether) 110 = .ok (.iload_n 3, 1) := by decide +kernel
theorem d_X_mostTogether_111 : decode (mCd M_X_mostTogether) 111 = .ok (.ireturn, 1) := by decide +kernel
theorem d_X_power_0 : decode (mCd M_X_power) 0 = .ok (.lconst 1, 1) := by decide +kernel
theorem d_X_power_1 : decode (mCd M_X_power) 1 = .ok (.lstore_n 2, 1) := by decide +kernel
theorem d_X_power_2 : decode (mCd M_X_power) 2 = .ok (.iconst 0, 1) := by decide +kernel
theorem d_X_power_3 : decode (mCd M_X_power) 3 = .ok (.istore 4, 2) := by decide +kernel
theorem d_X_power_5 : decode (mCd M_X_power) 5 = .ok (.iload 4, 2) := by decide +kernel
theorem d_X_power_7 : decode (mCd M_X_power) 7 = .ok (.iload_n 1, 1) := by decide +kernel
theorem d_X_power_8 : decode (mCd M_X_power) 8 = .ok (.if_icmp .ge 14, 3) := by decide +kernel
theorem d_X_power_11 : decode (mCd M_X_power) 11 = .ok (.lload_n 2, 1) := by decide +kernel
theorem d_X_power_12 : decode (mCd M_X_power) 12 = .ok (.iload_n 0, 1) := by decide +kernel
theorem d_X_power_13 : decode (mCd M_X_power) 13 = .ok (.i2l, 1) := by decide +kernel
theorem d_X_power_14 : decode (mCd M_X_power) 14 = .ok (.lmul, 1) := by decide +kernel
theorem d_X_power_15 : decode (mCd M_X_power) 15 = .ok (.lstore_n 2, 1) := by decide +kernel
theorem d_X_power_16 : decode (mCd M_X_power) 16 = .ok (.iinc 4 1, 3) := by decide +kernel
theorem d_X_power_19 : decode (mCd M_X_power) 19 = .ok (.goto (-14), 3) := by decide +kernel
theorem d_X_power_22 : decode (mCd M_X_power) 22 = .ok (.lload_n 2, 1) := by decide +kernel
theorem d_X_power_23 : decode (mCd M_X_power) 23 = .ok (.lreturn, 1) := by decide +kernel
theorem d_X_sharedDivisor_0 : decode (mCd M_X_sharedDivisor) 0 = .ok (.lload_n 0, 1) := by decide +kernel
theorem d_X_sharedDivisor_1 : decode (mCd M_X_sharedDivisor) 1 = .ok (.lstore 4, 2) := by decide +kernel
theorem d_X_sharedDivisor_3 : decode (mCd M_X_sharedDivisor) 3 = .ok (.lload_n 2, 1) := by decide +kernel
theorem d_X_sharedDivisor_4 : decode (mCd M_X_sharedDivisor) 4 = .ok (.lstore 6, 2) := by decide +kernel
theorem d_X_sharedDivisor_6 : decode (mCd M_X_sharedDivisor) 6 = .ok (.iconst 0, 1) := by decide +kernel
theorem d_X_sharedDivisor_7 : decode (mCd M_X_sharedDivisor) 7 = .ok (.istore 8, 2) := by decide +kernel
theorem d_X_sharedDivisor_9 : decode (mCd M_X_sharedDivisor) 9 = .ok (.iload 8, 2) := by decide +kernel
theorem d_X_sharedDivisor_11 : decode (mCd M_X_sharedDivisor) 11 = .ok (.sipush 200, 3) := by decide +kernel
theorem d_X_sharedDivisor_14 : decode (mCd M_X_sharedDivisor) 14 = .ok (.if_icmp .ge 31, 3) := by decide +kernel
theorem d_X_sharedDivisor_17 : decode (mCd M_X_sharedDivisor) 17 = .ok (.lload 4, 2) := by decide +kernel
theorem d_X_sharedDivisor_19 : decode (mCd M_X_sharedDivisor) 19 = .ok (.lconst 0, 1) := by decide +kernel
theorem d_X_sharedDivisor_20 : decode (mCd M_X_sharedDivisor) 20 = .ok (.lcmp, 1) := by decide +kernel
theorem d_X_sharedDivisor_21 : decode (mCd M_X_sharedDivisor) 21 = .ok (.ifCond .eq 24, 3) := by decide +kernel
theorem d_X_sharedDivisor_24 : decode (mCd M_X_sharedDivisor) 24 = .ok (.lload 6, 2) := by decide +kernel
theorem d_X_sharedDivisor_26 : decode (mCd M_X_sharedDivisor) 26 = .ok (.lload 4, 2) := by decide +kernel
theorem d_X_sharedDivisor_28 : decode (mCd M_X_sharedDivisor) 28 = .ok (.lrem, 1) := by decide +kernel
theorem d_X_sharedDivisor_29 : decode (mCd M_X_sharedDivisor) 29 = .ok (.lstore 9, 2) := by decide +kernel
theorem d_X_sharedDivisor_31 : decode (mCd M_X_sharedDivisor) 31 = .ok (.lload 4, 2) := by decide +kernel
theorem d_X_sharedDivisor_33 : decode (mCd M_X_sharedDivisor) 33 = .ok (.lstore 6, 2) := by decide +kernel
theorem d_X_sharedDivisor_35 : decode (mCd M_X_sharedDivisor) 35 = .ok (.lload 9, 2) := by decide +kernel
theorem d_X_sharedDivisor_37 : decode (mCd M_X_sharedDivisor) 37 = .ok (.lstore 4, 2) := by decide +kernel
theorem d_X_sharedDivisor_39 : decode (mCd M_X_sharedDivisor) 39 = .ok (.iinc 8 1, 3) := by decide +kernel
theorem d_X_sharedDivisor_42 : decode (mCd M_X_sharedDivisor) 42 = .ok (.goto (-33), 3) := by decide +kernel
theorem d_X_sharedDivisor_45 : decode (mCd M_X_sharedDivisor) 45 = .ok (.lload 6, 2) := by decide +kernel
theorem d_X_sharedDivisor_47 : decode (mCd M_X_sharedDivisor) 47 = .ok (.lconst 0, 1) := by decide +kernel
theorem d_X_sharedDivisor_48 : decode (mCd M_X_sharedDivisor) 48 = .ok (.lcmp, 1) := by decide +kernel
theorem d_X_sharedDivisor_49 : decode (mCd M_X_sharedDivisor) 49 = .ok (.ifCond .le 8, 3) := by decide +kernel
theorem d_X_sharedDivisor_52 : decode (mCd M_X_sharedDivisor) 52 = .ok (.lload 6, 2) := by decide +kernel
theorem d_X_sharedDivisor_54 : decode (mCd M_X_sharedDivisor) 54 = .ok (.goto 4, 3) := by decide +kernel
theorem d_X_sharedDivisor_57 : decode (mCd M_X_sharedDivisor) 57 = .ok (.lconst 1, 1) := by decide +kernel
theorem d_X_sharedDivisor_58 : decode (mCd M_X_sharedDivisor) 58 = .ok (.lreturn, 1) := by decide +kernel
theorem d_X_leaves_0 : decode (mCd M_X_leaves) 0 = .ok (.iload_n 3, 1) := by decide +kernel
theorem d_X_leaves_1 : decode (mCd M_X_leaves) 1 = .ok (.iload_n 2, 1) := by decide +kernel
theorem d_X_leaves_2 : decode (mCd M_X_leaves) 2 = .ok (.if_icmp .gt 19, 3) := by decide +kernel
theorem d_X_leaves_5 : decode (mCd M_X_leaves) 5 = .ok (.lload_n 0, 1) := by decide +kernel
theorem d_X_leaves_6 : decode (mCd M_X_leaves) 6 = .ok (.iload_n 2, 1) := by decide +kernel
theorem d_X_leaves_7 : decode (mCd M_X_leaves) 7 = .ok (.iload_n 3, 1) := by decide +kernel
theorem d_X_leaves_8 : decode (mCd M_X_leaves) 8 = .ok (.isub, 1) := by decide +kernel
theorem d_X_leaves_9 : decode (mCd M_X_leaves) 9 = .ok (.lushr, 1) := by decide +kernel
theorem d_X_leaves_10 : decode (mCd M_X_leaves) 10 = .ok (.lconst 1, 1) := by decide +kernel
theorem d_X_leaves_11 : decode (mCd M_X_leaves) 11 = .ok (.land, 1) := by decide +kernel
theorem d_X_leaves_12 : decode (mCd M_X_leaves) 12 = .ok (.lconst 0, 1) := by decide +kernel
theorem d_X_leaves_13 : decode (mCd M_X_leaves) 13 = .ok (.lcmp, 1) := by decide +kernel
theorem d_X_leaves_14 : decode (mCd M_X_leaves) 14 = .ok (.ifCond .ne 7, 3) := by decide +kernel
theorem d_X_leaves_17 : decode (mCd M_X_leaves) 17 = .ok (.iconst 1, 1) := by decide +kernel
theorem d_X_leaves_18 : decode (mCd M_X_leaves) 18 = .ok (.goto 4, 3) := by decide +kernel
theorem d_X_leaves_21 : decode (mCd M_X_leaves) 21 = .ok (.iconst 0, 1) := by decide +kernel
theorem d_X_leaves_22 : decode (mCd M_X_leaves) 22 = .ok (.ireturn, 1) := by decide +kernel
theorem d_X_gain_0 : decode (mCd M_X_gain) 0 = .ok (.iload_n 0, 1) := by decide +kernel
theorem d_X_gain_1 : decode (mCd M_X_gain) 1 = .ok (.iload_n 1, 1) := by decide +kernel
theorem d_X_gain_2 : decode (mCd M_X_gain) 2 = .ok (.if_icmp .le 7, 3) := by decide +kernel
theorem d_X_gain_5 : decode (mCd M_X_gain) 5 = .ok (.iload_n 2, 1) := by decide +kernel
theorem d_X_gain_6 : decode (mCd M_X_gain) 6 = .ok (.iload_n 0, 1) := by decide +kernel
theorem d_X_gain_7 : decode (mCd M_X_gain) 7 = .ok (.isub, 1) := by decide +kernel
theorem d_X_gain_8 : decode (mCd M_X_gain) 8 = .ok (.ireturn, 1) := by decide +kernel
theorem d_X_gain_9 : decode (mCd M_X_gain) 9 = .ok (.iload_n 0, 1) := by decide +kernel
theorem d_X_gain_10 : decode (mCd M_X_gain) 10 = .ok (.iload_n 1, 1) := by decide +kernel
theorem d_X_gain_11 : decode (mCd M_X_gain) 11 = .ok (.if_icmp .ne 11, 3) := by decide +kernel
theorem d_X_gain_14 : decode (mCd M_X_gain) 14 = .ok (.iload_n 2, 1) := by decide +kernel
theorem d_X_gain_15 : decode (mCd M_X_gain) 15 = .ok (.iconst 2, 1) := by decide +kernel
theorem d_X_gain_16 : decode (mCd M_X_gain) 16 = .ok (.idiv, 1) := by decide +kernel
theorem d_X_gain_17 : decode (mCd M_X_gain) 17 = .ok (.iload_n 0, 1) := by decide +kernel
theorem d_X_gain_18 : decode (mCd M_X_gain) 18 = .ok (.iconst 2, 1) := by decide +kernel
theorem d_X_gain_19 : decode (mCd M_X_gain) 19 = .ok (.idiv, 1) := by decide +kernel
theorem d_X_gain_20 : decode (mCd M_X_gain) 20 = .ok (.isub, 1) := by decide +kernel
theorem d_X_gain_21 : decode (mCd M_X_gain) 21 = .ok (.ireturn, 1) := by decide +kernel
theorem d_X_gain_22 : decode (mCd M_X_gain) 22 = .ok (.iload_n 0, 1) := by decide +kernel
theorem d_X_gain_23 : decode (mCd M_X_gain) 23 = .ok (.ifCond .le 7, 3) := by decide +kernel
theorem d_X_gain_26 : decode (mCd M_X_gain) 26 = .ok (.iconst (-1), 1) := by decide +kernel
theorem d_X_gain_27 : decode (mCd M_X_gain) 27 = .ok (.goto 4, 3) := by decide +kernel
theorem d_X_gain_30 : decode (mCd M_X_gain) 30 = .ok (.iconst 0, 1) := by decide +kernel
theorem d_X_gain_31 : decode (mCd M_X_gain) 31 = .ok (.ireturn, 1) := by decide +kernel
theorem d_X_isContent_0 : decode (mCd M_X_isContent) 0 = .ok (.iconst 0, 1) := by decide +kernel
theorem d_X_isContent_1 : decode (mCd M_X_isContent) 1 = .ok (.istore_n 3, 1) := by decide +kernel
theorem d_X_isContent_2 : decode (mCd M_X_isContent) 2 = .ok (.iload_n 3, 1) := by decide +kernel
theorem d_X_isContent_3 : decode (mCd M_X_isContent) 3 = .ok (.bipush 9, 2) := by decide +kernel
theorem d_X_isContent_5 : decode (mCd M_X_isContent) 5 = .ok (.if_icmp .gt 26, 3) := by decide +kernel
theorem d_X_isContent_8 : decode (mCd M_X_isContent) 8 = .ok (.iload_n 3, 1) := by decide +kernel
theorem d_X_isContent_9 : decode (mCd M_X_isContent) 9 = .ok (.iload_n 1, 1) := by decide +kernel
theorem d_X_isContent_10 : decode (mCd M_X_isContent) 10 = .ok (.iload_n 2, 1) := by decide +kernel
theorem d_X_isContent_11 : decode (mCd M_X_isContent) 11 = .ok (.invokestatic 441, 3) := by decide +kernel
theorem d_X_isContent_14 : decode (mCd M_X_isContent) 14 = .ok (.iload_n 0, 1) := by decide +kernel
theorem d_X_isContent_15 : decode (mCd M_X_isContent) 15 = .ok (.iload_n 1, 1) := by decide +kernel
theorem d_X_isContent_16 : decode (mCd M_X_isContent) 16 = .ok (.iload_n 2, 1) := by decide +kernel
theorem d_X_isContent_17 : decode (mCd M_X_isContent) 17 = .ok (.invokestatic 441, 3) := by decide +kernel
theorem d_X_isContent_20 : decode (mCd M_X_isContent) 20 = .ok (.if_icmp .le 5, 3) := by decide +kernel
theorem d_X_isContent_23 : decode (mCd M_X_isContent) 23 = .ok (.iconst 0, 1) := by decide +kernel
theorem d_X_isContent_24 : decode (mCd M_X_isContent) 24 = .ok (.ireturn, 1) := by decide +kernel
theorem d_X_isContent_25 : decode (mCd M_X_isContent) 25 = .ok (.iinc 3 1, 3) := by decide +kernel
theorem d_X_isContent_28 : decode (mCd M_X_isContent) 28 = .ok (.goto (-26), 3) := by decide +kernel
theorem d_X_isContent_31 : decode (mCd M_X_isContent) 31 = .ok (.iconst 1, 1) := by decide +kernel
theorem d_X_isContent_32 : decode (mCd M_X_isContent) 32 = .ok (.ireturn, 1) := by decide +kernel
theorem d_X_nextDraw_0 : decode (mCd M_X_nextDraw) 0 = .ok (.iload_n 0, 1) := by decide +kernel
theorem d_X_nextDraw_1 : decode (mCd M_X_nextDraw) 1 = .ok (.ldc_w 445, 3) := by decide +kernel
theorem d_X_nextDraw_4 : decode (mCd M_X_nextDraw) 4 = .ok (.imul, 1) := by decide +kernel
theorem d_X_nextDraw_5 : decode (mCd M_X_nextDraw) 5 = .ok (.sipush 12345, 3) := by decide +kernel
theorem d_X_nextDraw_8 : decode (mCd M_X_nextDraw) 8 = .ok (.iadd, 1) := by decide +kernel
theorem d_X_nextDraw_9 : decode (mCd M_X_nextDraw) 9 = .ok (.ireturn, 1) := by decide +kernel
theorem d_X_drawn_0 : decode (mCd M_X_drawn) 0 = .ok (.iload_n 1, 1) := by decide +kernel
theorem d_X_drawn_1 : decode (mCd M_X_drawn) 1 = .ok (.ifCond .le 12, 3) := by decide +kernel
theorem d_X_drawn_4 : decode (mCd M_X_drawn) 4 = .ok (.iload_n 0, 1) := by decide +kernel
theorem d_X_drawn_5 : decode (mCd M_X_drawn) 5 = .ok (.bipush 16, 2) := by decide +kernel
theorem d_X_drawn_7 : decode (mCd M_X_drawn) 7 = .ok (.iushr, 1) := by decide +kernel
theorem d_X_drawn_8 : decode (mCd M_X_drawn) 8 = .ok (.iload_n 1, 1) := by decide +kernel
theorem d_X_drawn_9 : decode (mCd M_X_drawn) 9 = .ok (.irem, 1) := by decide +kernel
theorem d_X_drawn_10 : decode (mCd M_X_drawn) 10 = .ok (.goto 4, 3) := by decide +kernel
theorem d_X_drawn_13 : decode (mCd M_X_drawn) 13 = .ok (.iconst 0, 1) := by decide +kernel
theorem d_X_drawn_14 : decode (mCd M_X_drawn) 14 = .ok (.ireturn, 1) := by decide +kernel
theorem d_X_drawAct_0 : decode (mCd M_X_drawAct) 0 = .ok (.iload_n 1, 1) := by decide +kernel
theorem d_X_drawAct_1 : decode (mCd M_X_drawAct) 1 = .ok (.invokestatic 400, 3) := by decide +kernel
theorem d_X_drawAct_4 : decode (mCd M_X_drawAct) 4 = .ok (.istore_n 3, 1) := by decide +kernel
theorem d_X_drawAct_5 : decode (mCd M_X_drawAct) 5 = .ok (.iload_n 3, 1) := by decide +kernel
theorem d_X_drawAct_6 : decode (mCd M_X_drawAct) 6 = .ok (.aload_n 0, 1) := by decide +kernel
theorem d_X_drawAct_7 : decode (mCd M_X_drawAct) 7 = .ok (.getfield 33, 3) := by decide +kernel
theorem d_X_drawAct_10 : decode (mCd M_X_drawAct) 10 = .ok (.getfield 131, 3) := by decide +kernel
theorem d_X_drawAct_13 : decode (mCd M_X_drawAct) 13 = .ok (.invokestatic 403, 3) := by decide +kernel
theorem d_X_drawAct_16 : decode (mCd M_X_drawAct) 16 = .ok (.istore 4, 2) := by decide +kernel
theorem d_X_drawAct_18 : decode (mCd M_X_drawAct) 18 = .ok (.iload_n 2, 1) := by decide +kernel
theorem d_X_drawAct_19 : decode (mCd M_X_drawAct) 19 = .ok (.iconst 3, 1) := by decide +kernel
theorem d_X_drawAct_20 : decode (mCd M_X_drawAct) 20 = .ok (.if_icmp .ne 16, 3) := by decide +kernel
theorem d_X_drawAct_23 : decode (mCd M_X_drawAct) 23 = .ok (.aload_n 0, 1) := by decide +kernel
theorem d_X_drawAct_24 : decode (mCd M_X_drawAct) 24 = .ok (.aload_n 0, 1) := by decide +kernel
theorem d_X_drawAct_25 : decode (mCd M_X_drawAct) 25 = .ok (.getfield 72, 3) := by decide +kernel
theorem d_X_drawAct_28 : decode (mCd M_X_drawAct) 28 = .ok (.iload 4, 2) := by decide +kernel
theorem d_X_drawAct_30 : decode (mCd M_X_drawAct) 30 = .ok (.invokevirtual 251, 3) := by decide +kernel
theorem d_X_drawAct_33 : decode (mCd M_X_drawAct) 33 = .ok (.pop, 1) := by decide +kernel
theorem d_X_drawAct_34 : decode (mCd M_X_drawAct) 34 = .ok (.iload_n 3, 1) := by decide +kernel
theorem d_X_drawAct_35 : decode (mCd M_X_drawAct) 35 = .ok (.ireturn, 1) := by decide +kernel
theorem d_X_drawAct_36 : decode (mCd M_X_drawAct) 36 = .ok (.iload_n 3, 1) := by decide +kernel
theorem d_X_drawAct_37 : decode (mCd M_X_drawAct) 37 = .ok (.invokestatic 400, 3) := by decide +kernel
theorem d_X_drawAct_40 : decode (mCd M_X_drawAct) 40 = .ok (.istore_n 3, 1) := by decide +kernel
theorem d_X_drawAct_41 : decode (mCd M_X_drawAct) 41 = .ok (.iload_n 3, 1) := by decide +kernel
theorem d_X_drawAct_42 : decode (mCd M_X_drawAct) 42 = .ok (.aload_n 0, 1) := by decide +kernel
theorem d_X_drawAct_43 : decode (mCd M_X_drawAct) 43 = .ok (.getfield 26, 3) := by decide +kernel
theorem d_X_drawAct_46 : decode (mCd M_X_drawAct) 46 = .ok (.invokevirtual 148, 3) := by decide +kernel
theorem d_X_drawAct_49 : decode (mCd M_X_drawAct) 49 = .ok (.invokestatic 403, 3) := by decide +kernel
theorem d_X_drawAct_52 : decode (mCd M_X_drawAct) 52 = .ok (.istore 5, 2) := by decide +kernel
theorem d_X_drawAct_54 : decode (mCd M_X_drawAct) 54 = .ok (.iload_n 3, 1) := by decide +kernel
theorem d_X_drawAct_55 : decode (mCd M_X_drawAct) 55 = .ok (.invokestatic 400, 3) := by decide +kernel
theorem d_X_drawAct_58 : decode (mCd M_X_drawAct) 58 = .ok (.istore_n 3, 1) := by decide +kernel
theorem d_X_drawAct_59 : decode (mCd M_X_drawAct) 59 = .ok (.aload_n 0, 1) := by decide +kernel
theorem d_X_drawAct_60 : decode (mCd M_X_drawAct) 60 = .ok (.aload_n 0, 1) := by decide +kernel
theorem d_X_drawAct_61 : decode (mCd M_X_drawAct) 61 = .ok (.getfield 72, 3) := by decide +kernel
theorem d_X_drawAct_64 : decode (mCd M_X_drawAct) 64 = .ok (.iload 4, 2) := by decide +kernel
theorem d_X_drawAct_66 : decode (mCd M_X_drawAct) 66 = .ok (.iload 5, 2) := by decide +kernel
theorem d_X_drawAct_68 : decode (mCd M_X_drawAct) 68 = .ok (.iload_n 3, 1) := by decide +kernel
theorem d_X_drawAct_69 : decode (mCd M_X_drawAct) 69 = .ok (.iconst 4, 1) := by decide +kernel
theorem d_X_drawAct_70 : decode (mCd M_X_drawAct) 70 = .ok (.invokestatic 403, 3) := by decide +kernel
theorem d_X_drawAct_73 : decode (mCd M_X_drawAct) 73 = .ok (.invokevirtual 244, 3) := by decide +kernel
theorem d_X_drawAct_76 : decode (mCd M_X_drawAct) 76 = .ok (.pop, 1) := by decide +kernel
theorem d_X_drawAct_77 : decode (mCd M_X_drawAct) 77 = .ok (.iload_n 3, 1) := by decide +kernel
theorem d_X_drawAct_78 : decode (mCd M_X_drawAct) 78 = .ok (.ireturn, 1) := by decide +kernel
