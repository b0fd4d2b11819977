/-! Printed by wip/whole/gen_dec.py: what each instruction is. -/
theorem d_Y_laysCode_0 : decode (mCd M_Y_laysCode) 0 = .ok (.aload_n 0, 1) := by decide +kernel
theorem d_Y_laysCode_1 : decode (mCd M_Y_laysCode) 1 = .ok (.iload_n 2, 1) := by decide +kernel
theorem d_Y_laysCode_2 : decode (mCd M_Y_laysCode) 2 = .ok (.putfield 266, 3) := by decide +kernel
theorem d_Y_laysCode_5 : decode (mCd M_Y_laysCode) 5 = .ok (.iconst 0, 1) := by decide +kernel
theorem d_Y_laysCode_6 : decode (mCd M_Y_laysCode) 6 = .ok (.istore_n 3, 1) := by decide +kernel
theorem d_Y_laysCode_7 : decode (mCd M_Y_laysCode) 7 = .ok (.iload_n 3, 1) := by decide +kernel
theorem d_Y_laysCode_8 : decode (mCd M_Y_laysCode) 8 = .ok (.iload_n 2, 1) := by decide +kernel
theorem d_Y_laysCode_9 : decode (mCd M_Y_laysCode) 9 = .ok (.if_icmp .ge 18, 3) := by decide +kernel
theorem d_Y_laysCode_12 : decode (mCd M_Y_laysCode) 12 = .ok (.aload_n 0, 1) := by decide +kernel
theorem d_Y_laysCode_13 : decode (mCd M_Y_laysCode) 13 = .ok (.getfield 66, 3) := by decide +kernel
theorem d_Y_laysCode_16 : decode (mCd M_Y_laysCode) 16 = .ok (.iload_n 3, 1) := by decide +kernel
theorem d_Y_laysCode_17 : decode (mCd M_Y_laysCode) 17 = .ok (.aload_n 1, 1) := by decide +kernel
theorem d_Y_laysCode_18 : decode (mCd M_Y_laysCode) 18 = .ok (.iload_n 3, 1) := by decide +kernel
theorem d_Y_laysCode_19 : decode (mCd M_Y_laysCode) 19 = .ok (.iaload, 1) := by decide +kernel
theorem d_Y_laysCode_20 : decode (mCd M_Y_laysCode) 20 = .ok (.iastore, 1) := by decide +kernel
theorem d_Y_laysCode_21 : decode (mCd M_Y_laysCode) 21 = .ok (.iinc 3 1, 3) := by decide +kernel
theorem d_Y_laysCode_24 : decode (mCd M_Y_laysCode) 24 = .ok (.goto (-17), 3) := by decide +kernel
theorem d_Y_laysCode_27 : decode (mCd M_Y_laysCode) 27 = .ok (.return_, 1) := by decide +kernel
theorem d_Y_rule_0 : decode (mCd M_Y_rule) 0 = .ok (.aload_n 0, 1) := by decide +kernel
theorem d_Y_rule_1 : decode (mCd M_Y_rule) 1 = .ok (.iconst 0, 1) := by decide +kernel
theorem d_Y_rule_2 : decode (mCd M_Y_rule) 2 = .ok (.putfield 3, 3) := by decide +kernel
theorem d_Y_rule_5 : decode (mCd M_Y_rule) 5 = .ok (.aload_n 0, 1) := by decide +kernel
theorem d_Y_rule_6 : decode (mCd M_Y_rule) 6 = .ok (.invokevirtual 269, 3) := by decide +kernel
theorem d_Y_rule_9 : decode (mCd M_Y_rule) 9 = .ok (.istore_n 1, 1) := by decide +kernel
theorem d_Y_rule_10 : decode (mCd M_Y_rule) 10 = .ok (.iload_n 1, 1) := by decide +kernel
theorem d_Y_rule_11 : decode (mCd M_Y_rule) 11 = .ok (.ifCond .ne 15, 3) := by decide +kernel
theorem d_Y_rule_14 : decode (mCd M_Y_rule) 14 = .ok (.aload_n 0, 1) := by decide +kernel
theorem d_Y_rule_15 : decode (mCd M_Y_rule) 15 = .ok (.aload_n 0, 1) := by decide +kernel
theorem d_Y_rule_16 : decode (mCd M_Y_rule) 16 = .ok (.getfield 69, 3) := by decide +kernel
theorem d_Y_rule_19 : decode (mCd M_Y_rule) 19 = .ok (.aload_n 0, 1) := by decide +kernel
theorem d_Y_rule_20 : decode (mCd M_Y_rule) 20 = .ok (.getfield 245, 3) := by decide +kernel
theorem d_Y_rule_23 : decode (mCd M_Y_rule) 23 = .ok (.invokevirtual 272, 3) := by decide +kernel
theorem d_Y_rule_26 : decode (mCd M_Y_rule) 26 = .ok (.iload_n 1, 1) := by decide +kernel
theorem d_Y_rule_27 : decode (mCd M_Y_rule) 27 = .ok (.ireturn, 1) := by decide +kernel
theorem d_Y_worked_0 : decode (mCd M_Y_worked) 0 = .ok (.iload_n 0, 1) := by decide +kernel
theorem d_Y_worked_1 : decode (mCd M_Y_worked) 1 = .ok (.tableswitch 93 0 5 #[39, 53, 67, 81, 85, 89], 39) := by decide +kernel
theorem d_Y_worked_40 : decode (mCd M_Y_worked) 40 = .ok (.iload_n 1, 1) := by decide +kernel
theorem d_Y_worked_41 : decode (mCd M_Y_worked) 41 = .ok (.iload_n 2, 1) := by decide +kernel
theorem d_Y_worked_42 : decode (mCd M_Y_worked) 42 = .ok (.if_icmp .ge 7, 3) := by decide +kernel
theorem d_Y_worked_45 : decode (mCd M_Y_worked) 45 = .ok (.iconst 1, 1) := by decide +kernel
theorem d_Y_worked_46 : decode (mCd M_Y_worked) 46 = .ok (.goto 4, 3) := by decide +kernel
theorem d_Y_worked_49 : decode (mCd M_Y_worked) 49 = .ok (.iconst 0, 1) := by decide +kernel
theorem d_Y_worked_50 : decode (mCd M_Y_worked) 50 = .ok (.invokestatic 171, 3) := by decide +kernel
theorem d_Y_worked_53 : decode (mCd M_Y_worked) 53 = .ok (.ireturn, 1) := by decide +kernel
theorem d_Y_worked_54 : decode (mCd M_Y_worked) 54 = .ok (.iload_n 1, 1) := by decide +kernel
theorem d_Y_worked_55 : decode (mCd M_Y_worked) 55 = .ok (.iload_n 2, 1) := by decide +kernel
theorem d_Y_worked_56 : decode (mCd M_Y_worked) 56 = .ok (.if_icmp .le 7, 3) := by decide +kernel
theorem d_Y_worked_59 : decode (mCd M_Y_worked) 59 = .ok (.iconst 1, 1) := by decide +kernel
theorem d_Y_worked_60 : decode (mCd M_Y_worked) 60 = .ok (.goto 4, 3) := by decide +kernel
theorem d_Y_worked_63 : decode (mCd M_Y_worked) 63 = .ok (.iconst 0, 1) := by decide +kernel
theorem d_Y_worked_64 : decode (mCd M_Y_worked) 64 = .ok (.invokestatic 171, 3) := by decide +kernel
theorem d_Y_worked_67 : decode (mCd M_Y_worked) 67 = .ok (.ireturn, 1) := by decide +kernel
theorem d_Y_worked_68 : decode (mCd M_Y_worked) 68 = .ok (.iload_n 1, 1) := by decide +kernel
theorem d_Y_worked_69 : decode (mCd M_Y_worked) 69 = .ok (.iload_n 2, 1) := by decide +kernel
theorem d_Y_worked_70 : decode (mCd M_Y_worked) 70 = .ok (.if_icmp .ne 7, 3) := by decide +kernel
theorem d_Y_worked_73 : decode (mCd M_Y_worked) 73 = .ok (.iconst 1, 1) := by decide +kernel
theorem d_Y_worked_74 : decode (mCd M_Y_worked) 74 = .ok (.goto 4, 3) := by decide +kernel
theorem d_Y_worked_77 : decode (mCd M_Y_worked) 77 = .ok (.iconst 0, 1) := by decide +kernel
theorem d_Y_worked_78 : decode (mCd M_Y_worked) 78 = .ok (.invokestatic 171, 3) := by decide +kernel
theorem d_Y_worked_81 : decode (mCd M_Y_worked) 81 = .ok (.ireturn, 1) := by decide +kernel
theorem d_Y_worked_82 : decode (mCd M_Y_worked) 82 = .ok (.iload_n 1, 1) := by decide +kernel
theorem d_Y_worked_83 : decode (mCd M_Y_worked) 83 = .ok (.iload_n 2, 1) := by decide +kernel
theorem d_Y_worked_84 : decode (mCd M_Y_worked) 84 = .ok (.iadd, 1) := by decide +kernel
theorem d_Y_worked_85 : decode (mCd M_Y_worked) 85 = .ok (.ireturn, 1) := by decide +kernel
theorem d_Y_worked_86 : decode (mCd M_Y_worked) 86 = .ok (.iload_n 1, 1) := by decide +kernel
theorem d_Y_worked_87 : decode (mCd M_Y_worked) 87 = .ok (.iload_n 2, 1) := by decide +kernel
theorem d_Y_worked_88 : decode (mCd M_Y_worked) 88 = .ok (.isub, 1) := by decide +kernel
theorem d_Y_worked_89 : decode (mCd M_Y_worked) 89 = .ok (.ireturn, 1) := by decide +kernel
theorem d_Y_worked_90 : decode (mCd M_Y_worked) 90 = .ok (.iload_n 1, 1) := by decide +kernel
theorem d_Y_worked_91 : decode (mCd M_Y_worked) 91 = .ok (.iload_n 2, 1) := by decide +kernel
theorem d_Y_worked_92 : decode (mCd M_Y_worked) 92 = .ok (.imul, 1) := by decide +kernel
theorem d_Y_worked_93 : decode (mCd M_Y_worked) 93 = .ok (.ireturn, 1) := by decide +kernel
theorem d_Y_worked_94 : decode (mCd M_Y_worked) 94 = .ok (.iload_n 2, 1) := by decide +kernel
theorem d_Y_worked_95 : decode (mCd M_Y_worked) 95 = .ok (.ifCond .ne 7, 3) := by decide +kernel
theorem d_Y_worked_98 : decode (mCd M_Y_worked) 98 = .ok (.iconst 0, 1) := by decide +kernel
theorem d_Y_worked_99 : decode (mCd M_Y_worked) 99 = .ok (.goto 6, 3) := by decide +kernel
theorem d_Y_worked_102 : decode (mCd M_Y_worked) 102 = .ok (.iload_n 1, 1) := by decide +kernel
theorem d_Y_worked_103 : decode (mCd M_Y_worked) 103 = .ok (.iload_n 2, 1) := by decide +kernel
theorem d_Y_worked_104 : decode (mCd M_Y_worked) 104 = .ok (.idiv, 1) := by decide +kernel
theorem d_Y_worked_105 : decode (mCd M_Y_worked) 105 = .ok (.ireturn, 1) := by decide +kernel
theorem d_Y_ruled_0 : decode (mCd M_Y_ruled) 0 = .ok (.iconst 0, 1) := by decide +kernel
theorem d_Y_ruled_1 : decode (mCd M_Y_ruled) 1 = .ok (.istore_n 1, 1) := by decide +kernel
theorem d_Y_ruled_2 : decode (mCd M_Y_ruled) 2 = .ok (.iconst 0, 1) := by decide +kernel
theorem d_Y_ruled_3 : decode (mCd M_Y_ruled) 3 = .ok (.istore_n 2, 1) := by decide +kernel
theorem d_Y_ruled_4 : decode (mCd M_Y_ruled) 4 = .ok (.iload_n 2, 1) := by decide +kernel
theorem d_Y_ruled_5 : decode (mCd M_Y_ruled) 5 = .ok (.aload_n 0, 1) := by decide +kernel
theorem d_Y_ruled_6 : decode (mCd M_Y_ruled) 6 = .ok (.getfield 266, 3) := by decide +kernel
theorem d_Y_ruled_9 : decode (mCd M_Y_ruled) 9 = .ok (.if_icmp .ge 116, 3) := by decide +kernel
theorem d_Y_ruled_12 : decode (mCd M_Y_ruled) 12 = .ok (.aload_n 0, 1) := by decide +kernel
theorem d_Y_ruled_13 : decode (mCd M_Y_ruled) 13 = .ok (.getfield 66, 3) := by decide +kernel
theorem d_Y_ruled_16 : decode (mCd M_Y_ruled) 16 = .ok (.iload_n 2, 1) := by decide +kernel
theorem d_Y_ruled_17 : decode (mCd M_Y_ruled) 17 = .ok (.iaload, 1) := by decide +kernel
theorem d_Y_ruled_18 : decode (mCd M_Y_ruled) 18 = .ok (.istore_n 3, 1) := by decide +kernel
theorem d_Y_ruled_19 : decode (mCd M_Y_ruled) 19 = .ok (.iload_n 3, 1) := by decide +kernel
theorem d_Y_ruled_20 : decode (mCd M_Y_ruled) 20 = .ok (.sipush 3000, 3) := by decide +kernel
theorem d_Y_ruled_23 : decode (mCd M_Y_ruled) 23 = .ok (.if_icmp .ne 23, 3) := by decide +kernel
theorem d_Y_ruled_26 : decode (mCd M_Y_ruled) 26 = .ok (.aload_n 0, 1) := by decide +kernel
theorem d_Y_ruled_27 : decode (mCd M_Y_ruled) 27 = .ok (.getfield 72, 3) := by decide +kernel
theorem d_Y_ruled_30 : decode (mCd M_Y_ruled) 30 = .ok (.iload_n 1, 1) := by decide +kernel
theorem d_Y_ruled_31 : decode (mCd M_Y_ruled) 31 = .ok (.iconst 1, 1) := by decide +kernel
theorem d_Y_ruled_32 : decode (mCd M_Y_ruled) 32 = .ok (.isub, 1) := by decide +kernel
theorem d_Y_ruled_33 : decode (mCd M_Y_ruled) 33 = .ok (.aload_n 0, 1) := by decide +kernel
theorem d_Y_ruled_34 : decode (mCd M_Y_ruled) 34 = .ok (.getfield 72, 3) := by decide +kernel
theorem d_Y_ruled_37 : decode (mCd M_Y_ruled) 37 = .ok (.iload_n 1, 1) := by decide +kernel
theorem d_Y_ruled_38 : decode (mCd M_Y_ruled) 38 = .ok (.iconst 1, 1) := by decide +kernel
theorem d_Y_ruled_39 : decode (mCd M_Y_ruled) 39 = .ok (.isub, 1) := by decide +kernel
theorem d_Y_ruled_40 : decode (mCd M_Y_ruled) 40 = .ok (.iaload, 1) := by decide +kernel
theorem d_Y_ruled_41 : decode (mCd M_Y_ruled) 41 = .ok (.ineg, 1) := by decide +kernel
theorem d_Y_ruled_42 : decode (mCd M_Y_ruled) 42 = .ok (.iastore, 1) := by decide +kernel
theorem d_Y_ruled_43 : decode (mCd M_Y_ruled) 43 = .ok (.goto 76, 3) := by decide +kernel
theorem d_Y_ruled_46 : decode (mCd M_Y_ruled) 46 = .ok (.iload_n 3, 1) := by decide +kernel
theorem d_Y_ruled_47 : decode (mCd M_Y_ruled) 47 = .ok (.sipush 2000, 3) := by decide +kernel
theorem d_Y_ruled_50 : decode (mCd M_Y_ruled) 50 = .ok (.if_icmp .lt 39, 3) := by decide +kernel
theorem d_Y_ruled_53 : decode (mCd M_Y_ruled) 53 = .ok (.iinc 1 (-1), 3) := by decide +kernel
theorem d_Y_ruled_56 : decode (mCd M_Y_ruled) 56 = .ok (.aload_n 0, 1) := by decide +kernel
theorem d_Y_ruled_57 : decode (mCd M_Y_ruled) 57 = .ok (.getfield 72, 3) := by decide +kernel
theorem d_Y_ruled_60 : decode (mCd M_Y_ruled) 60 = .ok (.iload_n 1, 1) := by decide +kernel
theorem d_Y_ruled_61 : decode (mCd M_Y_ruled) 61 = .ok (.iconst 1, 1) := by decide +kernel
theorem d_Y_ruled_62 : decode (mCd M_Y_ruled) 62 = .ok (.isub, 1) := by decide +kernel
theorem d_Y_ruled_63 : decode (mCd M_Y_ruled) 63 = .ok (.iload_n 3, 1) := by decide +kernel
theorem d_Y_ruled_64 : decode (mCd M_Y_ruled) 64 = .ok (.sipush 2000, 3) := by decide +kernel
theorem d_Y_ruled_67 : decode (mCd M_Y_ruled) 67 = .ok (.isub, 1) := by decide +kernel
theorem d_Y_ruled_68 : decode (mCd M_Y_ruled) 68 = .ok (.aload_n 0, 1) := by decide +kernel
theorem d_Y_ruled_69 : decode (mCd M_Y_ruled) 69 = .ok (.getfield 72, 3) := by decide +kernel
theorem d_Y_ruled_72 : decode (mCd M_Y_ruled) 72 = .ok (.iload_n 1, 1) := by decide +kernel
theorem d_Y_ruled_73 : decode (mCd M_Y_ruled) 73 = .ok (.iconst 1, 1) := by decide +kernel
theorem d_Y_ruled_74 : decode (mCd M_Y_ruled) 74 = .ok (.isub, 1) := by decide +kernel
theorem d_Y_ruled_75 : decode (mCd M_Y_ruled) 75 = .ok (.iaload, 1) := by decide +kernel
theorem d_Y_ruled_76 : decode (mCd M_Y_ruled) 76 = .ok (.aload_n 0, 1) := by decide +kernel
theorem d_Y_ruled_77 : decode (mCd M_Y_ruled) 77 = .ok (.getfield 72, 3) := by decide +kernel
theorem d_Y_ruled_80 : decode (mCd M_Y_ruled) 80 = .ok (.iload_n 1, 1) := by decide +kernel
theorem d_Y_ruled_81 : decode (mCd M_Y_ruled) 81 = .ok (.iaload, 1) := by decide +kernel
theorem d_Y_ruled_82 : decode (mCd M_Y_ruled) 82 = .ok (.invokestatic 276, 3) := by decide +kernel
theorem d_Y_ruled_85 : decode (mCd M_Y_ruled) 85 = .ok (.iastore, 1) := by decide +kernel
theorem d_Y_ruled_86 : decode (mCd M_Y_ruled) 86 = .ok (.goto 33, 3) := by decide +kernel
theorem d_Y_ruled_89 : decode (mCd M_Y_ruled) 89 = .ok (.aload_n 0, 1) := by decide +kernel
theorem d_Y_ruled_90 : decode (mCd M_Y_ruled) 90 = .ok (.getfield 72, 3) := by decide +kernel
theorem d_Y_ruled_93 : decode (mCd M_Y_ruled) 93 = .ok (.iload_n 1, 1) := by decide +kernel
theorem d_Y_ruled_94 : decode (mCd M_Y_ruled) 94 = .ok (.iload_n 3, 1) := by decide +kernel
theorem d_Y_ruled_95 : decode (mCd M_Y_ruled) 95 = .ok (.sipush 1000, 3) := by decide +kernel
theorem d_Y_ruled_98 : decode (mCd M_Y_ruled) 98 = .ok (.if_icmp .lt 16, 3) := by decide +kernel
theorem d_Y_ruled_101 : decode (mCd M_Y_ruled) 101 = .ok (.aload_n 0, 1) := by decide +kernel
theorem d_Y_ruled_102 : decode (mCd M_Y_ruled) 102 = .ok (.getfield 75, 3) := by decide +kernel
theorem d_Y_ruled_105 : decode (mCd M_Y_ruled) 105 = .ok (.iload_n 3, 1) := by decide +kernel
theorem d_Y_ruled_106 : decode (mCd M_Y_ruled) 106 = .ok (.sipush 1000, 3) := by decide +kernel
theorem d_Y_ruled_109 : decode (mCd M_Y_ruled) 109 = .ok (.isub, 1) := by decide +kernel
theorem d_Y_ruled_110 : decode (mCd M_Y_ruled) 110 = .ok (.iaload, 1) := by decide +kernel
theorem d_Y_ruled_111 : decode (mCd M_Y_ruled) 111 = .ok (.goto 4, 3) := by decide +kernel
theorem d_Y_ruled_114 : decode (mCd M_Y_ruled) 114 = .ok (.iload_n 3, 1) := by decide +kernel
theorem d_Y_ruled_115 : decode (mCd M_Y_ruled) 115 = .ok (.iastore, 1) := by decide +kernel
theorem d_Y_ruled_116 : decode (mCd M_Y_ruled) 116 = .ok (.iinc 1 1, 3) := by decide +kernel
theorem d_Y_ruled_119 : decode (mCd M_Y_ruled) 119 = .ok (.iinc 2 1, 3) := by decide +kernel
theorem d_Y_ruled_122 : decode (mCd M_Y_ruled) 122 = .ok (.goto (-118), 3) := by decide +kernel
theorem d_Y_ruled_125 : decode (mCd M_Y_ruled) 125 = .ok (.aload_n 0, 1) := by decide +kernel
theorem d_Y_ruled_126 : decode (mCd M_Y_ruled) 126 = .ok (.getfield 266, 3) := by decide +kernel
theorem d_Y_ruled_129 : decode (mCd M_Y_ruled) 129 = .ok (.ifCond .ne 43, 3) := by decide +kernel
theorem d_Y_ruled_132 : decode (mCd M_Y_ruled) 132 = .ok (.aload_n 0, 1) := by decide +kernel
theorem d_Y_ruled_133 : decode (mCd M_Y_ruled) 133 = .ok (.getfield 75, 3) := by decide +kernel
theorem d_Y_ruled_136 : decode (mCd M_Y_ruled) 136 = .ok (.iconst 0, 1) := by decide +kernel
theorem d_Y_ruled_137 : decode (mCd M_Y_ruled) 137 = .ok (.iaload, 1) := by decide +kernel
theorem d_Y_ruled_138 : decode (mCd M_Y_ruled) 138 = .ok (.aload_n 0, 1) := by decide +kernel
theorem d_Y_ruled_139 : decode (mCd M_Y_ruled) 139 = .ok (.getfield 75, 3) := by decide +kernel
theorem d_Y_ruled_142 : decode (mCd M_Y_ruled) 142 = .ok (.iconst 1, 1) := by decide +kernel
theorem d_Y_ruled_143 : decode (mCd M_Y_ruled) 143 = .ok (.iaload, 1) := by decide +kernel
theorem d_Y_ruled_144 : decode (mCd M_Y_ruled) 144 = .ok (.isub, 1) := by decide +kernel
theorem d_Y_ruled_145 : decode (mCd M_Y_ruled) 145 = .ok (.aload_n 0, 1) := by decide +kernel
theorem d_Y_ruled_146 : decode (mCd M_Y_ruled) 146 = .ok (.getfield 75, 3) := by decide +kernel
theorem d_Y_ruled_149 : decode (mCd M_Y_ruled) 149 = .ok (.iconst 2, 1) := by decide +kernel
theorem d_Y_ruled_150 : decode (mCd M_Y_ruled) 150 = .ok (.iaload, 1) := by decide +kernel
theorem d_Y_ruled_151 : decode (mCd M_Y_ruled) 151 = .ok (.aload_n 0, 1) := by decide +kernel
theorem d_Y_ruled_152 : decode (mCd M_Y_ruled) 152 = .ok (.getfield 75, 3) := by decide +kernel
theorem d_Y_ruled_155 : decode (mCd M_Y_ruled) 155 = .ok (.iconst 3, 1) := by decide +kernel
theorem d_Y_ruled_156 : decode (mCd M_Y_ruled) 156 = .ok (.iaload, 1) := by decide +kernel
theorem d_Y_ruled_157 : decode (mCd M_Y_ruled) 157 = .ok (.if_icmp .le 7, 3) := by decide +kernel
theorem d_Y_ruled_160 : decode (mCd M_Y_ruled) 160 = .ok (.iconst 1, 1) := by decide +kernel
theorem d_Y_ruled_161 : decode (mCd M_Y_ruled) 161 = .ok (.goto 4, 3) := by decide +kernel
theorem d_Y_ruled_164 : decode (mCd M_Y_ruled) 164 = .ok (.iconst 0, 1) := by decide +kernel
theorem d_Y_ruled_165 : decode (mCd M_Y_ruled) 165 = .ok (.invokestatic 171, 3) := by decide +kernel
theorem d_Y_ruled_168 : decode (mCd M_Y_ruled) 168 = .ok (.iadd, 1) := by decide +kernel
theorem d_Y_ruled_169 : decode (mCd M_Y_ruled) 169 = .ok (.goto 9, 3) := by decide +kernel
theorem d_Y_ruled_172 : decode (mCd M_Y_ruled) 172 = .ok (.aload_n 0, 1) := by decide +kernel
theorem d_Y_ruled_173 : decode (mCd M_Y_ruled) 173 = .ok (.getfield 72, 3) := by decide +kernel
theorem d_Y_ruled_176 : decode (mCd M_Y_ruled) 176 = .ok (.iconst 0, 1) := by decide +kernel
theorem d_Y_ruled_177 : decode (mCd M_Y_ruled) 177 = .ok (.iaload, 1) := by decide +kernel
theorem d_Y_ruled_178 : decode (mCd M_Y_ruled) 178 = .ok (.ireturn, 1) := by decide +kernel
theorem d_Y_pull_0 : decode (mCd M_Y_pull) 0 = .ok (.aload_n 1, 1) := by decide +kernel
theorem d_Y_pull_1 : decode (mCd M_Y_pull) 1 = .ok (.bipush 17, 2) := by decide +kernel
theorem d_Y_pull_3 : decode (mCd M_Y_pull) 3 = .ok (.iload_n 2, 1) := by decide +kernel
theorem d_Y_pull_4 : decode (mCd M_Y_pull) 4 = .ok (.iadd, 1) := by decide +kernel
theorem d_Y_pull_5 : decode (mCd M_Y_pull) 5 = .ok (.iaload, 1) := by decide +kernel
theorem d_Y_pull_6 : decode (mCd M_Y_pull) 6 = .ok (.istore_n 3, 1) := by decide +kernel
theorem d_Y_pull_7 : decode (mCd M_Y_pull) 7 = .ok (.iload_n 3, 1) := by decide +kernel
theorem d_Y_pull_8 : decode (mCd M_Y_pull) 8 = .ok (.ifCond .lt 22, 3) := by decide +kernel
theorem d_Y_pull_11 : decode (mCd M_Y_pull) 11 = .ok (.aload_n 1, 1) := by decide +kernel
theorem d_Y_pull_12 : decode (mCd M_Y_pull) 12 = .ok (.bipush 33, 2) := by decide +kernel
theorem d_Y_pull_14 : decode (mCd M_Y_pull) 14 = .ok (.iaload, 1) := by decide +kernel
theorem d_Y_pull_15 : decode (mCd M_Y_pull) 15 = .ok (.i2l, 1) := by decide +kernel
theorem d_Y_pull_16 : decode (mCd M_Y_pull) 16 = .ok (.iload_n 2, 1) := by decide +kernel
theorem d_Y_pull_17 : decode (mCd M_Y_pull) 17 = .ok (.invokestatic 280, 3) := by decide +kernel
theorem d_Y_pull_20 : decode (mCd M_Y_pull) 20 = .ok (.ifCond .eq 10, 3) := by decide +kernel
theorem d_Y_pull_23 : decode (mCd M_Y_pull) 23 = .ok (.iload_n 3, 1) := by decide +kernel
theorem d_Y_pull_24 : decode (mCd M_Y_pull) 24 = .ok (.aload_n 1, 1) := by decide +kernel
theorem d_Y_pull_25 : decode (mCd M_Y_pull) 25 = .ok (.iconst 0, 1) := by decide +kernel
theorem d_Y_pull_26 : decode (mCd M_Y_pull) 26 = .ok (.iaload, 1) := by decide +kernel
theorem d_Y_pull_27 : decode (mCd M_Y_pull) 27 = .ok (.if_icmp .ne 5, 3) := by decide +kernel
theorem d_Y_pull_30 : decode (mCd M_Y_pull) 30 = .ok (.iconst 0, 1) := by decide +kernel
theorem d_Y_pull_31 : decode (mCd M_Y_pull) 31 = .ok (.ireturn, 1) := by decide +kernel
theorem d_Y_pull_32 : decode (mCd M_Y_pull) 32 = .ok (.aload_n 0, 1) := by decide +kernel
theorem d_Y_pull_33 : decode (mCd M_Y_pull) 33 = .ok (.getfield 75, 3) := by decide +kernel
theorem d_Y_pull_36 : decode (mCd M_Y_pull) 36 = .ok (.iconst 0, 1) := by decide +kernel
theorem d_Y_pull_37 : decode (mCd M_Y_pull) 37 = .ok (.aload_n 0, 1) := by decide +kernel
theorem d_Y_pull_38 : decode (mCd M_Y_pull) 38 = .ok (.getfield 48, 3) := by decide +kernel
theorem d_Y_pull_41 : decode (mCd M_Y_pull) 41 = .ok (.iload_n 2, 1) := by decide +kernel
theorem d_Y_pull_42 : decode (mCd M_Y_pull) 42 = .ok (.iaload, 1) := by decide +kernel
theorem d_Y_pull_43 : decode (mCd M_Y_pull) 43 = .ok (.iastore, 1) := by decide +kernel
theorem d_Y_pull_44 : decode (mCd M_Y_pull) 44 = .ok (.aload_n 0, 1) := by decide +kernel
theorem d_Y_pull_45 : decode (mCd M_Y_pull) 45 = .ok (.getfield 75, 3) := by decide +kernel
theorem d_Y_pull_48 : decode (mCd M_Y_pull) 48 = .ok (.iconst 1, 1) := by decide +kernel
theorem d_Y_pull_49 : decode (mCd M_Y_pull) 49 = .ok (.aload_n 1, 1) := by decide +kernel
theorem d_Y_pull_50 : decode (mCd M_Y_pull) 50 = .ok (.iconst 1, 1) := by decide +kernel
theorem d_Y_pull_51 : decode (mCd M_Y_pull) 51 = .ok (.iload_n 2, 1) := by decide +kernel
theorem d_Y_pull_52 : decode (mCd M_Y_pull) 52 = .ok (.iadd, 1) := by decide +kernel
theorem d_Y_pull_53 : decode (mCd M_Y_pull) 53 = .ok (.iaload, 1) := by decide +kernel
theorem d_Y_pull_54 : decode (mCd M_Y_pull) 54 = .ok (.iastore, 1) := by decide +kernel
theorem d_Y_pull_55 : decode (mCd M_Y_pull) 55 = .ok (.aload_n 0, 1) := by decide +kernel
theorem d_Y_pull_56 : decode (mCd M_Y_pull) 56 = .ok (.getfield 75, 3) := by decide +kernel
theorem d_Y_pull_59 : decode (mCd M_Y_pull) 59 = .ok (.iconst 2, 1) := by decide +kernel
theorem d_Y_pull_60 : decode (mCd M_Y_pull) 60 = .ok (.aload_n 1, 1) := by decide +kernel
theorem d_Y_pull_61 : decode (mCd M_Y_pull) 61 = .ok (.bipush 25, 2) := by decide +kernel
theorem d_Y_pull_63 : decode (mCd M_Y_pull) 63 = .ok (.iload_n 2, 1) := by decide +kernel
theorem d_Y_pull_64 : decode (mCd M_Y_pull) 64 = .ok (.iadd, 1) := by decide +kernel
theorem d_Y_pull_65 : decode (mCd M_Y_pull) 65 = .ok (.iaload, 1) := by decide +kernel
theorem d_Y_pull_66 : decode (mCd M_Y_pull) 66 = .ok (.iastore, 1) := by decide +kernel
theorem d_Y_pull_67 : decode (mCd M_Y_pull) 67 = .ok (.aload_n 0, 1) := by decide +kernel
theorem d_Y_pull_68 : decode (mCd M_Y_pull) 68 = .ok (.getfield 75, 3) := by decide +kernel
theorem d_Y_pull_71 : decode (mCd M_Y_pull) 71 = .ok (.iconst 3, 1) := by decide +kernel
theorem d_Y_pull_72 : decode (mCd M_Y_pull) 72 = .ok (.aload_n 1, 1) := by decide +kernel
theorem d_Y_pull_73 : decode (mCd M_Y_pull) 73 = .ok (.bipush 9, 2) := by decide +kernel
theorem d_Y_pull_75 : decode (mCd M_Y_pull) 75 = .ok (.iload_n 2, 1) := by decide +kernel
theorem d_Y_pull_76 : decode (mCd M_Y_pull) 76 = .ok (.iadd, 1) := by decide +kernel
theorem d_Y_pull_77 : decode (mCd M_Y_pull) 77 = .ok (.iaload, 1) := by decide +kernel
theorem d_Y_pull_78 : decode (mCd M_Y_pull) 78 = .ok (.iastore, 1) := by decide +kernel
theorem d_Y_pull_79 : decode (mCd M_Y_pull) 79 = .ok (.aload_n 0, 1) := by decide +kernel
theorem d_Y_pull_80 : decode (mCd M_Y_pull) 80 = .ok (.getfield 75, 3) := by decide +kernel
theorem d_Y_pull_83 : decode (mCd M_Y_pull) 83 = .ok (.iconst 4, 1) := by decide +kernel
theorem d_Y_pull_84 : decode (mCd M_Y_pull) 84 = .ok (.aload_n 0, 1) := by decide +kernel
theorem d_Y_pull_85 : decode (mCd M_Y_pull) 85 = .ok (.aload_n 1, 1) := by decide +kernel
theorem d_Y_pull_86 : decode (mCd M_Y_pull) 86 = .ok (.bipush 37, 2) := by decide +kernel
theorem d_Y_pull_88 : decode (mCd M_Y_pull) 88 = .ok (.iaload, 1) := by decide +kernel
theorem d_Y_pull_89 : decode (mCd M_Y_pull) 89 = .ok (.invokevirtual 284, 3) := by decide +kernel
theorem d_Y_pull_92 : decode (mCd M_Y_pull) 92 = .ok (.iastore, 1) := by decide +kernel
theorem d_Y_pull_93 : decode (mCd M_Y_pull) 93 = .ok (.aload_n 0, 1) := by decide +kernel
theorem d_Y_pull_94 : decode (mCd M_Y_pull) 94 = .ok (.getfield 75, 3) := by decide +kernel
theorem d_Y_pull_97 : decode (mCd M_Y_pull) 97 = .ok (.iconst 5, 1) := by decide +kernel
theorem d_Y_pull_98 : decode (mCd M_Y_pull) 98 = .ok (.aload_n 1, 1) := by decide +kernel
theorem d_Y_pull_99 : decode (mCd M_Y_pull) 99 = .ok (.bipush 37, 2) := by decide +kernel
theorem d_Y_pull_101 : decode (mCd M_Y_pull) 101 = .ok (.iaload, 1) := by decide +kernel
theorem d_Y_pull_102 : decode (mCd M_Y_pull) 102 = .ok (.bipush 7, 2) := by decide +kernel
theorem d_Y_pull_104 : decode (mCd M_Y_pull) 104 = .ok (.irem, 1) := by decide +kernel
theorem d_Y_pull_105 : decode (mCd M_Y_pull) 105 = .ok (.iastore, 1) := by decide +kernel
theorem d_Y_pull_106 : decode (mCd M_Y_pull) 106 = .ok (.aload_n 0, 1) := by decide +kernel
theorem d_Y_pull_107 : decode (mCd M_Y_pull) 107 = .ok (.getfield 75, 3) := by decide +kernel
theorem d_Y_pull_110 : decode (mCd M_Y_pull) 110 = .ok (.bipush 6, 2) := by decide +kernel
theorem d_Y_pull_112 : decode (mCd M_Y_pull) 112 = .ok (.aload_n 0, 1) := by decide +kernel
theorem d_Y_pull_113 : decode (mCd M_Y_pull) 113 = .ok (.iload_n 3, 1) := by decide +kernel
theorem d_Y_pull_114 : decode (mCd M_Y_pull) 114 = .ok (.aload_n 1, 1) := by decide +kernel
theorem d_Y_pull_115 : decode (mCd M_Y_pull) 115 = .ok (.iconst 0, 1) := by decide +kernel
theorem d_Y_pull_116 : decode (mCd M_Y_pull) 116 = .ok (.iaload, 1) := by decide +kernel
theorem d_Y_pull_117 : decode (mCd M_Y_pull) 117 = .ok (.invokevirtual 287, 3) := by decide +kernel
theorem d_Y_pull_120 : decode (mCd M_Y_pull) 120 = .ok (.iastore, 1) := by decide +kernel
theorem d_Y_pull_121 : decode (mCd M_Y_pull) 121 = .ok (.aload_n 0, 1) := by decide +kernel
theorem d_Y_pull_122 : decode (mCd M_Y_pull) 122 = .ok (.getfield 75, 3) := by decide +kernel
theorem d_Y_pull_125 : decode (mCd M_Y_pull) 125 = .ok (.bipush 7, 2) := by decide +kernel
theorem d_Y_pull_127 : decode (mCd M_Y_pull) 127 = .ok (.aload_n 0, 1) := by decide +kernel
theorem d_Y_pull_128 : decode (mCd M_Y_pull) 128 = .ok (.getfield 45, 3) := by decide +kernel
theorem d_Y_pull_131 : decode (mCd M_Y_pull) 131 = .ok (.iload_n 2, 1) := by decide +kernel
theorem d_Y_pull_132 : decode (mCd M_Y_pull) 132 = .ok (.iaload, 1) := by decide +kernel
theorem d_Y_pull_133 : decode (mCd M_Y_pull) 133 = .ok (.iastore, 1) := by decide +kernel
theorem d_Y_pull_134 : decode (mCd M_Y_pull) 134 = .ok (.iconst 0, 1) := by decide +kernel
theorem d_Y_pull_135 : decode (mCd M_Y_pull) 135 = .ok (.bipush 9, 2) := by decide +kernel
theorem d_Y_pull_137 : decode (mCd M_Y_pull) 137 = .ok (.aload_n 0, 1) := by decide +kernel
theorem d_Y_pull_138 : decode (mCd M_Y_pull) 138 = .ok (.invokevirtual 290, 3) := by decide +kernel
theorem d_Y_pull_141 : decode (mCd M_Y_pull) 141 = .ok (.invokestatic 164, 3) := by decide +kernel
theorem d_Y_pull_144 : decode (mCd M_Y_pull) 144 = .ok (.invokestatic 293, 3) := by decide +kernel
theorem d_Y_pull_147 : decode (mCd M_Y_pull) 147 = .ok (.ireturn, 1) := by decide +kernel
theorem d_Y_rowsBetween_0 : decode (mCd M_Y_rowsBetween) 0 = .ok (.aload_n 1, 1) := by decide +kernel
theorem d_Y_rowsBetween_1 : decode (mCd M_Y_rowsBetween) 1 = .ok (.bipush 17, 2) := by decide +kernel
theorem d_Y_rowsBetween_3 : decode (mCd M_Y_rowsBetween) 3 = .ok (.iload_n 2, 1) := by decide +kernel
theorem d_Y_rowsBetween_4 : decode (mCd M_Y_rowsBetween) 4 = .ok (.iadd, 1) := by decide +kernel
theorem d_Y_rowsBetween_5 : decode (mCd M_Y_rowsBetween) 5 = .ok (.iaload, 1) := by decide +kernel
theorem d_Y_rowsBetween_6 : decode (mCd M_Y_rowsBetween) 6 = .ok (.aload_n 0, 1) := by decide +kernel
theorem d_Y_rowsBetween_7 : decode (mCd M_Y_rowsBetween) 7 = .ok (.getfield 31, 3) := by decide +kernel
theorem d_Y_rowsBetween_10 : decode (mCd M_Y_rowsBetween) 10 = .ok (.idiv, 1) := by decide +kernel
theorem d_Y_rowsBetween_11 : decode (mCd M_Y_rowsBetween) 11 = .ok (.aload_n 1, 1) := by decide +kernel
theorem d_Y_rowsBetween_12 : decode (mCd M_Y_rowsBetween) 12 = .ok (.iconst 0, 1) := by decide +kernel
theorem d_Y_rowsBetween_13 : decode (mCd M_Y_rowsBetween) 13 = .ok (.iaload, 1) := by decide +kernel
theorem d_Y_rowsBetween_14 : decode (mCd M_Y_rowsBetween) 14 = .ok (.aload_n 0, 1) := by decide +kernel
theorem d_Y_rowsBetween_15 : decode (mCd M_Y_rowsBetween) 15 = .ok (.getfield 31, 3) := by decide +kernel
theorem d_Y_rowsBetween_18 : decode (mCd M_Y_rowsBetween) 18 = .ok (.idiv, 1) := by decide +kernel
theorem d_Y_rowsBetween_19 : decode (mCd M_Y_rowsBetween) 19 = .ok (.isub, 1) := by decide +kernel
theorem d_Y_rowsBetween_20 : decode (mCd M_Y_rowsBetween) 20 = .ok (.ireturn, 1) := by decide +kernel
theorem d_Y_columnsBetween_0 : decode (mCd M_Y_columnsBetween) 0 = .ok (.aload_n 1, 1) := by decide +kernel
theorem d_Y_columnsBetween_1 : decode (mCd M_Y_columnsBetween) 1 = .ok (.bipush 17, 2) := by decide +kernel
theorem d_Y_columnsBetween_3 : decode (mCd M_Y_columnsBetween) 3 = .ok (.iload_n 2, 1) := by decide +kernel
theorem d_Y_columnsBetween_4 : decode (mCd M_Y_columnsBetween) 4 = .ok (.iadd, 1) := by decide +kernel
theorem d_Y_columnsBetween_5 : decode (mCd M_Y_columnsBetween) 5 = .ok (.iaload, 1) := by decide +kernel
theorem d_Y_columnsBetween_6 : decode (mCd M_Y_columnsBetween) 6 = .ok (.aload_n 0, 1) := by decide +kernel
theorem d_Y_columnsBetween_7 : decode (mCd M_Y_columnsBetween) 7 = .ok (.getfield 31, 3) := by decide +kernel
theorem d_Y_columnsBetween_10 : decode (mCd M_Y_columnsBetween) 10 = .ok (.irem, 1) := by decide +kernel
theorem d_Y_columnsBetween_11 : decode (mCd M_Y_columnsBetween) 11 = .ok (.aload_n 1, 1) := by decide +kernel
theorem d_Y_columnsBetween_12 : decode (mCd M_Y_columnsBetween) 12 = .ok (.iconst 0, 1) := by decide +kernel
theorem d_Y_columnsBetween_13 : decode (mCd M_Y_columnsBetween) 13 = .ok (.iaload, 1) := by decide +kernel
theorem d_Y_columnsBetween_14 : decode (mCd M_Y_columnsBetween) 14 = .ok (.aload_n 0, 1) := by decide +kernel
theorem d_Y_columnsBetween_15 : decode (mCd M_Y_columnsBetween) 15 = .ok (.getfield 31, 3) := by decide +kernel
theorem d_Y_columnsBetween_18 : decode (mCd M_Y_columnsBetween) 18 = .ok (.irem, 1) := by decide +kernel
theorem d_Y_columnsBetween_19 : decode (mCd M_Y_columnsBetween) 19 = .ok (.isub, 1) := by decide +kernel
theorem d_Y_columnsBetween_20 : decode (mCd M_Y_columnsBetween) 20 = .ok (.ireturn, 1) := by decide +kernel
theorem d_Y_isOfTwoMinds_0 : decode (mCd M_Y_isOfTwoMinds) 0 = .ok (.aload_n 1, 1) := by decide +kernel
theorem d_Y_isOfTwoMinds_1 : decode (mCd M_Y_isOfTwoMinds) 1 = .ok (.bipush 17, 2) := by decide +kernel
theorem d_Y_isOfTwoMinds_3 : decode (mCd M_Y_isOfTwoMinds) 3 = .ok (.iload_n 2, 1) := by decide +kernel
theorem d_Y_isOfTwoMinds_4 : decode (mCd M_Y_isOfTwoMinds) 4 = .ok (.iadd, 1) := by decide +kernel
theorem d_Y_isOfTwoMinds_5 : decode (mCd M_Y_isOfTwoMinds) 5 = .ok (.iaload, 1) := by decide +kernel
theorem d_Y_isOfTwoMinds_6 : decode (mCd M_Y_isOfTwoMinds) 6 = .ok (.ifCond .lt 40, 3) := by decide +kernel
theorem d_Y_isOfTwoMinds_9 : decode (mCd M_Y_isOfTwoMinds) 9 = .ok (.aload_n 1, 1) := by decide +kernel
theorem d_Y_isOfTwoMinds_10 : decode (mCd M_Y_isOfTwoMinds) 10 = .ok (.bipush 17, 2) := by decide +kernel
theorem d_Y_isOfTwoMinds_12 : decode (mCd M_Y_isOfTwoMinds) 12 = .ok (.iload_n 2, 1) := by decide +kernel
theorem d_Y_isOfTwoMinds_13 : decode (mCd M_Y_isOfTwoMinds) 13 = .ok (.iadd, 1) := by decide +kernel
theorem d_Y_isOfTwoMinds_14 : decode (mCd M_Y_isOfTwoMinds) 14 = .ok (.iaload, 1) := by decide +kernel
theorem d_Y_isOfTwoMinds_15 : decode (mCd M_Y_isOfTwoMinds) 15 = .ok (.aload_n 1, 1) := by decide +kernel
theorem d_Y_isOfTwoMinds_16 : decode (mCd M_Y_isOfTwoMinds) 16 = .ok (.iconst 0, 1) := by decide +kernel
theorem d_Y_isOfTwoMinds_17 : decode (mCd M_Y_isOfTwoMinds) 17 = .ok (.iaload, 1) := by decide +kernel
theorem d_Y_isOfTwoMinds_18 : decode (mCd M_Y_isOfTwoMinds) 18 = .ok (.if_icmp .eq 28, 3) := by decide +kernel
theorem d_Y_isOfTwoMinds_21 : decode (mCd M_Y_isOfTwoMinds) 21 = .ok (.aload_n 0, 1) := by decide +kernel
theorem d_Y_isOfTwoMinds_22 : decode (mCd M_Y_isOfTwoMinds) 22 = .ok (.aload_n 1, 1) := by decide +kernel
theorem d_Y_isOfTwoMinds_23 : decode (mCd M_Y_isOfTwoMinds) 23 = .ok (.iload_n 2, 1) := by decide +kernel
theorem d_Y_isOfTwoMinds_24 : decode (mCd M_Y_isOfTwoMinds) 24 = .ok (.invokevirtual 296, 3) := by decide +kernel
theorem d_Y_isOfTwoMinds_27 : decode (mCd M_Y_isOfTwoMinds) 27 = .ok (.invokestatic 149, 3) := by decide +kernel
theorem d_Y_isOfTwoMinds_30 : decode (mCd M_Y_isOfTwoMinds) 30 = .ok (.aload_n 0, 1) := by decide +kernel
theorem d_Y_isOfTwoMinds_31 : decode (mCd M_Y_isOfTwoMinds) 31 = .ok (.aload_n 1, 1) := by decide +kernel
theorem d_Y_isOfTwoMinds_32 : decode (mCd M_Y_isOfTwoMinds) 32 = .ok (.iload_n 2, 1) := by decide +kernel
theorem d_Y_isOfTwoMinds_33 : decode (mCd M_Y_isOfTwoMinds) 33 = .ok (.invokevirtual 300, 3) := by decide +kernel
theorem d_Y_isOfTwoMinds_36 : decode (mCd M_Y_isOfTwoMinds) 36 = .ok (.invokestatic 149, 3) := by decide +kernel
theorem d_Y_isOfTwoMinds_39 : decode (mCd M_Y_isOfTwoMinds) 39 = .ok (.if_icmp .ne 7, 3) := by decide +kernel
theorem d_Y_isOfTwoMinds_42 : decode (mCd M_Y_isOfTwoMinds) 42 = .ok (.iconst 1, 1) := by decide +kernel
theorem d_Y_isOfTwoMinds_43 : decode (mCd M_Y_isOfTwoMinds) 43 = .ok (.goto 4, 3) := by decide +kernel
theorem d_Y_isOfTwoMinds_46 : decode (mCd M_Y_isOfTwoMinds) 46 = .ok (.iconst 0, 1) := by decide +kernel
theorem d_Y_isOfTwoMinds_47 : decode (mCd M_Y_isOfTwoMinds) 47 = .ok (.ireturn, 1) := by decide +kernel
theorem d_Y_upOrDown_0 : decode (mCd M_Y_upOrDown) 0 = .ok (.aload_n 0, 1) := by decide +kernel
theorem d_Y_upOrDown_1 : decode (mCd M_Y_upOrDown) 1 = .ok (.aload_n 1, 1) := by decide +kernel
theorem d_Y_upOrDown_2 : decode (mCd M_Y_upOrDown) 2 = .ok (.iload_n 2, 1) := by decide +kernel
theorem d_Y_upOrDown_3 : decode (mCd M_Y_upOrDown) 3 = .ok (.invokevirtual 296, 3) := by decide +kernel
theorem d_Y_upOrDown_6 : decode (mCd M_Y_upOrDown) 6 = .ok (.ifCond .ge 7, 3) := by decide +kernel
theorem d_Y_upOrDown_9 : decode (mCd M_Y_upOrDown) 9 = .ok (.iconst 0, 1) := by decide +kernel
theorem d_Y_upOrDown_10 : decode (mCd M_Y_upOrDown) 10 = .ok (.goto 4, 3) := by decide +kernel
theorem d_Y_upOrDown_13 : decode (mCd M_Y_upOrDown) 13 = .ok (.iconst 2, 1) := by decide +kernel
theorem d_Y_upOrDown_14 : decode (mCd M_Y_upOrDown) 14 = .ok (.ireturn, 1) := by decide +kernel
theorem d_Y_rightOrLeft_0 : decode (mCd M_Y_rightOrLeft) 0 = .ok (.aload_n 0, 1) := by decide +kernel
theorem d_Y_rightOrLeft_1 : decode (mCd M_Y_rightOrLeft) 1 = .ok (.aload_n 1, 1) := by decide +kernel
theorem d_Y_rightOrLeft_2 : decode (mCd M_Y_rightOrLeft) 2 = .ok (.iload_n 2, 1) := by decide +kernel
theorem d_Y_rightOrLeft_3 : decode (mCd M_Y_rightOrLeft) 3 = .ok (.invokevirtual 300, 3) := by decide +kernel
theorem d_Y_rightOrLeft_6 : decode (mCd M_Y_rightOrLeft) 6 = .ok (.ifCond .le 7, 3) := by decide +kernel
theorem d_Y_rightOrLeft_9 : decode (mCd M_Y_rightOrLeft) 9 = .ok (.iconst 1, 1) := by decide +kernel
theorem d_Y_rightOrLeft_10 : decode (mCd M_Y_rightOrLeft) 10 = .ok (.goto 4, 3) := by decide +kernel
theorem d_Y_rightOrLeft_13 : decode (mCd M_Y_rightOrLeft) 13 = .ok (.iconst 3, 1) := by decide +kernel
theorem d_Y_rightOrLeft_14 : decode (mCd M_Y_rightOrLeft) 14 = .ok (.ireturn, 1) := by decide +kernel
theorem d_Y_wayOf_0 : decode (mCd M_Y_wayOf) 0 = .ok (.aload_n 0, 1) := by decide +kernel
theorem d_Y_wayOf_1 : decode (mCd M_Y_wayOf) 1 = .ok (.getfield 45, 3) := by decide +kernel
theorem d_Y_wayOf_4 : decode (mCd M_Y_wayOf) 4 = .ok (.iload_n 2, 1) := by decide +kernel
theorem d_Y_wayOf_5 : decode (mCd M_Y_wayOf) 5 = .ok (.iaload, 1) := by decide +kernel
theorem d_Y_wayOf_6 : decode (mCd M_Y_wayOf) 6 = .ok (.iconst 3, 1) := by decide +kernel
theorem d_Y_wayOf_7 : decode (mCd M_Y_wayOf) 7 = .ok (.if_icmp .ne 14, 3) := by decide +kernel
theorem d_Y_wayOf_10 : decode (mCd M_Y_wayOf) 10 = .ok (.aload_n 0, 1) := by decide +kernel
theorem d_Y_wayOf_11 : decode (mCd M_Y_wayOf) 11 = .ok (.aload_n 1, 1) := by decide +kernel
theorem d_Y_wayOf_12 : decode (mCd M_Y_wayOf) 12 = .ok (.iload_n 2, 1) := by decide +kernel
theorem d_Y_wayOf_13 : decode (mCd M_Y_wayOf) 13 = .ok (.invokevirtual 303, 3) := by decide +kernel
theorem d_Y_wayOf_16 : decode (mCd M_Y_wayOf) 16 = .ok (.ifCond .eq 5, 3) := by decide +kernel
theorem d_Y_wayOf_19 : decode (mCd M_Y_wayOf) 19 = .ok (.iconst 4, 1) := by decide +kernel
theorem d_Y_wayOf_20 : decode (mCd M_Y_wayOf) 20 = .ok (.ireturn, 1) := by decide +kernel
theorem d_Y_wayOf_21 : decode (mCd M_Y_wayOf) 21 = .ok (.aload_n 0, 1) := by decide +kernel
theorem d_Y_wayOf_22 : decode (mCd M_Y_wayOf) 22 = .ok (.aload_n 1, 1) := by decide +kernel
theorem d_Y_wayOf_23 : decode (mCd M_Y_wayOf) 23 = .ok (.iload_n 2, 1) := by decide +kernel
theorem d_Y_wayOf_24 : decode (mCd M_Y_wayOf) 24 = .ok (.invokevirtual 296, 3) := by decide +kernel
theorem d_Y_wayOf_27 : decode (mCd M_Y_wayOf) 27 = .ok (.invokestatic 149, 3) := by decide +kernel
theorem d_Y_wayOf_30 : decode (mCd M_Y_wayOf) 30 = .ok (.aload_n 0, 1) := by decide +kernel
theorem d_Y_wayOf_31 : decode (mCd M_Y_wayOf) 31 = .ok (.aload_n 1, 1) := by decide +kernel
theorem d_Y_wayOf_32 : decode (mCd M_Y_wayOf) 32 = .ok (.iload_n 2, 1) := by decide +kernel
theorem d_Y_wayOf_33 : decode (mCd M_Y_wayOf) 33 = .ok (.invokevirtual 300, 3) := by decide +kernel
theorem d_Y_wayOf_36 : decode (mCd M_Y_wayOf) 36 = .ok (.invokestatic 149, 3) := by decide +kernel
theorem d_Y_wayOf_39 : decode (mCd M_Y_wayOf) 39 = .ok (.if_icmp .lt 12, 3) := by decide +kernel
theorem d_Y_wayOf_42 : decode (mCd M_Y_wayOf) 42 = .ok (.aload_n 0, 1) := by decide +kernel
theorem d_Y_wayOf_43 : decode (mCd M_Y_wayOf) 43 = .ok (.aload_n 1, 1) := by decide +kernel
theorem d_Y_wayOf_44 : decode (mCd M_Y_wayOf) 44 = .ok (.iload_n 2, 1) := by decide +kernel
theorem d_Y_wayOf_45 : decode (mCd M_Y_wayOf) 45 = .ok (.invokevirtual 306, 3) := by decide +kernel
theorem d_Y_wayOf_48 : decode (mCd M_Y_wayOf) 48 = .ok (.goto 9, 3) := by decide +kernel
theorem d_Y_wayOf_51 : decode (mCd M_Y_wayOf) 51 = .ok (.aload_n 0, 1) := by decide +kernel
theorem d_Y_wayOf_52 : decode (mCd M_Y_wayOf) 52 = .ok (.aload_n 1, 1) := by decide +kernel
theorem d_Y_wayOf_53 : decode (mCd M_Y_wayOf) 53 = .ok (.iload_n 2, 1) := by decide +kernel
theorem d_Y_wayOf_54 : decode (mCd M_Y_wayOf) 54 = .ok (.invokevirtual 309, 3) := by decide +kernel
theorem d_Y_wayOf_57 : decode (mCd M_Y_wayOf) 57 = .ok (.istore_n 3, 1) := by decide +kernel
theorem d_Y_wayOf_58 : decode (mCd M_Y_wayOf) 58 = .ok (.aload_n 0, 1) := by decide +kernel
theorem d_Y_wayOf_59 : decode (mCd M_Y_wayOf) 59 = .ok (.getfield 45, 3) := by decide +kernel
theorem d_Y_wayOf_62 : decode (mCd M_Y_wayOf) 62 = .ok (.iload_n 2, 1) := by decide +kernel
theorem d_Y_wayOf_63 : decode (mCd M_Y_wayOf) 63 = .ok (.iaload, 1) := by decide +kernel
theorem d_Y_wayOf_64 : decode (mCd M_Y_wayOf) 64 = .ok (.iconst 1, 1) := by decide +kernel
theorem d_Y_wayOf_65 : decode (mCd M_Y_wayOf) 65 = .ok (.if_icmp .ne 11, 3) := by decide +kernel
theorem d_Y_wayOf_68 : decode (mCd M_Y_wayOf) 68 = .ok (.iload_n 3, 1) := by decide +kernel
theorem d_Y_wayOf_69 : decode (mCd M_Y_wayOf) 69 = .ok (.iconst 2, 1) := by decide +kernel
theorem d_Y_wayOf_70 : decode (mCd M_Y_wayOf) 70 = .ok (.iadd, 1) := by decide +kernel
theorem d_Y_wayOf_71 : decode (mCd M_Y_wayOf) 71 = .ok (.iconst 4, 1) := by decide +kernel
theorem d_Y_wayOf_72 : decode (mCd M_Y_wayOf) 72 = .ok (.irem, 1) := by decide +kernel
theorem d_Y_wayOf_73 : decode (mCd M_Y_wayOf) 73 = .ok (.goto 4, 3) := by decide +kernel
theorem d_Y_wayOf_76 : decode (mCd M_Y_wayOf) 76 = .ok (.iload_n 3, 1) := by decide +kernel
theorem d_Y_wayOf_77 : decode (mCd M_Y_wayOf) 77 = .ok (.ireturn, 1) := by decide +kernel
theorem d_Y_laysPulls_0 : decode (mCd M_Y_laysPulls) 0 = .ok (.iconst 0, 1) := by decide +kernel
theorem d_Y_laysPulls_1 : decode (mCd M_Y_laysPulls) 1 = .ok (.istore_n 2, 1) := by decide +kernel
theorem d_Y_laysPulls_2 : decode (mCd M_Y_laysPulls) 2 = .ok (.iload_n 2, 1) := by decide +kernel
theorem d_Y_laysPulls_3 : decode (mCd M_Y_laysPulls) 3 = .ok (.aload_n 0, 1) := by decide +kernel
theorem d_Y_laysPulls_4 : decode (mCd M_Y_laysPulls) 4 = .ok (.getfield 146, 3) := by decide +kernel
theorem d_Y_laysPulls_7 : decode (mCd M_Y_laysPulls) 7 = .ok (.if_icmp .ge 21, 3) := by decide +kernel
theorem d_Y_laysPulls_10 : decode (mCd M_Y_laysPulls) 10 = .ok (.aload_n 0, 1) := by decide +kernel
theorem d_Y_laysPulls_11 : decode (mCd M_Y_laysPulls) 11 = .ok (.getfield 78, 3) := by decide +kernel
theorem d_Y_laysPulls_14 : decode (mCd M_Y_laysPulls) 14 = .ok (.iload_n 2, 1) := by decide +kernel
theorem d_Y_laysPulls_15 : decode (mCd M_Y_laysPulls) 15 = .ok (.aload_n 0, 1) := by decide +kernel
theorem d_Y_laysPulls_16 : decode (mCd M_Y_laysPulls) 16 = .ok (.aload_n 1, 1) := by decide +kernel
theorem d_Y_laysPulls_17 : decode (mCd M_Y_laysPulls) 17 = .ok (.iload_n 2, 1) := by decide +kernel
theorem d_Y_laysPulls_18 : decode (mCd M_Y_laysPulls) 18 = .ok (.invokevirtual 312, 3) := by decide +kernel
theorem d_Y_laysPulls_21 : decode (mCd M_Y_laysPulls) 21 = .ok (.iastore, 1) := by decide +kernel
theorem d_Y_laysPulls_22 : decode (mCd M_Y_laysPulls) 22 = .ok (.iinc 2 1, 3) := by decide +kernel
theorem d_Y_laysPulls_25 : decode (mCd M_Y_laysPulls) 25 = .ok (.goto (-23), 3) := by decide +kernel
theorem d_Y_laysPulls_28 : decode (mCd M_Y_laysPulls) 28 = .ok (.return_, 1) := by decide +kernel
theorem d_Y_net_0 : decode (mCd M_Y_net) 0 = .ok (.aload_n 0, 1) := by decide +kernel
theorem d_Y_net_1 : decode (mCd M_Y_net) 1 = .ok (.getfield 81, 3) := by decide +kernel
theorem d_Y_net_4 : decode (mCd M_Y_net) 4 = .ok (.iload_n 1, 1) := by decide +kernel
theorem d_Y_net_5 : decode (mCd M_Y_net) 5 = .ok (.iaload, 1) := by decide +kernel
theorem d_Y_net_6 : decode (mCd M_Y_net) 6 = .ok (.aload_n 0, 1) := by decide +kernel
theorem d_Y_net_7 : decode (mCd M_Y_net) 7 = .ok (.getfield 81, 3) := by decide +kernel
theorem d_Y_net_10 : decode (mCd M_Y_net) 10 = .ok (.iload_n 1, 1) := by decide +kernel
theorem d_Y_net_11 : decode (mCd M_Y_net) 11 = .ok (.iconst 2, 1) := by decide +kernel
theorem d_Y_net_12 : decode (mCd M_Y_net) 12 = .ok (.iadd, 1) := by decide +kernel
theorem d_Y_net_13 : decode (mCd M_Y_net) 13 = .ok (.iconst 4, 1) := by decide +kernel
theorem d_Y_net_14 : decode (mCd M_Y_net) 14 = .ok (.irem, 1) := by decide +kernel
theorem d_Y_net_15 : decode (mCd M_Y_net) 15 = .ok (.iaload, 1) := by decide +kernel
theorem d_Y_net_16 : decode (mCd M_Y_net) 16 = .ok (.isub, 1) := by decide +kernel
theorem d_Y_net_17 : decode (mCd M_Y_net) 17 = .ok (.ireturn, 1) := by decide +kernel
theorem d_Y_goesBy_0 : decode (mCd M_Y_goesBy) 0 = .ok (.iconst 0, 1) := by decide +kernel
theorem d_Y_goesBy_1 : decode (mCd M_Y_goesBy) 1 = .ok (.istore_n 3, 1) := by decide +kernel
theorem d_Y_goesBy_2 : decode (mCd M_Y_goesBy) 2 = .ok (.iload_n 3, 1) := by decide +kernel
theorem d_Y_goesBy_3 : decode (mCd M_Y_goesBy) 3 = .ok (.iconst 4, 1) := by decide +kernel
theorem d_Y_goesBy_4 : decode (mCd M_Y_goesBy) 4 = .ok (.if_icmp .ge 16, 3) := by decide +kernel
theorem d_Y_goesBy_7 : decode (mCd M_Y_goesBy) 7 = .ok (.aload_n 0, 1) := by decide +kernel
theorem d_Y_goesBy_8 : decode (mCd M_Y_goesBy) 8 = .ok (.getfield 81, 3) := by decide +kernel
theorem d_Y_goesBy_11 : decode (mCd M_Y_goesBy) 11 = .ok (.iload_n 3, 1) := by decide +kernel
theorem d_Y_goesBy_12 : decode (mCd M_Y_goesBy) 12 = .ok (.iconst 0, 1) := by decide +kernel
theorem d_Y_goesBy_13 : decode (mCd M_Y_goesBy) 13 = .ok (.iastore, 1) := by decide +kernel
theorem d_Y_goesBy_14 : decode (mCd M_Y_goesBy) 14 = .ok (.iinc 3 1, 3) := by decide +kernel
theorem d_Y_goesBy_17 : decode (mCd M_Y_goesBy) 17 = .ok (.goto (-15), 3) := by decide +kernel
theorem d_Y_goesBy_20 : decode (mCd M_Y_goesBy) 20 = .ok (.iconst 0, 1) := by decide +kernel
theorem d_Y_goesBy_21 : decode (mCd M_Y_goesBy) 21 = .ok (.istore_n 3, 1) := by decide +kernel
theorem d_Y_goesBy_22 : decode (mCd M_Y_goesBy) 22 = .ok (.iload_n 3, 1) := by decide +kernel
theorem d_Y_goesBy_23 : decode (mCd M_Y_goesBy) 23 = .ok (.aload_n 0, 1) := by decide +kernel
theorem d_Y_goesBy_24 : decode (mCd M_Y_goesBy) 24 = .ok (.getfield 146, 3) := by decide +kernel
theorem d_Y_goesBy_27 : decode (mCd M_Y_goesBy) 27 = .ok (.if_icmp .ge 115, 3) := by decide +kernel
theorem d_Y_goesBy_30 : decode (mCd M_Y_goesBy) 30 = .ok (.iload_n 2, 1) := by decide +kernel
theorem d_Y_goesBy_31 : decode (mCd M_Y_goesBy) 31 = .ok (.i2l, 1) := by decide +kernel
theorem d_Y_goesBy_32 : decode (mCd M_Y_goesBy) 32 = .ok (.iload_n 3, 1) := by decide +kernel
theorem d_Y_goesBy_33 : decode (mCd M_Y_goesBy) 33 = .ok (.invokestatic 280, 3) := by decide +kernel
theorem d_Y_goesBy_36 : decode (mCd M_Y_goesBy) 36 = .ok (.ifCond .eq 100, 3) := by decide +kernel
theorem d_Y_goesBy_39 : decode (mCd M_Y_goesBy) 39 = .ok (.aload_n 0, 1) := by decide +kernel
theorem d_Y_goesBy_40 : decode (mCd M_Y_goesBy) 40 = .ok (.getfield 78, 3) := by decide +kernel
theorem d_Y_goesBy_43 : decode (mCd M_Y_goesBy) 43 = .ok (.iload_n 3, 1) := by decide +kernel
theorem d_Y_goesBy_44 : decode (mCd M_Y_goesBy) 44 = .ok (.iaload, 1) := by decide +kernel
theorem d_Y_goesBy_45 : decode (mCd M_Y_goesBy) 45 = .ok (.ifCond .le 91, 3) := by decide +kernel
theorem d_Y_goesBy_48 : decode (mCd M_Y_goesBy) 48 = .ok (.aload_n 0, 1) := by decide +kernel
theorem d_Y_goesBy_49 : decode (mCd M_Y_goesBy) 49 = .ok (.aload_n 1, 1) := by decide +kernel
theorem d_Y_goesBy_50 : decode (mCd M_Y_goesBy) 50 = .ok (.iload_n 3, 1) := by decide +kernel
theorem d_Y_goesBy_51 : decode (mCd M_Y_goesBy) 51 = .ok (.invokevirtual 315, 3) := by decide +kernel
theorem d_Y_goesBy_54 : decode (mCd M_Y_goesBy) 54 = .ok (.istore 4, 2) := by decide +kernel
theorem d_Y_goesBy_56 : decode (mCd M_Y_goesBy) 56 = .ok (.aload_n 0, 1) := by decide +kernel
theorem d_Y_goesBy_57 : decode (mCd M_Y_goesBy) 57 = .ok (.getfield 81, 3) := by decide +kernel
theorem d_Y_goesBy_60 : decode (mCd M_Y_goesBy) 60 = .ok (.iload 4, 2) := by decide +kernel
theorem d_Y_goesBy_62 : decode (mCd M_Y_goesBy) 62 = .ok (.iconst 4, 1) := by decide +kernel
theorem d_Y_goesBy_63 : decode (mCd M_Y_goesBy) 63 = .ok (.if_icmp .ne 12, 3) := by decide +kernel
theorem d_Y_goesBy_66 : decode (mCd M_Y_goesBy) 66 = .ok (.aload_n 0, 1) := by decide +kernel
theorem d_Y_goesBy_67 : decode (mCd M_Y_goesBy) 67 = .ok (.aload_n 1, 1) := by decide +kernel
theorem d_Y_goesBy_68 : decode (mCd M_Y_goesBy) 68 = .ok (.iload_n 3, 1) := by decide +kernel
theorem d_Y_goesBy_69 : decode (mCd M_Y_goesBy) 69 = .ok (.invokevirtual 306, 3) := by decide +kernel
theorem d_Y_goesBy_72 : decode (mCd M_Y_goesBy) 72 = .ok (.goto 5, 3) := by decide +kernel
theorem d_Y_goesBy_75 : decode (mCd M_Y_goesBy) 75 = .ok (.iload 4, 2) := by decide +kernel
theorem d_Y_goesBy_77 : decode (mCd M_Y_goesBy) 77 = .ok (.dup2, 1) := by decide +kernel
theorem d_Y_goesBy_78 : decode (mCd M_Y_goesBy) 78 = .ok (.iaload, 1) := by decide +kernel
theorem d_Y_goesBy_79 : decode (mCd M_Y_goesBy) 79 = .ok (.iload 4, 2) := by decide +kernel
theorem d_Y_goesBy_81 : decode (mCd M_Y_goesBy) 81 = .ok (.iconst 4, 1) := by decide +kernel
theorem d_Y_goesBy_82 : decode (mCd M_Y_goesBy) 82 = .ok (.if_icmp .ne 14, 3) := by decide +kernel
theorem d_Y_goesBy_85 : decode (mCd M_Y_goesBy) 85 = .ok (.aload_n 0, 1) := by decide +kernel
theorem d_Y_goesBy_86 : decode (mCd M_Y_goesBy) 86 = .ok (.getfield 78, 3) := by decide +kernel
theorem d_Y_goesBy_89 : decode (mCd M_Y_goesBy) 89 = .ok (.iload_n 3, 1) := by decide +kernel
theorem d_Y_goesBy_90 : decode (mCd M_Y_goesBy) 90 = .ok (.iaload, 1) := by decide +kernel
theorem d_Y_goesBy_91 : decode (mCd M_Y_goesBy) 91 = .ok (.iconst 2, 1) := by decide +kernel
theorem d_Y_goesBy_92 : decode (mCd M_Y_goesBy) 92 = .ok (.idiv, 1) := by decide +kernel
theorem d_Y_goesBy_93 : decode (mCd M_Y_goesBy) 93 = .ok (.goto 9, 3) := by decide +kernel
theorem d_Y_goesBy_96 : decode (mCd M_Y_goesBy) 96 = .ok (.aload_n 0, 1) := by decide +kernel
theorem d_Y_goesBy_97 : decode (mCd M_Y_goesBy) 97 = .ok (.getfield 78, 3) := by decide +kernel
theorem d_Y_goesBy_100 : decode (mCd M_Y_goesBy) 100 = .ok (.iload_n 3, 1) := by decide +kernel
theorem d_Y_goesBy_101 : decode (mCd M_Y_goesBy) 101 = .ok (.iaload, 1) := by decide +kernel
theorem d_Y_goesBy_102 : decode (mCd M_Y_goesBy) 102 = .ok (.iadd, 1) := by decide +kernel
theorem d_Y_goesBy_103 : decode (mCd M_Y_goesBy) 103 = .ok (.iastore, 1) := by decide +kernel
theorem d_Y_goesBy_104 : decode (mCd M_Y_goesBy) 104 = .ok (.aload_n 0, 1) := by decide +kernel
theorem d_Y_goesBy_105 : decode (mCd M_Y_goesBy) 105 = .ok (.getfield 81, 3) := by decide +kernel
theorem d_Y_goesBy_108 : decode (mCd M_Y_goesBy) 108 = .ok (.aload_n 0, 1) := by decide +kernel
theorem d_Y_goesBy_109 : decode (mCd M_Y_goesBy) 109 = .ok (.aload_n 1, 1) := by decide +kernel
theorem d_Y_goesBy_110 : decode (mCd M_Y_goesBy) 110 = .ok (.iload_n 3, 1) := by decide +kernel
theorem d_Y_goesBy_111 : decode (mCd M_Y_goesBy) 111 = .ok (.invokevirtual 309, 3) := by decide +kernel
theorem d_Y_goesBy_114 : decode (mCd M_Y_goesBy) 114 = .ok (.dup2, 1) := by decide +kernel
theorem d_Y_goesBy_115 : decode (mCd M_Y_goesBy) 115 = .ok (.iaload, 1) := by decide +kernel
theorem d_Y_goesBy_116 : decode (mCd M_Y_goesBy) 116 = .ok (.iload 4, 2) := by decide +kernel
theorem d_Y_goesBy_118 : decode (mCd M_Y_goesBy) 118 = .ok (.iconst 4, 1) := by decide +kernel
theorem d_Y_goesBy_119 : decode (mCd M_Y_goesBy) 119 = .ok (.if_icmp .ne 14, 3) := by decide +kernel
theorem d_Y_goesBy_122 : decode (mCd M_Y_goesBy) 122 = .ok (.aload_n 0, 1) := by decide +kernel
theorem d_Y_goesBy_123 : decode (mCd M_Y_goesBy) 123 = .ok (.getfield 78, 3) := by decide +kernel
theorem d_Y_goesBy_126 : decode (mCd M_Y_goesBy) 126 = .ok (.iload_n 3, 1) := by decide +kernel
theorem d_Y_goesBy_127 : decode (mCd M_Y_goesBy) 127 = .ok (.iaload, 1) := by decide +kernel
theorem d_Y_goesBy_128 : decode (mCd M_Y_goesBy) 128 = .ok (.iconst 2, 1) := by decide +kernel
theorem d_Y_goesBy_129 : decode (mCd M_Y_goesBy) 129 = .ok (.idiv, 1) := by decide +kernel
theorem d_Y_goesBy_130 : decode (mCd M_Y_goesBy) 130 = .ok (.goto 4, 3) := by decide +kernel
theorem d_Y_goesBy_133 : decode (mCd M_Y_goesBy) 133 = .ok (.iconst 0, 1) := by decide +kernel
theorem d_Y_goesBy_134 : decode (mCd M_Y_goesBy) 134 = .ok (.iadd, 1) := by decide +kernel
theorem d_Y_goesBy_135 : decode (mCd M_Y_goesBy) 135 = .ok (.iastore, 1) := by decide +kernel
theorem d_Y_goesBy_136 : decode (mCd M_Y_goesBy) 136 = .ok (.iinc 3 1, 3) := by decide +kernel
theorem d_Y_goesBy_139 : decode (mCd M_Y_goesBy) 139 = .ok (.goto (-117), 3) := by decide +kernel
theorem d_Y_goesBy_142 : decode (mCd M_Y_goesBy) 142 = .ok (.iconst 0, 1) := by decide +kernel
theorem d_Y_goesBy_143 : decode (mCd M_Y_goesBy) 143 = .ok (.istore_n 3, 1) := by decide +kernel
theorem d_Y_goesBy_144 : decode (mCd M_Y_goesBy) 144 = .ok (.iconst 1, 1) := by decide +kernel
theorem d_Y_goesBy_145 : decode (mCd M_Y_goesBy) 145 = .ok (.istore 4, 2) := by decide +kernel
theorem d_Y_goesBy_147 : decode (mCd M_Y_goesBy) 147 = .ok (.iload 4, 2) := by decide +kernel
theorem d_Y_goesBy_149 : decode (mCd M_Y_goesBy) 149 = .ok (.iconst 4, 1) := by decide +kernel
theorem d_Y_goesBy_150 : decode (mCd M_Y_goesBy) 150 = .ok (.if_icmp .ge 30, 3) := by decide +kernel
theorem d_Y_goesBy_153 : decode (mCd M_Y_goesBy) 153 = .ok (.aload_n 0, 1) := by decide +kernel
theorem d_Y_goesBy_154 : decode (mCd M_Y_goesBy) 154 = .ok (.iload 4, 2) := by decide +kernel
theorem d_Y_goesBy_156 : decode (mCd M_Y_goesBy) 156 = .ok (.invokevirtual 318, 3) := by decide +kernel
theorem d_Y_goesBy_159 : decode (mCd M_Y_goesBy) 159 = .ok (.aload_n 0, 1) := by decide +kernel
theorem d_Y_goesBy_160 : decode (mCd M_Y_goesBy) 160 = .ok (.iload_n 3, 1) := by decide +kernel
theorem d_Y_goesBy_161 : decode (mCd M_Y_goesBy) 161 = .ok (.invokevirtual 318, 3) := by decide +kernel
theorem d_Y_goesBy_164 : decode (mCd M_Y_goesBy) 164 = .ok (.if_icmp .le 8, 3) := by decide +kernel
theorem d_Y_goesBy_167 : decode (mCd M_Y_goesBy) 167 = .ok (.iload 4, 2) := by decide +kernel
theorem d_Y_goesBy_169 : decode (mCd M_Y_goesBy) 169 = .ok (.goto 4, 3) := by decide +kernel
theorem d_Y_goesBy_172 : decode (mCd M_Y_goesBy) 172 = .ok (.iload_n 3, 1) := by decide +kernel
theorem d_Y_goesBy_173 : decode (mCd M_Y_goesBy) 173 = .ok (.istore_n 3, 1) := by decide +kernel
theorem d_Y_goesBy_174 : decode (mCd M_Y_goesBy) 174 = .ok (.iinc 4 1, 3) := by decide +kernel
theorem d_Y_goesBy_177 : decode (mCd M_Y_goesBy) 177 = .ok (.goto (-30), 3) := by decide +kernel
theorem d_Y_goesBy_180 : decode (mCd M_Y_goesBy) 180 = .ok (.aload_n 0, 1) := by decide +kernel
theorem d_Y_goesBy_181 : decode (mCd M_Y_goesBy) 181 = .ok (.aload_n 1, 1) := by decide +kernel
theorem d_Y_goesBy_182 : decode (mCd M_Y_goesBy) 182 = .ok (.iconst 0, 1) := by decide +kernel
theorem d_Y_goesBy_183 : decode (mCd M_Y_goesBy) 183 = .ok (.iaload, 1) := by decide +kernel
theorem d_Y_goesBy_184 : decode (mCd M_Y_goesBy) 184 = .ok (.iload_n 3, 1) := by decide +kernel
theorem d_Y_goesBy_185 : decode (mCd M_Y_goesBy) 185 = .ok (.invokevirtual 321, 3) := by decide +kernel
theorem d_Y_goesBy_188 : decode (mCd M_Y_goesBy) 188 = .ok (.istore 4, 2) := by decide +kernel
theorem d_Y_goesBy_190 : decode (mCd M_Y_goesBy) 190 = .ok (.aload_n 0, 1) := by decide +kernel
theorem d_Y_goesBy_191 : decode (mCd M_Y_goesBy) 191 = .ok (.iload_n 3, 1) := by decide +kernel
theorem d_Y_goesBy_192 : decode (mCd M_Y_goesBy) 192 = .ok (.invokevirtual 318, 3) := by decide +kernel
theorem d_Y_goesBy_195 : decode (mCd M_Y_goesBy) 195 = .ok (.ifCond .le 18, 3) := by decide +kernel
theorem d_Y_goesBy_198 : decode (mCd M_Y_goesBy) 198 = .ok (.iload 4, 2) := by decide +kernel
theorem d_Y_goesBy_200 : decode (mCd M_Y_goesBy) 200 = .ok (.ifCond .lt 13, 3) := by decide +kernel
theorem d_Y_goesBy_203 : decode (mCd M_Y_goesBy) 203 = .ok (.aload_n 0, 1) := by decide +kernel
theorem d_Y_goesBy_204 : decode (mCd M_Y_goesBy) 204 = .ok (.getfield 37, 3) := by decide +kernel
theorem d_Y_goesBy_207 : decode (mCd M_Y_goesBy) 207 = .ok (.iload 4, 2) := by decide +kernel
theorem d_Y_goesBy_209 : decode (mCd M_Y_goesBy) 209 = .ok (.baload, 1) := by decide +kernel
theorem d_Y_goesBy_210 : decode (mCd M_Y_goesBy) 210 = .ok (.ifCond .eq 7, 3) := by decide +kernel
theorem d_Y_goesBy_213 : decode (mCd M_Y_goesBy) 213 = .ok (.iconst 4, 1) := by decide +kernel
theorem d_Y_goesBy_214 : decode (mCd M_Y_goesBy) 214 = .ok (.goto 4, 3) := by decide +kernel
theorem d_Y_goesBy_217 : decode (mCd M_Y_goesBy) 217 = .ok (.iload_n 3, 1) := by decide +kernel
theorem d_Y_goesBy_218 : decode (mCd M_Y_goesBy) 218 = .ok (.ireturn, 1) := by decide +kernel
theorem d_Y_goes_0 : decode (mCd M_Y_goes) 0 = .ok (.aload_n 0, 1) := by decide +kernel
theorem d_Y_goes_1 : decode (mCd M_Y_goes) 1 = .ok (.aload_n 1, 1) := by decide +kernel
theorem d_Y_goes_2 : decode (mCd M_Y_goes) 2 = .ok (.invokevirtual 324, 3) := by decide +kernel
theorem d_Y_goes_5 : decode (mCd M_Y_goes) 5 = .ok (.aload_n 0, 1) := by decide +kernel
theorem d_Y_goes_6 : decode (mCd M_Y_goes) 6 = .ok (.aload_n 1, 1) := by decide +kernel
theorem d_Y_goes_7 : decode (mCd M_Y_goes) 7 = .ok (.sipush 255, 3) := by decide +kernel
theorem d_Y_goes_10 : decode (mCd M_Y_goes) 10 = .ok (.invokevirtual 328, 3) := by decide +kernel
theorem d_Y_goes_13 : decode (mCd M_Y_goes) 13 = .ok (.ireturn, 1) := by decide +kernel
theorem d_Y_one_0 : decode (mCd M_Y_one) 0 = .ok (.aload_n 0, 1) := by decide +kernel
theorem d_Y_one_1 : decode (mCd M_Y_one) 1 = .ok (.iconst 0, 1) := by decide +kernel
theorem d_Y_one_2 : decode (mCd M_Y_one) 2 = .ok (.putfield 3, 3) := by decide +kernel
theorem d_Y_one_5 : decode (mCd M_Y_one) 5 = .ok (.aload_n 0, 1) := by decide +kernel
theorem d_Y_one_6 : decode (mCd M_Y_one) 6 = .ok (.iload_n 1, 1) := by decide +kernel
theorem d_Y_one_7 : decode (mCd M_Y_one) 7 = .ok (.invokevirtual 331, 3) := by decide +kernel
theorem d_Y_one_10 : decode (mCd M_Y_one) 10 = .ok (.ifCond .eq 15, 3) := by decide +kernel
theorem d_Y_one_13 : decode (mCd M_Y_one) 13 = .ok (.iload_n 2, 1) := by decide +kernel
theorem d_Y_one_14 : decode (mCd M_Y_one) 14 = .ok (.i2l, 1) := by decide +kernel
theorem d_Y_one_15 : decode (mCd M_Y_one) 15 = .ok (.lconst 0, 1) := by decide +kernel
theorem d_Y_one_16 : decode (mCd M_Y_one) 16 = .ok (.ldc2_w 334, 3) := by decide +kernel
theorem d_Y_one_19 : decode (mCd M_Y_one) 19 = .ok (.invokestatic 142, 3) := by decide +kernel
theorem d_Y_one_22 : decode (mCd M_Y_one) 22 = .ok (.ifCond .ne 8, 3) := by decide +kernel
theorem d_Y_one_25 : decode (mCd M_Y_one) 25 = .ok (.aload_n 0, 1) := by decide +kernel
theorem d_Y_one_26 : decode (mCd M_Y_one) 26 = .ok (.invokevirtual 336, 3) := by decide +kernel
theorem d_Y_one_29 : decode (mCd M_Y_one) 29 = .ok (.ireturn, 1) := by decide +kernel
theorem d_Y_one_30 : decode (mCd M_Y_one) 30 = .ok (.iload_n 2, 1) := by decide +kernel
theorem d_Y_one_31 : decode (mCd M_Y_one) 31 = .ok (.tableswitch 124 0 7 #[45, 52, 59, 68, 78, 94, 104, 114], 45) := by decide +kernel
theorem d_Y_one_76 : decode (mCd M_Y_one) 76 = .ok (.aload_n 0, 1) := by decide +kernel
theorem d_Y_one_77 : decode (mCd M_Y_one) 77 = .ok (.getfield 45, 3) := by decide +kernel
theorem d_Y_one_80 : decode (mCd M_Y_one) 80 = .ok (.iload_n 1, 1) := by decide +kernel
theorem d_Y_one_81 : decode (mCd M_Y_one) 81 = .ok (.iaload, 1) := by decide +kernel
theorem d_Y_one_82 : decode (mCd M_Y_one) 82 = .ok (.ireturn, 1) := by decide +kernel
theorem d_Y_one_83 : decode (mCd M_Y_one) 83 = .ok (.aload_n 0, 1) := by decide +kernel
theorem d_Y_one_84 : decode (mCd M_Y_one) 84 = .ok (.getfield 48, 3) := by decide +kernel
theorem d_Y_one_87 : decode (mCd M_Y_one) 87 = .ok (.iload_n 1, 1) := by decide +kernel
theorem d_Y_one_88 : decode (mCd M_Y_one) 88 = .ok (.iaload, 1) := by decide +kernel
theorem d_Y_one_89 : decode (mCd M_Y_one) 89 = .ok (.ireturn, 1) := by decide +kernel
theorem d_Y_one_90 : decode (mCd M_Y_one) 90 = .ok (.aload_n 0, 1) := by decide +kernel
theorem d_Y_one_91 : decode (mCd M_Y_one) 91 = .ok (.getfield 51, 3) := by decide +kernel
theorem d_Y_one_94 : decode (mCd M_Y_one) 94 = .ok (.iconst 1, 1) := by decide +kernel
theorem d_Y_one_95 : decode (mCd M_Y_one) 95 = .ok (.iload_n 1, 1) := by decide +kernel
theorem d_Y_one_96 : decode (mCd M_Y_one) 96 = .ok (.iadd, 1) := by decide +kernel
theorem d_Y_one_97 : decode (mCd M_Y_one) 97 = .ok (.iaload, 1) := by decide +kernel
theorem d_Y_one_98 : decode (mCd M_Y_one) 98 = .ok (.ireturn, 1) := by decide +kernel
theorem d_Y_one_99 : decode (mCd M_Y_one) 99 = .ok (.aload_n 0, 1) := by decide +kernel
theorem d_Y_one_100 : decode (mCd M_Y_one) 100 = .ok (.getfield 51, 3) := by decide +kernel
theorem d_Y_one_103 : decode (mCd M_Y_one) 103 = .ok (.bipush 9, 2) := by decide +kernel
theorem d_Y_one_105 : decode (mCd M_Y_one) 105 = .ok (.iload_n 1, 1) := by decide +kernel
theorem d_Y_one_106 : decode (mCd M_Y_one) 106 = .ok (.iadd, 1) := by decide +kernel
theorem d_Y_one_107 : decode (mCd M_Y_one) 107 = .ok (.iaload, 1) := by decide +kernel
theorem d_Y_one_108 : decode (mCd M_Y_one) 108 = .ok (.ireturn, 1) := by decide +kernel
theorem d_Y_one_109 : decode (mCd M_Y_one) 109 = .ok (.aload_n 0, 1) := by decide +kernel
theorem d_Y_one_110 : decode (mCd M_Y_one) 110 = .ok (.getfield 51, 3) := by decide +kernel
theorem d_Y_one_113 : decode (mCd M_Y_one) 113 = .ok (.bipush 33, 2) := by decide +kernel
theorem d_Y_one_115 : decode (mCd M_Y_one) 115 = .ok (.iaload, 1) := by decide +kernel
theorem d_Y_one_116 : decode (mCd M_Y_one) 116 = .ok (.i2l, 1) := by decide +kernel
theorem d_Y_one_117 : decode (mCd M_Y_one) 117 = .ok (.iload_n 1, 1) := by decide +kernel
theorem d_Y_one_118 : decode (mCd M_Y_one) 118 = .ok (.invokestatic 280, 3) := by decide +kernel
theorem d_Y_one_121 : decode (mCd M_Y_one) 121 = .ok (.invokestatic 171, 3) := by decide +kernel
theorem d_Y_one_124 : decode (mCd M_Y_one) 124 = .ok (.ireturn, 1) := by decide +kernel
theorem d_Y_one_125 : decode (mCd M_Y_one) 125 = .ok (.aload_n 0, 1) := by decide +kernel
theorem d_Y_one_126 : decode (mCd M_Y_one) 126 = .ok (.getfield 51, 3) := by decide +kernel
theorem d_Y_one_129 : decode (mCd M_Y_one) 129 = .ok (.bipush 17, 2) := by decide +kernel
theorem d_Y_one_131 : decode (mCd M_Y_one) 131 = .ok (.iload_n 1, 1) := by decide +kernel
theorem d_Y_one_132 : decode (mCd M_Y_one) 132 = .ok (.iadd, 1) := by decide +kernel
theorem d_Y_one_133 : decode (mCd M_Y_one) 133 = .ok (.iaload, 1) := by decide +kernel
theorem d_Y_one_134 : decode (mCd M_Y_one) 134 = .ok (.ireturn, 1) := by decide +kernel
theorem d_Y_one_135 : decode (mCd M_Y_one) 135 = .ok (.aload_n 0, 1) := by decide +kernel
theorem d_Y_one_136 : decode (mCd M_Y_one) 136 = .ok (.getfield 51, 3) := by decide +kernel
theorem d_Y_one_139 : decode (mCd M_Y_one) 139 = .ok (.bipush 25, 2) := by decide +kernel
theorem d_Y_one_141 : decode (mCd M_Y_one) 141 = .ok (.iload_n 1, 1) := by decide +kernel
theorem d_Y_one_142 : decode (mCd M_Y_one) 142 = .ok (.iadd, 1) := by decide +kernel
theorem d_Y_one_143 : decode (mCd M_Y_one) 143 = .ok (.iaload, 1) := by decide +kernel
theorem d_Y_one_144 : decode (mCd M_Y_one) 144 = .ok (.ireturn, 1) := by decide +kernel
theorem d_Y_one_145 : decode (mCd M_Y_one) 145 = .ok (.aload_n 0, 1) := by decide +kernel
theorem d_Y_one_146 : decode (mCd M_Y_one) 146 = .ok (.aload_n 0, 1) := by decide +kernel
theorem d_Y_one_147 : decode (mCd M_Y_one) 147 = .ok (.getfield 51, 3) := by decide +kernel
theorem d_Y_one_150 : decode (mCd M_Y_one) 150 = .ok (.iload_n 1, 1) := by decide +kernel
theorem d_Y_one_151 : decode (mCd M_Y_one) 151 = .ok (.invokevirtual 312, 3) := by decide +kernel
theorem d_Y_one_154 : decode (mCd M_Y_one) 154 = .ok (.ireturn, 1) := by decide +kernel
theorem d_Y_one_155 : decode (mCd M_Y_one) 155 = .ok (.aload_n 0, 1) := by decide +kernel
theorem d_Y_one_156 : decode (mCd M_Y_one) 156 = .ok (.aload_n 0, 1) := by decide +kernel
theorem d_Y_one_157 : decode (mCd M_Y_one) 157 = .ok (.getfield 51, 3) := by decide +kernel
theorem d_Y_one_160 : decode (mCd M_Y_one) 160 = .ok (.iload_n 1, 1) := by decide +kernel
theorem d_Y_one_161 : decode (mCd M_Y_one) 161 = .ok (.invokevirtual 312, 3) := by decide +kernel
theorem d_Y_one_164 : decode (mCd M_Y_one) 164 = .ok (.ifCond .ne 7, 3) := by decide +kernel
theorem d_Y_one_167 : decode (mCd M_Y_one) 167 = .ok (.iconst (-1), 1) := by decide +kernel
theorem d_Y_one_168 : decode (mCd M_Y_one) 168 = .ok (.goto 12, 3) := by decide +kernel
theorem d_Y_one_171 : decode (mCd M_Y_one) 171 = .ok (.aload_n 0, 1) := by decide +kernel
theorem d_Y_one_172 : decode (mCd M_Y_one) 172 = .ok (.aload_n 0, 1) := by decide +kernel
theorem d_Y_one_173 : decode (mCd M_Y_one) 173 = .ok (.getfield 51, 3) := by decide +kernel
theorem d_Y_one_176 : decode (mCd M_Y_one) 176 = .ok (.iload_n 1, 1) := by decide +kernel
theorem d_Y_one_177 : decode (mCd M_Y_one) 177 = .ok (.invokevirtual 315, 3) := by decide +kernel
theorem d_Y_one_180 : decode (mCd M_Y_one) 180 = .ok (.ireturn, 1) := by decide +kernel
theorem d_Y_field_0 : decode (mCd M_Y_field) 0 = .ok (.aload_n 0, 1) := by decide +kernel
theorem d_Y_field_1 : decode (mCd M_Y_field) 1 = .ok (.iconst 0, 1) := by decide +kernel
theorem d_Y_field_2 : decode (mCd M_Y_field) 2 = .ok (.putfield 3, 3) := by decide +kernel
theorem d_Y_field_5 : decode (mCd M_Y_field) 5 = .ok (.aload_n 0, 1) := by decide +kernel
theorem d_Y_field_6 : decode (mCd M_Y_field) 6 = .ok (.iload_n 1, 1) := by decide +kernel
theorem d_Y_field_7 : decode (mCd M_Y_field) 7 = .ok (.invokevirtual 339, 3) := by decide +kernel
theorem d_Y_field_10 : decode (mCd M_Y_field) 10 = .ok (.ifCond .eq 15, 3) := by decide +kernel
theorem d_Y_field_13 : decode (mCd M_Y_field) 13 = .ok (.iload_n 2, 1) := by decide +kernel
theorem d_Y_field_14 : decode (mCd M_Y_field) 14 = .ok (.i2l, 1) := by decide +kernel
theorem d_Y_field_15 : decode (mCd M_Y_field) 15 = .ok (.lconst 0, 1) := by decide +kernel
theorem d_Y_field_16 : decode (mCd M_Y_field) 16 = .ok (.ldc2_w 342, 3) := by decide +kernel
theorem d_Y_field_19 : decode (mCd M_Y_field) 19 = .ok (.invokestatic 142, 3) := by decide +kernel
theorem d_Y_field_22 : decode (mCd M_Y_field) 22 = .ok (.ifCond .ne 8, 3) := by decide +kernel
theorem d_Y_field_25 : decode (mCd M_Y_field) 25 = .ok (.aload_n 0, 1) := by decide +kernel
theorem d_Y_field_26 : decode (mCd M_Y_field) 26 = .ok (.invokevirtual 336, 3) := by decide +kernel
theorem d_Y_field_29 : decode (mCd M_Y_field) 29 = .ok (.ireturn, 1) := by decide +kernel
theorem d_Y_field_30 : decode (mCd M_Y_field) 30 = .ok (.iconst 0, 1) := by decide +kernel
theorem d_Y_field_31 : decode (mCd M_Y_field) 31 = .ok (.istore_n 3, 1) := by decide +kernel
theorem d_Y_field_32 : decode (mCd M_Y_field) 32 = .ok (.iconst 0, 1) := by decide +kernel
theorem d_Y_field_33 : decode (mCd M_Y_field) 33 = .ok (.istore 4, 2) := by decide +kernel
theorem d_Y_field_35 : decode (mCd M_Y_field) 35 = .ok (.iload 4, 2) := by decide +kernel
theorem d_Y_field_37 : decode (mCd M_Y_field) 37 = .ok (.aload_n 0, 1) := by decide +kernel
theorem d_Y_field_38 : decode (mCd M_Y_field) 38 = .ok (.getfield 146, 3) := by decide +kernel
theorem d_Y_field_41 : decode (mCd M_Y_field) 41 = .ok (.if_icmp .ge 34, 3) := by decide +kernel
theorem d_Y_field_44 : decode (mCd M_Y_field) 44 = .ok (.iload_n 3, 1) := by decide +kernel
theorem d_Y_field_45 : decode (mCd M_Y_field) 45 = .ok (.aload_n 0, 1) := by decide +kernel
theorem d_Y_field_46 : decode (mCd M_Y_field) 46 = .ok (.getfield 51, 3) := by decide +kernel
theorem d_Y_field_49 : decode (mCd M_Y_field) 49 = .ok (.bipush 17, 2) := by decide +kernel
theorem d_Y_field_51 : decode (mCd M_Y_field) 51 = .ok (.iload 4, 2) := by decide +kernel
theorem d_Y_field_53 : decode (mCd M_Y_field) 53 = .ok (.iadd, 1) := by decide +kernel
theorem d_Y_field_54 : decode (mCd M_Y_field) 54 = .ok (.iaload, 1) := by decide +kernel
theorem d_Y_field_55 : decode (mCd M_Y_field) 55 = .ok (.iload_n 1, 1) := by decide +kernel
theorem d_Y_field_56 : decode (mCd M_Y_field) 56 = .ok (.if_icmp .ne 10, 3) := by decide +kernel
theorem d_Y_field_59 : decode (mCd M_Y_field) 59 = .ok (.iconst 1, 1) := by decide +kernel
theorem d_Y_field_60 : decode (mCd M_Y_field) 60 = .ok (.iload 4, 2) := by decide +kernel
theorem d_Y_field_62 : decode (mCd M_Y_field) 62 = .ok (.ishl, 1) := by decide +kernel
theorem d_Y_field_63 : decode (mCd M_Y_field) 63 = .ok (.goto 4, 3) := by decide +kernel
theorem d_Y_field_66 : decode (mCd M_Y_field) 66 = .ok (.iconst 0, 1) := by decide +kernel
theorem d_Y_field_67 : decode (mCd M_Y_field) 67 = .ok (.ior, 1) := by decide +kernel
theorem d_Y_field_68 : decode (mCd M_Y_field) 68 = .ok (.istore_n 3, 1) := by decide +kernel
theorem d_Y_field_69 : decode (mCd M_Y_field) 69 = .ok (.iinc 4 1, 3) := by decide +kernel
theorem d_Y_field_72 : decode (mCd M_Y_field) 72 = .ok (.goto (-37), 3) := by decide +kernel
theorem d_Y_field_75 : decode (mCd M_Y_field) 75 = .ok (.iload_n 2, 1) := by decide +kernel
theorem d_Y_field_76 : decode (mCd M_Y_field) 76 = .ok (.ifCond .ne 15, 3) := by decide +kernel
theorem d_Y_field_79 : decode (mCd M_Y_field) 79 = .ok (.aload_n 0, 1) := by decide +kernel
theorem d_Y_field_80 : decode (mCd M_Y_field) 80 = .ok (.getfield 37, 3) := by decide +kernel
theorem d_Y_field_83 : decode (mCd M_Y_field) 83 = .ok (.iload_n 1, 1) := by decide +kernel
theorem d_Y_field_84 : decode (mCd M_Y_field) 84 = .ok (.baload, 1) := by decide +kernel
theorem d_Y_field_85 : decode (mCd M_Y_field) 85 = .ok (.invokestatic 171, 3) := by decide +kernel
theorem d_Y_field_88 : decode (mCd M_Y_field) 88 = .ok (.goto 30, 3) := by decide +kernel
theorem d_Y_field_91 : decode (mCd M_Y_field) 91 = .ok (.iload_n 2, 1) := by decide +kernel
theorem d_Y_field_92 : decode (mCd M_Y_field) 92 = .ok (.iconst 1, 1) := by decide +kernel
theorem d_Y_field_93 : decode (mCd M_Y_field) 93 = .ok (.if_icmp .ne 24, 3) := by decide +kernel
theorem d_Y_field_96 : decode (mCd M_Y_field) 96 = .ok (.aload_n 0, 1) := by decide +kernel
theorem d_Y_field_97 : decode (mCd M_Y_field) 97 = .ok (.getfield 51, 3) := by decide +kernel
theorem d_Y_field_100 : decode (mCd M_Y_field) 100 = .ok (.iconst 0, 1) := by decide +kernel
theorem d_Y_field_101 : decode (mCd M_Y_field) 101 = .ok (.iaload, 1) := by decide +kernel
theorem d_Y_field_102 : decode (mCd M_Y_field) 102 = .ok (.iload_n 1, 1) := by decide +kernel
theorem d_Y_field_103 : decode (mCd M_Y_field) 103 = .ok (.if_icmp .ne 7, 3) := by decide +kernel
theorem d_Y_field_106 : decode (mCd M_Y_field) 106 = .ok (.iconst 1, 1) := by decide +kernel
theorem d_Y_field_107 : decode (mCd M_Y_field) 107 = .ok (.goto 4, 3) := by decide +kernel
theorem d_Y_field_110 : decode (mCd M_Y_field) 110 = .ok (.iconst 0, 1) := by decide +kernel
theorem d_Y_field_111 : decode (mCd M_Y_field) 111 = .ok (.invokestatic 171, 3) := by decide +kernel
theorem d_Y_field_114 : decode (mCd M_Y_field) 114 = .ok (.goto 4, 3) := by decide +kernel
theorem d_Y_field_117 : decode (mCd M_Y_field) 117 = .ok (.iload_n 3, 1) := by decide +kernel
theorem d_Y_field_118 : decode (mCd M_Y_field) 118 = .ok (.ireturn, 1) := by decide +kernel
theorem d_Y_sheet_0 : decode (mCd M_Y_sheet) 0 = .ok (.aload_n 0, 1) := by decide +kernel
theorem d_Y_sheet_1 : decode (mCd M_Y_sheet) 1 = .ok (.iconst 0, 1) := by decide +kernel
theorem d_Y_sheet_2 : decode (mCd M_Y_sheet) 2 = .ok (.putfield 3, 3) := by decide +kernel
theorem d_Y_sheet_5 : decode (mCd M_Y_sheet) 5 = .ok (.iload_n 1, 1) := by decide +kernel
theorem d_Y_sheet_6 : decode (mCd M_Y_sheet) 6 = .ok (.i2l, 1) := by decide +kernel
theorem d_Y_sheet_7 : decode (mCd M_Y_sheet) 7 = .ok (.lconst 0, 1) := by decide +kernel
theorem d_Y_sheet_8 : decode (mCd M_Y_sheet) 8 = .ok (.ldc2_w 344, 3) := by decide +kernel
theorem d_Y_sheet_11 : decode (mCd M_Y_sheet) 11 = .ok (.invokestatic 142, 3) := by decide +kernel
theorem d_Y_sheet_14 : decode (mCd M_Y_sheet) 14 = .ok (.ifCond .eq 9, 3) := by decide +kernel
theorem d_Y_sheet_17 : decode (mCd M_Y_sheet) 17 = .ok (.iload_n 2, 1) := by decide +kernel
theorem d_Y_sheet_18 : decode (mCd M_Y_sheet) 18 = .ok (.bipush 8, 2) := by decide +kernel
theorem d_Y_sheet_20 : decode (mCd M_Y_sheet) 20 = .ok (.if_icmp .le 5, 3) := by decide +kernel
theorem d_Y_sheet_23 : decode (mCd M_Y_sheet) 23 = .ok (.iconst (-1), 1) := by decide +kernel
theorem d_Y_sheet_24 : decode (mCd M_Y_sheet) 24 = .ok (.ireturn, 1) := by decide +kernel
theorem d_Y_sheet_25 : decode (mCd M_Y_sheet) 25 = .ok (.iload_n 1, 1) := by decide +kernel
theorem d_Y_sheet_26 : decode (mCd M_Y_sheet) 26 = .ok (.iconst 3, 1) := by decide +kernel
theorem d_Y_sheet_27 : decode (mCd M_Y_sheet) 27 = .ok (.if_icmp .eq 10, 3) := by decide +kernel
theorem d_Y_sheet_30 : decode (mCd M_Y_sheet) 30 = .ok (.iload_n 2, 1) := by decide +kernel
theorem d_Y_sheet_31 : decode (mCd M_Y_sheet) 31 = .ok (.ifCond .ge 6, 3) := by decide +kernel
theorem d_Y_sheet_34 : decode (mCd M_Y_sheet) 34 = .ok (.bipush (-2), 2) := by decide +kernel
theorem d_Y_sheet_36 : decode (mCd M_Y_sheet) 36 = .ok (.ireturn, 1) := by decide +kernel
theorem d_Y_sheet_37 : decode (mCd M_Y_sheet) 37 = .ok (.iconst 0, 1) := by decide +kernel
theorem d_Y_sheet_38 : decode (mCd M_Y_sheet) 38 = .ok (.istore 5, 2) := by decide +kernel
theorem d_Y_sheet_40 : decode (mCd M_Y_sheet) 40 = .ok (.iload_n 3, 1) := by decide +kernel
theorem d_Y_sheet_41 : decode (mCd M_Y_sheet) 41 = .ok (.istore 6, 2) := by decide +kernel
theorem d_Y_sheet_43 : decode (mCd M_Y_sheet) 43 = .ok (.iconst 0, 1) := by decide +kernel
theorem d_Y_sheet_44 : decode (mCd M_Y_sheet) 44 = .ok (.istore 7, 2) := by decide +kernel
theorem d_Y_sheet_46 : decode (mCd M_Y_sheet) 46 = .ok (.iload 7, 2) := by decide +kernel
theorem d_Y_sheet_48 : decode (mCd M_Y_sheet) 48 = .ok (.aload_n 0, 1) := by decide +kernel
theorem d_Y_sheet_49 : decode (mCd M_Y_sheet) 49 = .ok (.getfield 146, 3) := by decide +kernel
theorem d_Y_sheet_52 : decode (mCd M_Y_sheet) 52 = .ok (.if_icmp .ge 86, 3) := by decide +kernel
theorem d_Y_sheet_55 : decode (mCd M_Y_sheet) 55 = .ok (.iload_n 1, 1) := by decide +kernel
theorem d_Y_sheet_56 : decode (mCd M_Y_sheet) 56 = .ok (.ifCond .ne 9, 3) := by decide +kernel
theorem d_Y_sheet_59 : decode (mCd M_Y_sheet) 59 = .ok (.iload 6, 2) := by decide +kernel
theorem d_Y_sheet_61 : decode (mCd M_Y_sheet) 61 = .ok (.i2b, 1) := by decide +kernel
theorem d_Y_sheet_62 : decode (mCd M_Y_sheet) 62 = .ok (.goto 16, 3) := by decide +kernel
theorem d_Y_sheet_65 : decode (mCd M_Y_sheet) 65 = .ok (.iload_n 1, 1) := by decide +kernel
theorem d_Y_sheet_66 : decode (mCd M_Y_sheet) 66 = .ok (.iconst 1, 1) := by decide +kernel
theorem d_Y_sheet_67 : decode (mCd M_Y_sheet) 67 = .ok (.if_icmp .ne 9, 3) := by decide +kernel
theorem d_Y_sheet_70 : decode (mCd M_Y_sheet) 70 = .ok (.iload 6, 2) := by decide +kernel
theorem d_Y_sheet_72 : decode (mCd M_Y_sheet) 72 = .ok (.i2s, 1) := by decide +kernel
theorem d_Y_sheet_73 : decode (mCd M_Y_sheet) 73 = .ok (.goto 5, 3) := by decide +kernel
theorem d_Y_sheet_76 : decode (mCd M_Y_sheet) 76 = .ok (.iload 6, 2) := by decide +kernel
theorem d_Y_sheet_78 : decode (mCd M_Y_sheet) 78 = .ok (.istore 8, 2) := by decide +kernel
theorem d_Y_sheet_80 : decode (mCd M_Y_sheet) 80 = .ok (.aload_n 0, 1) := by decide +kernel
theorem d_Y_sheet_81 : decode (mCd M_Y_sheet) 81 = .ok (.getfield 48, 3) := by decide +kernel
theorem d_Y_sheet_84 : decode (mCd M_Y_sheet) 84 = .ok (.iload 7, 2) := by decide +kernel
theorem d_Y_sheet_86 : decode (mCd M_Y_sheet) 86 = .ok (.iload_n 1, 1) := by decide +kernel
theorem d_Y_sheet_87 : decode (mCd M_Y_sheet) 87 = .ok (.iconst 3, 1) := by decide +kernel
theorem d_Y_sheet_88 : decode (mCd M_Y_sheet) 88 = .ok (.if_icmp .eq 9, 3) := by decide +kernel
theorem d_Y_sheet_91 : decode (mCd M_Y_sheet) 91 = .ok (.iload 7, 2) := by decide +kernel
theorem d_Y_sheet_93 : decode (mCd M_Y_sheet) 93 = .ok (.iload_n 2, 1) := by decide +kernel
theorem d_Y_sheet_94 : decode (mCd M_Y_sheet) 94 = .ok (.if_icmp .lt 7, 3) := by decide +kernel
theorem d_Y_sheet_97 : decode (mCd M_Y_sheet) 97 = .ok (.iconst 1, 1) := by decide +kernel
theorem d_Y_sheet_98 : decode (mCd M_Y_sheet) 98 = .ok (.goto 14, 3) := by decide +kernel
theorem d_Y_sheet_101 : decode (mCd M_Y_sheet) 101 = .ok (.iconst 1, 1) := by decide +kernel
theorem d_Y_sheet_102 : decode (mCd M_Y_sheet) 102 = .ok (.bipush 9, 2) := by decide +kernel
theorem d_Y_sheet_104 : decode (mCd M_Y_sheet) 104 = .ok (.iload 8, 2) := by decide +kernel
theorem d_Y_sheet_106 : decode (mCd M_Y_sheet) 106 = .ok (.invokestatic 164, 3) := by decide +kernel
theorem d_Y_sheet_109 : decode (mCd M_Y_sheet) 109 = .ok (.invokestatic 293, 3) := by decide +kernel
theorem d_Y_sheet_112 : decode (mCd M_Y_sheet) 112 = .ok (.iastore, 1) := by decide +kernel
theorem d_Y_sheet_113 : decode (mCd M_Y_sheet) 113 = .ok (.iload 5, 2) := by decide +kernel
theorem d_Y_sheet_115 : decode (mCd M_Y_sheet) 115 = .ok (.aload_n 0, 1) := by decide +kernel
theorem d_Y_sheet_116 : decode (mCd M_Y_sheet) 116 = .ok (.getfield 48, 3) := by decide +kernel
theorem d_Y_sheet_119 : decode (mCd M_Y_sheet) 119 = .ok (.iload 7, 2) := by decide +kernel
theorem d_Y_sheet_121 : decode (mCd M_Y_sheet) 121 = .ok (.iaload, 1) := by decide +kernel
theorem d_Y_sheet_122 : decode (mCd M_Y_sheet) 122 = .ok (.iadd, 1) := by decide +kernel
theorem d_Y_sheet_123 : decode (mCd M_Y_sheet) 123 = .ok (.istore 5, 2) := by decide +kernel
theorem d_Y_sheet_125 : decode (mCd M_Y_sheet) 125 = .ok (.iload 6, 2) := by decide +kernel
theorem d_Y_sheet_127 : decode (mCd M_Y_sheet) 127 = .ok (.iload 4, 2) := by decide +kernel
theorem d_Y_sheet_129 : decode (mCd M_Y_sheet) 129 = .ok (.iadd, 1) := by decide +kernel
theorem d_Y_sheet_130 : decode (mCd M_Y_sheet) 130 = .ok (.istore 6, 2) := by decide +kernel
theorem d_Y_sheet_132 : decode (mCd M_Y_sheet) 132 = .ok (.iinc 7 1, 3) := by decide +kernel
theorem d_Y_sheet_135 : decode (mCd M_Y_sheet) 135 = .ok (.goto (-89), 3) := by decide +kernel
theorem d_Y_sheet_138 : decode (mCd M_Y_sheet) 138 = .ok (.iload_n 1, 1) := by decide +kernel
theorem d_Y_sheet_139 : decode (mCd M_Y_sheet) 139 = .ok (.iconst 3, 1) := by decide +kernel
theorem d_Y_sheet_140 : decode (mCd M_Y_sheet) 140 = .ok (.if_icmp .ne 8, 3) := by decide +kernel
theorem d_Y_sheet_143 : decode (mCd M_Y_sheet) 143 = .ok (.bipush (-3), 2) := by decide +kernel
theorem d_Y_sheet_145 : decode (mCd M_Y_sheet) 145 = .ok (.goto 5, 3) := by decide +kernel
theorem d_Y_sheet_148 : decode (mCd M_Y_sheet) 148 = .ok (.iload 5, 2) := by decide +kernel
theorem d_Y_sheet_150 : decode (mCd M_Y_sheet) 150 = .ok (.ireturn, 1) := by decide +kernel
theorem d_Y_putsBy_0 : decode (mCd M_Y_putsBy) 0 = .ok (.iconst 0, 1) := by decide +kernel
theorem d_Y_putsBy_1 : decode (mCd M_Y_putsBy) 1 = .ok (.istore_n 1, 1) := by decide +kernel
theorem d_Y_putsBy_2 : decode (mCd M_Y_putsBy) 2 = .ok (.iload_n 1, 1) := by decide +kernel
theorem d_Y_putsBy_3 : decode (mCd M_Y_putsBy) 3 = .ok (.bipush 38, 2) := by decide +kernel
theorem d_Y_putsBy_5 : decode (mCd M_Y_putsBy) 5 = .ok (.if_icmp .ge 29, 3) := by decide +kernel
theorem d_Y_putsBy_8 : decode (mCd M_Y_putsBy) 8 = .ok (.aload_n 0, 1) := by decide +kernel
theorem d_Y_putsBy_9 : decode (mCd M_Y_putsBy) 9 = .ok (.getfield 84, 3) := by decide +kernel
theorem d_Y_putsBy_12 : decode (mCd M_Y_putsBy) 12 = .ok (.bipush 38, 2) := by decide +kernel
theorem d_Y_putsBy_14 : decode (mCd M_Y_putsBy) 14 = .ok (.aload_n 0, 1) := by decide +kernel
theorem d_Y_putsBy_15 : decode (mCd M_Y_putsBy) 15 = .ok (.getfield 204, 3) := by decide +kernel
theorem d_Y_putsBy_18 : decode (mCd M_Y_putsBy) 18 = .ok (.imul, 1) := by decide +kernel
theorem d_Y_putsBy_19 : decode (mCd M_Y_putsBy) 19 = .ok (.iload_n 1, 1) := by decide +kernel
theorem d_Y_putsBy_20 : decode (mCd M_Y_putsBy) 20 = .ok (.iadd, 1) := by decide +kernel
theorem d_Y_putsBy_21 : decode (mCd M_Y_putsBy) 21 = .ok (.aload_n 0, 1) := by decide +kernel
theorem d_Y_putsBy_22 : decode (mCd M_Y_putsBy) 22 = .ok (.getfield 51, 3) := by decide +kernel
theorem d_Y_putsBy_25 : decode (mCd M_Y_putsBy) 25 = .ok (.iload_n 1, 1) := by decide +kernel
theorem d_Y_putsBy_26 : decode (mCd M_Y_putsBy) 26 = .ok (.iaload, 1) := by decide +kernel
theorem d_Y_putsBy_27 : decode (mCd M_Y_putsBy) 27 = .ok (.iastore, 1) := by decide +kernel
theorem d_Y_putsBy_28 : decode (mCd M_Y_putsBy) 28 = .ok (.iinc 1 1, 3) := by decide +kernel
theorem d_Y_putsBy_31 : decode (mCd M_Y_putsBy) 31 = .ok (.goto (-29), 3) := by decide +kernel
theorem d_Y_putsBy_34 : decode (mCd M_Y_putsBy) 34 = .ok (.return_, 1) := by decide +kernel
theorem d_Y_adds_0 : decode (mCd M_Y_adds) 0 = .ok (.aload_n 0, 1) := by decide +kernel
theorem d_Y_adds_1 : decode (mCd M_Y_adds) 1 = .ok (.dup, 1) := by decide +kernel
theorem d_Y_adds_2 : decode (mCd M_Y_adds) 2 = .ok (.getfield 204, 3) := by decide +kernel
theorem d_Y_adds_5 : decode (mCd M_Y_adds) 5 = .ok (.iconst 1, 1) := by decide +kernel
theorem d_Y_adds_6 : decode (mCd M_Y_adds) 6 = .ok (.iadd, 1) := by decide +kernel
theorem d_Y_adds_7 : decode (mCd M_Y_adds) 7 = .ok (.putfield 204, 3) := by decide +kernel
theorem d_Y_adds_10 : decode (mCd M_Y_adds) 10 = .ok (.aload_n 0, 1) := by decide +kernel
theorem d_Y_adds_11 : decode (mCd M_Y_adds) 11 = .ok (.getfield 204, 3) := by decide +kernel
theorem d_Y_adds_14 : decode (mCd M_Y_adds) 14 = .ok (.bipush 15, 2) := by decide +kernel
theorem d_Y_adds_16 : decode (mCd M_Y_adds) 16 = .ok (.if_icmp .le 43, 3) := by decide +kernel
theorem d_Y_adds_19 : decode (mCd M_Y_adds) 19 = .ok (.iconst 0, 1) := by decide +kernel
theorem d_Y_adds_20 : decode (mCd M_Y_adds) 20 = .ok (.istore_n 2, 1) := by decide +kernel
theorem d_Y_adds_21 : decode (mCd M_Y_adds) 21 = .ok (.iload_n 2, 1) := by decide +kernel
theorem d_Y_adds_22 : decode (mCd M_Y_adds) 22 = .ok (.sipush 570, 3) := by decide +kernel
theorem d_Y_adds_25 : decode (mCd M_Y_adds) 25 = .ok (.if_icmp .ge 24, 3) := by decide +kernel
theorem d_Y_adds_28 : decode (mCd M_Y_adds) 28 = .ok (.aload_n 0, 1) := by decide +kernel
theorem d_Y_adds_29 : decode (mCd M_Y_adds) 29 = .ok (.getfield 84, 3) := by decide +kernel
theorem d_Y_adds_32 : decode (mCd M_Y_adds) 32 = .ok (.iload_n 2, 1) := by decide +kernel
theorem d_Y_adds_33 : decode (mCd M_Y_adds) 33 = .ok (.aload_n 0, 1) := by decide +kernel
theorem d_Y_adds_34 : decode (mCd M_Y_adds) 34 = .ok (.getfield 84, 3) := by decide +kernel
theorem d_Y_adds_37 : decode (mCd M_Y_adds) 37 = .ok (.iload_n 2, 1) := by decide +kernel
theorem d_Y_adds_38 : decode (mCd M_Y_adds) 38 = .ok (.bipush 38, 2) := by decide +kernel
theorem d_Y_adds_40 : decode (mCd M_Y_adds) 40 = .ok (.iadd, 1) := by decide +kernel
theorem d_Y_adds_41 : decode (mCd M_Y_adds) 41 = .ok (.iaload, 1) := by decide +kernel
theorem d_Y_adds_42 : decode (mCd M_Y_adds) 42 = .ok (.iastore, 1) := by decide +kernel
theorem d_Y_adds_43 : decode (mCd M_Y_adds) 43 = .ok (.iinc 2 1, 3) := by decide +kernel
theorem d_Y_adds_46 : decode (mCd M_Y_adds) 46 = .ok (.goto (-25), 3) := by decide +kernel
theorem d_Y_adds_49 : decode (mCd M_Y_adds) 49 = .ok (.aload_n 0, 1) := by decide +kernel
theorem d_Y_adds_50 : decode (mCd M_Y_adds) 50 = .ok (.dup, 1) := by decide +kernel
theorem d_Y_adds_51 : decode (mCd M_Y_adds) 51 = .ok (.getfield 204, 3) := by decide +kernel
theorem d_Y_adds_54 : decode (mCd M_Y_adds) 54 = .ok (.iconst 1, 1) := by decide +kernel
theorem d_Y_adds_55 : decode (mCd M_Y_adds) 55 = .ok (.isub, 1) := by decide +kernel
theorem d_Y_adds_56 : decode (mCd M_Y_adds) 56 = .ok (.putfield 204, 3) := by decide +kernel
theorem d_Y_adds_59 : decode (mCd M_Y_adds) 59 = .ok (.iload_n 1, 1) := by decide +kernel
theorem d_Y_adds_60 : decode (mCd M_Y_adds) 60 = .ok (.ireturn, 1) := by decide +kernel
theorem d_Y_counted_0 : decode (mCd M_Y_counted) 0 = .ok (.iload_n 1, 1) := by decide +kernel
theorem d_Y_counted_1 : decode (mCd M_Y_counted) 1 = .ok (.ifCond .ge 7, 3) := by decide +kernel
theorem d_Y_counted_4 : decode (mCd M_Y_counted) 4 = .ok (.iload_n 1, 1) := by decide +kernel
theorem d_Y_counted_5 : decode (mCd M_Y_counted) 5 = .ok (.goto 8, 3) := by decide +kernel
theorem d_Y_counted_8 : decode (mCd M_Y_counted) 8 = .ok (.aload_n 0, 1) := by decide +kernel
theorem d_Y_counted_9 : decode (mCd M_Y_counted) 9 = .ok (.iload_n 1, 1) := by decide +kernel
theorem d_Y_counted_10 : decode (mCd M_Y_counted) 10 = .ok (.invokevirtual 242, 3) := by decide +kernel
theorem d_Y_counted_13 : decode (mCd M_Y_counted) 13 = .ok (.ireturn, 1) := by decide +kernel
theorem d_Y_undo_0 : decode (mCd M_Y_undo) 0 = .ok (.aload_n 0, 1) := by decide +kernel
theorem d_Y_undo_1 : decode (mCd M_Y_undo) 1 = .ok (.iconst 0, 1) := by decide +kernel
theorem d_Y_undo_2 : decode (mCd M_Y_undo) 2 = .ok (.putfield 3, 3) := by decide +kernel
theorem d_Y_undo_5 : decode (mCd M_Y_undo) 5 = .ok (.aload_n 0, 1) := by decide +kernel
theorem d_Y_undo_6 : decode (mCd M_Y_undo) 6 = .ok (.getfield 204, 3) := by decide +kernel
theorem d_Y_undo_9 : decode (mCd M_Y_undo) 9 = .ok (.ifCond .ne 5, 3) := by decide +kernel
theorem d_Y_undo_12 : decode (mCd M_Y_undo) 12 = .ok (.iconst (-1), 1) := by decide +kernel
theorem d_Y_undo_13 : decode (mCd M_Y_undo) 13 = .ok (.ireturn, 1) := by decide +kernel
theorem d_Y_undo_14 : decode (mCd M_Y_undo) 14 = .ok (.aload_n 0, 1) := by decide +kernel
theorem d_Y_undo_15 : decode (mCd M_Y_undo) 15 = .ok (.dup, 1) := by decide +kernel
theorem d_Y_undo_16 : decode (mCd M_Y_undo) 16 = .ok (.getfield 204, 3) := by decide +kernel
theorem d_Y_undo_19 : decode (mCd M_Y_undo) 19 = .ok (.iconst 1, 1) := by decide +kernel
theorem d_Y_undo_20 : decode (mCd M_Y_undo) 20 = .ok (.isub, 1) := by decide +kernel
theorem d_Y_undo_21 : decode (mCd M_Y_undo) 21 = .ok (.putfield 204, 3) := by decide +kernel
theorem d_Y_undo_24 : decode (mCd M_Y_undo) 24 = .ok (.iconst 0, 1) := by decide +kernel
theorem d_Y_undo_25 : decode (mCd M_Y_undo) 25 = .ok (.istore_n 1, 1) := by decide +kernel
theorem d_Y_undo_26 : decode (mCd M_Y_undo) 26 = .ok (.iload_n 1, 1) := by decide +kernel
theorem d_Y_undo_27 : decode (mCd M_Y_undo) 27 = .ok (.bipush 38, 2) := by decide +kernel
theorem d_Y_undo_29 : decode (mCd M_Y_undo) 29 = .ok (.if_icmp .ge 29, 3) := by decide +kernel
theorem d_Y_undo_32 : decode (mCd M_Y_undo) 32 = .ok (.aload_n 0, 1) := by decide +kernel
theorem d_Y_undo_33 : decode (mCd M_Y_undo) 33 = .ok (.getfield 51, 3) := by decide +kernel
theorem d_Y_undo_36 : decode (mCd M_Y_undo) 36 = .ok (.iload_n 1, 1) := by decide +kernel
theorem d_Y_undo_37 : decode (mCd M_Y_undo) 37 = .ok (.aload_n 0, 1) := by decide +kernel
theorem d_Y_undo_38 : decode (mCd M_Y_undo) 38 = .ok (.getfield 84, 3) := by decide +kernel
theorem d_Y_undo_41 : decode (mCd M_Y_undo) 41 = .ok (.bipush 38, 2) := by decide +kernel
theorem d_Y_undo_43 : decode (mCd M_Y_undo) 43 = .ok (.aload_n 0, 1) := by decide +kernel
theorem d_Y_undo_44 : decode (mCd M_Y_undo) 44 = .ok (.getfield 204, 3) := by decide +kernel
theorem d_Y_undo_47 : decode (mCd M_Y_undo) 47 = .ok (.imul, 1) := by decide +kernel
theorem d_Y_undo_48 : decode (mCd M_Y_undo) 48 = .ok (.iload_n 1, 1) := by decide +kernel
theorem d_Y_undo_49 : decode (mCd M_Y_undo) 49 = .ok (.iadd, 1) := by decide +kernel
theorem d_Y_undo_50 : decode (mCd M_Y_undo) 50 = .ok (.iaload, 1) := by decide +kernel
theorem d_Y_undo_51 : decode (mCd M_Y_undo) 51 = .ok (.iastore, 1) := by decide +kernel
theorem d_Y_undo_52 : decode (mCd M_Y_undo) 52 = .ok (.iinc 1 1, 3) := by decide +kernel
theorem d_Y_undo_55 : decode (mCd M_Y_undo) 55 = .ok (.goto (-29), 3) := by decide +kernel
theorem d_Y_undo_58 : decode (mCd M_Y_undo) 58 = .ok (.aload_n 0, 1) := by decide +kernel
theorem d_Y_undo_59 : decode (mCd M_Y_undo) 59 = .ok (.getfield 204, 3) := by decide +kernel
theorem d_Y_undo_62 : decode (mCd M_Y_undo) 62 = .ok (.ireturn, 1) := by decide +kernel
theorem d_Y_comesTrue_0 : decode (mCd M_Y_comesTrue) 0 = .ok (.aload_n 1, 1) := by decide +kernel
theorem d_Y_comesTrue_1 : decode (mCd M_Y_comesTrue) 1 = .ok (.bipush 34, 2) := by decide +kernel
theorem d_Y_comesTrue_3 : decode (mCd M_Y_comesTrue) 3 = .ok (.iaload, 1) := by decide +kernel
theorem d_Y_comesTrue_4 : decode (mCd M_Y_comesTrue) 4 = .ok (.aload_n 1, 1) := by decide +kernel
theorem d_Y_comesTrue_5 : decode (mCd M_Y_comesTrue) 5 = .ok (.bipush 25, 2) := by decide +kernel
theorem d_Y_comesTrue_7 : decode (mCd M_Y_comesTrue) 7 = .ok (.iload_n 2, 1) := by decide +kernel
theorem d_Y_comesTrue_8 : decode (mCd M_Y_comesTrue) 8 = .ok (.iadd, 1) := by decide +kernel
theorem d_Y_comesTrue_9 : decode (mCd M_Y_comesTrue) 9 = .ok (.iaload, 1) := by decide +kernel
theorem d_Y_comesTrue_10 : decode (mCd M_Y_comesTrue) 10 = .ok (.if_icmp .lt 7, 3) := by decide +kernel
theorem d_Y_comesTrue_13 : decode (mCd M_Y_comesTrue) 13 = .ok (.iconst 1, 1) := by decide +kernel
theorem d_Y_comesTrue_14 : decode (mCd M_Y_comesTrue) 14 = .ok (.goto 4, 3) := by decide +kernel
theorem d_Y_comesTrue_17 : decode (mCd M_Y_comesTrue) 17 = .ok (.iconst 0, 1) := by decide +kernel
theorem d_Y_comesTrue_18 : decode (mCd M_Y_comesTrue) 18 = .ok (.istore_n 3, 1) := by decide +kernel
theorem d_Y_comesTrue_19 : decode (mCd M_Y_comesTrue) 19 = .ok (.iload_n 3, 1) := by decide +kernel
theorem d_Y_comesTrue_20 : decode (mCd M_Y_comesTrue) 20 = .ok (.ifCond .eq 64, 3) := by decide +kernel
theorem d_Y_comesTrue_23 : decode (mCd M_Y_comesTrue) 23 = .ok (.aload_n 1, 1) := by decide +kernel
theorem d_Y_comesTrue_24 : decode (mCd M_Y_comesTrue) 24 = .ok (.bipush 34, 2) := by decide +kernel
theorem d_Y_comesTrue_26 : decode (mCd M_Y_comesTrue) 26 = .ok (.dup2, 1) := by decide +kernel
theorem d_Y_comesTrue_27 : decode (mCd M_Y_comesTrue) 27 = .ok (.iaload, 1) := by decide +kernel
theorem d_Y_comesTrue_28 : decode (mCd M_Y_comesTrue) 28 = .ok (.aload_n 1, 1) := by decide +kernel
theorem d_Y_comesTrue_29 : decode (mCd M_Y_comesTrue) 29 = .ok (.bipush 25, 2) := by decide +kernel
theorem d_Y_comesTrue_31 : decode (mCd M_Y_comesTrue) 31 = .ok (.iload_n 2, 1) := by decide +kernel
theorem d_Y_comesTrue_32 : decode (mCd M_Y_comesTrue) 32 = .ok (.iadd, 1) := by decide +kernel
theorem d_Y_comesTrue_33 : decode (mCd M_Y_comesTrue) 33 = .ok (.iaload, 1) := by decide +kernel
theorem d_Y_comesTrue_34 : decode (mCd M_Y_comesTrue) 34 = .ok (.isub, 1) := by decide +kernel
theorem d_Y_comesTrue_35 : decode (mCd M_Y_comesTrue) 35 = .ok (.iastore, 1) := by decide +kernel
theorem d_Y_comesTrue_36 : decode (mCd M_Y_comesTrue) 36 = .ok (.aload_n 1, 1) := by decide +kernel
theorem d_Y_comesTrue_37 : decode (mCd M_Y_comesTrue) 37 = .ok (.bipush 35, 2) := by decide +kernel
theorem d_Y_comesTrue_39 : decode (mCd M_Y_comesTrue) 39 = .ok (.sipush 999, 3) := by decide +kernel
theorem d_Y_comesTrue_42 : decode (mCd M_Y_comesTrue) 42 = .ok (.aload_n 1, 1) := by decide +kernel
theorem d_Y_comesTrue_43 : decode (mCd M_Y_comesTrue) 43 = .ok (.bipush 35, 2) := by decide +kernel
theorem d_Y_comesTrue_45 : decode (mCd M_Y_comesTrue) 45 = .ok (.iaload, 1) := by decide +kernel
theorem d_Y_comesTrue_46 : decode (mCd M_Y_comesTrue) 46 = .ok (.iconst 1, 1) := by decide +kernel
theorem d_Y_comesTrue_47 : decode (mCd M_Y_comesTrue) 47 = .ok (.iadd, 1) := by decide +kernel
theorem d_Y_comesTrue_48 : decode (mCd M_Y_comesTrue) 48 = .ok (.invokestatic 164, 3) := by decide +kernel
theorem d_Y_comesTrue_51 : decode (mCd M_Y_comesTrue) 51 = .ok (.iastore, 1) := by decide +kernel
theorem d_Y_comesTrue_52 : decode (mCd M_Y_comesTrue) 52 = .ok (.aload_n 1, 1) := by decide +kernel
theorem d_Y_comesTrue_53 : decode (mCd M_Y_comesTrue) 53 = .ok (.bipush 9, 2) := by decide +kernel
theorem d_Y_comesTrue_55 : decode (mCd M_Y_comesTrue) 55 = .ok (.iload_n 2, 1) := by decide +kernel
theorem d_Y_comesTrue_56 : decode (mCd M_Y_comesTrue) 56 = .ok (.iadd, 1) := by decide +kernel
theorem d_Y_comesTrue_57 : decode (mCd M_Y_comesTrue) 57 = .ok (.bipush 9, 2) := by decide +kernel
theorem d_Y_comesTrue_59 : decode (mCd M_Y_comesTrue) 59 = .ok (.aload_n 1, 1) := by decide +kernel
theorem d_Y_comesTrue_60 : decode (mCd M_Y_comesTrue) 60 = .ok (.bipush 9, 2) := by decide +kernel
theorem d_Y_comesTrue_62 : decode (mCd M_Y_comesTrue) 62 = .ok (.iload_n 2, 1) := by decide +kernel
theorem d_Y_comesTrue_63 : decode (mCd M_Y_comesTrue) 63 = .ok (.iadd, 1) := by decide +kernel
theorem d_Y_comesTrue_64 : decode (mCd M_Y_comesTrue) 64 = .ok (.iaload, 1) := by decide +kernel
theorem d_Y_comesTrue_65 : decode (mCd M_Y_comesTrue) 65 = .ok (.iconst 1, 1) := by decide +kernel
theorem d_Y_comesTrue_66 : decode (mCd M_Y_comesTrue) 66 = .ok (.iadd, 1) := by decide +kernel
theorem d_Y_comesTrue_67 : decode (mCd M_Y_comesTrue) 67 = .ok (.invokestatic 164, 3) := by decide +kernel
theorem d_Y_comesTrue_70 : decode (mCd M_Y_comesTrue) 70 = .ok (.iastore, 1) := by decide +kernel
theorem d_Y_comesTrue_71 : decode (mCd M_Y_comesTrue) 71 = .ok (.aload_n 0, 1) := by decide +kernel
theorem d_Y_comesTrue_72 : decode (mCd M_Y_comesTrue) 72 = .ok (.dup, 1) := by decide +kernel
theorem d_Y_comesTrue_73 : decode (mCd M_Y_comesTrue) 73 = .ok (.getfield 346, 3) := by decide +kernel
theorem d_Y_comesTrue_76 : decode (mCd M_Y_comesTrue) 76 = .ok (.iconst 1, 1) := by decide +kernel
theorem d_Y_comesTrue_77 : decode (mCd M_Y_comesTrue) 77 = .ok (.iadd, 1) := by decide +kernel
theorem d_Y_comesTrue_78 : decode (mCd M_Y_comesTrue) 78 = .ok (.putfield 346, 3) := by decide +kernel
theorem d_Y_comesTrue_81 : decode (mCd M_Y_comesTrue) 81 = .ok (.goto 36, 3) := by decide +kernel
theorem d_Y_comesTrue_84 : decode (mCd M_Y_comesTrue) 84 = .ok (.aload_n 1, 1) := by decide +kernel
theorem d_Y_comesTrue_85 : decode (mCd M_Y_comesTrue) 85 = .ok (.bipush 36, 2) := by decide +kernel
theorem d_Y_comesTrue_87 : decode (mCd M_Y_comesTrue) 87 = .ok (.sipush 999, 3) := by decide +kernel
theorem d_Y_comesTrue_90 : decode (mCd M_Y_comesTrue) 90 = .ok (.aload_n 1, 1) := by decide +kernel
theorem d_Y_comesTrue_91 : decode (mCd M_Y_comesTrue) 91 = .ok (.bipush 36, 2) := by decide +kernel
theorem d_Y_comesTrue_93 : decode (mCd M_Y_comesTrue) 93 = .ok (.iaload, 1) := by decide +kernel
theorem d_Y_comesTrue_94 : decode (mCd M_Y_comesTrue) 94 = .ok (.iconst 1, 1) := by decide +kernel
theorem d_Y_comesTrue_95 : decode (mCd M_Y_comesTrue) 95 = .ok (.iadd, 1) := by decide +kernel
theorem d_Y_comesTrue_96 : decode (mCd M_Y_comesTrue) 96 = .ok (.invokestatic 164, 3) := by decide +kernel
theorem d_Y_comesTrue_99 : decode (mCd M_Y_comesTrue) 99 = .ok (.iastore, 1) := by decide +kernel
theorem d_Y_comesTrue_100 : decode (mCd M_Y_comesTrue) 100 = .ok (.aload_n 1, 1) := by decide +kernel
theorem d_Y_comesTrue_101 : decode (mCd M_Y_comesTrue) 101 = .ok (.bipush 9, 2) := by decide +kernel
theorem d_Y_comesTrue_103 : decode (mCd M_Y_comesTrue) 103 = .ok (.iload_n 2, 1) := by decide +kernel
theorem d_Y_comesTrue_104 : decode (mCd M_Y_comesTrue) 104 = .ok (.iadd, 1) := by decide +kernel
theorem d_Y_comesTrue_105 : decode (mCd M_Y_comesTrue) 105 = .ok (.iconst 0, 1) := by decide +kernel
theorem d_Y_comesTrue_106 : decode (mCd M_Y_comesTrue) 106 = .ok (.iastore, 1) := by decide +kernel
theorem d_Y_comesTrue_107 : decode (mCd M_Y_comesTrue) 107 = .ok (.aload_n 0, 1) := by decide +kernel
theorem d_Y_comesTrue_108 : decode (mCd M_Y_comesTrue) 108 = .ok (.dup, 1) := by decide +kernel
theorem d_Y_comesTrue_109 : decode (mCd M_Y_comesTrue) 109 = .ok (.getfield 349, 3) := by decide +kernel
theorem d_Y_comesTrue_112 : decode (mCd M_Y_comesTrue) 112 = .ok (.iconst 1, 1) := by decide +kernel
theorem d_Y_comesTrue_113 : decode (mCd M_Y_comesTrue) 113 = .ok (.iadd, 1) := by decide +kernel
theorem d_Y_comesTrue_114 : decode (mCd M_Y_comesTrue) 114 = .ok (.putfield 349, 3) := by decide +kernel
theorem d_Y_comesTrue_117 : decode (mCd M_Y_comesTrue) 117 = .ok (.aload_n 1, 1) := by decide +kernel
theorem d_Y_comesTrue_118 : decode (mCd M_Y_comesTrue) 118 = .ok (.bipush 17, 2) := by decide +kernel
theorem d_Y_comesTrue_120 : decode (mCd M_Y_comesTrue) 120 = .ok (.iload_n 2, 1) := by decide +kernel
theorem d_Y_comesTrue_121 : decode (mCd M_Y_comesTrue) 121 = .ok (.iadd, 1) := by decide +kernel
theorem d_Y_comesTrue_122 : decode (mCd M_Y_comesTrue) 122 = .ok (.iconst (-1), 1) := by decide +kernel
theorem d_Y_comesTrue_123 : decode (mCd M_Y_comesTrue) 123 = .ok (.iastore, 1) := by decide +kernel
theorem d_Y_comesTrue_124 : decode (mCd M_Y_comesTrue) 124 = .ok (.aload_n 1, 1) := by decide +kernel
theorem d_Y_comesTrue_125 : decode (mCd M_Y_comesTrue) 125 = .ok (.bipush 25, 2) := by decide +kernel
theorem d_Y_comesTrue_127 : decode (mCd M_Y_comesTrue) 127 = .ok (.iload_n 2, 1) := by decide +kernel
theorem d_Y_comesTrue_128 : decode (mCd M_Y_comesTrue) 128 = .ok (.iadd, 1) := by decide +kernel
theorem d_Y_comesTrue_129 : decode (mCd M_Y_comesTrue) 129 = .ok (.iconst (-1), 1) := by decide +kernel
theorem d_Y_comesTrue_130 : decode (mCd M_Y_comesTrue) 130 = .ok (.iastore, 1) := by decide +kernel
theorem d_Y_comesTrue_131 : decode (mCd M_Y_comesTrue) 131 = .ok (.return_, 1) := by decide +kernel
theorem d_Y_hourGoes_0 : decode (mCd M_Y_hourGoes) 0 = .ok (.aload_n 0, 1) := by decide +kernel
theorem d_Y_hourGoes_1 : decode (mCd M_Y_hourGoes) 1 = .ok (.aload_n 1, 1) := by decide +kernel
theorem d_Y_hourGoes_2 : decode (mCd M_Y_hourGoes) 2 = .ok (.invokevirtual 352, 3) := by decide +kernel
theorem d_Y_hourGoes_5 : decode (mCd M_Y_hourGoes) 5 = .ok (.istore_n 2, 1) := by decide +kernel
theorem d_Y_hourGoes_6 : decode (mCd M_Y_hourGoes) 6 = .ok (.aload_n 0, 1) := by decide +kernel
theorem d_Y_hourGoes_7 : decode (mCd M_Y_hourGoes) 7 = .ok (.dup, 1) := by decide +kernel
theorem d_Y_hourGoes_8 : decode (mCd M_Y_hourGoes) 8 = .ok (.getfield 356, 3) := by decide +kernel
theorem d_Y_hourGoes_11 : decode (mCd M_Y_hourGoes) 11 = .ok (.iload_n 2, 1) := by decide +kernel
theorem d_Y_hourGoes_12 : decode (mCd M_Y_hourGoes) 12 = .ok (.iconst 4, 1) := by decide +kernel
theorem d_Y_hourGoes_13 : decode (mCd M_Y_hourGoes) 13 = .ok (.if_icmp .ne 7, 3) := by decide +kernel
theorem d_Y_hourGoes_16 : decode (mCd M_Y_hourGoes) 16 = .ok (.iconst 1, 1) := by decide +kernel
theorem d_Y_hourGoes_17 : decode (mCd M_Y_hourGoes) 17 = .ok (.goto 4, 3) := by decide +kernel
theorem d_Y_hourGoes_20 : decode (mCd M_Y_hourGoes) 20 = .ok (.iconst 0, 1) := by decide +kernel
theorem d_Y_hourGoes_21 : decode (mCd M_Y_hourGoes) 21 = .ok (.invokestatic 171, 3) := by decide +kernel
theorem d_Y_hourGoes_24 : decode (mCd M_Y_hourGoes) 24 = .ok (.iadd, 1) := by decide +kernel
theorem d_Y_hourGoes_25 : decode (mCd M_Y_hourGoes) 25 = .ok (.putfield 356, 3) := by decide +kernel
theorem d_Y_hourGoes_28 : decode (mCd M_Y_hourGoes) 28 = .ok (.aload_n 1, 1) := by decide +kernel
theorem d_Y_hourGoes_29 : decode (mCd M_Y_hourGoes) 29 = .ok (.iconst 0, 1) := by decide +kernel
theorem d_Y_hourGoes_30 : decode (mCd M_Y_hourGoes) 30 = .ok (.iload_n 2, 1) := by decide +kernel
theorem d_Y_hourGoes_31 : decode (mCd M_Y_hourGoes) 31 = .ok (.iconst 4, 1) := by decide +kernel
theorem d_Y_hourGoes_32 : decode (mCd M_Y_hourGoes) 32 = .ok (.if_icmp .ne 9, 3) := by decide +kernel
theorem d_Y_hourGoes_35 : decode (mCd M_Y_hourGoes) 35 = .ok (.aload_n 1, 1) := by decide +kernel
theorem d_Y_hourGoes_36 : decode (mCd M_Y_hourGoes) 36 = .ok (.iconst 0, 1) := by decide +kernel
theorem d_Y_hourGoes_37 : decode (mCd M_Y_hourGoes) 37 = .ok (.iaload, 1) := by decide +kernel
theorem d_Y_hourGoes_38 : decode (mCd M_Y_hourGoes) 38 = .ok (.goto 11, 3) := by decide +kernel
theorem d_Y_hourGoes_41 : decode (mCd M_Y_hourGoes) 41 = .ok (.aload_n 0, 1) := by decide +kernel
theorem d_Y_hourGoes_42 : decode (mCd M_Y_hourGoes) 42 = .ok (.aload_n 1, 1) := by decide +kernel
theorem d_Y_hourGoes_43 : decode (mCd M_Y_hourGoes) 43 = .ok (.iconst 0, 1) := by decide +kernel
theorem d_Y_hourGoes_44 : decode (mCd M_Y_hourGoes) 44 = .ok (.iaload, 1) := by decide +kernel
theorem d_Y_hourGoes_45 : decode (mCd M_Y_hourGoes) 45 = .ok (.iload_n 2, 1) := by decide +kernel
theorem d_Y_hourGoes_46 : decode (mCd M_Y_hourGoes) 46 = .ok (.invokevirtual 321, 3) := by decide +kernel
theorem d_Y_hourGoes_49 : decode (mCd M_Y_hourGoes) 49 = .ok (.iastore, 1) := by decide +kernel
theorem d_Y_hourGoes_50 : decode (mCd M_Y_hourGoes) 50 = .ok (.iconst 0, 1) := by decide +kernel
theorem d_Y_hourGoes_51 : decode (mCd M_Y_hourGoes) 51 = .ok (.istore_n 3, 1) := by decide +kernel
theorem d_Y_hourGoes_52 : decode (mCd M_Y_hourGoes) 52 = .ok (.iload_n 3, 1) := by decide +kernel
theorem d_Y_hourGoes_53 : decode (mCd M_Y_hourGoes) 53 = .ok (.aload_n 0, 1) := by decide +kernel
theorem d_Y_hourGoes_54 : decode (mCd M_Y_hourGoes) 54 = .ok (.getfield 146, 3) := by decide +kernel
theorem d_Y_hourGoes_57 : decode (mCd M_Y_hourGoes) 57 = .ok (.if_icmp .ge 43, 3) := by decide +kernel
theorem d_Y_hourGoes_60 : decode (mCd M_Y_hourGoes) 60 = .ok (.aload_n 1, 1) := by decide +kernel
theorem d_Y_hourGoes_61 : decode (mCd M_Y_hourGoes) 61 = .ok (.iconst 1, 1) := by decide +kernel
theorem d_Y_hourGoes_62 : decode (mCd M_Y_hourGoes) 62 = .ok (.iload_n 3, 1) := by decide +kernel
theorem d_Y_hourGoes_63 : decode (mCd M_Y_hourGoes) 63 = .ok (.iadd, 1) := by decide +kernel
theorem d_Y_hourGoes_64 : decode (mCd M_Y_hourGoes) 64 = .ok (.iconst 0, 1) := by decide +kernel
theorem d_Y_hourGoes_65 : decode (mCd M_Y_hourGoes) 65 = .ok (.bipush 9, 2) := by decide +kernel
theorem d_Y_hourGoes_67 : decode (mCd M_Y_hourGoes) 67 = .ok (.aload_n 1, 1) := by decide +kernel
theorem d_Y_hourGoes_68 : decode (mCd M_Y_hourGoes) 68 = .ok (.iconst 1, 1) := by decide +kernel
theorem d_Y_hourGoes_69 : decode (mCd M_Y_hourGoes) 69 = .ok (.iload_n 3, 1) := by decide +kernel
theorem d_Y_hourGoes_70 : decode (mCd M_Y_hourGoes) 70 = .ok (.iadd, 1) := by decide +kernel
theorem d_Y_hourGoes_71 : decode (mCd M_Y_hourGoes) 71 = .ok (.iaload, 1) := by decide +kernel
theorem d_Y_hourGoes_72 : decode (mCd M_Y_hourGoes) 72 = .ok (.aload_n 0, 1) := by decide +kernel
theorem d_Y_hourGoes_73 : decode (mCd M_Y_hourGoes) 73 = .ok (.getfield 78, 3) := by decide +kernel
theorem d_Y_hourGoes_76 : decode (mCd M_Y_hourGoes) 76 = .ok (.iload_n 3, 1) := by decide +kernel
theorem d_Y_hourGoes_77 : decode (mCd M_Y_hourGoes) 77 = .ok (.iaload, 1) := by decide +kernel
theorem d_Y_hourGoes_78 : decode (mCd M_Y_hourGoes) 78 = .ok (.ifCond .le 7, 3) := by decide +kernel
theorem d_Y_hourGoes_81 : decode (mCd M_Y_hourGoes) 81 = .ok (.iconst 1, 1) := by decide +kernel
theorem d_Y_hourGoes_82 : decode (mCd M_Y_hourGoes) 82 = .ok (.goto 4, 3) := by decide +kernel
theorem d_Y_hourGoes_85 : decode (mCd M_Y_hourGoes) 85 = .ok (.iconst (-1), 1) := by decide +kernel
theorem d_Y_hourGoes_86 : decode (mCd M_Y_hourGoes) 86 = .ok (.iadd, 1) := by decide +kernel
theorem d_Y_hourGoes_87 : decode (mCd M_Y_hourGoes) 87 = .ok (.invokestatic 164, 3) := by decide +kernel
theorem d_Y_hourGoes_90 : decode (mCd M_Y_hourGoes) 90 = .ok (.invokestatic 293, 3) := by decide +kernel
theorem d_Y_hourGoes_93 : decode (mCd M_Y_hourGoes) 93 = .ok (.iastore, 1) := by decide +kernel
theorem d_Y_hourGoes_94 : decode (mCd M_Y_hourGoes) 94 = .ok (.iinc 3 1, 3) := by decide +kernel
theorem d_Y_hourGoes_97 : decode (mCd M_Y_hourGoes) 97 = .ok (.goto (-45), 3) := by decide +kernel
theorem d_Y_hourGoes_100 : decode (mCd M_Y_hourGoes) 100 = .ok (.iconst 0, 1) := by decide +kernel
theorem d_Y_hourGoes_101 : decode (mCd M_Y_hourGoes) 101 = .ok (.istore_n 3, 1) := by decide +kernel
theorem d_Y_hourGoes_102 : decode (mCd M_Y_hourGoes) 102 = .ok (.iload_n 3, 1) := by decide +kernel
theorem d_Y_hourGoes_103 : decode (mCd M_Y_hourGoes) 103 = .ok (.aload_n 0, 1) := by decide +kernel
theorem d_Y_hourGoes_104 : decode (mCd M_Y_hourGoes) 104 = .ok (.getfield 146, 3) := by decide +kernel
theorem d_Y_hourGoes_107 : decode (mCd M_Y_hourGoes) 107 = .ok (.if_icmp .ge 27, 3) := by decide +kernel
theorem d_Y_hourGoes_110 : decode (mCd M_Y_hourGoes) 110 = .ok (.aload_n 1, 1) := by decide +kernel
theorem d_Y_hourGoes_111 : decode (mCd M_Y_hourGoes) 111 = .ok (.bipush 17, 2) := by decide +kernel
theorem d_Y_hourGoes_113 : decode (mCd M_Y_hourGoes) 113 = .ok (.iload_n 3, 1) := by decide +kernel
theorem d_Y_hourGoes_114 : decode (mCd M_Y_hourGoes) 114 = .ok (.iadd, 1) := by decide +kernel
theorem d_Y_hourGoes_115 : decode (mCd M_Y_hourGoes) 115 = .ok (.iaload, 1) := by decide +kernel
theorem d_Y_hourGoes_116 : decode (mCd M_Y_hourGoes) 116 = .ok (.aload_n 1, 1) := by decide +kernel
theorem d_Y_hourGoes_117 : decode (mCd M_Y_hourGoes) 117 = .ok (.iconst 0, 1) := by decide +kernel
theorem d_Y_hourGoes_118 : decode (mCd M_Y_hourGoes) 118 = .ok (.iaload, 1) := by decide +kernel
theorem d_Y_hourGoes_119 : decode (mCd M_Y_hourGoes) 119 = .ok (.if_icmp .ne 9, 3) := by decide +kernel
theorem d_Y_hourGoes_122 : decode (mCd M_Y_hourGoes) 122 = .ok (.aload_n 0, 1) := by decide +kernel
theorem d_Y_hourGoes_123 : decode (mCd M_Y_hourGoes) 123 = .ok (.aload_n 1, 1) := by decide +kernel
theorem d_Y_hourGoes_124 : decode (mCd M_Y_hourGoes) 124 = .ok (.iload_n 3, 1) := by decide +kernel
theorem d_Y_hourGoes_125 : decode (mCd M_Y_hourGoes) 125 = .ok (.invokevirtual 359, 3) := by decide +kernel
theorem d_Y_hourGoes_128 : decode (mCd M_Y_hourGoes) 128 = .ok (.iinc 3 1, 3) := by decide +kernel
theorem d_Y_hourGoes_131 : decode (mCd M_Y_hourGoes) 131 = .ok (.goto (-29), 3) := by decide +kernel
theorem d_Y_hourGoes_134 : decode (mCd M_Y_hourGoes) 134 = .ok (.aload_n 1, 1) := by decide +kernel
theorem d_Y_hourGoes_135 : decode (mCd M_Y_hourGoes) 135 = .ok (.bipush 37, 2) := by decide +kernel
theorem d_Y_hourGoes_137 : decode (mCd M_Y_hourGoes) 137 = .ok (.dup2, 1) := by decide +kernel
theorem d_Y_hourGoes_138 : decode (mCd M_Y_hourGoes) 138 = .ok (.iaload, 1) := by decide +kernel
theorem d_Y_hourGoes_139 : decode (mCd M_Y_hourGoes) 139 = .ok (.iconst 1, 1) := by decide +kernel
theorem d_Y_hourGoes_140 : decode (mCd M_Y_hourGoes) 140 = .ok (.iadd, 1) := by decide +kernel
theorem d_Y_hourGoes_141 : decode (mCd M_Y_hourGoes) 141 = .ok (.iastore, 1) := by decide +kernel
theorem d_Y_hourGoes_142 : decode (mCd M_Y_hourGoes) 142 = .ok (.return_, 1) := by decide +kernel
theorem d_Y_goesOn_0 : decode (mCd M_Y_goesOn) 0 = .ok (.aload_n 0, 1) := by decide +kernel
theorem d_Y_goesOn_1 : decode (mCd M_Y_goesOn) 1 = .ok (.iconst 0, 1) := by decide +kernel
theorem d_Y_goesOn_2 : decode (mCd M_Y_goesOn) 2 = .ok (.putfield 346, 3) := by decide +kernel
theorem d_Y_goesOn_5 : decode (mCd M_Y_goesOn) 5 = .ok (.aload_n 0, 1) := by decide +kernel
theorem d_Y_goesOn_6 : decode (mCd M_Y_goesOn) 6 = .ok (.iconst 0, 1) := by decide +kernel
theorem d_Y_goesOn_7 : decode (mCd M_Y_goesOn) 7 = .ok (.putfield 349, 3) := by decide +kernel
theorem d_Y_goesOn_10 : decode (mCd M_Y_goesOn) 10 = .ok (.aload_n 0, 1) := by decide +kernel
theorem d_Y_goesOn_11 : decode (mCd M_Y_goesOn) 11 = .ok (.iconst 0, 1) := by decide +kernel
theorem d_Y_goesOn_12 : decode (mCd M_Y_goesOn) 12 = .ok (.putfield 356, 3) := by decide +kernel
theorem d_Y_goesOn_15 : decode (mCd M_Y_goesOn) 15 = .ok (.iconst 0, 1) := by decide +kernel
theorem d_Y_goesOn_16 : decode (mCd M_Y_goesOn) 16 = .ok (.istore_n 3, 1) := by decide +kernel
theorem d_Y_goesOn_17 : decode (mCd M_Y_goesOn) 17 = .ok (.iload_n 3, 1) := by decide +kernel
theorem d_Y_goesOn_18 : decode (mCd M_Y_goesOn) 18 = .ok (.iload_n 2, 1) := by decide +kernel
theorem d_Y_goesOn_19 : decode (mCd M_Y_goesOn) 19 = .ok (.if_icmp .ge 14, 3) := by decide +kernel
theorem d_Y_goesOn_22 : decode (mCd M_Y_goesOn) 22 = .ok (.aload_n 0, 1) := by decide +kernel
theorem d_Y_goesOn_23 : decode (mCd M_Y_goesOn) 23 = .ok (.aload_n 1, 1) := by decide +kernel
theorem d_Y_goesOn_24 : decode (mCd M_Y_goesOn) 24 = .ok (.invokevirtual 362, 3) := by decide +kernel
theorem d_Y_goesOn_27 : decode (mCd M_Y_goesOn) 27 = .ok (.iinc 3 1, 3) := by decide +kernel
theorem d_Y_goesOn_30 : decode (mCd M_Y_goesOn) 30 = .ok (.goto (-13), 3) := by decide +kernel
theorem d_Y_goesOn_33 : decode (mCd M_Y_goesOn) 33 = .ok (.return_, 1) := by decide +kernel
theorem d_Y_promised_0 : decode (mCd M_Y_promised) 0 = .ok (.iconst 0, 1) := by decide +kernel
theorem d_Y_promised_1 : decode (mCd M_Y_promised) 1 = .ok (.istore_n 2, 1) := by decide +kernel
theorem d_Y_promised_2 : decode (mCd M_Y_promised) 2 = .ok (.iconst 0, 1) := by decide +kernel
theorem d_Y_promised_3 : decode (mCd M_Y_promised) 3 = .ok (.istore_n 3, 1) := by decide +kernel
theorem d_Y_promised_4 : decode (mCd M_Y_promised) 4 = .ok (.iload_n 3, 1) := by decide +kernel
theorem d_Y_promised_5 : decode (mCd M_Y_promised) 5 = .ok (.aload_n 0, 1) := by decide +kernel
theorem d_Y_promised_6 : decode (mCd M_Y_promised) 6 = .ok (.getfield 146, 3) := by decide +kernel
theorem d_Y_promised_9 : decode (mCd M_Y_promised) 9 = .ok (.if_icmp .ge 28, 3) := by decide +kernel
theorem d_Y_promised_12 : decode (mCd M_Y_promised) 12 = .ok (.iload_n 2, 1) := by decide +kernel
theorem d_Y_promised_13 : decode (mCd M_Y_promised) 13 = .ok (.aload_n 1, 1) := by decide +kernel
theorem d_Y_promised_14 : decode (mCd M_Y_promised) 14 = .ok (.bipush 17, 2) := by decide +kernel
theorem d_Y_promised_16 : decode (mCd M_Y_promised) 16 = .ok (.iload_n 3, 1) := by decide +kernel
theorem d_Y_promised_17 : decode (mCd M_Y_promised) 17 = .ok (.iadd, 1) := by decide +kernel
theorem d_Y_promised_18 : decode (mCd M_Y_promised) 18 = .ok (.iaload, 1) := by decide +kernel
theorem d_Y_promised_19 : decode (mCd M_Y_promised) 19 = .ok (.ifCond .lt 9, 3) := by decide +kernel
theorem d_Y_promised_22 : decode (mCd M_Y_promised) 22 = .ok (.iconst 1, 1) := by decide +kernel
theorem d_Y_promised_23 : decode (mCd M_Y_promised) 23 = .ok (.iload_n 3, 1) := by decide +kernel
theorem d_Y_promised_24 : decode (mCd M_Y_promised) 24 = .ok (.ishl, 1) := by decide +kernel
theorem d_Y_promised_25 : decode (mCd M_Y_promised) 25 = .ok (.goto 4, 3) := by decide +kernel
theorem d_Y_promised_28 : decode (mCd M_Y_promised) 28 = .ok (.iconst 0, 1) := by decide +kernel
theorem d_Y_promised_29 : decode (mCd M_Y_promised) 29 = .ok (.ior, 1) := by decide +kernel
theorem d_Y_promised_30 : decode (mCd M_Y_promised) 30 = .ok (.istore_n 2, 1) := by decide +kernel
theorem d_Y_promised_31 : decode (mCd M_Y_promised) 31 = .ok (.iinc 3 1, 3) := by decide +kernel
theorem d_Y_promised_34 : decode (mCd M_Y_promised) 34 = .ok (.goto (-30), 3) := by decide +kernel
theorem d_Y_promised_37 : decode (mCd M_Y_promised) 37 = .ok (.iload_n 2, 1) := by decide +kernel
theorem d_Y_promised_38 : decode (mCd M_Y_promised) 38 = .ok (.ireturn, 1) := by decide +kernel
theorem d_Y_promises_0 : decode (mCd M_Y_promises) 0 = .ok (.aload_n 0, 1) := by decide +kernel
theorem d_Y_promises_1 : decode (mCd M_Y_promises) 1 = .ok (.iload_n 2, 1) := by decide +kernel
theorem d_Y_promises_2 : decode (mCd M_Y_promises) 2 = .ok (.invokevirtual 331, 3) := by decide +kernel
theorem d_Y_promises_5 : decode (mCd M_Y_promises) 5 = .ok (.ifCond .eq 24, 3) := by decide +kernel
theorem d_Y_promises_8 : decode (mCd M_Y_promises) 8 = .ok (.aload_n 0, 1) := by decide +kernel
theorem d_Y_promises_9 : decode (mCd M_Y_promises) 9 = .ok (.iload_n 3, 1) := by decide +kernel
theorem d_Y_promises_10 : decode (mCd M_Y_promises) 10 = .ok (.invokevirtual 339, 3) := by decide +kernel
theorem d_Y_promises_13 : decode (mCd M_Y_promises) 13 = .ok (.ifCond .eq 16, 3) := by decide +kernel
theorem d_Y_promises_16 : decode (mCd M_Y_promises) 16 = .ok (.iload 4, 2) := by decide +kernel
theorem d_Y_promises_18 : decode (mCd M_Y_promises) 18 = .ok (.i2l, 1) := by decide +kernel
theorem d_Y_promises_19 : decode (mCd M_Y_promises) 19 = .ok (.lconst 0, 1) := by decide +kernel
theorem d_Y_promises_20 : decode (mCd M_Y_promises) 20 = .ok (.ldc2_w 365, 3) := by decide +kernel
theorem d_Y_promises_23 : decode (mCd M_Y_promises) 23 = .ok (.invokestatic 142, 3) := by decide +kernel
theorem d_Y_promises_26 : decode (mCd M_Y_promises) 26 = .ok (.ifCond .ne 5, 3) := by decide +kernel
theorem d_Y_promises_29 : decode (mCd M_Y_promises) 29 = .ok (.iconst (-1), 1) := by decide +kernel
theorem d_Y_promises_30 : decode (mCd M_Y_promises) 30 = .ok (.ireturn, 1) := by decide +kernel
theorem d_Y_promises_31 : decode (mCd M_Y_promises) 31 = .ok (.aload_n 0, 1) := by decide +kernel
theorem d_Y_promises_32 : decode (mCd M_Y_promises) 32 = .ok (.getfield 45, 3) := by decide +kernel
theorem d_Y_promises_35 : decode (mCd M_Y_promises) 35 = .ok (.iload_n 2, 1) := by decide +kernel
theorem d_Y_promises_36 : decode (mCd M_Y_promises) 36 = .ok (.iaload, 1) := by decide +kernel
theorem d_Y_promises_37 : decode (mCd M_Y_promises) 37 = .ok (.iconst 2, 1) := by decide +kernel
theorem d_Y_promises_38 : decode (mCd M_Y_promises) 38 = .ok (.if_icmp .ne 6, 3) := by decide +kernel
theorem d_Y_promises_41 : decode (mCd M_Y_promises) 41 = .ok (.bipush (-3), 2) := by decide +kernel
theorem d_Y_promises_43 : decode (mCd M_Y_promises) 43 = .ok (.ireturn, 1) := by decide +kernel
theorem d_Y_promises_44 : decode (mCd M_Y_promises) 44 = .ok (.aload_n 1, 1) := by decide +kernel
theorem d_Y_promises_45 : decode (mCd M_Y_promises) 45 = .ok (.bipush 9, 2) := by decide +kernel
theorem d_Y_promises_47 : decode (mCd M_Y_promises) 47 = .ok (.iload_n 2, 1) := by decide +kernel
theorem d_Y_promises_48 : decode (mCd M_Y_promises) 48 = .ok (.iadd, 1) := by decide +kernel
theorem d_Y_promises_49 : decode (mCd M_Y_promises) 49 = .ok (.iaload, 1) := by decide +kernel
theorem d_Y_promises_50 : decode (mCd M_Y_promises) 50 = .ok (.ifCond .ne 6, 3) := by decide +kernel
theorem d_Y_promises_53 : decode (mCd M_Y_promises) 53 = .ok (.bipush (-4), 2) := by decide +kernel
theorem d_Y_promises_55 : decode (mCd M_Y_promises) 55 = .ok (.ireturn, 1) := by decide +kernel
theorem d_Y_promises_56 : decode (mCd M_Y_promises) 56 = .ok (.aload_n 1, 1) := by decide +kernel
theorem d_Y_promises_57 : decode (mCd M_Y_promises) 57 = .ok (.bipush 17, 2) := by decide +kernel
theorem d_Y_promises_59 : decode (mCd M_Y_promises) 59 = .ok (.iload_n 2, 1) := by decide +kernel
theorem d_Y_promises_60 : decode (mCd M_Y_promises) 60 = .ok (.iadd, 1) := by decide +kernel
theorem d_Y_promises_61 : decode (mCd M_Y_promises) 61 = .ok (.iload_n 3, 1) := by decide +kernel
theorem d_Y_promises_62 : decode (mCd M_Y_promises) 62 = .ok (.iastore, 1) := by decide +kernel
theorem d_Y_promises_63 : decode (mCd M_Y_promises) 63 = .ok (.aload_n 1, 1) := by decide +kernel
theorem d_Y_promises_64 : decode (mCd M_Y_promises) 64 = .ok (.bipush 25, 2) := by decide +kernel
theorem d_Y_promises_66 : decode (mCd M_Y_promises) 66 = .ok (.iload_n 2, 1) := by decide +kernel
theorem d_Y_promises_67 : decode (mCd M_Y_promises) 67 = .ok (.iadd, 1) := by decide +kernel
theorem d_Y_promises_68 : decode (mCd M_Y_promises) 68 = .ok (.iload 4, 2) := by decide +kernel
theorem d_Y_promises_70 : decode (mCd M_Y_promises) 70 = .ok (.iastore, 1) := by decide +kernel
theorem d_Y_promises_71 : decode (mCd M_Y_promises) 71 = .ok (.aload_n 0, 1) := by decide +kernel
theorem d_Y_promises_72 : decode (mCd M_Y_promises) 72 = .ok (.aload_n 1, 1) := by decide +kernel
theorem d_Y_promises_73 : decode (mCd M_Y_promises) 73 = .ok (.invokevirtual 367, 3) := by decide +kernel
theorem d_Y_promises_76 : decode (mCd M_Y_promises) 76 = .ok (.invokestatic 370, 3) := by decide +kernel
theorem d_Y_promises_79 : decode (mCd M_Y_promises) 79 = .ok (.ireturn, 1) := by decide +kernel
theorem d_Y_takesOne_0 : decode (mCd M_Y_takesOne) 0 = .ok (.aload_n 0, 1) := by decide +kernel
theorem d_Y_takesOne_1 : decode (mCd M_Y_takesOne) 1 = .ok (.iload_n 1, 1) := by decide +kernel
theorem d_Y_takesOne_2 : decode (mCd M_Y_takesOne) 2 = .ok (.invokevirtual 331, 3) := by decide +kernel
theorem d_Y_takesOne_5 : decode (mCd M_Y_takesOne) 5 = .ok (.ifCond .ne 5, 3) := by decide +kernel
theorem d_Y_takesOne_8 : decode (mCd M_Y_takesOne) 8 = .ok (.iconst (-1), 1) := by decide +kernel
theorem d_Y_takesOne_9 : decode (mCd M_Y_takesOne) 9 = .ok (.ireturn, 1) := by decide +kernel
theorem d_Y_takesOne_10 : decode (mCd M_Y_takesOne) 10 = .ok (.aload_n 0, 1) := by decide +kernel
theorem d_Y_takesOne_11 : decode (mCd M_Y_takesOne) 11 = .ok (.getfield 51, 3) := by decide +kernel
theorem d_Y_takesOne_14 : decode (mCd M_Y_takesOne) 14 = .ok (.bipush 17, 2) := by decide +kernel
theorem d_Y_takesOne_16 : decode (mCd M_Y_takesOne) 16 = .ok (.iload_n 1, 1) := by decide +kernel
theorem d_Y_takesOne_17 : decode (mCd M_Y_takesOne) 17 = .ok (.iadd, 1) := by decide +kernel
theorem d_Y_takesOne_18 : decode (mCd M_Y_takesOne) 18 = .ok (.iaload, 1) := by decide +kernel
theorem d_Y_takesOne_19 : decode (mCd M_Y_takesOne) 19 = .ok (.ifCond .ge 6, 3) := by decide +kernel
theorem d_Y_takesOne_22 : decode (mCd M_Y_takesOne) 22 = .ok (.bipush (-2), 2) := by decide +kernel
theorem d_Y_takesOne_24 : decode (mCd M_Y_takesOne) 24 = .ok (.ireturn, 1) := by decide +kernel
theorem d_Y_takesOne_25 : decode (mCd M_Y_takesOne) 25 = .ok (.aload_n 0, 1) := by decide +kernel
theorem d_Y_takesOne_26 : decode (mCd M_Y_takesOne) 26 = .ok (.getfield 51, 3) := by decide +kernel
theorem d_Y_takesOne_29 : decode (mCd M_Y_takesOne) 29 = .ok (.bipush 17, 2) := by decide +kernel
theorem d_Y_takesOne_31 : decode (mCd M_Y_takesOne) 31 = .ok (.iload_n 1, 1) := by decide +kernel
theorem d_Y_takesOne_32 : decode (mCd M_Y_takesOne) 32 = .ok (.iadd, 1) := by decide +kernel
theorem d_Y_takesOne_33 : decode (mCd M_Y_takesOne) 33 = .ok (.iconst (-1), 1) := by decide +kernel
theorem d_Y_takesOne_34 : decode (mCd M_Y_takesOne) 34 = .ok (.iastore, 1) := by decide +kernel
theorem d_Y_takesOne_35 : decode (mCd M_Y_takesOne) 35 = .ok (.aload_n 0, 1) := by decide +kernel
theorem d_Y_takesOne_36 : decode (mCd M_Y_takesOne) 36 = .ok (.getfield 51, 3) := by decide +kernel
theorem d_Y_takesOne_39 : decode (mCd M_Y_takesOne) 39 = .ok (.bipush 25, 2) := by decide +kernel
theorem d_Y_takesOne_41 : decode (mCd M_Y_takesOne) 41 = .ok (.iload_n 1, 1) := by decide +kernel
theorem d_Y_takesOne_42 : decode (mCd M_Y_takesOne) 42 = .ok (.iadd, 1) := by decide +kernel
theorem d_Y_takesOne_43 : decode (mCd M_Y_takesOne) 43 = .ok (.iconst (-1), 1) := by decide +kernel
theorem d_Y_takesOne_44 : decode (mCd M_Y_takesOne) 44 = .ok (.iastore, 1) := by decide +kernel
theorem d_Y_takesOne_45 : decode (mCd M_Y_takesOne) 45 = .ok (.aload_n 0, 1) := by decide +kernel
theorem d_Y_takesOne_46 : decode (mCd M_Y_takesOne) 46 = .ok (.getfield 51, 3) := by decide +kernel
theorem d_Y_takesOne_49 : decode (mCd M_Y_takesOne) 49 = .ok (.bipush 9, 2) := by decide +kernel
theorem d_Y_takesOne_51 : decode (mCd M_Y_takesOne) 51 = .ok (.iload_n 1, 1) := by decide +kernel
theorem d_Y_takesOne_52 : decode (mCd M_Y_takesOne) 52 = .ok (.iadd, 1) := by decide +kernel
theorem d_Y_takesOne_53 : decode (mCd M_Y_takesOne) 53 = .ok (.iconst 0, 1) := by decide +kernel
theorem d_Y_takesOne_54 : decode (mCd M_Y_takesOne) 54 = .ok (.aload_n 0, 1) := by decide +kernel
theorem d_Y_takesOne_55 : decode (mCd M_Y_takesOne) 55 = .ok (.getfield 51, 3) := by decide +kernel
theorem d_Y_takesOne_58 : decode (mCd M_Y_takesOne) 58 = .ok (.bipush 9, 2) := by decide +kernel
theorem d_Y_takesOne_60 : decode (mCd M_Y_takesOne) 60 = .ok (.iload_n 1, 1) := by decide +kernel
theorem d_Y_takesOne_61 : decode (mCd M_Y_takesOne) 61 = .ok (.iadd, 1) := by decide +kernel
theorem d_Y_takesOne_62 : decode (mCd M_Y_takesOne) 62 = .ok (.iaload, 1) := by decide +kernel
theorem d_Y_takesOne_63 : decode (mCd M_Y_takesOne) 63 = .ok (.iconst 3, 1) := by decide +kernel
theorem d_Y_takesOne_64 : decode (mCd M_Y_takesOne) 64 = .ok (.isub, 1) := by decide +kernel
theorem d_Y_takesOne_65 : decode (mCd M_Y_takesOne) 65 = .ok (.invokestatic 293, 3) := by decide +kernel
theorem d_Y_takesOne_68 : decode (mCd M_Y_takesOne) 68 = .ok (.iastore, 1) := by decide +kernel
theorem d_Y_takesOne_69 : decode (mCd M_Y_takesOne) 69 = .ok (.aload_n 0, 1) := by decide +kernel
theorem d_Y_takesOne_70 : decode (mCd M_Y_takesOne) 70 = .ok (.getfield 51, 3) := by decide +kernel
theorem d_Y_takesOne_73 : decode (mCd M_Y_takesOne) 73 = .ok (.bipush 9, 2) := by decide +kernel
theorem d_Y_takesOne_75 : decode (mCd M_Y_takesOne) 75 = .ok (.iload_n 1, 1) := by decide +kernel
theorem d_Y_takesOne_76 : decode (mCd M_Y_takesOne) 76 = .ok (.iadd, 1) := by decide +kernel
theorem d_Y_takesOne_77 : decode (mCd M_Y_takesOne) 77 = .ok (.iaload, 1) := by decide +kernel
theorem d_Y_takesOne_78 : decode (mCd M_Y_takesOne) 78 = .ok (.ireturn, 1) := by decide +kernel
theorem d_Y_letsOne_0 : decode (mCd M_Y_letsOne) 0 = .ok (.aload_n 0, 1) := by decide +kernel
theorem d_Y_letsOne_1 : decode (mCd M_Y_letsOne) 1 = .ok (.iload_n 2, 1) := by decide +kernel
theorem d_Y_letsOne_2 : decode (mCd M_Y_letsOne) 2 = .ok (.invokevirtual 331, 3) := by decide +kernel
theorem d_Y_letsOne_5 : decode (mCd M_Y_letsOne) 5 = .ok (.ifCond .ne 5, 3) := by decide +kernel
theorem d_Y_letsOne_8 : decode (mCd M_Y_letsOne) 8 = .ok (.iconst (-1), 1) := by decide +kernel
theorem d_Y_letsOne_9 : decode (mCd M_Y_letsOne) 9 = .ok (.ireturn, 1) := by decide +kernel
theorem d_Y_letsOne_10 : decode (mCd M_Y_letsOne) 10 = .ok (.aload_n 1, 1) := by decide +kernel
theorem d_Y_letsOne_11 : decode (mCd M_Y_letsOne) 11 = .ok (.bipush 33, 2) := by decide +kernel
theorem d_Y_letsOne_13 : decode (mCd M_Y_letsOne) 13 = .ok (.dup2, 1) := by decide +kernel
theorem d_Y_letsOne_14 : decode (mCd M_Y_letsOne) 14 = .ok (.iaload, 1) := by decide +kernel
theorem d_Y_letsOne_15 : decode (mCd M_Y_letsOne) 15 = .ok (.iconst 1, 1) := by decide +kernel
theorem d_Y_letsOne_16 : decode (mCd M_Y_letsOne) 16 = .ok (.iload_n 2, 1) := by decide +kernel
theorem d_Y_letsOne_17 : decode (mCd M_Y_letsOne) 17 = .ok (.ishl, 1) := by decide +kernel
theorem d_Y_letsOne_18 : decode (mCd M_Y_letsOne) 18 = .ok (.ixor, 1) := by decide +kernel
theorem d_Y_letsOne_19 : decode (mCd M_Y_letsOne) 19 = .ok (.iastore, 1) := by decide +kernel
theorem d_Y_letsOne_20 : decode (mCd M_Y_letsOne) 20 = .ok (.aload_n 1, 1) := by decide +kernel
theorem d_Y_letsOne_21 : decode (mCd M_Y_letsOne) 21 = .ok (.bipush 33, 2) := by decide +kernel
theorem d_Y_letsOne_23 : decode (mCd M_Y_letsOne) 23 = .ok (.iaload, 1) := by decide +kernel
theorem d_Y_letsOne_24 : decode (mCd M_Y_letsOne) 24 = .ok (.invokestatic 370, 3) := by decide +kernel
theorem d_Y_letsOne_27 : decode (mCd M_Y_letsOne) 27 = .ok (.ireturn, 1) := by decide +kernel
theorem d_Y_buysSome_0 : decode (mCd M_Y_buysSome) 0 = .ok (.iload_n 1, 1) := by decide +kernel
theorem d_Y_buysSome_1 : decode (mCd M_Y_buysSome) 1 = .ok (.i2l, 1) := by decide +kernel
theorem d_Y_buysSome_2 : decode (mCd M_Y_buysSome) 2 = .ok (.lconst 1, 1) := by decide +kernel
theorem d_Y_buysSome_3 : decode (mCd M_Y_buysSome) 3 = .ok (.ldc2_w 375, 3) := by decide +kernel
theorem d_Y_buysSome_6 : decode (mCd M_Y_buysSome) 6 = .ok (.invokestatic 142, 3) := by decide +kernel
theorem d_Y_buysSome_9 : decode (mCd M_Y_buysSome) 9 = .ok (.ifCond .ne 5, 3) := by decide +kernel
theorem d_Y_buysSome_12 : decode (mCd M_Y_buysSome) 12 = .ok (.iconst (-1), 1) := by decide +kernel
theorem d_Y_buysSome_13 : decode (mCd M_Y_buysSome) 13 = .ok (.ireturn, 1) := by decide +kernel
theorem d_Y_buysSome_14 : decode (mCd M_Y_buysSome) 14 = .ok (.aload_n 0, 1) := by decide +kernel
theorem d_Y_buysSome_15 : decode (mCd M_Y_buysSome) 15 = .ok (.getfield 51, 3) := by decide +kernel
theorem d_Y_buysSome_18 : decode (mCd M_Y_buysSome) 18 = .ok (.bipush 34, 2) := by decide +kernel
theorem d_Y_buysSome_20 : decode (mCd M_Y_buysSome) 20 = .ok (.iaload, 1) := by decide +kernel
theorem d_Y_buysSome_21 : decode (mCd M_Y_buysSome) 21 = .ok (.iload_n 1, 1) := by decide +kernel
theorem d_Y_buysSome_22 : decode (mCd M_Y_buysSome) 22 = .ok (.iadd, 1) := by decide +kernel
theorem d_Y_buysSome_23 : decode (mCd M_Y_buysSome) 23 = .ok (.bipush 99, 2) := by decide +kernel
theorem d_Y_buysSome_25 : decode (mCd M_Y_buysSome) 25 = .ok (.if_icmp .le 6, 3) := by decide +kernel
theorem d_Y_buysSome_28 : decode (mCd M_Y_buysSome) 28 = .ok (.bipush (-3), 2) := by decide +kernel
theorem d_Y_buysSome_30 : decode (mCd M_Y_buysSome) 30 = .ok (.ireturn, 1) := by decide +kernel
theorem d_Y_buysSome_31 : decode (mCd M_Y_buysSome) 31 = .ok (.aload_n 0, 1) := by decide +kernel
theorem d_Y_buysSome_32 : decode (mCd M_Y_buysSome) 32 = .ok (.getfield 51, 3) := by decide +kernel
theorem d_Y_buysSome_35 : decode (mCd M_Y_buysSome) 35 = .ok (.bipush 34, 2) := by decide +kernel
theorem d_Y_buysSome_37 : decode (mCd M_Y_buysSome) 37 = .ok (.dup2, 1) := by decide +kernel
theorem d_Y_buysSome_38 : decode (mCd M_Y_buysSome) 38 = .ok (.iaload, 1) := by decide +kernel
theorem d_Y_buysSome_39 : decode (mCd M_Y_buysSome) 39 = .ok (.iload_n 1, 1) := by decide +kernel
theorem d_Y_buysSome_40 : decode (mCd M_Y_buysSome) 40 = .ok (.iadd, 1) := by decide +kernel
theorem d_Y_buysSome_41 : decode (mCd M_Y_buysSome) 41 = .ok (.iastore, 1) := by decide +kernel
theorem d_Y_buysSome_42 : decode (mCd M_Y_buysSome) 42 = .ok (.aload_n 0, 1) := by decide +kernel
theorem d_Y_buysSome_43 : decode (mCd M_Y_buysSome) 43 = .ok (.getfield 51, 3) := by decide +kernel
theorem d_Y_buysSome_46 : decode (mCd M_Y_buysSome) 46 = .ok (.bipush 34, 2) := by decide +kernel
theorem d_Y_buysSome_48 : decode (mCd M_Y_buysSome) 48 = .ok (.iaload, 1) := by decide +kernel
theorem d_Y_buysSome_49 : decode (mCd M_Y_buysSome) 49 = .ok (.ireturn, 1) := by decide +kernel
theorem d_Y_hours_0 : decode (mCd M_Y_hours) 0 = .ok (.aload_n 0, 1) := by decide +kernel
theorem d_Y_hours_1 : decode (mCd M_Y_hours) 1 = .ok (.iconst 0, 1) := by decide +kernel
theorem d_Y_hours_2 : decode (mCd M_Y_hours) 2 = .ok (.putfield 3, 3) := by decide +kernel
theorem d_Y_hours_5 : decode (mCd M_Y_hours) 5 = .ok (.iload_n 1, 1) := by decide +kernel
theorem d_Y_hours_6 : decode (mCd M_Y_hours) 6 = .ok (.i2l, 1) := by decide +kernel
theorem d_Y_hours_7 : decode (mCd M_Y_hours) 7 = .ok (.lconst 0, 1) := by decide +kernel
theorem d_Y_hours_8 : decode (mCd M_Y_hours) 8 = .ok (.ldc2_w 377, 3) := by decide +kernel
theorem d_Y_hours_11 : decode (mCd M_Y_hours) 11 = .ok (.invokestatic 142, 3) := by decide +kernel
theorem d_Y_hours_14 : decode (mCd M_Y_hours) 14 = .ok (.ifCond .ne 5, 3) := by decide +kernel
theorem d_Y_hours_17 : decode (mCd M_Y_hours) 17 = .ok (.iconst (-1), 1) := by decide +kernel
theorem d_Y_hours_18 : decode (mCd M_Y_hours) 18 = .ok (.ireturn, 1) := by decide +kernel
theorem d_Y_hours_19 : decode (mCd M_Y_hours) 19 = .ok (.aload_n 0, 1) := by decide +kernel
theorem d_Y_hours_20 : decode (mCd M_Y_hours) 20 = .ok (.invokevirtual 239, 3) := by decide +kernel
theorem d_Y_hours_23 : decode (mCd M_Y_hours) 23 = .ok (.aload_n 0, 1) := by decide +kernel
theorem d_Y_hours_24 : decode (mCd M_Y_hours) 24 = .ok (.aload_n 0, 1) := by decide +kernel
theorem d_Y_hours_25 : decode (mCd M_Y_hours) 25 = .ok (.getfield 51, 3) := by decide +kernel
theorem d_Y_hours_28 : decode (mCd M_Y_hours) 28 = .ok (.iload_n 1, 1) := by decide +kernel
theorem d_Y_hours_29 : decode (mCd M_Y_hours) 29 = .ok (.invokevirtual 379, 3) := by decide +kernel
theorem d_Y_hours_32 : decode (mCd M_Y_hours) 32 = .ok (.aload_n 0, 1) := by decide +kernel
theorem d_Y_hours_33 : decode (mCd M_Y_hours) 33 = .ok (.iconst 0, 1) := by decide +kernel
theorem d_Y_hours_34 : decode (mCd M_Y_hours) 34 = .ok (.putfield 15, 3) := by decide +kernel
theorem d_Y_hours_37 : decode (mCd M_Y_hours) 37 = .ok (.aload_n 0, 1) := by decide +kernel
theorem d_Y_hours_38 : decode (mCd M_Y_hours) 38 = .ok (.aload_n 0, 1) := by decide +kernel
theorem d_Y_hours_39 : decode (mCd M_Y_hours) 39 = .ok (.getfield 346, 3) := by decide +kernel
theorem d_Y_hours_42 : decode (mCd M_Y_hours) 42 = .ok (.i2l, 1) := by decide +kernel
theorem d_Y_hours_43 : decode (mCd M_Y_hours) 43 = .ok (.invokevirtual 18, 3) := by decide +kernel
theorem d_Y_hours_46 : decode (mCd M_Y_hours) 46 = .ok (.aload_n 0, 1) := by decide +kernel
theorem d_Y_hours_47 : decode (mCd M_Y_hours) 47 = .ok (.aload_n 0, 1) := by decide +kernel
theorem d_Y_hours_48 : decode (mCd M_Y_hours) 48 = .ok (.getfield 349, 3) := by decide +kernel
theorem d_Y_hours_51 : decode (mCd M_Y_hours) 51 = .ok (.i2l, 1) := by decide +kernel
theorem d_Y_hours_52 : decode (mCd M_Y_hours) 52 = .ok (.invokevirtual 18, 3) := by decide +kernel
theorem d_Y_hours_55 : decode (mCd M_Y_hours) 55 = .ok (.aload_n 0, 1) := by decide +kernel
theorem d_Y_hours_56 : decode (mCd M_Y_hours) 56 = .ok (.aload_n 0, 1) := by decide +kernel
theorem d_Y_hours_57 : decode (mCd M_Y_hours) 57 = .ok (.getfield 356, 3) := by decide +kernel
theorem d_Y_hours_60 : decode (mCd M_Y_hours) 60 = .ok (.i2l, 1) := by decide +kernel
theorem d_Y_hours_61 : decode (mCd M_Y_hours) 61 = .ok (.invokevirtual 18, 3) := by decide +kernel
theorem d_Y_hours_64 : decode (mCd M_Y_hours) 64 = .ok (.aload_n 0, 1) := by decide +kernel
theorem d_Y_hours_65 : decode (mCd M_Y_hours) 65 = .ok (.aload_n 0, 1) := by decide +kernel
theorem d_Y_hours_66 : decode (mCd M_Y_hours) 66 = .ok (.getfield 51, 3) := by decide +kernel
theorem d_Y_hours_69 : decode (mCd M_Y_hours) 69 = .ok (.iconst 0, 1) := by decide +kernel
theorem d_Y_hours_70 : decode (mCd M_Y_hours) 70 = .ok (.iaload, 1) := by decide +kernel
theorem d_Y_hours_71 : decode (mCd M_Y_hours) 71 = .ok (.invokevirtual 242, 3) := by decide +kernel
theorem d_Y_hours_74 : decode (mCd M_Y_hours) 74 = .ok (.ireturn, 1) := by decide +kernel
theorem d_Y_promise_0 : decode (mCd M_Y_promise) 0 = .ok (.aload_n 0, 1) := by decide +kernel
theorem d_Y_promise_1 : decode (mCd M_Y_promise) 1 = .ok (.iconst 0, 1) := by decide +kernel
theorem d_Y_promise_2 : decode (mCd M_Y_promise) 2 = .ok (.putfield 3, 3) := by decide +kernel
theorem d_Y_promise_5 : decode (mCd M_Y_promise) 5 = .ok (.aload_n 0, 1) := by decide +kernel
theorem d_Y_promise_6 : decode (mCd M_Y_promise) 6 = .ok (.invokevirtual 239, 3) := by decide +kernel
theorem d_Y_promise_9 : decode (mCd M_Y_promise) 9 = .ok (.aload_n 0, 1) := by decide +kernel
theorem d_Y_promise_10 : decode (mCd M_Y_promise) 10 = .ok (.aload_n 0, 1) := by decide +kernel
theorem d_Y_promise_11 : decode (mCd M_Y_promise) 11 = .ok (.aload_n 0, 1) := by decide +kernel
theorem d_Y_promise_12 : decode (mCd M_Y_promise) 12 = .ok (.getfield 51, 3) := by decide +kernel
theorem d_Y_promise_15 : decode (mCd M_Y_promise) 15 = .ok (.iload_n 1, 1) := by decide +kernel
theorem d_Y_promise_16 : decode (mCd M_Y_promise) 16 = .ok (.iload_n 2, 1) := by decide +kernel
theorem d_Y_promise_17 : decode (mCd M_Y_promise) 17 = .ok (.iload_n 3, 1) := by decide +kernel
theorem d_Y_promise_18 : decode (mCd M_Y_promise) 18 = .ok (.invokevirtual 382, 3) := by decide +kernel
theorem d_Y_promise_21 : decode (mCd M_Y_promise) 21 = .ok (.invokevirtual 386, 3) := by decide +kernel
theorem d_Y_promise_24 : decode (mCd M_Y_promise) 24 = .ok (.ireturn, 1) := by decide +kernel
theorem d_Y_takesBack_0 : decode (mCd M_Y_takesBack) 0 = .ok (.aload_n 0, 1) := by decide +kernel
theorem d_Y_takesBack_1 : decode (mCd M_Y_takesBack) 1 = .ok (.iconst 0, 1) := by decide +kernel
theorem d_Y_takesBack_2 : decode (mCd M_Y_takesBack) 2 = .ok (.putfield 3, 3) := by decide +kernel
theorem d_Y_takesBack_5 : decode (mCd M_Y_takesBack) 5 = .ok (.aload_n 0, 1) := by decide +kernel
theorem d_Y_takesBack_6 : decode (mCd M_Y_takesBack) 6 = .ok (.invokevirtual 239, 3) := by decide +kernel
theorem d_Y_takesBack_9 : decode (mCd M_Y_takesBack) 9 = .ok (.aload_n 0, 1) := by decide +kernel
theorem d_Y_takesBack_10 : decode (mCd M_Y_takesBack) 10 = .ok (.aload_n 0, 1) := by decide +kernel
theorem d_Y_takesBack_11 : decode (mCd M_Y_takesBack) 11 = .ok (.iload_n 1, 1) := by decide +kernel
theorem d_Y_takesBack_12 : decode (mCd M_Y_takesBack) 12 = .ok (.invokevirtual 389, 3) := by decide +kernel
theorem d_Y_takesBack_15 : decode (mCd M_Y_takesBack) 15 = .ok (.invokevirtual 386, 3) := by decide +kernel
theorem d_Y_takesBack_18 : decode (mCd M_Y_takesBack) 18 = .ok (.ireturn, 1) := by decide +kernel
