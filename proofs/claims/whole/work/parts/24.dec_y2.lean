/-! Printed by wip/whole/gen_dec.py: what each instruction is. -/
theorem d_Y_letsGo_0 : decode (mCd M_Y_letsGo) 0 = .ok (.aload_n 0, 1) := by decide +kernel
theorem d_Y_letsGo_1 : decode (mCd M_Y_letsGo) 1 = .ok (.iconst 0, 1) := by decide +kernel
theorem d_Y_letsGo_2 : decode (mCd M_Y_letsGo) 2 = .ok (.putfield 3, 3) := by decide +kernel
theorem d_Y_letsGo_5 : decode (mCd M_Y_letsGo) 5 = .ok (.aload_n 0, 1) := by decide +kernel
theorem d_Y_letsGo_6 : decode (mCd M_Y_letsGo) 6 = .ok (.invokevirtual 239, 3) := by decide +kernel
theorem d_Y_letsGo_9 : decode (mCd M_Y_letsGo) 9 = .ok (.aload_n 0, 1) := by decide +kernel
theorem d_Y_letsGo_10 : decode (mCd M_Y_letsGo) 10 = .ok (.aload_n 0, 1) := by decide +kernel
theorem d_Y_letsGo_11 : decode (mCd M_Y_letsGo) 11 = .ok (.aload_n 0, 1) := by decide +kernel
theorem d_Y_letsGo_12 : decode (mCd M_Y_letsGo) 12 = .ok (.getfield 51, 3) := by decide +kernel
theorem d_Y_letsGo_15 : decode (mCd M_Y_letsGo) 15 = .ok (.iload_n 1, 1) := by decide +kernel
theorem d_Y_letsGo_16 : decode (mCd M_Y_letsGo) 16 = .ok (.invokevirtual 392, 3) := by decide +kernel
theorem d_Y_letsGo_19 : decode (mCd M_Y_letsGo) 19 = .ok (.invokevirtual 386, 3) := by decide +kernel
theorem d_Y_letsGo_22 : decode (mCd M_Y_letsGo) 22 = .ok (.ireturn, 1) := by decide +kernel
theorem d_Y_buys_0 : decode (mCd M_Y_buys) 0 = .ok (.aload_n 0, 1) := by decide +kernel
theorem d_Y_buys_1 : decode (mCd M_Y_buys) 1 = .ok (.iconst 0, 1) := by decide +kernel
theorem d_Y_buys_2 : decode (mCd M_Y_buys) 2 = .ok (.putfield 3, 3) := by decide +kernel
theorem d_Y_buys_5 : decode (mCd M_Y_buys) 5 = .ok (.aload_n 0, 1) := by decide +kernel
theorem d_Y_buys_6 : decode (mCd M_Y_buys) 6 = .ok (.invokevirtual 239, 3) := by decide +kernel
theorem d_Y_buys_9 : decode (mCd M_Y_buys) 9 = .ok (.aload_n 0, 1) := by decide +kernel
theorem d_Y_buys_10 : decode (mCd M_Y_buys) 10 = .ok (.aload_n 0, 1) := by decide +kernel
theorem d_Y_buys_11 : decode (mCd M_Y_buys) 11 = .ok (.iload_n 1, 1) := by decide +kernel
theorem d_Y_buys_12 : decode (mCd M_Y_buys) 12 = .ok (.invokevirtual 395, 3) := by decide +kernel
theorem d_Y_buys_15 : decode (mCd M_Y_buys) 15 = .ok (.invokevirtual 386, 3) := by decide +kernel
theorem d_Y_buys_18 : decode (mCd M_Y_buys) 18 = .ok (.ireturn, 1) := by decide +kernel
theorem d_Y_readsAct_0 : decode (mCd M_Y_readsAct) 0 = .ok (.aload_n 0, 1) := by decide +kernel
theorem d_Y_readsAct_1 : decode (mCd M_Y_readsAct) 1 = .ok (.getfield 398, 3) := by decide +kernel
theorem d_Y_readsAct_4 : decode (mCd M_Y_readsAct) 4 = .ok (.istore_n 1, 1) := by decide +kernel
theorem d_Y_readsAct_5 : decode (mCd M_Y_readsAct) 5 = .ok (.aload_n 0, 1) := by decide +kernel
theorem d_Y_readsAct_6 : decode (mCd M_Y_readsAct) 6 = .ok (.getfield 87, 3) := by decide +kernel
theorem d_Y_readsAct_9 : decode (mCd M_Y_readsAct) 9 = .ok (.iload_n 1, 1) := by decide +kernel
theorem d_Y_readsAct_10 : decode (mCd M_Y_readsAct) 10 = .ok (.aload_n 0, 1) := by decide +kernel
theorem d_Y_readsAct_11 : decode (mCd M_Y_readsAct) 11 = .ok (.ldc_w 401, 3) := by decide +kernel
theorem d_Y_readsAct_14 : decode (mCd M_Y_readsAct) 14 = .ok (.invokevirtual 200, 3) := by decide +kernel
theorem d_Y_readsAct_17 : decode (mCd M_Y_readsAct) 17 = .ok (.iastore, 1) := by decide +kernel
theorem d_Y_readsAct_18 : decode (mCd M_Y_readsAct) 18 = .ok (.aload_n 0, 1) := by decide +kernel
theorem d_Y_readsAct_19 : decode (mCd M_Y_readsAct) 19 = .ok (.dup, 1) := by decide +kernel
theorem d_Y_readsAct_20 : decode (mCd M_Y_readsAct) 20 = .ok (.getfield 398, 3) := by decide +kernel
theorem d_Y_readsAct_23 : decode (mCd M_Y_readsAct) 23 = .ok (.iconst 1, 1) := by decide +kernel
theorem d_Y_readsAct_24 : decode (mCd M_Y_readsAct) 24 = .ok (.iadd, 1) := by decide +kernel
theorem d_Y_readsAct_25 : decode (mCd M_Y_readsAct) 25 = .ok (.putfield 398, 3) := by decide +kernel
theorem d_Y_readsAct_28 : decode (mCd M_Y_readsAct) 28 = .ok (.aload_n 0, 1) := by decide +kernel
theorem d_Y_readsAct_29 : decode (mCd M_Y_readsAct) 29 = .ok (.getfield 87, 3) := by decide +kernel
theorem d_Y_readsAct_32 : decode (mCd M_Y_readsAct) 32 = .ok (.iload_n 1, 1) := by decide +kernel
theorem d_Y_readsAct_33 : decode (mCd M_Y_readsAct) 33 = .ok (.iaload, 1) := by decide +kernel
theorem d_Y_readsAct_34 : decode (mCd M_Y_readsAct) 34 = .ok (.ifCond .ge 5, 3) := by decide +kernel
theorem d_Y_readsAct_37 : decode (mCd M_Y_readsAct) 37 = .ok (.iconst 0, 1) := by decide +kernel
theorem d_Y_readsAct_38 : decode (mCd M_Y_readsAct) 38 = .ok (.ireturn, 1) := by decide +kernel
theorem d_Y_readsAct_39 : decode (mCd M_Y_readsAct) 39 = .ok (.aload_n 0, 1) := by decide +kernel
theorem d_Y_readsAct_40 : decode (mCd M_Y_readsAct) 40 = .ok (.getfield 90, 3) := by decide +kernel
theorem d_Y_readsAct_43 : decode (mCd M_Y_readsAct) 43 = .ok (.iload_n 1, 1) := by decide +kernel
theorem d_Y_readsAct_44 : decode (mCd M_Y_readsAct) 44 = .ok (.aload_n 0, 1) := by decide +kernel
theorem d_Y_readsAct_45 : decode (mCd M_Y_readsAct) 45 = .ok (.aload_n 0, 1) := by decide +kernel
theorem d_Y_readsAct_46 : decode (mCd M_Y_readsAct) 46 = .ok (.getfield 87, 3) := by decide +kernel
theorem d_Y_readsAct_49 : decode (mCd M_Y_readsAct) 49 = .ok (.iload_n 1, 1) := by decide +kernel
theorem d_Y_readsAct_50 : decode (mCd M_Y_readsAct) 50 = .ok (.iaload, 1) := by decide +kernel
theorem d_Y_readsAct_51 : decode (mCd M_Y_readsAct) 51 = .ok (.iconst 3, 1) := by decide +kernel
theorem d_Y_readsAct_52 : decode (mCd M_Y_readsAct) 52 = .ok (.if_icmp .ne 7, 3) := by decide +kernel
theorem d_Y_readsAct_55 : decode (mCd M_Y_readsAct) 55 = .ok (.iconst 1, 1) := by decide +kernel
theorem d_Y_readsAct_56 : decode (mCd M_Y_readsAct) 56 = .ok (.goto 4, 3) := by decide +kernel
theorem d_Y_readsAct_59 : decode (mCd M_Y_readsAct) 59 = .ok (.iconst 0, 1) := by decide +kernel
theorem d_Y_readsAct_60 : decode (mCd M_Y_readsAct) 60 = .ok (.invokestatic 171, 3) := by decide +kernel
theorem d_Y_readsAct_63 : decode (mCd M_Y_readsAct) 63 = .ok (.bipush 9, 2) := by decide +kernel
theorem d_Y_readsAct_65 : decode (mCd M_Y_readsAct) 65 = .ok (.invokevirtual 195, 3) := by decide +kernel
theorem d_Y_readsAct_68 : decode (mCd M_Y_readsAct) 68 = .ok (.iastore, 1) := by decide +kernel
theorem d_Y_readsAct_69 : decode (mCd M_Y_readsAct) 69 = .ok (.aload_n 0, 1) := by decide +kernel
theorem d_Y_readsAct_70 : decode (mCd M_Y_readsAct) 70 = .ok (.getfield 90, 3) := by decide +kernel
theorem d_Y_readsAct_73 : decode (mCd M_Y_readsAct) 73 = .ok (.iload_n 1, 1) := by decide +kernel
theorem d_Y_readsAct_74 : decode (mCd M_Y_readsAct) 74 = .ok (.iaload, 1) := by decide +kernel
theorem d_Y_readsAct_75 : decode (mCd M_Y_readsAct) 75 = .ok (.ifCond .lt 13, 3) := by decide +kernel
theorem d_Y_readsAct_78 : decode (mCd M_Y_readsAct) 78 = .ok (.aload_n 0, 1) := by decide +kernel
theorem d_Y_readsAct_79 : decode (mCd M_Y_readsAct) 79 = .ok (.getfield 87, 3) := by decide +kernel
theorem d_Y_readsAct_82 : decode (mCd M_Y_readsAct) 82 = .ok (.iload_n 1, 1) := by decide +kernel
theorem d_Y_readsAct_83 : decode (mCd M_Y_readsAct) 83 = .ok (.iaload, 1) := by decide +kernel
theorem d_Y_readsAct_84 : decode (mCd M_Y_readsAct) 84 = .ok (.iconst 4, 1) := by decide +kernel
theorem d_Y_readsAct_85 : decode (mCd M_Y_readsAct) 85 = .ok (.if_icmp .ge 18, 3) := by decide +kernel
theorem d_Y_readsAct_88 : decode (mCd M_Y_readsAct) 88 = .ok (.aload_n 0, 1) := by decide +kernel
theorem d_Y_readsAct_89 : decode (mCd M_Y_readsAct) 89 = .ok (.getfield 90, 3) := by decide +kernel
theorem d_Y_readsAct_92 : decode (mCd M_Y_readsAct) 92 = .ok (.iload_n 1, 1) := by decide +kernel
theorem d_Y_readsAct_93 : decode (mCd M_Y_readsAct) 93 = .ok (.iaload, 1) := by decide +kernel
theorem d_Y_readsAct_94 : decode (mCd M_Y_readsAct) 94 = .ok (.ifCond .lt 7, 3) := by decide +kernel
theorem d_Y_readsAct_97 : decode (mCd M_Y_readsAct) 97 = .ok (.iconst 1, 1) := by decide +kernel
theorem d_Y_readsAct_98 : decode (mCd M_Y_readsAct) 98 = .ok (.goto 4, 3) := by decide +kernel
theorem d_Y_readsAct_101 : decode (mCd M_Y_readsAct) 101 = .ok (.iconst 0, 1) := by decide +kernel
theorem d_Y_readsAct_102 : decode (mCd M_Y_readsAct) 102 = .ok (.ireturn, 1) := by decide +kernel
theorem d_Y_readsAct_103 : decode (mCd M_Y_readsAct) 103 = .ok (.aload_n 0, 1) := by decide +kernel
theorem d_Y_readsAct_104 : decode (mCd M_Y_readsAct) 104 = .ok (.getfield 93, 3) := by decide +kernel
theorem d_Y_readsAct_107 : decode (mCd M_Y_readsAct) 107 = .ok (.iload_n 1, 1) := by decide +kernel
theorem d_Y_readsAct_108 : decode (mCd M_Y_readsAct) 108 = .ok (.aload_n 0, 1) := by decide +kernel
theorem d_Y_readsAct_109 : decode (mCd M_Y_readsAct) 109 = .ok (.iconst 1, 1) := by decide +kernel
theorem d_Y_readsAct_110 : decode (mCd M_Y_readsAct) 110 = .ok (.invokevirtual 233, 3) := by decide +kernel
theorem d_Y_readsAct_113 : decode (mCd M_Y_readsAct) 113 = .ok (.iastore, 1) := by decide +kernel
theorem d_Y_readsAct_114 : decode (mCd M_Y_readsAct) 114 = .ok (.aload_n 0, 1) := by decide +kernel
theorem d_Y_readsAct_115 : decode (mCd M_Y_readsAct) 115 = .ok (.getfield 96, 3) := by decide +kernel
theorem d_Y_readsAct_118 : decode (mCd M_Y_readsAct) 118 = .ok (.iload_n 1, 1) := by decide +kernel
theorem d_Y_readsAct_119 : decode (mCd M_Y_readsAct) 119 = .ok (.aload_n 0, 1) := by decide +kernel
theorem d_Y_readsAct_120 : decode (mCd M_Y_readsAct) 120 = .ok (.getfield 93, 3) := by decide +kernel
theorem d_Y_readsAct_123 : decode (mCd M_Y_readsAct) 123 = .ok (.iload_n 1, 1) := by decide +kernel
theorem d_Y_readsAct_124 : decode (mCd M_Y_readsAct) 124 = .ok (.iaload, 1) := by decide +kernel
theorem d_Y_readsAct_125 : decode (mCd M_Y_readsAct) 125 = .ok (.ifCond .ge 7, 3) := by decide +kernel
theorem d_Y_readsAct_128 : decode (mCd M_Y_readsAct) 128 = .ok (.iconst (-1), 1) := by decide +kernel
theorem d_Y_readsAct_129 : decode (mCd M_Y_readsAct) 129 = .ok (.goto 8, 3) := by decide +kernel
theorem d_Y_readsAct_132 : decode (mCd M_Y_readsAct) 132 = .ok (.aload_n 0, 1) := by decide +kernel
theorem d_Y_readsAct_133 : decode (mCd M_Y_readsAct) 133 = .ok (.iconst 1, 1) := by decide +kernel
theorem d_Y_readsAct_134 : decode (mCd M_Y_readsAct) 134 = .ok (.invokevirtual 233, 3) := by decide +kernel
theorem d_Y_readsAct_137 : decode (mCd M_Y_readsAct) 137 = .ok (.iastore, 1) := by decide +kernel
theorem d_Y_readsAct_138 : decode (mCd M_Y_readsAct) 138 = .ok (.aload_n 0, 1) := by decide +kernel
theorem d_Y_readsAct_139 : decode (mCd M_Y_readsAct) 139 = .ok (.getfield 99, 3) := by decide +kernel
theorem d_Y_readsAct_142 : decode (mCd M_Y_readsAct) 142 = .ok (.iload_n 1, 1) := by decide +kernel
theorem d_Y_readsAct_143 : decode (mCd M_Y_readsAct) 143 = .ok (.aload_n 0, 1) := by decide +kernel
theorem d_Y_readsAct_144 : decode (mCd M_Y_readsAct) 144 = .ok (.getfield 96, 3) := by decide +kernel
theorem d_Y_readsAct_147 : decode (mCd M_Y_readsAct) 147 = .ok (.iload_n 1, 1) := by decide +kernel
theorem d_Y_readsAct_148 : decode (mCd M_Y_readsAct) 148 = .ok (.iaload, 1) := by decide +kernel
theorem d_Y_readsAct_149 : decode (mCd M_Y_readsAct) 149 = .ok (.ifCond .ge 7, 3) := by decide +kernel
theorem d_Y_readsAct_152 : decode (mCd M_Y_readsAct) 152 = .ok (.iconst (-1), 1) := by decide +kernel
theorem d_Y_readsAct_153 : decode (mCd M_Y_readsAct) 153 = .ok (.goto 8, 3) := by decide +kernel
theorem d_Y_readsAct_156 : decode (mCd M_Y_readsAct) 156 = .ok (.aload_n 0, 1) := by decide +kernel
theorem d_Y_readsAct_157 : decode (mCd M_Y_readsAct) 157 = .ok (.iconst 1, 1) := by decide +kernel
theorem d_Y_readsAct_158 : decode (mCd M_Y_readsAct) 158 = .ok (.invokevirtual 233, 3) := by decide +kernel
theorem d_Y_readsAct_161 : decode (mCd M_Y_readsAct) 161 = .ok (.iastore, 1) := by decide +kernel
theorem d_Y_readsAct_162 : decode (mCd M_Y_readsAct) 162 = .ok (.aload_n 0, 1) := by decide +kernel
theorem d_Y_readsAct_163 : decode (mCd M_Y_readsAct) 163 = .ok (.getfield 99, 3) := by decide +kernel
theorem d_Y_readsAct_166 : decode (mCd M_Y_readsAct) 166 = .ok (.iload_n 1, 1) := by decide +kernel
theorem d_Y_readsAct_167 : decode (mCd M_Y_readsAct) 167 = .ok (.iaload, 1) := by decide +kernel
theorem d_Y_readsAct_168 : decode (mCd M_Y_readsAct) 168 = .ok (.ifCond .lt 7, 3) := by decide +kernel
theorem d_Y_readsAct_171 : decode (mCd M_Y_readsAct) 171 = .ok (.iconst 1, 1) := by decide +kernel
theorem d_Y_readsAct_172 : decode (mCd M_Y_readsAct) 172 = .ok (.goto 4, 3) := by decide +kernel
theorem d_Y_readsAct_175 : decode (mCd M_Y_readsAct) 175 = .ok (.iconst 0, 1) := by decide +kernel
theorem d_Y_readsAct_176 : decode (mCd M_Y_readsAct) 176 = .ok (.ireturn, 1) := by decide +kernel
theorem d_Y_does_0 : decode (mCd M_Y_does) 0 = .ok (.aload_n 0, 1) := by decide +kernel
theorem d_Y_does_1 : decode (mCd M_Y_does) 1 = .ok (.getfield 90, 3) := by decide +kernel
theorem d_Y_does_4 : decode (mCd M_Y_does) 4 = .ok (.iload_n 1, 1) := by decide +kernel
theorem d_Y_does_5 : decode (mCd M_Y_does) 5 = .ok (.iaload, 1) := by decide +kernel
theorem d_Y_does_6 : decode (mCd M_Y_does) 6 = .ok (.istore_n 2, 1) := by decide +kernel
theorem d_Y_does_7 : decode (mCd M_Y_does) 7 = .ok (.aload_n 0, 1) := by decide +kernel
theorem d_Y_does_8 : decode (mCd M_Y_does) 8 = .ok (.getfield 87, 3) := by decide +kernel
theorem d_Y_does_11 : decode (mCd M_Y_does) 11 = .ok (.iload_n 1, 1) := by decide +kernel
theorem d_Y_does_12 : decode (mCd M_Y_does) 12 = .ok (.iaload, 1) := by decide +kernel
theorem d_Y_does_13 : decode (mCd M_Y_does) 13 = .ok (.tableswitch 100 0 3 #[31, 54, 68, 86], 31) := by decide +kernel
theorem d_Y_does_44 : decode (mCd M_Y_does) 44 = .ok (.iconst 0, 1) := by decide +kernel
theorem d_Y_does_45 : decode (mCd M_Y_does) 45 = .ok (.istore_n 3, 1) := by decide +kernel
theorem d_Y_does_46 : decode (mCd M_Y_does) 46 = .ok (.iload_n 3, 1) := by decide +kernel
theorem d_Y_does_47 : decode (mCd M_Y_does) 47 = .ok (.iload_n 2, 1) := by decide +kernel
theorem d_Y_does_48 : decode (mCd M_Y_does) 48 = .ok (.if_icmp .ge 17, 3) := by decide +kernel
theorem d_Y_does_51 : decode (mCd M_Y_does) 51 = .ok (.aload_n 0, 1) := by decide +kernel
theorem d_Y_does_52 : decode (mCd M_Y_does) 52 = .ok (.aload_n 0, 1) := by decide +kernel
theorem d_Y_does_53 : decode (mCd M_Y_does) 53 = .ok (.getfield 51, 3) := by decide +kernel
theorem d_Y_does_56 : decode (mCd M_Y_does) 56 = .ok (.invokevirtual 362, 3) := by decide +kernel
theorem d_Y_does_59 : decode (mCd M_Y_does) 59 = .ok (.iinc 3 1, 3) := by decide +kernel
theorem d_Y_does_62 : decode (mCd M_Y_does) 62 = .ok (.goto (-16), 3) := by decide +kernel
theorem d_Y_does_65 : decode (mCd M_Y_does) 65 = .ok (.iconst 1, 1) := by decide +kernel
theorem d_Y_does_66 : decode (mCd M_Y_does) 66 = .ok (.ireturn, 1) := by decide +kernel
theorem d_Y_does_67 : decode (mCd M_Y_does) 67 = .ok (.aload_n 0, 1) := by decide +kernel
theorem d_Y_does_68 : decode (mCd M_Y_does) 68 = .ok (.iload_n 2, 1) := by decide +kernel
theorem d_Y_does_69 : decode (mCd M_Y_does) 69 = .ok (.invokevirtual 389, 3) := by decide +kernel
theorem d_Y_does_72 : decode (mCd M_Y_does) 72 = .ok (.ifCond .lt 7, 3) := by decide +kernel
theorem d_Y_does_75 : decode (mCd M_Y_does) 75 = .ok (.iconst 1, 1) := by decide +kernel
theorem d_Y_does_76 : decode (mCd M_Y_does) 76 = .ok (.goto 4, 3) := by decide +kernel
theorem d_Y_does_79 : decode (mCd M_Y_does) 79 = .ok (.iconst 0, 1) := by decide +kernel
theorem d_Y_does_80 : decode (mCd M_Y_does) 80 = .ok (.ireturn, 1) := by decide +kernel
theorem d_Y_does_81 : decode (mCd M_Y_does) 81 = .ok (.aload_n 0, 1) := by decide +kernel
theorem d_Y_does_82 : decode (mCd M_Y_does) 82 = .ok (.aload_n 0, 1) := by decide +kernel
theorem d_Y_does_83 : decode (mCd M_Y_does) 83 = .ok (.getfield 51, 3) := by decide +kernel
theorem d_Y_does_86 : decode (mCd M_Y_does) 86 = .ok (.iload_n 2, 1) := by decide +kernel
theorem d_Y_does_87 : decode (mCd M_Y_does) 87 = .ok (.invokevirtual 392, 3) := by decide +kernel
theorem d_Y_does_90 : decode (mCd M_Y_does) 90 = .ok (.ifCond .lt 7, 3) := by decide +kernel
theorem d_Y_does_93 : decode (mCd M_Y_does) 93 = .ok (.iconst 1, 1) := by decide +kernel
theorem d_Y_does_94 : decode (mCd M_Y_does) 94 = .ok (.goto 4, 3) := by decide +kernel
theorem d_Y_does_97 : decode (mCd M_Y_does) 97 = .ok (.iconst 0, 1) := by decide +kernel
theorem d_Y_does_98 : decode (mCd M_Y_does) 98 = .ok (.ireturn, 1) := by decide +kernel
theorem d_Y_does_99 : decode (mCd M_Y_does) 99 = .ok (.aload_n 0, 1) := by decide +kernel
theorem d_Y_does_100 : decode (mCd M_Y_does) 100 = .ok (.iload_n 2, 1) := by decide +kernel
theorem d_Y_does_101 : decode (mCd M_Y_does) 101 = .ok (.invokevirtual 395, 3) := by decide +kernel
theorem d_Y_does_104 : decode (mCd M_Y_does) 104 = .ok (.ifCond .lt 7, 3) := by decide +kernel
theorem d_Y_does_107 : decode (mCd M_Y_does) 107 = .ok (.iconst 1, 1) := by decide +kernel
theorem d_Y_does_108 : decode (mCd M_Y_does) 108 = .ok (.goto 4, 3) := by decide +kernel
theorem d_Y_does_111 : decode (mCd M_Y_does) 111 = .ok (.iconst 0, 1) := by decide +kernel
theorem d_Y_does_112 : decode (mCd M_Y_does) 112 = .ok (.ireturn, 1) := by decide +kernel
theorem d_Y_does_113 : decode (mCd M_Y_does) 113 = .ok (.aload_n 0, 1) := by decide +kernel
theorem d_Y_does_114 : decode (mCd M_Y_does) 114 = .ok (.getfield 93, 3) := by decide +kernel
theorem d_Y_does_117 : decode (mCd M_Y_does) 117 = .ok (.iload_n 1, 1) := by decide +kernel
theorem d_Y_does_118 : decode (mCd M_Y_does) 118 = .ok (.iaload, 1) := by decide +kernel
theorem d_Y_does_119 : decode (mCd M_Y_does) 119 = .ok (.aload_n 0, 1) := by decide +kernel
theorem d_Y_does_120 : decode (mCd M_Y_does) 120 = .ok (.getfield 28, 3) := by decide +kernel
theorem d_Y_does_123 : decode (mCd M_Y_does) 123 = .ok (.if_icmp .ge 20, 3) := by decide +kernel
theorem d_Y_does_126 : decode (mCd M_Y_does) 126 = .ok (.aload_n 0, 1) := by decide +kernel
theorem d_Y_does_127 : decode (mCd M_Y_does) 127 = .ok (.getfield 96, 3) := by decide +kernel
theorem d_Y_does_130 : decode (mCd M_Y_does) 130 = .ok (.iload_n 1, 1) := by decide +kernel
theorem d_Y_does_131 : decode (mCd M_Y_does) 131 = .ok (.iaload, 1) := by decide +kernel
theorem d_Y_does_132 : decode (mCd M_Y_does) 132 = .ok (.aload_n 0, 1) := by decide +kernel
theorem d_Y_does_133 : decode (mCd M_Y_does) 133 = .ok (.getfield 31, 3) := by decide +kernel
theorem d_Y_does_136 : decode (mCd M_Y_does) 136 = .ok (.if_icmp .ge 7, 3) := by decide +kernel
theorem d_Y_does_139 : decode (mCd M_Y_does) 139 = .ok (.iconst 1, 1) := by decide +kernel
theorem d_Y_does_140 : decode (mCd M_Y_does) 140 = .ok (.goto 4, 3) := by decide +kernel
theorem d_Y_does_143 : decode (mCd M_Y_does) 143 = .ok (.iconst 0, 1) := by decide +kernel
theorem d_Y_does_144 : decode (mCd M_Y_does) 144 = .ok (.istore_n 3, 1) := by decide +kernel
theorem d_Y_does_145 : decode (mCd M_Y_does) 145 = .ok (.iload_n 3, 1) := by decide +kernel
theorem d_Y_does_146 : decode (mCd M_Y_does) 146 = .ok (.ifCond .eq 43, 3) := by decide +kernel
theorem d_Y_does_149 : decode (mCd M_Y_does) 149 = .ok (.aload_n 0, 1) := by decide +kernel
theorem d_Y_does_150 : decode (mCd M_Y_does) 150 = .ok (.aload_n 0, 1) := by decide +kernel
theorem d_Y_does_151 : decode (mCd M_Y_does) 151 = .ok (.getfield 51, 3) := by decide +kernel
theorem d_Y_does_154 : decode (mCd M_Y_does) 154 = .ok (.iload_n 2, 1) := by decide +kernel
theorem d_Y_does_155 : decode (mCd M_Y_does) 155 = .ok (.aload_n 0, 1) := by decide +kernel
theorem d_Y_does_156 : decode (mCd M_Y_does) 156 = .ok (.getfield 31, 3) := by decide +kernel
theorem d_Y_does_159 : decode (mCd M_Y_does) 159 = .ok (.aload_n 0, 1) := by decide +kernel
theorem d_Y_does_160 : decode (mCd M_Y_does) 160 = .ok (.getfield 93, 3) := by decide +kernel
theorem d_Y_does_163 : decode (mCd M_Y_does) 163 = .ok (.iload_n 1, 1) := by decide +kernel
theorem d_Y_does_164 : decode (mCd M_Y_does) 164 = .ok (.iaload, 1) := by decide +kernel
theorem d_Y_does_165 : decode (mCd M_Y_does) 165 = .ok (.imul, 1) := by decide +kernel
theorem d_Y_does_166 : decode (mCd M_Y_does) 166 = .ok (.aload_n 0, 1) := by decide +kernel
theorem d_Y_does_167 : decode (mCd M_Y_does) 167 = .ok (.getfield 96, 3) := by decide +kernel
theorem d_Y_does_170 : decode (mCd M_Y_does) 170 = .ok (.iload_n 1, 1) := by decide +kernel
theorem d_Y_does_171 : decode (mCd M_Y_does) 171 = .ok (.iaload, 1) := by decide +kernel
theorem d_Y_does_172 : decode (mCd M_Y_does) 172 = .ok (.iadd, 1) := by decide +kernel
theorem d_Y_does_173 : decode (mCd M_Y_does) 173 = .ok (.aload_n 0, 1) := by decide +kernel
theorem d_Y_does_174 : decode (mCd M_Y_does) 174 = .ok (.getfield 99, 3) := by decide +kernel
theorem d_Y_does_177 : decode (mCd M_Y_does) 177 = .ok (.iload_n 1, 1) := by decide +kernel
theorem d_Y_does_178 : decode (mCd M_Y_does) 178 = .ok (.iaload, 1) := by decide +kernel
theorem d_Y_does_179 : decode (mCd M_Y_does) 179 = .ok (.invokevirtual 382, 3) := by decide +kernel
theorem d_Y_does_182 : decode (mCd M_Y_does) 182 = .ok (.ifCond .lt 7, 3) := by decide +kernel
theorem d_Y_does_185 : decode (mCd M_Y_does) 185 = .ok (.iconst 1, 1) := by decide +kernel
theorem d_Y_does_186 : decode (mCd M_Y_does) 186 = .ok (.goto 4, 3) := by decide +kernel
theorem d_Y_does_189 : decode (mCd M_Y_does) 189 = .ok (.iconst 0, 1) := by decide +kernel
theorem d_Y_does_190 : decode (mCd M_Y_does) 190 = .ok (.ireturn, 1) := by decide +kernel
theorem d_Y_day_0 : decode (mCd M_Y_day) 0 = .ok (.aload_n 0, 1) := by decide +kernel
theorem d_Y_day_1 : decode (mCd M_Y_day) 1 = .ok (.iconst 0, 1) := by decide +kernel
theorem d_Y_day_2 : decode (mCd M_Y_day) 2 = .ok (.putfield 3, 3) := by decide +kernel
theorem d_Y_day_5 : decode (mCd M_Y_day) 5 = .ok (.aload_n 0, 1) := by decide +kernel
theorem d_Y_day_6 : decode (mCd M_Y_day) 6 = .ok (.bipush 60, 2) := by decide +kernel
theorem d_Y_day_8 : decode (mCd M_Y_day) 8 = .ok (.invokevirtual 192, 3) := by decide +kernel
theorem d_Y_day_11 : decode (mCd M_Y_day) 11 = .ok (.istore_n 1, 1) := by decide +kernel
theorem d_Y_day_12 : decode (mCd M_Y_day) 12 = .ok (.aload_n 0, 1) := by decide +kernel
theorem d_Y_day_13 : decode (mCd M_Y_day) 13 = .ok (.iconst 0, 1) := by decide +kernel
theorem d_Y_day_14 : decode (mCd M_Y_day) 14 = .ok (.putfield 398, 3) := by decide +kernel
theorem d_Y_day_17 : decode (mCd M_Y_day) 17 = .ok (.iconst 1, 1) := by decide +kernel
theorem d_Y_day_18 : decode (mCd M_Y_day) 18 = .ok (.istore_n 2, 1) := by decide +kernel
theorem d_Y_day_19 : decode (mCd M_Y_day) 19 = .ok (.iload_n 2, 1) := by decide +kernel
theorem d_Y_day_20 : decode (mCd M_Y_day) 20 = .ok (.ifCond .eq 22, 3) := by decide +kernel
theorem d_Y_day_23 : decode (mCd M_Y_day) 23 = .ok (.aload_n 0, 1) := by decide +kernel
theorem d_Y_day_24 : decode (mCd M_Y_day) 24 = .ok (.getfield 158, 3) := by decide +kernel
theorem d_Y_day_27 : decode (mCd M_Y_day) 27 = .ok (.aload_n 0, 1) := by decide +kernel
theorem d_Y_day_28 : decode (mCd M_Y_day) 28 = .ok (.getfield 168, 3) := by decide +kernel
theorem d_Y_day_31 : decode (mCd M_Y_day) 31 = .ok (.if_icmp .ge 11, 3) := by decide +kernel
theorem d_Y_day_34 : decode (mCd M_Y_day) 34 = .ok (.aload_n 0, 1) := by decide +kernel
theorem d_Y_day_35 : decode (mCd M_Y_day) 35 = .ok (.invokevirtual 403, 3) := by decide +kernel
theorem d_Y_day_38 : decode (mCd M_Y_day) 38 = .ok (.istore_n 2, 1) := by decide +kernel
theorem d_Y_day_39 : decode (mCd M_Y_day) 39 = .ok (.goto (-20), 3) := by decide +kernel
theorem d_Y_day_42 : decode (mCd M_Y_day) 42 = .ok (.aload_n 0, 1) := by decide +kernel
theorem d_Y_day_43 : decode (mCd M_Y_day) 43 = .ok (.iload_n 1, 1) := by decide +kernel
theorem d_Y_day_44 : decode (mCd M_Y_day) 44 = .ok (.bipush 60, 2) := by decide +kernel
theorem d_Y_day_46 : decode (mCd M_Y_day) 46 = .ok (.iload_n 2, 1) := by decide +kernel
theorem d_Y_day_47 : decode (mCd M_Y_day) 47 = .ok (.invokevirtual 225, 3) := by decide +kernel
theorem d_Y_day_50 : decode (mCd M_Y_day) 50 = .ok (.istore_n 3, 1) := by decide +kernel
theorem d_Y_day_51 : decode (mCd M_Y_day) 51 = .ok (.iload_n 3, 1) := by decide +kernel
theorem d_Y_day_52 : decode (mCd M_Y_day) 52 = .ok (.ifCond .ge 5, 3) := by decide +kernel
theorem d_Y_day_55 : decode (mCd M_Y_day) 55 = .ok (.iload_n 3, 1) := by decide +kernel
theorem d_Y_day_56 : decode (mCd M_Y_day) 56 = .ok (.ireturn, 1) := by decide +kernel
theorem d_Y_day_57 : decode (mCd M_Y_day) 57 = .ok (.aload_n 0, 1) := by decide +kernel
theorem d_Y_day_58 : decode (mCd M_Y_day) 58 = .ok (.invokevirtual 239, 3) := by decide +kernel
theorem d_Y_day_61 : decode (mCd M_Y_day) 61 = .ok (.iconst 0, 1) := by decide +kernel
theorem d_Y_day_62 : decode (mCd M_Y_day) 62 = .ok (.istore 4, 2) := by decide +kernel
theorem d_Y_day_64 : decode (mCd M_Y_day) 64 = .ok (.iload 4, 2) := by decide +kernel
theorem d_Y_day_66 : decode (mCd M_Y_day) 66 = .ok (.aload_n 0, 1) := by decide +kernel
theorem d_Y_day_67 : decode (mCd M_Y_day) 67 = .ok (.getfield 398, 3) := by decide +kernel
theorem d_Y_day_70 : decode (mCd M_Y_day) 70 = .ok (.if_icmp .ge 18, 3) := by decide +kernel
theorem d_Y_day_73 : decode (mCd M_Y_day) 73 = .ok (.aload_n 0, 1) := by decide +kernel
theorem d_Y_day_74 : decode (mCd M_Y_day) 74 = .ok (.iload 4, 2) := by decide +kernel
theorem d_Y_day_76 : decode (mCd M_Y_day) 76 = .ok (.invokevirtual 406, 3) := by decide +kernel
theorem d_Y_day_79 : decode (mCd M_Y_day) 79 = .ok (.ifCond .eq 9, 3) := by decide +kernel
theorem d_Y_day_82 : decode (mCd M_Y_day) 82 = .ok (.iinc 4 1, 3) := by decide +kernel
theorem d_Y_day_85 : decode (mCd M_Y_day) 85 = .ok (.goto (-21), 3) := by decide +kernel
theorem d_Y_day_88 : decode (mCd M_Y_day) 88 = .ok (.aload_n 0, 1) := by decide +kernel
theorem d_Y_day_89 : decode (mCd M_Y_day) 89 = .ok (.iconst 0, 1) := by decide +kernel
theorem d_Y_day_90 : decode (mCd M_Y_day) 90 = .ok (.putfield 15, 3) := by decide +kernel
theorem d_Y_day_93 : decode (mCd M_Y_day) 93 = .ok (.aload_n 0, 1) := by decide +kernel
theorem d_Y_day_94 : decode (mCd M_Y_day) 94 = .ok (.iload 4, 2) := by decide +kernel
theorem d_Y_day_96 : decode (mCd M_Y_day) 96 = .ok (.aload_n 0, 1) := by decide +kernel
theorem d_Y_day_97 : decode (mCd M_Y_day) 97 = .ok (.getfield 398, 3) := by decide +kernel
theorem d_Y_day_100 : decode (mCd M_Y_day) 100 = .ok (.if_icmp .ge 7, 3) := by decide +kernel
theorem d_Y_day_103 : decode (mCd M_Y_day) 103 = .ok (.iconst 1, 1) := by decide +kernel
theorem d_Y_day_104 : decode (mCd M_Y_day) 104 = .ok (.goto 4, 3) := by decide +kernel
theorem d_Y_day_107 : decode (mCd M_Y_day) 107 = .ok (.iconst 0, 1) := by decide +kernel
theorem d_Y_day_108 : decode (mCd M_Y_day) 108 = .ok (.invokestatic 171, 3) := by decide +kernel
theorem d_Y_day_111 : decode (mCd M_Y_day) 111 = .ok (.i2l, 1) := by decide +kernel
theorem d_Y_day_112 : decode (mCd M_Y_day) 112 = .ok (.invokevirtual 18, 3) := by decide +kernel
theorem d_Y_day_115 : decode (mCd M_Y_day) 115 = .ok (.aload_n 0, 1) := by decide +kernel
theorem d_Y_day_116 : decode (mCd M_Y_day) 116 = .ok (.aload_n 0, 1) := by decide +kernel
theorem d_Y_day_117 : decode (mCd M_Y_day) 117 = .ok (.getfield 51, 3) := by decide +kernel
theorem d_Y_day_120 : decode (mCd M_Y_day) 120 = .ok (.iconst 0, 1) := by decide +kernel
theorem d_Y_day_121 : decode (mCd M_Y_day) 121 = .ok (.iaload, 1) := by decide +kernel
theorem d_Y_day_122 : decode (mCd M_Y_day) 122 = .ok (.i2l, 1) := by decide +kernel
theorem d_Y_day_123 : decode (mCd M_Y_day) 123 = .ok (.invokevirtual 18, 3) := by decide +kernel
theorem d_Y_day_126 : decode (mCd M_Y_day) 126 = .ok (.iload 4, 2) := by decide +kernel
theorem d_Y_day_128 : decode (mCd M_Y_day) 128 = .ok (.ifCond .le 12, 3) := by decide +kernel
theorem d_Y_day_131 : decode (mCd M_Y_day) 131 = .ok (.aload_n 0, 1) := by decide +kernel
theorem d_Y_day_132 : decode (mCd M_Y_day) 132 = .ok (.iload 4, 2) := by decide +kernel
theorem d_Y_day_134 : decode (mCd M_Y_day) 134 = .ok (.invokevirtual 242, 3) := by decide +kernel
theorem d_Y_day_137 : decode (mCd M_Y_day) 137 = .ok (.goto 4, 3) := by decide +kernel
theorem d_Y_day_140 : decode (mCd M_Y_day) 140 = .ok (.iconst 0, 1) := by decide +kernel
theorem d_Y_day_141 : decode (mCd M_Y_day) 141 = .ok (.ireturn, 1) := by decide +kernel
theorem d_Y_copies_0 : decode (mCd M_Y_copies) 0 = .ok (.iconst 0, 1) := by decide +kernel
theorem d_Y_copies_1 : decode (mCd M_Y_copies) 1 = .ok (.istore_n 1, 1) := by decide +kernel
theorem d_Y_copies_2 : decode (mCd M_Y_copies) 2 = .ok (.iload_n 1, 1) := by decide +kernel
theorem d_Y_copies_3 : decode (mCd M_Y_copies) 3 = .ok (.bipush 38, 2) := by decide +kernel
theorem d_Y_copies_5 : decode (mCd M_Y_copies) 5 = .ok (.if_icmp .ge 21, 3) := by decide +kernel
theorem d_Y_copies_8 : decode (mCd M_Y_copies) 8 = .ok (.aload_n 0, 1) := by decide +kernel
theorem d_Y_copies_9 : decode (mCd M_Y_copies) 9 = .ok (.getfield 54, 3) := by decide +kernel
theorem d_Y_copies_12 : decode (mCd M_Y_copies) 12 = .ok (.iload_n 1, 1) := by decide +kernel
theorem d_Y_copies_13 : decode (mCd M_Y_copies) 13 = .ok (.aload_n 0, 1) := by decide +kernel
theorem d_Y_copies_14 : decode (mCd M_Y_copies) 14 = .ok (.getfield 51, 3) := by decide +kernel
theorem d_Y_copies_17 : decode (mCd M_Y_copies) 17 = .ok (.iload_n 1, 1) := by decide +kernel
theorem d_Y_copies_18 : decode (mCd M_Y_copies) 18 = .ok (.iaload, 1) := by decide +kernel
theorem d_Y_copies_19 : decode (mCd M_Y_copies) 19 = .ok (.iastore, 1) := by decide +kernel
theorem d_Y_copies_20 : decode (mCd M_Y_copies) 20 = .ok (.iinc 1 1, 3) := by decide +kernel
theorem d_Y_copies_23 : decode (mCd M_Y_copies) 23 = .ok (.goto (-21), 3) := by decide +kernel
theorem d_Y_copies_26 : decode (mCd M_Y_copies) 26 = .ok (.return_, 1) := by decide +kernel
theorem d_Y_towed_0 : decode (mCd M_Y_towed) 0 = .ok (.aload_n 0, 1) := by decide +kernel
theorem d_Y_towed_1 : decode (mCd M_Y_towed) 1 = .ok (.iconst 0, 1) := by decide +kernel
theorem d_Y_towed_2 : decode (mCd M_Y_towed) 2 = .ok (.putfield 3, 3) := by decide +kernel
theorem d_Y_towed_5 : decode (mCd M_Y_towed) 5 = .ok (.aload_n 0, 1) := by decide +kernel
theorem d_Y_towed_6 : decode (mCd M_Y_towed) 6 = .ok (.aload_n 0, 1) := by decide +kernel
theorem d_Y_towed_7 : decode (mCd M_Y_towed) 7 = .ok (.getfield 51, 3) := by decide +kernel
theorem d_Y_towed_10 : decode (mCd M_Y_towed) 10 = .ok (.invokevirtual 352, 3) := by decide +kernel
theorem d_Y_towed_13 : decode (mCd M_Y_towed) 13 = .ok (.istore_n 1, 1) := by decide +kernel
theorem d_Y_towed_14 : decode (mCd M_Y_towed) 14 = .ok (.aload_n 0, 1) := by decide +kernel
theorem d_Y_towed_15 : decode (mCd M_Y_towed) 15 = .ok (.iconst 0, 1) := by decide +kernel
theorem d_Y_towed_16 : decode (mCd M_Y_towed) 16 = .ok (.putfield 15, 3) := by decide +kernel
theorem d_Y_towed_19 : decode (mCd M_Y_towed) 19 = .ok (.iconst 0, 1) := by decide +kernel
theorem d_Y_towed_20 : decode (mCd M_Y_towed) 20 = .ok (.istore_n 2, 1) := by decide +kernel
theorem d_Y_towed_21 : decode (mCd M_Y_towed) 21 = .ok (.iload_n 2, 1) := by decide +kernel
theorem d_Y_towed_22 : decode (mCd M_Y_towed) 22 = .ok (.iconst 4, 1) := by decide +kernel
theorem d_Y_towed_23 : decode (mCd M_Y_towed) 23 = .ok (.if_icmp .ge 19, 3) := by decide +kernel
theorem d_Y_towed_26 : decode (mCd M_Y_towed) 26 = .ok (.aload_n 0, 1) := by decide +kernel
theorem d_Y_towed_27 : decode (mCd M_Y_towed) 27 = .ok (.aload_n 0, 1) := by decide +kernel
theorem d_Y_towed_28 : decode (mCd M_Y_towed) 28 = .ok (.iload_n 2, 1) := by decide +kernel
theorem d_Y_towed_29 : decode (mCd M_Y_towed) 29 = .ok (.invokevirtual 318, 3) := by decide +kernel
theorem d_Y_towed_32 : decode (mCd M_Y_towed) 32 = .ok (.i2l, 1) := by decide +kernel
theorem d_Y_towed_33 : decode (mCd M_Y_towed) 33 = .ok (.invokevirtual 18, 3) := by decide +kernel
theorem d_Y_towed_36 : decode (mCd M_Y_towed) 36 = .ok (.iinc 2 1, 3) := by decide +kernel
theorem d_Y_towed_39 : decode (mCd M_Y_towed) 39 = .ok (.goto (-18), 3) := by decide +kernel
theorem d_Y_towed_42 : decode (mCd M_Y_towed) 42 = .ok (.iload_n 1, 1) := by decide +kernel
theorem d_Y_towed_43 : decode (mCd M_Y_towed) 43 = .ok (.iconst 4, 1) := by decide +kernel
theorem d_Y_towed_44 : decode (mCd M_Y_towed) 44 = .ok (.if_icmp .ne 8, 3) := by decide +kernel
theorem d_Y_towed_47 : decode (mCd M_Y_towed) 47 = .ok (.bipush (-2), 2) := by decide +kernel
theorem d_Y_towed_49 : decode (mCd M_Y_towed) 49 = .ok (.goto 4, 3) := by decide +kernel
theorem d_Y_towed_52 : decode (mCd M_Y_towed) 52 = .ok (.iload_n 1, 1) := by decide +kernel
theorem d_Y_towed_53 : decode (mCd M_Y_towed) 53 = .ok (.ireturn, 1) := by decide +kernel
theorem d_Y_ahead_0 : decode (mCd M_Y_ahead) 0 = .ok (.aload_n 0, 1) := by decide +kernel
theorem d_Y_ahead_1 : decode (mCd M_Y_ahead) 1 = .ok (.iconst 0, 1) := by decide +kernel
theorem d_Y_ahead_2 : decode (mCd M_Y_ahead) 2 = .ok (.putfield 3, 3) := by decide +kernel
theorem d_Y_ahead_5 : decode (mCd M_Y_ahead) 5 = .ok (.iload_n 1, 1) := by decide +kernel
theorem d_Y_ahead_6 : decode (mCd M_Y_ahead) 6 = .ok (.i2l, 1) := by decide +kernel
theorem d_Y_ahead_7 : decode (mCd M_Y_ahead) 7 = .ok (.lconst 0, 1) := by decide +kernel
theorem d_Y_ahead_8 : decode (mCd M_Y_ahead) 8 = .ok (.ldc2_w 375, 3) := by decide +kernel
theorem d_Y_ahead_11 : decode (mCd M_Y_ahead) 11 = .ok (.invokestatic 142, 3) := by decide +kernel
theorem d_Y_ahead_14 : decode (mCd M_Y_ahead) 14 = .ok (.ifCond .ne 5, 3) := by decide +kernel
theorem d_Y_ahead_17 : decode (mCd M_Y_ahead) 17 = .ok (.iconst (-1), 1) := by decide +kernel
theorem d_Y_ahead_18 : decode (mCd M_Y_ahead) 18 = .ok (.ireturn, 1) := by decide +kernel
theorem d_Y_ahead_19 : decode (mCd M_Y_ahead) 19 = .ok (.aload_n 0, 1) := by decide +kernel
theorem d_Y_ahead_20 : decode (mCd M_Y_ahead) 20 = .ok (.invokevirtual 409, 3) := by decide +kernel
theorem d_Y_ahead_23 : decode (mCd M_Y_ahead) 23 = .ok (.aload_n 0, 1) := by decide +kernel
theorem d_Y_ahead_24 : decode (mCd M_Y_ahead) 24 = .ok (.aload_n 0, 1) := by decide +kernel
theorem d_Y_ahead_25 : decode (mCd M_Y_ahead) 25 = .ok (.getfield 54, 3) := by decide +kernel
theorem d_Y_ahead_28 : decode (mCd M_Y_ahead) 28 = .ok (.iload_n 1, 1) := by decide +kernel
theorem d_Y_ahead_29 : decode (mCd M_Y_ahead) 29 = .ok (.invokevirtual 379, 3) := by decide +kernel
theorem d_Y_ahead_32 : decode (mCd M_Y_ahead) 32 = .ok (.aload_n 0, 1) := by decide +kernel
theorem d_Y_ahead_33 : decode (mCd M_Y_ahead) 33 = .ok (.iconst 0, 1) := by decide +kernel
theorem d_Y_ahead_34 : decode (mCd M_Y_ahead) 34 = .ok (.putfield 15, 3) := by decide +kernel
theorem d_Y_ahead_37 : decode (mCd M_Y_ahead) 37 = .ok (.aload_n 0, 1) := by decide +kernel
theorem d_Y_ahead_38 : decode (mCd M_Y_ahead) 38 = .ok (.aload_n 0, 1) := by decide +kernel
theorem d_Y_ahead_39 : decode (mCd M_Y_ahead) 39 = .ok (.getfield 54, 3) := by decide +kernel
theorem d_Y_ahead_42 : decode (mCd M_Y_ahead) 42 = .ok (.bipush 34, 2) := by decide +kernel
theorem d_Y_ahead_44 : decode (mCd M_Y_ahead) 44 = .ok (.iaload, 1) := by decide +kernel
theorem d_Y_ahead_45 : decode (mCd M_Y_ahead) 45 = .ok (.i2l, 1) := by decide +kernel
theorem d_Y_ahead_46 : decode (mCd M_Y_ahead) 46 = .ok (.invokevirtual 18, 3) := by decide +kernel
theorem d_Y_ahead_49 : decode (mCd M_Y_ahead) 49 = .ok (.aload_n 0, 1) := by decide +kernel
theorem d_Y_ahead_50 : decode (mCd M_Y_ahead) 50 = .ok (.aload_n 0, 1) := by decide +kernel
theorem d_Y_ahead_51 : decode (mCd M_Y_ahead) 51 = .ok (.getfield 54, 3) := by decide +kernel
theorem d_Y_ahead_54 : decode (mCd M_Y_ahead) 54 = .ok (.bipush 35, 2) := by decide +kernel
theorem d_Y_ahead_56 : decode (mCd M_Y_ahead) 56 = .ok (.iaload, 1) := by decide +kernel
theorem d_Y_ahead_57 : decode (mCd M_Y_ahead) 57 = .ok (.i2l, 1) := by decide +kernel
theorem d_Y_ahead_58 : decode (mCd M_Y_ahead) 58 = .ok (.invokevirtual 18, 3) := by decide +kernel
theorem d_Y_ahead_61 : decode (mCd M_Y_ahead) 61 = .ok (.aload_n 0, 1) := by decide +kernel
theorem d_Y_ahead_62 : decode (mCd M_Y_ahead) 62 = .ok (.aload_n 0, 1) := by decide +kernel
theorem d_Y_ahead_63 : decode (mCd M_Y_ahead) 63 = .ok (.getfield 54, 3) := by decide +kernel
theorem d_Y_ahead_66 : decode (mCd M_Y_ahead) 66 = .ok (.bipush 36, 2) := by decide +kernel
theorem d_Y_ahead_68 : decode (mCd M_Y_ahead) 68 = .ok (.iaload, 1) := by decide +kernel
theorem d_Y_ahead_69 : decode (mCd M_Y_ahead) 69 = .ok (.i2l, 1) := by decide +kernel
theorem d_Y_ahead_70 : decode (mCd M_Y_ahead) 70 = .ok (.invokevirtual 18, 3) := by decide +kernel
theorem d_Y_ahead_73 : decode (mCd M_Y_ahead) 73 = .ok (.aload_n 0, 1) := by decide +kernel
theorem d_Y_ahead_74 : decode (mCd M_Y_ahead) 74 = .ok (.getfield 54, 3) := by decide +kernel
theorem d_Y_ahead_77 : decode (mCd M_Y_ahead) 77 = .ok (.iconst 0, 1) := by decide +kernel
theorem d_Y_ahead_78 : decode (mCd M_Y_ahead) 78 = .ok (.iaload, 1) := by decide +kernel
theorem d_Y_ahead_79 : decode (mCd M_Y_ahead) 79 = .ok (.ireturn, 1) := by decide +kernel
theorem d_Y_comesIn_0 : decode (mCd M_Y_comesIn) 0 = .ok (.iconst 0, 1) := by decide +kernel
theorem d_Y_comesIn_1 : decode (mCd M_Y_comesIn) 1 = .ok (.istore_n 3, 1) := by decide +kernel
theorem d_Y_comesIn_2 : decode (mCd M_Y_comesIn) 2 = .ok (.iload_n 3, 1) := by decide +kernel
theorem d_Y_comesIn_3 : decode (mCd M_Y_comesIn) 3 = .ok (.iload_n 2, 1) := by decide +kernel
theorem d_Y_comesIn_4 : decode (mCd M_Y_comesIn) 4 = .ok (.if_icmp .gt 29, 3) := by decide +kernel
theorem d_Y_comesIn_7 : decode (mCd M_Y_comesIn) 7 = .ok (.aload_n 0, 1) := by decide +kernel
theorem d_Y_comesIn_8 : decode (mCd M_Y_comesIn) 8 = .ok (.getfield 54, 3) := by decide +kernel
theorem d_Y_comesIn_11 : decode (mCd M_Y_comesIn) 11 = .ok (.iconst 0, 1) := by decide +kernel
theorem d_Y_comesIn_12 : decode (mCd M_Y_comesIn) 12 = .ok (.iaload, 1) := by decide +kernel
theorem d_Y_comesIn_13 : decode (mCd M_Y_comesIn) 13 = .ok (.iload_n 1, 1) := by decide +kernel
theorem d_Y_comesIn_14 : decode (mCd M_Y_comesIn) 14 = .ok (.if_icmp .ne 5, 3) := by decide +kernel
theorem d_Y_comesIn_17 : decode (mCd M_Y_comesIn) 17 = .ok (.iload_n 3, 1) := by decide +kernel
theorem d_Y_comesIn_18 : decode (mCd M_Y_comesIn) 18 = .ok (.ireturn, 1) := by decide +kernel
theorem d_Y_comesIn_19 : decode (mCd M_Y_comesIn) 19 = .ok (.aload_n 0, 1) := by decide +kernel
theorem d_Y_comesIn_20 : decode (mCd M_Y_comesIn) 20 = .ok (.aload_n 0, 1) := by decide +kernel
theorem d_Y_comesIn_21 : decode (mCd M_Y_comesIn) 21 = .ok (.getfield 54, 3) := by decide +kernel
theorem d_Y_comesIn_24 : decode (mCd M_Y_comesIn) 24 = .ok (.invokevirtual 362, 3) := by decide +kernel
theorem d_Y_comesIn_27 : decode (mCd M_Y_comesIn) 27 = .ok (.iinc 3 1, 3) := by decide +kernel
theorem d_Y_comesIn_30 : decode (mCd M_Y_comesIn) 30 = .ok (.goto (-28), 3) := by decide +kernel
theorem d_Y_comesIn_33 : decode (mCd M_Y_comesIn) 33 = .ok (.iconst (-1), 1) := by decide +kernel
theorem d_Y_comesIn_34 : decode (mCd M_Y_comesIn) 34 = .ok (.ireturn, 1) := by decide +kernel
theorem d_Y_comes_0 : decode (mCd M_Y_comes) 0 = .ok (.aload_n 0, 1) := by decide +kernel
theorem d_Y_comes_1 : decode (mCd M_Y_comes) 1 = .ok (.iconst 0, 1) := by decide +kernel
theorem d_Y_comes_2 : decode (mCd M_Y_comes) 2 = .ok (.putfield 3, 3) := by decide +kernel
theorem d_Y_comes_5 : decode (mCd M_Y_comes) 5 = .ok (.aload_n 0, 1) := by decide +kernel
theorem d_Y_comes_6 : decode (mCd M_Y_comes) 6 = .ok (.iload_n 1, 1) := by decide +kernel
theorem d_Y_comes_7 : decode (mCd M_Y_comes) 7 = .ok (.invokevirtual 339, 3) := by decide +kernel
theorem d_Y_comes_10 : decode (mCd M_Y_comes) 10 = .ok (.ifCond .ne 5, 3) := by decide +kernel
theorem d_Y_comes_13 : decode (mCd M_Y_comes) 13 = .ok (.iconst (-1), 1) := by decide +kernel
theorem d_Y_comes_14 : decode (mCd M_Y_comes) 14 = .ok (.ireturn, 1) := by decide +kernel
theorem d_Y_comes_15 : decode (mCd M_Y_comes) 15 = .ok (.aload_n 0, 1) := by decide +kernel
theorem d_Y_comes_16 : decode (mCd M_Y_comes) 16 = .ok (.invokevirtual 409, 3) := by decide +kernel
theorem d_Y_comes_19 : decode (mCd M_Y_comes) 19 = .ok (.aload_n 0, 1) := by decide +kernel
theorem d_Y_comes_20 : decode (mCd M_Y_comes) 20 = .ok (.iload_n 1, 1) := by decide +kernel
theorem d_Y_comes_21 : decode (mCd M_Y_comes) 21 = .ok (.bipush 99, 2) := by decide +kernel
theorem d_Y_comes_23 : decode (mCd M_Y_comes) 23 = .ok (.invokevirtual 412, 3) := by decide +kernel
theorem d_Y_comes_26 : decode (mCd M_Y_comes) 26 = .ok (.istore_n 2, 1) := by decide +kernel
theorem d_Y_comes_27 : decode (mCd M_Y_comes) 27 = .ok (.iload_n 2, 1) := by decide +kernel
theorem d_Y_comes_28 : decode (mCd M_Y_comes) 28 = .ok (.ifCond .ge 6, 3) := by decide +kernel
theorem d_Y_comes_31 : decode (mCd M_Y_comes) 31 = .ok (.bipush (-2), 2) := by decide +kernel
theorem d_Y_comes_33 : decode (mCd M_Y_comes) 33 = .ok (.ireturn, 1) := by decide +kernel
theorem d_Y_comes_34 : decode (mCd M_Y_comes) 34 = .ok (.aload_n 0, 1) := by decide +kernel
theorem d_Y_comes_35 : decode (mCd M_Y_comes) 35 = .ok (.iconst 0, 1) := by decide +kernel
theorem d_Y_comes_36 : decode (mCd M_Y_comes) 36 = .ok (.putfield 15, 3) := by decide +kernel
theorem d_Y_comes_39 : decode (mCd M_Y_comes) 39 = .ok (.aload_n 0, 1) := by decide +kernel
theorem d_Y_comes_40 : decode (mCd M_Y_comes) 40 = .ok (.aload_n 0, 1) := by decide +kernel
theorem d_Y_comes_41 : decode (mCd M_Y_comes) 41 = .ok (.getfield 54, 3) := by decide +kernel
theorem d_Y_comes_44 : decode (mCd M_Y_comes) 44 = .ok (.bipush 34, 2) := by decide +kernel
theorem d_Y_comes_46 : decode (mCd M_Y_comes) 46 = .ok (.iaload, 1) := by decide +kernel
theorem d_Y_comes_47 : decode (mCd M_Y_comes) 47 = .ok (.i2l, 1) := by decide +kernel
theorem d_Y_comes_48 : decode (mCd M_Y_comes) 48 = .ok (.invokevirtual 18, 3) := by decide +kernel
theorem d_Y_comes_51 : decode (mCd M_Y_comes) 51 = .ok (.iload_n 2, 1) := by decide +kernel
theorem d_Y_comes_52 : decode (mCd M_Y_comes) 52 = .ok (.ireturn, 1) := by decide +kernel
theorem d_Y_sticks_0 : decode (mCd M_Y_sticks) 0 = .ok (.aload_n 0, 1) := by decide +kernel
theorem d_Y_sticks_1 : decode (mCd M_Y_sticks) 1 = .ok (.iconst 0, 1) := by decide +kernel
theorem d_Y_sticks_2 : decode (mCd M_Y_sticks) 2 = .ok (.putfield 3, 3) := by decide +kernel
theorem d_Y_sticks_5 : decode (mCd M_Y_sticks) 5 = .ok (.aload_n 0, 1) := by decide +kernel
theorem d_Y_sticks_6 : decode (mCd M_Y_sticks) 6 = .ok (.invokevirtual 409, 3) := by decide +kernel
theorem d_Y_sticks_9 : decode (mCd M_Y_sticks) 9 = .ok (.iconst 0, 1) := by decide +kernel
theorem d_Y_sticks_10 : decode (mCd M_Y_sticks) 10 = .ok (.istore_n 1, 1) := by decide +kernel
theorem d_Y_sticks_11 : decode (mCd M_Y_sticks) 11 = .ok (.iload_n 1, 1) := by decide +kernel
theorem d_Y_sticks_12 : decode (mCd M_Y_sticks) 12 = .ok (.bipush 99, 2) := by decide +kernel
theorem d_Y_sticks_14 : decode (mCd M_Y_sticks) 14 = .ok (.if_icmp .gt 47, 3) := by decide +kernel
theorem d_Y_sticks_17 : decode (mCd M_Y_sticks) 17 = .ok (.aload_n 0, 1) := by decide +kernel
theorem d_Y_sticks_18 : decode (mCd M_Y_sticks) 18 = .ok (.aload_n 0, 1) := by decide +kernel
theorem d_Y_sticks_19 : decode (mCd M_Y_sticks) 19 = .ok (.getfield 54, 3) := by decide +kernel
theorem d_Y_sticks_22 : decode (mCd M_Y_sticks) 22 = .ok (.invokevirtual 352, 3) := by decide +kernel
theorem d_Y_sticks_25 : decode (mCd M_Y_sticks) 25 = .ok (.iconst 4, 1) := by decide +kernel
theorem d_Y_sticks_26 : decode (mCd M_Y_sticks) 26 = .ok (.if_icmp .ne 21, 3) := by decide +kernel
theorem d_Y_sticks_29 : decode (mCd M_Y_sticks) 29 = .ok (.aload_n 0, 1) := by decide +kernel
theorem d_Y_sticks_30 : decode (mCd M_Y_sticks) 30 = .ok (.iconst 0, 1) := by decide +kernel
theorem d_Y_sticks_31 : decode (mCd M_Y_sticks) 31 = .ok (.putfield 15, 3) := by decide +kernel
theorem d_Y_sticks_34 : decode (mCd M_Y_sticks) 34 = .ok (.aload_n 0, 1) := by decide +kernel
theorem d_Y_sticks_35 : decode (mCd M_Y_sticks) 35 = .ok (.aload_n 0, 1) := by decide +kernel
theorem d_Y_sticks_36 : decode (mCd M_Y_sticks) 36 = .ok (.getfield 54, 3) := by decide +kernel
theorem d_Y_sticks_39 : decode (mCd M_Y_sticks) 39 = .ok (.iconst 0, 1) := by decide +kernel
theorem d_Y_sticks_40 : decode (mCd M_Y_sticks) 40 = .ok (.iaload, 1) := by decide +kernel
theorem d_Y_sticks_41 : decode (mCd M_Y_sticks) 41 = .ok (.i2l, 1) := by decide +kernel
theorem d_Y_sticks_42 : decode (mCd M_Y_sticks) 42 = .ok (.invokevirtual 18, 3) := by decide +kernel
theorem d_Y_sticks_45 : decode (mCd M_Y_sticks) 45 = .ok (.iload_n 1, 1) := by decide +kernel
theorem d_Y_sticks_46 : decode (mCd M_Y_sticks) 46 = .ok (.ireturn, 1) := by decide +kernel
theorem d_Y_sticks_47 : decode (mCd M_Y_sticks) 47 = .ok (.aload_n 0, 1) := by decide +kernel
theorem d_Y_sticks_48 : decode (mCd M_Y_sticks) 48 = .ok (.aload_n 0, 1) := by decide +kernel
theorem d_Y_sticks_49 : decode (mCd M_Y_sticks) 49 = .ok (.getfield 54, 3) := by decide +kernel
theorem d_Y_sticks_52 : decode (mCd M_Y_sticks) 52 = .ok (.invokevirtual 362, 3) := by decide +kernel
theorem d_Y_sticks_55 : decode (mCd M_Y_sticks) 55 = .ok (.iinc 1 1, 3) := by decide +kernel
theorem d_Y_sticks_58 : decode (mCd M_Y_sticks) 58 = .ok (.goto (-47), 3) := by decide +kernel
theorem d_Y_sticks_61 : decode (mCd M_Y_sticks) 61 = .ok (.bipush (-2), 2) := by decide +kernel
theorem d_Y_sticks_63 : decode (mCd M_Y_sticks) 63 = .ok (.ireturn, 1) := by decide +kernel
theorem d_Y_track_0 : decode (mCd M_Y_track) 0 = .ok (.aload_n 0, 1) := by decide +kernel
theorem d_Y_track_1 : decode (mCd M_Y_track) 1 = .ok (.iconst 0, 1) := by decide +kernel
theorem d_Y_track_2 : decode (mCd M_Y_track) 2 = .ok (.putfield 3, 3) := by decide +kernel
theorem d_Y_track_5 : decode (mCd M_Y_track) 5 = .ok (.iload_n 1, 1) := by decide +kernel
theorem d_Y_track_6 : decode (mCd M_Y_track) 6 = .ok (.i2l, 1) := by decide +kernel
theorem d_Y_track_7 : decode (mCd M_Y_track) 7 = .ok (.lconst 1, 1) := by decide +kernel
theorem d_Y_track_8 : decode (mCd M_Y_track) 8 = .ok (.ldc2_w 375, 3) := by decide +kernel
theorem d_Y_track_11 : decode (mCd M_Y_track) 11 = .ok (.invokestatic 142, 3) := by decide +kernel
theorem d_Y_track_14 : decode (mCd M_Y_track) 14 = .ok (.ifCond .ne 7, 3) := by decide +kernel
theorem d_Y_track_17 : decode (mCd M_Y_track) 17 = .ok (.ldc2_w 415, 3) := by decide +kernel
theorem d_Y_track_20 : decode (mCd M_Y_track) 20 = .ok (.lreturn, 1) := by decide +kernel
theorem d_Y_track_21 : decode (mCd M_Y_track) 21 = .ok (.aload_n 0, 1) := by decide +kernel
theorem d_Y_track_22 : decode (mCd M_Y_track) 22 = .ok (.invokevirtual 409, 3) := by decide +kernel
theorem d_Y_track_25 : decode (mCd M_Y_track) 25 = .ok (.aload_n 0, 1) := by decide +kernel
theorem d_Y_track_26 : decode (mCd M_Y_track) 26 = .ok (.aload_n 0, 1) := by decide +kernel
theorem d_Y_track_27 : decode (mCd M_Y_track) 27 = .ok (.getfield 54, 3) := by decide +kernel
theorem d_Y_track_30 : decode (mCd M_Y_track) 30 = .ok (.iconst 0, 1) := by decide +kernel
theorem d_Y_track_31 : decode (mCd M_Y_track) 31 = .ok (.invokevirtual 379, 3) := by decide +kernel
theorem d_Y_track_34 : decode (mCd M_Y_track) 34 = .ok (.lconst 1, 1) := by decide +kernel
theorem d_Y_track_35 : decode (mCd M_Y_track) 35 = .ok (.aload_n 0, 1) := by decide +kernel
theorem d_Y_track_36 : decode (mCd M_Y_track) 36 = .ok (.getfield 54, 3) := by decide +kernel
theorem d_Y_track_39 : decode (mCd M_Y_track) 39 = .ok (.iconst 0, 1) := by decide +kernel
theorem d_Y_track_40 : decode (mCd M_Y_track) 40 = .ok (.iaload, 1) := by decide +kernel
theorem d_Y_track_41 : decode (mCd M_Y_track) 41 = .ok (.lshl, 1) := by decide +kernel
theorem d_Y_track_42 : decode (mCd M_Y_track) 42 = .ok (.lstore_n 2, 1) := by decide +kernel
theorem d_Y_track_43 : decode (mCd M_Y_track) 43 = .ok (.iconst 0, 1) := by decide +kernel
theorem d_Y_track_44 : decode (mCd M_Y_track) 44 = .ok (.istore 4, 2) := by decide +kernel
theorem d_Y_track_46 : decode (mCd M_Y_track) 46 = .ok (.iload 4, 2) := by decide +kernel
theorem d_Y_track_48 : decode (mCd M_Y_track) 48 = .ok (.iload_n 1, 1) := by decide +kernel
theorem d_Y_track_49 : decode (mCd M_Y_track) 49 = .ok (.if_icmp .ge 28, 3) := by decide +kernel
theorem d_Y_track_52 : decode (mCd M_Y_track) 52 = .ok (.aload_n 0, 1) := by decide +kernel
theorem d_Y_track_53 : decode (mCd M_Y_track) 53 = .ok (.aload_n 0, 1) := by decide +kernel
theorem d_Y_track_54 : decode (mCd M_Y_track) 54 = .ok (.getfield 54, 3) := by decide +kernel
theorem d_Y_track_57 : decode (mCd M_Y_track) 57 = .ok (.invokevirtual 362, 3) := by decide +kernel
theorem d_Y_track_60 : decode (mCd M_Y_track) 60 = .ok (.lload_n 2, 1) := by decide +kernel
theorem d_Y_track_61 : decode (mCd M_Y_track) 61 = .ok (.lconst 1, 1) := by decide +kernel
theorem d_Y_track_62 : decode (mCd M_Y_track) 62 = .ok (.aload_n 0, 1) := by decide +kernel
theorem d_Y_track_63 : decode (mCd M_Y_track) 63 = .ok (.getfield 54, 3) := by decide +kernel
theorem d_Y_track_66 : decode (mCd M_Y_track) 66 = .ok (.iconst 0, 1) := by decide +kernel
theorem d_Y_track_67 : decode (mCd M_Y_track) 67 = .ok (.iaload, 1) := by decide +kernel
theorem d_Y_track_68 : decode (mCd M_Y_track) 68 = .ok (.lshl, 1) := by decide +kernel
theorem d_Y_track_69 : decode (mCd M_Y_track) 69 = .ok (.lor, 1) := by decide +kernel
theorem d_Y_track_70 : decode (mCd M_Y_track) 70 = .ok (.lstore_n 2, 1) := by decide +kernel
theorem d_Y_track_71 : decode (mCd M_Y_track) 71 = .ok (.iinc 4 1, 3) := by decide +kernel
theorem d_Y_track_74 : decode (mCd M_Y_track) 74 = .ok (.goto (-28), 3) := by decide +kernel
theorem d_Y_track_77 : decode (mCd M_Y_track) 77 = .ok (.aload_n 0, 1) := by decide +kernel
theorem d_Y_track_78 : decode (mCd M_Y_track) 78 = .ok (.iconst 0, 1) := by decide +kernel
theorem d_Y_track_79 : decode (mCd M_Y_track) 79 = .ok (.putfield 15, 3) := by decide +kernel
theorem d_Y_track_82 : decode (mCd M_Y_track) 82 = .ok (.aload_n 0, 1) := by decide +kernel
theorem d_Y_track_83 : decode (mCd M_Y_track) 83 = .ok (.lload_n 2, 1) := by decide +kernel
theorem d_Y_track_84 : decode (mCd M_Y_track) 84 = .ok (.invokestatic 417, 3) := by decide +kernel
theorem d_Y_track_87 : decode (mCd M_Y_track) 87 = .ok (.i2l, 1) := by decide +kernel
theorem d_Y_track_88 : decode (mCd M_Y_track) 88 = .ok (.invokevirtual 18, 3) := by decide +kernel
theorem d_Y_track_91 : decode (mCd M_Y_track) 91 = .ok (.aload_n 0, 1) := by decide +kernel
theorem d_Y_track_92 : decode (mCd M_Y_track) 92 = .ok (.aload_n 0, 1) := by decide +kernel
theorem d_Y_track_93 : decode (mCd M_Y_track) 93 = .ok (.getfield 356, 3) := by decide +kernel
theorem d_Y_track_96 : decode (mCd M_Y_track) 96 = .ok (.i2l, 1) := by decide +kernel
theorem d_Y_track_97 : decode (mCd M_Y_track) 97 = .ok (.invokevirtual 18, 3) := by decide +kernel
theorem d_Y_track_100 : decode (mCd M_Y_track) 100 = .ok (.lload_n 2, 1) := by decide +kernel
theorem d_Y_track_101 : decode (mCd M_Y_track) 101 = .ok (.lreturn, 1) := by decide +kernel
theorem d_Y_able_0 : decode (mCd M_Y_able) 0 = .ok (.iconst 0, 1) := by decide +kernel
theorem d_Y_able_1 : decode (mCd M_Y_able) 1 = .ok (.istore_n 1, 1) := by decide +kernel
theorem d_Y_able_2 : decode (mCd M_Y_able) 2 = .ok (.iconst 0, 1) := by decide +kernel
theorem d_Y_able_3 : decode (mCd M_Y_able) 3 = .ok (.istore_n 2, 1) := by decide +kernel
theorem d_Y_able_4 : decode (mCd M_Y_able) 4 = .ok (.iload_n 2, 1) := by decide +kernel
theorem d_Y_able_5 : decode (mCd M_Y_able) 5 = .ok (.aload_n 0, 1) := by decide +kernel
theorem d_Y_able_6 : decode (mCd M_Y_able) 6 = .ok (.getfield 146, 3) := by decide +kernel
theorem d_Y_able_9 : decode (mCd M_Y_able) 9 = .ok (.if_icmp .ge 31, 3) := by decide +kernel
theorem d_Y_able_12 : decode (mCd M_Y_able) 12 = .ok (.iload_n 1, 1) := by decide +kernel
theorem d_Y_able_13 : decode (mCd M_Y_able) 13 = .ok (.aload_n 0, 1) := by decide +kernel
theorem d_Y_able_14 : decode (mCd M_Y_able) 14 = .ok (.aload_n 0, 1) := by decide +kernel
theorem d_Y_able_15 : decode (mCd M_Y_able) 15 = .ok (.getfield 51, 3) := by decide +kernel
theorem d_Y_able_18 : decode (mCd M_Y_able) 18 = .ok (.iload_n 2, 1) := by decide +kernel
theorem d_Y_able_19 : decode (mCd M_Y_able) 19 = .ok (.invokevirtual 229, 3) := by decide +kernel
theorem d_Y_able_22 : decode (mCd M_Y_able) 22 = .ok (.ifCond .eq 9, 3) := by decide +kernel
theorem d_Y_able_25 : decode (mCd M_Y_able) 25 = .ok (.iconst 1, 1) := by decide +kernel
theorem d_Y_able_26 : decode (mCd M_Y_able) 26 = .ok (.iload_n 2, 1) := by decide +kernel
theorem d_Y_able_27 : decode (mCd M_Y_able) 27 = .ok (.ishl, 1) := by decide +kernel
theorem d_Y_able_28 : decode (mCd M_Y_able) 28 = .ok (.goto 4, 3) := by decide +kernel
theorem d_Y_able_31 : decode (mCd M_Y_able) 31 = .ok (.iconst 0, 1) := by decide +kernel
theorem d_Y_able_32 : decode (mCd M_Y_able) 32 = .ok (.ior, 1) := by decide +kernel
theorem d_Y_able_33 : decode (mCd M_Y_able) 33 = .ok (.istore_n 1, 1) := by decide +kernel
theorem d_Y_able_34 : decode (mCd M_Y_able) 34 = .ok (.iinc 2 1, 3) := by decide +kernel
theorem d_Y_able_37 : decode (mCd M_Y_able) 37 = .ok (.goto (-33), 3) := by decide +kernel
theorem d_Y_able_40 : decode (mCd M_Y_able) 40 = .ok (.iload_n 1, 1) := by decide +kernel
theorem d_Y_able_41 : decode (mCd M_Y_able) 41 = .ok (.ireturn, 1) := by decide +kernel
theorem d_Y_sentIn_0 : decode (mCd M_Y_sentIn) 0 = .ok (.aload_n 0, 1) := by decide +kernel
theorem d_Y_sentIn_1 : decode (mCd M_Y_sentIn) 1 = .ok (.invokevirtual 409, 3) := by decide +kernel
theorem d_Y_sentIn_4 : decode (mCd M_Y_sentIn) 4 = .ok (.iconst 0, 1) := by decide +kernel
theorem d_Y_sentIn_5 : decode (mCd M_Y_sentIn) 5 = .ok (.istore 5, 2) := by decide +kernel
theorem d_Y_sentIn_7 : decode (mCd M_Y_sentIn) 7 = .ok (.iload 5, 2) := by decide +kernel
theorem d_Y_sentIn_9 : decode (mCd M_Y_sentIn) 9 = .ok (.aload_n 0, 1) := by decide +kernel
theorem d_Y_sentIn_10 : decode (mCd M_Y_sentIn) 10 = .ok (.getfield 146, 3) := by decide +kernel
theorem d_Y_sentIn_13 : decode (mCd M_Y_sentIn) 13 = .ok (.if_icmp .ge 32, 3) := by decide +kernel
theorem d_Y_sentIn_16 : decode (mCd M_Y_sentIn) 16 = .ok (.iload_n 1, 1) := by decide +kernel
theorem d_Y_sentIn_17 : decode (mCd M_Y_sentIn) 17 = .ok (.i2l, 1) := by decide +kernel
theorem d_Y_sentIn_18 : decode (mCd M_Y_sentIn) 18 = .ok (.iload 5, 2) := by decide +kernel
theorem d_Y_sentIn_20 : decode (mCd M_Y_sentIn) 20 = .ok (.invokestatic 280, 3) := by decide +kernel
theorem d_Y_sentIn_23 : decode (mCd M_Y_sentIn) 23 = .ok (.ifCond .eq 16, 3) := by decide +kernel
theorem d_Y_sentIn_26 : decode (mCd M_Y_sentIn) 26 = .ok (.aload_n 0, 1) := by decide +kernel
theorem d_Y_sentIn_27 : decode (mCd M_Y_sentIn) 27 = .ok (.aload_n 0, 1) := by decide +kernel
theorem d_Y_sentIn_28 : decode (mCd M_Y_sentIn) 28 = .ok (.getfield 54, 3) := by decide +kernel
theorem d_Y_sentIn_31 : decode (mCd M_Y_sentIn) 31 = .ok (.iload 5, 2) := by decide +kernel
theorem d_Y_sentIn_33 : decode (mCd M_Y_sentIn) 33 = .ok (.iload_n 2, 1) := by decide +kernel
theorem d_Y_sentIn_34 : decode (mCd M_Y_sentIn) 34 = .ok (.iload_n 3, 1) := by decide +kernel
theorem d_Y_sentIn_35 : decode (mCd M_Y_sentIn) 35 = .ok (.invokevirtual 382, 3) := by decide +kernel
theorem d_Y_sentIn_38 : decode (mCd M_Y_sentIn) 38 = .ok (.pop, 1) := by decide +kernel
theorem d_Y_sentIn_39 : decode (mCd M_Y_sentIn) 39 = .ok (.iinc 5 1, 3) := by decide +kernel
theorem d_Y_sentIn_42 : decode (mCd M_Y_sentIn) 42 = .ok (.goto (-35), 3) := by decide +kernel
theorem d_Y_sentIn_45 : decode (mCd M_Y_sentIn) 45 = .ok (.aload_n 0, 1) := by decide +kernel
theorem d_Y_sentIn_46 : decode (mCd M_Y_sentIn) 46 = .ok (.iload_n 2, 1) := by decide +kernel
theorem d_Y_sentIn_47 : decode (mCd M_Y_sentIn) 47 = .ok (.iload 4, 2) := by decide +kernel
theorem d_Y_sentIn_49 : decode (mCd M_Y_sentIn) 49 = .ok (.invokevirtual 412, 3) := by decide +kernel
theorem d_Y_sentIn_52 : decode (mCd M_Y_sentIn) 52 = .ok (.ireturn, 1) := by decide +kernel
theorem d_Y_isFewer_0 : decode (mCd M_Y_isFewer) 0 = .ok (.iload_n 1, 1) := by decide +kernel
theorem d_Y_isFewer_1 : decode (mCd M_Y_isFewer) 1 = .ok (.ifCond .lt 14, 3) := by decide +kernel
theorem d_Y_isFewer_4 : decode (mCd M_Y_isFewer) 4 = .ok (.iload_n 0, 1) := by decide +kernel
theorem d_Y_isFewer_5 : decode (mCd M_Y_isFewer) 5 = .ok (.invokestatic 370, 3) := by decide +kernel
theorem d_Y_isFewer_8 : decode (mCd M_Y_isFewer) 8 = .ok (.iload_n 1, 1) := by decide +kernel
theorem d_Y_isFewer_9 : decode (mCd M_Y_isFewer) 9 = .ok (.invokestatic 370, 3) := by decide +kernel
theorem d_Y_isFewer_12 : decode (mCd M_Y_isFewer) 12 = .ok (.if_icmp .ge 7, 3) := by decide +kernel
theorem d_Y_isFewer_15 : decode (mCd M_Y_isFewer) 15 = .ok (.iconst 1, 1) := by decide +kernel
theorem d_Y_isFewer_16 : decode (mCd M_Y_isFewer) 16 = .ok (.goto 4, 3) := by decide +kernel
theorem d_Y_isFewer_19 : decode (mCd M_Y_isFewer) 19 = .ok (.iconst 0, 1) := by decide +kernel
theorem d_Y_isFewer_20 : decode (mCd M_Y_isFewer) 20 = .ok (.ireturn, 1) := by decide +kernel
theorem d_Y_sends_0 : decode (mCd M_Y_sends) 0 = .ok (.aload_n 0, 1) := by decide +kernel
theorem d_Y_sends_1 : decode (mCd M_Y_sends) 1 = .ok (.iconst 0, 1) := by decide +kernel
theorem d_Y_sends_2 : decode (mCd M_Y_sends) 2 = .ok (.putfield 3, 3) := by decide +kernel
theorem d_Y_sends_5 : decode (mCd M_Y_sends) 5 = .ok (.aload_n 0, 1) := by decide +kernel
theorem d_Y_sends_6 : decode (mCd M_Y_sends) 6 = .ok (.iload_n 1, 1) := by decide +kernel
theorem d_Y_sends_7 : decode (mCd M_Y_sends) 7 = .ok (.invokevirtual 339, 3) := by decide +kernel
theorem d_Y_sends_10 : decode (mCd M_Y_sends) 10 = .ok (.ifCond .eq 27, 3) := by decide +kernel
theorem d_Y_sends_13 : decode (mCd M_Y_sends) 13 = .ok (.iload_n 2, 1) := by decide +kernel
theorem d_Y_sends_14 : decode (mCd M_Y_sends) 14 = .ok (.i2l, 1) := by decide +kernel
theorem d_Y_sends_15 : decode (mCd M_Y_sends) 15 = .ok (.lconst 0, 1) := by decide +kernel
theorem d_Y_sends_16 : decode (mCd M_Y_sends) 16 = .ok (.ldc2_w 365, 3) := by decide +kernel
theorem d_Y_sends_19 : decode (mCd M_Y_sends) 19 = .ok (.invokestatic 142, 3) := by decide +kernel
theorem d_Y_sends_22 : decode (mCd M_Y_sends) 22 = .ok (.ifCond .eq 15, 3) := by decide +kernel
theorem d_Y_sends_25 : decode (mCd M_Y_sends) 25 = .ok (.iload_n 3, 1) := by decide +kernel
theorem d_Y_sends_26 : decode (mCd M_Y_sends) 26 = .ok (.i2l, 1) := by decide +kernel
theorem d_Y_sends_27 : decode (mCd M_Y_sends) 27 = .ok (.lconst 1, 1) := by decide +kernel
theorem d_Y_sends_28 : decode (mCd M_Y_sends) 28 = .ok (.ldc2_w 422, 3) := by decide +kernel
theorem d_Y_sends_31 : decode (mCd M_Y_sends) 31 = .ok (.invokestatic 142, 3) := by decide +kernel
theorem d_Y_sends_34 : decode (mCd M_Y_sends) 34 = .ok (.ifCond .ne 5, 3) := by decide +kernel
theorem d_Y_sends_37 : decode (mCd M_Y_sends) 37 = .ok (.iconst (-1), 1) := by decide +kernel
theorem d_Y_sends_38 : decode (mCd M_Y_sends) 38 = .ok (.ireturn, 1) := by decide +kernel
theorem d_Y_sends_39 : decode (mCd M_Y_sends) 39 = .ok (.aload_n 0, 1) := by decide +kernel
theorem d_Y_sends_40 : decode (mCd M_Y_sends) 40 = .ok (.invokevirtual 424, 3) := by decide +kernel
theorem d_Y_sends_43 : decode (mCd M_Y_sends) 43 = .ok (.istore 4, 2) := by decide +kernel
theorem d_Y_sends_45 : decode (mCd M_Y_sends) 45 = .ok (.iconst (-1), 1) := by decide +kernel
theorem d_Y_sends_46 : decode (mCd M_Y_sends) 46 = .ok (.istore 5, 2) := by decide +kernel
theorem d_Y_sends_48 : decode (mCd M_Y_sends) 48 = .ok (.iconst 0, 1) := by decide +kernel
theorem d_Y_sends_49 : decode (mCd M_Y_sends) 49 = .ok (.istore 6, 2) := by decide +kernel
theorem d_Y_sends_51 : decode (mCd M_Y_sends) 51 = .ok (.iload 6, 2) := by decide +kernel
theorem d_Y_sends_53 : decode (mCd M_Y_sends) 53 = .ok (.iload 4, 2) := by decide +kernel
theorem d_Y_sends_55 : decode (mCd M_Y_sends) 55 = .ok (.if_icmp .gt 50, 3) := by decide +kernel
theorem d_Y_sends_58 : decode (mCd M_Y_sends) 58 = .ok (.iload 6, 2) := by decide +kernel
theorem d_Y_sends_60 : decode (mCd M_Y_sends) 60 = .ok (.iload 4, 2) := by decide +kernel
theorem d_Y_sends_62 : decode (mCd M_Y_sends) 62 = .ok (.iconst (-1), 1) := by decide +kernel
theorem d_Y_sends_63 : decode (mCd M_Y_sends) 63 = .ok (.ixor, 1) := by decide +kernel
theorem d_Y_sends_64 : decode (mCd M_Y_sends) 64 = .ok (.iand, 1) := by decide +kernel
theorem d_Y_sends_65 : decode (mCd M_Y_sends) 65 = .ok (.ifCond .ne 30, 3) := by decide +kernel
theorem d_Y_sends_68 : decode (mCd M_Y_sends) 68 = .ok (.iload 6, 2) := by decide +kernel
theorem d_Y_sends_70 : decode (mCd M_Y_sends) 70 = .ok (.iload 5, 2) := by decide +kernel
theorem d_Y_sends_72 : decode (mCd M_Y_sends) 72 = .ok (.invokestatic 427, 3) := by decide +kernel
theorem d_Y_sends_75 : decode (mCd M_Y_sends) 75 = .ok (.ifCond .eq 20, 3) := by decide +kernel
theorem d_Y_sends_78 : decode (mCd M_Y_sends) 78 = .ok (.aload_n 0, 1) := by decide +kernel
theorem d_Y_sends_79 : decode (mCd M_Y_sends) 79 = .ok (.iload 6, 2) := by decide +kernel
theorem d_Y_sends_81 : decode (mCd M_Y_sends) 81 = .ok (.iload_n 1, 1) := by decide +kernel
theorem d_Y_sends_82 : decode (mCd M_Y_sends) 82 = .ok (.iload_n 2, 1) := by decide +kernel
theorem d_Y_sends_83 : decode (mCd M_Y_sends) 83 = .ok (.iload_n 3, 1) := by decide +kernel
theorem d_Y_sends_84 : decode (mCd M_Y_sends) 84 = .ok (.invokevirtual 431, 3) := by decide +kernel
theorem d_Y_sends_87 : decode (mCd M_Y_sends) 87 = .ok (.ifCond .lt 8, 3) := by decide +kernel
theorem d_Y_sends_90 : decode (mCd M_Y_sends) 90 = .ok (.iload 6, 2) := by decide +kernel
theorem d_Y_sends_92 : decode (mCd M_Y_sends) 92 = .ok (.goto 5, 3) := by decide +kernel
theorem d_Y_sends_95 : decode (mCd M_Y_sends) 95 = .ok (.iload 5, 2) := by decide +kernel
theorem d_Y_sends_97 : decode (mCd M_Y_sends) 97 = .ok (.istore 5, 2) := by decide +kernel
theorem d_Y_sends_99 : decode (mCd M_Y_sends) 99 = .ok (.iinc 6 1, 3) := by decide +kernel
theorem d_Y_sends_102 : decode (mCd M_Y_sends) 102 = .ok (.goto (-51), 3) := by decide +kernel
theorem d_Y_sends_105 : decode (mCd M_Y_sends) 105 = .ok (.iload 5, 2) := by decide +kernel
theorem d_Y_sends_107 : decode (mCd M_Y_sends) 107 = .ok (.ifCond .ge 6, 3) := by decide +kernel
theorem d_Y_sends_110 : decode (mCd M_Y_sends) 110 = .ok (.bipush (-2), 2) := by decide +kernel
theorem d_Y_sends_112 : decode (mCd M_Y_sends) 112 = .ok (.ireturn, 1) := by decide +kernel
theorem d_Y_sends_113 : decode (mCd M_Y_sends) 113 = .ok (.aload_n 0, 1) := by decide +kernel
theorem d_Y_sends_114 : decode (mCd M_Y_sends) 114 = .ok (.iconst 0, 1) := by decide +kernel
theorem d_Y_sends_115 : decode (mCd M_Y_sends) 115 = .ok (.putfield 15, 3) := by decide +kernel
theorem d_Y_sends_118 : decode (mCd M_Y_sends) 118 = .ok (.aload_n 0, 1) := by decide +kernel
theorem d_Y_sends_119 : decode (mCd M_Y_sends) 119 = .ok (.iload 5, 2) := by decide +kernel
theorem d_Y_sends_121 : decode (mCd M_Y_sends) 121 = .ok (.i2l, 1) := by decide +kernel
theorem d_Y_sends_122 : decode (mCd M_Y_sends) 122 = .ok (.invokevirtual 18, 3) := by decide +kernel
theorem d_Y_sends_125 : decode (mCd M_Y_sends) 125 = .ok (.aload_n 0, 1) := by decide +kernel
theorem d_Y_sends_126 : decode (mCd M_Y_sends) 126 = .ok (.aload_n 0, 1) := by decide +kernel
theorem d_Y_sends_127 : decode (mCd M_Y_sends) 127 = .ok (.iload 5, 2) := by decide +kernel
theorem d_Y_sends_129 : decode (mCd M_Y_sends) 129 = .ok (.iload_n 1, 1) := by decide +kernel
theorem d_Y_sends_130 : decode (mCd M_Y_sends) 130 = .ok (.iload_n 2, 1) := by decide +kernel
theorem d_Y_sends_131 : decode (mCd M_Y_sends) 131 = .ok (.iload_n 3, 1) := by decide +kernel
theorem d_Y_sends_132 : decode (mCd M_Y_sends) 132 = .ok (.invokevirtual 431, 3) := by decide +kernel
theorem d_Y_sends_135 : decode (mCd M_Y_sends) 135 = .ok (.i2l, 1) := by decide +kernel
theorem d_Y_sends_136 : decode (mCd M_Y_sends) 136 = .ok (.invokevirtual 18, 3) := by decide +kernel
theorem d_Y_sends_139 : decode (mCd M_Y_sends) 139 = .ok (.iload 5, 2) := by decide +kernel
theorem d_Y_sends_141 : decode (mCd M_Y_sends) 141 = .ok (.invokestatic 370, 3) := by decide +kernel
theorem d_Y_sends_144 : decode (mCd M_Y_sends) 144 = .ok (.ireturn, 1) := by decide +kernel
theorem d_Y_cheapest_0 : decode (mCd M_Y_cheapest) 0 = .ok (.aload_n 0, 1) := by decide +kernel
theorem d_Y_cheapest_1 : decode (mCd M_Y_cheapest) 1 = .ok (.iconst 0, 1) := by decide +kernel
theorem d_Y_cheapest_2 : decode (mCd M_Y_cheapest) 2 = .ok (.putfield 3, 3) := by decide +kernel
theorem d_Y_cheapest_5 : decode (mCd M_Y_cheapest) 5 = .ok (.aload_n 0, 1) := by decide +kernel
theorem d_Y_cheapest_6 : decode (mCd M_Y_cheapest) 6 = .ok (.iload_n 1, 1) := by decide +kernel
theorem d_Y_cheapest_7 : decode (mCd M_Y_cheapest) 7 = .ok (.invokevirtual 339, 3) := by decide +kernel
theorem d_Y_cheapest_10 : decode (mCd M_Y_cheapest) 10 = .ok (.ifCond .eq 15, 3) := by decide +kernel
theorem d_Y_cheapest_13 : decode (mCd M_Y_cheapest) 13 = .ok (.iload_n 2, 1) := by decide +kernel
theorem d_Y_cheapest_14 : decode (mCd M_Y_cheapest) 14 = .ok (.i2l, 1) := by decide +kernel
theorem d_Y_cheapest_15 : decode (mCd M_Y_cheapest) 15 = .ok (.lconst 1, 1) := by decide +kernel
theorem d_Y_cheapest_16 : decode (mCd M_Y_cheapest) 16 = .ok (.ldc2_w 422, 3) := by decide +kernel
theorem d_Y_cheapest_19 : decode (mCd M_Y_cheapest) 19 = .ok (.invokestatic 142, 3) := by decide +kernel
theorem d_Y_cheapest_22 : decode (mCd M_Y_cheapest) 22 = .ok (.ifCond .ne 5, 3) := by decide +kernel
theorem d_Y_cheapest_25 : decode (mCd M_Y_cheapest) 25 = .ok (.iconst (-1), 1) := by decide +kernel
theorem d_Y_cheapest_26 : decode (mCd M_Y_cheapest) 26 = .ok (.ireturn, 1) := by decide +kernel
theorem d_Y_cheapest_27 : decode (mCd M_Y_cheapest) 27 = .ok (.aload_n 0, 1) := by decide +kernel
theorem d_Y_cheapest_28 : decode (mCd M_Y_cheapest) 28 = .ok (.invokevirtual 424, 3) := by decide +kernel
theorem d_Y_cheapest_31 : decode (mCd M_Y_cheapest) 31 = .ok (.istore_n 3, 1) := by decide +kernel
theorem d_Y_cheapest_32 : decode (mCd M_Y_cheapest) 32 = .ok (.ldc_w 435, 3) := by decide +kernel
theorem d_Y_cheapest_35 : decode (mCd M_Y_cheapest) 35 = .ok (.istore 4, 2) := by decide +kernel
theorem d_Y_cheapest_37 : decode (mCd M_Y_cheapest) 37 = .ok (.iconst 0, 1) := by decide +kernel
theorem d_Y_cheapest_38 : decode (mCd M_Y_cheapest) 38 = .ok (.istore 5, 2) := by decide +kernel
theorem d_Y_cheapest_40 : decode (mCd M_Y_cheapest) 40 = .ok (.iconst (-1), 1) := by decide +kernel
theorem d_Y_cheapest_41 : decode (mCd M_Y_cheapest) 41 = .ok (.istore 6, 2) := by decide +kernel
theorem d_Y_cheapest_43 : decode (mCd M_Y_cheapest) 43 = .ok (.iconst 0, 1) := by decide +kernel
theorem d_Y_cheapest_44 : decode (mCd M_Y_cheapest) 44 = .ok (.istore 7, 2) := by decide +kernel
theorem d_Y_cheapest_46 : decode (mCd M_Y_cheapest) 46 = .ok (.iload 7, 2) := by decide +kernel
theorem d_Y_cheapest_48 : decode (mCd M_Y_cheapest) 48 = .ok (.bipush 9, 2) := by decide +kernel
theorem d_Y_cheapest_50 : decode (mCd M_Y_cheapest) 50 = .ok (.if_icmp .gt 111, 3) := by decide +kernel
theorem d_Y_cheapest_53 : decode (mCd M_Y_cheapest) 53 = .ok (.iconst 0, 1) := by decide +kernel
theorem d_Y_cheapest_54 : decode (mCd M_Y_cheapest) 54 = .ok (.istore 8, 2) := by decide +kernel
theorem d_Y_cheapest_56 : decode (mCd M_Y_cheapest) 56 = .ok (.iload 8, 2) := by decide +kernel
theorem d_Y_cheapest_58 : decode (mCd M_Y_cheapest) 58 = .ok (.iload_n 3, 1) := by decide +kernel
theorem d_Y_cheapest_59 : decode (mCd M_Y_cheapest) 59 = .ok (.if_icmp .gt 96, 3) := by decide +kernel
theorem d_Y_cheapest_62 : decode (mCd M_Y_cheapest) 62 = .ok (.iload 7, 2) := by decide +kernel
theorem d_Y_cheapest_64 : decode (mCd M_Y_cheapest) 64 = .ok (.iload 8, 2) := by decide +kernel
theorem d_Y_cheapest_66 : decode (mCd M_Y_cheapest) 66 = .ok (.invokestatic 370, 3) := by decide +kernel
theorem d_Y_cheapest_69 : decode (mCd M_Y_cheapest) 69 = .ok (.imul, 1) := by decide +kernel
theorem d_Y_cheapest_70 : decode (mCd M_Y_cheapest) 70 = .ok (.istore 9, 2) := by decide +kernel
theorem d_Y_cheapest_72 : decode (mCd M_Y_cheapest) 72 = .ok (.iload 9, 2) := by decide +kernel
theorem d_Y_cheapest_74 : decode (mCd M_Y_cheapest) 74 = .ok (.iload 4, 2) := by decide +kernel
theorem d_Y_cheapest_76 : decode (mCd M_Y_cheapest) 76 = .ok (.if_icmp .lt 27, 3) := by decide +kernel
theorem d_Y_cheapest_79 : decode (mCd M_Y_cheapest) 79 = .ok (.iload 9, 2) := by decide +kernel
theorem d_Y_cheapest_81 : decode (mCd M_Y_cheapest) 81 = .ok (.iload 4, 2) := by decide +kernel
theorem d_Y_cheapest_83 : decode (mCd M_Y_cheapest) 83 = .ok (.if_icmp .ne 24, 3) := by decide +kernel
theorem d_Y_cheapest_86 : decode (mCd M_Y_cheapest) 86 = .ok (.iload 7, 2) := by decide +kernel
theorem d_Y_cheapest_88 : decode (mCd M_Y_cheapest) 88 = .ok (.iload 5, 2) := by decide +kernel
theorem d_Y_cheapest_90 : decode (mCd M_Y_cheapest) 90 = .ok (.if_icmp .ne 17, 3) := by decide +kernel
theorem d_Y_cheapest_93 : decode (mCd M_Y_cheapest) 93 = .ok (.iload 8, 2) := by decide +kernel
theorem d_Y_cheapest_95 : decode (mCd M_Y_cheapest) 95 = .ok (.iload 6, 2) := by decide +kernel
theorem d_Y_cheapest_97 : decode (mCd M_Y_cheapest) 97 = .ok (.invokestatic 427, 3) := by decide +kernel
theorem d_Y_cheapest_100 : decode (mCd M_Y_cheapest) 100 = .ok (.ifCond .eq 7, 3) := by decide +kernel
theorem d_Y_cheapest_103 : decode (mCd M_Y_cheapest) 103 = .ok (.iconst 1, 1) := by decide +kernel
theorem d_Y_cheapest_104 : decode (mCd M_Y_cheapest) 104 = .ok (.goto 4, 3) := by decide +kernel
theorem d_Y_cheapest_107 : decode (mCd M_Y_cheapest) 107 = .ok (.iconst 0, 1) := by decide +kernel
theorem d_Y_cheapest_108 : decode (mCd M_Y_cheapest) 108 = .ok (.istore 10, 2) := by decide +kernel
theorem d_Y_cheapest_110 : decode (mCd M_Y_cheapest) 110 = .ok (.iload 8, 2) := by decide +kernel
theorem d_Y_cheapest_112 : decode (mCd M_Y_cheapest) 112 = .ok (.iload_n 3, 1) := by decide +kernel
theorem d_Y_cheapest_113 : decode (mCd M_Y_cheapest) 113 = .ok (.iconst (-1), 1) := by decide +kernel
theorem d_Y_cheapest_114 : decode (mCd M_Y_cheapest) 114 = .ok (.ixor, 1) := by decide +kernel
theorem d_Y_cheapest_115 : decode (mCd M_Y_cheapest) 115 = .ok (.iand, 1) := by decide +kernel
theorem d_Y_cheapest_116 : decode (mCd M_Y_cheapest) 116 = .ok (.ifCond .ne 33, 3) := by decide +kernel
theorem d_Y_cheapest_119 : decode (mCd M_Y_cheapest) 119 = .ok (.iload 10, 2) := by decide +kernel
theorem d_Y_cheapest_121 : decode (mCd M_Y_cheapest) 121 = .ok (.ifCond .eq 28, 3) := by decide +kernel
theorem d_Y_cheapest_124 : decode (mCd M_Y_cheapest) 124 = .ok (.aload_n 0, 1) := by decide +kernel
theorem d_Y_cheapest_125 : decode (mCd M_Y_cheapest) 125 = .ok (.iload 8, 2) := by decide +kernel
theorem d_Y_cheapest_127 : decode (mCd M_Y_cheapest) 127 = .ok (.iload_n 1, 1) := by decide +kernel
theorem d_Y_cheapest_128 : decode (mCd M_Y_cheapest) 128 = .ok (.iload 7, 2) := by decide +kernel
theorem d_Y_cheapest_130 : decode (mCd M_Y_cheapest) 130 = .ok (.iload_n 2, 1) := by decide +kernel
theorem d_Y_cheapest_131 : decode (mCd M_Y_cheapest) 131 = .ok (.invokevirtual 431, 3) := by decide +kernel
theorem d_Y_cheapest_134 : decode (mCd M_Y_cheapest) 134 = .ok (.ifCond .lt 15, 3) := by decide +kernel
theorem d_Y_cheapest_137 : decode (mCd M_Y_cheapest) 137 = .ok (.iload 9, 2) := by decide +kernel
theorem d_Y_cheapest_139 : decode (mCd M_Y_cheapest) 139 = .ok (.istore 4, 2) := by decide +kernel
theorem d_Y_cheapest_141 : decode (mCd M_Y_cheapest) 141 = .ok (.iload 7, 2) := by decide +kernel
theorem d_Y_cheapest_143 : decode (mCd M_Y_cheapest) 143 = .ok (.istore 5, 2) := by decide +kernel
theorem d_Y_cheapest_145 : decode (mCd M_Y_cheapest) 145 = .ok (.iload 8, 2) := by decide +kernel
theorem d_Y_cheapest_147 : decode (mCd M_Y_cheapest) 147 = .ok (.istore 6, 2) := by decide +kernel
theorem d_Y_cheapest_149 : decode (mCd M_Y_cheapest) 149 = .ok (.iinc 8 1, 3) := by decide +kernel
theorem d_Y_cheapest_152 : decode (mCd M_Y_cheapest) 152 = .ok (.goto (-96), 3) := by decide +kernel
theorem d_Y_cheapest_155 : decode (mCd M_Y_cheapest) 155 = .ok (.iinc 7 1, 3) := by decide +kernel
theorem d_Y_cheapest_158 : decode (mCd M_Y_cheapest) 158 = .ok (.goto (-112), 3) := by decide +kernel
theorem d_Y_cheapest_161 : decode (mCd M_Y_cheapest) 161 = .ok (.iload 6, 2) := by decide +kernel
theorem d_Y_cheapest_163 : decode (mCd M_Y_cheapest) 163 = .ok (.ifCond .ge 6, 3) := by decide +kernel
theorem d_Y_cheapest_166 : decode (mCd M_Y_cheapest) 166 = .ok (.bipush (-2), 2) := by decide +kernel
theorem d_Y_cheapest_168 : decode (mCd M_Y_cheapest) 168 = .ok (.ireturn, 1) := by decide +kernel
theorem d_Y_cheapest_169 : decode (mCd M_Y_cheapest) 169 = .ok (.aload_n 0, 1) := by decide +kernel
theorem d_Y_cheapest_170 : decode (mCd M_Y_cheapest) 170 = .ok (.iconst 0, 1) := by decide +kernel
theorem d_Y_cheapest_171 : decode (mCd M_Y_cheapest) 171 = .ok (.putfield 15, 3) := by decide +kernel
theorem d_Y_cheapest_174 : decode (mCd M_Y_cheapest) 174 = .ok (.aload_n 0, 1) := by decide +kernel
theorem d_Y_cheapest_175 : decode (mCd M_Y_cheapest) 175 = .ok (.iload 5, 2) := by decide +kernel
theorem d_Y_cheapest_177 : decode (mCd M_Y_cheapest) 177 = .ok (.i2l, 1) := by decide +kernel
theorem d_Y_cheapest_178 : decode (mCd M_Y_cheapest) 178 = .ok (.invokevirtual 18, 3) := by decide +kernel
theorem d_Y_cheapest_181 : decode (mCd M_Y_cheapest) 181 = .ok (.aload_n 0, 1) := by decide +kernel
theorem d_Y_cheapest_182 : decode (mCd M_Y_cheapest) 182 = .ok (.iload 6, 2) := by decide +kernel
theorem d_Y_cheapest_184 : decode (mCd M_Y_cheapest) 184 = .ok (.i2l, 1) := by decide +kernel
theorem d_Y_cheapest_185 : decode (mCd M_Y_cheapest) 185 = .ok (.invokevirtual 18, 3) := by decide +kernel
theorem d_Y_cheapest_188 : decode (mCd M_Y_cheapest) 188 = .ok (.iload 4, 2) := by decide +kernel
theorem d_Y_cheapest_190 : decode (mCd M_Y_cheapest) 190 = .ok (.ireturn, 1) := by decide +kernel
theorem d_Y_matters_0 : decode (mCd M_Y_matters) 0 = .ok (.aload_n 0, 1) := by decide +kernel
theorem d_Y_matters_1 : decode (mCd M_Y_matters) 1 = .ok (.iconst 0, 1) := by decide +kernel
theorem d_Y_matters_2 : decode (mCd M_Y_matters) 2 = .ok (.putfield 3, 3) := by decide +kernel
theorem d_Y_matters_5 : decode (mCd M_Y_matters) 5 = .ok (.iload_n 1, 1) := by decide +kernel
theorem d_Y_matters_6 : decode (mCd M_Y_matters) 6 = .ok (.i2l, 1) := by decide +kernel
theorem d_Y_matters_7 : decode (mCd M_Y_matters) 7 = .ok (.lconst 1, 1) := by decide +kernel
theorem d_Y_matters_8 : decode (mCd M_Y_matters) 8 = .ok (.ldc2_w 377, 3) := by decide +kernel
theorem d_Y_matters_11 : decode (mCd M_Y_matters) 11 = .ok (.invokestatic 142, 3) := by decide +kernel
theorem d_Y_matters_14 : decode (mCd M_Y_matters) 14 = .ok (.ifCond .ne 5, 3) := by decide +kernel
theorem d_Y_matters_17 : decode (mCd M_Y_matters) 17 = .ok (.iconst (-1), 1) := by decide +kernel
theorem d_Y_matters_18 : decode (mCd M_Y_matters) 18 = .ok (.ireturn, 1) := by decide +kernel
theorem d_Y_matters_19 : decode (mCd M_Y_matters) 19 = .ok (.aload_n 0, 1) := by decide +kernel
theorem d_Y_matters_20 : decode (mCd M_Y_matters) 20 = .ok (.invokevirtual 409, 3) := by decide +kernel
theorem d_Y_matters_23 : decode (mCd M_Y_matters) 23 = .ok (.aload_n 0, 1) := by decide +kernel
theorem d_Y_matters_24 : decode (mCd M_Y_matters) 24 = .ok (.aload_n 0, 1) := by decide +kernel
theorem d_Y_matters_25 : decode (mCd M_Y_matters) 25 = .ok (.getfield 54, 3) := by decide +kernel
theorem d_Y_matters_28 : decode (mCd M_Y_matters) 28 = .ok (.iload_n 1, 1) := by decide +kernel
theorem d_Y_matters_29 : decode (mCd M_Y_matters) 29 = .ok (.invokevirtual 379, 3) := by decide +kernel
theorem d_Y_matters_32 : decode (mCd M_Y_matters) 32 = .ok (.aload_n 0, 1) := by decide +kernel
theorem d_Y_matters_33 : decode (mCd M_Y_matters) 33 = .ok (.getfield 54, 3) := by decide +kernel
theorem d_Y_matters_36 : decode (mCd M_Y_matters) 36 = .ok (.iconst 0, 1) := by decide +kernel
theorem d_Y_matters_37 : decode (mCd M_Y_matters) 37 = .ok (.iaload, 1) := by decide +kernel
theorem d_Y_matters_38 : decode (mCd M_Y_matters) 38 = .ok (.istore_n 2, 1) := by decide +kernel
theorem d_Y_matters_39 : decode (mCd M_Y_matters) 39 = .ok (.bipush (-2), 2) := by decide +kernel
theorem d_Y_matters_41 : decode (mCd M_Y_matters) 41 = .ok (.istore_n 3, 1) := by decide +kernel
theorem d_Y_matters_42 : decode (mCd M_Y_matters) 42 = .ok (.iconst (-1), 1) := by decide +kernel
theorem d_Y_matters_43 : decode (mCd M_Y_matters) 43 = .ok (.istore 4, 2) := by decide +kernel
theorem d_Y_matters_45 : decode (mCd M_Y_matters) 45 = .ok (.iconst 0, 1) := by decide +kernel
theorem d_Y_matters_46 : decode (mCd M_Y_matters) 46 = .ok (.istore 5, 2) := by decide +kernel
theorem d_Y_matters_48 : decode (mCd M_Y_matters) 48 = .ok (.iload 5, 2) := by decide +kernel
theorem d_Y_matters_50 : decode (mCd M_Y_matters) 50 = .ok (.aload_n 0, 1) := by decide +kernel
theorem d_Y_matters_51 : decode (mCd M_Y_matters) 51 = .ok (.getfield 146, 3) := by decide +kernel
theorem d_Y_matters_54 : decode (mCd M_Y_matters) 54 = .ok (.if_icmp .ge 94, 3) := by decide +kernel
theorem d_Y_matters_57 : decode (mCd M_Y_matters) 57 = .ok (.aload_n 0, 1) := by decide +kernel
theorem d_Y_matters_58 : decode (mCd M_Y_matters) 58 = .ok (.getfield 51, 3) := by decide +kernel
theorem d_Y_matters_61 : decode (mCd M_Y_matters) 61 = .ok (.bipush 33, 2) := by decide +kernel
theorem d_Y_matters_63 : decode (mCd M_Y_matters) 63 = .ok (.iaload, 1) := by decide +kernel
theorem d_Y_matters_64 : decode (mCd M_Y_matters) 64 = .ok (.aload_n 0, 1) := by decide +kernel
theorem d_Y_matters_65 : decode (mCd M_Y_matters) 65 = .ok (.aload_n 0, 1) := by decide +kernel
theorem d_Y_matters_66 : decode (mCd M_Y_matters) 66 = .ok (.getfield 51, 3) := by decide +kernel
theorem d_Y_matters_69 : decode (mCd M_Y_matters) 69 = .ok (.invokevirtual 367, 3) := by decide +kernel
theorem d_Y_matters_72 : decode (mCd M_Y_matters) 72 = .ok (.iand, 1) := by decide +kernel
theorem d_Y_matters_73 : decode (mCd M_Y_matters) 73 = .ok (.i2l, 1) := by decide +kernel
theorem d_Y_matters_74 : decode (mCd M_Y_matters) 74 = .ok (.iload 5, 2) := by decide +kernel
theorem d_Y_matters_76 : decode (mCd M_Y_matters) 76 = .ok (.invokestatic 280, 3) := by decide +kernel
theorem d_Y_matters_79 : decode (mCd M_Y_matters) 79 = .ok (.ifCond .eq 63, 3) := by decide +kernel
theorem d_Y_matters_82 : decode (mCd M_Y_matters) 82 = .ok (.aload_n 0, 1) := by decide +kernel
theorem d_Y_matters_83 : decode (mCd M_Y_matters) 83 = .ok (.invokevirtual 409, 3) := by decide +kernel
theorem d_Y_matters_86 : decode (mCd M_Y_matters) 86 = .ok (.aload_n 0, 1) := by decide +kernel
theorem d_Y_matters_87 : decode (mCd M_Y_matters) 87 = .ok (.aload_n 0, 1) := by decide +kernel
theorem d_Y_matters_88 : decode (mCd M_Y_matters) 88 = .ok (.getfield 54, 3) := by decide +kernel
theorem d_Y_matters_91 : decode (mCd M_Y_matters) 91 = .ok (.iload 5, 2) := by decide +kernel
theorem d_Y_matters_93 : decode (mCd M_Y_matters) 93 = .ok (.invokevirtual 392, 3) := by decide +kernel
theorem d_Y_matters_96 : decode (mCd M_Y_matters) 96 = .ok (.pop, 1) := by decide +kernel
theorem d_Y_matters_97 : decode (mCd M_Y_matters) 97 = .ok (.aload_n 0, 1) := by decide +kernel
theorem d_Y_matters_98 : decode (mCd M_Y_matters) 98 = .ok (.aload_n 0, 1) := by decide +kernel
theorem d_Y_matters_99 : decode (mCd M_Y_matters) 99 = .ok (.getfield 54, 3) := by decide +kernel
theorem d_Y_matters_102 : decode (mCd M_Y_matters) 102 = .ok (.iload_n 1, 1) := by decide +kernel
theorem d_Y_matters_103 : decode (mCd M_Y_matters) 103 = .ok (.invokevirtual 379, 3) := by decide +kernel
theorem d_Y_matters_106 : decode (mCd M_Y_matters) 106 = .ok (.aload_n 0, 1) := by decide +kernel
theorem d_Y_matters_107 : decode (mCd M_Y_matters) 107 = .ok (.aload_n 0, 1) := by decide +kernel
theorem d_Y_matters_108 : decode (mCd M_Y_matters) 108 = .ok (.getfield 54, 3) := by decide +kernel
theorem d_Y_matters_111 : decode (mCd M_Y_matters) 111 = .ok (.iconst 0, 1) := by decide +kernel
theorem d_Y_matters_112 : decode (mCd M_Y_matters) 112 = .ok (.iaload, 1) := by decide +kernel
theorem d_Y_matters_113 : decode (mCd M_Y_matters) 113 = .ok (.iload_n 2, 1) := by decide +kernel
theorem d_Y_matters_114 : decode (mCd M_Y_matters) 114 = .ok (.invokevirtual 287, 3) := by decide +kernel
theorem d_Y_matters_117 : decode (mCd M_Y_matters) 117 = .ok (.istore 6, 2) := by decide +kernel
theorem d_Y_matters_119 : decode (mCd M_Y_matters) 119 = .ok (.iload 6, 2) := by decide +kernel
theorem d_Y_matters_121 : decode (mCd M_Y_matters) 121 = .ok (.iload 4, 2) := by decide +kernel
theorem d_Y_matters_123 : decode (mCd M_Y_matters) 123 = .ok (.if_icmp .le 8, 3) := by decide +kernel
theorem d_Y_matters_126 : decode (mCd M_Y_matters) 126 = .ok (.iload 5, 2) := by decide +kernel
theorem d_Y_matters_128 : decode (mCd M_Y_matters) 128 = .ok (.goto 4, 3) := by decide +kernel
theorem d_Y_matters_131 : decode (mCd M_Y_matters) 131 = .ok (.iload_n 3, 1) := by decide +kernel
theorem d_Y_matters_132 : decode (mCd M_Y_matters) 132 = .ok (.istore_n 3, 1) := by decide +kernel
theorem d_Y_matters_133 : decode (mCd M_Y_matters) 133 = .ok (.iload 4, 2) := by decide +kernel
theorem d_Y_matters_135 : decode (mCd M_Y_matters) 135 = .ok (.iload 6, 2) := by decide +kernel
theorem d_Y_matters_137 : decode (mCd M_Y_matters) 137 = .ok (.invokestatic 293, 3) := by decide +kernel
theorem d_Y_matters_140 : decode (mCd M_Y_matters) 140 = .ok (.istore 4, 2) := by decide +kernel
theorem d_Y_matters_142 : decode (mCd M_Y_matters) 142 = .ok (.iinc 5 1, 3) := by decide +kernel
theorem d_Y_matters_145 : decode (mCd M_Y_matters) 145 = .ok (.goto (-97), 3) := by decide +kernel
theorem d_Y_matters_148 : decode (mCd M_Y_matters) 148 = .ok (.iload_n 3, 1) := by decide +kernel
theorem d_Y_matters_149 : decode (mCd M_Y_matters) 149 = .ok (.ifCond .lt 15, 3) := by decide +kernel
theorem d_Y_matters_152 : decode (mCd M_Y_matters) 152 = .ok (.aload_n 0, 1) := by decide +kernel
theorem d_Y_matters_153 : decode (mCd M_Y_matters) 153 = .ok (.iconst 0, 1) := by decide +kernel
theorem d_Y_matters_154 : decode (mCd M_Y_matters) 154 = .ok (.putfield 15, 3) := by decide +kernel
theorem d_Y_matters_157 : decode (mCd M_Y_matters) 157 = .ok (.aload_n 0, 1) := by decide +kernel
theorem d_Y_matters_158 : decode (mCd M_Y_matters) 158 = .ok (.iload 4, 2) := by decide +kernel
theorem d_Y_matters_160 : decode (mCd M_Y_matters) 160 = .ok (.i2l, 1) := by decide +kernel
theorem d_Y_matters_161 : decode (mCd M_Y_matters) 161 = .ok (.invokevirtual 18, 3) := by decide +kernel
theorem d_Y_matters_164 : decode (mCd M_Y_matters) 164 = .ok (.iload_n 3, 1) := by decide +kernel
theorem d_Y_matters_165 : decode (mCd M_Y_matters) 165 = .ok (.ireturn, 1) := by decide +kernel
theorem d_Y_crumbsOf_0 : decode (mCd M_Y_crumbsOf) 0 = .ok (.iconst 0, 1) := by decide +kernel
theorem d_Y_crumbsOf_1 : decode (mCd M_Y_crumbsOf) 1 = .ok (.istore_n 2, 1) := by decide +kernel
theorem d_Y_crumbsOf_2 : decode (mCd M_Y_crumbsOf) 2 = .ok (.iconst 0, 1) := by decide +kernel
theorem d_Y_crumbsOf_3 : decode (mCd M_Y_crumbsOf) 3 = .ok (.istore_n 3, 1) := by decide +kernel
theorem d_Y_crumbsOf_4 : decode (mCd M_Y_crumbsOf) 4 = .ok (.iload_n 3, 1) := by decide +kernel
theorem d_Y_crumbsOf_5 : decode (mCd M_Y_crumbsOf) 5 = .ok (.aload_n 0, 1) := by decide +kernel
theorem d_Y_crumbsOf_6 : decode (mCd M_Y_crumbsOf) 6 = .ok (.getfield 146, 3) := by decide +kernel
theorem d_Y_crumbsOf_9 : decode (mCd M_Y_crumbsOf) 9 = .ok (.if_icmp .ge 34, 3) := by decide +kernel
theorem d_Y_crumbsOf_12 : decode (mCd M_Y_crumbsOf) 12 = .ok (.iload_n 2, 1) := by decide +kernel
theorem d_Y_crumbsOf_13 : decode (mCd M_Y_crumbsOf) 13 = .ok (.iload_n 1, 1) := by decide +kernel
theorem d_Y_crumbsOf_14 : decode (mCd M_Y_crumbsOf) 14 = .ok (.i2l, 1) := by decide +kernel
theorem d_Y_crumbsOf_15 : decode (mCd M_Y_crumbsOf) 15 = .ok (.iload_n 3, 1) := by decide +kernel
theorem d_Y_crumbsOf_16 : decode (mCd M_Y_crumbsOf) 16 = .ok (.invokestatic 280, 3) := by decide +kernel
theorem d_Y_crumbsOf_19 : decode (mCd M_Y_crumbsOf) 19 = .ok (.ifCond .eq 15, 3) := by decide +kernel
theorem d_Y_crumbsOf_22 : decode (mCd M_Y_crumbsOf) 22 = .ok (.aload_n 0, 1) := by decide +kernel
theorem d_Y_crumbsOf_23 : decode (mCd M_Y_crumbsOf) 23 = .ok (.getfield 51, 3) := by decide +kernel
theorem d_Y_crumbsOf_26 : decode (mCd M_Y_crumbsOf) 26 = .ok (.bipush 25, 2) := by decide +kernel
theorem d_Y_crumbsOf_28 : decode (mCd M_Y_crumbsOf) 28 = .ok (.iload_n 3, 1) := by decide +kernel
theorem d_Y_crumbsOf_29 : decode (mCd M_Y_crumbsOf) 29 = .ok (.iadd, 1) := by decide +kernel
theorem d_Y_crumbsOf_30 : decode (mCd M_Y_crumbsOf) 30 = .ok (.iaload, 1) := by decide +kernel
theorem d_Y_crumbsOf_31 : decode (mCd M_Y_crumbsOf) 31 = .ok (.goto 4, 3) := by decide +kernel
theorem d_Y_crumbsOf_34 : decode (mCd M_Y_crumbsOf) 34 = .ok (.iconst 0, 1) := by decide +kernel
theorem d_Y_crumbsOf_35 : decode (mCd M_Y_crumbsOf) 35 = .ok (.iadd, 1) := by decide +kernel
theorem d_Y_crumbsOf_36 : decode (mCd M_Y_crumbsOf) 36 = .ok (.istore_n 2, 1) := by decide +kernel
theorem d_Y_crumbsOf_37 : decode (mCd M_Y_crumbsOf) 37 = .ok (.iinc 3 1, 3) := by decide +kernel
theorem d_Y_crumbsOf_40 : decode (mCd M_Y_crumbsOf) 40 = .ok (.goto (-36), 3) := by decide +kernel
theorem d_Y_crumbsOf_43 : decode (mCd M_Y_crumbsOf) 43 = .ok (.iload_n 2, 1) := by decide +kernel
theorem d_Y_crumbsOf_44 : decode (mCd M_Y_crumbsOf) 44 = .ok (.ireturn, 1) := by decide +kernel
theorem d_Y_keeps_0 : decode (mCd M_Y_keeps) 0 = .ok (.aload_n 0, 1) := by decide +kernel
theorem d_Y_keeps_1 : decode (mCd M_Y_keeps) 1 = .ok (.iconst 0, 1) := by decide +kernel
theorem d_Y_keeps_2 : decode (mCd M_Y_keeps) 2 = .ok (.putfield 3, 3) := by decide +kernel
theorem d_Y_keeps_5 : decode (mCd M_Y_keeps) 5 = .ok (.aload_n 0, 1) := by decide +kernel
theorem d_Y_keeps_6 : decode (mCd M_Y_keeps) 6 = .ok (.aload_n 0, 1) := by decide +kernel
theorem d_Y_keeps_7 : decode (mCd M_Y_keeps) 7 = .ok (.getfield 51, 3) := by decide +kernel
theorem d_Y_keeps_10 : decode (mCd M_Y_keeps) 10 = .ok (.invokevirtual 367, 3) := by decide +kernel
theorem d_Y_keeps_13 : decode (mCd M_Y_keeps) 13 = .ok (.istore_n 1, 1) := by decide +kernel
theorem d_Y_keeps_14 : decode (mCd M_Y_keeps) 14 = .ok (.iconst 0, 1) := by decide +kernel
theorem d_Y_keeps_15 : decode (mCd M_Y_keeps) 15 = .ok (.istore_n 2, 1) := by decide +kernel
theorem d_Y_keeps_16 : decode (mCd M_Y_keeps) 16 = .ok (.iconst 0, 1) := by decide +kernel
theorem d_Y_keeps_17 : decode (mCd M_Y_keeps) 17 = .ok (.istore_n 3, 1) := by decide +kernel
theorem d_Y_keeps_18 : decode (mCd M_Y_keeps) 18 = .ok (.iload_n 3, 1) := by decide +kernel
theorem d_Y_keeps_19 : decode (mCd M_Y_keeps) 19 = .ok (.iload_n 1, 1) := by decide +kernel
theorem d_Y_keeps_20 : decode (mCd M_Y_keeps) 20 = .ok (.if_icmp .gt 72, 3) := by decide +kernel
theorem d_Y_keeps_23 : decode (mCd M_Y_keeps) 23 = .ok (.iload_n 3, 1) := by decide +kernel
theorem d_Y_keeps_24 : decode (mCd M_Y_keeps) 24 = .ok (.iload_n 1, 1) := by decide +kernel
theorem d_Y_keeps_25 : decode (mCd M_Y_keeps) 25 = .ok (.iconst (-1), 1) := by decide +kernel
theorem d_Y_keeps_26 : decode (mCd M_Y_keeps) 26 = .ok (.ixor, 1) := by decide +kernel
theorem d_Y_keeps_27 : decode (mCd M_Y_keeps) 27 = .ok (.iand, 1) := by decide +kernel
theorem d_Y_keeps_28 : decode (mCd M_Y_keeps) 28 = .ok (.ifCond .ne 58, 3) := by decide +kernel
theorem d_Y_keeps_31 : decode (mCd M_Y_keeps) 31 = .ok (.aload_n 0, 1) := by decide +kernel
theorem d_Y_keeps_32 : decode (mCd M_Y_keeps) 32 = .ok (.iload_n 3, 1) := by decide +kernel
theorem d_Y_keeps_33 : decode (mCd M_Y_keeps) 33 = .ok (.invokevirtual 436, 3) := by decide +kernel
theorem d_Y_keeps_36 : decode (mCd M_Y_keeps) 36 = .ok (.aload_n 0, 1) := by decide +kernel
theorem d_Y_keeps_37 : decode (mCd M_Y_keeps) 37 = .ok (.getfield 51, 3) := by decide +kernel
theorem d_Y_keeps_40 : decode (mCd M_Y_keeps) 40 = .ok (.bipush 34, 2) := by decide +kernel
theorem d_Y_keeps_42 : decode (mCd M_Y_keeps) 42 = .ok (.iaload, 1) := by decide +kernel
theorem d_Y_keeps_43 : decode (mCd M_Y_keeps) 43 = .ok (.if_icmp .gt 43, 3) := by decide +kernel
theorem d_Y_keeps_46 : decode (mCd M_Y_keeps) 46 = .ok (.iload_n 3, 1) := by decide +kernel
theorem d_Y_keeps_47 : decode (mCd M_Y_keeps) 47 = .ok (.invokestatic 370, 3) := by decide +kernel
theorem d_Y_keeps_50 : decode (mCd M_Y_keeps) 50 = .ok (.iload_n 2, 1) := by decide +kernel
theorem d_Y_keeps_51 : decode (mCd M_Y_keeps) 51 = .ok (.invokestatic 370, 3) := by decide +kernel
theorem d_Y_keeps_54 : decode (mCd M_Y_keeps) 54 = .ok (.isub, 1) := by decide +kernel
theorem d_Y_keeps_55 : decode (mCd M_Y_keeps) 55 = .ok (.istore 4, 2) := by decide +kernel
theorem d_Y_keeps_57 : decode (mCd M_Y_keeps) 57 = .ok (.iload 4, 2) := by decide +kernel
theorem d_Y_keeps_59 : decode (mCd M_Y_keeps) 59 = .ok (.ifCond .gt 21, 3) := by decide +kernel
theorem d_Y_keeps_62 : decode (mCd M_Y_keeps) 62 = .ok (.iload 4, 2) := by decide +kernel
theorem d_Y_keeps_64 : decode (mCd M_Y_keeps) 64 = .ok (.ifCond .ne 20, 3) := by decide +kernel
theorem d_Y_keeps_67 : decode (mCd M_Y_keeps) 67 = .ok (.aload_n 0, 1) := by decide +kernel
theorem d_Y_keeps_68 : decode (mCd M_Y_keeps) 68 = .ok (.iload_n 3, 1) := by decide +kernel
theorem d_Y_keeps_69 : decode (mCd M_Y_keeps) 69 = .ok (.invokevirtual 436, 3) := by decide +kernel
theorem d_Y_keeps_72 : decode (mCd M_Y_keeps) 72 = .ok (.aload_n 0, 1) := by decide +kernel
theorem d_Y_keeps_73 : decode (mCd M_Y_keeps) 73 = .ok (.iload_n 2, 1) := by decide +kernel
theorem d_Y_keeps_74 : decode (mCd M_Y_keeps) 74 = .ok (.invokevirtual 436, 3) := by decide +kernel
theorem d_Y_keeps_77 : decode (mCd M_Y_keeps) 77 = .ok (.if_icmp .ge 7, 3) := by decide +kernel
theorem d_Y_keeps_80 : decode (mCd M_Y_keeps) 80 = .ok (.iload_n 3, 1) := by decide +kernel
theorem d_Y_keeps_81 : decode (mCd M_Y_keeps) 81 = .ok (.goto 4, 3) := by decide +kernel
theorem d_Y_keeps_84 : decode (mCd M_Y_keeps) 84 = .ok (.iload_n 2, 1) := by decide +kernel
theorem d_Y_keeps_85 : decode (mCd M_Y_keeps) 85 = .ok (.istore_n 2, 1) := by decide +kernel
theorem d_Y_keeps_86 : decode (mCd M_Y_keeps) 86 = .ok (.iinc 3 1, 3) := by decide +kernel
theorem d_Y_keeps_89 : decode (mCd M_Y_keeps) 89 = .ok (.goto (-71), 3) := by decide +kernel
theorem d_Y_keeps_92 : decode (mCd M_Y_keeps) 92 = .ok (.aload_n 0, 1) := by decide +kernel
theorem d_Y_keeps_93 : decode (mCd M_Y_keeps) 93 = .ok (.iconst 0, 1) := by decide +kernel
theorem d_Y_keeps_94 : decode (mCd M_Y_keeps) 94 = .ok (.putfield 15, 3) := by decide +kernel
theorem d_Y_keeps_97 : decode (mCd M_Y_keeps) 97 = .ok (.aload_n 0, 1) := by decide +kernel
theorem d_Y_keeps_98 : decode (mCd M_Y_keeps) 98 = .ok (.iload_n 2, 1) := by decide +kernel
theorem d_Y_keeps_99 : decode (mCd M_Y_keeps) 99 = .ok (.i2l, 1) := by decide +kernel
theorem d_Y_keeps_100 : decode (mCd M_Y_keeps) 100 = .ok (.invokevirtual 18, 3) := by decide +kernel
theorem d_Y_keeps_103 : decode (mCd M_Y_keeps) 103 = .ok (.aload_n 0, 1) := by decide +kernel
theorem d_Y_keeps_104 : decode (mCd M_Y_keeps) 104 = .ok (.aload_n 0, 1) := by decide +kernel
theorem d_Y_keeps_105 : decode (mCd M_Y_keeps) 105 = .ok (.getfield 51, 3) := by decide +kernel
theorem d_Y_keeps_108 : decode (mCd M_Y_keeps) 108 = .ok (.bipush 34, 2) := by decide +kernel
theorem d_Y_keeps_110 : decode (mCd M_Y_keeps) 110 = .ok (.iaload, 1) := by decide +kernel
theorem d_Y_keeps_111 : decode (mCd M_Y_keeps) 111 = .ok (.aload_n 0, 1) := by decide +kernel
theorem d_Y_keeps_112 : decode (mCd M_Y_keeps) 112 = .ok (.iload_n 2, 1) := by decide +kernel
theorem d_Y_keeps_113 : decode (mCd M_Y_keeps) 113 = .ok (.invokevirtual 436, 3) := by decide +kernel
theorem d_Y_keeps_116 : decode (mCd M_Y_keeps) 116 = .ok (.isub, 1) := by decide +kernel
theorem d_Y_keeps_117 : decode (mCd M_Y_keeps) 117 = .ok (.i2l, 1) := by decide +kernel
theorem d_Y_keeps_118 : decode (mCd M_Y_keeps) 118 = .ok (.invokevirtual 18, 3) := by decide +kernel
theorem d_Y_keeps_121 : decode (mCd M_Y_keeps) 121 = .ok (.iload_n 2, 1) := by decide +kernel
theorem d_Y_keeps_122 : decode (mCd M_Y_keeps) 122 = .ok (.invokestatic 370, 3) := by decide +kernel
theorem d_Y_keeps_125 : decode (mCd M_Y_keeps) 125 = .ok (.ireturn, 1) := by decide +kernel
theorem d_Y_owed_0 : decode (mCd M_Y_owed) 0 = .ok (.aload_n 0, 1) := by decide +kernel
theorem d_Y_owed_1 : decode (mCd M_Y_owed) 1 = .ok (.iconst 0, 1) := by decide +kernel
theorem d_Y_owed_2 : decode (mCd M_Y_owed) 2 = .ok (.putfield 3, 3) := by decide +kernel
theorem d_Y_owed_5 : decode (mCd M_Y_owed) 5 = .ok (.aload_n 0, 1) := by decide +kernel
theorem d_Y_owed_6 : decode (mCd M_Y_owed) 6 = .ok (.aload_n 0, 1) := by decide +kernel
theorem d_Y_owed_7 : decode (mCd M_Y_owed) 7 = .ok (.aload_n 0, 1) := by decide +kernel
theorem d_Y_owed_8 : decode (mCd M_Y_owed) 8 = .ok (.getfield 51, 3) := by decide +kernel
theorem d_Y_owed_11 : decode (mCd M_Y_owed) 11 = .ok (.invokevirtual 367, 3) := by decide +kernel
theorem d_Y_owed_14 : decode (mCd M_Y_owed) 14 = .ok (.invokevirtual 436, 3) := by decide +kernel
theorem d_Y_owed_17 : decode (mCd M_Y_owed) 17 = .ok (.istore_n 1, 1) := by decide +kernel
theorem d_Y_owed_18 : decode (mCd M_Y_owed) 18 = .ok (.aload_n 0, 1) := by decide +kernel
theorem d_Y_owed_19 : decode (mCd M_Y_owed) 19 = .ok (.iconst 0, 1) := by decide +kernel
theorem d_Y_owed_20 : decode (mCd M_Y_owed) 20 = .ok (.putfield 15, 3) := by decide +kernel
theorem d_Y_owed_23 : decode (mCd M_Y_owed) 23 = .ok (.aload_n 0, 1) := by decide +kernel
theorem d_Y_owed_24 : decode (mCd M_Y_owed) 24 = .ok (.iconst 0, 1) := by decide +kernel
theorem d_Y_owed_25 : decode (mCd M_Y_owed) 25 = .ok (.iload_n 1, 1) := by decide +kernel
theorem d_Y_owed_26 : decode (mCd M_Y_owed) 26 = .ok (.aload_n 0, 1) := by decide +kernel
theorem d_Y_owed_27 : decode (mCd M_Y_owed) 27 = .ok (.getfield 51, 3) := by decide +kernel
theorem d_Y_owed_30 : decode (mCd M_Y_owed) 30 = .ok (.bipush 34, 2) := by decide +kernel
theorem d_Y_owed_32 : decode (mCd M_Y_owed) 32 = .ok (.iaload, 1) := by decide +kernel
theorem d_Y_owed_33 : decode (mCd M_Y_owed) 33 = .ok (.isub, 1) := by decide +kernel
theorem d_Y_owed_34 : decode (mCd M_Y_owed) 34 = .ok (.invokestatic 293, 3) := by decide +kernel
theorem d_Y_owed_37 : decode (mCd M_Y_owed) 37 = .ok (.i2l, 1) := by decide +kernel
theorem d_Y_owed_38 : decode (mCd M_Y_owed) 38 = .ok (.invokevirtual 18, 3) := by decide +kernel
theorem d_Y_owed_41 : decode (mCd M_Y_owed) 41 = .ok (.aload_n 0, 1) := by decide +kernel
theorem d_Y_owed_42 : decode (mCd M_Y_owed) 42 = .ok (.aload_n 0, 1) := by decide +kernel
theorem d_Y_owed_43 : decode (mCd M_Y_owed) 43 = .ok (.aload_n 0, 1) := by decide +kernel
theorem d_Y_owed_44 : decode (mCd M_Y_owed) 44 = .ok (.getfield 51, 3) := by decide +kernel
theorem d_Y_owed_47 : decode (mCd M_Y_owed) 47 = .ok (.invokevirtual 367, 3) := by decide +kernel
theorem d_Y_owed_50 : decode (mCd M_Y_owed) 50 = .ok (.i2l, 1) := by decide +kernel
theorem d_Y_owed_51 : decode (mCd M_Y_owed) 51 = .ok (.invokevirtual 18, 3) := by decide +kernel
theorem d_Y_owed_54 : decode (mCd M_Y_owed) 54 = .ok (.iload_n 1, 1) := by decide +kernel
theorem d_Y_owed_55 : decode (mCd M_Y_owed) 55 = .ok (.ireturn, 1) := by decide +kernel
theorem d_Y_fates_0 : decode (mCd M_Y_fates) 0 = .ok (.aload_n 0, 1) := by decide +kernel
theorem d_Y_fates_1 : decode (mCd M_Y_fates) 1 = .ok (.iconst 0, 1) := by decide +kernel
theorem d_Y_fates_2 : decode (mCd M_Y_fates) 2 = .ok (.putfield 3, 3) := by decide +kernel
theorem d_Y_fates_5 : decode (mCd M_Y_fates) 5 = .ok (.iload_n 1, 1) := by decide +kernel
theorem d_Y_fates_6 : decode (mCd M_Y_fates) 6 = .ok (.i2l, 1) := by decide +kernel
theorem d_Y_fates_7 : decode (mCd M_Y_fates) 7 = .ok (.lconst 1, 1) := by decide +kernel
theorem d_Y_fates_8 : decode (mCd M_Y_fates) 8 = .ok (.ldc2_w 375, 3) := by decide +kernel
theorem d_Y_fates_11 : decode (mCd M_Y_fates) 11 = .ok (.invokestatic 142, 3) := by decide +kernel
theorem d_Y_fates_14 : decode (mCd M_Y_fates) 14 = .ok (.ifCond .ne 5, 3) := by decide +kernel
theorem d_Y_fates_17 : decode (mCd M_Y_fates) 17 = .ok (.iconst (-1), 1) := by decide +kernel
theorem d_Y_fates_18 : decode (mCd M_Y_fates) 18 = .ok (.ireturn, 1) := by decide +kernel
theorem d_Y_fates_19 : decode (mCd M_Y_fates) 19 = .ok (.aload_n 0, 1) := by decide +kernel
theorem d_Y_fates_20 : decode (mCd M_Y_fates) 20 = .ok (.invokevirtual 409, 3) := by decide +kernel
theorem d_Y_fates_23 : decode (mCd M_Y_fates) 23 = .ok (.aload_n 0, 1) := by decide +kernel
theorem d_Y_fates_24 : decode (mCd M_Y_fates) 24 = .ok (.aload_n 0, 1) := by decide +kernel
theorem d_Y_fates_25 : decode (mCd M_Y_fates) 25 = .ok (.getfield 51, 3) := by decide +kernel
theorem d_Y_fates_28 : decode (mCd M_Y_fates) 28 = .ok (.invokevirtual 367, 3) := by decide +kernel
theorem d_Y_fates_31 : decode (mCd M_Y_fates) 31 = .ok (.istore_n 2, 1) := by decide +kernel
theorem d_Y_fates_32 : decode (mCd M_Y_fates) 32 = .ok (.iconst 0, 1) := by decide +kernel
theorem d_Y_fates_33 : decode (mCd M_Y_fates) 33 = .ok (.istore_n 3, 1) := by decide +kernel
theorem d_Y_fates_34 : decode (mCd M_Y_fates) 34 = .ok (.iconst 0, 1) := by decide +kernel
theorem d_Y_fates_35 : decode (mCd M_Y_fates) 35 = .ok (.istore 4, 2) := by decide +kernel
theorem d_Y_fates_37 : decode (mCd M_Y_fates) 37 = .ok (.iload 4, 2) := by decide +kernel
theorem d_Y_fates_39 : decode (mCd M_Y_fates) 39 = .ok (.iload_n 1, 1) := by decide +kernel
theorem d_Y_fates_40 : decode (mCd M_Y_fates) 40 = .ok (.if_icmp .ge 95, 3) := by decide +kernel
theorem d_Y_fates_43 : decode (mCd M_Y_fates) 43 = .ok (.aload_n 0, 1) := by decide +kernel
theorem d_Y_fates_44 : decode (mCd M_Y_fates) 44 = .ok (.aload_n 0, 1) := by decide +kernel
theorem d_Y_fates_45 : decode (mCd M_Y_fates) 45 = .ok (.getfield 54, 3) := by decide +kernel
theorem d_Y_fates_48 : decode (mCd M_Y_fates) 48 = .ok (.invokevirtual 367, 3) := by decide +kernel
theorem d_Y_fates_51 : decode (mCd M_Y_fates) 51 = .ok (.istore 5, 2) := by decide +kernel
theorem d_Y_fates_53 : decode (mCd M_Y_fates) 53 = .ok (.aload_n 0, 1) := by decide +kernel
theorem d_Y_fates_54 : decode (mCd M_Y_fates) 54 = .ok (.aload_n 0, 1) := by decide +kernel
theorem d_Y_fates_55 : decode (mCd M_Y_fates) 55 = .ok (.getfield 54, 3) := by decide +kernel
theorem d_Y_fates_58 : decode (mCd M_Y_fates) 58 = .ok (.invokevirtual 362, 3) := by decide +kernel
theorem d_Y_fates_61 : decode (mCd M_Y_fates) 61 = .ok (.iload 5, 2) := by decide +kernel
theorem d_Y_fates_63 : decode (mCd M_Y_fates) 63 = .ok (.aload_n 0, 1) := by decide +kernel
theorem d_Y_fates_64 : decode (mCd M_Y_fates) 64 = .ok (.aload_n 0, 1) := by decide +kernel
theorem d_Y_fates_65 : decode (mCd M_Y_fates) 65 = .ok (.getfield 54, 3) := by decide +kernel
theorem d_Y_fates_68 : decode (mCd M_Y_fates) 68 = .ok (.invokevirtual 367, 3) := by decide +kernel
theorem d_Y_fates_71 : decode (mCd M_Y_fates) 71 = .ok (.iconst (-1), 1) := by decide +kernel
theorem d_Y_fates_72 : decode (mCd M_Y_fates) 72 = .ok (.ixor, 1) := by decide +kernel
theorem d_Y_fates_73 : decode (mCd M_Y_fates) 73 = .ok (.iand, 1) := by decide +kernel
theorem d_Y_fates_74 : decode (mCd M_Y_fates) 74 = .ok (.istore 6, 2) := by decide +kernel
theorem d_Y_fates_76 : decode (mCd M_Y_fates) 76 = .ok (.iconst 0, 1) := by decide +kernel
theorem d_Y_fates_77 : decode (mCd M_Y_fates) 77 = .ok (.istore 7, 2) := by decide +kernel
theorem d_Y_fates_79 : decode (mCd M_Y_fates) 79 = .ok (.iload 7, 2) := by decide +kernel
theorem d_Y_fates_81 : decode (mCd M_Y_fates) 81 = .ok (.aload_n 0, 1) := by decide +kernel
theorem d_Y_fates_82 : decode (mCd M_Y_fates) 82 = .ok (.getfield 146, 3) := by decide +kernel
theorem d_Y_fates_85 : decode (mCd M_Y_fates) 85 = .ok (.if_icmp .ge 44, 3) := by decide +kernel
theorem d_Y_fates_88 : decode (mCd M_Y_fates) 88 = .ok (.iload_n 3, 1) := by decide +kernel
theorem d_Y_fates_89 : decode (mCd M_Y_fates) 89 = .ok (.iload 6, 2) := by decide +kernel
theorem d_Y_fates_91 : decode (mCd M_Y_fates) 91 = .ok (.i2l, 1) := by decide +kernel
theorem d_Y_fates_92 : decode (mCd M_Y_fates) 92 = .ok (.iload 7, 2) := by decide +kernel
theorem d_Y_fates_94 : decode (mCd M_Y_fates) 94 = .ok (.invokestatic 280, 3) := by decide +kernel
theorem d_Y_fates_97 : decode (mCd M_Y_fates) 97 = .ok (.ifCond .eq 23, 3) := by decide +kernel
theorem d_Y_fates_100 : decode (mCd M_Y_fates) 100 = .ok (.aload_n 0, 1) := by decide +kernel
theorem d_Y_fates_101 : decode (mCd M_Y_fates) 101 = .ok (.getfield 54, 3) := by decide +kernel
theorem d_Y_fates_104 : decode (mCd M_Y_fates) 104 = .ok (.bipush 9, 2) := by decide +kernel
theorem d_Y_fates_106 : decode (mCd M_Y_fates) 106 = .ok (.iload 7, 2) := by decide +kernel
theorem d_Y_fates_108 : decode (mCd M_Y_fates) 108 = .ok (.iadd, 1) := by decide +kernel
theorem d_Y_fates_109 : decode (mCd M_Y_fates) 109 = .ok (.iaload, 1) := by decide +kernel
theorem d_Y_fates_110 : decode (mCd M_Y_fates) 110 = .ok (.ifCond .le 10, 3) := by decide +kernel
theorem d_Y_fates_113 : decode (mCd M_Y_fates) 113 = .ok (.iconst 1, 1) := by decide +kernel
theorem d_Y_fates_114 : decode (mCd M_Y_fates) 114 = .ok (.iload 7, 2) := by decide +kernel
theorem d_Y_fates_116 : decode (mCd M_Y_fates) 116 = .ok (.ishl, 1) := by decide +kernel
theorem d_Y_fates_117 : decode (mCd M_Y_fates) 117 = .ok (.goto 4, 3) := by decide +kernel
theorem d_Y_fates_120 : decode (mCd M_Y_fates) 120 = .ok (.iconst 0, 1) := by decide +kernel
theorem d_Y_fates_121 : decode (mCd M_Y_fates) 121 = .ok (.ior, 1) := by decide +kernel
theorem d_Y_fates_122 : decode (mCd M_Y_fates) 122 = .ok (.istore_n 3, 1) := by decide +kernel
theorem d_Y_fates_123 : decode (mCd M_Y_fates) 123 = .ok (.iinc 7 1, 3) := by decide +kernel
theorem d_Y_fates_126 : decode (mCd M_Y_fates) 126 = .ok (.goto (-47), 3) := by decide +kernel
theorem d_Y_fates_129 : decode (mCd M_Y_fates) 129 = .ok (.iinc 4 1, 3) := by decide +kernel
theorem d_Y_fates_132 : decode (mCd M_Y_fates) 132 = .ok (.goto (-95), 3) := by decide +kernel
theorem d_Y_fates_135 : decode (mCd M_Y_fates) 135 = .ok (.aload_n 0, 1) := by decide +kernel
theorem d_Y_fates_136 : decode (mCd M_Y_fates) 136 = .ok (.iconst 0, 1) := by decide +kernel
theorem d_Y_fates_137 : decode (mCd M_Y_fates) 137 = .ok (.putfield 15, 3) := by decide +kernel
theorem d_Y_fates_140 : decode (mCd M_Y_fates) 140 = .ok (.aload_n 0, 1) := by decide +kernel
theorem d_Y_fates_141 : decode (mCd M_Y_fates) 141 = .ok (.iload_n 2, 1) := by decide +kernel
theorem d_Y_fates_142 : decode (mCd M_Y_fates) 142 = .ok (.aload_n 0, 1) := by decide +kernel
theorem d_Y_fates_143 : decode (mCd M_Y_fates) 143 = .ok (.aload_n 0, 1) := by decide +kernel
theorem d_Y_fates_144 : decode (mCd M_Y_fates) 144 = .ok (.getfield 54, 3) := by decide +kernel
theorem d_Y_fates_147 : decode (mCd M_Y_fates) 147 = .ok (.invokevirtual 367, 3) := by decide +kernel
theorem d_Y_fates_150 : decode (mCd M_Y_fates) 150 = .ok (.iconst (-1), 1) := by decide +kernel
theorem d_Y_fates_151 : decode (mCd M_Y_fates) 151 = .ok (.ixor, 1) := by decide +kernel
theorem d_Y_fates_152 : decode (mCd M_Y_fates) 152 = .ok (.iand, 1) := by decide +kernel
theorem d_Y_fates_153 : decode (mCd M_Y_fates) 153 = .ok (.iload_n 3, 1) := by decide +kernel
theorem d_Y_fates_154 : decode (mCd M_Y_fates) 154 = .ok (.iconst (-1), 1) := by decide +kernel
theorem d_Y_fates_155 : decode (mCd M_Y_fates) 155 = .ok (.ixor, 1) := by decide +kernel
theorem d_Y_fates_156 : decode (mCd M_Y_fates) 156 = .ok (.iand, 1) := by decide +kernel
theorem d_Y_fates_157 : decode (mCd M_Y_fates) 157 = .ok (.i2l, 1) := by decide +kernel
theorem d_Y_fates_158 : decode (mCd M_Y_fates) 158 = .ok (.invokevirtual 18, 3) := by decide +kernel
theorem d_Y_fates_161 : decode (mCd M_Y_fates) 161 = .ok (.aload_n 0, 1) := by decide +kernel
theorem d_Y_fates_162 : decode (mCd M_Y_fates) 162 = .ok (.aload_n 0, 1) := by decide +kernel
theorem d_Y_fates_163 : decode (mCd M_Y_fates) 163 = .ok (.aload_n 0, 1) := by decide +kernel
theorem d_Y_fates_164 : decode (mCd M_Y_fates) 164 = .ok (.getfield 54, 3) := by decide +kernel
theorem d_Y_fates_167 : decode (mCd M_Y_fates) 167 = .ok (.invokevirtual 367, 3) := by decide +kernel
theorem d_Y_fates_170 : decode (mCd M_Y_fates) 170 = .ok (.i2l, 1) := by decide +kernel
theorem d_Y_fates_171 : decode (mCd M_Y_fates) 171 = .ok (.invokevirtual 18, 3) := by decide +kernel
theorem d_Y_fates_174 : decode (mCd M_Y_fates) 174 = .ok (.iload_n 3, 1) := by decide +kernel
theorem d_Y_fates_175 : decode (mCd M_Y_fates) 175 = .ok (.ireturn, 1) := by decide +kernel
theorem d_Y_minds_0 : decode (mCd M_Y_minds) 0 = .ok (.aload_n 0, 1) := by decide +kernel
theorem d_Y_minds_1 : decode (mCd M_Y_minds) 1 = .ok (.iconst 0, 1) := by decide +kernel
theorem d_Y_minds_2 : decode (mCd M_Y_minds) 2 = .ok (.putfield 3, 3) := by decide +kernel
theorem d_Y_minds_5 : decode (mCd M_Y_minds) 5 = .ok (.iconst 0, 1) := by decide +kernel
theorem d_Y_minds_6 : decode (mCd M_Y_minds) 6 = .ok (.istore_n 1, 1) := by decide +kernel
theorem d_Y_minds_7 : decode (mCd M_Y_minds) 7 = .ok (.iconst 0, 1) := by decide +kernel
theorem d_Y_minds_8 : decode (mCd M_Y_minds) 8 = .ok (.istore_n 2, 1) := by decide +kernel
theorem d_Y_minds_9 : decode (mCd M_Y_minds) 9 = .ok (.iconst 0, 1) := by decide +kernel
theorem d_Y_minds_10 : decode (mCd M_Y_minds) 10 = .ok (.istore_n 3, 1) := by decide +kernel
theorem d_Y_minds_11 : decode (mCd M_Y_minds) 11 = .ok (.iload_n 3, 1) := by decide +kernel
theorem d_Y_minds_12 : decode (mCd M_Y_minds) 12 = .ok (.aload_n 0, 1) := by decide +kernel
theorem d_Y_minds_13 : decode (mCd M_Y_minds) 13 = .ok (.getfield 146, 3) := by decide +kernel
theorem d_Y_minds_16 : decode (mCd M_Y_minds) 16 = .ok (.if_icmp .ge 60, 3) := by decide +kernel
theorem d_Y_minds_19 : decode (mCd M_Y_minds) 19 = .ok (.aload_n 0, 1) := by decide +kernel
theorem d_Y_minds_20 : decode (mCd M_Y_minds) 20 = .ok (.aload_n 0, 1) := by decide +kernel
theorem d_Y_minds_21 : decode (mCd M_Y_minds) 21 = .ok (.getfield 51, 3) := by decide +kernel
theorem d_Y_minds_24 : decode (mCd M_Y_minds) 24 = .ok (.iload_n 3, 1) := by decide +kernel
theorem d_Y_minds_25 : decode (mCd M_Y_minds) 25 = .ok (.invokevirtual 303, 3) := by decide +kernel
theorem d_Y_minds_28 : decode (mCd M_Y_minds) 28 = .ok (.istore 4, 2) := by decide +kernel
theorem d_Y_minds_30 : decode (mCd M_Y_minds) 30 = .ok (.iload_n 1, 1) := by decide +kernel
theorem d_Y_minds_31 : decode (mCd M_Y_minds) 31 = .ok (.iload 4, 2) := by decide +kernel
theorem d_Y_minds_33 : decode (mCd M_Y_minds) 33 = .ok (.ifCond .eq 9, 3) := by decide +kernel
theorem d_Y_minds_36 : decode (mCd M_Y_minds) 36 = .ok (.iconst 1, 1) := by decide +kernel
theorem d_Y_minds_37 : decode (mCd M_Y_minds) 37 = .ok (.iload_n 3, 1) := by decide +kernel
theorem d_Y_minds_38 : decode (mCd M_Y_minds) 38 = .ok (.ishl, 1) := by decide +kernel
theorem d_Y_minds_39 : decode (mCd M_Y_minds) 39 = .ok (.goto 4, 3) := by decide +kernel
theorem d_Y_minds_42 : decode (mCd M_Y_minds) 42 = .ok (.iconst 0, 1) := by decide +kernel
theorem d_Y_minds_43 : decode (mCd M_Y_minds) 43 = .ok (.ior, 1) := by decide +kernel
theorem d_Y_minds_44 : decode (mCd M_Y_minds) 44 = .ok (.istore_n 1, 1) := by decide +kernel
theorem d_Y_minds_45 : decode (mCd M_Y_minds) 45 = .ok (.iload_n 2, 1) := by decide +kernel
theorem d_Y_minds_46 : decode (mCd M_Y_minds) 46 = .ok (.iload 4, 2) := by decide +kernel
theorem d_Y_minds_48 : decode (mCd M_Y_minds) 48 = .ok (.ifCond .eq 19, 3) := by decide +kernel
theorem d_Y_minds_51 : decode (mCd M_Y_minds) 51 = .ok (.aload_n 0, 1) := by decide +kernel
theorem d_Y_minds_52 : decode (mCd M_Y_minds) 52 = .ok (.getfield 45, 3) := by decide +kernel
theorem d_Y_minds_55 : decode (mCd M_Y_minds) 55 = .ok (.iload_n 3, 1) := by decide +kernel
theorem d_Y_minds_56 : decode (mCd M_Y_minds) 56 = .ok (.iaload, 1) := by decide +kernel
theorem d_Y_minds_57 : decode (mCd M_Y_minds) 57 = .ok (.iconst 3, 1) := by decide +kernel
theorem d_Y_minds_58 : decode (mCd M_Y_minds) 58 = .ok (.if_icmp .ne 9, 3) := by decide +kernel
theorem d_Y_minds_61 : decode (mCd M_Y_minds) 61 = .ok (.iconst 1, 1) := by decide +kernel
theorem d_Y_minds_62 : decode (mCd M_Y_minds) 62 = .ok (.iload_n 3, 1) := by decide +kernel
theorem d_Y_minds_63 : decode (mCd M_Y_minds) 63 = .ok (.ishl, 1) := by decide +kernel
theorem d_Y_minds_64 : decode (mCd M_Y_minds) 64 = .ok (.goto 4, 3) := by decide +kernel
theorem d_Y_minds_67 : decode (mCd M_Y_minds) 67 = .ok (.iconst 0, 1) := by decide +kernel
theorem d_Y_minds_68 : decode (mCd M_Y_minds) 68 = .ok (.ior, 1) := by decide +kernel
theorem d_Y_minds_69 : decode (mCd M_Y_minds) 69 = .ok (.istore_n 2, 1) := by decide +kernel
theorem d_Y_minds_70 : decode (mCd M_Y_minds) 70 = .ok (.iinc 3 1, 3) := by decide +kernel
theorem d_Y_minds_73 : decode (mCd M_Y_minds) 73 = .ok (.goto (-62), 3) := by decide +kernel
theorem d_Y_minds_76 : decode (mCd M_Y_minds) 76 = .ok (.aload_n 0, 1) := by decide +kernel
theorem d_Y_minds_77 : decode (mCd M_Y_minds) 77 = .ok (.iconst 0, 1) := by decide +kernel
theorem d_Y_minds_78 : decode (mCd M_Y_minds) 78 = .ok (.putfield 15, 3) := by decide +kernel
theorem d_Y_minds_81 : decode (mCd M_Y_minds) 81 = .ok (.aload_n 0, 1) := by decide +kernel
theorem d_Y_minds_82 : decode (mCd M_Y_minds) 82 = .ok (.iload_n 1, 1) := by decide +kernel
theorem d_Y_minds_83 : decode (mCd M_Y_minds) 83 = .ok (.invokestatic 370, 3) := by decide +kernel
theorem d_Y_minds_86 : decode (mCd M_Y_minds) 86 = .ok (.i2l, 1) := by decide +kernel
theorem d_Y_minds_87 : decode (mCd M_Y_minds) 87 = .ok (.invokevirtual 18, 3) := by decide +kernel
theorem d_Y_minds_90 : decode (mCd M_Y_minds) 90 = .ok (.aload_n 0, 1) := by decide +kernel
theorem d_Y_minds_91 : decode (mCd M_Y_minds) 91 = .ok (.iload_n 2, 1) := by decide +kernel
theorem d_Y_minds_92 : decode (mCd M_Y_minds) 92 = .ok (.i2l, 1) := by decide +kernel
theorem d_Y_minds_93 : decode (mCd M_Y_minds) 93 = .ok (.invokevirtual 18, 3) := by decide +kernel
theorem d_Y_minds_96 : decode (mCd M_Y_minds) 96 = .ok (.iload_n 1, 1) := by decide +kernel
theorem d_Y_minds_97 : decode (mCd M_Y_minds) 97 = .ok (.ireturn, 1) := by decide +kernel
theorem d_Y_pullOf_0 : decode (mCd M_Y_pullOf) 0 = .ok (.iconst 0, 1) := by decide +kernel
theorem d_Y_pullOf_1 : decode (mCd M_Y_pullOf) 1 = .ok (.istore_n 2, 1) := by decide +kernel
theorem d_Y_pullOf_2 : decode (mCd M_Y_pullOf) 2 = .ok (.iconst 0, 1) := by decide +kernel
theorem d_Y_pullOf_3 : decode (mCd M_Y_pullOf) 3 = .ok (.istore_n 3, 1) := by decide +kernel
theorem d_Y_pullOf_4 : decode (mCd M_Y_pullOf) 4 = .ok (.iload_n 3, 1) := by decide +kernel
theorem d_Y_pullOf_5 : decode (mCd M_Y_pullOf) 5 = .ok (.aload_n 0, 1) := by decide +kernel
theorem d_Y_pullOf_6 : decode (mCd M_Y_pullOf) 6 = .ok (.getfield 146, 3) := by decide +kernel
theorem d_Y_pullOf_9 : decode (mCd M_Y_pullOf) 9 = .ok (.if_icmp .ge 31, 3) := by decide +kernel
theorem d_Y_pullOf_12 : decode (mCd M_Y_pullOf) 12 = .ok (.iload_n 2, 1) := by decide +kernel
theorem d_Y_pullOf_13 : decode (mCd M_Y_pullOf) 13 = .ok (.iload_n 1, 1) := by decide +kernel
theorem d_Y_pullOf_14 : decode (mCd M_Y_pullOf) 14 = .ok (.i2l, 1) := by decide +kernel
theorem d_Y_pullOf_15 : decode (mCd M_Y_pullOf) 15 = .ok (.iload_n 3, 1) := by decide +kernel
theorem d_Y_pullOf_16 : decode (mCd M_Y_pullOf) 16 = .ok (.invokestatic 280, 3) := by decide +kernel
theorem d_Y_pullOf_19 : decode (mCd M_Y_pullOf) 19 = .ok (.ifCond .eq 12, 3) := by decide +kernel
theorem d_Y_pullOf_22 : decode (mCd M_Y_pullOf) 22 = .ok (.aload_n 0, 1) := by decide +kernel
theorem d_Y_pullOf_23 : decode (mCd M_Y_pullOf) 23 = .ok (.getfield 78, 3) := by decide +kernel
theorem d_Y_pullOf_26 : decode (mCd M_Y_pullOf) 26 = .ok (.iload_n 3, 1) := by decide +kernel
theorem d_Y_pullOf_27 : decode (mCd M_Y_pullOf) 27 = .ok (.iaload, 1) := by decide +kernel
theorem d_Y_pullOf_28 : decode (mCd M_Y_pullOf) 28 = .ok (.goto 4, 3) := by decide +kernel
theorem d_Y_pullOf_31 : decode (mCd M_Y_pullOf) 31 = .ok (.iconst 0, 1) := by decide +kernel
theorem d_Y_pullOf_32 : decode (mCd M_Y_pullOf) 32 = .ok (.iadd, 1) := by decide +kernel
theorem d_Y_pullOf_33 : decode (mCd M_Y_pullOf) 33 = .ok (.istore_n 2, 1) := by decide +kernel
theorem d_Y_pullOf_34 : decode (mCd M_Y_pullOf) 34 = .ok (.iinc 3 1, 3) := by decide +kernel
theorem d_Y_pullOf_37 : decode (mCd M_Y_pullOf) 37 = .ok (.goto (-33), 3) := by decide +kernel
theorem d_Y_pullOf_40 : decode (mCd M_Y_pullOf) 40 = .ok (.iload_n 2, 1) := by decide +kernel
theorem d_Y_pullOf_41 : decode (mCd M_Y_pullOf) 41 = .ok (.ireturn, 1) := by decide +kernel
theorem d_Y_pulling_0 : decode (mCd M_Y_pulling) 0 = .ok (.iconst 0, 1) := by decide +kernel
theorem d_Y_pulling_1 : decode (mCd M_Y_pulling) 1 = .ok (.istore_n 1, 1) := by decide +kernel
theorem d_Y_pulling_2 : decode (mCd M_Y_pulling) 2 = .ok (.iconst 0, 1) := by decide +kernel
theorem d_Y_pulling_3 : decode (mCd M_Y_pulling) 3 = .ok (.istore_n 2, 1) := by decide +kernel
theorem d_Y_pulling_4 : decode (mCd M_Y_pulling) 4 = .ok (.iload_n 2, 1) := by decide +kernel
theorem d_Y_pulling_5 : decode (mCd M_Y_pulling) 5 = .ok (.aload_n 0, 1) := by decide +kernel
theorem d_Y_pulling_6 : decode (mCd M_Y_pulling) 6 = .ok (.getfield 146, 3) := by decide +kernel
theorem d_Y_pulling_9 : decode (mCd M_Y_pulling) 9 = .ok (.if_icmp .ge 28, 3) := by decide +kernel
theorem d_Y_pulling_12 : decode (mCd M_Y_pulling) 12 = .ok (.iload_n 1, 1) := by decide +kernel
theorem d_Y_pulling_13 : decode (mCd M_Y_pulling) 13 = .ok (.aload_n 0, 1) := by decide +kernel
theorem d_Y_pulling_14 : decode (mCd M_Y_pulling) 14 = .ok (.getfield 78, 3) := by decide +kernel
theorem d_Y_pulling_17 : decode (mCd M_Y_pulling) 17 = .ok (.iload_n 2, 1) := by decide +kernel
theorem d_Y_pulling_18 : decode (mCd M_Y_pulling) 18 = .ok (.iaload, 1) := by decide +kernel
theorem d_Y_pulling_19 : decode (mCd M_Y_pulling) 19 = .ok (.ifCond .le 9, 3) := by decide +kernel
theorem d_Y_pulling_22 : decode (mCd M_Y_pulling) 22 = .ok (.iconst 1, 1) := by decide +kernel
theorem d_Y_pulling_23 : decode (mCd M_Y_pulling) 23 = .ok (.iload_n 2, 1) := by decide +kernel
theorem d_Y_pulling_24 : decode (mCd M_Y_pulling) 24 = .ok (.ishl, 1) := by decide +kernel
theorem d_Y_pulling_25 : decode (mCd M_Y_pulling) 25 = .ok (.goto 4, 3) := by decide +kernel
theorem d_Y_pulling_28 : decode (mCd M_Y_pulling) 28 = .ok (.iconst 0, 1) := by decide +kernel
theorem d_Y_pulling_29 : decode (mCd M_Y_pulling) 29 = .ok (.ior, 1) := by decide +kernel
theorem d_Y_pulling_30 : decode (mCd M_Y_pulling) 30 = .ok (.istore_n 1, 1) := by decide +kernel
theorem d_Y_pulling_31 : decode (mCd M_Y_pulling) 31 = .ok (.iinc 2 1, 3) := by decide +kernel
theorem d_Y_pulling_34 : decode (mCd M_Y_pulling) 34 = .ok (.goto (-30), 3) := by decide +kernel
theorem d_Y_pulling_37 : decode (mCd M_Y_pulling) 37 = .ok (.iload_n 1, 1) := by decide +kernel
theorem d_Y_pulling_38 : decode (mCd M_Y_pulling) 38 = .ok (.ireturn, 1) := by decide +kernel
theorem d_Y_evens_0 : decode (mCd M_Y_evens) 0 = .ok (.aload_n 0, 1) := by decide +kernel
theorem d_Y_evens_1 : decode (mCd M_Y_evens) 1 = .ok (.iconst 0, 1) := by decide +kernel
theorem d_Y_evens_2 : decode (mCd M_Y_evens) 2 = .ok (.putfield 3, 3) := by decide +kernel
theorem d_Y_evens_5 : decode (mCd M_Y_evens) 5 = .ok (.aload_n 0, 1) := by decide +kernel
theorem d_Y_evens_6 : decode (mCd M_Y_evens) 6 = .ok (.aload_n 0, 1) := by decide +kernel
theorem d_Y_evens_7 : decode (mCd M_Y_evens) 7 = .ok (.getfield 51, 3) := by decide +kernel
theorem d_Y_evens_10 : decode (mCd M_Y_evens) 10 = .ok (.invokevirtual 324, 3) := by decide +kernel
theorem d_Y_evens_13 : decode (mCd M_Y_evens) 13 = .ok (.aload_n 0, 1) := by decide +kernel
theorem d_Y_evens_14 : decode (mCd M_Y_evens) 14 = .ok (.invokevirtual 439, 3) := by decide +kernel
theorem d_Y_evens_17 : decode (mCd M_Y_evens) 17 = .ok (.istore_n 1, 1) := by decide +kernel
theorem d_Y_evens_18 : decode (mCd M_Y_evens) 18 = .ok (.iconst 0, 1) := by decide +kernel
theorem d_Y_evens_19 : decode (mCd M_Y_evens) 19 = .ok (.istore_n 2, 1) := by decide +kernel
theorem d_Y_evens_20 : decode (mCd M_Y_evens) 20 = .ok (.iconst 1, 1) := by decide +kernel
theorem d_Y_evens_21 : decode (mCd M_Y_evens) 21 = .ok (.istore_n 3, 1) := by decide +kernel
theorem d_Y_evens_22 : decode (mCd M_Y_evens) 22 = .ok (.iload_n 3, 1) := by decide +kernel
theorem d_Y_evens_23 : decode (mCd M_Y_evens) 23 = .ok (.iload_n 1, 1) := by decide +kernel
theorem d_Y_evens_24 : decode (mCd M_Y_evens) 24 = .ok (.if_icmp .gt 70, 3) := by decide +kernel
theorem d_Y_evens_27 : decode (mCd M_Y_evens) 27 = .ok (.iload_n 3, 1) := by decide +kernel
theorem d_Y_evens_28 : decode (mCd M_Y_evens) 28 = .ok (.iload_n 1, 1) := by decide +kernel
theorem d_Y_evens_29 : decode (mCd M_Y_evens) 29 = .ok (.iconst (-1), 1) := by decide +kernel
theorem d_Y_evens_30 : decode (mCd M_Y_evens) 30 = .ok (.ixor, 1) := by decide +kernel
theorem d_Y_evens_31 : decode (mCd M_Y_evens) 31 = .ok (.iand, 1) := by decide +kernel
theorem d_Y_evens_32 : decode (mCd M_Y_evens) 32 = .ok (.ifCond .ne 7, 3) := by decide +kernel
theorem d_Y_evens_35 : decode (mCd M_Y_evens) 35 = .ok (.iconst 1, 1) := by decide +kernel
theorem d_Y_evens_36 : decode (mCd M_Y_evens) 36 = .ok (.goto 4, 3) := by decide +kernel
theorem d_Y_evens_39 : decode (mCd M_Y_evens) 39 = .ok (.iconst 0, 1) := by decide +kernel
theorem d_Y_evens_40 : decode (mCd M_Y_evens) 40 = .ok (.istore 4, 2) := by decide +kernel
theorem d_Y_evens_42 : decode (mCd M_Y_evens) 42 = .ok (.iload 4, 2) := by decide +kernel
theorem d_Y_evens_44 : decode (mCd M_Y_evens) 44 = .ok (.ifCond .eq 42, 3) := by decide +kernel
theorem d_Y_evens_47 : decode (mCd M_Y_evens) 47 = .ok (.aload_n 0, 1) := by decide +kernel
theorem d_Y_evens_48 : decode (mCd M_Y_evens) 48 = .ok (.iload_n 1, 1) := by decide +kernel
theorem d_Y_evens_49 : decode (mCd M_Y_evens) 49 = .ok (.invokevirtual 442, 3) := by decide +kernel
theorem d_Y_evens_52 : decode (mCd M_Y_evens) 52 = .ok (.iconst 2, 1) := by decide +kernel
theorem d_Y_evens_53 : decode (mCd M_Y_evens) 53 = .ok (.aload_n 0, 1) := by decide +kernel
theorem d_Y_evens_54 : decode (mCd M_Y_evens) 54 = .ok (.iload_n 3, 1) := by decide +kernel
theorem d_Y_evens_55 : decode (mCd M_Y_evens) 55 = .ok (.invokevirtual 442, 3) := by decide +kernel
theorem d_Y_evens_58 : decode (mCd M_Y_evens) 58 = .ok (.imul, 1) := by decide +kernel
theorem d_Y_evens_59 : decode (mCd M_Y_evens) 59 = .ok (.isub, 1) := by decide +kernel
theorem d_Y_evens_60 : decode (mCd M_Y_evens) 60 = .ok (.invokestatic 149, 3) := by decide +kernel
theorem d_Y_evens_63 : decode (mCd M_Y_evens) 63 = .ok (.aload_n 0, 1) := by decide +kernel
theorem d_Y_evens_64 : decode (mCd M_Y_evens) 64 = .ok (.iload_n 1, 1) := by decide +kernel
theorem d_Y_evens_65 : decode (mCd M_Y_evens) 65 = .ok (.invokevirtual 442, 3) := by decide +kernel
theorem d_Y_evens_68 : decode (mCd M_Y_evens) 68 = .ok (.iconst 2, 1) := by decide +kernel
theorem d_Y_evens_69 : decode (mCd M_Y_evens) 69 = .ok (.aload_n 0, 1) := by decide +kernel
theorem d_Y_evens_70 : decode (mCd M_Y_evens) 70 = .ok (.iload_n 2, 1) := by decide +kernel
theorem d_Y_evens_71 : decode (mCd M_Y_evens) 71 = .ok (.invokevirtual 442, 3) := by decide +kernel
theorem d_Y_evens_74 : decode (mCd M_Y_evens) 74 = .ok (.imul, 1) := by decide +kernel
theorem d_Y_evens_75 : decode (mCd M_Y_evens) 75 = .ok (.isub, 1) := by decide +kernel
theorem d_Y_evens_76 : decode (mCd M_Y_evens) 76 = .ok (.invokestatic 149, 3) := by decide +kernel
theorem d_Y_evens_79 : decode (mCd M_Y_evens) 79 = .ok (.if_icmp .ge 7, 3) := by decide +kernel
theorem d_Y_evens_82 : decode (mCd M_Y_evens) 82 = .ok (.iload_n 3, 1) := by decide +kernel
theorem d_Y_evens_83 : decode (mCd M_Y_evens) 83 = .ok (.goto 4, 3) := by decide +kernel
theorem d_Y_evens_86 : decode (mCd M_Y_evens) 86 = .ok (.iload_n 2, 1) := by decide +kernel
theorem d_Y_evens_87 : decode (mCd M_Y_evens) 87 = .ok (.istore_n 2, 1) := by decide +kernel
theorem d_Y_evens_88 : decode (mCd M_Y_evens) 88 = .ok (.iinc 3 1, 3) := by decide +kernel
theorem d_Y_evens_91 : decode (mCd M_Y_evens) 91 = .ok (.goto (-69), 3) := by decide +kernel
theorem d_Y_evens_94 : decode (mCd M_Y_evens) 94 = .ok (.aload_n 0, 1) := by decide +kernel
theorem d_Y_evens_95 : decode (mCd M_Y_evens) 95 = .ok (.iconst 0, 1) := by decide +kernel
theorem d_Y_evens_96 : decode (mCd M_Y_evens) 96 = .ok (.putfield 15, 3) := by decide +kernel
theorem d_Y_evens_99 : decode (mCd M_Y_evens) 99 = .ok (.aload_n 0, 1) := by decide +kernel
theorem d_Y_evens_100 : decode (mCd M_Y_evens) 100 = .ok (.iload_n 2, 1) := by decide +kernel
theorem d_Y_evens_101 : decode (mCd M_Y_evens) 101 = .ok (.i2l, 1) := by decide +kernel
theorem d_Y_evens_102 : decode (mCd M_Y_evens) 102 = .ok (.invokevirtual 18, 3) := by decide +kernel
theorem d_Y_evens_105 : decode (mCd M_Y_evens) 105 = .ok (.aload_n 0, 1) := by decide +kernel
theorem d_Y_evens_106 : decode (mCd M_Y_evens) 106 = .ok (.aload_n 0, 1) := by decide +kernel
theorem d_Y_evens_107 : decode (mCd M_Y_evens) 107 = .ok (.iload_n 2, 1) := by decide +kernel
theorem d_Y_evens_108 : decode (mCd M_Y_evens) 108 = .ok (.invokevirtual 442, 3) := by decide +kernel
theorem d_Y_evens_111 : decode (mCd M_Y_evens) 111 = .ok (.i2l, 1) := by decide +kernel
theorem d_Y_evens_112 : decode (mCd M_Y_evens) 112 = .ok (.invokevirtual 18, 3) := by decide +kernel
theorem d_Y_evens_115 : decode (mCd M_Y_evens) 115 = .ok (.aload_n 0, 1) := by decide +kernel
theorem d_Y_evens_116 : decode (mCd M_Y_evens) 116 = .ok (.iload_n 1, 1) := by decide +kernel
theorem d_Y_evens_117 : decode (mCd M_Y_evens) 117 = .ok (.invokevirtual 442, 3) := by decide +kernel
theorem d_Y_evens_120 : decode (mCd M_Y_evens) 120 = .ok (.iconst 2, 1) := by decide +kernel
theorem d_Y_evens_121 : decode (mCd M_Y_evens) 121 = .ok (.aload_n 0, 1) := by decide +kernel
theorem d_Y_evens_122 : decode (mCd M_Y_evens) 122 = .ok (.iload_n 2, 1) := by decide +kernel
theorem d_Y_evens_123 : decode (mCd M_Y_evens) 123 = .ok (.invokevirtual 442, 3) := by decide +kernel
theorem d_Y_evens_126 : decode (mCd M_Y_evens) 126 = .ok (.imul, 1) := by decide +kernel
theorem d_Y_evens_127 : decode (mCd M_Y_evens) 127 = .ok (.isub, 1) := by decide +kernel
theorem d_Y_evens_128 : decode (mCd M_Y_evens) 128 = .ok (.invokestatic 149, 3) := by decide +kernel
theorem d_Y_evens_131 : decode (mCd M_Y_evens) 131 = .ok (.ireturn, 1) := by decide +kernel
theorem d_Y_strongest_0 : decode (mCd M_Y_strongest) 0 = .ok (.aload_n 0, 1) := by decide +kernel
theorem d_Y_strongest_1 : decode (mCd M_Y_strongest) 1 = .ok (.iconst 0, 1) := by decide +kernel
theorem d_Y_strongest_2 : decode (mCd M_Y_strongest) 2 = .ok (.putfield 3, 3) := by decide +kernel
theorem d_Y_strongest_5 : decode (mCd M_Y_strongest) 5 = .ok (.aload_n 0, 1) := by decide +kernel
theorem d_Y_strongest_6 : decode (mCd M_Y_strongest) 6 = .ok (.getfield 146, 3) := by decide +kernel
theorem d_Y_strongest_9 : decode (mCd M_Y_strongest) 9 = .ok (.ifCond .ne 6, 3) := by decide +kernel
theorem d_Y_strongest_12 : decode (mCd M_Y_strongest) 12 = .ok (.bipush (-2), 2) := by decide +kernel
theorem d_Y_strongest_14 : decode (mCd M_Y_strongest) 14 = .ok (.ireturn, 1) := by decide +kernel
theorem d_Y_strongest_15 : decode (mCd M_Y_strongest) 15 = .ok (.aload_n 0, 1) := by decide +kernel
theorem d_Y_strongest_16 : decode (mCd M_Y_strongest) 16 = .ok (.aload_n 0, 1) := by decide +kernel
theorem d_Y_strongest_17 : decode (mCd M_Y_strongest) 17 = .ok (.getfield 51, 3) := by decide +kernel
theorem d_Y_strongest_20 : decode (mCd M_Y_strongest) 20 = .ok (.invokevirtual 324, 3) := by decide +kernel
theorem d_Y_strongest_23 : decode (mCd M_Y_strongest) 23 = .ok (.iconst 0, 1) := by decide +kernel
theorem d_Y_strongest_24 : decode (mCd M_Y_strongest) 24 = .ok (.istore_n 1, 1) := by decide +kernel
theorem d_Y_strongest_25 : decode (mCd M_Y_strongest) 25 = .ok (.iconst 0, 1) := by decide +kernel
theorem d_Y_strongest_26 : decode (mCd M_Y_strongest) 26 = .ok (.istore_n 2, 1) := by decide +kernel
theorem d_Y_strongest_27 : decode (mCd M_Y_strongest) 27 = .ok (.iconst 0, 1) := by decide +kernel
theorem d_Y_strongest_28 : decode (mCd M_Y_strongest) 28 = .ok (.istore_n 3, 1) := by decide +kernel
theorem d_Y_strongest_29 : decode (mCd M_Y_strongest) 29 = .ok (.iload_n 3, 1) := by decide +kernel
theorem d_Y_strongest_30 : decode (mCd M_Y_strongest) 30 = .ok (.aload_n 0, 1) := by decide +kernel
theorem d_Y_strongest_31 : decode (mCd M_Y_strongest) 31 = .ok (.getfield 146, 3) := by decide +kernel
theorem d_Y_strongest_34 : decode (mCd M_Y_strongest) 34 = .ok (.if_icmp .ge 79, 3) := by decide +kernel
theorem d_Y_strongest_37 : decode (mCd M_Y_strongest) 37 = .ok (.aload_n 0, 1) := by decide +kernel
theorem d_Y_strongest_38 : decode (mCd M_Y_strongest) 38 = .ok (.getfield 78, 3) := by decide +kernel
theorem d_Y_strongest_41 : decode (mCd M_Y_strongest) 41 = .ok (.iload_n 3, 1) := by decide +kernel
theorem d_Y_strongest_42 : decode (mCd M_Y_strongest) 42 = .ok (.iaload, 1) := by decide +kernel
theorem d_Y_strongest_43 : decode (mCd M_Y_strongest) 43 = .ok (.aload_n 0, 1) := by decide +kernel
theorem d_Y_strongest_44 : decode (mCd M_Y_strongest) 44 = .ok (.getfield 78, 3) := by decide +kernel
theorem d_Y_strongest_47 : decode (mCd M_Y_strongest) 47 = .ok (.iload_n 1, 1) := by decide +kernel
theorem d_Y_strongest_48 : decode (mCd M_Y_strongest) 48 = .ok (.iaload, 1) := by decide +kernel
theorem d_Y_strongest_49 : decode (mCd M_Y_strongest) 49 = .ok (.if_icmp .gt 7, 3) := by decide +kernel
theorem d_Y_strongest_52 : decode (mCd M_Y_strongest) 52 = .ok (.iload_n 3, 1) := by decide +kernel
theorem d_Y_strongest_53 : decode (mCd M_Y_strongest) 53 = .ok (.ifCond .ne 7, 3) := by decide +kernel
theorem d_Y_strongest_56 : decode (mCd M_Y_strongest) 56 = .ok (.iconst 1, 1) := by decide +kernel
theorem d_Y_strongest_57 : decode (mCd M_Y_strongest) 57 = .ok (.goto 28, 3) := by decide +kernel
theorem d_Y_strongest_60 : decode (mCd M_Y_strongest) 60 = .ok (.iload_n 2, 1) := by decide +kernel
theorem d_Y_strongest_61 : decode (mCd M_Y_strongest) 61 = .ok (.aload_n 0, 1) := by decide +kernel
theorem d_Y_strongest_62 : decode (mCd M_Y_strongest) 62 = .ok (.getfield 78, 3) := by decide +kernel
theorem d_Y_strongest_65 : decode (mCd M_Y_strongest) 65 = .ok (.iload_n 3, 1) := by decide +kernel
theorem d_Y_strongest_66 : decode (mCd M_Y_strongest) 66 = .ok (.iaload, 1) := by decide +kernel
theorem d_Y_strongest_67 : decode (mCd M_Y_strongest) 67 = .ok (.aload_n 0, 1) := by decide +kernel
theorem d_Y_strongest_68 : decode (mCd M_Y_strongest) 68 = .ok (.getfield 78, 3) := by decide +kernel
theorem d_Y_strongest_71 : decode (mCd M_Y_strongest) 71 = .ok (.iload_n 1, 1) := by decide +kernel
theorem d_Y_strongest_72 : decode (mCd M_Y_strongest) 72 = .ok (.iaload, 1) := by decide +kernel
theorem d_Y_strongest_73 : decode (mCd M_Y_strongest) 73 = .ok (.if_icmp .ne 7, 3) := by decide +kernel
theorem d_Y_strongest_76 : decode (mCd M_Y_strongest) 76 = .ok (.iconst 1, 1) := by decide +kernel
theorem d_Y_strongest_77 : decode (mCd M_Y_strongest) 77 = .ok (.goto 4, 3) := by decide +kernel
theorem d_Y_strongest_80 : decode (mCd M_Y_strongest) 80 = .ok (.iconst 0, 1) := by decide +kernel
theorem d_Y_strongest_81 : decode (mCd M_Y_strongest) 81 = .ok (.invokestatic 171, 3) := by decide +kernel
theorem d_Y_strongest_84 : decode (mCd M_Y_strongest) 84 = .ok (.iadd, 1) := by decide +kernel
theorem d_Y_strongest_85 : decode (mCd M_Y_strongest) 85 = .ok (.istore_n 2, 1) := by decide +kernel
theorem d_Y_strongest_86 : decode (mCd M_Y_strongest) 86 = .ok (.aload_n 0, 1) := by decide +kernel
theorem d_Y_strongest_87 : decode (mCd M_Y_strongest) 87 = .ok (.getfield 78, 3) := by decide +kernel
theorem d_Y_strongest_90 : decode (mCd M_Y_strongest) 90 = .ok (.iload_n 3, 1) := by decide +kernel
theorem d_Y_strongest_91 : decode (mCd M_Y_strongest) 91 = .ok (.iaload, 1) := by decide +kernel
theorem d_Y_strongest_92 : decode (mCd M_Y_strongest) 92 = .ok (.aload_n 0, 1) := by decide +kernel
theorem d_Y_strongest_93 : decode (mCd M_Y_strongest) 93 = .ok (.getfield 78, 3) := by decide +kernel
theorem d_Y_strongest_96 : decode (mCd M_Y_strongest) 96 = .ok (.iload_n 1, 1) := by decide +kernel
theorem d_Y_strongest_97 : decode (mCd M_Y_strongest) 97 = .ok (.iaload, 1) := by decide +kernel
theorem d_Y_strongest_98 : decode (mCd M_Y_strongest) 98 = .ok (.if_icmp .le 7, 3) := by decide +kernel
theorem d_Y_strongest_101 : decode (mCd M_Y_strongest) 101 = .ok (.iload_n 3, 1) := by decide +kernel
theorem d_Y_strongest_102 : decode (mCd M_Y_strongest) 102 = .ok (.goto 4, 3) := by decide +kernel
theorem d_Y_strongest_105 : decode (mCd M_Y_strongest) 105 = .ok (.iload_n 1, 1) := by decide +kernel
theorem d_Y_strongest_106 : decode (mCd M_Y_strongest) 106 = .ok (.istore_n 1, 1) := by decide +kernel
theorem d_Y_strongest_107 : decode (mCd M_Y_strongest) 107 = .ok (.iinc 3 1, 3) := by decide +kernel
theorem d_Y_strongest_110 : decode (mCd M_Y_strongest) 110 = .ok (.goto (-81), 3) := by decide +kernel
theorem d_Y_strongest_113 : decode (mCd M_Y_strongest) 113 = .ok (.aload_n 0, 1) := by decide +kernel
theorem d_Y_strongest_114 : decode (mCd M_Y_strongest) 114 = .ok (.iconst 0, 1) := by decide +kernel
theorem d_Y_strongest_115 : decode (mCd M_Y_strongest) 115 = .ok (.putfield 15, 3) := by decide +kernel
theorem d_Y_strongest_118 : decode (mCd M_Y_strongest) 118 = .ok (.aload_n 0, 1) := by decide +kernel
theorem d_Y_strongest_119 : decode (mCd M_Y_strongest) 119 = .ok (.aload_n 0, 1) := by decide +kernel
theorem d_Y_strongest_120 : decode (mCd M_Y_strongest) 120 = .ok (.getfield 78, 3) := by decide +kernel
theorem d_Y_strongest_123 : decode (mCd M_Y_strongest) 123 = .ok (.iload_n 1, 1) := by decide +kernel
theorem d_Y_strongest_124 : decode (mCd M_Y_strongest) 124 = .ok (.iaload, 1) := by decide +kernel
theorem d_Y_strongest_125 : decode (mCd M_Y_strongest) 125 = .ok (.i2l, 1) := by decide +kernel
theorem d_Y_strongest_126 : decode (mCd M_Y_strongest) 126 = .ok (.invokevirtual 18, 3) := by decide +kernel
theorem d_Y_strongest_129 : decode (mCd M_Y_strongest) 129 = .ok (.aload_n 0, 1) := by decide +kernel
theorem d_Y_strongest_130 : decode (mCd M_Y_strongest) 130 = .ok (.iload_n 2, 1) := by decide +kernel
theorem d_Y_strongest_131 : decode (mCd M_Y_strongest) 131 = .ok (.i2l, 1) := by decide +kernel
theorem d_Y_strongest_132 : decode (mCd M_Y_strongest) 132 = .ok (.invokevirtual 18, 3) := by decide +kernel
theorem d_Y_strongest_135 : decode (mCd M_Y_strongest) 135 = .ok (.iload_n 1, 1) := by decide +kernel
theorem d_Y_strongest_136 : decode (mCd M_Y_strongest) 136 = .ok (.ireturn, 1) := by decide +kernel
