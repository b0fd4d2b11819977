/-! Printed by wip/whole/m_small.py. -/
theorem d_Integer_bitCount_0 : decode (mCd M_Integer_bitCount) 0 = .ok (.iload_n 0, 1) := by decide +kernel
theorem d_Integer_bitCount_1 : decode (mCd M_Integer_bitCount) 1 = .ok (.iload_n 0, 1) := by decide +kernel
theorem d_Integer_bitCount_2 : decode (mCd M_Integer_bitCount) 2 = .ok (.iconst 1, 1) := by decide +kernel
theorem d_Integer_bitCount_3 : decode (mCd M_Integer_bitCount) 3 = .ok (.iushr, 1) := by decide +kernel
theorem d_Integer_bitCount_4 : decode (mCd M_Integer_bitCount) 4 = .ok (.ldc_w 265, 3) := by decide +kernel
theorem d_Integer_bitCount_7 : decode (mCd M_Integer_bitCount) 7 = .ok (.iand, 1) := by decide +kernel
theorem d_Integer_bitCount_8 : decode (mCd M_Integer_bitCount) 8 = .ok (.isub, 1) := by decide +kernel
theorem d_Integer_bitCount_9 : decode (mCd M_Integer_bitCount) 9 = .ok (.istore_n 0, 1) := by decide +kernel
theorem d_Integer_bitCount_10 : decode (mCd M_Integer_bitCount) 10 = .ok (.iload_n 0, 1) := by decide +kernel
theorem d_Integer_bitCount_11 : decode (mCd M_Integer_bitCount) 11 = .ok (.ldc_w 266, 3) := by decide +kernel
theorem d_Integer_bitCount_14 : decode (mCd M_Integer_bitCount) 14 = .ok (.iand, 1) := by decide +kernel
theorem d_Integer_bitCount_15 : decode (mCd M_Integer_bitCount) 15 = .ok (.iload_n 0, 1) := by decide +kernel
theorem d_Integer_bitCount_16 : decode (mCd M_Integer_bitCount) 16 = .ok (.iconst 2, 1) := by decide +kernel
theorem d_Integer_bitCount_17 : decode (mCd M_Integer_bitCount) 17 = .ok (.iushr, 1) := by decide +kernel
theorem d_Integer_bitCount_18 : decode (mCd M_Integer_bitCount) 18 = .ok (.ldc_w 266, 3) := by decide +kernel
theorem d_Integer_bitCount_21 : decode (mCd M_Integer_bitCount) 21 = .ok (.iand, 1) := by decide +kernel
theorem d_Integer_bitCount_22 : decode (mCd M_Integer_bitCount) 22 = .ok (.iadd, 1) := by decide +kernel
theorem d_Integer_bitCount_23 : decode (mCd M_Integer_bitCount) 23 = .ok (.istore_n 0, 1) := by decide +kernel
theorem d_Integer_bitCount_24 : decode (mCd M_Integer_bitCount) 24 = .ok (.iload_n 0, 1) := by decide +kernel
theorem d_Integer_bitCount_25 : decode (mCd M_Integer_bitCount) 25 = .ok (.iload_n 0, 1) := by decide +kernel
theorem d_Integer_bitCount_26 : decode (mCd M_Integer_bitCount) 26 = .ok (.iconst 4, 1) := by decide +kernel
theorem d_Integer_bitCount_27 : decode (mCd M_Integer_bitCount) 27 = .ok (.iushr, 1) := by decide +kernel
theorem d_Integer_bitCount_28 : decode (mCd M_Integer_bitCount) 28 = .ok (.iadd, 1) := by decide +kernel
theorem d_Integer_bitCount_29 : decode (mCd M_Integer_bitCount) 29 = .ok (.ldc_w 267, 3) := by decide +kernel
theorem d_Integer_bitCount_32 : decode (mCd M_Integer_bitCount) 32 = .ok (.iand, 1) := by decide +kernel
theorem d_Integer_bitCount_33 : decode (mCd M_Integer_bitCount) 33 = .ok (.istore_n 0, 1) := by decide +kernel
theorem d_Integer_bitCount_34 : decode (mCd M_Integer_bitCount) 34 = .ok (.iload_n 0, 1) := by decide +kernel
theorem d_Integer_bitCount_35 : decode (mCd M_Integer_bitCount) 35 = .ok (.iload_n 0, 1) := by decide +kernel
theorem d_Integer_bitCount_36 : decode (mCd M_Integer_bitCount) 36 = .ok (.bipush 8, 2) := by decide +kernel
theorem d_Integer_bitCount_38 : decode (mCd M_Integer_bitCount) 38 = .ok (.iushr, 1) := by decide +kernel
theorem d_Integer_bitCount_39 : decode (mCd M_Integer_bitCount) 39 = .ok (.iadd, 1) := by decide +kernel
theorem d_Integer_bitCount_40 : decode (mCd M_Integer_bitCount) 40 = .ok (.istore_n 0, 1) := by decide +kernel
theorem d_Integer_bitCount_41 : decode (mCd M_Integer_bitCount) 41 = .ok (.iload_n 0, 1) := by decide +kernel
theorem d_Integer_bitCount_42 : decode (mCd M_Integer_bitCount) 42 = .ok (.iload_n 0, 1) := by decide +kernel
theorem d_Integer_bitCount_43 : decode (mCd M_Integer_bitCount) 43 = .ok (.bipush 16, 2) := by decide +kernel
theorem d_Integer_bitCount_45 : decode (mCd M_Integer_bitCount) 45 = .ok (.iushr, 1) := by decide +kernel
theorem d_Integer_bitCount_46 : decode (mCd M_Integer_bitCount) 46 = .ok (.iadd, 1) := by decide +kernel
theorem d_Integer_bitCount_47 : decode (mCd M_Integer_bitCount) 47 = .ok (.istore_n 0, 1) := by decide +kernel
theorem d_Integer_bitCount_48 : decode (mCd M_Integer_bitCount) 48 = .ok (.iload_n 0, 1) := by decide +kernel
theorem d_Integer_bitCount_49 : decode (mCd M_Integer_bitCount) 49 = .ok (.bipush 63, 2) := by decide +kernel
theorem d_Integer_bitCount_51 : decode (mCd M_Integer_bitCount) 51 = .ok (.iand, 1) := by decide +kernel
theorem d_Integer_bitCount_52 : decode (mCd M_Integer_bitCount) 52 = .ok (.ireturn, 1) := by decide +kernel
theorem d_Long_bitCount_0 : decode (mCd M_Long_bitCount) 0 = .ok (.lload_n 0, 1) := by decide +kernel
theorem d_Long_bitCount_1 : decode (mCd M_Long_bitCount) 1 = .ok (.lload_n 0, 1) := by decide +kernel
theorem d_Long_bitCount_2 : decode (mCd M_Long_bitCount) 2 = .ok (.iconst 1, 1) := by decide +kernel
theorem d_Long_bitCount_3 : decode (mCd M_Long_bitCount) 3 = .ok (.lushr, 1) := by decide +kernel
theorem d_Long_bitCount_4 : decode (mCd M_Long_bitCount) 4 = .ok (.ldc2_w 314, 3) := by decide +kernel
theorem d_Long_bitCount_7 : decode (mCd M_Long_bitCount) 7 = .ok (.land, 1) := by decide +kernel
theorem d_Long_bitCount_8 : decode (mCd M_Long_bitCount) 8 = .ok (.lsub, 1) := by decide +kernel
theorem d_Long_bitCount_9 : decode (mCd M_Long_bitCount) 9 = .ok (.lstore_n 0, 1) := by decide +kernel
theorem d_Long_bitCount_10 : decode (mCd M_Long_bitCount) 10 = .ok (.lload_n 0, 1) := by decide +kernel
theorem d_Long_bitCount_11 : decode (mCd M_Long_bitCount) 11 = .ok (.ldc2_w 316, 3) := by decide +kernel
theorem d_Long_bitCount_14 : decode (mCd M_Long_bitCount) 14 = .ok (.land, 1) := by decide +kernel
theorem d_Long_bitCount_15 : decode (mCd M_Long_bitCount) 15 = .ok (.lload_n 0, 1) := by decide +kernel
theorem d_Long_bitCount_16 : decode (mCd M_Long_bitCount) 16 = .ok (.iconst 2, 1) := by decide +kernel
theorem d_Long_bitCount_17 : decode (mCd M_Long_bitCount) 17 = .ok (.lushr, 1) := by decide +kernel
theorem d_Long_bitCount_18 : decode (mCd M_Long_bitCount) 18 = .ok (.ldc2_w 316, 3) := by decide +kernel
theorem d_Long_bitCount_21 : decode (mCd M_Long_bitCount) 21 = .ok (.land, 1) := by decide +kernel
theorem d_Long_bitCount_22 : decode (mCd M_Long_bitCount) 22 = .ok (.ladd, 1) := by decide +kernel
theorem d_Long_bitCount_23 : decode (mCd M_Long_bitCount) 23 = .ok (.lstore_n 0, 1) := by decide +kernel
theorem d_Long_bitCount_24 : decode (mCd M_Long_bitCount) 24 = .ok (.lload_n 0, 1) := by decide +kernel
theorem d_Long_bitCount_25 : decode (mCd M_Long_bitCount) 25 = .ok (.lload_n 0, 1) := by decide +kernel
theorem d_Long_bitCount_26 : decode (mCd M_Long_bitCount) 26 = .ok (.iconst 4, 1) := by decide +kernel
theorem d_Long_bitCount_27 : decode (mCd M_Long_bitCount) 27 = .ok (.lushr, 1) := by decide +kernel
theorem d_Long_bitCount_28 : decode (mCd M_Long_bitCount) 28 = .ok (.ladd, 1) := by decide +kernel
theorem d_Long_bitCount_29 : decode (mCd M_Long_bitCount) 29 = .ok (.ldc2_w 318, 3) := by decide +kernel
theorem d_Long_bitCount_32 : decode (mCd M_Long_bitCount) 32 = .ok (.land, 1) := by decide +kernel
theorem d_Long_bitCount_33 : decode (mCd M_Long_bitCount) 33 = .ok (.lstore_n 0, 1) := by decide +kernel
theorem d_Long_bitCount_34 : decode (mCd M_Long_bitCount) 34 = .ok (.lload_n 0, 1) := by decide +kernel
theorem d_Long_bitCount_35 : decode (mCd M_Long_bitCount) 35 = .ok (.lload_n 0, 1) := by decide +kernel
theorem d_Long_bitCount_36 : decode (mCd M_Long_bitCount) 36 = .ok (.bipush 8, 2) := by decide +kernel
theorem d_Long_bitCount_38 : decode (mCd M_Long_bitCount) 38 = .ok (.lushr, 1) := by decide +kernel
theorem d_Long_bitCount_39 : decode (mCd M_Long_bitCount) 39 = .ok (.ladd, 1) := by decide +kernel
theorem d_Long_bitCount_40 : decode (mCd M_Long_bitCount) 40 = .ok (.lstore_n 0, 1) := by decide +kernel
theorem d_Long_bitCount_41 : decode (mCd M_Long_bitCount) 41 = .ok (.lload_n 0, 1) := by decide +kernel
theorem d_Long_bitCount_42 : decode (mCd M_Long_bitCount) 42 = .ok (.lload_n 0, 1) := by decide +kernel
theorem d_Long_bitCount_43 : decode (mCd M_Long_bitCount) 43 = .ok (.bipush 16, 2) := by decide +kernel
theorem d_Long_bitCount_45 : decode (mCd M_Long_bitCount) 45 = .ok (.lushr, 1) := by decide +kernel
theorem d_Long_bitCount_46 : decode (mCd M_Long_bitCount) 46 = .ok (.ladd, 1) := by decide +kernel
theorem d_Long_bitCount_47 : decode (mCd M_Long_bitCount) 47 = .ok (.lstore_n 0, 1) := by decide +kernel
theorem d_Long_bitCount_48 : decode (mCd M_Long_bitCount) 48 = .ok (.lload_n 0, 1) := by decide +kernel
theorem d_Long_bitCount_49 : decode (mCd M_Long_bitCount) 49 = .ok (.lload_n 0, 1) := by decide +kernel
theorem d_Long_bitCount_50 : decode (mCd M_Long_bitCount) 50 = .ok (.bipush 32, 2) := by decide +kernel
theorem d_Long_bitCount_52 : decode (mCd M_Long_bitCount) 52 = .ok (.lushr, 1) := by decide +kernel
theorem d_Long_bitCount_53 : decode (mCd M_Long_bitCount) 53 = .ok (.ladd, 1) := by decide +kernel
theorem d_Long_bitCount_54 : decode (mCd M_Long_bitCount) 54 = .ok (.lstore_n 0, 1) := by decide +kernel
theorem d_Long_bitCount_55 : decode (mCd M_Long_bitCount) 55 = .ok (.lload_n 0, 1) := by decide +kernel
theorem d_Long_bitCount_56 : decode (mCd M_Long_bitCount) 56 = .ok (.l2i, 1) := by decide +kernel
theorem d_Long_bitCount_57 : decode (mCd M_Long_bitCount) 57 = .ok (.bipush 127, 2) := by decide +kernel
theorem d_Long_bitCount_59 : decode (mCd M_Long_bitCount) 59 = .ok (.iand, 1) := by decide +kernel
theorem d_Long_bitCount_60 : decode (mCd M_Long_bitCount) 60 = .ok (.ireturn, 1) := by decide +kernel
theorem d_Math_floorMod_0 : decode (mCd M_Math_floorMod) 0 = .ok (.iload_n 0, 1) := by decide +kernel
theorem d_Math_floorMod_1 : decode (mCd M_Math_floorMod) 1 = .ok (.iload_n 1, 1) := by decide +kernel
theorem d_Math_floorMod_2 : decode (mCd M_Math_floorMod) 2 = .ok (.irem, 1) := by decide +kernel
theorem d_Math_floorMod_3 : decode (mCd M_Math_floorMod) 3 = .ok (.istore_n 2, 1) := by decide +kernel
theorem d_Math_floorMod_4 : decode (mCd M_Math_floorMod) 4 = .ok (.iload_n 0, 1) := by decide +kernel
theorem d_Math_floorMod_5 : decode (mCd M_Math_floorMod) 5 = .ok (.iload_n 1, 1) := by decide +kernel
theorem d_Math_floorMod_6 : decode (mCd M_Math_floorMod) 6 = .ok (.ixor, 1) := by decide +kernel
theorem d_Math_floorMod_7 : decode (mCd M_Math_floorMod) 7 = .ok (.ifCond .ge 11, 3) := by decide +kernel
theorem d_Math_floorMod_10 : decode (mCd M_Math_floorMod) 10 = .ok (.iload_n 2, 1) := by decide +kernel
theorem d_Math_floorMod_11 : decode (mCd M_Math_floorMod) 11 = .ok (.ifCond .eq 7, 3) := by decide +kernel
theorem d_Math_floorMod_14 : decode (mCd M_Math_floorMod) 14 = .ok (.iload_n 2, 1) := by decide +kernel
theorem d_Math_floorMod_15 : decode (mCd M_Math_floorMod) 15 = .ok (.iload_n 1, 1) := by decide +kernel
theorem d_Math_floorMod_16 : decode (mCd M_Math_floorMod) 16 = .ok (.iadd, 1) := by decide +kernel
theorem d_Math_floorMod_17 : decode (mCd M_Math_floorMod) 17 = .ok (.ireturn, 1) := by decide +kernel
theorem d_Math_floorMod_18 : decode (mCd M_Math_floorMod) 18 = .ok (.iload_n 2, 1) := by decide +kernel
theorem d_Math_floorMod_19 : decode (mCd M_Math_floorMod) 19 = .ok (.ireturn, 1) := by decide +kernel
theorem d_Arrays_fill_0 : decode (mCd M_Arrays_fill) 0 = .ok (.iconst 0, 1) := by decide +kernel
theorem d_Arrays_fill_1 : decode (mCd M_Arrays_fill) 1 = .ok (.istore_n 2, 1) := by decide +kernel
theorem d_Arrays_fill_2 : decode (mCd M_Arrays_fill) 2 = .ok (.aload_n 0, 1) := by decide +kernel
theorem d_Arrays_fill_3 : decode (mCd M_Arrays_fill) 3 = .ok (.arraylength, 1) := by decide +kernel
theorem d_Arrays_fill_4 : decode (mCd M_Arrays_fill) 4 = .ok (.istore_n 3, 1) := by decide +kernel
theorem d_Arrays_fill_5 : decode (mCd M_Arrays_fill) 5 = .ok (.iload_n 2, 1) := by decide +kernel
theorem d_Arrays_fill_6 : decode (mCd M_Arrays_fill) 6 = .ok (.iload_n 3, 1) := by decide +kernel
theorem d_Arrays_fill_7 : decode (mCd M_Arrays_fill) 7 = .ok (.if_icmp .ge 13, 3) := by decide +kernel
theorem d_Arrays_fill_10 : decode (mCd M_Arrays_fill) 10 = .ok (.aload_n 0, 1) := by decide +kernel
theorem d_Arrays_fill_11 : decode (mCd M_Arrays_fill) 11 = .ok (.iload_n 2, 1) := by decide +kernel
theorem d_Arrays_fill_12 : decode (mCd M_Arrays_fill) 12 = .ok (.iload_n 1, 1) := by decide +kernel
theorem d_Arrays_fill_13 : decode (mCd M_Arrays_fill) 13 = .ok (.iastore, 1) := by decide +kernel
theorem d_Arrays_fill_14 : decode (mCd M_Arrays_fill) 14 = .ok (.iinc 2 1, 3) := by decide +kernel
theorem d_Arrays_fill_17 : decode (mCd M_Arrays_fill) 17 = .ok (.goto (-12), 3) := by decide +kernel
theorem d_Arrays_fill_20 : decode (mCd M_Arrays_fill) 20 = .ok (.return_, 1) := by decide +kernel
