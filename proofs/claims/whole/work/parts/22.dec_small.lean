/-! Printed by wip/whole/gen_dec.py: what each instruction is. -/
theorem d_Fog_init_0 : decode (mCd M_Fog_init) 0 = .ok (.aload_n 0, 1) := by decide +kernel
theorem d_Fog_init_1 : decode (mCd M_Fog_init) 1 = .ok (.invokespecial 3, 3) := by decide +kernel
theorem d_Fog_init_4 : decode (mCd M_Fog_init) 4 = .ok (.aload_n 0, 1) := by decide +kernel
theorem d_Fog_init_5 : decode (mCd M_Fog_init) 5 = .ok (.bipush 20, 2) := by decide +kernel
theorem d_Fog_init_7 : decode (mCd M_Fog_init) 7 = .ok (.newarray .int, 2) := by decide +kernel
theorem d_Fog_init_9 : decode (mCd M_Fog_init) 9 = .ok (.putfield 11, 3) := by decide +kernel
theorem d_Fog_init_12 : decode (mCd M_Fog_init) 12 = .ok (.aload_n 0, 1) := by decide +kernel
theorem d_Fog_init_13 : decode (mCd M_Fog_init) 13 = .ok (.iconst 1, 1) := by decide +kernel
theorem d_Fog_init_14 : decode (mCd M_Fog_init) 14 = .ok (.putfield 15, 3) := by decide +kernel
theorem d_Fog_init_17 : decode (mCd M_Fog_init) 17 = .ok (.return_, 1) := by decide +kernel
theorem d_Fog_faultIn_0 : decode (mCd M_Fog_faultIn) 0 = .ok (.iconst 0, 1) := by decide +kernel
theorem d_Fog_faultIn_1 : decode (mCd M_Fog_faultIn) 1 = .ok (.istore_n 2, 1) := by decide +kernel
theorem d_Fog_faultIn_2 : decode (mCd M_Fog_faultIn) 2 = .ok (.iload_n 2, 1) := by decide +kernel
theorem d_Fog_faultIn_3 : decode (mCd M_Fog_faultIn) 3 = .ok (.bipush 20, 2) := by decide +kernel
theorem d_Fog_faultIn_5 : decode (mCd M_Fog_faultIn) 5 = .ok (.if_icmp .ge 32, 3) := by decide +kernel
theorem d_Fog_faultIn_8 : decode (mCd M_Fog_faultIn) 8 = .ok (.iload_n 2, 1) := by decide +kernel
theorem d_Fog_faultIn_9 : decode (mCd M_Fog_faultIn) 9 = .ok (.ifCond .eq 11, 3) := by decide +kernel
theorem d_Fog_faultIn_12 : decode (mCd M_Fog_faultIn) 12 = .ok (.iload_n 2, 1) := by decide +kernel
theorem d_Fog_faultIn_13 : decode (mCd M_Fog_faultIn) 13 = .ok (.aload_n 1, 1) := by decide +kernel
theorem d_Fog_faultIn_14 : decode (mCd M_Fog_faultIn) 14 = .ok (.invokevirtual 19, 3) := by decide +kernel
theorem d_Fog_faultIn_17 : decode (mCd M_Fog_faultIn) 17 = .ok (.if_icmp .ge 20, 3) := by decide +kernel
theorem d_Fog_faultIn_20 : decode (mCd M_Fog_faultIn) 20 = .ok (.aload_n 1, 1) := by decide +kernel
theorem d_Fog_faultIn_21 : decode (mCd M_Fog_faultIn) 21 = .ok (.iload_n 2, 1) := by decide +kernel
theorem d_Fog_faultIn_22 : decode (mCd M_Fog_faultIn) 22 = .ok (.invokevirtual 25, 3) := by decide +kernel
theorem d_Fog_faultIn_25 : decode (mCd M_Fog_faultIn) 25 = .ok (.iconst (-1), 1) := by decide +kernel
theorem d_Fog_faultIn_26 : decode (mCd M_Fog_faultIn) 26 = .ok (.if_icmp .ne 5, 3) := by decide +kernel
theorem d_Fog_faultIn_29 : decode (mCd M_Fog_faultIn) 29 = .ok (.iload_n 2, 1) := by decide +kernel
theorem d_Fog_faultIn_30 : decode (mCd M_Fog_faultIn) 30 = .ok (.ireturn, 1) := by decide +kernel
theorem d_Fog_faultIn_31 : decode (mCd M_Fog_faultIn) 31 = .ok (.iinc 2 1, 3) := by decide +kernel
theorem d_Fog_faultIn_34 : decode (mCd M_Fog_faultIn) 34 = .ok (.goto (-32), 3) := by decide +kernel
theorem d_Fog_faultIn_37 : decode (mCd M_Fog_faultIn) 37 = .ok (.aload_n 1, 1) := by decide +kernel
theorem d_Fog_faultIn_38 : decode (mCd M_Fog_faultIn) 38 = .ok (.invokevirtual 19, 3) := by decide +kernel
theorem d_Fog_faultIn_41 : decode (mCd M_Fog_faultIn) 41 = .ok (.bipush 20, 2) := by decide +kernel
theorem d_Fog_faultIn_43 : decode (mCd M_Fog_faultIn) 43 = .ok (.if_icmp .le 8, 3) := by decide +kernel
theorem d_Fog_faultIn_46 : decode (mCd M_Fog_faultIn) 46 = .ok (.bipush 20, 2) := by decide +kernel
theorem d_Fog_faultIn_48 : decode (mCd M_Fog_faultIn) 48 = .ok (.goto 4, 3) := by decide +kernel
theorem d_Fog_faultIn_51 : decode (mCd M_Fog_faultIn) 51 = .ok (.iconst (-1), 1) := by decide +kernel
theorem d_Fog_faultIn_52 : decode (mCd M_Fog_faultIn) 52 = .ok (.ireturn, 1) := by decide +kernel
theorem d_Fog_take_0 : decode (mCd M_Fog_take) 0 = .ok (.aload_n 0, 1) := by decide +kernel
theorem d_Fog_take_1 : decode (mCd M_Fog_take) 1 = .ok (.iconst 1, 1) := by decide +kernel
theorem d_Fog_take_2 : decode (mCd M_Fog_take) 2 = .ok (.bipush 20, 2) := by decide +kernel
theorem d_Fog_take_4 : decode (mCd M_Fog_take) 4 = .ok (.aload_n 1, 1) := by decide +kernel
theorem d_Fog_take_5 : decode (mCd M_Fog_take) 5 = .ok (.invokevirtual 19, 3) := by decide +kernel
theorem d_Fog_take_8 : decode (mCd M_Fog_take) 8 = .ok (.invokestatic 29, 3) := by decide +kernel
theorem d_Fog_take_11 : decode (mCd M_Fog_take) 11 = .ok (.invokestatic 35, 3) := by decide +kernel
theorem d_Fog_take_14 : decode (mCd M_Fog_take) 14 = .ok (.putfield 15, 3) := by decide +kernel
theorem d_Fog_take_17 : decode (mCd M_Fog_take) 17 = .ok (.iconst 0, 1) := by decide +kernel
theorem d_Fog_take_18 : decode (mCd M_Fog_take) 18 = .ok (.istore_n 2, 1) := by decide +kernel
theorem d_Fog_take_19 : decode (mCd M_Fog_take) 19 = .ok (.iload_n 2, 1) := by decide +kernel
theorem d_Fog_take_20 : decode (mCd M_Fog_take) 20 = .ok (.aload_n 0, 1) := by decide +kernel
theorem d_Fog_take_21 : decode (mCd M_Fog_take) 21 = .ok (.getfield 15, 3) := by decide +kernel
theorem d_Fog_take_24 : decode (mCd M_Fog_take) 24 = .ok (.if_icmp .ge 20, 3) := by decide +kernel
theorem d_Fog_take_27 : decode (mCd M_Fog_take) 27 = .ok (.aload_n 0, 1) := by decide +kernel
theorem d_Fog_take_28 : decode (mCd M_Fog_take) 28 = .ok (.getfield 11, 3) := by decide +kernel
theorem d_Fog_take_31 : decode (mCd M_Fog_take) 31 = .ok (.iload_n 2, 1) := by decide +kernel
theorem d_Fog_take_32 : decode (mCd M_Fog_take) 32 = .ok (.aload_n 1, 1) := by decide +kernel
theorem d_Fog_take_33 : decode (mCd M_Fog_take) 33 = .ok (.iload_n 2, 1) := by decide +kernel
theorem d_Fog_take_34 : decode (mCd M_Fog_take) 34 = .ok (.invokevirtual 25, 3) := by decide +kernel
theorem d_Fog_take_37 : decode (mCd M_Fog_take) 37 = .ok (.iastore, 1) := by decide +kernel
theorem d_Fog_take_38 : decode (mCd M_Fog_take) 38 = .ok (.iinc 2 1, 3) := by decide +kernel
theorem d_Fog_take_41 : decode (mCd M_Fog_take) 41 = .ok (.goto (-22), 3) := by decide +kernel
theorem d_Fog_take_44 : decode (mCd M_Fog_take) 44 = .ok (.return_, 1) := by decide +kernel
theorem d_Fog_in_0 : decode (mCd M_Fog_in) 0 = .ok (.aload_n 0, 1) := by decide +kernel
theorem d_Fog_in_1 : decode (mCd M_Fog_in) 1 = .ok (.getfield 15, 3) := by decide +kernel
theorem d_Fog_in_4 : decode (mCd M_Fog_in) 4 = .ok (.ifCond .le 19, 3) := by decide +kernel
theorem d_Fog_in_7 : decode (mCd M_Fog_in) 7 = .ok (.aload_n 0, 1) := by decide +kernel
theorem d_Fog_in_8 : decode (mCd M_Fog_in) 8 = .ok (.getfield 11, 3) := by decide +kernel
theorem d_Fog_in_11 : decode (mCd M_Fog_in) 11 = .ok (.iload_n 1, 1) := by decide +kernel
theorem d_Fog_in_12 : decode (mCd M_Fog_in) 12 = .ok (.aload_n 0, 1) := by decide +kernel
theorem d_Fog_in_13 : decode (mCd M_Fog_in) 13 = .ok (.getfield 15, 3) := by decide +kernel
theorem d_Fog_in_16 : decode (mCd M_Fog_in) 16 = .ok (.invokestatic 38, 3) := by decide +kernel
theorem d_Fog_in_19 : decode (mCd M_Fog_in) 19 = .ok (.iaload, 1) := by decide +kernel
theorem d_Fog_in_20 : decode (mCd M_Fog_in) 20 = .ok (.goto 4, 3) := by decide +kernel
theorem d_Fog_in_23 : decode (mCd M_Fog_in) 23 = .ok (.iconst 0, 1) := by decide +kernel
theorem d_Fog_in_24 : decode (mCd M_Fog_in) 24 = .ok (.ireturn, 1) := by decide +kernel
theorem d_Lake_init_0 : decode (mCd M_Lake_init) 0 = .ok (.aload_n 0, 1) := by decide +kernel
theorem d_Lake_init_1 : decode (mCd M_Lake_init) 1 = .ok (.invokespecial 3, 3) := by decide +kernel
theorem d_Lake_init_4 : decode (mCd M_Lake_init) 4 = .ok (.aload_n 0, 1) := by decide +kernel
theorem d_Lake_init_5 : decode (mCd M_Lake_init) 5 = .ok (.iconst 2, 1) := by decide +kernel
theorem d_Lake_init_6 : decode (mCd M_Lake_init) 6 = .ok (.putfield 9, 3) := by decide +kernel
theorem d_Lake_init_9 : decode (mCd M_Lake_init) 9 = .ok (.aload_n 0, 1) := by decide +kernel
theorem d_Lake_init_10 : decode (mCd M_Lake_init) 10 = .ok (.iconst 2, 1) := by decide +kernel
theorem d_Lake_init_11 : decode (mCd M_Lake_init) 11 = .ok (.putfield 15, 3) := by decide +kernel
theorem d_Lake_init_14 : decode (mCd M_Lake_init) 14 = .ok (.aload_n 0, 1) := by decide +kernel
theorem d_Lake_init_15 : decode (mCd M_Lake_init) 15 = .ok (.bipush 36, 2) := by decide +kernel
theorem d_Lake_init_17 : decode (mCd M_Lake_init) 17 = .ok (.newarray .boolean, 2) := by decide +kernel
theorem d_Lake_init_19 : decode (mCd M_Lake_init) 19 = .ok (.putfield 18, 3) := by decide +kernel
theorem d_Lake_init_22 : decode (mCd M_Lake_init) 22 = .ok (.aload_n 0, 1) := by decide +kernel
theorem d_Lake_init_23 : decode (mCd M_Lake_init) 23 = .ok (.bipush 36, 2) := by decide +kernel
theorem d_Lake_init_25 : decode (mCd M_Lake_init) 25 = .ok (.newarray .int, 2) := by decide +kernel
theorem d_Lake_init_27 : decode (mCd M_Lake_init) 27 = .ok (.putfield 22, 3) := by decide +kernel
theorem d_Lake_init_30 : decode (mCd M_Lake_init) 30 = .ok (.aload_n 0, 1) := by decide +kernel
theorem d_Lake_init_31 : decode (mCd M_Lake_init) 31 = .ok (.bipush 36, 2) := by decide +kernel
theorem d_Lake_init_33 : decode (mCd M_Lake_init) 33 = .ok (.newarray .int, 2) := by decide +kernel
theorem d_Lake_init_35 : decode (mCd M_Lake_init) 35 = .ok (.putfield 26, 3) := by decide +kernel
theorem d_Lake_init_38 : decode (mCd M_Lake_init) 38 = .ok (.return_, 1) := by decide +kernel
theorem d_Lake_faultIn_0 : decode (mCd M_Lake_faultIn) 0 = .ok (.aload_n 1, 1) := by decide +kernel
theorem d_Lake_faultIn_1 : decode (mCd M_Lake_faultIn) 1 = .ok (.iconst 0, 1) := by decide +kernel
theorem d_Lake_faultIn_2 : decode (mCd M_Lake_faultIn) 2 = .ok (.invokevirtual 29, 3) := by decide +kernel
theorem d_Lake_faultIn_5 : decode (mCd M_Lake_faultIn) 5 = .ok (.istore_n 2, 1) := by decide +kernel
theorem d_Lake_faultIn_6 : decode (mCd M_Lake_faultIn) 6 = .ok (.iload_n 2, 1) := by decide +kernel
theorem d_Lake_faultIn_7 : decode (mCd M_Lake_faultIn) 7 = .ok (.iconst 2, 1) := by decide +kernel
theorem d_Lake_faultIn_8 : decode (mCd M_Lake_faultIn) 8 = .ok (.if_icmp .lt 9, 3) := by decide +kernel
theorem d_Lake_faultIn_11 : decode (mCd M_Lake_faultIn) 11 = .ok (.iload_n 2, 1) := by decide +kernel
theorem d_Lake_faultIn_12 : decode (mCd M_Lake_faultIn) 12 = .ok (.bipush 6, 2) := by decide +kernel
theorem d_Lake_faultIn_14 : decode (mCd M_Lake_faultIn) 14 = .ok (.if_icmp .le 5, 3) := by decide +kernel
theorem d_Lake_faultIn_17 : decode (mCd M_Lake_faultIn) 17 = .ok (.iconst 0, 1) := by decide +kernel
theorem d_Lake_faultIn_18 : decode (mCd M_Lake_faultIn) 18 = .ok (.ireturn, 1) := by decide +kernel
theorem d_Lake_faultIn_19 : decode (mCd M_Lake_faultIn) 19 = .ok (.aload_n 1, 1) := by decide +kernel
theorem d_Lake_faultIn_20 : decode (mCd M_Lake_faultIn) 20 = .ok (.iconst 1, 1) := by decide +kernel
theorem d_Lake_faultIn_21 : decode (mCd M_Lake_faultIn) 21 = .ok (.invokevirtual 29, 3) := by decide +kernel
theorem d_Lake_faultIn_24 : decode (mCd M_Lake_faultIn) 24 = .ok (.istore_n 3, 1) := by decide +kernel
theorem d_Lake_faultIn_25 : decode (mCd M_Lake_faultIn) 25 = .ok (.iload_n 3, 1) := by decide +kernel
theorem d_Lake_faultIn_26 : decode (mCd M_Lake_faultIn) 26 = .ok (.iconst 2, 1) := by decide +kernel
theorem d_Lake_faultIn_27 : decode (mCd M_Lake_faultIn) 27 = .ok (.if_icmp .lt 9, 3) := by decide +kernel
theorem d_Lake_faultIn_30 : decode (mCd M_Lake_faultIn) 30 = .ok (.iload_n 3, 1) := by decide +kernel
theorem d_Lake_faultIn_31 : decode (mCd M_Lake_faultIn) 31 = .ok (.bipush 6, 2) := by decide +kernel
theorem d_Lake_faultIn_33 : decode (mCd M_Lake_faultIn) 33 = .ok (.if_icmp .le 5, 3) := by decide +kernel
theorem d_Lake_faultIn_36 : decode (mCd M_Lake_faultIn) 36 = .ok (.iconst 1, 1) := by decide +kernel
theorem d_Lake_faultIn_37 : decode (mCd M_Lake_faultIn) 37 = .ok (.ireturn, 1) := by decide +kernel
theorem d_Lake_faultIn_38 : decode (mCd M_Lake_faultIn) 38 = .ok (.iconst 2, 1) := by decide +kernel
theorem d_Lake_faultIn_39 : decode (mCd M_Lake_faultIn) 39 = .ok (.iload_n 2, 1) := by decide +kernel
theorem d_Lake_faultIn_40 : decode (mCd M_Lake_faultIn) 40 = .ok (.iload_n 3, 1) := by decide +kernel
theorem d_Lake_faultIn_41 : decode (mCd M_Lake_faultIn) 41 = .ok (.imul, 1) := by decide +kernel
theorem d_Lake_faultIn_42 : decode (mCd M_Lake_faultIn) 42 = .ok (.iadd, 1) := by decide +kernel
theorem d_Lake_faultIn_43 : decode (mCd M_Lake_faultIn) 43 = .ok (.istore 4, 2) := by decide +kernel
theorem d_Lake_faultIn_45 : decode (mCd M_Lake_faultIn) 45 = .ok (.iconst 2, 1) := by decide +kernel
theorem d_Lake_faultIn_46 : decode (mCd M_Lake_faultIn) 46 = .ok (.istore 5, 2) := by decide +kernel
theorem d_Lake_faultIn_48 : decode (mCd M_Lake_faultIn) 48 = .ok (.iload 5, 2) := by decide +kernel
theorem d_Lake_faultIn_50 : decode (mCd M_Lake_faultIn) 50 = .ok (.iload 4, 2) := by decide +kernel
theorem d_Lake_faultIn_52 : decode (mCd M_Lake_faultIn) 52 = .ok (.if_icmp .ge 34, 3) := by decide +kernel
theorem d_Lake_faultIn_55 : decode (mCd M_Lake_faultIn) 55 = .ok (.aload_n 1, 1) := by decide +kernel
theorem d_Lake_faultIn_56 : decode (mCd M_Lake_faultIn) 56 = .ok (.iload 5, 2) := by decide +kernel
theorem d_Lake_faultIn_58 : decode (mCd M_Lake_faultIn) 58 = .ok (.invokevirtual 35, 3) := by decide +kernel
theorem d_Lake_faultIn_61 : decode (mCd M_Lake_faultIn) 61 = .ok (.bipush 46, 2) := by decide +kernel
theorem d_Lake_faultIn_63 : decode (mCd M_Lake_faultIn) 63 = .ok (.if_icmp .eq 17, 3) := by decide +kernel
theorem d_Lake_faultIn_66 : decode (mCd M_Lake_faultIn) 66 = .ok (.aload_n 1, 1) := by decide +kernel
theorem d_Lake_faultIn_67 : decode (mCd M_Lake_faultIn) 67 = .ok (.iload 5, 2) := by decide +kernel
theorem d_Lake_faultIn_69 : decode (mCd M_Lake_faultIn) 69 = .ok (.invokevirtual 35, 3) := by decide +kernel
theorem d_Lake_faultIn_72 : decode (mCd M_Lake_faultIn) 72 = .ok (.bipush 35, 2) := by decide +kernel
theorem d_Lake_faultIn_74 : decode (mCd M_Lake_faultIn) 74 = .ok (.if_icmp .eq 6, 3) := by decide +kernel
theorem d_Lake_faultIn_77 : decode (mCd M_Lake_faultIn) 77 = .ok (.iload 5, 2) := by decide +kernel
theorem d_Lake_faultIn_79 : decode (mCd M_Lake_faultIn) 79 = .ok (.ireturn, 1) := by decide +kernel
theorem d_Lake_faultIn_80 : decode (mCd M_Lake_faultIn) 80 = .ok (.iinc 5 1, 3) := by decide +kernel
theorem d_Lake_faultIn_83 : decode (mCd M_Lake_faultIn) 83 = .ok (.goto (-35), 3) := by decide +kernel
theorem d_Lake_faultIn_86 : decode (mCd M_Lake_faultIn) 86 = .ok (.aload_n 1, 1) := by decide +kernel
theorem d_Lake_faultIn_87 : decode (mCd M_Lake_faultIn) 87 = .ok (.invokevirtual 38, 3) := by decide +kernel
theorem d_Lake_faultIn_90 : decode (mCd M_Lake_faultIn) 90 = .ok (.iload 4, 2) := by decide +kernel
theorem d_Lake_faultIn_92 : decode (mCd M_Lake_faultIn) 92 = .ok (.if_icmp .le 8, 3) := by decide +kernel
theorem d_Lake_faultIn_95 : decode (mCd M_Lake_faultIn) 95 = .ok (.iload 4, 2) := by decide +kernel
theorem d_Lake_faultIn_97 : decode (mCd M_Lake_faultIn) 97 = .ok (.goto 4, 3) := by decide +kernel
theorem d_Lake_faultIn_100 : decode (mCd M_Lake_faultIn) 100 = .ok (.iconst (-1), 1) := by decide +kernel
theorem d_Lake_faultIn_101 : decode (mCd M_Lake_faultIn) 101 = .ok (.ireturn, 1) := by decide +kernel
theorem d_Lake_take_0 : decode (mCd M_Lake_take) 0 = .ok (.aload_n 0, 1) := by decide +kernel
theorem d_Lake_take_1 : decode (mCd M_Lake_take) 1 = .ok (.aload_n 1, 1) := by decide +kernel
theorem d_Lake_take_2 : decode (mCd M_Lake_take) 2 = .ok (.iconst 0, 1) := by decide +kernel
theorem d_Lake_take_3 : decode (mCd M_Lake_take) 3 = .ok (.invokevirtual 29, 3) := by decide +kernel
theorem d_Lake_take_6 : decode (mCd M_Lake_take) 6 = .ok (.putfield 9, 3) := by decide +kernel
theorem d_Lake_take_9 : decode (mCd M_Lake_take) 9 = .ok (.aload_n 0, 1) := by decide +kernel
theorem d_Lake_take_10 : decode (mCd M_Lake_take) 10 = .ok (.aload_n 1, 1) := by decide +kernel
theorem d_Lake_take_11 : decode (mCd M_Lake_take) 11 = .ok (.iconst 1, 1) := by decide +kernel
theorem d_Lake_take_12 : decode (mCd M_Lake_take) 12 = .ok (.invokevirtual 29, 3) := by decide +kernel
theorem d_Lake_take_15 : decode (mCd M_Lake_take) 15 = .ok (.putfield 15, 3) := by decide +kernel
theorem d_Lake_take_18 : decode (mCd M_Lake_take) 18 = .ok (.iconst 0, 1) := by decide +kernel
theorem d_Lake_take_19 : decode (mCd M_Lake_take) 19 = .ok (.istore_n 2, 1) := by decide +kernel
theorem d_Lake_take_20 : decode (mCd M_Lake_take) 20 = .ok (.iload_n 2, 1) := by decide +kernel
theorem d_Lake_take_21 : decode (mCd M_Lake_take) 21 = .ok (.bipush 36, 2) := by decide +kernel
theorem d_Lake_take_23 : decode (mCd M_Lake_take) 23 = .ok (.if_icmp .ge 32, 3) := by decide +kernel
theorem d_Lake_take_26 : decode (mCd M_Lake_take) 26 = .ok (.aload_n 0, 1) := by decide +kernel
theorem d_Lake_take_27 : decode (mCd M_Lake_take) 27 = .ok (.getfield 18, 3) := by decide +kernel
theorem d_Lake_take_30 : decode (mCd M_Lake_take) 30 = .ok (.iload_n 2, 1) := by decide +kernel
theorem d_Lake_take_31 : decode (mCd M_Lake_take) 31 = .ok (.aload_n 1, 1) := by decide +kernel
theorem d_Lake_take_32 : decode (mCd M_Lake_take) 32 = .ok (.iconst 2, 1) := by decide +kernel
theorem d_Lake_take_33 : decode (mCd M_Lake_take) 33 = .ok (.iload_n 2, 1) := by decide +kernel
theorem d_Lake_take_34 : decode (mCd M_Lake_take) 34 = .ok (.iadd, 1) := by decide +kernel
theorem d_Lake_take_35 : decode (mCd M_Lake_take) 35 = .ok (.invokevirtual 35, 3) := by decide +kernel
theorem d_Lake_take_38 : decode (mCd M_Lake_take) 38 = .ok (.bipush 35, 2) := by decide +kernel
theorem d_Lake_take_40 : decode (mCd M_Lake_take) 40 = .ok (.if_icmp .ne 7, 3) := by decide +kernel
theorem d_Lake_take_43 : decode (mCd M_Lake_take) 43 = .ok (.iconst 1, 1) := by decide +kernel
theorem d_Lake_take_44 : decode (mCd M_Lake_take) 44 = .ok (.goto 4, 3) := by decide +kernel
theorem d_Lake_take_47 : decode (mCd M_Lake_take) 47 = .ok (.iconst 0, 1) := by decide +kernel
theorem d_Lake_take_48 : decode (mCd M_Lake_take) 48 = .ok (.bastore, 1) := by decide +kernel
theorem d_Lake_take_49 : decode (mCd M_Lake_take) 49 = .ok (.iinc 2 1, 3) := by decide +kernel
theorem d_Lake_take_52 : decode (mCd M_Lake_take) 52 = .ok (.goto (-32), 3) := by decide +kernel
theorem d_Lake_take_55 : decode (mCd M_Lake_take) 55 = .ok (.return_, 1) := by decide +kernel
theorem d_Lake_fields_0 : decode (mCd M_Lake_fields) 0 = .ok (.aload_n 0, 1) := by decide +kernel
theorem d_Lake_fields_1 : decode (mCd M_Lake_fields) 1 = .ok (.getfield 9, 3) := by decide +kernel
theorem d_Lake_fields_4 : decode (mCd M_Lake_fields) 4 = .ok (.aload_n 0, 1) := by decide +kernel
theorem d_Lake_fields_5 : decode (mCd M_Lake_fields) 5 = .ok (.getfield 15, 3) := by decide +kernel
theorem d_Lake_fields_8 : decode (mCd M_Lake_fields) 8 = .ok (.imul, 1) := by decide +kernel
theorem d_Lake_fields_9 : decode (mCd M_Lake_fields) 9 = .ok (.ireturn, 1) := by decide +kernel
theorem d_Lake_has_0 : decode (mCd M_Lake_has) 0 = .ok (.iload_n 1, 1) := by decide +kernel
theorem d_Lake_has_1 : decode (mCd M_Lake_has) 1 = .ok (.ifCond .lt 21, 3) := by decide +kernel
theorem d_Lake_has_4 : decode (mCd M_Lake_has) 4 = .ok (.iload_n 1, 1) := by decide +kernel
theorem d_Lake_has_5 : decode (mCd M_Lake_has) 5 = .ok (.aload_n 0, 1) := by decide +kernel
theorem d_Lake_has_6 : decode (mCd M_Lake_has) 6 = .ok (.invokevirtual 42, 3) := by decide +kernel
theorem d_Lake_has_9 : decode (mCd M_Lake_has) 9 = .ok (.if_icmp .ge 13, 3) := by decide +kernel
theorem d_Lake_has_12 : decode (mCd M_Lake_has) 12 = .ok (.iload_n 1, 1) := by decide +kernel
theorem d_Lake_has_13 : decode (mCd M_Lake_has) 13 = .ok (.bipush 36, 2) := by decide +kernel
theorem d_Lake_has_15 : decode (mCd M_Lake_has) 15 = .ok (.if_icmp .ge 7, 3) := by decide +kernel
theorem d_Lake_has_18 : decode (mCd M_Lake_has) 18 = .ok (.iconst 1, 1) := by decide +kernel
theorem d_Lake_has_19 : decode (mCd M_Lake_has) 19 = .ok (.goto 4, 3) := by decide +kernel
theorem d_Lake_has_22 : decode (mCd M_Lake_has) 22 = .ok (.iconst 0, 1) := by decide +kernel
theorem d_Lake_has_23 : decode (mCd M_Lake_has) 23 = .ok (.ireturn, 1) := by decide +kernel
theorem d_Lake_isRock_0 : decode (mCd M_Lake_isRock) 0 = .ok (.aload_n 0, 1) := by decide +kernel
theorem d_Lake_isRock_1 : decode (mCd M_Lake_isRock) 1 = .ok (.iload_n 1, 1) := by decide +kernel
theorem d_Lake_isRock_2 : decode (mCd M_Lake_isRock) 2 = .ok (.invokevirtual 45, 3) := by decide +kernel
theorem d_Lake_isRock_5 : decode (mCd M_Lake_isRock) 5 = .ok (.ifCond .eq 16, 3) := by decide +kernel
theorem d_Lake_isRock_8 : decode (mCd M_Lake_isRock) 8 = .ok (.aload_n 0, 1) := by decide +kernel
theorem d_Lake_isRock_9 : decode (mCd M_Lake_isRock) 9 = .ok (.getfield 18, 3) := by decide +kernel
theorem d_Lake_isRock_12 : decode (mCd M_Lake_isRock) 12 = .ok (.iload_n 1, 1) := by decide +kernel
theorem d_Lake_isRock_13 : decode (mCd M_Lake_isRock) 13 = .ok (.baload, 1) := by decide +kernel
theorem d_Lake_isRock_14 : decode (mCd M_Lake_isRock) 14 = .ok (.ifCond .eq 7, 3) := by decide +kernel
theorem d_Lake_isRock_17 : decode (mCd M_Lake_isRock) 17 = .ok (.iconst 1, 1) := by decide +kernel
theorem d_Lake_isRock_18 : decode (mCd M_Lake_isRock) 18 = .ok (.goto 4, 3) := by decide +kernel
theorem d_Lake_isRock_21 : decode (mCd M_Lake_isRock) 21 = .ok (.iconst 0, 1) := by decide +kernel
theorem d_Lake_isRock_22 : decode (mCd M_Lake_isRock) 22 = .ok (.ireturn, 1) := by decide +kernel
theorem d_Lake_rowOf_0 : decode (mCd M_Lake_rowOf) 0 = .ok (.aload_n 0, 1) := by decide +kernel
theorem d_Lake_rowOf_1 : decode (mCd M_Lake_rowOf) 1 = .ok (.getfield 15, 3) := by decide +kernel
theorem d_Lake_rowOf_4 : decode (mCd M_Lake_rowOf) 4 = .ok (.ifCond .le 12, 3) := by decide +kernel
theorem d_Lake_rowOf_7 : decode (mCd M_Lake_rowOf) 7 = .ok (.iload_n 1, 1) := by decide +kernel
theorem d_Lake_rowOf_8 : decode (mCd M_Lake_rowOf) 8 = .ok (.aload_n 0, 1) := by decide +kernel
theorem d_Lake_rowOf_9 : decode (mCd M_Lake_rowOf) 9 = .ok (.getfield 15, 3) := by decide +kernel
theorem d_Lake_rowOf_12 : decode (mCd M_Lake_rowOf) 12 = .ok (.idiv, 1) := by decide +kernel
theorem d_Lake_rowOf_13 : decode (mCd M_Lake_rowOf) 13 = .ok (.goto 4, 3) := by decide +kernel
theorem d_Lake_rowOf_16 : decode (mCd M_Lake_rowOf) 16 = .ok (.iconst 0, 1) := by decide +kernel
theorem d_Lake_rowOf_17 : decode (mCd M_Lake_rowOf) 17 = .ok (.ireturn, 1) := by decide +kernel
theorem d_Lake_columnOf_0 : decode (mCd M_Lake_columnOf) 0 = .ok (.aload_n 0, 1) := by decide +kernel
theorem d_Lake_columnOf_1 : decode (mCd M_Lake_columnOf) 1 = .ok (.getfield 15, 3) := by decide +kernel
theorem d_Lake_columnOf_4 : decode (mCd M_Lake_columnOf) 4 = .ok (.ifCond .le 12, 3) := by decide +kernel
theorem d_Lake_columnOf_7 : decode (mCd M_Lake_columnOf) 7 = .ok (.iload_n 1, 1) := by decide +kernel
theorem d_Lake_columnOf_8 : decode (mCd M_Lake_columnOf) 8 = .ok (.aload_n 0, 1) := by decide +kernel
theorem d_Lake_columnOf_9 : decode (mCd M_Lake_columnOf) 9 = .ok (.getfield 15, 3) := by decide +kernel
theorem d_Lake_columnOf_12 : decode (mCd M_Lake_columnOf) 12 = .ok (.irem, 1) := by decide +kernel
theorem d_Lake_columnOf_13 : decode (mCd M_Lake_columnOf) 13 = .ok (.goto 4, 3) := by decide +kernel
theorem d_Lake_columnOf_16 : decode (mCd M_Lake_columnOf) 16 = .ok (.iconst 0, 1) := by decide +kernel
theorem d_Lake_columnOf_17 : decode (mCd M_Lake_columnOf) 17 = .ok (.ireturn, 1) := by decide +kernel
theorem d_Lake_fieldAt_0 : decode (mCd M_Lake_fieldAt) 0 = .ok (.iload_n 1, 1) := by decide +kernel
theorem d_Lake_fieldAt_1 : decode (mCd M_Lake_fieldAt) 1 = .ok (.ifCond .lt 27, 3) := by decide +kernel
theorem d_Lake_fieldAt_4 : decode (mCd M_Lake_fieldAt) 4 = .ok (.iload_n 1, 1) := by decide +kernel
theorem d_Lake_fieldAt_5 : decode (mCd M_Lake_fieldAt) 5 = .ok (.aload_n 0, 1) := by decide +kernel
theorem d_Lake_fieldAt_6 : decode (mCd M_Lake_fieldAt) 6 = .ok (.getfield 9, 3) := by decide +kernel
theorem d_Lake_fieldAt_9 : decode (mCd M_Lake_fieldAt) 9 = .ok (.if_icmp .ge 19, 3) := by decide +kernel
theorem d_Lake_fieldAt_12 : decode (mCd M_Lake_fieldAt) 12 = .ok (.iload_n 2, 1) := by decide +kernel
theorem d_Lake_fieldAt_13 : decode (mCd M_Lake_fieldAt) 13 = .ok (.ifCond .lt 15, 3) := by decide +kernel
theorem d_Lake_fieldAt_16 : decode (mCd M_Lake_fieldAt) 16 = .ok (.iload_n 2, 1) := by decide +kernel
theorem d_Lake_fieldAt_17 : decode (mCd M_Lake_fieldAt) 17 = .ok (.aload_n 0, 1) := by decide +kernel
theorem d_Lake_fieldAt_18 : decode (mCd M_Lake_fieldAt) 18 = .ok (.getfield 15, 3) := by decide +kernel
theorem d_Lake_fieldAt_21 : decode (mCd M_Lake_fieldAt) 21 = .ok (.if_icmp .ge 7, 3) := by decide +kernel
theorem d_Lake_fieldAt_24 : decode (mCd M_Lake_fieldAt) 24 = .ok (.iconst 1, 1) := by decide +kernel
theorem d_Lake_fieldAt_25 : decode (mCd M_Lake_fieldAt) 25 = .ok (.goto 4, 3) := by decide +kernel
theorem d_Lake_fieldAt_28 : decode (mCd M_Lake_fieldAt) 28 = .ok (.iconst 0, 1) := by decide +kernel
theorem d_Lake_fieldAt_29 : decode (mCd M_Lake_fieldAt) 29 = .ok (.istore_n 3, 1) := by decide +kernel
theorem d_Lake_fieldAt_30 : decode (mCd M_Lake_fieldAt) 30 = .ok (.iload_n 3, 1) := by decide +kernel
theorem d_Lake_fieldAt_31 : decode (mCd M_Lake_fieldAt) 31 = .ok (.ifCond .eq 14, 3) := by decide +kernel
theorem d_Lake_fieldAt_34 : decode (mCd M_Lake_fieldAt) 34 = .ok (.iload_n 1, 1) := by decide +kernel
theorem d_Lake_fieldAt_35 : decode (mCd M_Lake_fieldAt) 35 = .ok (.aload_n 0, 1) := by decide +kernel
theorem d_Lake_fieldAt_36 : decode (mCd M_Lake_fieldAt) 36 = .ok (.getfield 15, 3) := by decide +kernel
theorem d_Lake_fieldAt_39 : decode (mCd M_Lake_fieldAt) 39 = .ok (.imul, 1) := by decide +kernel
theorem d_Lake_fieldAt_40 : decode (mCd M_Lake_fieldAt) 40 = .ok (.iload_n 2, 1) := by decide +kernel
theorem d_Lake_fieldAt_41 : decode (mCd M_Lake_fieldAt) 41 = .ok (.iadd, 1) := by decide +kernel
theorem d_Lake_fieldAt_42 : decode (mCd M_Lake_fieldAt) 42 = .ok (.goto 4, 3) := by decide +kernel
theorem d_Lake_fieldAt_45 : decode (mCd M_Lake_fieldAt) 45 = .ok (.iconst (-1), 1) := by decide +kernel
theorem d_Lake_fieldAt_46 : decode (mCd M_Lake_fieldAt) 46 = .ok (.ireturn, 1) := by decide +kernel
theorem d_Lake_beside_0 : decode (mCd M_Lake_beside) 0 = .ok (.iload_n 2, 1) := by decide +kernel
theorem d_Lake_beside_1 : decode (mCd M_Lake_beside) 1 = .ok (.ifCond .ne 7, 3) := by decide +kernel
theorem d_Lake_beside_4 : decode (mCd M_Lake_beside) 4 = .ok (.iconst (-1), 1) := by decide +kernel
theorem d_Lake_beside_5 : decode (mCd M_Lake_beside) 5 = .ok (.goto 13, 3) := by decide +kernel
theorem d_Lake_beside_8 : decode (mCd M_Lake_beside) 8 = .ok (.iload_n 2, 1) := by decide +kernel
theorem d_Lake_beside_9 : decode (mCd M_Lake_beside) 9 = .ok (.iconst 2, 1) := by decide +kernel
theorem d_Lake_beside_10 : decode (mCd M_Lake_beside) 10 = .ok (.if_icmp .ne 7, 3) := by decide +kernel
theorem d_Lake_beside_13 : decode (mCd M_Lake_beside) 13 = .ok (.iconst 1, 1) := by decide +kernel
theorem d_Lake_beside_14 : decode (mCd M_Lake_beside) 14 = .ok (.goto 4, 3) := by decide +kernel
theorem d_Lake_beside_17 : decode (mCd M_Lake_beside) 17 = .ok (.iconst 0, 1) := by decide +kernel
theorem d_Lake_beside_18 : decode (mCd M_Lake_beside) 18 = .ok (.istore_n 3, 1) := by decide +kernel
theorem d_Lake_beside_19 : decode (mCd M_Lake_beside) 19 = .ok (.iload_n 2, 1) := by decide +kernel
theorem d_Lake_beside_20 : decode (mCd M_Lake_beside) 20 = .ok (.iconst 1, 1) := by decide +kernel
theorem d_Lake_beside_21 : decode (mCd M_Lake_beside) 21 = .ok (.if_icmp .ne 7, 3) := by decide +kernel
theorem d_Lake_beside_24 : decode (mCd M_Lake_beside) 24 = .ok (.iconst 1, 1) := by decide +kernel
theorem d_Lake_beside_25 : decode (mCd M_Lake_beside) 25 = .ok (.goto 13, 3) := by decide +kernel
theorem d_Lake_beside_28 : decode (mCd M_Lake_beside) 28 = .ok (.iload_n 2, 1) := by decide +kernel
theorem d_Lake_beside_29 : decode (mCd M_Lake_beside) 29 = .ok (.iconst 3, 1) := by decide +kernel
theorem d_Lake_beside_30 : decode (mCd M_Lake_beside) 30 = .ok (.if_icmp .ne 7, 3) := by decide +kernel
theorem d_Lake_beside_33 : decode (mCd M_Lake_beside) 33 = .ok (.iconst (-1), 1) := by decide +kernel
theorem d_Lake_beside_34 : decode (mCd M_Lake_beside) 34 = .ok (.goto 4, 3) := by decide +kernel
theorem d_Lake_beside_37 : decode (mCd M_Lake_beside) 37 = .ok (.iconst 0, 1) := by decide +kernel
theorem d_Lake_beside_38 : decode (mCd M_Lake_beside) 38 = .ok (.istore 4, 2) := by decide +kernel
theorem d_Lake_beside_40 : decode (mCd M_Lake_beside) 40 = .ok (.aload_n 0, 1) := by decide +kernel
theorem d_Lake_beside_41 : decode (mCd M_Lake_beside) 41 = .ok (.aload_n 0, 1) := by decide +kernel
theorem d_Lake_beside_42 : decode (mCd M_Lake_beside) 42 = .ok (.iload_n 1, 1) := by decide +kernel
theorem d_Lake_beside_43 : decode (mCd M_Lake_beside) 43 = .ok (.invokevirtual 49, 3) := by decide +kernel
theorem d_Lake_beside_46 : decode (mCd M_Lake_beside) 46 = .ok (.iload_n 3, 1) := by decide +kernel
theorem d_Lake_beside_47 : decode (mCd M_Lake_beside) 47 = .ok (.iadd, 1) := by decide +kernel
theorem d_Lake_beside_48 : decode (mCd M_Lake_beside) 48 = .ok (.aload_n 0, 1) := by decide +kernel
theorem d_Lake_beside_49 : decode (mCd M_Lake_beside) 49 = .ok (.iload_n 1, 1) := by decide +kernel
theorem d_Lake_beside_50 : decode (mCd M_Lake_beside) 50 = .ok (.invokevirtual 52, 3) := by decide +kernel
theorem d_Lake_beside_53 : decode (mCd M_Lake_beside) 53 = .ok (.iload 4, 2) := by decide +kernel
theorem d_Lake_beside_55 : decode (mCd M_Lake_beside) 55 = .ok (.iadd, 1) := by decide +kernel
theorem d_Lake_beside_56 : decode (mCd M_Lake_beside) 56 = .ok (.invokevirtual 55, 3) := by decide +kernel
theorem d_Lake_beside_59 : decode (mCd M_Lake_beside) 59 = .ok (.ireturn, 1) := by decide +kernel
theorem d_Lake_gap_0 : decode (mCd M_Lake_gap) 0 = .ok (.aload_n 0, 1) := by decide +kernel
theorem d_Lake_gap_1 : decode (mCd M_Lake_gap) 1 = .ok (.iload_n 1, 1) := by decide +kernel
theorem d_Lake_gap_2 : decode (mCd M_Lake_gap) 2 = .ok (.invokevirtual 49, 3) := by decide +kernel
theorem d_Lake_gap_5 : decode (mCd M_Lake_gap) 5 = .ok (.aload_n 0, 1) := by decide +kernel
theorem d_Lake_gap_6 : decode (mCd M_Lake_gap) 6 = .ok (.iload_n 2, 1) := by decide +kernel
theorem d_Lake_gap_7 : decode (mCd M_Lake_gap) 7 = .ok (.invokevirtual 49, 3) := by decide +kernel
theorem d_Lake_gap_10 : decode (mCd M_Lake_gap) 10 = .ok (.isub, 1) := by decide +kernel
theorem d_Lake_gap_11 : decode (mCd M_Lake_gap) 11 = .ok (.invokestatic 59, 3) := by decide +kernel
theorem d_Lake_gap_14 : decode (mCd M_Lake_gap) 14 = .ok (.aload_n 0, 1) := by decide +kernel
theorem d_Lake_gap_15 : decode (mCd M_Lake_gap) 15 = .ok (.iload_n 1, 1) := by decide +kernel
theorem d_Lake_gap_16 : decode (mCd M_Lake_gap) 16 = .ok (.invokevirtual 52, 3) := by decide +kernel
theorem d_Lake_gap_19 : decode (mCd M_Lake_gap) 19 = .ok (.aload_n 0, 1) := by decide +kernel
theorem d_Lake_gap_20 : decode (mCd M_Lake_gap) 20 = .ok (.iload_n 2, 1) := by decide +kernel
theorem d_Lake_gap_21 : decode (mCd M_Lake_gap) 21 = .ok (.invokevirtual 52, 3) := by decide +kernel
theorem d_Lake_gap_24 : decode (mCd M_Lake_gap) 24 = .ok (.isub, 1) := by decide +kernel
theorem d_Lake_gap_25 : decode (mCd M_Lake_gap) 25 = .ok (.invokestatic 59, 3) := by decide +kernel
theorem d_Lake_gap_28 : decode (mCd M_Lake_gap) 28 = .ok (.iadd, 1) := by decide +kernel
theorem d_Lake_gap_29 : decode (mCd M_Lake_gap) 29 = .ok (.ireturn, 1) := by decide +kernel
theorem d_Lake_isDiagonal_0 : decode (mCd M_Lake_isDiagonal) 0 = .ok (.aload_n 0, 1) := by decide +kernel
theorem d_Lake_isDiagonal_1 : decode (mCd M_Lake_isDiagonal) 1 = .ok (.iload_n 1, 1) := by decide +kernel
theorem d_Lake_isDiagonal_2 : decode (mCd M_Lake_isDiagonal) 2 = .ok (.invokevirtual 49, 3) := by decide +kernel
theorem d_Lake_isDiagonal_5 : decode (mCd M_Lake_isDiagonal) 5 = .ok (.aload_n 0, 1) := by decide +kernel
theorem d_Lake_isDiagonal_6 : decode (mCd M_Lake_isDiagonal) 6 = .ok (.iload_n 2, 1) := by decide +kernel
theorem d_Lake_isDiagonal_7 : decode (mCd M_Lake_isDiagonal) 7 = .ok (.invokevirtual 49, 3) := by decide +kernel
theorem d_Lake_isDiagonal_10 : decode (mCd M_Lake_isDiagonal) 10 = .ok (.isub, 1) := by decide +kernel
theorem d_Lake_isDiagonal_11 : decode (mCd M_Lake_isDiagonal) 11 = .ok (.invokestatic 59, 3) := by decide +kernel
theorem d_Lake_isDiagonal_14 : decode (mCd M_Lake_isDiagonal) 14 = .ok (.aload_n 0, 1) := by decide +kernel
theorem d_Lake_isDiagonal_15 : decode (mCd M_Lake_isDiagonal) 15 = .ok (.iload_n 1, 1) := by decide +kernel
theorem d_Lake_isDiagonal_16 : decode (mCd M_Lake_isDiagonal) 16 = .ok (.invokevirtual 52, 3) := by decide +kernel
theorem d_Lake_isDiagonal_19 : decode (mCd M_Lake_isDiagonal) 19 = .ok (.aload_n 0, 1) := by decide +kernel
theorem d_Lake_isDiagonal_20 : decode (mCd M_Lake_isDiagonal) 20 = .ok (.iload_n 2, 1) := by decide +kernel
theorem d_Lake_isDiagonal_21 : decode (mCd M_Lake_isDiagonal) 21 = .ok (.invokevirtual 52, 3) := by decide +kernel
theorem d_Lake_isDiagonal_24 : decode (mCd M_Lake_isDiagonal) 24 = .ok (.isub, 1) := by decide +kernel
theorem d_Lake_isDiagonal_25 : decode (mCd M_Lake_isDiagonal) 25 = .ok (.invokestatic 59, 3) := by decide +kernel
theorem d_Lake_isDiagonal_28 : decode (mCd M_Lake_isDiagonal) 28 = .ok (.if_icmp .ne 7, 3) := by decide +kernel
theorem d_Lake_isDiagonal_31 : decode (mCd M_Lake_isDiagonal) 31 = .ok (.iconst 1, 1) := by decide +kernel
theorem d_Lake_isDiagonal_32 : decode (mCd M_Lake_isDiagonal) 32 = .ok (.goto 4, 3) := by decide +kernel
theorem d_Lake_isDiagonal_35 : decode (mCd M_Lake_isDiagonal) 35 = .ok (.iconst 0, 1) := by decide +kernel
theorem d_Lake_isDiagonal_36 : decode (mCd M_Lake_isDiagonal) 36 = .ok (.ireturn, 1) := by decide +kernel
theorem d_Lake_measureFrom_0 : decode (mCd M_Lake_measureFrom) 0 = .ok (.aload_n 0, 1) := by decide +kernel
theorem d_Lake_measureFrom_1 : decode (mCd M_Lake_measureFrom) 1 = .ok (.getfield 22, 3) := by decide +kernel
theorem d_Lake_measureFrom_4 : decode (mCd M_Lake_measureFrom) 4 = .ok (.iconst (-1), 1) := by decide +kernel
theorem d_Lake_measureFrom_5 : decode (mCd M_Lake_measureFrom) 5 = .ok (.invokestatic 64, 3) := by decide +kernel
theorem d_Lake_measureFrom_8 : decode (mCd M_Lake_measureFrom) 8 = .ok (.aload_n 0, 1) := by decide +kernel
theorem d_Lake_measureFrom_9 : decode (mCd M_Lake_measureFrom) 9 = .ok (.iload_n 1, 1) := by decide +kernel
theorem d_Lake_measureFrom_10 : decode (mCd M_Lake_measureFrom) 10 = .ok (.invokevirtual 45, 3) := by decide +kernel
theorem d_Lake_measureFrom_13 : decode (mCd M_Lake_measureFrom) 13 = .ok (.ifCond .ne 4, 3) := by decide +kernel
theorem d_Lake_measureFrom_16 : decode (mCd M_Lake_measureFrom) 16 = .ok (.return_, 1) := by decide +kernel
theorem d_Lake_measureFrom_17 : decode (mCd M_Lake_measureFrom) 17 = .ok (.iconst 1, 1) := by decide +kernel
theorem d_Lake_measureFrom_18 : decode (mCd M_Lake_measureFrom) 18 = .ok (.istore_n 2, 1) := by decide +kernel
theorem d_Lake_measureFrom_19 : decode (mCd M_Lake_measureFrom) 19 = .ok (.aload_n 0, 1) := by decide +kernel
theorem d_Lake_measureFrom_20 : decode (mCd M_Lake_measureFrom) 20 = .ok (.getfield 26, 3) := by decide +kernel
theorem d_Lake_measureFrom_23 : decode (mCd M_Lake_measureFrom) 23 = .ok (.iconst 0, 1) := by decide +kernel
theorem d_Lake_measureFrom_24 : decode (mCd M_Lake_measureFrom) 24 = .ok (.iload_n 1, 1) := by decide +kernel
theorem d_Lake_measureFrom_25 : decode (mCd M_Lake_measureFrom) 25 = .ok (.iastore, 1) := by decide +kernel
theorem d_Lake_measureFrom_26 : decode (mCd M_Lake_measureFrom) 26 = .ok (.aload_n 0, 1) := by decide +kernel
theorem d_Lake_measureFrom_27 : decode (mCd M_Lake_measureFrom) 27 = .ok (.getfield 22, 3) := by decide +kernel
theorem d_Lake_measureFrom_30 : decode (mCd M_Lake_measureFrom) 30 = .ok (.iload_n 1, 1) := by decide +kernel
theorem d_Lake_measureFrom_31 : decode (mCd M_Lake_measureFrom) 31 = .ok (.iconst 0, 1) := by decide +kernel
theorem d_Lake_measureFrom_32 : decode (mCd M_Lake_measureFrom) 32 = .ok (.iastore, 1) := by decide +kernel
theorem d_Lake_measureFrom_33 : decode (mCd M_Lake_measureFrom) 33 = .ok (.iconst 0, 1) := by decide +kernel
theorem d_Lake_measureFrom_34 : decode (mCd M_Lake_measureFrom) 34 = .ok (.istore_n 3, 1) := by decide +kernel
theorem d_Lake_measureFrom_35 : decode (mCd M_Lake_measureFrom) 35 = .ok (.iload_n 3, 1) := by decide +kernel
theorem d_Lake_measureFrom_36 : decode (mCd M_Lake_measureFrom) 36 = .ok (.iload_n 2, 1) := by decide +kernel
theorem d_Lake_measureFrom_37 : decode (mCd M_Lake_measureFrom) 37 = .ok (.if_icmp .ge 111, 3) := by decide +kernel
theorem d_Lake_measureFrom_40 : decode (mCd M_Lake_measureFrom) 40 = .ok (.iload_n 3, 1) := by decide +kernel
theorem d_Lake_measureFrom_41 : decode (mCd M_Lake_measureFrom) 41 = .ok (.bipush 36, 2) := by decide +kernel
theorem d_Lake_measureFrom_43 : decode (mCd M_Lake_measureFrom) 43 = .ok (.if_icmp .ge 105, 3) := by decide +kernel
theorem d_Lake_measureFrom_46 : decode (mCd M_Lake_measureFrom) 46 = .ok (.iconst 0, 1) := by decide +kernel
theorem d_Lake_measureFrom_47 : decode (mCd M_Lake_measureFrom) 47 = .ok (.istore 4, 2) := by decide +kernel
theorem d_Lake_measureFrom_49 : decode (mCd M_Lake_measureFrom) 49 = .ok (.iload 4, 2) := by decide +kernel
theorem d_Lake_measureFrom_51 : decode (mCd M_Lake_measureFrom) 51 = .ok (.iconst 4, 1) := by decide +kernel
theorem d_Lake_measureFrom_52 : decode (mCd M_Lake_measureFrom) 52 = .ok (.if_icmp .ge 90, 3) := by decide +kernel
theorem d_Lake_measureFrom_55 : decode (mCd M_Lake_measureFrom) 55 = .ok (.aload_n 0, 1) := by decide +kernel
theorem d_Lake_measureFrom_56 : decode (mCd M_Lake_measureFrom) 56 = .ok (.aload_n 0, 1) := by decide +kernel
theorem d_Lake_measureFrom_57 : decode (mCd M_Lake_measureFrom) 57 = .ok (.getfield 26, 3) := by decide +kernel
theorem d_Lake_measureFrom_60 : decode (mCd M_Lake_measureFrom) 60 = .ok (.iload_n 3, 1) := by decide +kernel
theorem d_Lake_measureFrom_61 : decode (mCd M_Lake_measureFrom) 61 = .ok (.iaload, 1) := by decide +kernel
theorem d_Lake_measureFrom_62 : decode (mCd M_Lake_measureFrom) 62 = .ok (.iload 4, 2) := by decide +kernel
theorem d_Lake_measureFrom_64 : decode (mCd M_Lake_measureFrom) 64 = .ok (.invokevirtual 70, 3) := by decide +kernel
theorem d_Lake_measureFrom_67 : decode (mCd M_Lake_measureFrom) 67 = .ok (.istore 5, 2) := by decide +kernel
theorem d_Lake_measureFrom_69 : decode (mCd M_Lake_measureFrom) 69 = .ok (.aload_n 0, 1) := by decide +kernel
theorem d_Lake_measureFrom_70 : decode (mCd M_Lake_measureFrom) 70 = .ok (.iload 5, 2) := by decide +kernel
theorem d_Lake_measureFrom_72 : decode (mCd M_Lake_measureFrom) 72 = .ok (.invokevirtual 45, 3) := by decide +kernel
theorem d_Lake_measureFrom_75 : decode (mCd M_Lake_measureFrom) 75 = .ok (.ifCond .eq 61, 3) := by decide +kernel
theorem d_Lake_measureFrom_78 : decode (mCd M_Lake_measureFrom) 78 = .ok (.aload_n 0, 1) := by decide +kernel
theorem d_Lake_measureFrom_79 : decode (mCd M_Lake_measureFrom) 79 = .ok (.getfield 18, 3) := by decide +kernel
theorem d_Lake_measureFrom_82 : decode (mCd M_Lake_measureFrom) 82 = .ok (.iload 5, 2) := by decide +kernel
theorem d_Lake_measureFrom_84 : decode (mCd M_Lake_measureFrom) 84 = .ok (.baload, 1) := by decide +kernel
theorem d_Lake_measureFrom_85 : decode (mCd M_Lake_measureFrom) 85 = .ok (.ifCond .ne 51, 3) := by decide +kernel
theorem d_Lake_measureFrom_88 : decode (mCd M_Lake_measureFrom) 88 = .ok (.aload_n 0, 1) := by decide +kernel
theorem d_Lake_measureFrom_89 : decode (mCd M_Lake_measureFrom) 89 = .ok (.getfield 22, 3) := by decide +kernel
theorem d_Lake_measureFrom_92 : decode (mCd M_Lake_measureFrom) 92 = .ok (.iload 5, 2) := by decide +kernel
theorem d_Lake_measureFrom_94 : decode (mCd M_Lake_measureFrom) 94 = .ok (.iaload, 1) := by decide +kernel
theorem d_Lake_measureFrom_95 : decode (mCd M_Lake_measureFrom) 95 = .ok (.iconst (-1), 1) := by decide +kernel
theorem d_Lake_measureFrom_96 : decode (mCd M_Lake_measureFrom) 96 = .ok (.if_icmp .ne 40, 3) := by decide +kernel
theorem d_Lake_measureFrom_99 : decode (mCd M_Lake_measureFrom) 99 = .ok (.iload_n 2, 1) := by decide +kernel
theorem d_Lake_measureFrom_100 : decode (mCd M_Lake_measureFrom) 100 = .ok (.bipush 36, 2) := by decide +kernel
theorem d_Lake_measureFrom_102 : decode (mCd M_Lake_measureFrom) 102 = .ok (.if_icmp .ge 34, 3) := by decide +kernel
theorem d_Lake_measureFrom_105 : decode (mCd M_Lake_measureFrom) 105 = .ok (.aload_n 0, 1) := by decide +kernel
theorem d_Lake_measureFrom_106 : decode (mCd M_Lake_measureFrom) 106 = .ok (.getfield 22, 3) := by decide +kernel
theorem d_Lake_measureFrom_109 : decode (mCd M_Lake_measureFrom) 109 = .ok (.iload 5, 2) := by decide +kernel
theorem d_Lake_measureFrom_111 : decode (mCd M_Lake_measureFrom) 111 = .ok (.aload_n 0, 1) := by decide +kernel
theorem d_Lake_measureFrom_112 : decode (mCd M_Lake_measureFrom) 112 = .ok (.getfield 22, 3) := by decide +kernel
theorem d_Lake_measureFrom_115 : decode (mCd M_Lake_measureFrom) 115 = .ok (.aload_n 0, 1) := by decide +kernel
theorem d_Lake_measureFrom_116 : decode (mCd M_Lake_measureFrom) 116 = .ok (.getfield 26, 3) := by decide +kernel
theorem d_Lake_measureFrom_119 : decode (mCd M_Lake_measureFrom) 119 = .ok (.iload_n 3, 1) := by decide +kernel
theorem d_Lake_measureFrom_120 : decode (mCd M_Lake_measureFrom) 120 = .ok (.iaload, 1) := by decide +kernel
theorem d_Lake_measureFrom_121 : decode (mCd M_Lake_measureFrom) 121 = .ok (.iaload, 1) := by decide +kernel
theorem d_Lake_measureFrom_122 : decode (mCd M_Lake_measureFrom) 122 = .ok (.iconst 1, 1) := by decide +kernel
theorem d_Lake_measureFrom_123 : decode (mCd M_Lake_measureFrom) 123 = .ok (.iadd, 1) := by decide +kernel
theorem d_Lake_measureFrom_124 : decode (mCd M_Lake_measureFrom) 124 = .ok (.iastore, 1) := by decide +kernel
theorem d_Lake_measureFrom_125 : decode (mCd M_Lake_measureFrom) 125 = .ok (.aload_n 0, 1) := by decide +kernel
theorem d_Lake_measureFrom_126 : decode (mCd M_Lake_measureFrom) 126 = .ok (.getfield 26, 3) := by decide +kernel
theorem d_Lake_measureFrom_129 : decode (mCd M_Lake_measureFrom) 129 = .ok (.iload_n 2, 1) := by decide +kernel
theorem d_Lake_measureFrom_130 : decode (mCd M_Lake_measureFrom) 130 = .ok (.iload 5, 2) := by decide +kernel
theorem d_Lake_measureFrom_132 : decode (mCd M_Lake_measureFrom) 132 = .ok (.iastore, 1) := by decide +kernel
theorem d_Lake_measureFrom_133 : decode (mCd M_Lake_measureFrom) 133 = .ok (.iinc 2 1, 3) := by decide +kernel
theorem d_Lake_measureFrom_136 : decode (mCd M_Lake_measureFrom) 136 = .ok (.iinc 4 1, 3) := by decide +kernel
theorem d_Lake_measureFrom_139 : decode (mCd M_Lake_measureFrom) 139 = .ok (.goto (-90), 3) := by decide +kernel
theorem d_Lake_measureFrom_142 : decode (mCd M_Lake_measureFrom) 142 = .ok (.iinc 3 1, 3) := by decide +kernel
theorem d_Lake_measureFrom_145 : decode (mCd M_Lake_measureFrom) 145 = .ok (.goto (-110), 3) := by decide +kernel
theorem d_Lake_measureFrom_148 : decode (mCd M_Lake_measureFrom) 148 = .ok (.return_, 1) := by decide +kernel
theorem d_Lake_stepsTo_0 : decode (mCd M_Lake_stepsTo) 0 = .ok (.aload_n 0, 1) := by decide +kernel
theorem d_Lake_stepsTo_1 : decode (mCd M_Lake_stepsTo) 1 = .ok (.iload_n 1, 1) := by decide +kernel
theorem d_Lake_stepsTo_2 : decode (mCd M_Lake_stepsTo) 2 = .ok (.invokevirtual 45, 3) := by decide +kernel
theorem d_Lake_stepsTo_5 : decode (mCd M_Lake_stepsTo) 5 = .ok (.ifCond .eq 12, 3) := by decide +kernel
theorem d_Lake_stepsTo_8 : decode (mCd M_Lake_stepsTo) 8 = .ok (.aload_n 0, 1) := by decide +kernel
theorem d_Lake_stepsTo_9 : decode (mCd M_Lake_stepsTo) 9 = .ok (.getfield 22, 3) := by decide +kernel
theorem d_Lake_stepsTo_12 : decode (mCd M_Lake_stepsTo) 12 = .ok (.iload_n 1, 1) := by decide +kernel
theorem d_Lake_stepsTo_13 : decode (mCd M_Lake_stepsTo) 13 = .ok (.iaload, 1) := by decide +kernel
theorem d_Lake_stepsTo_14 : decode (mCd M_Lake_stepsTo) 14 = .ok (.goto 4, 3) := by decide +kernel
theorem d_Lake_stepsTo_17 : decode (mCd M_Lake_stepsTo) 17 = .ok (.iconst (-1), 1) := by decide +kernel
theorem d_Lake_stepsTo_18 : decode (mCd M_Lake_stepsTo) 18 = .ok (.ireturn, 1) := by decide +kernel
theorem d_Lake_nextBy_0 : decode (mCd M_Lake_nextBy) 0 = .ok (.iconst (-1), 1) := by decide +kernel
theorem d_Lake_nextBy_1 : decode (mCd M_Lake_nextBy) 1 = .ok (.istore_n 3, 1) := by decide +kernel
theorem d_Lake_nextBy_2 : decode (mCd M_Lake_nextBy) 2 = .ok (.iconst 0, 1) := by decide +kernel
theorem d_Lake_nextBy_3 : decode (mCd M_Lake_nextBy) 3 = .ok (.istore 4, 2) := by decide +kernel
theorem d_Lake_nextBy_5 : decode (mCd M_Lake_nextBy) 5 = .ok (.iload 4, 2) := by decide +kernel
theorem d_Lake_nextBy_7 : decode (mCd M_Lake_nextBy) 7 = .ok (.iconst 4, 1) := by decide +kernel
theorem d_Lake_nextBy_8 : decode (mCd M_Lake_nextBy) 8 = .ok (.if_icmp .ge 48, 3) := by decide +kernel
theorem d_Lake_nextBy_11 : decode (mCd M_Lake_nextBy) 11 = .ok (.aload_n 0, 1) := by decide +kernel
theorem d_Lake_nextBy_12 : decode (mCd M_Lake_nextBy) 12 = .ok (.iload_n 1, 1) := by decide +kernel
theorem d_Lake_nextBy_13 : decode (mCd M_Lake_nextBy) 13 = .ok (.iload 4, 2) := by decide +kernel
theorem d_Lake_nextBy_15 : decode (mCd M_Lake_nextBy) 15 = .ok (.invokevirtual 70, 3) := by decide +kernel
theorem d_Lake_nextBy_18 : decode (mCd M_Lake_nextBy) 18 = .ok (.istore 5, 2) := by decide +kernel
theorem d_Lake_nextBy_20 : decode (mCd M_Lake_nextBy) 20 = .ok (.aload_n 0, 1) := by decide +kernel
theorem d_Lake_nextBy_21 : decode (mCd M_Lake_nextBy) 21 = .ok (.iload 5, 2) := by decide +kernel
theorem d_Lake_nextBy_23 : decode (mCd M_Lake_nextBy) 23 = .ok (.invokevirtual 73, 3) := by decide +kernel
theorem d_Lake_nextBy_26 : decode (mCd M_Lake_nextBy) 26 = .ok (.iload_n 2, 1) := by decide +kernel
theorem d_Lake_nextBy_27 : decode (mCd M_Lake_nextBy) 27 = .ok (.if_icmp .ne 23, 3) := by decide +kernel
theorem d_Lake_nextBy_30 : decode (mCd M_Lake_nextBy) 30 = .ok (.iload 5, 2) := by decide +kernel
theorem d_Lake_nextBy_32 : decode (mCd M_Lake_nextBy) 32 = .ok (.iconst (-1), 1) := by decide +kernel
theorem d_Lake_nextBy_33 : decode (mCd M_Lake_nextBy) 33 = .ok (.if_icmp .eq 17, 3) := by decide +kernel
theorem d_Lake_nextBy_36 : decode (mCd M_Lake_nextBy) 36 = .ok (.iload_n 3, 1) := by decide +kernel
theorem d_Lake_nextBy_37 : decode (mCd M_Lake_nextBy) 37 = .ok (.iconst (-1), 1) := by decide +kernel
theorem d_Lake_nextBy_38 : decode (mCd M_Lake_nextBy) 38 = .ok (.if_icmp .eq 9, 3) := by decide +kernel
theorem d_Lake_nextBy_41 : decode (mCd M_Lake_nextBy) 41 = .ok (.iload 5, 2) := by decide +kernel
theorem d_Lake_nextBy_43 : decode (mCd M_Lake_nextBy) 43 = .ok (.iload_n 3, 1) := by decide +kernel
theorem d_Lake_nextBy_44 : decode (mCd M_Lake_nextBy) 44 = .ok (.if_icmp .ge 6, 3) := by decide +kernel
theorem d_Lake_nextBy_47 : decode (mCd M_Lake_nextBy) 47 = .ok (.iload 5, 2) := by decide +kernel
theorem d_Lake_nextBy_49 : decode (mCd M_Lake_nextBy) 49 = .ok (.istore_n 3, 1) := by decide +kernel
theorem d_Lake_nextBy_50 : decode (mCd M_Lake_nextBy) 50 = .ok (.iinc 4 1, 3) := by decide +kernel
theorem d_Lake_nextBy_53 : decode (mCd M_Lake_nextBy) 53 = .ok (.goto (-48), 3) := by decide +kernel
theorem d_Lake_nextBy_56 : decode (mCd M_Lake_nextBy) 56 = .ok (.iload_n 3, 1) := by decide +kernel
theorem d_Lake_nextBy_57 : decode (mCd M_Lake_nextBy) 57 = .ok (.ireturn, 1) := by decide +kernel
theorem d_Past_init_0 : decode (mCd M_Past_init) 0 = .ok (.aload_n 0, 1) := by decide +kernel
theorem d_Past_init_1 : decode (mCd M_Past_init) 1 = .ok (.invokespecial 1, 3) := by decide +kernel
theorem d_Past_init_4 : decode (mCd M_Past_init) 4 = .ok (.aload_n 0, 1) := by decide +kernel
theorem d_Past_init_5 : decode (mCd M_Past_init) 5 = .ok (.bipush 15, 2) := by decide +kernel
theorem d_Past_init_7 : decode (mCd M_Past_init) 7 = .ok (.anewarray 9, 3) := by decide +kernel
theorem d_Past_init_10 : decode (mCd M_Past_init) 10 = .ok (.putfield 11, 3) := by decide +kernel
theorem d_Past_init_13 : decode (mCd M_Past_init) 13 = .ok (.aload_n 0, 1) := by decide +kernel
theorem d_Past_init_14 : decode (mCd M_Past_init) 14 = .ok (.iconst 0, 1) := by decide +kernel
theorem d_Past_init_15 : decode (mCd M_Past_init) 15 = .ok (.putfield 15, 3) := by decide +kernel
theorem d_Past_init_18 : decode (mCd M_Past_init) 18 = .ok (.aload_n 0, 1) := by decide +kernel
theorem d_Past_init_19 : decode (mCd M_Past_init) 19 = .ok (.iconst 0, 1) := by decide +kernel
theorem d_Past_init_20 : decode (mCd M_Past_init) 20 = .ok (.putfield 19, 3) := by decide +kernel
theorem d_Past_init_23 : decode (mCd M_Past_init) 23 = .ok (.iconst 0, 1) := by decide +kernel
theorem d_Past_init_24 : decode (mCd M_Past_init) 24 = .ok (.istore_n 1, 1) := by decide +kernel
theorem d_Past_init_25 : decode (mCd M_Past_init) 25 = .ok (.iload_n 1, 1) := by decide +kernel
theorem d_Past_init_26 : decode (mCd M_Past_init) 26 = .ok (.bipush 15, 2) := by decide +kernel
theorem d_Past_init_28 : decode (mCd M_Past_init) 28 = .ok (.if_icmp .ge 22, 3) := by decide +kernel
theorem d_Past_init_31 : decode (mCd M_Past_init) 31 = .ok (.aload_n 0, 1) := by decide +kernel
theorem d_Past_init_32 : decode (mCd M_Past_init) 32 = .ok (.getfield 11, 3) := by decide +kernel
theorem d_Past_init_35 : decode (mCd M_Past_init) 35 = .ok (.iload_n 1, 1) := by decide +kernel
theorem d_Past_init_36 : decode (mCd M_Past_init) 36 = .ok (.new 9, 3) := by decide +kernel
theorem d_Past_init_39 : decode (mCd M_Past_init) 39 = .ok (.dup, 1) := by decide +kernel
theorem d_Past_init_40 : decode (mCd M_Past_init) 40 = .ok (.invokespecial 22, 3) := by decide +kernel
theorem d_Past_init_43 : decode (mCd M_Past_init) 43 = .ok (.aastore, 1) := by decide +kernel
theorem d_Past_init_44 : decode (mCd M_Past_init) 44 = .ok (.iinc 1 1, 3) := by decide +kernel
theorem d_Past_init_47 : decode (mCd M_Past_init) 47 = .ok (.goto (-22), 3) := by decide +kernel
theorem d_Past_init_50 : decode (mCd M_Past_init) 50 = .ok (.return_, 1) := by decide +kernel
theorem d_Past_clear_0 : decode (mCd M_Past_clear) 0 = .ok (.aload_n 0, 1) := by decide +kernel
theorem d_Past_clear_1 : decode (mCd M_Past_clear) 1 = .ok (.iconst 0, 1) := by decide +kernel
theorem d_Past_clear_2 : decode (mCd M_Past_clear) 2 = .ok (.putfield 19, 3) := by decide +kernel
theorem d_Past_clear_5 : decode (mCd M_Past_clear) 5 = .ok (.return_, 1) := by decide +kernel
theorem d_Past_push_0 : decode (mCd M_Past_push) 0 = .ok (.aload_n 0, 1) := by decide +kernel
theorem d_Past_push_1 : decode (mCd M_Past_push) 1 = .ok (.getfield 11, 3) := by decide +kernel
theorem d_Past_push_4 : decode (mCd M_Past_push) 4 = .ok (.aload_n 0, 1) := by decide +kernel
theorem d_Past_push_5 : decode (mCd M_Past_push) 5 = .ok (.getfield 15, 3) := by decide +kernel
theorem d_Past_push_8 : decode (mCd M_Past_push) 8 = .ok (.aaload, 1) := by decide +kernel
theorem d_Past_push_9 : decode (mCd M_Past_push) 9 = .ok (.aload_n 1, 1) := by decide +kernel
theorem d_Past_push_10 : decode (mCd M_Past_push) 10 = .ok (.invokevirtual 23, 3) := by decide +kernel
theorem d_Past_push_13 : decode (mCd M_Past_push) 13 = .ok (.aload_n 0, 1) := by decide +kernel
theorem d_Past_push_14 : decode (mCd M_Past_push) 14 = .ok (.aload_n 0, 1) := by decide +kernel
theorem d_Past_push_15 : decode (mCd M_Past_push) 15 = .ok (.getfield 15, 3) := by decide +kernel
theorem d_Past_push_18 : decode (mCd M_Past_push) 18 = .ok (.iconst 1, 1) := by decide +kernel
theorem d_Past_push_19 : decode (mCd M_Past_push) 19 = .ok (.iadd, 1) := by decide +kernel
theorem d_Past_push_20 : decode (mCd M_Past_push) 20 = .ok (.bipush 15, 2) := by decide +kernel
theorem d_Past_push_22 : decode (mCd M_Past_push) 22 = .ok (.irem, 1) := by decide +kernel
theorem d_Past_push_23 : decode (mCd M_Past_push) 23 = .ok (.putfield 15, 3) := by decide +kernel
theorem d_Past_push_26 : decode (mCd M_Past_push) 26 = .ok (.aload_n 0, 1) := by decide +kernel
theorem d_Past_push_27 : decode (mCd M_Past_push) 27 = .ok (.bipush 15, 2) := by decide +kernel
theorem d_Past_push_29 : decode (mCd M_Past_push) 29 = .ok (.aload_n 0, 1) := by decide +kernel
theorem d_Past_push_30 : decode (mCd M_Past_push) 30 = .ok (.getfield 19, 3) := by decide +kernel
theorem d_Past_push_33 : decode (mCd M_Past_push) 33 = .ok (.iconst 1, 1) := by decide +kernel
theorem d_Past_push_34 : decode (mCd M_Past_push) 34 = .ok (.iadd, 1) := by decide +kernel
theorem d_Past_push_35 : decode (mCd M_Past_push) 35 = .ok (.invokestatic 27, 3) := by decide +kernel
theorem d_Past_push_38 : decode (mCd M_Past_push) 38 = .ok (.putfield 19, 3) := by decide +kernel
theorem d_Past_push_41 : decode (mCd M_Past_push) 41 = .ok (.return_, 1) := by decide +kernel
theorem d_Past_pop_0 : decode (mCd M_Past_pop) 0 = .ok (.aload_n 0, 1) := by decide +kernel
theorem d_Past_pop_1 : decode (mCd M_Past_pop) 1 = .ok (.getfield 19, 3) := by decide +kernel
theorem d_Past_pop_4 : decode (mCd M_Past_pop) 4 = .ok (.ifCond .ne 5, 3) := by decide +kernel
theorem d_Past_pop_7 : decode (mCd M_Past_pop) 7 = .ok (.iconst 0, 1) := by decide +kernel
theorem d_Past_pop_8 : decode (mCd M_Past_pop) 8 = .ok (.ireturn, 1) := by decide +kernel
theorem d_Past_pop_9 : decode (mCd M_Past_pop) 9 = .ok (.aload_n 0, 1) := by decide +kernel
theorem d_Past_pop_10 : decode (mCd M_Past_pop) 10 = .ok (.aload_n 0, 1) := by decide +kernel
theorem d_Past_pop_11 : decode (mCd M_Past_pop) 11 = .ok (.getfield 15, 3) := by decide +kernel
theorem d_Past_pop_14 : decode (mCd M_Past_pop) 14 = .ok (.bipush 15, 2) := by decide +kernel
theorem d_Past_pop_16 : decode (mCd M_Past_pop) 16 = .ok (.iadd, 1) := by decide +kernel
theorem d_Past_pop_17 : decode (mCd M_Past_pop) 17 = .ok (.iconst 1, 1) := by decide +kernel
theorem d_Past_pop_18 : decode (mCd M_Past_pop) 18 = .ok (.isub, 1) := by decide +kernel
theorem d_Past_pop_19 : decode (mCd M_Past_pop) 19 = .ok (.bipush 15, 2) := by decide +kernel
theorem d_Past_pop_21 : decode (mCd M_Past_pop) 21 = .ok (.irem, 1) := by decide +kernel
theorem d_Past_pop_22 : decode (mCd M_Past_pop) 22 = .ok (.putfield 15, 3) := by decide +kernel
theorem d_Past_pop_25 : decode (mCd M_Past_pop) 25 = .ok (.aload_n 0, 1) := by decide +kernel
theorem d_Past_pop_26 : decode (mCd M_Past_pop) 26 = .ok (.dup, 1) := by decide +kernel
theorem d_Past_pop_27 : decode (mCd M_Past_pop) 27 = .ok (.getfield 19, 3) := by decide +kernel
theorem d_Past_pop_30 : decode (mCd M_Past_pop) 30 = .ok (.iconst 1, 1) := by decide +kernel
theorem d_Past_pop_31 : decode (mCd M_Past_pop) 31 = .ok (.isub, 1) := by decide +kernel
theorem d_Past_pop_32 : decode (mCd M_Past_pop) 32 = .ok (.putfield 19, 3) := by decide +kernel
theorem d_Past_pop_35 : decode (mCd M_Past_pop) 35 = .ok (.aload_n 1, 1) := by decide +kernel
theorem d_Past_pop_36 : decode (mCd M_Past_pop) 36 = .ok (.aload_n 0, 1) := by decide +kernel
theorem d_Past_pop_37 : decode (mCd M_Past_pop) 37 = .ok (.getfield 11, 3) := by decide +kernel
theorem d_Past_pop_40 : decode (mCd M_Past_pop) 40 = .ok (.aload_n 0, 1) := by decide +kernel
theorem d_Past_pop_41 : decode (mCd M_Past_pop) 41 = .ok (.getfield 15, 3) := by decide +kernel
theorem d_Past_pop_44 : decode (mCd M_Past_pop) 44 = .ok (.aaload, 1) := by decide +kernel
theorem d_Past_pop_45 : decode (mCd M_Past_pop) 45 = .ok (.invokevirtual 23, 3) := by decide +kernel
theorem d_Past_pop_48 : decode (mCd M_Past_pop) 48 = .ok (.iconst 1, 1) := by decide +kernel
theorem d_Past_pop_49 : decode (mCd M_Past_pop) 49 = .ok (.ireturn, 1) := by decide +kernel
theorem d_Rule_init_0 : decode (mCd M_Rule_init) 0 = .ok (.aload_n 0, 1) := by decide +kernel
theorem d_Rule_init_1 : decode (mCd M_Rule_init) 1 = .ok (.invokespecial 3, 3) := by decide +kernel
theorem d_Rule_init_4 : decode (mCd M_Rule_init) 4 = .ok (.aload_n 0, 1) := by decide +kernel
theorem d_Rule_init_5 : decode (mCd M_Rule_init) 5 = .ok (.bipush 40, 2) := by decide +kernel
theorem d_Rule_init_7 : decode (mCd M_Rule_init) 7 = .ok (.newarray .int, 2) := by decide +kernel
theorem d_Rule_init_9 : decode (mCd M_Rule_init) 9 = .ok (.putfield 11, 3) := by decide +kernel
theorem d_Rule_init_12 : decode (mCd M_Rule_init) 12 = .ok (.aload_n 0, 1) := by decide +kernel
theorem d_Rule_init_13 : decode (mCd M_Rule_init) 13 = .ok (.iconst 0, 1) := by decide +kernel
theorem d_Rule_init_14 : decode (mCd M_Rule_init) 14 = .ok (.putfield 15, 3) := by decide +kernel
theorem d_Rule_init_17 : decode (mCd M_Rule_init) 17 = .ok (.aload_n 0, 1) := by decide +kernel
theorem d_Rule_init_18 : decode (mCd M_Rule_init) 18 = .ok (.bipush 40, 2) := by decide +kernel
theorem d_Rule_init_20 : decode (mCd M_Rule_init) 20 = .ok (.newarray .int, 2) := by decide +kernel
theorem d_Rule_init_22 : decode (mCd M_Rule_init) 22 = .ok (.putfield 19, 3) := by decide +kernel
theorem d_Rule_init_25 : decode (mCd M_Rule_init) 25 = .ok (.aload_n 0, 1) := by decide +kernel
theorem d_Rule_init_26 : decode (mCd M_Rule_init) 26 = .ok (.bipush 40, 2) := by decide +kernel
theorem d_Rule_init_28 : decode (mCd M_Rule_init) 28 = .ok (.newarray .int, 2) := by decide +kernel
theorem d_Rule_init_30 : decode (mCd M_Rule_init) 30 = .ok (.putfield 22, 3) := by decide +kernel
theorem d_Rule_init_33 : decode (mCd M_Rule_init) 33 = .ok (.aload_n 0, 1) := by decide +kernel
theorem d_Rule_init_34 : decode (mCd M_Rule_init) 34 = .ok (.iconst 0, 1) := by decide +kernel
theorem d_Rule_init_35 : decode (mCd M_Rule_init) 35 = .ok (.putfield 25, 3) := by decide +kernel
theorem d_Rule_init_38 : decode (mCd M_Rule_init) 38 = .ok (.aload_n 0, 1) := by decide +kernel
theorem d_Rule_init_39 : decode (mCd M_Rule_init) 39 = .ok (.iconst 0, 1) := by decide +kernel
theorem d_Rule_init_40 : decode (mCd M_Rule_init) 40 = .ok (.putfield 28, 3) := by decide +kernel
theorem d_Rule_init_43 : decode (mCd M_Rule_init) 43 = .ok (.aload_n 0, 1) := by decide +kernel
theorem d_Rule_init_44 : decode (mCd M_Rule_init) 44 = .ok (.iconst 0, 1) := by decide +kernel
theorem d_Rule_init_45 : decode (mCd M_Rule_init) 45 = .ok (.putfield 31, 3) := by decide +kernel
theorem d_Rule_init_48 : decode (mCd M_Rule_init) 48 = .ok (.aload_n 0, 1) := by decide +kernel
theorem d_Rule_init_49 : decode (mCd M_Rule_init) 49 = .ok (.iconst 0, 1) := by decide +kernel
theorem d_Rule_init_50 : decode (mCd M_Rule_init) 50 = .ok (.putfield 34, 3) := by decide +kernel
theorem d_Rule_init_53 : decode (mCd M_Rule_init) 53 = .ok (.aload_n 0, 1) := by decide +kernel
theorem d_Rule_init_54 : decode (mCd M_Rule_init) 54 = .ok (.iconst 1, 1) := by decide +kernel
theorem d_Rule_init_55 : decode (mCd M_Rule_init) 55 = .ok (.putfield 37, 3) := by decide +kernel
theorem d_Rule_init_58 : decode (mCd M_Rule_init) 58 = .ok (.aload_n 0, 1) := by decide +kernel
theorem d_Rule_init_59 : decode (mCd M_Rule_init) 59 = .ok (.sipush 1024, 3) := by decide +kernel
theorem d_Rule_init_62 : decode (mCd M_Rule_init) 62 = .ok (.newarray .int, 2) := by decide +kernel
theorem d_Rule_init_64 : decode (mCd M_Rule_init) 64 = .ok (.putfield 41, 3) := by decide +kernel
theorem d_Rule_init_67 : decode (mCd M_Rule_init) 67 = .ok (.aload_n 0, 1) := by decide +kernel
theorem d_Rule_init_68 : decode (mCd M_Rule_init) 68 = .ok (.sipush 1024, 3) := by decide +kernel
theorem d_Rule_init_71 : decode (mCd M_Rule_init) 71 = .ok (.newarray .byte, 2) := by decide +kernel
theorem d_Rule_init_73 : decode (mCd M_Rule_init) 73 = .ok (.putfield 44, 3) := by decide +kernel
theorem d_Rule_init_76 : decode (mCd M_Rule_init) 76 = .ok (.aload_n 0, 1) := by decide +kernel
theorem d_Rule_init_77 : decode (mCd M_Rule_init) 77 = .ok (.invokevirtual 48, 3) := by decide +kernel
theorem d_Rule_init_80 : decode (mCd M_Rule_init) 80 = .ok (.return_, 1) := by decide +kernel
theorem d_Rule_plain_0 : decode (mCd M_Rule_plain) 0 = .ok (.getstatic 51, 3) := by decide +kernel
theorem d_Rule_plain_3 : decode (mCd M_Rule_plain) 3 = .ok (.iconst 0, 1) := by decide +kernel
theorem d_Rule_plain_4 : decode (mCd M_Rule_plain) 4 = .ok (.aload_n 0, 1) := by decide +kernel
theorem d_Rule_plain_5 : decode (mCd M_Rule_plain) 5 = .ok (.getfield 11, 3) := by decide +kernel
theorem d_Rule_plain_8 : decode (mCd M_Rule_plain) 8 = .ok (.iconst 0, 1) := by decide +kernel
theorem d_Rule_plain_9 : decode (mCd M_Rule_plain) 9 = .ok (.getstatic 51, 3) := by decide +kernel
theorem d_Rule_plain_12 : decode (mCd M_Rule_plain) 12 = .ok (.arraylength, 1) := by decide +kernel
theorem d_Rule_plain_13 : decode (mCd M_Rule_plain) 13 = .ok (.invokestatic 54, 3) := by decide +kernel
theorem d_Rule_plain_16 : decode (mCd M_Rule_plain) 16 = .ok (.aload_n 0, 1) := by decide +kernel
theorem d_Rule_plain_17 : decode (mCd M_Rule_plain) 17 = .ok (.getstatic 51, 3) := by decide +kernel
theorem d_Rule_plain_20 : decode (mCd M_Rule_plain) 20 = .ok (.arraylength, 1) := by decide +kernel
theorem d_Rule_plain_21 : decode (mCd M_Rule_plain) 21 = .ok (.putfield 15, 3) := by decide +kernel
theorem d_Rule_plain_24 : decode (mCd M_Rule_plain) 24 = .ok (.aload_n 0, 1) := by decide +kernel
theorem d_Rule_plain_25 : decode (mCd M_Rule_plain) 25 = .ok (.getfield 41, 3) := by decide +kernel
theorem d_Rule_plain_28 : decode (mCd M_Rule_plain) 28 = .ok (.iconst (-1), 1) := by decide +kernel
theorem d_Rule_plain_29 : decode (mCd M_Rule_plain) 29 = .ok (.invokestatic 60, 3) := by decide +kernel
theorem d_Rule_plain_32 : decode (mCd M_Rule_plain) 32 = .ok (.return_, 1) := by decide +kernel
theorem d_Rule_read_0 : decode (mCd M_Rule_read) 0 = .ok (.aload_n 0, 1) := by decide +kernel
theorem d_Rule_read_1 : decode (mCd M_Rule_read) 1 = .ok (.iconst 0, 1) := by decide +kernel
theorem d_Rule_read_2 : decode (mCd M_Rule_read) 2 = .ok (.putfield 15, 3) := by decide +kernel
theorem d_Rule_read_5 : decode (mCd M_Rule_read) 5 = .ok (.aload_n 0, 1) := by decide +kernel
theorem d_Rule_read_6 : decode (mCd M_Rule_read) 6 = .ok (.iconst 0, 1) := by decide +kernel
theorem d_Rule_read_7 : decode (mCd M_Rule_read) 7 = .ok (.putfield 25, 3) := by decide +kernel
theorem d_Rule_read_10 : decode (mCd M_Rule_read) 10 = .ok (.aload_n 0, 1) := by decide +kernel
theorem d_Rule_read_11 : decode (mCd M_Rule_read) 11 = .ok (.iconst 0, 1) := by decide +kernel
theorem d_Rule_read_12 : decode (mCd M_Rule_read) 12 = .ok (.putfield 28, 3) := by decide +kernel
theorem d_Rule_read_15 : decode (mCd M_Rule_read) 15 = .ok (.aload_n 0, 1) := by decide +kernel
theorem d_Rule_read_16 : decode (mCd M_Rule_read) 16 = .ok (.iconst 0, 1) := by decide +kernel
theorem d_Rule_read_17 : decode (mCd M_Rule_read) 17 = .ok (.putfield 31, 3) := by decide +kernel
theorem d_Rule_read_20 : decode (mCd M_Rule_read) 20 = .ok (.aload_n 0, 1) := by decide +kernel
theorem d_Rule_read_21 : decode (mCd M_Rule_read) 21 = .ok (.iconst 0, 1) := by decide +kernel
theorem d_Rule_read_22 : decode (mCd M_Rule_read) 22 = .ok (.putfield 34, 3) := by decide +kernel
theorem d_Rule_read_25 : decode (mCd M_Rule_read) 25 = .ok (.aload_n 0, 1) := by decide +kernel
theorem d_Rule_read_26 : decode (mCd M_Rule_read) 26 = .ok (.iconst 1, 1) := by decide +kernel
theorem d_Rule_read_27 : decode (mCd M_Rule_read) 27 = .ok (.putfield 37, 3) := by decide +kernel
theorem d_Rule_read_30 : decode (mCd M_Rule_read) 30 = .ok (.bipush 40, 2) := by decide +kernel
theorem d_Rule_read_32 : decode (mCd M_Rule_read) 32 = .ok (.aload_n 1, 1) := by decide +kernel
theorem d_Rule_read_33 : decode (mCd M_Rule_read) 33 = .ok (.invokevirtual 66, 3) := by decide +kernel
theorem d_Rule_read_36 : decode (mCd M_Rule_read) 36 = .ok (.invokestatic 72, 3) := by decide +kernel
theorem d_Rule_read_39 : decode (mCd M_Rule_read) 39 = .ok (.istore_n 2, 1) := by decide +kernel
theorem d_Rule_read_40 : decode (mCd M_Rule_read) 40 = .ok (.iconst 0, 1) := by decide +kernel
theorem d_Rule_read_41 : decode (mCd M_Rule_read) 41 = .ok (.istore_n 3, 1) := by decide +kernel
theorem d_Rule_read_42 : decode (mCd M_Rule_read) 42 = .ok (.iload_n 3, 1) := by decide +kernel
theorem d_Rule_read_43 : decode (mCd M_Rule_read) 43 = .ok (.iload_n 2, 1) := by decide +kernel
theorem d_Rule_read_44 : decode (mCd M_Rule_read) 44 = .ok (.if_icmp .ge 46, 3) := by decide +kernel
theorem d_Rule_read_47 : decode (mCd M_Rule_read) 47 = .ok (.aload_n 0, 1) := by decide +kernel
theorem d_Rule_read_48 : decode (mCd M_Rule_read) 48 = .ok (.getfield 37, 3) := by decide +kernel
theorem d_Rule_read_51 : decode (mCd M_Rule_read) 51 = .ok (.ifCond .eq 15, 3) := by decide +kernel
theorem d_Rule_read_54 : decode (mCd M_Rule_read) 54 = .ok (.aload_n 0, 1) := by decide +kernel
theorem d_Rule_read_55 : decode (mCd M_Rule_read) 55 = .ok (.aload_n 1, 1) := by decide +kernel
theorem d_Rule_read_56 : decode (mCd M_Rule_read) 56 = .ok (.iload_n 3, 1) := by decide +kernel
theorem d_Rule_read_57 : decode (mCd M_Rule_read) 57 = .ok (.invokevirtual 78, 3) := by decide +kernel
theorem d_Rule_read_60 : decode (mCd M_Rule_read) 60 = .ok (.invokevirtual 82, 3) := by decide +kernel
theorem d_Rule_read_63 : decode (mCd M_Rule_read) 63 = .ok (.goto 12, 3) := by decide +kernel
theorem d_Rule_read_66 : decode (mCd M_Rule_read) 66 = .ok (.aload_n 0, 1) := by decide +kernel
theorem d_Rule_read_67 : decode (mCd M_Rule_read) 67 = .ok (.aload_n 1, 1) := by decide +kernel
theorem d_Rule_read_68 : decode (mCd M_Rule_read) 68 = .ok (.iload_n 3, 1) := by decide +kernel
theorem d_Rule_read_69 : decode (mCd M_Rule_read) 69 = .ok (.invokevirtual 78, 3) := by decide +kernel
theorem d_Rule_read_72 : decode (mCd M_Rule_read) 72 = .ok (.invokevirtual 86, 3) := by decide +kernel
theorem d_Rule_read_75 : decode (mCd M_Rule_read) 75 = .ok (.istore 4, 2) := by decide +kernel
theorem d_Rule_read_77 : decode (mCd M_Rule_read) 77 = .ok (.iload 4, 2) := by decide +kernel
theorem d_Rule_read_79 : decode (mCd M_Rule_read) 79 = .ok (.ifCond .ne 5, 3) := by decide +kernel
theorem d_Rule_read_82 : decode (mCd M_Rule_read) 82 = .ok (.iload_n 3, 1) := by decide +kernel
theorem d_Rule_read_83 : decode (mCd M_Rule_read) 83 = .ok (.ireturn, 1) := by decide +kernel
theorem d_Rule_read_84 : decode (mCd M_Rule_read) 84 = .ok (.iinc 3 1, 3) := by decide +kernel
theorem d_Rule_read_87 : decode (mCd M_Rule_read) 87 = .ok (.goto (-45), 3) := by decide +kernel
theorem d_Rule_read_90 : decode (mCd M_Rule_read) 90 = .ok (.aload_n 1, 1) := by decide +kernel
theorem d_Rule_read_91 : decode (mCd M_Rule_read) 91 = .ok (.invokevirtual 66, 3) := by decide +kernel
theorem d_Rule_read_94 : decode (mCd M_Rule_read) 94 = .ok (.ifCond .ne 9, 3) := by decide +kernel
theorem d_Rule_read_97 : decode (mCd M_Rule_read) 97 = .ok (.aload_n 0, 1) := by decide +kernel
theorem d_Rule_read_98 : decode (mCd M_Rule_read) 98 = .ok (.invokevirtual 48, 3) := by decide +kernel
theorem d_Rule_read_101 : decode (mCd M_Rule_read) 101 = .ok (.iconst (-1), 1) := by decide +kernel
theorem d_Rule_read_102 : decode (mCd M_Rule_read) 102 = .ok (.ireturn, 1) := by decide +kernel
theorem d_Rule_read_103 : decode (mCd M_Rule_read) 103 = .ok (.aload_n 1, 1) := by decide +kernel
theorem d_Rule_read_104 : decode (mCd M_Rule_read) 104 = .ok (.invokevirtual 66, 3) := by decide +kernel
theorem d_Rule_read_107 : decode (mCd M_Rule_read) 107 = .ok (.bipush 40, 2) := by decide +kernel
theorem d_Rule_read_109 : decode (mCd M_Rule_read) 109 = .ok (.if_icmp .gt 17, 3) := by decide +kernel
theorem d_Rule_read_112 : decode (mCd M_Rule_read) 112 = .ok (.aload_n 0, 1) := by decide +kernel
theorem d_Rule_read_113 : decode (mCd M_Rule_read) 113 = .ok (.getfield 37, 3) := by decide +kernel
theorem d_Rule_read_116 : decode (mCd M_Rule_read) 116 = .ok (.ifCond .ne 10, 3) := by decide +kernel
theorem d_Rule_read_119 : decode (mCd M_Rule_read) 119 = .ok (.aload_n 0, 1) := by decide +kernel
theorem d_Rule_read_120 : decode (mCd M_Rule_read) 120 = .ok (.getfield 28, 3) := by decide +kernel
theorem d_Rule_read_123 : decode (mCd M_Rule_read) 123 = .ok (.ifCond .le 5, 3) := by decide +kernel
theorem d_Rule_read_126 : decode (mCd M_Rule_read) 126 = .ok (.iload_n 2, 1) := by decide +kernel
theorem d_Rule_read_127 : decode (mCd M_Rule_read) 127 = .ok (.ireturn, 1) := by decide +kernel
theorem d_Rule_read_128 : decode (mCd M_Rule_read) 128 = .ok (.aload_n 0, 1) := by decide +kernel
theorem d_Rule_read_129 : decode (mCd M_Rule_read) 129 = .ok (.iconst 0, 1) := by decide +kernel
theorem d_Rule_read_130 : decode (mCd M_Rule_read) 130 = .ok (.invokevirtual 89, 3) := by decide +kernel
theorem d_Rule_read_133 : decode (mCd M_Rule_read) 133 = .ok (.aload_n 0, 1) := by decide +kernel
theorem d_Rule_read_134 : decode (mCd M_Rule_read) 134 = .ok (.getfield 41, 3) := by decide +kernel
theorem d_Rule_read_137 : decode (mCd M_Rule_read) 137 = .ok (.iconst (-1), 1) := by decide +kernel
theorem d_Rule_read_138 : decode (mCd M_Rule_read) 138 = .ok (.invokestatic 60, 3) := by decide +kernel
theorem d_Rule_read_141 : decode (mCd M_Rule_read) 141 = .ok (.iconst (-1), 1) := by decide +kernel
theorem d_Rule_read_142 : decode (mCd M_Rule_read) 142 = .ok (.ireturn, 1) := by decide +kernel
theorem d_Rule_takeThing_0 : decode (mCd M_Rule_takeThing) 0 = .ok (.iload_n 1, 1) := by decide +kernel
theorem d_Rule_takeThing_1 : decode (mCd M_Rule_takeThing) 1 = .ok (.bipush 45, 2) := by decide +kernel
theorem d_Rule_takeThing_3 : decode (mCd M_Rule_takeThing) 3 = .ok (.if_icmp .ne 12, 3) := by decide +kernel
theorem d_Rule_takeThing_6 : decode (mCd M_Rule_takeThing) 6 = .ok (.aload_n 0, 1) := by decide +kernel
theorem d_Rule_takeThing_7 : decode (mCd M_Rule_takeThing) 7 = .ok (.sipush 3000, 3) := by decide +kernel
theorem d_Rule_takeThing_10 : decode (mCd M_Rule_takeThing) 10 = .ok (.invokevirtual 93, 3) := by decide +kernel
theorem d_Rule_takeThing_13 : decode (mCd M_Rule_takeThing) 13 = .ok (.iconst 1, 1) := by decide +kernel
theorem d_Rule_takeThing_14 : decode (mCd M_Rule_takeThing) 14 = .ok (.ireturn, 1) := by decide +kernel
theorem d_Rule_takeThing_15 : decode (mCd M_Rule_takeThing) 15 = .ok (.iload_n 1, 1) := by decide +kernel
theorem d_Rule_takeThing_16 : decode (mCd M_Rule_takeThing) 16 = .ok (.bipush 40, 2) := by decide +kernel
theorem d_Rule_takeThing_18 : decode (mCd M_Rule_takeThing) 18 = .ok (.if_icmp .ne 49, 3) := by decide +kernel
theorem d_Rule_takeThing_21 : decode (mCd M_Rule_takeThing) 21 = .ok (.aload_n 0, 1) := by decide +kernel
theorem d_Rule_takeThing_22 : decode (mCd M_Rule_takeThing) 22 = .ok (.dup, 1) := by decide +kernel
theorem d_Rule_takeThing_23 : decode (mCd M_Rule_takeThing) 23 = .ok (.getfield 28, 3) := by decide +kernel
theorem d_Rule_takeThing_26 : decode (mCd M_Rule_takeThing) 26 = .ok (.iconst 1, 1) := by decide +kernel
theorem d_Rule_takeThing_27 : decode (mCd M_Rule_takeThing) 27 = .ok (.iadd, 1) := by decide +kernel
theorem d_Rule_takeThing_28 : decode (mCd M_Rule_takeThing) 28 = .ok (.putfield 28, 3) := by decide +kernel
theorem d_Rule_takeThing_31 : decode (mCd M_Rule_takeThing) 31 = .ok (.aload_n 0, 1) := by decide +kernel
theorem d_Rule_takeThing_32 : decode (mCd M_Rule_takeThing) 32 = .ok (.dup, 1) := by decide +kernel
theorem d_Rule_takeThing_33 : decode (mCd M_Rule_takeThing) 33 = .ok (.getfield 31, 3) := by decide +kernel
theorem d_Rule_takeThing_36 : decode (mCd M_Rule_takeThing) 36 = .ok (.iconst 1, 1) := by decide +kernel
theorem d_Rule_takeThing_37 : decode (mCd M_Rule_takeThing) 37 = .ok (.aload_n 0, 1) := by decide +kernel
theorem d_Rule_takeThing_38 : decode (mCd M_Rule_takeThing) 38 = .ok (.getfield 28, 3) := by decide +kernel
theorem d_Rule_takeThing_41 : decode (mCd M_Rule_takeThing) 41 = .ok (.ishl, 1) := by decide +kernel
theorem d_Rule_takeThing_42 : decode (mCd M_Rule_takeThing) 42 = .ok (.iconst (-1), 1) := by decide +kernel
theorem d_Rule_takeThing_43 : decode (mCd M_Rule_takeThing) 43 = .ok (.ixor, 1) := by decide +kernel
theorem d_Rule_takeThing_44 : decode (mCd M_Rule_takeThing) 44 = .ok (.iand, 1) := by decide +kernel
theorem d_Rule_takeThing_45 : decode (mCd M_Rule_takeThing) 45 = .ok (.putfield 31, 3) := by decide +kernel
theorem d_Rule_takeThing_48 : decode (mCd M_Rule_takeThing) 48 = .ok (.aload_n 0, 1) := by decide +kernel
theorem d_Rule_takeThing_49 : decode (mCd M_Rule_takeThing) 49 = .ok (.iload_n 1, 1) := by decide +kernel
theorem d_Rule_takeThing_50 : decode (mCd M_Rule_takeThing) 50 = .ok (.invokevirtual 93, 3) := by decide +kernel
theorem d_Rule_takeThing_53 : decode (mCd M_Rule_takeThing) 53 = .ok (.aload_n 0, 1) := by decide +kernel
theorem d_Rule_takeThing_54 : decode (mCd M_Rule_takeThing) 54 = .ok (.getfield 28, 3) := by decide +kernel
theorem d_Rule_takeThing_57 : decode (mCd M_Rule_takeThing) 57 = .ok (.iconst 4, 1) := by decide +kernel
theorem d_Rule_takeThing_58 : decode (mCd M_Rule_takeThing) 58 = .ok (.if_icmp .gt 7, 3) := by decide +kernel
theorem d_Rule_takeThing_61 : decode (mCd M_Rule_takeThing) 61 = .ok (.iconst 1, 1) := by decide +kernel
theorem d_Rule_takeThing_62 : decode (mCd M_Rule_takeThing) 62 = .ok (.goto 4, 3) := by decide +kernel
theorem d_Rule_takeThing_65 : decode (mCd M_Rule_takeThing) 65 = .ok (.iconst 0, 1) := by decide +kernel
theorem d_Rule_takeThing_66 : decode (mCd M_Rule_takeThing) 66 = .ok (.ireturn, 1) := by decide +kernel
theorem d_Rule_takeThing_67 : decode (mCd M_Rule_takeThing) 67 = .ok (.ldc 96, 2) := by decide +kernel
theorem d_Rule_takeThing_69 : decode (mCd M_Rule_takeThing) 69 = .ok (.iload_n 1, 1) := by decide +kernel
theorem d_Rule_takeThing_70 : decode (mCd M_Rule_takeThing) 70 = .ok (.i2c, 1) := by decide +kernel
theorem d_Rule_takeThing_71 : decode (mCd M_Rule_takeThing) 71 = .ok (.invokevirtual 98, 3) := by decide +kernel
theorem d_Rule_takeThing_74 : decode (mCd M_Rule_takeThing) 74 = .ok (.istore_n 2, 1) := by decide +kernel
theorem d_Rule_takeThing_75 : decode (mCd M_Rule_takeThing) 75 = .ok (.iload_n 1, 1) := by decide +kernel
theorem d_Rule_takeThing_76 : decode (mCd M_Rule_takeThing) 76 = .ok (.bipush 48, 2) := by decide +kernel
theorem d_Rule_takeThing_78 : decode (mCd M_Rule_takeThing) 78 = .ok (.if_icmp .lt 13, 3) := by decide +kernel
theorem d_Rule_takeThing_81 : decode (mCd M_Rule_takeThing) 81 = .ok (.iload_n 1, 1) := by decide +kernel
theorem d_Rule_takeThing_82 : decode (mCd M_Rule_takeThing) 82 = .ok (.bipush 57, 2) := by decide +kernel
theorem d_Rule_takeThing_84 : decode (mCd M_Rule_takeThing) 84 = .ok (.if_icmp .gt 7, 3) := by decide +kernel
theorem d_Rule_takeThing_87 : decode (mCd M_Rule_takeThing) 87 = .ok (.iconst 1, 1) := by decide +kernel
theorem d_Rule_takeThing_88 : decode (mCd M_Rule_takeThing) 88 = .ok (.goto 4, 3) := by decide +kernel
theorem d_Rule_takeThing_91 : decode (mCd M_Rule_takeThing) 91 = .ok (.iconst 0, 1) := by decide +kernel
theorem d_Rule_takeThing_92 : decode (mCd M_Rule_takeThing) 92 = .ok (.istore_n 3, 1) := by decide +kernel
theorem d_Rule_takeThing_93 : decode (mCd M_Rule_takeThing) 93 = .ok (.iload_n 3, 1) := by decide +kernel
theorem d_Rule_takeThing_94 : decode (mCd M_Rule_takeThing) 94 = .ok (.ifCond .eq 14, 3) := by decide +kernel
theorem d_Rule_takeThing_97 : decode (mCd M_Rule_takeThing) 97 = .ok (.aload_n 0, 1) := by decide +kernel
theorem d_Rule_takeThing_98 : decode (mCd M_Rule_takeThing) 98 = .ok (.iload_n 1, 1) := by decide +kernel
theorem d_Rule_takeThing_99 : decode (mCd M_Rule_takeThing) 99 = .ok (.bipush 48, 2) := by decide +kernel
theorem d_Rule_takeThing_101 : decode (mCd M_Rule_takeThing) 101 = .ok (.isub, 1) := by decide +kernel
theorem d_Rule_takeThing_102 : decode (mCd M_Rule_takeThing) 102 = .ok (.invokevirtual 103, 3) := by decide +kernel
theorem d_Rule_takeThing_105 : decode (mCd M_Rule_takeThing) 105 = .ok (.goto 16, 3) := by decide +kernel
theorem d_Rule_takeThing_108 : decode (mCd M_Rule_takeThing) 108 = .ok (.iload_n 2, 1) := by decide +kernel
theorem d_Rule_takeThing_109 : decode (mCd M_Rule_takeThing) 109 = .ok (.ifCond .lt 12, 3) := by decide +kernel
theorem d_Rule_takeThing_112 : decode (mCd M_Rule_takeThing) 112 = .ok (.aload_n 0, 1) := by decide +kernel
theorem d_Rule_takeThing_113 : decode (mCd M_Rule_takeThing) 113 = .ok (.sipush 1000, 3) := by decide +kernel
theorem d_Rule_takeThing_116 : decode (mCd M_Rule_takeThing) 116 = .ok (.iload_n 2, 1) := by decide +kernel
theorem d_Rule_takeThing_117 : decode (mCd M_Rule_takeThing) 117 = .ok (.iadd, 1) := by decide +kernel
theorem d_Rule_takeThing_118 : decode (mCd M_Rule_takeThing) 118 = .ok (.invokevirtual 103, 3) := by decide +kernel
theorem d_Rule_takeThing_121 : decode (mCd M_Rule_takeThing) 121 = .ok (.aload_n 0, 1) := by decide +kernel
theorem d_Rule_takeThing_122 : decode (mCd M_Rule_takeThing) 122 = .ok (.iload_n 3, 1) := by decide +kernel
theorem d_Rule_takeThing_123 : decode (mCd M_Rule_takeThing) 123 = .ok (.ifCond .eq 7, 3) := by decide +kernel
theorem d_Rule_takeThing_126 : decode (mCd M_Rule_takeThing) 126 = .ok (.iconst 1, 1) := by decide +kernel
theorem d_Rule_takeThing_127 : decode (mCd M_Rule_takeThing) 127 = .ok (.goto 4, 3) := by decide +kernel
theorem d_Rule_takeThing_130 : decode (mCd M_Rule_takeThing) 130 = .ok (.iconst 0, 1) := by decide +kernel
theorem d_Rule_takeThing_131 : decode (mCd M_Rule_takeThing) 131 = .ok (.putfield 34, 3) := by decide +kernel
theorem d_Rule_takeThing_134 : decode (mCd M_Rule_takeThing) 134 = .ok (.aload_n 0, 1) := by decide +kernel
theorem d_Rule_takeThing_135 : decode (mCd M_Rule_takeThing) 135 = .ok (.iload_n 3, 1) := by decide +kernel
theorem d_Rule_takeThing_136 : decode (mCd M_Rule_takeThing) 136 = .ok (.ifCond .ne 11, 3) := by decide +kernel
theorem d_Rule_takeThing_139 : decode (mCd M_Rule_takeThing) 139 = .ok (.iload_n 2, 1) := by decide +kernel
theorem d_Rule_takeThing_140 : decode (mCd M_Rule_takeThing) 140 = .ok (.ifCond .ge 7, 3) := by decide +kernel
theorem d_Rule_takeThing_143 : decode (mCd M_Rule_takeThing) 143 = .ok (.iconst 1, 1) := by decide +kernel
theorem d_Rule_takeThing_144 : decode (mCd M_Rule_takeThing) 144 = .ok (.goto 4, 3) := by decide +kernel
theorem d_Rule_takeThing_147 : decode (mCd M_Rule_takeThing) 147 = .ok (.iconst 0, 1) := by decide +kernel
theorem d_Rule_takeThing_148 : decode (mCd M_Rule_takeThing) 148 = .ok (.putfield 37, 3) := by decide +kernel
theorem d_Rule_takeThing_151 : decode (mCd M_Rule_takeThing) 151 = .ok (.aload_n 0, 1) := by decide +kernel
theorem d_Rule_takeThing_152 : decode (mCd M_Rule_takeThing) 152 = .ok (.getfield 37, 3) := by decide +kernel
theorem d_Rule_takeThing_155 : decode (mCd M_Rule_takeThing) 155 = .ok (.ifCond .ne 7, 3) := by decide +kernel
theorem d_Rule_takeThing_158 : decode (mCd M_Rule_takeThing) 158 = .ok (.iconst 1, 1) := by decide +kernel
theorem d_Rule_takeThing_159 : decode (mCd M_Rule_takeThing) 159 = .ok (.goto 4, 3) := by decide +kernel
theorem d_Rule_takeThing_162 : decode (mCd M_Rule_takeThing) 162 = .ok (.iconst 0, 1) := by decide +kernel
theorem d_Rule_takeThing_163 : decode (mCd M_Rule_takeThing) 163 = .ok (.ireturn, 1) := by decide +kernel
theorem d_Rule_takeBehind_0 : decode (mCd M_Rule_takeBehind) 0 = .ok (.iload_n 1, 1) := by decide +kernel
theorem d_Rule_takeBehind_1 : decode (mCd M_Rule_takeBehind) 1 = .ok (.bipush 48, 2) := by decide +kernel
theorem d_Rule_takeBehind_3 : decode (mCd M_Rule_takeBehind) 3 = .ok (.if_icmp .lt 18, 3) := by decide +kernel
theorem d_Rule_takeBehind_6 : decode (mCd M_Rule_takeBehind) 6 = .ok (.iload_n 1, 1) := by decide +kernel
theorem d_Rule_takeBehind_7 : decode (mCd M_Rule_takeBehind) 7 = .ok (.bipush 57, 2) := by decide +kernel
theorem d_Rule_takeBehind_9 : decode (mCd M_Rule_takeBehind) 9 = .ok (.if_icmp .gt 12, 3) := by decide +kernel
theorem d_Rule_takeBehind_12 : decode (mCd M_Rule_takeBehind) 12 = .ok (.aload_n 0, 1) := by decide +kernel
theorem d_Rule_takeBehind_13 : decode (mCd M_Rule_takeBehind) 13 = .ok (.iload_n 1, 1) := by decide +kernel
theorem d_Rule_takeBehind_14 : decode (mCd M_Rule_takeBehind) 14 = .ok (.bipush 48, 2) := by decide +kernel
theorem d_Rule_takeBehind_16 : decode (mCd M_Rule_takeBehind) 16 = .ok (.isub, 1) := by decide +kernel
theorem d_Rule_takeBehind_17 : decode (mCd M_Rule_takeBehind) 17 = .ok (.invokevirtual 106, 3) := by decide +kernel
theorem d_Rule_takeBehind_20 : decode (mCd M_Rule_takeBehind) 20 = .ok (.ireturn, 1) := by decide +kernel
theorem d_Rule_takeBehind_21 : decode (mCd M_Rule_takeBehind) 21 = .ok (.aload_n 0, 1) := by decide +kernel
theorem d_Rule_takeBehind_22 : decode (mCd M_Rule_takeBehind) 22 = .ok (.iconst 0, 1) := by decide +kernel
theorem d_Rule_takeBehind_23 : decode (mCd M_Rule_takeBehind) 23 = .ok (.putfield 34, 3) := by decide +kernel
theorem d_Rule_takeBehind_26 : decode (mCd M_Rule_takeBehind) 26 = .ok (.iload_n 1, 1) := by decide +kernel
theorem d_Rule_takeBehind_27 : decode (mCd M_Rule_takeBehind) 27 = .ok (.bipush 41, 2) := by decide +kernel
theorem d_Rule_takeBehind_29 : decode (mCd M_Rule_takeBehind) 29 = .ok (.if_icmp .ne 8, 3) := by decide +kernel
theorem d_Rule_takeBehind_32 : decode (mCd M_Rule_takeBehind) 32 = .ok (.aload_n 0, 1) := by decide +kernel
theorem d_Rule_takeBehind_33 : decode (mCd M_Rule_takeBehind) 33 = .ok (.invokevirtual 109, 3) := by decide +kernel
theorem d_Rule_takeBehind_36 : decode (mCd M_Rule_takeBehind) 36 = .ok (.ireturn, 1) := by decide +kernel
theorem d_Rule_takeBehind_37 : decode (mCd M_Rule_takeBehind) 37 = .ok (.iload_n 1, 1) := by decide +kernel
theorem d_Rule_takeBehind_38 : decode (mCd M_Rule_takeBehind) 38 = .ok (.invokestatic 113, 3) := by decide +kernel
theorem d_Rule_takeBehind_41 : decode (mCd M_Rule_takeBehind) 41 = .ok (.istore_n 2, 1) := by decide +kernel
theorem d_Rule_takeBehind_42 : decode (mCd M_Rule_takeBehind) 42 = .ok (.iload_n 2, 1) := by decide +kernel
theorem d_Rule_takeBehind_43 : decode (mCd M_Rule_takeBehind) 43 = .ok (.ifCond .eq 23, 3) := by decide +kernel
theorem d_Rule_takeBehind_46 : decode (mCd M_Rule_takeBehind) 46 = .ok (.iload_n 2, 1) := by decide +kernel
theorem d_Rule_takeBehind_47 : decode (mCd M_Rule_takeBehind) 47 = .ok (.iconst 1, 1) := by decide +kernel
theorem d_Rule_takeBehind_48 : decode (mCd M_Rule_takeBehind) 48 = .ok (.if_icmp .ne 20, 3) := by decide +kernel
theorem d_Rule_takeBehind_51 : decode (mCd M_Rule_takeBehind) 51 = .ok (.aload_n 0, 1) := by decide +kernel
theorem d_Rule_takeBehind_52 : decode (mCd M_Rule_takeBehind) 52 = .ok (.getfield 31, 3) := by decide +kernel
theorem d_Rule_takeBehind_55 : decode (mCd M_Rule_takeBehind) 55 = .ok (.aload_n 0, 1) := by decide +kernel
theorem d_Rule_takeBehind_56 : decode (mCd M_Rule_takeBehind) 56 = .ok (.getfield 28, 3) := by decide +kernel
theorem d_Rule_takeBehind_59 : decode (mCd M_Rule_takeBehind) 59 = .ok (.iushr, 1) := by decide +kernel
theorem d_Rule_takeBehind_60 : decode (mCd M_Rule_takeBehind) 60 = .ok (.iconst 1, 1) := by decide +kernel
theorem d_Rule_takeBehind_61 : decode (mCd M_Rule_takeBehind) 61 = .ok (.iand, 1) := by decide +kernel
theorem d_Rule_takeBehind_62 : decode (mCd M_Rule_takeBehind) 62 = .ok (.iconst 1, 1) := by decide +kernel
theorem d_Rule_takeBehind_63 : decode (mCd M_Rule_takeBehind) 63 = .ok (.if_icmp .ne 5, 3) := by decide +kernel
theorem d_Rule_takeBehind_66 : decode (mCd M_Rule_takeBehind) 66 = .ok (.iconst 0, 1) := by decide +kernel
theorem d_Rule_takeBehind_67 : decode (mCd M_Rule_takeBehind) 67 = .ok (.ireturn, 1) := by decide +kernel
theorem d_Rule_takeBehind_68 : decode (mCd M_Rule_takeBehind) 68 = .ok (.aload_n 0, 1) := by decide +kernel
theorem d_Rule_takeBehind_69 : decode (mCd M_Rule_takeBehind) 69 = .ok (.dup, 1) := by decide +kernel
theorem d_Rule_takeBehind_70 : decode (mCd M_Rule_takeBehind) 70 = .ok (.getfield 31, 3) := by decide +kernel
theorem d_Rule_takeBehind_73 : decode (mCd M_Rule_takeBehind) 73 = .ok (.iload_n 2, 1) := by decide +kernel
theorem d_Rule_takeBehind_74 : decode (mCd M_Rule_takeBehind) 74 = .ok (.iconst 1, 1) := by decide +kernel
theorem d_Rule_takeBehind_75 : decode (mCd M_Rule_takeBehind) 75 = .ok (.if_icmp .ne 12, 3) := by decide +kernel
theorem d_Rule_takeBehind_78 : decode (mCd M_Rule_takeBehind) 78 = .ok (.iconst 1, 1) := by decide +kernel
theorem d_Rule_takeBehind_79 : decode (mCd M_Rule_takeBehind) 79 = .ok (.aload_n 0, 1) := by decide +kernel
theorem d_Rule_takeBehind_80 : decode (mCd M_Rule_takeBehind) 80 = .ok (.getfield 28, 3) := by decide +kernel
theorem d_Rule_takeBehind_83 : decode (mCd M_Rule_takeBehind) 83 = .ok (.ishl, 1) := by decide +kernel
theorem d_Rule_takeBehind_84 : decode (mCd M_Rule_takeBehind) 84 = .ok (.goto 4, 3) := by decide +kernel
theorem d_Rule_takeBehind_87 : decode (mCd M_Rule_takeBehind) 87 = .ok (.iconst 0, 1) := by decide +kernel
theorem d_Rule_takeBehind_88 : decode (mCd M_Rule_takeBehind) 88 = .ok (.ior, 1) := by decide +kernel
theorem d_Rule_takeBehind_89 : decode (mCd M_Rule_takeBehind) 89 = .ok (.putfield 31, 3) := by decide +kernel
theorem d_Rule_takeBehind_92 : decode (mCd M_Rule_takeBehind) 92 = .ok (.aload_n 0, 1) := by decide +kernel
theorem d_Rule_takeBehind_93 : decode (mCd M_Rule_takeBehind) 93 = .ok (.iload_n 2, 1) := by decide +kernel
theorem d_Rule_takeBehind_94 : decode (mCd M_Rule_takeBehind) 94 = .ok (.invokevirtual 89, 3) := by decide +kernel
theorem d_Rule_takeBehind_97 : decode (mCd M_Rule_takeBehind) 97 = .ok (.aload_n 0, 1) := by decide +kernel
theorem d_Rule_takeBehind_98 : decode (mCd M_Rule_takeBehind) 98 = .ok (.sipush 2000, 3) := by decide +kernel
theorem d_Rule_takeBehind_101 : decode (mCd M_Rule_takeBehind) 101 = .ok (.iload_n 1, 1) := by decide +kernel
theorem d_Rule_takeBehind_102 : decode (mCd M_Rule_takeBehind) 102 = .ok (.iadd, 1) := by decide +kernel
theorem d_Rule_takeBehind_103 : decode (mCd M_Rule_takeBehind) 103 = .ok (.invokevirtual 93, 3) := by decide +kernel
theorem d_Rule_takeBehind_106 : decode (mCd M_Rule_takeBehind) 106 = .ok (.aload_n 0, 1) := by decide +kernel
theorem d_Rule_takeBehind_107 : decode (mCd M_Rule_takeBehind) 107 = .ok (.iconst 1, 1) := by decide +kernel
theorem d_Rule_takeBehind_108 : decode (mCd M_Rule_takeBehind) 108 = .ok (.putfield 37, 3) := by decide +kernel
theorem d_Rule_takeBehind_111 : decode (mCd M_Rule_takeBehind) 111 = .ok (.iconst 1, 1) := by decide +kernel
theorem d_Rule_takeBehind_112 : decode (mCd M_Rule_takeBehind) 112 = .ok (.ireturn, 1) := by decide +kernel
theorem d_Rule_takeDigit_0 : decode (mCd M_Rule_takeDigit) 0 = .ok (.aload_n 0, 1) := by decide +kernel
theorem d_Rule_takeDigit_1 : decode (mCd M_Rule_takeDigit) 1 = .ok (.getfield 34, 3) := by decide +kernel
theorem d_Rule_takeDigit_4 : decode (mCd M_Rule_takeDigit) 4 = .ok (.ifCond .eq 18, 3) := by decide +kernel
theorem d_Rule_takeDigit_7 : decode (mCd M_Rule_takeDigit) 7 = .ok (.aload_n 0, 1) := by decide +kernel
theorem d_Rule_takeDigit_8 : decode (mCd M_Rule_takeDigit) 8 = .ok (.getfield 34, 3) := by decide +kernel
theorem d_Rule_takeDigit_11 : decode (mCd M_Rule_takeDigit) 11 = .ok (.iconst 3, 1) := by decide +kernel
theorem d_Rule_takeDigit_12 : decode (mCd M_Rule_takeDigit) 12 = .ok (.if_icmp .eq 10, 3) := by decide +kernel
theorem d_Rule_takeDigit_15 : decode (mCd M_Rule_takeDigit) 15 = .ok (.aload_n 0, 1) := by decide +kernel
theorem d_Rule_takeDigit_16 : decode (mCd M_Rule_takeDigit) 16 = .ok (.getfield 15, 3) := by decide +kernel
theorem d_Rule_takeDigit_19 : decode (mCd M_Rule_takeDigit) 19 = .ok (.ifCond .ne 5, 3) := by decide +kernel
theorem d_Rule_takeDigit_22 : decode (mCd M_Rule_takeDigit) 22 = .ok (.iconst 0, 1) := by decide +kernel
theorem d_Rule_takeDigit_23 : decode (mCd M_Rule_takeDigit) 23 = .ok (.ireturn, 1) := by decide +kernel
theorem d_Rule_takeDigit_24 : decode (mCd M_Rule_takeDigit) 24 = .ok (.aload_n 0, 1) := by decide +kernel
theorem d_Rule_takeDigit_25 : decode (mCd M_Rule_takeDigit) 25 = .ok (.dup, 1) := by decide +kernel
theorem d_Rule_takeDigit_26 : decode (mCd M_Rule_takeDigit) 26 = .ok (.getfield 34, 3) := by decide +kernel
theorem d_Rule_takeDigit_29 : decode (mCd M_Rule_takeDigit) 29 = .ok (.iconst 1, 1) := by decide +kernel
theorem d_Rule_takeDigit_30 : decode (mCd M_Rule_takeDigit) 30 = .ok (.iadd, 1) := by decide +kernel
theorem d_Rule_takeDigit_31 : decode (mCd M_Rule_takeDigit) 31 = .ok (.putfield 34, 3) := by decide +kernel
theorem d_Rule_takeDigit_34 : decode (mCd M_Rule_takeDigit) 34 = .ok (.aload_n 0, 1) := by decide +kernel
theorem d_Rule_takeDigit_35 : decode (mCd M_Rule_takeDigit) 35 = .ok (.getfield 11, 3) := by decide +kernel
theorem d_Rule_takeDigit_38 : decode (mCd M_Rule_takeDigit) 38 = .ok (.aload_n 0, 1) := by decide +kernel
theorem d_Rule_takeDigit_39 : decode (mCd M_Rule_takeDigit) 39 = .ok (.getfield 15, 3) := by decide +kernel
theorem d_Rule_takeDigit_42 : decode (mCd M_Rule_takeDigit) 42 = .ok (.iconst 1, 1) := by decide +kernel
theorem d_Rule_takeDigit_43 : decode (mCd M_Rule_takeDigit) 43 = .ok (.isub, 1) := by decide +kernel
theorem d_Rule_takeDigit_44 : decode (mCd M_Rule_takeDigit) 44 = .ok (.aload_n 0, 1) := by decide +kernel
theorem d_Rule_takeDigit_45 : decode (mCd M_Rule_takeDigit) 45 = .ok (.getfield 11, 3) := by decide +kernel
theorem d_Rule_takeDigit_48 : decode (mCd M_Rule_takeDigit) 48 = .ok (.aload_n 0, 1) := by decide +kernel
theorem d_Rule_takeDigit_49 : decode (mCd M_Rule_takeDigit) 49 = .ok (.getfield 15, 3) := by decide +kernel
theorem d_Rule_takeDigit_52 : decode (mCd M_Rule_takeDigit) 52 = .ok (.iconst 1, 1) := by decide +kernel
theorem d_Rule_takeDigit_53 : decode (mCd M_Rule_takeDigit) 53 = .ok (.isub, 1) := by decide +kernel
theorem d_Rule_takeDigit_54 : decode (mCd M_Rule_takeDigit) 54 = .ok (.iaload, 1) := by decide +kernel
theorem d_Rule_takeDigit_55 : decode (mCd M_Rule_takeDigit) 55 = .ok (.bipush 10, 2) := by decide +kernel
theorem d_Rule_takeDigit_57 : decode (mCd M_Rule_takeDigit) 57 = .ok (.imul, 1) := by decide +kernel
theorem d_Rule_takeDigit_58 : decode (mCd M_Rule_takeDigit) 58 = .ok (.iload_n 1, 1) := by decide +kernel
theorem d_Rule_takeDigit_59 : decode (mCd M_Rule_takeDigit) 59 = .ok (.iadd, 1) := by decide +kernel
theorem d_Rule_takeDigit_60 : decode (mCd M_Rule_takeDigit) 60 = .ok (.iastore, 1) := by decide +kernel
theorem d_Rule_takeDigit_61 : decode (mCd M_Rule_takeDigit) 61 = .ok (.iconst 1, 1) := by decide +kernel
theorem d_Rule_takeDigit_62 : decode (mCd M_Rule_takeDigit) 62 = .ok (.ireturn, 1) := by decide +kernel
theorem d_Rule_closeOne_0 : decode (mCd M_Rule_closeOne) 0 = .ok (.aload_n 0, 1) := by decide +kernel
theorem d_Rule_closeOne_1 : decode (mCd M_Rule_closeOne) 1 = .ok (.getfield 28, 3) := by decide +kernel
theorem d_Rule_closeOne_4 : decode (mCd M_Rule_closeOne) 4 = .ok (.ifCond .ne 5, 3) := by decide +kernel
theorem d_Rule_closeOne_7 : decode (mCd M_Rule_closeOne) 7 = .ok (.iconst 0, 1) := by decide +kernel
theorem d_Rule_closeOne_8 : decode (mCd M_Rule_closeOne) 8 = .ok (.ireturn, 1) := by decide +kernel
theorem d_Rule_closeOne_9 : decode (mCd M_Rule_closeOne) 9 = .ok (.aload_n 0, 1) := by decide +kernel
theorem d_Rule_closeOne_10 : decode (mCd M_Rule_closeOne) 10 = .ok (.iconst 0, 1) := by decide +kernel
theorem d_Rule_closeOne_11 : decode (mCd M_Rule_closeOne) 11 = .ok (.invokevirtual 89, 3) := by decide +kernel
theorem d_Rule_closeOne_14 : decode (mCd M_Rule_closeOne) 14 = .ok (.aload_n 0, 1) := by decide +kernel
theorem d_Rule_closeOne_15 : decode (mCd M_Rule_closeOne) 15 = .ok (.dup, 1) := by decide +kernel
theorem d_Rule_closeOne_16 : decode (mCd M_Rule_closeOne) 16 = .ok (.getfield 25, 3) := by decide +kernel
theorem d_Rule_closeOne_19 : decode (mCd M_Rule_closeOne) 19 = .ok (.iconst 1, 1) := by decide +kernel
theorem d_Rule_closeOne_20 : decode (mCd M_Rule_closeOne) 20 = .ok (.isub, 1) := by decide +kernel
theorem d_Rule_closeOne_21 : decode (mCd M_Rule_closeOne) 21 = .ok (.putfield 25, 3) := by decide +kernel
theorem d_Rule_closeOne_24 : decode (mCd M_Rule_closeOne) 24 = .ok (.aload_n 0, 1) := by decide +kernel
theorem d_Rule_closeOne_25 : decode (mCd M_Rule_closeOne) 25 = .ok (.dup, 1) := by decide +kernel
theorem d_Rule_closeOne_26 : decode (mCd M_Rule_closeOne) 26 = .ok (.getfield 28, 3) := by decide +kernel
theorem d_Rule_closeOne_29 : decode (mCd M_Rule_closeOne) 29 = .ok (.iconst 1, 1) := by decide +kernel
theorem d_Rule_closeOne_30 : decode (mCd M_Rule_closeOne) 30 = .ok (.isub, 1) := by decide +kernel
theorem d_Rule_closeOne_31 : decode (mCd M_Rule_closeOne) 31 = .ok (.putfield 28, 3) := by decide +kernel
theorem d_Rule_closeOne_34 : decode (mCd M_Rule_closeOne) 34 = .ok (.iconst 1, 1) := by decide +kernel
theorem d_Rule_closeOne_35 : decode (mCd M_Rule_closeOne) 35 = .ok (.ireturn, 1) := by decide +kernel
theorem d_Rule_bindingOf_0 : decode (mCd M_Rule_bindingOf) 0 = .ok (.iload_n 0, 1) := by decide +kernel
theorem d_Rule_bindingOf_1 : decode (mCd M_Rule_bindingOf) 1 = .ok (.tableswitch 105 42 62 #[103, 101, 105, 101, 105, 103, 105, 105, 105, 105, 105, 105, 105, 105, 105, 105, 105, 105, 99, 99, 99], 99) := by decide +kernel
theorem d_Rule_bindingOf_100 : decode (mCd M_Rule_bindingOf) 100 = .ok (.iconst 1, 1) := by decide +kernel
theorem d_Rule_bindingOf_101 : decode (mCd M_Rule_bindingOf) 101 = .ok (.ireturn, 1) := by decide +kernel
theorem d_Rule_bindingOf_102 : decode (mCd M_Rule_bindingOf) 102 = .ok (.iconst 2, 1) := by decide +kernel
theorem d_Rule_bindingOf_103 : decode (mCd M_Rule_bindingOf) 103 = .ok (.ireturn, 1) := by decide +kernel
theorem d_Rule_bindingOf_104 : decode (mCd M_Rule_bindingOf) 104 = .ok (.iconst 3, 1) := by decide +kernel
theorem d_Rule_bindingOf_105 : decode (mCd M_Rule_bindingOf) 105 = .ok (.ireturn, 1) := by decide +kernel
theorem d_Rule_bindingOf_106 : decode (mCd M_Rule_bindingOf) 106 = .ok (.iconst 0, 1) := by decide +kernel
theorem d_Rule_bindingOf_107 : decode (mCd M_Rule_bindingOf) 107 = .ok (.ireturn, 1) := by decide +kernel
theorem d_Rule_emit_0 : decode (mCd M_Rule_emit) 0 = .ok (.aload_n 0, 1) := by decide +kernel
theorem d_Rule_emit_1 : decode (mCd M_Rule_emit) 1 = .ok (.getfield 15, 3) := by decide +kernel
theorem d_Rule_emit_4 : decode (mCd M_Rule_emit) 4 = .ok (.bipush 40, 2) := by decide +kernel
theorem d_Rule_emit_6 : decode (mCd M_Rule_emit) 6 = .ok (.if_icmp .ge 23, 3) := by decide +kernel
theorem d_Rule_emit_9 : decode (mCd M_Rule_emit) 9 = .ok (.aload_n 0, 1) := by decide +kernel
theorem d_Rule_emit_10 : decode (mCd M_Rule_emit) 10 = .ok (.getfield 11, 3) := by decide +kernel
theorem d_Rule_emit_13 : decode (mCd M_Rule_emit) 13 = .ok (.aload_n 0, 1) := by decide +kernel
theorem d_Rule_emit_14 : decode (mCd M_Rule_emit) 14 = .ok (.getfield 15, 3) := by decide +kernel
theorem d_Rule_emit_17 : decode (mCd M_Rule_emit) 17 = .ok (.iload_n 1, 1) := by decide +kernel
theorem d_Rule_emit_18 : decode (mCd M_Rule_emit) 18 = .ok (.iastore, 1) := by decide +kernel
theorem d_Rule_emit_19 : decode (mCd M_Rule_emit) 19 = .ok (.aload_n 0, 1) := by decide +kernel
theorem d_Rule_emit_20 : decode (mCd M_Rule_emit) 20 = .ok (.dup, 1) := by decide +kernel
theorem d_Rule_emit_21 : decode (mCd M_Rule_emit) 21 = .ok (.getfield 15, 3) := by decide +kernel
theorem d_Rule_emit_24 : decode (mCd M_Rule_emit) 24 = .ok (.iconst 1, 1) := by decide +kernel
theorem d_Rule_emit_25 : decode (mCd M_Rule_emit) 25 = .ok (.iadd, 1) := by decide +kernel
theorem d_Rule_emit_26 : decode (mCd M_Rule_emit) 26 = .ok (.putfield 15, 3) := by decide +kernel
theorem d_Rule_emit_29 : decode (mCd M_Rule_emit) 29 = .ok (.return_, 1) := by decide +kernel
theorem d_Rule_await_0 : decode (mCd M_Rule_await) 0 = .ok (.aload_n 0, 1) := by decide +kernel
theorem d_Rule_await_1 : decode (mCd M_Rule_await) 1 = .ok (.getfield 25, 3) := by decide +kernel
theorem d_Rule_await_4 : decode (mCd M_Rule_await) 4 = .ok (.bipush 40, 2) := by decide +kernel
theorem d_Rule_await_6 : decode (mCd M_Rule_await) 6 = .ok (.if_icmp .ge 23, 3) := by decide +kernel
theorem d_Rule_await_9 : decode (mCd M_Rule_await) 9 = .ok (.aload_n 0, 1) := by decide +kernel
theorem d_Rule_await_10 : decode (mCd M_Rule_await) 10 = .ok (.getfield 22, 3) := by decide +kernel
theorem d_Rule_await_13 : decode (mCd M_Rule_await) 13 = .ok (.aload_n 0, 1) := by decide +kernel
theorem d_Rule_await_14 : decode (mCd M_Rule_await) 14 = .ok (.getfield 25, 3) := by decide +kernel
theorem d_Rule_await_17 : decode (mCd M_Rule_await) 17 = .ok (.iload_n 1, 1) := by decide +kernel
theorem d_Rule_await_18 : decode (mCd M_Rule_await) 18 = .ok (.iastore, 1) := by decide +kernel
theorem d_Rule_await_19 : decode (mCd M_Rule_await) 19 = .ok (.aload_n 0, 1) := by decide +kernel
theorem d_Rule_await_20 : decode (mCd M_Rule_await) 20 = .ok (.dup, 1) := by decide +kernel
theorem d_Rule_await_21 : decode (mCd M_Rule_await) 21 = .ok (.getfield 25, 3) := by decide +kernel
theorem d_Rule_await_24 : decode (mCd M_Rule_await) 24 = .ok (.iconst 1, 1) := by decide +kernel
theorem d_Rule_await_25 : decode (mCd M_Rule_await) 25 = .ok (.iadd, 1) := by decide +kernel
theorem d_Rule_await_26 : decode (mCd M_Rule_await) 26 = .ok (.putfield 25, 3) := by decide +kernel
theorem d_Rule_await_29 : decode (mCd M_Rule_await) 29 = .ok (.return_, 1) := by decide +kernel
theorem d_Rule_settle_0 : decode (mCd M_Rule_settle) 0 = .ok (.aload_n 0, 1) := by decide +kernel
theorem d_Rule_settle_1 : decode (mCd M_Rule_settle) 1 = .ok (.getfield 25, 3) := by decide +kernel
theorem d_Rule_settle_4 : decode (mCd M_Rule_settle) 4 = .ok (.ifCond .le 69, 3) := by decide +kernel
theorem d_Rule_settle_7 : decode (mCd M_Rule_settle) 7 = .ok (.aload_n 0, 1) := by decide +kernel
theorem d_Rule_settle_8 : decode (mCd M_Rule_settle) 8 = .ok (.getfield 22, 3) := by decide +kernel
theorem d_Rule_settle_11 : decode (mCd M_Rule_settle) 11 = .ok (.aload_n 0, 1) := by decide +kernel
theorem d_Rule_settle_12 : decode (mCd M_Rule_settle) 12 = .ok (.getfield 25, 3) := by decide +kernel
theorem d_Rule_settle_15 : decode (mCd M_Rule_settle) 15 = .ok (.iconst 1, 1) := by decide +kernel
theorem d_Rule_settle_16 : decode (mCd M_Rule_settle) 16 = .ok (.isub, 1) := by decide +kernel
theorem d_Rule_settle_17 : decode (mCd M_Rule_settle) 17 = .ok (.iaload, 1) := by decide +kernel
theorem d_Rule_settle_18 : decode (mCd M_Rule_settle) 18 = .ok (.bipush 40, 2) := by decide +kernel
theorem d_Rule_settle_20 : decode (mCd M_Rule_settle) 20 = .ok (.if_icmp .eq 53, 3) := by decide +kernel
theorem d_Rule_settle_23 : decode (mCd M_Rule_settle) 23 = .ok (.aload_n 0, 1) := by decide +kernel
theorem d_Rule_settle_24 : decode (mCd M_Rule_settle) 24 = .ok (.getfield 22, 3) := by decide +kernel
theorem d_Rule_settle_27 : decode (mCd M_Rule_settle) 27 = .ok (.aload_n 0, 1) := by decide +kernel
theorem d_Rule_settle_28 : decode (mCd M_Rule_settle) 28 = .ok (.getfield 25, 3) := by decide +kernel
theorem d_Rule_settle_31 : decode (mCd M_Rule_settle) 31 = .ok (.iconst 1, 1) := by decide +kernel
theorem d_Rule_settle_32 : decode (mCd M_Rule_settle) 32 = .ok (.isub, 1) := by decide +kernel
theorem d_Rule_settle_33 : decode (mCd M_Rule_settle) 33 = .ok (.iaload, 1) := by decide +kernel
theorem d_Rule_settle_34 : decode (mCd M_Rule_settle) 34 = .ok (.istore_n 2, 1) := by decide +kernel
theorem d_Rule_settle_35 : decode (mCd M_Rule_settle) 35 = .ok (.iload_n 2, 1) := by decide +kernel
theorem d_Rule_settle_36 : decode (mCd M_Rule_settle) 36 = .ok (.sipush 3000, 3) := by decide +kernel
theorem d_Rule_settle_39 : decode (mCd M_Rule_settle) 39 = .ok (.if_icmp .eq 16, 3) := by decide +kernel
theorem d_Rule_settle_42 : decode (mCd M_Rule_settle) 42 = .ok (.iload_n 2, 1) := by decide +kernel
theorem d_Rule_settle_43 : decode (mCd M_Rule_settle) 43 = .ok (.sipush 2000, 3) := by decide +kernel
theorem d_Rule_settle_46 : decode (mCd M_Rule_settle) 46 = .ok (.isub, 1) := by decide +kernel
theorem d_Rule_settle_47 : decode (mCd M_Rule_settle) 47 = .ok (.invokestatic 113, 3) := by decide +kernel
theorem d_Rule_settle_50 : decode (mCd M_Rule_settle) 50 = .ok (.iload_n 1, 1) := by decide +kernel
theorem d_Rule_settle_51 : decode (mCd M_Rule_settle) 51 = .ok (.if_icmp .ge 4, 3) := by decide +kernel
theorem d_Rule_settle_54 : decode (mCd M_Rule_settle) 54 = .ok (.return_, 1) := by decide +kernel
theorem d_Rule_settle_55 : decode (mCd M_Rule_settle) 55 = .ok (.aload_n 0, 1) := by decide +kernel
theorem d_Rule_settle_56 : decode (mCd M_Rule_settle) 56 = .ok (.iload_n 2, 1) := by decide +kernel
theorem d_Rule_settle_57 : decode (mCd M_Rule_settle) 57 = .ok (.invokevirtual 103, 3) := by decide +kernel
theorem d_Rule_settle_60 : decode (mCd M_Rule_settle) 60 = .ok (.aload_n 0, 1) := by decide +kernel
theorem d_Rule_settle_61 : decode (mCd M_Rule_settle) 61 = .ok (.dup, 1) := by decide +kernel
theorem d_Rule_settle_62 : decode (mCd M_Rule_settle) 62 = .ok (.getfield 25, 3) := by decide +kernel
theorem d_Rule_settle_65 : decode (mCd M_Rule_settle) 65 = .ok (.iconst 1, 1) := by decide +kernel
theorem d_Rule_settle_66 : decode (mCd M_Rule_settle) 66 = .ok (.isub, 1) := by decide +kernel
theorem d_Rule_settle_67 : decode (mCd M_Rule_settle) 67 = .ok (.putfield 25, 3) := by decide +kernel
theorem d_Rule_settle_70 : decode (mCd M_Rule_settle) 70 = .ok (.goto (-70), 3) := by decide +kernel
theorem d_Rule_settle_73 : decode (mCd M_Rule_settle) 73 = .ok (.return_, 1) := by decide +kernel
theorem d_Rule_asksForCrumbs_0 : decode (mCd M_Rule_asksForCrumbs) 0 = .ok (.iconst 0, 1) := by decide +kernel
theorem d_Rule_asksForCrumbs_1 : decode (mCd M_Rule_asksForCrumbs) 1 = .ok (.istore_n 1, 1) := by decide +kernel
theorem d_Rule_asksForCrumbs_2 : decode (mCd M_Rule_asksForCrumbs) 2 = .ok (.iload_n 1, 1) := by decide +kernel
theorem d_Rule_asksForCrumbs_3 : decode (mCd M_Rule_asksForCrumbs) 3 = .ok (.aload_n 0, 1) := by decide +kernel
theorem d_Rule_asksForCrumbs_4 : decode (mCd M_Rule_asksForCrumbs) 4 = .ok (.getfield 15, 3) := by decide +kernel
theorem d_Rule_asksForCrumbs_7 : decode (mCd M_Rule_asksForCrumbs) 7 = .ok (.if_icmp .ge 23, 3) := by decide +kernel
theorem d_Rule_asksForCrumbs_10 : decode (mCd M_Rule_asksForCrumbs) 10 = .ok (.aload_n 0, 1) := by decide +kernel
theorem d_Rule_asksForCrumbs_11 : decode (mCd M_Rule_asksForCrumbs) 11 = .ok (.getfield 11, 3) := by decide +kernel
theorem d_Rule_asksForCrumbs_14 : decode (mCd M_Rule_asksForCrumbs) 14 = .ok (.iload_n 1, 1) := by decide +kernel
theorem d_Rule_asksForCrumbs_15 : decode (mCd M_Rule_asksForCrumbs) 15 = .ok (.iaload, 1) := by decide +kernel
theorem d_Rule_asksForCrumbs_16 : decode (mCd M_Rule_asksForCrumbs) 16 = .ok (.sipush 1002, 3) := by decide +kernel
theorem d_Rule_asksForCrumbs_19 : decode (mCd M_Rule_asksForCrumbs) 19 = .ok (.if_icmp .ne 5, 3) := by decide +kernel
theorem d_Rule_asksForCrumbs_22 : decode (mCd M_Rule_asksForCrumbs) 22 = .ok (.iconst 1, 1) := by decide +kernel
theorem d_Rule_asksForCrumbs_23 : decode (mCd M_Rule_asksForCrumbs) 23 = .ok (.ireturn, 1) := by decide +kernel
theorem d_Rule_asksForCrumbs_24 : decode (mCd M_Rule_asksForCrumbs) 24 = .ok (.iinc 1 1, 3) := by decide +kernel
theorem d_Rule_asksForCrumbs_27 : decode (mCd M_Rule_asksForCrumbs) 27 = .ok (.goto (-25), 3) := by decide +kernel
theorem d_Rule_asksForCrumbs_30 : decode (mCd M_Rule_asksForCrumbs) 30 = .ok (.iconst 0, 1) := by decide +kernel
theorem d_Rule_asksForCrumbs_31 : decode (mCd M_Rule_asksForCrumbs) 31 = .ok (.ireturn, 1) := by decide +kernel
theorem d_Rule_pullBy_0 : decode (mCd M_Rule_pullBy) 0 = .ok (.iload_n 1, 1) := by decide +kernel
theorem d_Rule_pullBy_1 : decode (mCd M_Rule_pullBy) 1 = .ok (.ldc 116, 2) := by decide +kernel
theorem d_Rule_pullBy_3 : decode (mCd M_Rule_pullBy) 3 = .ok (.imul, 1) := by decide +kernel
theorem d_Rule_pullBy_4 : decode (mCd M_Rule_pullBy) 4 = .ok (.bipush 22, 2) := by decide +kernel
theorem d_Rule_pullBy_6 : decode (mCd M_Rule_pullBy) 6 = .ok (.iushr, 1) := by decide +kernel
theorem d_Rule_pullBy_7 : decode (mCd M_Rule_pullBy) 7 = .ok (.istore_n 2, 1) := by decide +kernel
theorem d_Rule_pullBy_8 : decode (mCd M_Rule_pullBy) 8 = .ok (.aload_n 0, 1) := by decide +kernel
theorem d_Rule_pullBy_9 : decode (mCd M_Rule_pullBy) 9 = .ok (.getfield 41, 3) := by decide +kernel
theorem d_Rule_pullBy_12 : decode (mCd M_Rule_pullBy) 12 = .ok (.iload_n 2, 1) := by decide +kernel
theorem d_Rule_pullBy_13 : decode (mCd M_Rule_pullBy) 13 = .ok (.iaload, 1) := by decide +kernel
theorem d_Rule_pullBy_14 : decode (mCd M_Rule_pullBy) 14 = .ok (.iload_n 1, 1) := by decide +kernel
theorem d_Rule_pullBy_15 : decode (mCd M_Rule_pullBy) 15 = .ok (.if_icmp .eq 31, 3) := by decide +kernel
theorem d_Rule_pullBy_18 : decode (mCd M_Rule_pullBy) 18 = .ok (.aload_n 0, 1) := by decide +kernel
theorem d_Rule_pullBy_19 : decode (mCd M_Rule_pullBy) 19 = .ok (.getfield 41, 3) := by decide +kernel
theorem d_Rule_pullBy_22 : decode (mCd M_Rule_pullBy) 22 = .ok (.iload_n 2, 1) := by decide +kernel
theorem d_Rule_pullBy_23 : decode (mCd M_Rule_pullBy) 23 = .ok (.iload_n 1, 1) := by decide +kernel
theorem d_Rule_pullBy_24 : decode (mCd M_Rule_pullBy) 24 = .ok (.iastore, 1) := by decide +kernel
theorem d_Rule_pullBy_25 : decode (mCd M_Rule_pullBy) 25 = .ok (.aload_n 0, 1) := by decide +kernel
theorem d_Rule_pullBy_26 : decode (mCd M_Rule_pullBy) 26 = .ok (.getfield 44, 3) := by decide +kernel
theorem d_Rule_pullBy_29 : decode (mCd M_Rule_pullBy) 29 = .ok (.iload_n 2, 1) := by decide +kernel
theorem d_Rule_pullBy_30 : decode (mCd M_Rule_pullBy) 30 = .ok (.iconst 0, 1) := by decide +kernel
theorem d_Rule_pullBy_31 : decode (mCd M_Rule_pullBy) 31 = .ok (.bipush 9, 2) := by decide +kernel
theorem d_Rule_pullBy_33 : decode (mCd M_Rule_pullBy) 33 = .ok (.aload_n 0, 1) := by decide +kernel
theorem d_Rule_pullBy_34 : decode (mCd M_Rule_pullBy) 34 = .ok (.iload_n 1, 1) := by decide +kernel
theorem d_Rule_pullBy_35 : decode (mCd M_Rule_pullBy) 35 = .ok (.invokevirtual 117, 3) := by decide +kernel
theorem d_Rule_pullBy_38 : decode (mCd M_Rule_pullBy) 38 = .ok (.invokestatic 72, 3) := by decide +kernel
theorem d_Rule_pullBy_41 : decode (mCd M_Rule_pullBy) 41 = .ok (.invokestatic 120, 3) := by decide +kernel
theorem d_Rule_pullBy_44 : decode (mCd M_Rule_pullBy) 44 = .ok (.i2b, 1) := by decide +kernel
theorem d_Rule_pullBy_45 : decode (mCd M_Rule_pullBy) 45 = .ok (.bastore, 1) := by decide +kernel
theorem d_Rule_pullBy_46 : decode (mCd M_Rule_pullBy) 46 = .ok (.aload_n 0, 1) := by decide +kernel
theorem d_Rule_pullBy_47 : decode (mCd M_Rule_pullBy) 47 = .ok (.getfield 44, 3) := by decide +kernel
theorem d_Rule_pullBy_50 : decode (mCd M_Rule_pullBy) 50 = .ok (.iload_n 2, 1) := by decide +kernel
theorem d_Rule_pullBy_51 : decode (mCd M_Rule_pullBy) 51 = .ok (.baload, 1) := by decide +kernel
theorem d_Rule_pullBy_52 : decode (mCd M_Rule_pullBy) 52 = .ok (.ireturn, 1) := by decide +kernel
theorem d_Rule_reckon_0 : decode (mCd M_Rule_reckon) 0 = .ok (.iconst 0, 1) := by decide +kernel
theorem d_Rule_reckon_1 : decode (mCd M_Rule_reckon) 1 = .ok (.istore_n 2, 1) := by decide +kernel
theorem d_Rule_reckon_2 : decode (mCd M_Rule_reckon) 2 = .ok (.iconst 0, 1) := by decide +kernel
theorem d_Rule_reckon_3 : decode (mCd M_Rule_reckon) 3 = .ok (.istore_n 3, 1) := by decide +kernel
theorem d_Rule_reckon_4 : decode (mCd M_Rule_reckon) 4 = .ok (.iload_n 3, 1) := by decide +kernel
theorem d_Rule_reckon_5 : decode (mCd M_Rule_reckon) 5 = .ok (.aload_n 0, 1) := by decide +kernel
theorem d_Rule_reckon_6 : decode (mCd M_Rule_reckon) 6 = .ok (.getfield 15, 3) := by decide +kernel
theorem d_Rule_reckon_9 : decode (mCd M_Rule_reckon) 9 = .ok (.if_icmp .ge 162, 3) := by decide +kernel
theorem d_Rule_reckon_12 : decode (mCd M_Rule_reckon) 12 = .ok (.iload_n 2, 1) := by decide +kernel
theorem d_Rule_reckon_13 : decode (mCd M_Rule_reckon) 13 = .ok (.bipush 40, 2) := by decide +kernel
theorem d_Rule_reckon_15 : decode (mCd M_Rule_reckon) 15 = .ok (.if_icmp .ge 156, 3) := by decide +kernel
theorem d_Rule_reckon_18 : decode (mCd M_Rule_reckon) 18 = .ok (.aload_n 0, 1) := by decide +kernel
theorem d_Rule_reckon_19 : decode (mCd M_Rule_reckon) 19 = .ok (.getfield 11, 3) := by decide +kernel
theorem d_Rule_reckon_22 : decode (mCd M_Rule_reckon) 22 = .ok (.iload_n 3, 1) := by decide +kernel
theorem d_Rule_reckon_23 : decode (mCd M_Rule_reckon) 23 = .ok (.iaload, 1) := by decide +kernel
theorem d_Rule_reckon_24 : decode (mCd M_Rule_reckon) 24 = .ok (.istore 4, 2) := by decide +kernel
theorem d_Rule_reckon_26 : decode (mCd M_Rule_reckon) 26 = .ok (.iload 4, 2) := by decide +kernel
theorem d_Rule_reckon_28 : decode (mCd M_Rule_reckon) 28 = .ok (.sipush 1000, 3) := by decide +kernel
theorem d_Rule_reckon_31 : decode (mCd M_Rule_reckon) 31 = .ok (.if_icmp .ge 17, 3) := by decide +kernel
theorem d_Rule_reckon_34 : decode (mCd M_Rule_reckon) 34 = .ok (.aload_n 0, 1) := by decide +kernel
theorem d_Rule_reckon_35 : decode (mCd M_Rule_reckon) 35 = .ok (.getfield 19, 3) := by decide +kernel
theorem d_Rule_reckon_38 : decode (mCd M_Rule_reckon) 38 = .ok (.iload_n 2, 1) := by decide +kernel
theorem d_Rule_reckon_39 : decode (mCd M_Rule_reckon) 39 = .ok (.iload 4, 2) := by decide +kernel
theorem d_Rule_reckon_41 : decode (mCd M_Rule_reckon) 41 = .ok (.iastore, 1) := by decide +kernel
theorem d_Rule_reckon_42 : decode (mCd M_Rule_reckon) 42 = .ok (.iinc 2 1, 3) := by decide +kernel
theorem d_Rule_reckon_45 : decode (mCd M_Rule_reckon) 45 = .ok (.goto 120, 3) := by decide +kernel
theorem d_Rule_reckon_48 : decode (mCd M_Rule_reckon) 48 = .ok (.iload 4, 2) := by decide +kernel
theorem d_Rule_reckon_50 : decode (mCd M_Rule_reckon) 50 = .ok (.sipush 2000, 3) := by decide +kernel
theorem d_Rule_reckon_53 : decode (mCd M_Rule_reckon) 53 = .ok (.if_icmp .ge 41, 3) := by decide +kernel
theorem d_Rule_reckon_56 : decode (mCd M_Rule_reckon) 56 = .ok (.iload 4, 2) := by decide +kernel
theorem d_Rule_reckon_58 : decode (mCd M_Rule_reckon) 58 = .ok (.sipush 1000, 3) := by decide +kernel
theorem d_Rule_reckon_61 : decode (mCd M_Rule_reckon) 61 = .ok (.isub, 1) := by decide +kernel
theorem d_Rule_reckon_62 : decode (mCd M_Rule_reckon) 62 = .ok (.bipush 7, 2) := by decide +kernel
theorem d_Rule_reckon_64 : decode (mCd M_Rule_reckon) 64 = .ok (.iand, 1) := by decide +kernel
theorem d_Rule_reckon_65 : decode (mCd M_Rule_reckon) 65 = .ok (.istore 5, 2) := by decide +kernel
theorem d_Rule_reckon_67 : decode (mCd M_Rule_reckon) 67 = .ok (.aload_n 0, 1) := by decide +kernel
theorem d_Rule_reckon_68 : decode (mCd M_Rule_reckon) 68 = .ok (.getfield 19, 3) := by decide +kernel
theorem d_Rule_reckon_71 : decode (mCd M_Rule_reckon) 71 = .ok (.iload_n 2, 1) := by decide +kernel
theorem d_Rule_reckon_72 : decode (mCd M_Rule_reckon) 72 = .ok (.iload_n 1, 1) := by decide +kernel
theorem d_Rule_reckon_73 : decode (mCd M_Rule_reckon) 73 = .ok (.getstatic 123, 3) := by decide +kernel
theorem d_Rule_reckon_76 : decode (mCd M_Rule_reckon) 76 = .ok (.iload 5, 2) := by decide +kernel
theorem d_Rule_reckon_78 : decode (mCd M_Rule_reckon) 78 = .ok (.iaload, 1) := by decide +kernel
theorem d_Rule_reckon_79 : decode (mCd M_Rule_reckon) 79 = .ok (.iushr, 1) := by decide +kernel
theorem d_Rule_reckon_80 : decode (mCd M_Rule_reckon) 80 = .ok (.getstatic 126, 3) := by decide +kernel
theorem d_Rule_reckon_83 : decode (mCd M_Rule_reckon) 83 = .ok (.iload 5, 2) := by decide +kernel
theorem d_Rule_reckon_85 : decode (mCd M_Rule_reckon) 85 = .ok (.iaload, 1) := by decide +kernel
theorem d_Rule_reckon_86 : decode (mCd M_Rule_reckon) 86 = .ok (.iand, 1) := by decide +kernel
theorem d_Rule_reckon_87 : decode (mCd M_Rule_reckon) 87 = .ok (.iastore, 1) := by decide +kernel
theorem d_Rule_reckon_88 : decode (mCd M_Rule_reckon) 88 = .ok (.iinc 2 1, 3) := by decide +kernel
theorem d_Rule_reckon_91 : decode (mCd M_Rule_reckon) 91 = .ok (.goto 74, 3) := by decide +kernel
theorem d_Rule_reckon_94 : decode (mCd M_Rule_reckon) 94 = .ok (.iload 4, 2) := by decide +kernel
theorem d_Rule_reckon_96 : decode (mCd M_Rule_reckon) 96 = .ok (.sipush 3000, 3) := by decide +kernel
theorem d_Rule_reckon_99 : decode (mCd M_Rule_reckon) 99 = .ok (.if_icmp .ne 27, 3) := by decide +kernel
theorem d_Rule_reckon_102 : decode (mCd M_Rule_reckon) 102 = .ok (.iload_n 2, 1) := by decide +kernel
theorem d_Rule_reckon_103 : decode (mCd M_Rule_reckon) 103 = .ok (.ifCond .le 23, 3) := by decide +kernel
theorem d_Rule_reckon_106 : decode (mCd M_Rule_reckon) 106 = .ok (.aload_n 0, 1) := by decide +kernel
theorem d_Rule_reckon_107 : decode (mCd M_Rule_reckon) 107 = .ok (.getfield 19, 3) := by decide +kernel
theorem d_Rule_reckon_110 : decode (mCd M_Rule_reckon) 110 = .ok (.iload_n 2, 1) := by decide +kernel
theorem d_Rule_reckon_111 : decode (mCd M_Rule_reckon) 111 = .ok (.iconst 1, 1) := by decide +kernel
theorem d_Rule_reckon_112 : decode (mCd M_Rule_reckon) 112 = .ok (.isub, 1) := by decide +kernel
theorem d_Rule_reckon_113 : decode (mCd M_Rule_reckon) 113 = .ok (.aload_n 0, 1) := by decide +kernel
theorem d_Rule_reckon_114 : decode (mCd M_Rule_reckon) 114 = .ok (.getfield 19, 3) := by decide +kernel
theorem d_Rule_reckon_117 : decode (mCd M_Rule_reckon) 117 = .ok (.iload_n 2, 1) := by decide +kernel
theorem d_Rule_reckon_118 : decode (mCd M_Rule_reckon) 118 = .ok (.iconst 1, 1) := by decide +kernel
theorem d_Rule_reckon_119 : decode (mCd M_Rule_reckon) 119 = .ok (.isub, 1) := by decide +kernel
theorem d_Rule_reckon_120 : decode (mCd M_Rule_reckon) 120 = .ok (.iaload, 1) := by decide +kernel
theorem d_Rule_reckon_121 : decode (mCd M_Rule_reckon) 121 = .ok (.ineg, 1) := by decide +kernel
theorem d_Rule_reckon_122 : decode (mCd M_Rule_reckon) 122 = .ok (.iastore, 1) := by decide +kernel
theorem d_Rule_reckon_123 : decode (mCd M_Rule_reckon) 123 = .ok (.goto 42, 3) := by decide +kernel
theorem d_Rule_reckon_126 : decode (mCd M_Rule_reckon) 126 = .ok (.iload_n 2, 1) := by decide +kernel
theorem d_Rule_reckon_127 : decode (mCd M_Rule_reckon) 127 = .ok (.iconst 1, 1) := by decide +kernel
theorem d_Rule_reckon_128 : decode (mCd M_Rule_reckon) 128 = .ok (.if_icmp .le 37, 3) := by decide +kernel
theorem d_Rule_reckon_131 : decode (mCd M_Rule_reckon) 131 = .ok (.iinc 2 (-1), 3) := by decide +kernel
theorem d_Rule_reckon_134 : decode (mCd M_Rule_reckon) 134 = .ok (.aload_n 0, 1) := by decide +kernel
theorem d_Rule_reckon_135 : decode (mCd M_Rule_reckon) 135 = .ok (.getfield 19, 3) := by decide +kernel
theorem d_Rule_reckon_138 : decode (mCd M_Rule_reckon) 138 = .ok (.iload_n 2, 1) := by decide +kernel
theorem d_Rule_reckon_139 : decode (mCd M_Rule_reckon) 139 = .ok (.iconst 1, 1) := by decide +kernel
theorem d_Rule_reckon_140 : decode (mCd M_Rule_reckon) 140 = .ok (.isub, 1) := by decide +kernel
theorem d_Rule_reckon_141 : decode (mCd M_Rule_reckon) 141 = .ok (.iload 4, 2) := by decide +kernel
theorem d_Rule_reckon_143 : decode (mCd M_Rule_reckon) 143 = .ok (.sipush 2000, 3) := by decide +kernel
theorem d_Rule_reckon_146 : decode (mCd M_Rule_reckon) 146 = .ok (.isub, 1) := by decide +kernel
theorem d_Rule_reckon_147 : decode (mCd M_Rule_reckon) 147 = .ok (.aload_n 0, 1) := by decide +kernel
theorem d_Rule_reckon_148 : decode (mCd M_Rule_reckon) 148 = .ok (.getfield 19, 3) := by decide +kernel
theorem d_Rule_reckon_151 : decode (mCd M_Rule_reckon) 151 = .ok (.iload_n 2, 1) := by decide +kernel
theorem d_Rule_reckon_152 : decode (mCd M_Rule_reckon) 152 = .ok (.iconst 1, 1) := by decide +kernel
theorem d_Rule_reckon_153 : decode (mCd M_Rule_reckon) 153 = .ok (.isub, 1) := by decide +kernel
theorem d_Rule_reckon_154 : decode (mCd M_Rule_reckon) 154 = .ok (.iaload, 1) := by decide +kernel
theorem d_Rule_reckon_155 : decode (mCd M_Rule_reckon) 155 = .ok (.aload_n 0, 1) := by decide +kernel
theorem d_Rule_reckon_156 : decode (mCd M_Rule_reckon) 156 = .ok (.getfield 19, 3) := by decide +kernel
theorem d_Rule_reckon_159 : decode (mCd M_Rule_reckon) 159 = .ok (.iload_n 2, 1) := by decide +kernel
theorem d_Rule_reckon_160 : decode (mCd M_Rule_reckon) 160 = .ok (.iaload, 1) := by decide +kernel
theorem d_Rule_reckon_161 : decode (mCd M_Rule_reckon) 161 = .ok (.invokestatic 129, 3) := by decide +kernel
theorem d_Rule_reckon_164 : decode (mCd M_Rule_reckon) 164 = .ok (.iastore, 1) := by decide +kernel
theorem d_Rule_reckon_165 : decode (mCd M_Rule_reckon) 165 = .ok (.iinc 3 1, 3) := by decide +kernel
theorem d_Rule_reckon_168 : decode (mCd M_Rule_reckon) 168 = .ok (.goto (-164), 3) := by decide +kernel
theorem d_Rule_reckon_171 : decode (mCd M_Rule_reckon) 171 = .ok (.aload_n 0, 1) := by decide +kernel
theorem d_Rule_reckon_172 : decode (mCd M_Rule_reckon) 172 = .ok (.getfield 19, 3) := by decide +kernel
theorem d_Rule_reckon_175 : decode (mCd M_Rule_reckon) 175 = .ok (.iconst 0, 1) := by decide +kernel
theorem d_Rule_reckon_176 : decode (mCd M_Rule_reckon) 176 = .ok (.iaload, 1) := by decide +kernel
theorem d_Rule_reckon_177 : decode (mCd M_Rule_reckon) 177 = .ok (.ireturn, 1) := by decide +kernel
theorem d_Rule_joined_0 : decode (mCd M_Rule_joined) 0 = .ok (.iload_n 0, 1) := by decide +kernel
theorem d_Rule_joined_1 : decode (mCd M_Rule_joined) 1 = .ok (.lookupswitch 104 #[(42, 100), (43, 92), (45, 96), (60, 59), (61, 81), (62, 70)], 59) := by decide +kernel
theorem d_Rule_joined_60 : decode (mCd M_Rule_joined) 60 = .ok (.iload_n 1, 1) := by decide +kernel
theorem d_Rule_joined_61 : decode (mCd M_Rule_joined) 61 = .ok (.iload_n 2, 1) := by decide +kernel
theorem d_Rule_joined_62 : decode (mCd M_Rule_joined) 62 = .ok (.if_icmp .ge 7, 3) := by decide +kernel
theorem d_Rule_joined_65 : decode (mCd M_Rule_joined) 65 = .ok (.iconst 1, 1) := by decide +kernel
theorem d_Rule_joined_66 : decode (mCd M_Rule_joined) 66 = .ok (.goto 4, 3) := by decide +kernel
theorem d_Rule_joined_69 : decode (mCd M_Rule_joined) 69 = .ok (.iconst 0, 1) := by decide +kernel
theorem d_Rule_joined_70 : decode (mCd M_Rule_joined) 70 = .ok (.ireturn, 1) := by decide +kernel
theorem d_Rule_joined_71 : decode (mCd M_Rule_joined) 71 = .ok (.iload_n 1, 1) := by decide +kernel
theorem d_Rule_joined_72 : decode (mCd M_Rule_joined) 72 = .ok (.iload_n 2, 1) := by decide +kernel
theorem d_Rule_joined_73 : decode (mCd M_Rule_joined) 73 = .ok (.if_icmp .le 7, 3) := by decide +kernel
theorem d_Rule_joined_76 : decode (mCd M_Rule_joined) 76 = .ok (.iconst 1, 1) := by decide +kernel
theorem d_Rule_joined_77 : decode (mCd M_Rule_joined) 77 = .ok (.goto 4, 3) := by decide +kernel
theorem d_Rule_joined_80 : decode (mCd M_Rule_joined) 80 = .ok (.iconst 0, 1) := by decide +kernel
theorem d_Rule_joined_81 : decode (mCd M_Rule_joined) 81 = .ok (.ireturn, 1) := by decide +kernel
theorem d_Rule_joined_82 : decode (mCd M_Rule_joined) 82 = .ok (.iload_n 1, 1) := by decide +kernel
theorem d_Rule_joined_83 : decode (mCd M_Rule_joined) 83 = .ok (.iload_n 2, 1) := by decide +kernel
theorem d_Rule_joined_84 : decode (mCd M_Rule_joined) 84 = .ok (.if_icmp .ne 7, 3) := by decide +kernel
theorem d_Rule_joined_87 : decode (mCd M_Rule_joined) 87 = .ok (.iconst 1, 1) := by decide +kernel
theorem d_Rule_joined_88 : decode (mCd M_Rule_joined) 88 = .ok (.goto 4, 3) := by decide +kernel
theorem d_Rule_joined_91 : decode (mCd M_Rule_joined) 91 = .ok (.iconst 0, 1) := by decide +kernel
theorem d_Rule_joined_92 : decode (mCd M_Rule_joined) 92 = .ok (.ireturn, 1) := by decide +kernel
theorem d_Rule_joined_93 : decode (mCd M_Rule_joined) 93 = .ok (.iload_n 1, 1) := by decide +kernel
theorem d_Rule_joined_94 : decode (mCd M_Rule_joined) 94 = .ok (.iload_n 2, 1) := by decide +kernel
theorem d_Rule_joined_95 : decode (mCd M_Rule_joined) 95 = .ok (.iadd, 1) := by decide +kernel
theorem d_Rule_joined_96 : decode (mCd M_Rule_joined) 96 = .ok (.ireturn, 1) := by decide +kernel
theorem d_Rule_joined_97 : decode (mCd M_Rule_joined) 97 = .ok (.iload_n 1, 1) := by decide +kernel
theorem d_Rule_joined_98 : decode (mCd M_Rule_joined) 98 = .ok (.iload_n 2, 1) := by decide +kernel
theorem d_Rule_joined_99 : decode (mCd M_Rule_joined) 99 = .ok (.isub, 1) := by decide +kernel
theorem d_Rule_joined_100 : decode (mCd M_Rule_joined) 100 = .ok (.ireturn, 1) := by decide +kernel
theorem d_Rule_joined_101 : decode (mCd M_Rule_joined) 101 = .ok (.iload_n 1, 1) := by decide +kernel
theorem d_Rule_joined_102 : decode (mCd M_Rule_joined) 102 = .ok (.iload_n 2, 1) := by decide +kernel
theorem d_Rule_joined_103 : decode (mCd M_Rule_joined) 103 = .ok (.imul, 1) := by decide +kernel
theorem d_Rule_joined_104 : decode (mCd M_Rule_joined) 104 = .ok (.ireturn, 1) := by decide +kernel
theorem d_Rule_joined_105 : decode (mCd M_Rule_joined) 105 = .ok (.iload_n 2, 1) := by decide +kernel
theorem d_Rule_joined_106 : decode (mCd M_Rule_joined) 106 = .ok (.ifCond .ne 7, 3) := by decide +kernel
theorem d_Rule_joined_109 : decode (mCd M_Rule_joined) 109 = .ok (.iconst 0, 1) := by decide +kernel
theorem d_Rule_joined_110 : decode (mCd M_Rule_joined) 110 = .ok (.goto 6, 3) := by decide +kernel
theorem d_Rule_joined_113 : decode (mCd M_Rule_joined) 113 = .ok (.iload_n 1, 1) := by decide +kernel
theorem d_Rule_joined_114 : decode (mCd M_Rule_joined) 114 = .ok (.iload_n 2, 1) := by decide +kernel
theorem d_Rule_joined_115 : decode (mCd M_Rule_joined) 115 = .ok (.idiv, 1) := by decide +kernel
theorem d_Rule_joined_116 : decode (mCd M_Rule_joined) 116 = .ok (.ireturn, 1) := by decide +kernel
theorem d_School_init_0 : decode (mCd M_School_init) 0 = .ok (.aload_n 0, 1) := by decide +kernel
theorem d_School_init_1 : decode (mCd M_School_init) 1 = .ok (.invokespecial 3, 3) := by decide +kernel
theorem d_School_init_4 : decode (mCd M_School_init) 4 = .ok (.aload_n 0, 1) := by decide +kernel
theorem d_School_init_5 : decode (mCd M_School_init) 5 = .ok (.bipush 8, 2) := by decide +kernel
theorem d_School_init_7 : decode (mCd M_School_init) 7 = .ok (.newarray .int, 2) := by decide +kernel
theorem d_School_init_9 : decode (mCd M_School_init) 9 = .ok (.putfield 9, 3) := by decide +kernel
theorem d_School_init_12 : decode (mCd M_School_init) 12 = .ok (.aload_n 0, 1) := by decide +kernel
theorem d_School_init_13 : decode (mCd M_School_init) 13 = .ok (.bipush 8, 2) := by decide +kernel
theorem d_School_init_15 : decode (mCd M_School_init) 15 = .ok (.newarray .int, 2) := by decide +kernel
theorem d_School_init_17 : decode (mCd M_School_init) 17 = .ok (.putfield 15, 3) := by decide +kernel
theorem d_School_init_20 : decode (mCd M_School_init) 20 = .ok (.aload_n 0, 1) := by decide +kernel
theorem d_School_init_21 : decode (mCd M_School_init) 21 = .ok (.iconst 0, 1) := by decide +kernel
theorem d_School_init_22 : decode (mCd M_School_init) 22 = .ok (.putfield 18, 3) := by decide +kernel
theorem d_School_init_25 : decode (mCd M_School_init) 25 = .ok (.return_, 1) := by decide +kernel
theorem d_School_has_0 : decode (mCd M_School_has) 0 = .ok (.iload_n 1, 1) := by decide +kernel
theorem d_School_has_1 : decode (mCd M_School_has) 1 = .ok (.ifCond .lt 21, 3) := by decide +kernel
theorem d_School_has_4 : decode (mCd M_School_has) 4 = .ok (.iload_n 1, 1) := by decide +kernel
theorem d_School_has_5 : decode (mCd M_School_has) 5 = .ok (.aload_n 0, 1) := by decide +kernel
theorem d_School_has_6 : decode (mCd M_School_has) 6 = .ok (.getfield 18, 3) := by decide +kernel
theorem d_School_has_9 : decode (mCd M_School_has) 9 = .ok (.if_icmp .ge 13, 3) := by decide +kernel
theorem d_School_has_12 : decode (mCd M_School_has) 12 = .ok (.iload_n 1, 1) := by decide +kernel
theorem d_School_has_13 : decode (mCd M_School_has) 13 = .ok (.bipush 8, 2) := by decide +kernel
theorem d_School_has_15 : decode (mCd M_School_has) 15 = .ok (.if_icmp .ge 7, 3) := by decide +kernel
theorem d_School_has_18 : decode (mCd M_School_has) 18 = .ok (.iconst 1, 1) := by decide +kernel
theorem d_School_has_19 : decode (mCd M_School_has) 19 = .ok (.goto 4, 3) := by decide +kernel
theorem d_School_has_22 : decode (mCd M_School_has) 22 = .ok (.iconst 0, 1) := by decide +kernel
theorem d_School_has_23 : decode (mCd M_School_has) 23 = .ok (.ireturn, 1) := by decide +kernel
theorem d_School_add_0 : decode (mCd M_School_add) 0 = .ok (.aload_n 0, 1) := by decide +kernel
theorem d_School_add_1 : decode (mCd M_School_add) 1 = .ok (.getfield 18, 3) := by decide +kernel
theorem d_School_add_4 : decode (mCd M_School_add) 4 = .ok (.bipush 8, 2) := by decide +kernel
theorem d_School_add_6 : decode (mCd M_School_add) 6 = .ok (.if_icmp .ge 33, 3) := by decide +kernel
theorem d_School_add_9 : decode (mCd M_School_add) 9 = .ok (.aload_n 0, 1) := by decide +kernel
theorem d_School_add_10 : decode (mCd M_School_add) 10 = .ok (.getfield 9, 3) := by decide +kernel
theorem d_School_add_13 : decode (mCd M_School_add) 13 = .ok (.aload_n 0, 1) := by decide +kernel
theorem d_School_add_14 : decode (mCd M_School_add) 14 = .ok (.getfield 18, 3) := by decide +kernel
theorem d_School_add_17 : decode (mCd M_School_add) 17 = .ok (.iload_n 1, 1) := by decide +kernel
theorem d_School_add_18 : decode (mCd M_School_add) 18 = .ok (.iastore, 1) := by decide +kernel
theorem d_School_add_19 : decode (mCd M_School_add) 19 = .ok (.aload_n 0, 1) := by decide +kernel
theorem d_School_add_20 : decode (mCd M_School_add) 20 = .ok (.getfield 15, 3) := by decide +kernel
theorem d_School_add_23 : decode (mCd M_School_add) 23 = .ok (.aload_n 0, 1) := by decide +kernel
theorem d_School_add_24 : decode (mCd M_School_add) 24 = .ok (.getfield 18, 3) := by decide +kernel
theorem d_School_add_27 : decode (mCd M_School_add) 27 = .ok (.iload_n 2, 1) := by decide +kernel
theorem d_School_add_28 : decode (mCd M_School_add) 28 = .ok (.iastore, 1) := by decide +kernel
theorem d_School_add_29 : decode (mCd M_School_add) 29 = .ok (.aload_n 0, 1) := by decide +kernel
theorem d_School_add_30 : decode (mCd M_School_add) 30 = .ok (.dup, 1) := by decide +kernel
theorem d_School_add_31 : decode (mCd M_School_add) 31 = .ok (.getfield 18, 3) := by decide +kernel
theorem d_School_add_34 : decode (mCd M_School_add) 34 = .ok (.iconst 1, 1) := by decide +kernel
theorem d_School_add_35 : decode (mCd M_School_add) 35 = .ok (.iadd, 1) := by decide +kernel
theorem d_School_add_36 : decode (mCd M_School_add) 36 = .ok (.putfield 18, 3) := by decide +kernel
theorem d_School_add_39 : decode (mCd M_School_add) 39 = .ok (.return_, 1) := by decide +kernel
theorem d_School_strengthen_0 : decode (mCd M_School_strengthen) 0 = .ok (.iconst 0, 1) := by decide +kernel
theorem d_School_strengthen_1 : decode (mCd M_School_strengthen) 1 = .ok (.istore 5, 2) := by decide +kernel
theorem d_School_strengthen_3 : decode (mCd M_School_strengthen) 3 = .ok (.iload_n 3, 1) := by decide +kernel
theorem d_School_strengthen_4 : decode (mCd M_School_strengthen) 4 = .ok (.istore 6, 2) := by decide +kernel
theorem d_School_strengthen_6 : decode (mCd M_School_strengthen) 6 = .ok (.iconst 0, 1) := by decide +kernel
theorem d_School_strengthen_7 : decode (mCd M_School_strengthen) 7 = .ok (.istore 7, 2) := by decide +kernel
theorem d_School_strengthen_9 : decode (mCd M_School_strengthen) 9 = .ok (.iload 7, 2) := by decide +kernel
theorem d_School_strengthen_11 : decode (mCd M_School_strengthen) 11 = .ok (.aload_n 0, 1) := by decide +kernel
theorem d_School_strengthen_12 : decode (mCd M_School_strengthen) 12 = .ok (.getfield 18, 3) := by decide +kernel
theorem d_School_strengthen_15 : decode (mCd M_School_strengthen) 15 = .ok (.if_icmp .ge 81, 3) := by decide +kernel
theorem d_School_strengthen_18 : decode (mCd M_School_strengthen) 18 = .ok (.iload_n 2, 1) := by decide +kernel
theorem d_School_strengthen_19 : decode (mCd M_School_strengthen) 19 = .ok (.ifCond .ne 9, 3) := by decide +kernel
theorem d_School_strengthen_22 : decode (mCd M_School_strengthen) 22 = .ok (.iload 6, 2) := by decide +kernel
theorem d_School_strengthen_24 : decode (mCd M_School_strengthen) 24 = .ok (.i2b, 1) := by decide +kernel
theorem d_School_strengthen_25 : decode (mCd M_School_strengthen) 25 = .ok (.goto 16, 3) := by decide +kernel
theorem d_School_strengthen_28 : decode (mCd M_School_strengthen) 28 = .ok (.iload_n 2, 1) := by decide +kernel
theorem d_School_strengthen_29 : decode (mCd M_School_strengthen) 29 = .ok (.iconst 1, 1) := by decide +kernel
theorem d_School_strengthen_30 : decode (mCd M_School_strengthen) 30 = .ok (.if_icmp .ne 9, 3) := by decide +kernel
theorem d_School_strengthen_33 : decode (mCd M_School_strengthen) 33 = .ok (.iload 6, 2) := by decide +kernel
theorem d_School_strengthen_35 : decode (mCd M_School_strengthen) 35 = .ok (.i2s, 1) := by decide +kernel
theorem d_School_strengthen_36 : decode (mCd M_School_strengthen) 36 = .ok (.goto 5, 3) := by decide +kernel
theorem d_School_strengthen_39 : decode (mCd M_School_strengthen) 39 = .ok (.iload 6, 2) := by decide +kernel
theorem d_School_strengthen_41 : decode (mCd M_School_strengthen) 41 = .ok (.istore 8, 2) := by decide +kernel
theorem d_School_strengthen_43 : decode (mCd M_School_strengthen) 43 = .ok (.aload_n 0, 1) := by decide +kernel
theorem d_School_strengthen_44 : decode (mCd M_School_strengthen) 44 = .ok (.getfield 15, 3) := by decide +kernel
theorem d_School_strengthen_47 : decode (mCd M_School_strengthen) 47 = .ok (.iload 7, 2) := by decide +kernel
theorem d_School_strengthen_49 : decode (mCd M_School_strengthen) 49 = .ok (.iload 7, 2) := by decide +kernel
theorem d_School_strengthen_51 : decode (mCd M_School_strengthen) 51 = .ok (.iload_n 1, 1) := by decide +kernel
theorem d_School_strengthen_52 : decode (mCd M_School_strengthen) 52 = .ok (.if_icmp .ge 17, 3) := by decide +kernel
theorem d_School_strengthen_55 : decode (mCd M_School_strengthen) 55 = .ok (.iconst 1, 1) := by decide +kernel
theorem d_School_strengthen_56 : decode (mCd M_School_strengthen) 56 = .ok (.bipush 9, 2) := by decide +kernel
theorem d_School_strengthen_58 : decode (mCd M_School_strengthen) 58 = .ok (.iload 8, 2) := by decide +kernel
theorem d_School_strengthen_60 : decode (mCd M_School_strengthen) 60 = .ok (.invokestatic 22, 3) := by decide +kernel
theorem d_School_strengthen_63 : decode (mCd M_School_strengthen) 63 = .ok (.invokestatic 28, 3) := by decide +kernel
theorem d_School_strengthen_66 : decode (mCd M_School_strengthen) 66 = .ok (.goto 4, 3) := by decide +kernel
theorem d_School_strengthen_69 : decode (mCd M_School_strengthen) 69 = .ok (.iconst 1, 1) := by decide +kernel
theorem d_School_strengthen_70 : decode (mCd M_School_strengthen) 70 = .ok (.iastore, 1) := by decide +kernel
theorem d_School_strengthen_71 : decode (mCd M_School_strengthen) 71 = .ok (.iload 5, 2) := by decide +kernel
theorem d_School_strengthen_73 : decode (mCd M_School_strengthen) 73 = .ok (.aload_n 0, 1) := by decide +kernel
theorem d_School_strengthen_74 : decode (mCd M_School_strengthen) 74 = .ok (.getfield 15, 3) := by decide +kernel
theorem d_School_strengthen_77 : decode (mCd M_School_strengthen) 77 = .ok (.iload 7, 2) := by decide +kernel
theorem d_School_strengthen_79 : decode (mCd M_School_strengthen) 79 = .ok (.iaload, 1) := by decide +kernel
theorem d_School_strengthen_80 : decode (mCd M_School_strengthen) 80 = .ok (.iadd, 1) := by decide +kernel
theorem d_School_strengthen_81 : decode (mCd M_School_strengthen) 81 = .ok (.istore 5, 2) := by decide +kernel
theorem d_School_strengthen_83 : decode (mCd M_School_strengthen) 83 = .ok (.iload 6, 2) := by decide +kernel
theorem d_School_strengthen_85 : decode (mCd M_School_strengthen) 85 = .ok (.iload 4, 2) := by decide +kernel
theorem d_School_strengthen_87 : decode (mCd M_School_strengthen) 87 = .ok (.iadd, 1) := by decide +kernel
theorem d_School_strengthen_88 : decode (mCd M_School_strengthen) 88 = .ok (.istore 6, 2) := by decide +kernel
theorem d_School_strengthen_90 : decode (mCd M_School_strengthen) 90 = .ok (.iinc 7 1, 3) := by decide +kernel
theorem d_School_strengthen_93 : decode (mCd M_School_strengthen) 93 = .ok (.goto (-84), 3) := by decide +kernel
theorem d_School_strengthen_96 : decode (mCd M_School_strengthen) 96 = .ok (.iload 5, 2) := by decide +kernel
theorem d_School_strengthen_98 : decode (mCd M_School_strengthen) 98 = .ok (.ireturn, 1) := by decide +kernel
theorem d_Sights_init_0 : decode (mCd M_Sights_init) 0 = .ok (.aload_n 0, 1) := by decide +kernel
theorem d_Sights_init_1 : decode (mCd M_Sights_init) 1 = .ok (.invokespecial 1, 3) := by decide +kernel
theorem d_Sights_init_4 : decode (mCd M_Sights_init) 4 = .ok (.aload_n 0, 1) := by decide +kernel
theorem d_Sights_init_5 : decode (mCd M_Sights_init) 5 = .ok (.bipush 10, 2) := by decide +kernel
theorem d_Sights_init_7 : decode (mCd M_Sights_init) 7 = .ok (.newarray .int, 2) := by decide +kernel
theorem d_Sights_init_9 : decode (mCd M_Sights_init) 9 = .ok (.putfield 9, 3) := by decide +kernel
theorem d_Sights_init_12 : decode (mCd M_Sights_init) 12 = .ok (.aload_n 0, 1) := by decide +kernel
theorem d_Sights_init_13 : decode (mCd M_Sights_init) 13 = .ok (.bipush 10, 2) := by decide +kernel
theorem d_Sights_init_15 : decode (mCd M_Sights_init) 15 = .ok (.newarray .int, 2) := by decide +kernel
theorem d_Sights_init_17 : decode (mCd M_Sights_init) 17 = .ok (.putfield 13, 3) := by decide +kernel
theorem d_Sights_init_20 : decode (mCd M_Sights_init) 20 = .ok (.aload_n 0, 1) := by decide +kernel
theorem d_Sights_init_21 : decode (mCd M_Sights_init) 21 = .ok (.bipush 10, 2) := by decide +kernel
theorem d_Sights_init_23 : decode (mCd M_Sights_init) 23 = .ok (.newarray .boolean, 2) := by decide +kernel
theorem d_Sights_init_25 : decode (mCd M_Sights_init) 25 = .ok (.putfield 16, 3) := by decide +kernel
theorem d_Sights_init_28 : decode (mCd M_Sights_init) 28 = .ok (.aload_n 0, 1) := by decide +kernel
theorem d_Sights_init_29 : decode (mCd M_Sights_init) 29 = .ok (.iconst 0, 1) := by decide +kernel
theorem d_Sights_init_30 : decode (mCd M_Sights_init) 30 = .ok (.putfield 20, 3) := by decide +kernel
theorem d_Sights_init_33 : decode (mCd M_Sights_init) 33 = .ok (.return_, 1) := by decide +kernel
theorem d_Sights_add_0 : decode (mCd M_Sights_add) 0 = .ok (.aload_n 0, 1) := by decide +kernel
theorem d_Sights_add_1 : decode (mCd M_Sights_add) 1 = .ok (.getfield 20, 3) := by decide +kernel
theorem d_Sights_add_4 : decode (mCd M_Sights_add) 4 = .ok (.bipush 10, 2) := by decide +kernel
theorem d_Sights_add_6 : decode (mCd M_Sights_add) 6 = .ok (.if_icmp .lt 5, 3) := by decide +kernel
theorem d_Sights_add_9 : decode (mCd M_Sights_add) 9 = .ok (.iconst 0, 1) := by decide +kernel
theorem d_Sights_add_10 : decode (mCd M_Sights_add) 10 = .ok (.ireturn, 1) := by decide +kernel
theorem d_Sights_add_11 : decode (mCd M_Sights_add) 11 = .ok (.aload_n 0, 1) := by decide +kernel
theorem d_Sights_add_12 : decode (mCd M_Sights_add) 12 = .ok (.getfield 9, 3) := by decide +kernel
theorem d_Sights_add_15 : decode (mCd M_Sights_add) 15 = .ok (.aload_n 0, 1) := by decide +kernel
theorem d_Sights_add_16 : decode (mCd M_Sights_add) 16 = .ok (.getfield 20, 3) := by decide +kernel
theorem d_Sights_add_19 : decode (mCd M_Sights_add) 19 = .ok (.iload_n 1, 1) := by decide +kernel
theorem d_Sights_add_20 : decode (mCd M_Sights_add) 20 = .ok (.iastore, 1) := by decide +kernel
theorem d_Sights_add_21 : decode (mCd M_Sights_add) 21 = .ok (.aload_n 0, 1) := by decide +kernel
theorem d_Sights_add_22 : decode (mCd M_Sights_add) 22 = .ok (.getfield 13, 3) := by decide +kernel
theorem d_Sights_add_25 : decode (mCd M_Sights_add) 25 = .ok (.aload_n 0, 1) := by decide +kernel
theorem d_Sights_add_26 : decode (mCd M_Sights_add) 26 = .ok (.getfield 20, 3) := by decide +kernel
theorem d_Sights_add_29 : decode (mCd M_Sights_add) 29 = .ok (.iload_n 2, 1) := by decide +kernel
theorem d_Sights_add_30 : decode (mCd M_Sights_add) 30 = .ok (.iastore, 1) := by decide +kernel
theorem d_Sights_add_31 : decode (mCd M_Sights_add) 31 = .ok (.aload_n 0, 1) := by decide +kernel
theorem d_Sights_add_32 : decode (mCd M_Sights_add) 32 = .ok (.getfield 16, 3) := by decide +kernel
theorem d_Sights_add_35 : decode (mCd M_Sights_add) 35 = .ok (.aload_n 0, 1) := by decide +kernel
theorem d_Sights_add_36 : decode (mCd M_Sights_add) 36 = .ok (.getfield 20, 3) := by decide +kernel
theorem d_Sights_add_39 : decode (mCd M_Sights_add) 39 = .ok (.iload_n 3, 1) := by decide +kernel
theorem d_Sights_add_40 : decode (mCd M_Sights_add) 40 = .ok (.bastore, 1) := by decide +kernel
theorem d_Sights_add_41 : decode (mCd M_Sights_add) 41 = .ok (.aload_n 0, 1) := by decide +kernel
theorem d_Sights_add_42 : decode (mCd M_Sights_add) 42 = .ok (.dup, 1) := by decide +kernel
theorem d_Sights_add_43 : decode (mCd M_Sights_add) 43 = .ok (.getfield 20, 3) := by decide +kernel
theorem d_Sights_add_46 : decode (mCd M_Sights_add) 46 = .ok (.iconst 1, 1) := by decide +kernel
theorem d_Sights_add_47 : decode (mCd M_Sights_add) 47 = .ok (.iadd, 1) := by decide +kernel
theorem d_Sights_add_48 : decode (mCd M_Sights_add) 48 = .ok (.putfield 20, 3) := by decide +kernel
theorem d_Sights_add_51 : decode (mCd M_Sights_add) 51 = .ok (.iconst 1, 1) := by decide +kernel
theorem d_Sights_add_52 : decode (mCd M_Sights_add) 52 = .ok (.ireturn, 1) := by decide +kernel
theorem d_Sights_clear_0 : decode (mCd M_Sights_clear) 0 = .ok (.aload_n 0, 1) := by decide +kernel
theorem d_Sights_clear_1 : decode (mCd M_Sights_clear) 1 = .ok (.iconst 0, 1) := by decide +kernel
theorem d_Sights_clear_2 : decode (mCd M_Sights_clear) 2 = .ok (.putfield 20, 3) := by decide +kernel
theorem d_Sights_clear_5 : decode (mCd M_Sights_clear) 5 = .ok (.return_, 1) := by decide +kernel
theorem d_Sights_agreeWith_0 : decode (mCd M_Sights_agreeWith) 0 = .ok (.iconst 0, 1) := by decide +kernel
theorem d_Sights_agreeWith_1 : decode (mCd M_Sights_agreeWith) 1 = .ok (.istore_n 2, 1) := by decide +kernel
theorem d_Sights_agreeWith_2 : decode (mCd M_Sights_agreeWith) 2 = .ok (.iload_n 2, 1) := by decide +kernel
theorem d_Sights_agreeWith_3 : decode (mCd M_Sights_agreeWith) 3 = .ok (.aload_n 0, 1) := by decide +kernel
theorem d_Sights_agreeWith_4 : decode (mCd M_Sights_agreeWith) 4 = .ok (.getfield 20, 3) := by decide +kernel
theorem d_Sights_agreeWith_7 : decode (mCd M_Sights_agreeWith) 7 = .ok (.if_icmp .ge 54, 3) := by decide +kernel
theorem d_Sights_agreeWith_10 : decode (mCd M_Sights_agreeWith) 10 = .ok (.aload_n 0, 1) := by decide +kernel
theorem d_Sights_agreeWith_11 : decode (mCd M_Sights_agreeWith) 11 = .ok (.getfield 9, 3) := by decide +kernel
theorem d_Sights_agreeWith_14 : decode (mCd M_Sights_agreeWith) 14 = .ok (.iload_n 2, 1) := by decide +kernel
theorem d_Sights_agreeWith_15 : decode (mCd M_Sights_agreeWith) 15 = .ok (.iaload, 1) := by decide +kernel
theorem d_Sights_agreeWith_16 : decode (mCd M_Sights_agreeWith) 16 = .ok (.istore_n 3, 1) := by decide +kernel
theorem d_Sights_agreeWith_17 : decode (mCd M_Sights_agreeWith) 17 = .ok (.iload_n 3, 1) := by decide +kernel
theorem d_Sights_agreeWith_18 : decode (mCd M_Sights_agreeWith) 18 = .ok (.ifCond .lt 35, 3) := by decide +kernel
theorem d_Sights_agreeWith_21 : decode (mCd M_Sights_agreeWith) 21 = .ok (.iload_n 3, 1) := by decide +kernel
theorem d_Sights_agreeWith_22 : decode (mCd M_Sights_agreeWith) 22 = .ok (.aload_n 1, 1) := by decide +kernel
theorem d_Sights_agreeWith_23 : decode (mCd M_Sights_agreeWith) 23 = .ok (.arraylength, 1) := by decide +kernel
theorem d_Sights_agreeWith_24 : decode (mCd M_Sights_agreeWith) 24 = .ok (.if_icmp .ge 29, 3) := by decide +kernel
theorem d_Sights_agreeWith_27 : decode (mCd M_Sights_agreeWith) 27 = .ok (.aload_n 1, 1) := by decide +kernel
theorem d_Sights_agreeWith_28 : decode (mCd M_Sights_agreeWith) 28 = .ok (.iload_n 3, 1) := by decide +kernel
theorem d_Sights_agreeWith_29 : decode (mCd M_Sights_agreeWith) 29 = .ok (.iaload, 1) := by decide +kernel
theorem d_Sights_agreeWith_30 : decode (mCd M_Sights_agreeWith) 30 = .ok (.aload_n 0, 1) := by decide +kernel
theorem d_Sights_agreeWith_31 : decode (mCd M_Sights_agreeWith) 31 = .ok (.getfield 13, 3) := by decide +kernel
theorem d_Sights_agreeWith_34 : decode (mCd M_Sights_agreeWith) 34 = .ok (.iload_n 2, 1) := by decide +kernel
theorem d_Sights_agreeWith_35 : decode (mCd M_Sights_agreeWith) 35 = .ok (.iaload, 1) := by decide +kernel
theorem d_Sights_agreeWith_36 : decode (mCd M_Sights_agreeWith) 36 = .ok (.if_icmp .ne 7, 3) := by decide +kernel
theorem d_Sights_agreeWith_39 : decode (mCd M_Sights_agreeWith) 39 = .ok (.iconst 1, 1) := by decide +kernel
theorem d_Sights_agreeWith_40 : decode (mCd M_Sights_agreeWith) 40 = .ok (.goto 4, 3) := by decide +kernel
theorem d_Sights_agreeWith_43 : decode (mCd M_Sights_agreeWith) 43 = .ok (.iconst 0, 1) := by decide +kernel
theorem d_Sights_agreeWith_44 : decode (mCd M_Sights_agreeWith) 44 = .ok (.aload_n 0, 1) := by decide +kernel
theorem d_Sights_agreeWith_45 : decode (mCd M_Sights_agreeWith) 45 = .ok (.getfield 16, 3) := by decide +kernel
theorem d_Sights_agreeWith_48 : decode (mCd M_Sights_agreeWith) 48 = .ok (.iload_n 2, 1) := by decide +kernel
theorem d_Sights_agreeWith_49 : decode (mCd M_Sights_agreeWith) 49 = .ok (.baload, 1) := by decide +kernel
theorem d_Sights_agreeWith_50 : decode (mCd M_Sights_agreeWith) 50 = .ok (.if_icmp .eq 5, 3) := by decide +kernel
theorem d_Sights_agreeWith_53 : decode (mCd M_Sights_agreeWith) 53 = .ok (.iconst 0, 1) := by decide +kernel
theorem d_Sights_agreeWith_54 : decode (mCd M_Sights_agreeWith) 54 = .ok (.ireturn, 1) := by decide +kernel
theorem d_Sights_agreeWith_55 : decode (mCd M_Sights_agreeWith) 55 = .ok (.iinc 2 1, 3) := by decide +kernel
theorem d_Sights_agreeWith_58 : decode (mCd M_Sights_agreeWith) 58 = .ok (.goto (-56), 3) := by decide +kernel
theorem d_Sights_agreeWith_61 : decode (mCd M_Sights_agreeWith) 61 = .ok (.iconst 1, 1) := by decide +kernel
theorem d_Sights_agreeWith_62 : decode (mCd M_Sights_agreeWith) 62 = .ok (.ireturn, 1) := by decide +kernel
theorem d_State_init_0 : decode (mCd M_State_init) 0 = .ok (.aload_n 0, 1) := by decide +kernel
theorem d_State_init_1 : decode (mCd M_State_init) 1 = .ok (.invokespecial 3, 3) := by decide +kernel
theorem d_State_init_4 : decode (mCd M_State_init) 4 = .ok (.aload_n 0, 1) := by decide +kernel
theorem d_State_init_5 : decode (mCd M_State_init) 5 = .ok (.iconst 0, 1) := by decide +kernel
theorem d_State_init_6 : decode (mCd M_State_init) 6 = .ok (.putfield 9, 3) := by decide +kernel
theorem d_State_init_9 : decode (mCd M_State_init) 9 = .ok (.aload_n 0, 1) := by decide +kernel
theorem d_State_init_10 : decode (mCd M_State_init) 10 = .ok (.bipush 20, 2) := by decide +kernel
theorem d_State_init_12 : decode (mCd M_State_init) 12 = .ok (.putfield 15, 3) := by decide +kernel
theorem d_State_init_15 : decode (mCd M_State_init) 15 = .ok (.aload_n 0, 1) := by decide +kernel
theorem d_State_init_16 : decode (mCd M_State_init) 16 = .ok (.iconst 0, 1) := by decide +kernel
theorem d_State_init_17 : decode (mCd M_State_init) 17 = .ok (.putfield 18, 3) := by decide +kernel
theorem d_State_init_20 : decode (mCd M_State_init) 20 = .ok (.aload_n 0, 1) := by decide +kernel
theorem d_State_init_21 : decode (mCd M_State_init) 21 = .ok (.iconst 0, 1) := by decide +kernel
theorem d_State_init_22 : decode (mCd M_State_init) 22 = .ok (.putfield 21, 3) := by decide +kernel
theorem d_State_init_25 : decode (mCd M_State_init) 25 = .ok (.aload_n 0, 1) := by decide +kernel
theorem d_State_init_26 : decode (mCd M_State_init) 26 = .ok (.iconst 0, 1) := by decide +kernel
theorem d_State_init_27 : decode (mCd M_State_init) 27 = .ok (.putfield 24, 3) := by decide +kernel
theorem d_State_init_30 : decode (mCd M_State_init) 30 = .ok (.aload_n 0, 1) := by decide +kernel
theorem d_State_init_31 : decode (mCd M_State_init) 31 = .ok (.iconst 0, 1) := by decide +kernel
theorem d_State_init_32 : decode (mCd M_State_init) 32 = .ok (.putfield 27, 3) := by decide +kernel
theorem d_State_init_35 : decode (mCd M_State_init) 35 = .ok (.aload_n 0, 1) := by decide +kernel
theorem d_State_init_36 : decode (mCd M_State_init) 36 = .ok (.bipush 8, 2) := by decide +kernel
theorem d_State_init_38 : decode (mCd M_State_init) 38 = .ok (.newarray .int, 2) := by decide +kernel
theorem d_State_init_40 : decode (mCd M_State_init) 40 = .ok (.putfield 30, 3) := by decide +kernel
theorem d_State_init_43 : decode (mCd M_State_init) 43 = .ok (.aload_n 0, 1) := by decide +kernel
theorem d_State_init_44 : decode (mCd M_State_init) 44 = .ok (.bipush 8, 2) := by decide +kernel
theorem d_State_init_46 : decode (mCd M_State_init) 46 = .ok (.newarray .int, 2) := by decide +kernel
theorem d_State_init_48 : decode (mCd M_State_init) 48 = .ok (.putfield 34, 3) := by decide +kernel
theorem d_State_init_51 : decode (mCd M_State_init) 51 = .ok (.aload_n 0, 1) := by decide +kernel
theorem d_State_init_52 : decode (mCd M_State_init) 52 = .ok (.bipush 8, 2) := by decide +kernel
theorem d_State_init_54 : decode (mCd M_State_init) 54 = .ok (.newarray .int, 2) := by decide +kernel
theorem d_State_init_56 : decode (mCd M_State_init) 56 = .ok (.putfield 37, 3) := by decide +kernel
theorem d_State_init_59 : decode (mCd M_State_init) 59 = .ok (.aload_n 0, 1) := by decide +kernel
theorem d_State_init_60 : decode (mCd M_State_init) 60 = .ok (.bipush 8, 2) := by decide +kernel
theorem d_State_init_62 : decode (mCd M_State_init) 62 = .ok (.newarray .int, 2) := by decide +kernel
theorem d_State_init_64 : decode (mCd M_State_init) 64 = .ok (.putfield 40, 3) := by decide +kernel
theorem d_State_init_67 : decode (mCd M_State_init) 67 = .ok (.return_, 1) := by decide +kernel
theorem d_State_copy_0 : decode (mCd M_State_copy) 0 = .ok (.aload_n 0, 1) := by decide +kernel
theorem d_State_copy_1 : decode (mCd M_State_copy) 1 = .ok (.aload_n 1, 1) := by decide +kernel
theorem d_State_copy_2 : decode (mCd M_State_copy) 2 = .ok (.getfield 9, 3) := by decide +kernel
theorem d_State_copy_5 : decode (mCd M_State_copy) 5 = .ok (.putfield 9, 3) := by decide +kernel
theorem d_State_copy_8 : decode (mCd M_State_copy) 8 = .ok (.aload_n 0, 1) := by decide +kernel
theorem d_State_copy_9 : decode (mCd M_State_copy) 9 = .ok (.aload_n 1, 1) := by decide +kernel
theorem d_State_copy_10 : decode (mCd M_State_copy) 10 = .ok (.getfield 15, 3) := by decide +kernel
theorem d_State_copy_13 : decode (mCd M_State_copy) 13 = .ok (.putfield 15, 3) := by decide +kernel
theorem d_State_copy_16 : decode (mCd M_State_copy) 16 = .ok (.aload_n 0, 1) := by decide +kernel
theorem d_State_copy_17 : decode (mCd M_State_copy) 17 = .ok (.aload_n 1, 1) := by decide +kernel
theorem d_State_copy_18 : decode (mCd M_State_copy) 18 = .ok (.getfield 18, 3) := by decide +kernel
theorem d_State_copy_21 : decode (mCd M_State_copy) 21 = .ok (.putfield 18, 3) := by decide +kernel
theorem d_State_copy_24 : decode (mCd M_State_copy) 24 = .ok (.aload_n 0, 1) := by decide +kernel
theorem d_State_copy_25 : decode (mCd M_State_copy) 25 = .ok (.aload_n 1, 1) := by decide +kernel
theorem d_State_copy_26 : decode (mCd M_State_copy) 26 = .ok (.getfield 21, 3) := by decide +kernel
theorem d_State_copy_29 : decode (mCd M_State_copy) 29 = .ok (.putfield 21, 3) := by decide +kernel
theorem d_State_copy_32 : decode (mCd M_State_copy) 32 = .ok (.aload_n 0, 1) := by decide +kernel
theorem d_State_copy_33 : decode (mCd M_State_copy) 33 = .ok (.aload_n 1, 1) := by decide +kernel
theorem d_State_copy_34 : decode (mCd M_State_copy) 34 = .ok (.getfield 24, 3) := by decide +kernel
theorem d_State_copy_37 : decode (mCd M_State_copy) 37 = .ok (.putfield 24, 3) := by decide +kernel
theorem d_State_copy_40 : decode (mCd M_State_copy) 40 = .ok (.aload_n 0, 1) := by decide +kernel
theorem d_State_copy_41 : decode (mCd M_State_copy) 41 = .ok (.aload_n 1, 1) := by decide +kernel
theorem d_State_copy_42 : decode (mCd M_State_copy) 42 = .ok (.getfield 27, 3) := by decide +kernel
theorem d_State_copy_45 : decode (mCd M_State_copy) 45 = .ok (.putfield 27, 3) := by decide +kernel
theorem d_State_copy_48 : decode (mCd M_State_copy) 48 = .ok (.aload_n 1, 1) := by decide +kernel
theorem d_State_copy_49 : decode (mCd M_State_copy) 49 = .ok (.getfield 30, 3) := by decide +kernel
theorem d_State_copy_52 : decode (mCd M_State_copy) 52 = .ok (.iconst 0, 1) := by decide +kernel
theorem d_State_copy_53 : decode (mCd M_State_copy) 53 = .ok (.aload_n 0, 1) := by decide +kernel
theorem d_State_copy_54 : decode (mCd M_State_copy) 54 = .ok (.getfield 30, 3) := by decide +kernel
theorem d_State_copy_57 : decode (mCd M_State_copy) 57 = .ok (.iconst 0, 1) := by decide +kernel
theorem d_State_copy_58 : decode (mCd M_State_copy) 58 = .ok (.bipush 8, 2) := by decide +kernel
theorem d_State_copy_60 : decode (mCd M_State_copy) 60 = .ok (.invokestatic 43, 3) := by decide +kernel
theorem d_State_copy_63 : decode (mCd M_State_copy) 63 = .ok (.aload_n 1, 1) := by decide +kernel
theorem d_State_copy_64 : decode (mCd M_State_copy) 64 = .ok (.getfield 34, 3) := by decide +kernel
theorem d_State_copy_67 : decode (mCd M_State_copy) 67 = .ok (.iconst 0, 1) := by decide +kernel
theorem d_State_copy_68 : decode (mCd M_State_copy) 68 = .ok (.aload_n 0, 1) := by decide +kernel
theorem d_State_copy_69 : decode (mCd M_State_copy) 69 = .ok (.getfield 34, 3) := by decide +kernel
theorem d_State_copy_72 : decode (mCd M_State_copy) 72 = .ok (.iconst 0, 1) := by decide +kernel
theorem d_State_copy_73 : decode (mCd M_State_copy) 73 = .ok (.bipush 8, 2) := by decide +kernel
theorem d_State_copy_75 : decode (mCd M_State_copy) 75 = .ok (.invokestatic 43, 3) := by decide +kernel
theorem d_State_copy_78 : decode (mCd M_State_copy) 78 = .ok (.aload_n 1, 1) := by decide +kernel
theorem d_State_copy_79 : decode (mCd M_State_copy) 79 = .ok (.getfield 37, 3) := by decide +kernel
theorem d_State_copy_82 : decode (mCd M_State_copy) 82 = .ok (.iconst 0, 1) := by decide +kernel
theorem d_State_copy_83 : decode (mCd M_State_copy) 83 = .ok (.aload_n 0, 1) := by decide +kernel
theorem d_State_copy_84 : decode (mCd M_State_copy) 84 = .ok (.getfield 37, 3) := by decide +kernel
theorem d_State_copy_87 : decode (mCd M_State_copy) 87 = .ok (.iconst 0, 1) := by decide +kernel
theorem d_State_copy_88 : decode (mCd M_State_copy) 88 = .ok (.bipush 8, 2) := by decide +kernel
theorem d_State_copy_90 : decode (mCd M_State_copy) 90 = .ok (.invokestatic 43, 3) := by decide +kernel
theorem d_State_copy_93 : decode (mCd M_State_copy) 93 = .ok (.aload_n 1, 1) := by decide +kernel
theorem d_State_copy_94 : decode (mCd M_State_copy) 94 = .ok (.getfield 40, 3) := by decide +kernel
theorem d_State_copy_97 : decode (mCd M_State_copy) 97 = .ok (.iconst 0, 1) := by decide +kernel
theorem d_State_copy_98 : decode (mCd M_State_copy) 98 = .ok (.aload_n 0, 1) := by decide +kernel
theorem d_State_copy_99 : decode (mCd M_State_copy) 99 = .ok (.getfield 40, 3) := by decide +kernel
theorem d_State_copy_102 : decode (mCd M_State_copy) 102 = .ok (.iconst 0, 1) := by decide +kernel
theorem d_State_copy_103 : decode (mCd M_State_copy) 103 = .ok (.bipush 8, 2) := by decide +kernel
theorem d_State_copy_105 : decode (mCd M_State_copy) 105 = .ok (.invokestatic 43, 3) := by decide +kernel
theorem d_State_copy_108 : decode (mCd M_State_copy) 108 = .ok (.return_, 1) := by decide +kernel
theorem d_State_welcome_0 : decode (mCd M_State_welcome) 0 = .ok (.iload_n 1, 1) := by decide +kernel
theorem d_State_welcome_1 : decode (mCd M_State_welcome) 1 = .ok (.ifCond .lt 49, 3) := by decide +kernel
theorem d_State_welcome_4 : decode (mCd M_State_welcome) 4 = .ok (.iload_n 1, 1) := by decide +kernel
theorem d_State_welcome_5 : decode (mCd M_State_welcome) 5 = .ok (.bipush 8, 2) := by decide +kernel
theorem d_State_welcome_7 : decode (mCd M_State_welcome) 7 = .ok (.if_icmp .ge 43, 3) := by decide +kernel
theorem d_State_welcome_10 : decode (mCd M_State_welcome) 10 = .ok (.aload_n 0, 1) := by decide +kernel
theorem d_State_welcome_11 : decode (mCd M_State_welcome) 11 = .ok (.getfield 30, 3) := by decide +kernel
theorem d_State_welcome_14 : decode (mCd M_State_welcome) 14 = .ok (.iload_n 1, 1) := by decide +kernel
theorem d_State_welcome_15 : decode (mCd M_State_welcome) 15 = .ok (.iconst 0, 1) := by decide +kernel
theorem d_State_welcome_16 : decode (mCd M_State_welcome) 16 = .ok (.iastore, 1) := by decide +kernel
theorem d_State_welcome_17 : decode (mCd M_State_welcome) 17 = .ok (.aload_n 0, 1) := by decide +kernel
theorem d_State_welcome_18 : decode (mCd M_State_welcome) 18 = .ok (.getfield 34, 3) := by decide +kernel
theorem d_State_welcome_21 : decode (mCd M_State_welcome) 21 = .ok (.iload_n 1, 1) := by decide +kernel
theorem d_State_welcome_22 : decode (mCd M_State_welcome) 22 = .ok (.iconst 5, 1) := by decide +kernel
theorem d_State_welcome_23 : decode (mCd M_State_welcome) 23 = .ok (.iastore, 1) := by decide +kernel
theorem d_State_welcome_24 : decode (mCd M_State_welcome) 24 = .ok (.aload_n 0, 1) := by decide +kernel
theorem d_State_welcome_25 : decode (mCd M_State_welcome) 25 = .ok (.getfield 37, 3) := by decide +kernel
theorem d_State_welcome_28 : decode (mCd M_State_welcome) 28 = .ok (.iload_n 1, 1) := by decide +kernel
theorem d_State_welcome_29 : decode (mCd M_State_welcome) 29 = .ok (.iconst (-1), 1) := by decide +kernel
theorem d_State_welcome_30 : decode (mCd M_State_welcome) 30 = .ok (.iastore, 1) := by decide +kernel
theorem d_State_welcome_31 : decode (mCd M_State_welcome) 31 = .ok (.aload_n 0, 1) := by decide +kernel
theorem d_State_welcome_32 : decode (mCd M_State_welcome) 32 = .ok (.getfield 40, 3) := by decide +kernel
theorem d_State_welcome_35 : decode (mCd M_State_welcome) 35 = .ok (.iload_n 1, 1) := by decide +kernel
theorem d_State_welcome_36 : decode (mCd M_State_welcome) 36 = .ok (.iconst 0, 1) := by decide +kernel
theorem d_State_welcome_37 : decode (mCd M_State_welcome) 37 = .ok (.iastore, 1) := by decide +kernel
theorem d_State_welcome_38 : decode (mCd M_State_welcome) 38 = .ok (.aload_n 0, 1) := by decide +kernel
theorem d_State_welcome_39 : decode (mCd M_State_welcome) 39 = .ok (.dup, 1) := by decide +kernel
theorem d_State_welcome_40 : decode (mCd M_State_welcome) 40 = .ok (.getfield 27, 3) := by decide +kernel
theorem d_State_welcome_43 : decode (mCd M_State_welcome) 43 = .ok (.iconst 1, 1) := by decide +kernel
theorem d_State_welcome_44 : decode (mCd M_State_welcome) 44 = .ok (.iload_n 1, 1) := by decide +kernel
theorem d_State_welcome_45 : decode (mCd M_State_welcome) 45 = .ok (.ishl, 1) := by decide +kernel
theorem d_State_welcome_46 : decode (mCd M_State_welcome) 46 = .ok (.ior, 1) := by decide +kernel
theorem d_State_welcome_47 : decode (mCd M_State_welcome) 47 = .ok (.putfield 27, 3) := by decide +kernel
theorem d_State_welcome_50 : decode (mCd M_State_welcome) 50 = .ok (.return_, 1) := by decide +kernel
theorem d_State_promised_0 : decode (mCd M_State_promised) 0 = .ok (.iconst 0, 1) := by decide +kernel
theorem d_State_promised_1 : decode (mCd M_State_promised) 1 = .ok (.istore_n 2, 1) := by decide +kernel
theorem d_State_promised_2 : decode (mCd M_State_promised) 2 = .ok (.iconst 0, 1) := by decide +kernel
theorem d_State_promised_3 : decode (mCd M_State_promised) 3 = .ok (.istore_n 3, 1) := by decide +kernel
theorem d_State_promised_4 : decode (mCd M_State_promised) 4 = .ok (.iload_n 3, 1) := by decide +kernel
theorem d_State_promised_5 : decode (mCd M_State_promised) 5 = .ok (.iload_n 1, 1) := by decide +kernel
theorem d_State_promised_6 : decode (mCd M_State_promised) 6 = .ok (.if_icmp .ge 35, 3) := by decide +kernel
theorem d_State_promised_9 : decode (mCd M_State_promised) 9 = .ok (.iload_n 3, 1) := by decide +kernel
theorem d_State_promised_10 : decode (mCd M_State_promised) 10 = .ok (.bipush 8, 2) := by decide +kernel
theorem d_State_promised_12 : decode (mCd M_State_promised) 12 = .ok (.if_icmp .ge 29, 3) := by decide +kernel
theorem d_State_promised_15 : decode (mCd M_State_promised) 15 = .ok (.iload_n 2, 1) := by decide +kernel
theorem d_State_promised_16 : decode (mCd M_State_promised) 16 = .ok (.aload_n 0, 1) := by decide +kernel
theorem d_State_promised_17 : decode (mCd M_State_promised) 17 = .ok (.getfield 37, 3) := by decide +kernel
theorem d_State_promised_20 : decode (mCd M_State_promised) 20 = .ok (.iload_n 3, 1) := by decide +kernel
theorem d_State_promised_21 : decode (mCd M_State_promised) 21 = .ok (.iaload, 1) := by decide +kernel
theorem d_State_promised_22 : decode (mCd M_State_promised) 22 = .ok (.iconst (-1), 1) := by decide +kernel
theorem d_State_promised_23 : decode (mCd M_State_promised) 23 = .ok (.if_icmp .eq 9, 3) := by decide +kernel
theorem d_State_promised_26 : decode (mCd M_State_promised) 26 = .ok (.iconst 1, 1) := by decide +kernel
theorem d_State_promised_27 : decode (mCd M_State_promised) 27 = .ok (.iload_n 3, 1) := by decide +kernel
theorem d_State_promised_28 : decode (mCd M_State_promised) 28 = .ok (.ishl, 1) := by decide +kernel
theorem d_State_promised_29 : decode (mCd M_State_promised) 29 = .ok (.goto 4, 3) := by decide +kernel
theorem d_State_promised_32 : decode (mCd M_State_promised) 32 = .ok (.iconst 0, 1) := by decide +kernel
theorem d_State_promised_33 : decode (mCd M_State_promised) 33 = .ok (.ior, 1) := by decide +kernel
theorem d_State_promised_34 : decode (mCd M_State_promised) 34 = .ok (.istore_n 2, 1) := by decide +kernel
theorem d_State_promised_35 : decode (mCd M_State_promised) 35 = .ok (.iinc 3 1, 3) := by decide +kernel
theorem d_State_promised_38 : decode (mCd M_State_promised) 38 = .ok (.goto (-34), 3) := by decide +kernel
theorem d_State_promised_41 : decode (mCd M_State_promised) 41 = .ok (.iload_n 2, 1) := by decide +kernel
theorem d_State_promised_42 : decode (mCd M_State_promised) 42 = .ok (.ireturn, 1) := by decide +kernel
theorem d_State_holds_0 : decode (mCd M_State_holds) 0 = .ok (.aload_n 0, 1) := by decide +kernel
theorem d_State_holds_1 : decode (mCd M_State_holds) 1 = .ok (.getfield 27, 3) := by decide +kernel
theorem d_State_holds_4 : decode (mCd M_State_holds) 4 = .ok (.iload_n 1, 1) := by decide +kernel
theorem d_State_holds_5 : decode (mCd M_State_holds) 5 = .ok (.iushr, 1) := by decide +kernel
theorem d_State_holds_6 : decode (mCd M_State_holds) 6 = .ok (.iconst 1, 1) := by decide +kernel
theorem d_State_holds_7 : decode (mCd M_State_holds) 7 = .ok (.iand, 1) := by decide +kernel
theorem d_State_holds_8 : decode (mCd M_State_holds) 8 = .ok (.iconst 1, 1) := by decide +kernel
theorem d_State_holds_9 : decode (mCd M_State_holds) 9 = .ok (.if_icmp .ne 7, 3) := by decide +kernel
theorem d_State_holds_12 : decode (mCd M_State_holds) 12 = .ok (.iconst 1, 1) := by decide +kernel
theorem d_State_holds_13 : decode (mCd M_State_holds) 13 = .ok (.goto 4, 3) := by decide +kernel
theorem d_State_holds_16 : decode (mCd M_State_holds) 16 = .ok (.iconst 0, 1) := by decide +kernel
theorem d_State_holds_17 : decode (mCd M_State_holds) 17 = .ok (.ireturn, 1) := by decide +kernel
theorem d_State_crumbsOf_0 : decode (mCd M_State_crumbsOf) 0 = .ok (.iconst 0, 1) := by decide +kernel
theorem d_State_crumbsOf_1 : decode (mCd M_State_crumbsOf) 1 = .ok (.istore_n 3, 1) := by decide +kernel
theorem d_State_crumbsOf_2 : decode (mCd M_State_crumbsOf) 2 = .ok (.iconst 0, 1) := by decide +kernel
theorem d_State_crumbsOf_3 : decode (mCd M_State_crumbsOf) 3 = .ok (.istore 4, 2) := by decide +kernel
theorem d_State_crumbsOf_5 : decode (mCd M_State_crumbsOf) 5 = .ok (.iload 4, 2) := by decide +kernel
theorem d_State_crumbsOf_7 : decode (mCd M_State_crumbsOf) 7 = .ok (.iload_n 2, 1) := by decide +kernel
theorem d_State_crumbsOf_8 : decode (mCd M_State_crumbsOf) 8 = .ok (.if_icmp .ge 40, 3) := by decide +kernel
theorem d_State_crumbsOf_11 : decode (mCd M_State_crumbsOf) 11 = .ok (.iload 4, 2) := by decide +kernel
theorem d_State_crumbsOf_13 : decode (mCd M_State_crumbsOf) 13 = .ok (.bipush 8, 2) := by decide +kernel
theorem d_State_crumbsOf_15 : decode (mCd M_State_crumbsOf) 15 = .ok (.if_icmp .ge 33, 3) := by decide +kernel
theorem d_State_crumbsOf_18 : decode (mCd M_State_crumbsOf) 18 = .ok (.iload_n 3, 1) := by decide +kernel
theorem d_State_crumbsOf_19 : decode (mCd M_State_crumbsOf) 19 = .ok (.iload_n 1, 1) := by decide +kernel
theorem d_State_crumbsOf_20 : decode (mCd M_State_crumbsOf) 20 = .ok (.iload 4, 2) := by decide +kernel
theorem d_State_crumbsOf_22 : decode (mCd M_State_crumbsOf) 22 = .ok (.iushr, 1) := by decide +kernel
theorem d_State_crumbsOf_23 : decode (mCd M_State_crumbsOf) 23 = .ok (.iconst 1, 1) := by decide +kernel
theorem d_State_crumbsOf_24 : decode (mCd M_State_crumbsOf) 24 = .ok (.iand, 1) := by decide +kernel
theorem d_State_crumbsOf_25 : decode (mCd M_State_crumbsOf) 25 = .ok (.iconst 1, 1) := by decide +kernel
theorem d_State_crumbsOf_26 : decode (mCd M_State_crumbsOf) 26 = .ok (.if_icmp .ne 13, 3) := by decide +kernel
theorem d_State_crumbsOf_29 : decode (mCd M_State_crumbsOf) 29 = .ok (.aload_n 0, 1) := by decide +kernel
theorem d_State_crumbsOf_30 : decode (mCd M_State_crumbsOf) 30 = .ok (.getfield 40, 3) := by decide +kernel
theorem d_State_crumbsOf_33 : decode (mCd M_State_crumbsOf) 33 = .ok (.iload 4, 2) := by decide +kernel
theorem d_State_crumbsOf_35 : decode (mCd M_State_crumbsOf) 35 = .ok (.iaload, 1) := by decide +kernel
theorem d_State_crumbsOf_36 : decode (mCd M_State_crumbsOf) 36 = .ok (.goto 4, 3) := by decide +kernel
theorem d_State_crumbsOf_39 : decode (mCd M_State_crumbsOf) 39 = .ok (.iconst 0, 1) := by decide +kernel
theorem d_State_crumbsOf_40 : decode (mCd M_State_crumbsOf) 40 = .ok (.iadd, 1) := by decide +kernel
theorem d_State_crumbsOf_41 : decode (mCd M_State_crumbsOf) 41 = .ok (.istore_n 3, 1) := by decide +kernel
theorem d_State_crumbsOf_42 : decode (mCd M_State_crumbsOf) 42 = .ok (.iinc 4 1, 3) := by decide +kernel
theorem d_State_crumbsOf_45 : decode (mCd M_State_crumbsOf) 45 = .ok (.goto (-40), 3) := by decide +kernel
theorem d_State_crumbsOf_48 : decode (mCd M_State_crumbsOf) 48 = .ok (.iload_n 3, 1) := by decide +kernel
theorem d_State_crumbsOf_49 : decode (mCd M_State_crumbsOf) 49 = .ok (.ireturn, 1) := by decide +kernel
theorem d_Text_init_0 : decode (mCd M_Text_init) 0 = .ok (.aload_n 0, 1) := by decide +kernel
theorem d_Text_init_1 : decode (mCd M_Text_init) 1 = .ok (.invokespecial 3, 3) := by decide +kernel
theorem d_Text_init_4 : decode (mCd M_Text_init) 4 = .ok (.aload_n 0, 1) := by decide +kernel
theorem d_Text_init_5 : decode (mCd M_Text_init) 5 = .ok (.bipush 80, 2) := by decide +kernel
theorem d_Text_init_7 : decode (mCd M_Text_init) 7 = .ok (.newarray .char, 2) := by decide +kernel
theorem d_Text_init_9 : decode (mCd M_Text_init) 9 = .ok (.putfield 11, 3) := by decide +kernel
theorem d_Text_init_12 : decode (mCd M_Text_init) 12 = .ok (.aload_n 0, 1) := by decide +kernel
theorem d_Text_init_13 : decode (mCd M_Text_init) 13 = .ok (.iconst 0, 1) := by decide +kernel
theorem d_Text_init_14 : decode (mCd M_Text_init) 14 = .ok (.putfield 15, 3) := by decide +kernel
theorem d_Text_init_17 : decode (mCd M_Text_init) 17 = .ok (.return_, 1) := by decide +kernel
theorem d_Text_length_0 : decode (mCd M_Text_length) 0 = .ok (.aload_n 0, 1) := by decide +kernel
theorem d_Text_length_1 : decode (mCd M_Text_length) 1 = .ok (.getfield 15, 3) := by decide +kernel
theorem d_Text_length_4 : decode (mCd M_Text_length) 4 = .ok (.ireturn, 1) := by decide +kernel
theorem d_Text_append_0 : decode (mCd M_Text_append) 0 = .ok (.aload_n 0, 1) := by decide +kernel
theorem d_Text_append_1 : decode (mCd M_Text_append) 1 = .ok (.getfield 15, 3) := by decide +kernel
theorem d_Text_append_4 : decode (mCd M_Text_append) 4 = .ok (.iconst 4, 1) := by decide +kernel
theorem d_Text_append_5 : decode (mCd M_Text_append) 5 = .ok (.iadd, 1) := by decide +kernel
theorem d_Text_append_6 : decode (mCd M_Text_append) 6 = .ok (.bipush 80, 2) := by decide +kernel
theorem d_Text_append_8 : decode (mCd M_Text_append) 8 = .ok (.if_icmp .le 5, 3) := by decide +kernel
theorem d_Text_append_11 : decode (mCd M_Text_append) 11 = .ok (.iconst 0, 1) := by decide +kernel
theorem d_Text_append_12 : decode (mCd M_Text_append) 12 = .ok (.ireturn, 1) := by decide +kernel
theorem d_Text_append_13 : decode (mCd M_Text_append) 13 = .ok (.bipush 24, 2) := by decide +kernel
theorem d_Text_append_15 : decode (mCd M_Text_append) 15 = .ok (.istore_n 2, 1) := by decide +kernel
theorem d_Text_append_16 : decode (mCd M_Text_append) 16 = .ok (.iload_n 2, 1) := by decide +kernel
theorem d_Text_append_17 : decode (mCd M_Text_append) 17 = .ok (.ifCond .lt 36, 3) := by decide +kernel
theorem d_Text_append_20 : decode (mCd M_Text_append) 20 = .ok (.aload_n 0, 1) := by decide +kernel
theorem d_Text_append_21 : decode (mCd M_Text_append) 21 = .ok (.getfield 11, 3) := by decide +kernel
theorem d_Text_append_24 : decode (mCd M_Text_append) 24 = .ok (.aload_n 0, 1) := by decide +kernel
theorem d_Text_append_25 : decode (mCd M_Text_append) 25 = .ok (.getfield 15, 3) := by decide +kernel
theorem d_Text_append_28 : decode (mCd M_Text_append) 28 = .ok (.iload_n 1, 1) := by decide +kernel
theorem d_Text_append_29 : decode (mCd M_Text_append) 29 = .ok (.iload_n 2, 1) := by decide +kernel
theorem d_Text_append_30 : decode (mCd M_Text_append) 30 = .ok (.iushr, 1) := by decide +kernel
theorem d_Text_append_31 : decode (mCd M_Text_append) 31 = .ok (.sipush 255, 3) := by decide +kernel
theorem d_Text_append_34 : decode (mCd M_Text_append) 34 = .ok (.iand, 1) := by decide +kernel
theorem d_Text_append_35 : decode (mCd M_Text_append) 35 = .ok (.i2c, 1) := by decide +kernel
theorem d_Text_append_36 : decode (mCd M_Text_append) 36 = .ok (.castore, 1) := by decide +kernel
theorem d_Text_append_37 : decode (mCd M_Text_append) 37 = .ok (.aload_n 0, 1) := by decide +kernel
theorem d_Text_append_38 : decode (mCd M_Text_append) 38 = .ok (.dup, 1) := by decide +kernel
theorem d_Text_append_39 : decode (mCd M_Text_append) 39 = .ok (.getfield 15, 3) := by decide +kernel
theorem d_Text_append_42 : decode (mCd M_Text_append) 42 = .ok (.iconst 1, 1) := by decide +kernel
theorem d_Text_append_43 : decode (mCd M_Text_append) 43 = .ok (.iadd, 1) := by decide +kernel
theorem d_Text_append_44 : decode (mCd M_Text_append) 44 = .ok (.putfield 15, 3) := by decide +kernel
theorem d_Text_append_47 : decode (mCd M_Text_append) 47 = .ok (.iinc 2 (-8), 3) := by decide +kernel
theorem d_Text_append_50 : decode (mCd M_Text_append) 50 = .ok (.goto (-34), 3) := by decide +kernel
theorem d_Text_append_53 : decode (mCd M_Text_append) 53 = .ok (.iconst 1, 1) := by decide +kernel
theorem d_Text_append_54 : decode (mCd M_Text_append) 54 = .ok (.ireturn, 1) := by decide +kernel
theorem d_Text_shorten_0 : decode (mCd M_Text_shorten) 0 = .ok (.iload_n 1, 1) := by decide +kernel
theorem d_Text_shorten_1 : decode (mCd M_Text_shorten) 1 = .ok (.ifCond .lt 11, 3) := by decide +kernel
theorem d_Text_shorten_4 : decode (mCd M_Text_shorten) 4 = .ok (.iload_n 1, 1) := by decide +kernel
theorem d_Text_shorten_5 : decode (mCd M_Text_shorten) 5 = .ok (.aload_n 0, 1) := by decide +kernel
theorem d_Text_shorten_6 : decode (mCd M_Text_shorten) 6 = .ok (.getfield 15, 3) := by decide +kernel
theorem d_Text_shorten_9 : decode (mCd M_Text_shorten) 9 = .ok (.if_icmp .le 5, 3) := by decide +kernel
theorem d_Text_shorten_12 : decode (mCd M_Text_shorten) 12 = .ok (.iconst 0, 1) := by decide +kernel
theorem d_Text_shorten_13 : decode (mCd M_Text_shorten) 13 = .ok (.ireturn, 1) := by decide +kernel
theorem d_Text_shorten_14 : decode (mCd M_Text_shorten) 14 = .ok (.aload_n 0, 1) := by decide +kernel
theorem d_Text_shorten_15 : decode (mCd M_Text_shorten) 15 = .ok (.iload_n 1, 1) := by decide +kernel
theorem d_Text_shorten_16 : decode (mCd M_Text_shorten) 16 = .ok (.putfield 15, 3) := by decide +kernel
theorem d_Text_shorten_19 : decode (mCd M_Text_shorten) 19 = .ok (.iconst 1, 1) := by decide +kernel
theorem d_Text_shorten_20 : decode (mCd M_Text_shorten) 20 = .ok (.ireturn, 1) := by decide +kernel
theorem d_Text_clear_0 : decode (mCd M_Text_clear) 0 = .ok (.aload_n 0, 1) := by decide +kernel
theorem d_Text_clear_1 : decode (mCd M_Text_clear) 1 = .ok (.iconst 0, 1) := by decide +kernel
theorem d_Text_clear_2 : decode (mCd M_Text_clear) 2 = .ok (.putfield 15, 3) := by decide +kernel
theorem d_Text_clear_5 : decode (mCd M_Text_clear) 5 = .ok (.return_, 1) := by decide +kernel
theorem d_Text_at_0 : decode (mCd M_Text_at) 0 = .ok (.iload_n 1, 1) := by decide +kernel
theorem d_Text_at_1 : decode (mCd M_Text_at) 1 = .ok (.ifCond .lt 20, 3) := by decide +kernel
theorem d_Text_at_4 : decode (mCd M_Text_at) 4 = .ok (.iload_n 1, 1) := by decide +kernel
theorem d_Text_at_5 : decode (mCd M_Text_at) 5 = .ok (.aload_n 0, 1) := by decide +kernel
theorem d_Text_at_6 : decode (mCd M_Text_at) 6 = .ok (.getfield 15, 3) := by decide +kernel
theorem d_Text_at_9 : decode (mCd M_Text_at) 9 = .ok (.if_icmp .ge 12, 3) := by decide +kernel
theorem d_Text_at_12 : decode (mCd M_Text_at) 12 = .ok (.aload_n 0, 1) := by decide +kernel
theorem d_Text_at_13 : decode (mCd M_Text_at) 13 = .ok (.getfield 11, 3) := by decide +kernel
theorem d_Text_at_16 : decode (mCd M_Text_at) 16 = .ok (.iload_n 1, 1) := by decide +kernel
theorem d_Text_at_17 : decode (mCd M_Text_at) 17 = .ok (.caload, 1) := by decide +kernel
theorem d_Text_at_18 : decode (mCd M_Text_at) 18 = .ok (.goto 4, 3) := by decide +kernel
theorem d_Text_at_21 : decode (mCd M_Text_at) 21 = .ok (.iconst (-1), 1) := by decide +kernel
theorem d_Text_at_22 : decode (mCd M_Text_at) 22 = .ok (.ireturn, 1) := by decide +kernel
theorem d_Text_digit_0 : decode (mCd M_Text_digit) 0 = .ok (.aload_n 0, 1) := by decide +kernel
theorem d_Text_digit_1 : decode (mCd M_Text_digit) 1 = .ok (.iload_n 1, 1) := by decide +kernel
theorem d_Text_digit_2 : decode (mCd M_Text_digit) 2 = .ok (.invokevirtual 19, 3) := by decide +kernel
theorem d_Text_digit_5 : decode (mCd M_Text_digit) 5 = .ok (.istore_n 2, 1) := by decide +kernel
theorem d_Text_digit_6 : decode (mCd M_Text_digit) 6 = .ok (.iload_n 2, 1) := by decide +kernel
theorem d_Text_digit_7 : decode (mCd M_Text_digit) 7 = .ok (.bipush 48, 2) := by decide +kernel
theorem d_Text_digit_9 : decode (mCd M_Text_digit) 9 = .ok (.if_icmp .lt 16, 3) := by decide +kernel
theorem d_Text_digit_12 : decode (mCd M_Text_digit) 12 = .ok (.iload_n 2, 1) := by decide +kernel
theorem d_Text_digit_13 : decode (mCd M_Text_digit) 13 = .ok (.bipush 57, 2) := by decide +kernel
theorem d_Text_digit_15 : decode (mCd M_Text_digit) 15 = .ok (.if_icmp .gt 10, 3) := by decide +kernel
theorem d_Text_digit_18 : decode (mCd M_Text_digit) 18 = .ok (.iload_n 2, 1) := by decide +kernel
theorem d_Text_digit_19 : decode (mCd M_Text_digit) 19 = .ok (.bipush 48, 2) := by decide +kernel
theorem d_Text_digit_21 : decode (mCd M_Text_digit) 21 = .ok (.isub, 1) := by decide +kernel
theorem d_Text_digit_22 : decode (mCd M_Text_digit) 22 = .ok (.goto 4, 3) := by decide +kernel
theorem d_Text_digit_25 : decode (mCd M_Text_digit) 25 = .ok (.iconst (-1), 1) := by decide +kernel
theorem d_Text_digit_26 : decode (mCd M_Text_digit) 26 = .ok (.ireturn, 1) := by decide +kernel
theorem d_Told_init_0 : decode (mCd M_Told_init) 0 = .ok (.aload_n 0, 1) := by decide +kernel
theorem d_Told_init_1 : decode (mCd M_Told_init) 1 = .ok (.invokespecial 3, 3) := by decide +kernel
theorem d_Told_init_4 : decode (mCd M_Told_init) 4 = .ok (.aload_n 0, 1) := by decide +kernel
theorem d_Told_init_5 : decode (mCd M_Told_init) 5 = .ok (.bipush 37, 2) := by decide +kernel
theorem d_Told_init_7 : decode (mCd M_Told_init) 7 = .ok (.newarray .long, 2) := by decide +kernel
theorem d_Told_init_9 : decode (mCd M_Told_init) 9 = .ok (.putfield 9, 3) := by decide +kernel
theorem d_Told_init_12 : decode (mCd M_Told_init) 12 = .ok (.aload_n 0, 1) := by decide +kernel
theorem d_Told_init_13 : decode (mCd M_Told_init) 13 = .ok (.iconst 0, 1) := by decide +kernel
theorem d_Told_init_14 : decode (mCd M_Told_init) 14 = .ok (.putfield 15, 3) := by decide +kernel
theorem d_Told_init_17 : decode (mCd M_Told_init) 17 = .ok (.return_, 1) := by decide +kernel
theorem d_Told_start_0 : decode (mCd M_Told_start) 0 = .ok (.aload_n 0, 1) := by decide +kernel
theorem d_Told_start_1 : decode (mCd M_Told_start) 1 = .ok (.iconst 0, 1) := by decide +kernel
theorem d_Told_start_2 : decode (mCd M_Told_start) 2 = .ok (.putfield 15, 3) := by decide +kernel
theorem d_Told_start_5 : decode (mCd M_Told_start) 5 = .ok (.return_, 1) := by decide +kernel
theorem d_Told_add_0 : decode (mCd M_Told_add) 0 = .ok (.aload_n 0, 1) := by decide +kernel
theorem d_Told_add_1 : decode (mCd M_Told_add) 1 = .ok (.getfield 15, 3) := by decide +kernel
theorem d_Told_add_4 : decode (mCd M_Told_add) 4 = .ok (.aload_n 0, 1) := by decide +kernel
theorem d_Told_add_5 : decode (mCd M_Told_add) 5 = .ok (.getfield 9, 3) := by decide +kernel
theorem d_Told_add_8 : decode (mCd M_Told_add) 8 = .ok (.arraylength, 1) := by decide +kernel
theorem d_Told_add_9 : decode (mCd M_Told_add) 9 = .ok (.if_icmp .ge 23, 3) := by decide +kernel
theorem d_Told_add_12 : decode (mCd M_Told_add) 12 = .ok (.aload_n 0, 1) := by decide +kernel
theorem d_Told_add_13 : decode (mCd M_Told_add) 13 = .ok (.getfield 9, 3) := by decide +kernel
theorem d_Told_add_16 : decode (mCd M_Told_add) 16 = .ok (.aload_n 0, 1) := by decide +kernel
theorem d_Told_add_17 : decode (mCd M_Told_add) 17 = .ok (.getfield 15, 3) := by decide +kernel
theorem d_Told_add_20 : decode (mCd M_Told_add) 20 = .ok (.lload_n 1, 1) := by decide +kernel
theorem d_Told_add_21 : decode (mCd M_Told_add) 21 = .ok (.lastore, 1) := by decide +kernel
theorem d_Told_add_22 : decode (mCd M_Told_add) 22 = .ok (.aload_n 0, 1) := by decide +kernel
theorem d_Told_add_23 : decode (mCd M_Told_add) 23 = .ok (.dup, 1) := by decide +kernel
theorem d_Told_add_24 : decode (mCd M_Told_add) 24 = .ok (.getfield 15, 3) := by decide +kernel
theorem d_Told_add_27 : decode (mCd M_Told_add) 27 = .ok (.iconst 1, 1) := by decide +kernel
theorem d_Told_add_28 : decode (mCd M_Told_add) 28 = .ok (.iadd, 1) := by decide +kernel
theorem d_Told_add_29 : decode (mCd M_Told_add) 29 = .ok (.putfield 15, 3) := by decide +kernel
theorem d_Told_add_32 : decode (mCd M_Told_add) 32 = .ok (.return_, 1) := by decide +kernel
theorem d_Trip_init_0 : decode (mCd M_Trip_init) 0 = .ok (.aload_n 0, 1) := by decide +kernel
theorem d_Trip_init_1 : decode (mCd M_Trip_init) 1 = .ok (.invokespecial 3, 3) := by decide +kernel
theorem d_Trip_init_4 : decode (mCd M_Trip_init) 4 = .ok (.aload_n 0, 1) := by decide +kernel
theorem d_Trip_init_5 : decode (mCd M_Trip_init) 5 = .ok (.iconst 0, 1) := by decide +kernel
theorem d_Trip_init_6 : decode (mCd M_Trip_init) 6 = .ok (.putfield 9, 3) := by decide +kernel
theorem d_Trip_init_9 : decode (mCd M_Trip_init) 9 = .ok (.aload_n 0, 1) := by decide +kernel
theorem d_Trip_init_10 : decode (mCd M_Trip_init) 10 = .ok (.iconst 0, 1) := by decide +kernel
theorem d_Trip_init_11 : decode (mCd M_Trip_init) 11 = .ok (.putfield 15, 3) := by decide +kernel
theorem d_Trip_init_14 : decode (mCd M_Trip_init) 14 = .ok (.aload_n 0, 1) := by decide +kernel
theorem d_Trip_init_15 : decode (mCd M_Trip_init) 15 = .ok (.iconst 0, 1) := by decide +kernel
theorem d_Trip_init_16 : decode (mCd M_Trip_init) 16 = .ok (.putfield 18, 3) := by decide +kernel
theorem d_Trip_init_19 : decode (mCd M_Trip_init) 19 = .ok (.aload_n 0, 1) := by decide +kernel
theorem d_Trip_init_20 : decode (mCd M_Trip_init) 20 = .ok (.iconst 0, 1) := by decide +kernel
theorem d_Trip_init_21 : decode (mCd M_Trip_init) 21 = .ok (.putfield 21, 3) := by decide +kernel
theorem d_Trip_init_24 : decode (mCd M_Trip_init) 24 = .ok (.aload_n 0, 1) := by decide +kernel
theorem d_Trip_init_25 : decode (mCd M_Trip_init) 25 = .ok (.iconst 0, 1) := by decide +kernel
theorem d_Trip_init_26 : decode (mCd M_Trip_init) 26 = .ok (.putfield 24, 3) := by decide +kernel
theorem d_Trip_init_29 : decode (mCd M_Trip_init) 29 = .ok (.aload_n 0, 1) := by decide +kernel
theorem d_Trip_init_30 : decode (mCd M_Trip_init) 30 = .ok (.aload_n 1, 1) := by decide +kernel
theorem d_Trip_init_31 : decode (mCd M_Trip_init) 31 = .ok (.putfield 27, 3) := by decide +kernel
theorem d_Trip_init_34 : decode (mCd M_Trip_init) 34 = .ok (.aload_n 0, 1) := by decide +kernel
theorem d_Trip_init_35 : decode (mCd M_Trip_init) 35 = .ok (.aload_n 2, 1) := by decide +kernel
theorem d_Trip_init_36 : decode (mCd M_Trip_init) 36 = .ok (.putfield 31, 3) := by decide +kernel
theorem d_Trip_init_39 : decode (mCd M_Trip_init) 39 = .ok (.aload_n 0, 1) := by decide +kernel
theorem d_Trip_init_40 : decode (mCd M_Trip_init) 40 = .ok (.aload_n 3, 1) := by decide +kernel
theorem d_Trip_init_41 : decode (mCd M_Trip_init) 41 = .ok (.putfield 35, 3) := by decide +kernel
theorem d_Trip_init_44 : decode (mCd M_Trip_init) 44 = .ok (.return_, 1) := by decide +kernel
theorem d_Trip_pass_0 : decode (mCd M_Trip_pass) 0 = .ok (.aload_n 0, 1) := by decide +kernel
theorem d_Trip_pass_1 : decode (mCd M_Trip_pass) 1 = .ok (.iconst 0, 1) := by decide +kernel
theorem d_Trip_pass_2 : decode (mCd M_Trip_pass) 2 = .ok (.putfield 9, 3) := by decide +kernel
theorem d_Trip_pass_5 : decode (mCd M_Trip_pass) 5 = .ok (.aload_n 0, 1) := by decide +kernel
theorem d_Trip_pass_6 : decode (mCd M_Trip_pass) 6 = .ok (.iconst 0, 1) := by decide +kernel
theorem d_Trip_pass_7 : decode (mCd M_Trip_pass) 7 = .ok (.putfield 15, 3) := by decide +kernel
theorem d_Trip_pass_10 : decode (mCd M_Trip_pass) 10 = .ok (.aload_n 0, 1) := by decide +kernel
theorem d_Trip_pass_11 : decode (mCd M_Trip_pass) 11 = .ok (.iconst 0, 1) := by decide +kernel
theorem d_Trip_pass_12 : decode (mCd M_Trip_pass) 12 = .ok (.putfield 18, 3) := by decide +kernel
theorem d_Trip_pass_15 : decode (mCd M_Trip_pass) 15 = .ok (.aload_n 0, 1) := by decide +kernel
theorem d_Trip_pass_16 : decode (mCd M_Trip_pass) 16 = .ok (.iconst 0, 1) := by decide +kernel
theorem d_Trip_pass_17 : decode (mCd M_Trip_pass) 17 = .ok (.putfield 21, 3) := by decide +kernel
theorem d_Trip_pass_20 : decode (mCd M_Trip_pass) 20 = .ok (.aload_n 0, 1) := by decide +kernel
theorem d_Trip_pass_21 : decode (mCd M_Trip_pass) 21 = .ok (.iconst 0, 1) := by decide +kernel
theorem d_Trip_pass_22 : decode (mCd M_Trip_pass) 22 = .ok (.putfield 24, 3) := by decide +kernel
theorem d_Trip_pass_25 : decode (mCd M_Trip_pass) 25 = .ok (.iconst 0, 1) := by decide +kernel
theorem d_Trip_pass_26 : decode (mCd M_Trip_pass) 26 = .ok (.istore 4, 2) := by decide +kernel
theorem d_Trip_pass_28 : decode (mCd M_Trip_pass) 28 = .ok (.iload 4, 2) := by decide +kernel
theorem d_Trip_pass_30 : decode (mCd M_Trip_pass) 30 = .ok (.iload_n 3, 1) := by decide +kernel
theorem d_Trip_pass_31 : decode (mCd M_Trip_pass) 31 = .ok (.if_icmp .ge 103, 3) := by decide +kernel
theorem d_Trip_pass_34 : decode (mCd M_Trip_pass) 34 = .ok (.aload_n 0, 1) := by decide +kernel
theorem d_Trip_pass_35 : decode (mCd M_Trip_pass) 35 = .ok (.getfield 35, 3) := by decide +kernel
theorem d_Trip_pass_38 : decode (mCd M_Trip_pass) 38 = .ok (.aload_n 1, 1) := by decide +kernel
theorem d_Trip_pass_39 : decode (mCd M_Trip_pass) 39 = .ok (.aload_n 2, 1) := by decide +kernel
theorem d_Trip_pass_40 : decode (mCd M_Trip_pass) 40 = .ok (.invokevirtual 39, 3) := by decide +kernel
theorem d_Trip_pass_43 : decode (mCd M_Trip_pass) 43 = .ok (.aload_n 0, 1) := by decide +kernel
theorem d_Trip_pass_44 : decode (mCd M_Trip_pass) 44 = .ok (.getfield 35, 3) := by decide +kernel
theorem d_Trip_pass_47 : decode (mCd M_Trip_pass) 47 = .ok (.sipush 255, 3) := by decide +kernel
theorem d_Trip_pass_50 : decode (mCd M_Trip_pass) 50 = .ok (.invokevirtual 45, 3) := by decide +kernel
theorem d_Trip_pass_53 : decode (mCd M_Trip_pass) 53 = .ok (.aload_n 0, 1) := by decide +kernel
theorem d_Trip_pass_54 : decode (mCd M_Trip_pass) 54 = .ok (.aload_n 1, 1) := by decide +kernel
theorem d_Trip_pass_55 : decode (mCd M_Trip_pass) 55 = .ok (.aload_n 0, 1) := by decide +kernel
theorem d_Trip_pass_56 : decode (mCd M_Trip_pass) 56 = .ok (.getfield 35, 3) := by decide +kernel
theorem d_Trip_pass_59 : decode (mCd M_Trip_pass) 59 = .ok (.aload_n 1, 1) := by decide +kernel
theorem d_Trip_pass_60 : decode (mCd M_Trip_pass) 60 = .ok (.getfield 49, 3) := by decide +kernel
theorem d_Trip_pass_63 : decode (mCd M_Trip_pass) 63 = .ok (.invokevirtual 54, 3) := by decide +kernel
theorem d_Trip_pass_66 : decode (mCd M_Trip_pass) 66 = .ok (.invokevirtual 58, 3) := by decide +kernel
theorem d_Trip_pass_69 : decode (mCd M_Trip_pass) 69 = .ok (.iconst 0, 1) := by decide +kernel
theorem d_Trip_pass_70 : decode (mCd M_Trip_pass) 70 = .ok (.istore 5, 2) := by decide +kernel
theorem d_Trip_pass_72 : decode (mCd M_Trip_pass) 72 = .ok (.iload 5, 2) := by decide +kernel
theorem d_Trip_pass_74 : decode (mCd M_Trip_pass) 74 = .ok (.aload_n 0, 1) := by decide +kernel
theorem d_Trip_pass_75 : decode (mCd M_Trip_pass) 75 = .ok (.getfield 31, 3) := by decide +kernel
theorem d_Trip_pass_78 : decode (mCd M_Trip_pass) 78 = .ok (.getfield 62, 3) := by decide +kernel
theorem d_Trip_pass_81 : decode (mCd M_Trip_pass) 81 = .ok (.if_icmp .ge 37, 3) := by decide +kernel
theorem d_Trip_pass_84 : decode (mCd M_Trip_pass) 84 = .ok (.aload_n 0, 1) := by decide +kernel
theorem d_Trip_pass_85 : decode (mCd M_Trip_pass) 85 = .ok (.aload_n 1, 1) := by decide +kernel
theorem d_Trip_pass_86 : decode (mCd M_Trip_pass) 86 = .ok (.iload 5, 2) := by decide +kernel
theorem d_Trip_pass_88 : decode (mCd M_Trip_pass) 88 = .ok (.invokevirtual 67, 3) := by decide +kernel
theorem d_Trip_pass_91 : decode (mCd M_Trip_pass) 91 = .ok (.aload_n 1, 1) := by decide +kernel
theorem d_Trip_pass_92 : decode (mCd M_Trip_pass) 92 = .ok (.getfield 70, 3) := by decide +kernel
theorem d_Trip_pass_95 : decode (mCd M_Trip_pass) 95 = .ok (.iload 5, 2) := by decide +kernel
theorem d_Trip_pass_97 : decode (mCd M_Trip_pass) 97 = .ok (.iaload, 1) := by decide +kernel
theorem d_Trip_pass_98 : decode (mCd M_Trip_pass) 98 = .ok (.aload_n 1, 1) := by decide +kernel
theorem d_Trip_pass_99 : decode (mCd M_Trip_pass) 99 = .ok (.getfield 49, 3) := by decide +kernel
theorem d_Trip_pass_102 : decode (mCd M_Trip_pass) 102 = .ok (.if_icmp .ne 10, 3) := by decide +kernel
theorem d_Trip_pass_105 : decode (mCd M_Trip_pass) 105 = .ok (.aload_n 0, 1) := by decide +kernel
theorem d_Trip_pass_106 : decode (mCd M_Trip_pass) 106 = .ok (.aload_n 1, 1) := by decide +kernel
theorem d_Trip_pass_107 : decode (mCd M_Trip_pass) 107 = .ok (.iload 5, 2) := by decide +kernel
theorem d_Trip_pass_109 : decode (mCd M_Trip_pass) 109 = .ok (.invokevirtual 74, 3) := by decide +kernel
theorem d_Trip_pass_112 : decode (mCd M_Trip_pass) 112 = .ok (.iinc 5 1, 3) := by decide +kernel
theorem d_Trip_pass_115 : decode (mCd M_Trip_pass) 115 = .ok (.goto (-43), 3) := by decide +kernel
theorem d_Trip_pass_118 : decode (mCd M_Trip_pass) 118 = .ok (.aload_n 1, 1) := by decide +kernel
theorem d_Trip_pass_119 : decode (mCd M_Trip_pass) 119 = .ok (.dup, 1) := by decide +kernel
theorem d_Trip_pass_120 : decode (mCd M_Trip_pass) 120 = .ok (.getfield 77, 3) := by decide +kernel
theorem d_Trip_pass_123 : decode (mCd M_Trip_pass) 123 = .ok (.iconst 1, 1) := by decide +kernel
theorem d_Trip_pass_124 : decode (mCd M_Trip_pass) 124 = .ok (.iadd, 1) := by decide +kernel
theorem d_Trip_pass_125 : decode (mCd M_Trip_pass) 125 = .ok (.putfield 77, 3) := by decide +kernel
theorem d_Trip_pass_128 : decode (mCd M_Trip_pass) 128 = .ok (.iinc 4 1, 3) := by decide +kernel
theorem d_Trip_pass_131 : decode (mCd M_Trip_pass) 131 = .ok (.goto (-103), 3) := by decide +kernel
theorem d_Trip_pass_134 : decode (mCd M_Trip_pass) 134 = .ok (.return_, 1) := by decide +kernel
theorem d_Trip_move_0 : decode (mCd M_Trip_move) 0 = .ok (.iload_n 2, 1) := by decide +kernel
theorem d_Trip_move_1 : decode (mCd M_Trip_move) 1 = .ok (.bipush (-2), 2) := by decide +kernel
theorem d_Trip_move_3 : decode (mCd M_Trip_move) 3 = .ok (.if_icmp .ne 16, 3) := by decide +kernel
theorem d_Trip_move_6 : decode (mCd M_Trip_move) 6 = .ok (.aload_n 0, 1) := by decide +kernel
theorem d_Trip_move_7 : decode (mCd M_Trip_move) 7 = .ok (.dup, 1) := by decide +kernel
theorem d_Trip_move_8 : decode (mCd M_Trip_move) 8 = .ok (.getfield 18, 3) := by decide +kernel
theorem d_Trip_move_11 : decode (mCd M_Trip_move) 11 = .ok (.iconst 1, 1) := by decide +kernel
theorem d_Trip_move_12 : decode (mCd M_Trip_move) 12 = .ok (.iadd, 1) := by decide +kernel
theorem d_Trip_move_13 : decode (mCd M_Trip_move) 13 = .ok (.putfield 18, 3) := by decide +kernel
theorem d_Trip_move_16 : decode (mCd M_Trip_move) 16 = .ok (.goto 19, 3) := by decide +kernel
theorem d_Trip_move_19 : decode (mCd M_Trip_move) 19 = .ok (.aload_n 1, 1) := by decide +kernel
theorem d_Trip_move_20 : decode (mCd M_Trip_move) 20 = .ok (.aload_n 0, 1) := by decide +kernel
theorem d_Trip_move_21 : decode (mCd M_Trip_move) 21 = .ok (.getfield 27, 3) := by decide +kernel
theorem d_Trip_move_24 : decode (mCd M_Trip_move) 24 = .ok (.aload_n 1, 1) := by decide +kernel
theorem d_Trip_move_25 : decode (mCd M_Trip_move) 25 = .ok (.getfield 49, 3) := by decide +kernel
theorem d_Trip_move_28 : decode (mCd M_Trip_move) 28 = .ok (.iload_n 2, 1) := by decide +kernel
theorem d_Trip_move_29 : decode (mCd M_Trip_move) 29 = .ok (.invokevirtual 80, 3) := by decide +kernel
theorem d_Trip_move_32 : decode (mCd M_Trip_move) 32 = .ok (.putfield 49, 3) := by decide +kernel
theorem d_Trip_move_35 : decode (mCd M_Trip_move) 35 = .ok (.return_, 1) := by decide +kernel
theorem d_Trip_tire_0 : decode (mCd M_Trip_tire) 0 = .ok (.aload_n 0, 1) := by decide +kernel
theorem d_Trip_tire_1 : decode (mCd M_Trip_tire) 1 = .ok (.getfield 35, 3) := by decide +kernel
theorem d_Trip_tire_4 : decode (mCd M_Trip_tire) 4 = .ok (.getfield 86, 3) := by decide +kernel
theorem d_Trip_tire_7 : decode (mCd M_Trip_tire) 7 = .ok (.iload_n 2, 1) := by decide +kernel
theorem d_Trip_tire_8 : decode (mCd M_Trip_tire) 8 = .ok (.iaload, 1) := by decide +kernel
theorem d_Trip_tire_9 : decode (mCd M_Trip_tire) 9 = .ok (.ifCond .le 7, 3) := by decide +kernel
theorem d_Trip_tire_12 : decode (mCd M_Trip_tire) 12 = .ok (.iconst 1, 1) := by decide +kernel
theorem d_Trip_tire_13 : decode (mCd M_Trip_tire) 13 = .ok (.goto 4, 3) := by decide +kernel
theorem d_Trip_tire_16 : decode (mCd M_Trip_tire) 16 = .ok (.iconst (-1), 1) := by decide +kernel
theorem d_Trip_tire_17 : decode (mCd M_Trip_tire) 17 = .ok (.istore_n 3, 1) := by decide +kernel
theorem d_Trip_tire_18 : decode (mCd M_Trip_tire) 18 = .ok (.aload_n 1, 1) := by decide +kernel
theorem d_Trip_tire_19 : decode (mCd M_Trip_tire) 19 = .ok (.getfield 89, 3) := by decide +kernel
theorem d_Trip_tire_22 : decode (mCd M_Trip_tire) 22 = .ok (.iload_n 2, 1) := by decide +kernel
theorem d_Trip_tire_23 : decode (mCd M_Trip_tire) 23 = .ok (.iconst 0, 1) := by decide +kernel
theorem d_Trip_tire_24 : decode (mCd M_Trip_tire) 24 = .ok (.bipush 9, 2) := by decide +kernel
theorem d_Trip_tire_26 : decode (mCd M_Trip_tire) 26 = .ok (.aload_n 1, 1) := by decide +kernel
theorem d_Trip_tire_27 : decode (mCd M_Trip_tire) 27 = .ok (.getfield 89, 3) := by decide +kernel
theorem d_Trip_tire_30 : decode (mCd M_Trip_tire) 30 = .ok (.iload_n 2, 1) := by decide +kernel
theorem d_Trip_tire_31 : decode (mCd M_Trip_tire) 31 = .ok (.iaload, 1) := by decide +kernel
theorem d_Trip_tire_32 : decode (mCd M_Trip_tire) 32 = .ok (.iload_n 3, 1) := by decide +kernel
theorem d_Trip_tire_33 : decode (mCd M_Trip_tire) 33 = .ok (.iadd, 1) := by decide +kernel
theorem d_Trip_tire_34 : decode (mCd M_Trip_tire) 34 = .ok (.invokestatic 92, 3) := by decide +kernel
theorem d_Trip_tire_37 : decode (mCd M_Trip_tire) 37 = .ok (.invokestatic 97, 3) := by decide +kernel
theorem d_Trip_tire_40 : decode (mCd M_Trip_tire) 40 = .ok (.iastore, 1) := by decide +kernel
theorem d_Trip_tire_41 : decode (mCd M_Trip_tire) 41 = .ok (.return_, 1) := by decide +kernel
theorem d_Trip_reward_0 : decode (mCd M_Trip_reward) 0 = .ok (.aload_n 1, 1) := by decide +kernel
theorem d_Trip_reward_1 : decode (mCd M_Trip_reward) 1 = .ok (.getfield 100, 3) := by decide +kernel
theorem d_Trip_reward_4 : decode (mCd M_Trip_reward) 4 = .ok (.aload_n 1, 1) := by decide +kernel
theorem d_Trip_reward_5 : decode (mCd M_Trip_reward) 5 = .ok (.getfield 103, 3) := by decide +kernel
theorem d_Trip_reward_8 : decode (mCd M_Trip_reward) 8 = .ok (.iload_n 2, 1) := by decide +kernel
theorem d_Trip_reward_9 : decode (mCd M_Trip_reward) 9 = .ok (.iaload, 1) := by decide +kernel
theorem d_Trip_reward_10 : decode (mCd M_Trip_reward) 10 = .ok (.if_icmp .lt 78, 3) := by decide +kernel
theorem d_Trip_reward_13 : decode (mCd M_Trip_reward) 13 = .ok (.aload_n 1, 1) := by decide +kernel
theorem d_Trip_reward_14 : decode (mCd M_Trip_reward) 14 = .ok (.dup, 1) := by decide +kernel
theorem d_Trip_reward_15 : decode (mCd M_Trip_reward) 15 = .ok (.getfield 100, 3) := by decide +kernel
theorem d_Trip_reward_18 : decode (mCd M_Trip_reward) 18 = .ok (.aload_n 1, 1) := by decide +kernel
theorem d_Trip_reward_19 : decode (mCd M_Trip_reward) 19 = .ok (.getfield 103, 3) := by decide +kernel
theorem d_Trip_reward_22 : decode (mCd M_Trip_reward) 22 = .ok (.iload_n 2, 1) := by decide +kernel
theorem d_Trip_reward_23 : decode (mCd M_Trip_reward) 23 = .ok (.iaload, 1) := by decide +kernel
theorem d_Trip_reward_24 : decode (mCd M_Trip_reward) 24 = .ok (.isub, 1) := by decide +kernel
theorem d_Trip_reward_25 : decode (mCd M_Trip_reward) 25 = .ok (.putfield 100, 3) := by decide +kernel
theorem d_Trip_reward_28 : decode (mCd M_Trip_reward) 28 = .ok (.aload_n 1, 1) := by decide +kernel
theorem d_Trip_reward_29 : decode (mCd M_Trip_reward) 29 = .ok (.sipush 999, 3) := by decide +kernel
theorem d_Trip_reward_32 : decode (mCd M_Trip_reward) 32 = .ok (.aload_n 1, 1) := by decide +kernel
theorem d_Trip_reward_33 : decode (mCd M_Trip_reward) 33 = .ok (.getfield 106, 3) := by decide +kernel
theorem d_Trip_reward_36 : decode (mCd M_Trip_reward) 36 = .ok (.iconst 1, 1) := by decide +kernel
theorem d_Trip_reward_37 : decode (mCd M_Trip_reward) 37 = .ok (.iadd, 1) := by decide +kernel
theorem d_Trip_reward_38 : decode (mCd M_Trip_reward) 38 = .ok (.invokestatic 92, 3) := by decide +kernel
theorem d_Trip_reward_41 : decode (mCd M_Trip_reward) 41 = .ok (.putfield 106, 3) := by decide +kernel
theorem d_Trip_reward_44 : decode (mCd M_Trip_reward) 44 = .ok (.aload_n 1, 1) := by decide +kernel
theorem d_Trip_reward_45 : decode (mCd M_Trip_reward) 45 = .ok (.getfield 107, 3) := by decide +kernel
theorem d_Trip_reward_48 : decode (mCd M_Trip_reward) 48 = .ok (.iload_n 2, 1) := by decide +kernel
theorem d_Trip_reward_49 : decode (mCd M_Trip_reward) 49 = .ok (.bipush 9, 2) := by decide +kernel
theorem d_Trip_reward_51 : decode (mCd M_Trip_reward) 51 = .ok (.aload_n 1, 1) := by decide +kernel
theorem d_Trip_reward_52 : decode (mCd M_Trip_reward) 52 = .ok (.getfield 107, 3) := by decide +kernel
theorem d_Trip_reward_55 : decode (mCd M_Trip_reward) 55 = .ok (.iload_n 2, 1) := by decide +kernel
theorem d_Trip_reward_56 : decode (mCd M_Trip_reward) 56 = .ok (.iaload, 1) := by decide +kernel
theorem d_Trip_reward_57 : decode (mCd M_Trip_reward) 57 = .ok (.iconst 1, 1) := by decide +kernel
theorem d_Trip_reward_58 : decode (mCd M_Trip_reward) 58 = .ok (.iadd, 1) := by decide +kernel
theorem d_Trip_reward_59 : decode (mCd M_Trip_reward) 59 = .ok (.invokestatic 92, 3) := by decide +kernel
theorem d_Trip_reward_62 : decode (mCd M_Trip_reward) 62 = .ok (.iastore, 1) := by decide +kernel
theorem d_Trip_reward_63 : decode (mCd M_Trip_reward) 63 = .ok (.aload_n 0, 1) := by decide +kernel
theorem d_Trip_reward_64 : decode (mCd M_Trip_reward) 64 = .ok (.dup, 1) := by decide +kernel
theorem d_Trip_reward_65 : decode (mCd M_Trip_reward) 65 = .ok (.getfield 9, 3) := by decide +kernel
theorem d_Trip_reward_68 : decode (mCd M_Trip_reward) 68 = .ok (.iconst 1, 1) := by decide +kernel
theorem d_Trip_reward_69 : decode (mCd M_Trip_reward) 69 = .ok (.iadd, 1) := by decide +kernel
theorem d_Trip_reward_70 : decode (mCd M_Trip_reward) 70 = .ok (.putfield 9, 3) := by decide +kernel
theorem d_Trip_reward_73 : decode (mCd M_Trip_reward) 73 = .ok (.aload_n 0, 1) := by decide +kernel
theorem d_Trip_reward_74 : decode (mCd M_Trip_reward) 74 = .ok (.dup, 1) := by decide +kernel
theorem d_Trip_reward_75 : decode (mCd M_Trip_reward) 75 = .ok (.getfield 21, 3) := by decide +kernel
theorem d_Trip_reward_78 : decode (mCd M_Trip_reward) 78 = .ok (.iconst 1, 1) := by decide +kernel
theorem d_Trip_reward_79 : decode (mCd M_Trip_reward) 79 = .ok (.iload_n 2, 1) := by decide +kernel
theorem d_Trip_reward_80 : decode (mCd M_Trip_reward) 80 = .ok (.ishl, 1) := by decide +kernel
theorem d_Trip_reward_81 : decode (mCd M_Trip_reward) 81 = .ok (.ior, 1) := by decide +kernel
theorem d_Trip_reward_82 : decode (mCd M_Trip_reward) 82 = .ok (.putfield 21, 3) := by decide +kernel
theorem d_Trip_reward_85 : decode (mCd M_Trip_reward) 85 = .ok (.goto 48, 3) := by decide +kernel
theorem d_Trip_reward_88 : decode (mCd M_Trip_reward) 88 = .ok (.aload_n 1, 1) := by decide +kernel
theorem d_Trip_reward_89 : decode (mCd M_Trip_reward) 89 = .ok (.sipush 999, 3) := by decide +kernel
theorem d_Trip_reward_92 : decode (mCd M_Trip_reward) 92 = .ok (.aload_n 1, 1) := by decide +kernel
theorem d_Trip_reward_93 : decode (mCd M_Trip_reward) 93 = .ok (.getfield 110, 3) := by decide +kernel
theorem d_Trip_reward_96 : decode (mCd M_Trip_reward) 96 = .ok (.iconst 1, 1) := by decide +kernel
theorem d_Trip_reward_97 : decode (mCd M_Trip_reward) 97 = .ok (.iadd, 1) := by decide +kernel
theorem d_Trip_reward_98 : decode (mCd M_Trip_reward) 98 = .ok (.invokestatic 92, 3) := by decide +kernel
theorem d_Trip_reward_101 : decode (mCd M_Trip_reward) 101 = .ok (.putfield 110, 3) := by decide +kernel
theorem d_Trip_reward_104 : decode (mCd M_Trip_reward) 104 = .ok (.aload_n 1, 1) := by decide +kernel
theorem d_Trip_reward_105 : decode (mCd M_Trip_reward) 105 = .ok (.getfield 107, 3) := by decide +kernel
theorem d_Trip_reward_108 : decode (mCd M_Trip_reward) 108 = .ok (.iload_n 2, 1) := by decide +kernel
theorem d_Trip_reward_109 : decode (mCd M_Trip_reward) 109 = .ok (.iconst 0, 1) := by decide +kernel
theorem d_Trip_reward_110 : decode (mCd M_Trip_reward) 110 = .ok (.iastore, 1) := by decide +kernel
theorem d_Trip_reward_111 : decode (mCd M_Trip_reward) 111 = .ok (.aload_n 0, 1) := by decide +kernel
theorem d_Trip_reward_112 : decode (mCd M_Trip_reward) 112 = .ok (.dup, 1) := by decide +kernel
theorem d_Trip_reward_113 : decode (mCd M_Trip_reward) 113 = .ok (.getfield 15, 3) := by decide +kernel
theorem d_Trip_reward_116 : decode (mCd M_Trip_reward) 116 = .ok (.iconst 1, 1) := by decide +kernel
theorem d_Trip_reward_117 : decode (mCd M_Trip_reward) 117 = .ok (.iadd, 1) := by decide +kernel
theorem d_Trip_reward_118 : decode (mCd M_Trip_reward) 118 = .ok (.putfield 15, 3) := by decide +kernel
theorem d_Trip_reward_121 : decode (mCd M_Trip_reward) 121 = .ok (.aload_n 0, 1) := by decide +kernel
theorem d_Trip_reward_122 : decode (mCd M_Trip_reward) 122 = .ok (.dup, 1) := by decide +kernel
theorem d_Trip_reward_123 : decode (mCd M_Trip_reward) 123 = .ok (.getfield 24, 3) := by decide +kernel
theorem d_Trip_reward_126 : decode (mCd M_Trip_reward) 126 = .ok (.iconst 1, 1) := by decide +kernel
theorem d_Trip_reward_127 : decode (mCd M_Trip_reward) 127 = .ok (.iload_n 2, 1) := by decide +kernel
theorem d_Trip_reward_128 : decode (mCd M_Trip_reward) 128 = .ok (.ishl, 1) := by decide +kernel
theorem d_Trip_reward_129 : decode (mCd M_Trip_reward) 129 = .ok (.ior, 1) := by decide +kernel
theorem d_Trip_reward_130 : decode (mCd M_Trip_reward) 130 = .ok (.putfield 24, 3) := by decide +kernel
theorem d_Trip_reward_133 : decode (mCd M_Trip_reward) 133 = .ok (.aload_n 1, 1) := by decide +kernel
theorem d_Trip_reward_134 : decode (mCd M_Trip_reward) 134 = .ok (.getfield 70, 3) := by decide +kernel
theorem d_Trip_reward_137 : decode (mCd M_Trip_reward) 137 = .ok (.iload_n 2, 1) := by decide +kernel
theorem d_Trip_reward_138 : decode (mCd M_Trip_reward) 138 = .ok (.iconst (-1), 1) := by decide +kernel
theorem d_Trip_reward_139 : decode (mCd M_Trip_reward) 139 = .ok (.iastore, 1) := by decide +kernel
theorem d_Trip_reward_140 : decode (mCd M_Trip_reward) 140 = .ok (.return_, 1) := by decide +kernel
theorem d_Tug_init_0 : decode (mCd M_Tug_init) 0 = .ok (.aload_n 0, 1) := by decide +kernel
theorem d_Tug_init_1 : decode (mCd M_Tug_init) 1 = .ok (.invokespecial 3, 3) := by decide +kernel
theorem d_Tug_init_4 : decode (mCd M_Tug_init) 4 = .ok (.aload_n 0, 1) := by decide +kernel
theorem d_Tug_init_5 : decode (mCd M_Tug_init) 5 = .ok (.bipush 8, 2) := by decide +kernel
theorem d_Tug_init_7 : decode (mCd M_Tug_init) 7 = .ok (.newarray .int, 2) := by decide +kernel
theorem d_Tug_init_9 : decode (mCd M_Tug_init) 9 = .ok (.putfield 9, 3) := by decide +kernel
theorem d_Tug_init_12 : decode (mCd M_Tug_init) 12 = .ok (.aload_n 0, 1) := by decide +kernel
theorem d_Tug_init_13 : decode (mCd M_Tug_init) 13 = .ok (.bipush 8, 2) := by decide +kernel
theorem d_Tug_init_15 : decode (mCd M_Tug_init) 15 = .ok (.newarray .int, 2) := by decide +kernel
theorem d_Tug_init_17 : decode (mCd M_Tug_init) 17 = .ok (.putfield 15, 3) := by decide +kernel
theorem d_Tug_init_20 : decode (mCd M_Tug_init) 20 = .ok (.aload_n 0, 1) := by decide +kernel
theorem d_Tug_init_21 : decode (mCd M_Tug_init) 21 = .ok (.bipush 8, 2) := by decide +kernel
theorem d_Tug_init_23 : decode (mCd M_Tug_init) 23 = .ok (.newarray .int, 2) := by decide +kernel
theorem d_Tug_init_25 : decode (mCd M_Tug_init) 25 = .ok (.putfield 18, 3) := by decide +kernel
theorem d_Tug_init_28 : decode (mCd M_Tug_init) 28 = .ok (.aload_n 0, 1) := by decide +kernel
theorem d_Tug_init_29 : decode (mCd M_Tug_init) 29 = .ok (.iconst 4, 1) := by decide +kernel
theorem d_Tug_init_30 : decode (mCd M_Tug_init) 30 = .ok (.newarray .int, 2) := by decide +kernel
theorem d_Tug_init_32 : decode (mCd M_Tug_init) 32 = .ok (.putfield 21, 3) := by decide +kernel
theorem d_Tug_init_35 : decode (mCd M_Tug_init) 35 = .ok (.aload_n 0, 1) := by decide +kernel
theorem d_Tug_init_36 : decode (mCd M_Tug_init) 36 = .ok (.aload_n 1, 1) := by decide +kernel
theorem d_Tug_init_37 : decode (mCd M_Tug_init) 37 = .ok (.putfield 24, 3) := by decide +kernel
theorem d_Tug_init_40 : decode (mCd M_Tug_init) 40 = .ok (.aload_n 0, 1) := by decide +kernel
theorem d_Tug_init_41 : decode (mCd M_Tug_init) 41 = .ok (.aload_n 2, 1) := by decide +kernel
theorem d_Tug_init_42 : decode (mCd M_Tug_init) 42 = .ok (.putfield 28, 3) := by decide +kernel
theorem d_Tug_init_45 : decode (mCd M_Tug_init) 45 = .ok (.aload_n 0, 1) := by decide +kernel
theorem d_Tug_init_46 : decode (mCd M_Tug_init) 46 = .ok (.aload_n 3, 1) := by decide +kernel
theorem d_Tug_init_47 : decode (mCd M_Tug_init) 47 = .ok (.putfield 32, 3) := by decide +kernel
theorem d_Tug_init_50 : decode (mCd M_Tug_init) 50 = .ok (.return_, 1) := by decide +kernel
theorem d_Tug_measure_0 : decode (mCd M_Tug_measure) 0 = .ok (.aload_n 0, 1) := by decide +kernel
theorem d_Tug_measure_1 : decode (mCd M_Tug_measure) 1 = .ok (.getfield 32, 3) := by decide +kernel
theorem d_Tug_measure_4 : decode (mCd M_Tug_measure) 4 = .ok (.aload_n 1, 1) := by decide +kernel
theorem d_Tug_measure_5 : decode (mCd M_Tug_measure) 5 = .ok (.getfield 36, 3) := by decide +kernel
theorem d_Tug_measure_8 : decode (mCd M_Tug_measure) 8 = .ok (.invokevirtual 42, 3) := by decide +kernel
theorem d_Tug_measure_11 : decode (mCd M_Tug_measure) 11 = .ok (.bipush 16, 2) := by decide +kernel
theorem d_Tug_measure_13 : decode (mCd M_Tug_measure) 13 = .ok (.ishl, 1) := by decide +kernel
theorem d_Tug_measure_14 : decode (mCd M_Tug_measure) 14 = .ok (.aload_n 1, 1) := by decide +kernel
theorem d_Tug_measure_15 : decode (mCd M_Tug_measure) 15 = .ok (.getfield 36, 3) := by decide +kernel
theorem d_Tug_measure_18 : decode (mCd M_Tug_measure) 18 = .ok (.bipush 7, 2) := by decide +kernel
theorem d_Tug_measure_20 : decode (mCd M_Tug_measure) 20 = .ok (.invokestatic 48, 3) := by decide +kernel
theorem d_Tug_measure_23 : decode (mCd M_Tug_measure) 23 = .ok (.bipush 20, 2) := by decide +kernel
theorem d_Tug_measure_25 : decode (mCd M_Tug_measure) 25 = .ok (.ishl, 1) := by decide +kernel
theorem d_Tug_measure_26 : decode (mCd M_Tug_measure) 26 = .ok (.ior, 1) := by decide +kernel
theorem d_Tug_measure_27 : decode (mCd M_Tug_measure) 27 = .ok (.istore_n 3, 1) := by decide +kernel
theorem d_Tug_measure_28 : decode (mCd M_Tug_measure) 28 = .ok (.iconst 0, 1) := by decide +kernel
theorem d_Tug_measure_29 : decode (mCd M_Tug_measure) 29 = .ok (.istore 4, 2) := by decide +kernel
theorem d_Tug_measure_31 : decode (mCd M_Tug_measure) 31 = .ok (.iload 4, 2) := by decide +kernel
theorem d_Tug_measure_33 : decode (mCd M_Tug_measure) 33 = .ok (.aload_n 0, 1) := by decide +kernel
theorem d_Tug_measure_34 : decode (mCd M_Tug_measure) 34 = .ok (.getfield 28, 3) := by decide +kernel
theorem d_Tug_measure_37 : decode (mCd M_Tug_measure) 37 = .ok (.getfield 54, 3) := by decide +kernel
theorem d_Tug_measure_40 : decode (mCd M_Tug_measure) 40 = .ok (.if_icmp .ge 201, 3) := by decide +kernel
theorem d_Tug_measure_43 : decode (mCd M_Tug_measure) 43 = .ok (.aload_n 0, 1) := by decide +kernel
theorem d_Tug_measure_44 : decode (mCd M_Tug_measure) 44 = .ok (.getfield 9, 3) := by decide +kernel
theorem d_Tug_measure_47 : decode (mCd M_Tug_measure) 47 = .ok (.iload 4, 2) := by decide +kernel
theorem d_Tug_measure_49 : decode (mCd M_Tug_measure) 49 = .ok (.iconst 0, 1) := by decide +kernel
theorem d_Tug_measure_50 : decode (mCd M_Tug_measure) 50 = .ok (.iastore, 1) := by decide +kernel
theorem d_Tug_measure_51 : decode (mCd M_Tug_measure) 51 = .ok (.aload_n 1, 1) := by decide +kernel
theorem d_Tug_measure_52 : decode (mCd M_Tug_measure) 52 = .ok (.getfield 59, 3) := by decide +kernel
theorem d_Tug_measure_55 : decode (mCd M_Tug_measure) 55 = .ok (.iload 4, 2) := by decide +kernel
theorem d_Tug_measure_57 : decode (mCd M_Tug_measure) 57 = .ok (.iaload, 1) := by decide +kernel
theorem d_Tug_measure_58 : decode (mCd M_Tug_measure) 58 = .ok (.istore 5, 2) := by decide +kernel
theorem d_Tug_measure_60 : decode (mCd M_Tug_measure) 60 = .ok (.iload 5, 2) := by decide +kernel
theorem d_Tug_measure_62 : decode (mCd M_Tug_measure) 62 = .ok (.iconst (-1), 1) := by decide +kernel
theorem d_Tug_measure_63 : decode (mCd M_Tug_measure) 63 = .ok (.if_icmp .eq 172, 3) := by decide +kernel
theorem d_Tug_measure_66 : decode (mCd M_Tug_measure) 66 = .ok (.iload 5, 2) := by decide +kernel
theorem d_Tug_measure_68 : decode (mCd M_Tug_measure) 68 = .ok (.aload_n 1, 1) := by decide +kernel
theorem d_Tug_measure_69 : decode (mCd M_Tug_measure) 69 = .ok (.getfield 62, 3) := by decide +kernel
theorem d_Tug_measure_72 : decode (mCd M_Tug_measure) 72 = .ok (.if_icmp .eq 163, 3) := by decide +kernel
theorem d_Tug_measure_75 : decode (mCd M_Tug_measure) 75 = .ok (.aload_n 1, 1) := by decide +kernel
theorem d_Tug_measure_76 : decode (mCd M_Tug_measure) 76 = .ok (.iload 4, 2) := by decide +kernel
theorem d_Tug_measure_78 : decode (mCd M_Tug_measure) 78 = .ok (.invokevirtual 65, 3) := by decide +kernel
theorem d_Tug_measure_81 : decode (mCd M_Tug_measure) 81 = .ok (.ifCond .ne 6, 3) := by decide +kernel
theorem d_Tug_measure_84 : decode (mCd M_Tug_measure) 84 = .ok (.goto 151, 3) := by decide +kernel
theorem d_Tug_measure_87 : decode (mCd M_Tug_measure) 87 = .ok (.aload_n 0, 1) := by decide +kernel
theorem d_Tug_measure_88 : decode (mCd M_Tug_measure) 88 = .ok (.getfield 24, 3) := by decide +kernel
theorem d_Tug_measure_91 : decode (mCd M_Tug_measure) 91 = .ok (.iload 5, 2) := by decide +kernel
theorem d_Tug_measure_93 : decode (mCd M_Tug_measure) 93 = .ok (.invokevirtual 69, 3) := by decide +kernel
theorem d_Tug_measure_96 : decode (mCd M_Tug_measure) 96 = .ok (.aload_n 0, 1) := by decide +kernel
theorem d_Tug_measure_97 : decode (mCd M_Tug_measure) 97 = .ok (.getfield 24, 3) := by decide +kernel
theorem d_Tug_measure_100 : decode (mCd M_Tug_measure) 100 = .ok (.aload_n 1, 1) := by decide +kernel
theorem d_Tug_measure_101 : decode (mCd M_Tug_measure) 101 = .ok (.getfield 62, 3) := by decide +kernel
theorem d_Tug_measure_104 : decode (mCd M_Tug_measure) 104 = .ok (.invokevirtual 69, 3) := by decide +kernel
theorem d_Tug_measure_107 : decode (mCd M_Tug_measure) 107 = .ok (.isub, 1) := by decide +kernel
theorem d_Tug_measure_108 : decode (mCd M_Tug_measure) 108 = .ok (.istore 6, 2) := by decide +kernel
theorem d_Tug_measure_110 : decode (mCd M_Tug_measure) 110 = .ok (.aload_n 0, 1) := by decide +kernel
theorem d_Tug_measure_111 : decode (mCd M_Tug_measure) 111 = .ok (.getfield 24, 3) := by decide +kernel
theorem d_Tug_measure_114 : decode (mCd M_Tug_measure) 114 = .ok (.iload 5, 2) := by decide +kernel
theorem d_Tug_measure_116 : decode (mCd M_Tug_measure) 116 = .ok (.invokevirtual 74, 3) := by decide +kernel
theorem d_Tug_measure_119 : decode (mCd M_Tug_measure) 119 = .ok (.aload_n 0, 1) := by decide +kernel
theorem d_Tug_measure_120 : decode (mCd M_Tug_measure) 120 = .ok (.getfield 24, 3) := by decide +kernel
theorem d_Tug_measure_123 : decode (mCd M_Tug_measure) 123 = .ok (.aload_n 1, 1) := by decide +kernel
theorem d_Tug_measure_124 : decode (mCd M_Tug_measure) 124 = .ok (.getfield 62, 3) := by decide +kernel
theorem d_Tug_measure_127 : decode (mCd M_Tug_measure) 127 = .ok (.invokevirtual 74, 3) := by decide +kernel
theorem d_Tug_measure_130 : decode (mCd M_Tug_measure) 130 = .ok (.isub, 1) := by decide +kernel
theorem d_Tug_measure_131 : decode (mCd M_Tug_measure) 131 = .ok (.istore 7, 2) := by decide +kernel
theorem d_Tug_measure_133 : decode (mCd M_Tug_measure) 133 = .ok (.iload 6, 2) := by decide +kernel
theorem d_Tug_measure_135 : decode (mCd M_Tug_measure) 135 = .ok (.invokestatic 77, 3) := by decide +kernel
theorem d_Tug_measure_138 : decode (mCd M_Tug_measure) 138 = .ok (.iload 7, 2) := by decide +kernel
theorem d_Tug_measure_140 : decode (mCd M_Tug_measure) 140 = .ok (.invokestatic 77, 3) := by decide +kernel
theorem d_Tug_measure_143 : decode (mCd M_Tug_measure) 143 = .ok (.iadd, 1) := by decide +kernel
theorem d_Tug_measure_144 : decode (mCd M_Tug_measure) 144 = .ok (.istore 8, 2) := by decide +kernel
theorem d_Tug_measure_146 : decode (mCd M_Tug_measure) 146 = .ok (.aload_n 0, 1) := by decide +kernel
theorem d_Tug_measure_147 : decode (mCd M_Tug_measure) 147 = .ok (.getfield 28, 3) := by decide +kernel
theorem d_Tug_measure_150 : decode (mCd M_Tug_measure) 150 = .ok (.getfield 80, 3) := by decide +kernel
theorem d_Tug_measure_153 : decode (mCd M_Tug_measure) 153 = .ok (.iload 4, 2) := by decide +kernel
theorem d_Tug_measure_155 : decode (mCd M_Tug_measure) 155 = .ok (.iaload, 1) := by decide +kernel
theorem d_Tug_measure_156 : decode (mCd M_Tug_measure) 156 = .ok (.aload_n 1, 1) := by decide +kernel
theorem d_Tug_measure_157 : decode (mCd M_Tug_measure) 157 = .ok (.getfield 83, 3) := by decide +kernel
theorem d_Tug_measure_160 : decode (mCd M_Tug_measure) 160 = .ok (.iload 4, 2) := by decide +kernel
theorem d_Tug_measure_162 : decode (mCd M_Tug_measure) 162 = .ok (.iaload, 1) := by decide +kernel
theorem d_Tug_measure_163 : decode (mCd M_Tug_measure) 163 = .ok (.iconst 4, 1) := by decide +kernel
theorem d_Tug_measure_164 : decode (mCd M_Tug_measure) 164 = .ok (.ishl, 1) := by decide +kernel
theorem d_Tug_measure_165 : decode (mCd M_Tug_measure) 165 = .ok (.ior, 1) := by decide +kernel
theorem d_Tug_measure_166 : decode (mCd M_Tug_measure) 166 = .ok (.aload_n 1, 1) := by decide +kernel
theorem d_Tug_measure_167 : decode (mCd M_Tug_measure) 167 = .ok (.getfield 86, 3) := by decide +kernel
theorem d_Tug_measure_170 : decode (mCd M_Tug_measure) 170 = .ok (.iload 4, 2) := by decide +kernel
theorem d_Tug_measure_172 : decode (mCd M_Tug_measure) 172 = .ok (.iaload, 1) := by decide +kernel
theorem d_Tug_measure_173 : decode (mCd M_Tug_measure) 173 = .ok (.bipush 8, 2) := by decide +kernel
theorem d_Tug_measure_175 : decode (mCd M_Tug_measure) 175 = .ok (.ishl, 1) := by decide +kernel
theorem d_Tug_measure_176 : decode (mCd M_Tug_measure) 176 = .ok (.ior, 1) := by decide +kernel
theorem d_Tug_measure_177 : decode (mCd M_Tug_measure) 177 = .ok (.aload_n 1, 1) := by decide +kernel
theorem d_Tug_measure_178 : decode (mCd M_Tug_measure) 178 = .ok (.getfield 89, 3) := by decide +kernel
theorem d_Tug_measure_181 : decode (mCd M_Tug_measure) 181 = .ok (.iload 4, 2) := by decide +kernel
theorem d_Tug_measure_183 : decode (mCd M_Tug_measure) 183 = .ok (.iaload, 1) := by decide +kernel
theorem d_Tug_measure_184 : decode (mCd M_Tug_measure) 184 = .ok (.bipush 12, 2) := by decide +kernel
theorem d_Tug_measure_186 : decode (mCd M_Tug_measure) 186 = .ok (.ishl, 1) := by decide +kernel
theorem d_Tug_measure_187 : decode (mCd M_Tug_measure) 187 = .ok (.ior, 1) := by decide +kernel
theorem d_Tug_measure_188 : decode (mCd M_Tug_measure) 188 = .ok (.iload_n 3, 1) := by decide +kernel
theorem d_Tug_measure_189 : decode (mCd M_Tug_measure) 189 = .ok (.ior, 1) := by decide +kernel
theorem d_Tug_measure_190 : decode (mCd M_Tug_measure) 190 = .ok (.aload_n 0, 1) := by decide +kernel
theorem d_Tug_measure_191 : decode (mCd M_Tug_measure) 191 = .ok (.getfield 28, 3) := by decide +kernel
theorem d_Tug_measure_194 : decode (mCd M_Tug_measure) 194 = .ok (.getfield 92, 3) := by decide +kernel
theorem d_Tug_measure_197 : decode (mCd M_Tug_measure) 197 = .ok (.iload 4, 2) := by decide +kernel
theorem d_Tug_measure_199 : decode (mCd M_Tug_measure) 199 = .ok (.iaload, 1) := by decide +kernel
theorem d_Tug_measure_200 : decode (mCd M_Tug_measure) 200 = .ok (.bipush 23, 2) := by decide +kernel
theorem d_Tug_measure_202 : decode (mCd M_Tug_measure) 202 = .ok (.ishl, 1) := by decide +kernel
theorem d_Tug_measure_203 : decode (mCd M_Tug_measure) 203 = .ok (.ior, 1) := by decide +kernel
theorem d_Tug_measure_204 : decode (mCd M_Tug_measure) 204 = .ok (.iload 8, 2) := by decide +kernel
theorem d_Tug_measure_206 : decode (mCd M_Tug_measure) 206 = .ok (.bipush 25, 2) := by decide +kernel
theorem d_Tug_measure_208 : decode (mCd M_Tug_measure) 208 = .ok (.ishl, 1) := by decide +kernel
theorem d_Tug_measure_209 : decode (mCd M_Tug_measure) 209 = .ok (.ior, 1) := by decide +kernel
theorem d_Tug_measure_210 : decode (mCd M_Tug_measure) 210 = .ok (.istore 9, 2) := by decide +kernel
theorem d_Tug_measure_212 : decode (mCd M_Tug_measure) 212 = .ok (.aload_n 0, 1) := by decide +kernel
theorem d_Tug_measure_213 : decode (mCd M_Tug_measure) 213 = .ok (.getfield 9, 3) := by decide +kernel
theorem d_Tug_measure_216 : decode (mCd M_Tug_measure) 216 = .ok (.iload 4, 2) := by decide +kernel
theorem d_Tug_measure_218 : decode (mCd M_Tug_measure) 218 = .ok (.aload_n 2, 1) := by decide +kernel
theorem d_Tug_measure_219 : decode (mCd M_Tug_measure) 219 = .ok (.iload 9, 2) := by decide +kernel
theorem d_Tug_measure_221 : decode (mCd M_Tug_measure) 221 = .ok (.invokevirtual 95, 3) := by decide +kernel
theorem d_Tug_measure_224 : decode (mCd M_Tug_measure) 224 = .ok (.iastore, 1) := by decide +kernel
theorem d_Tug_measure_225 : decode (mCd M_Tug_measure) 225 = .ok (.aload_n 0, 1) := by decide +kernel
theorem d_Tug_measure_226 : decode (mCd M_Tug_measure) 226 = .ok (.iload 4, 2) := by decide +kernel
theorem d_Tug_measure_228 : decode (mCd M_Tug_measure) 228 = .ok (.iload 6, 2) := by decide +kernel
theorem d_Tug_measure_230 : decode (mCd M_Tug_measure) 230 = .ok (.iload 7, 2) := by decide +kernel
theorem d_Tug_measure_232 : decode (mCd M_Tug_measure) 232 = .ok (.invokevirtual 100, 3) := by decide +kernel
theorem d_Tug_measure_235 : decode (mCd M_Tug_measure) 235 = .ok (.iinc 4 1, 3) := by decide +kernel
theorem d_Tug_measure_238 : decode (mCd M_Tug_measure) 238 = .ok (.goto (-207), 3) := by decide +kernel
theorem d_Tug_measure_241 : decode (mCd M_Tug_measure) 241 = .ok (.return_, 1) := by decide +kernel
theorem d_Tug_head_0 : decode (mCd M_Tug_head) 0 = .ok (.iload_n 2, 1) := by decide +kernel
theorem d_Tug_head_1 : decode (mCd M_Tug_head) 1 = .ok (.ifCond .ge 7, 3) := by decide +kernel
theorem d_Tug_head_4 : decode (mCd M_Tug_head) 4 = .ok (.iconst 0, 1) := by decide +kernel
theorem d_Tug_head_5 : decode (mCd M_Tug_head) 5 = .ok (.goto 4, 3) := by decide +kernel
theorem d_Tug_head_8 : decode (mCd M_Tug_head) 8 = .ok (.iconst 2, 1) := by decide +kernel
theorem d_Tug_head_9 : decode (mCd M_Tug_head) 9 = .ok (.istore 4, 2) := by decide +kernel
theorem d_Tug_head_11 : decode (mCd M_Tug_head) 11 = .ok (.iload_n 3, 1) := by decide +kernel
theorem d_Tug_head_12 : decode (mCd M_Tug_head) 12 = .ok (.ifCond .ge 7, 3) := by decide +kernel
theorem d_Tug_head_15 : decode (mCd M_Tug_head) 15 = .ok (.iconst 3, 1) := by decide +kernel
theorem d_Tug_head_16 : decode (mCd M_Tug_head) 16 = .ok (.goto 4, 3) := by decide +kernel
theorem d_Tug_head_19 : decode (mCd M_Tug_head) 19 = .ok (.iconst 1, 1) := by decide +kernel
theorem d_Tug_head_20 : decode (mCd M_Tug_head) 20 = .ok (.istore 5, 2) := by decide +kernel
theorem d_Tug_head_22 : decode (mCd M_Tug_head) 22 = .ok (.iload_n 2, 1) := by decide +kernel
theorem d_Tug_head_23 : decode (mCd M_Tug_head) 23 = .ok (.invokestatic 77, 3) := by decide +kernel
theorem d_Tug_head_26 : decode (mCd M_Tug_head) 26 = .ok (.iload_n 3, 1) := by decide +kernel
theorem d_Tug_head_27 : decode (mCd M_Tug_head) 27 = .ok (.invokestatic 77, 3) := by decide +kernel
theorem d_Tug_head_30 : decode (mCd M_Tug_head) 30 = .ok (.isub, 1) := by decide +kernel
theorem d_Tug_head_31 : decode (mCd M_Tug_head) 31 = .ok (.istore 6, 2) := by decide +kernel
theorem d_Tug_head_33 : decode (mCd M_Tug_head) 33 = .ok (.aload_n 0, 1) := by decide +kernel
theorem d_Tug_head_34 : decode (mCd M_Tug_head) 34 = .ok (.getfield 28, 3) := by decide +kernel
theorem d_Tug_head_37 : decode (mCd M_Tug_head) 37 = .ok (.getfield 92, 3) := by decide +kernel
theorem d_Tug_head_40 : decode (mCd M_Tug_head) 40 = .ok (.iload_n 1, 1) := by decide +kernel
theorem d_Tug_head_41 : decode (mCd M_Tug_head) 41 = .ok (.iaload, 1) := by decide +kernel
theorem d_Tug_head_42 : decode (mCd M_Tug_head) 42 = .ok (.iconst 1, 1) := by decide +kernel
theorem d_Tug_head_43 : decode (mCd M_Tug_head) 43 = .ok (.if_icmp .ne 7, 3) := by decide +kernel
theorem d_Tug_head_46 : decode (mCd M_Tug_head) 46 = .ok (.iconst 2, 1) := by decide +kernel
theorem d_Tug_head_47 : decode (mCd M_Tug_head) 47 = .ok (.goto 4, 3) := by decide +kernel
theorem d_Tug_head_50 : decode (mCd M_Tug_head) 50 = .ok (.iconst 0, 1) := by decide +kernel
theorem d_Tug_head_51 : decode (mCd M_Tug_head) 51 = .ok (.istore 7, 2) := by decide +kernel
theorem d_Tug_head_53 : decode (mCd M_Tug_head) 53 = .ok (.aload_n 0, 1) := by decide +kernel
theorem d_Tug_head_54 : decode (mCd M_Tug_head) 54 = .ok (.getfield 15, 3) := by decide +kernel
theorem d_Tug_head_57 : decode (mCd M_Tug_head) 57 = .ok (.iload_n 1, 1) := by decide +kernel
theorem d_Tug_head_58 : decode (mCd M_Tug_head) 58 = .ok (.iload 6, 2) := by decide +kernel
theorem d_Tug_head_60 : decode (mCd M_Tug_head) 60 = .ok (.ifCond .lt 8, 3) := by decide +kernel
theorem d_Tug_head_63 : decode (mCd M_Tug_head) 63 = .ok (.iload 4, 2) := by decide +kernel
theorem d_Tug_head_65 : decode (mCd M_Tug_head) 65 = .ok (.goto 5, 3) := by decide +kernel
theorem d_Tug_head_68 : decode (mCd M_Tug_head) 68 = .ok (.iload 5, 2) := by decide +kernel
theorem d_Tug_head_70 : decode (mCd M_Tug_head) 70 = .ok (.iload 7, 2) := by decide +kernel
theorem d_Tug_head_72 : decode (mCd M_Tug_head) 72 = .ok (.iadd, 1) := by decide +kernel
theorem d_Tug_head_73 : decode (mCd M_Tug_head) 73 = .ok (.iconst 3, 1) := by decide +kernel
theorem d_Tug_head_74 : decode (mCd M_Tug_head) 74 = .ok (.iand, 1) := by decide +kernel
theorem d_Tug_head_75 : decode (mCd M_Tug_head) 75 = .ok (.iastore, 1) := by decide +kernel
theorem d_Tug_head_76 : decode (mCd M_Tug_head) 76 = .ok (.aload_n 0, 1) := by decide +kernel
theorem d_Tug_head_77 : decode (mCd M_Tug_head) 77 = .ok (.getfield 18, 3) := by decide +kernel
theorem d_Tug_head_80 : decode (mCd M_Tug_head) 80 = .ok (.iload_n 1, 1) := by decide +kernel
theorem d_Tug_head_81 : decode (mCd M_Tug_head) 81 = .ok (.iload 6, 2) := by decide +kernel
theorem d_Tug_head_83 : decode (mCd M_Tug_head) 83 = .ok (.ifCond .ne 21, 3) := by decide +kernel
theorem d_Tug_head_86 : decode (mCd M_Tug_head) 86 = .ok (.aload_n 0, 1) := by decide +kernel
theorem d_Tug_head_87 : decode (mCd M_Tug_head) 87 = .ok (.getfield 28, 3) := by decide +kernel
theorem d_Tug_head_90 : decode (mCd M_Tug_head) 90 = .ok (.getfield 92, 3) := by decide +kernel
theorem d_Tug_head_93 : decode (mCd M_Tug_head) 93 = .ok (.iload_n 1, 1) := by decide +kernel
theorem d_Tug_head_94 : decode (mCd M_Tug_head) 94 = .ok (.iaload, 1) := by decide +kernel
theorem d_Tug_head_95 : decode (mCd M_Tug_head) 95 = .ok (.iconst 3, 1) := by decide +kernel
theorem d_Tug_head_96 : decode (mCd M_Tug_head) 96 = .ok (.if_icmp .ne 8, 3) := by decide +kernel
theorem d_Tug_head_99 : decode (mCd M_Tug_head) 99 = .ok (.iload 5, 2) := by decide +kernel
theorem d_Tug_head_101 : decode (mCd M_Tug_head) 101 = .ok (.goto 4, 3) := by decide +kernel
theorem d_Tug_head_104 : decode (mCd M_Tug_head) 104 = .ok (.iconst (-1), 1) := by decide +kernel
theorem d_Tug_head_105 : decode (mCd M_Tug_head) 105 = .ok (.iastore, 1) := by decide +kernel
theorem d_Tug_head_106 : decode (mCd M_Tug_head) 106 = .ok (.return_, 1) := by decide +kernel
theorem d_Tug_headingOf_0 : decode (mCd M_Tug_headingOf) 0 = .ok (.aload_n 0, 1) := by decide +kernel
theorem d_Tug_headingOf_1 : decode (mCd M_Tug_headingOf) 1 = .ok (.getfield 28, 3) := by decide +kernel
theorem d_Tug_headingOf_4 : decode (mCd M_Tug_headingOf) 4 = .ok (.iload_n 1, 1) := by decide +kernel
theorem d_Tug_headingOf_5 : decode (mCd M_Tug_headingOf) 5 = .ok (.invokevirtual 104, 3) := by decide +kernel
theorem d_Tug_headingOf_8 : decode (mCd M_Tug_headingOf) 8 = .ok (.ifCond .eq 12, 3) := by decide +kernel
theorem d_Tug_headingOf_11 : decode (mCd M_Tug_headingOf) 11 = .ok (.aload_n 0, 1) := by decide +kernel
theorem d_Tug_headingOf_12 : decode (mCd M_Tug_headingOf) 12 = .ok (.getfield 9, 3) := by decide +kernel
theorem d_Tug_headingOf_15 : decode (mCd M_Tug_headingOf) 15 = .ok (.iload_n 1, 1) := by decide +kernel
theorem d_Tug_headingOf_16 : decode (mCd M_Tug_headingOf) 16 = .ok (.iaload, 1) := by decide +kernel
theorem d_Tug_headingOf_17 : decode (mCd M_Tug_headingOf) 17 = .ok (.ifCond .ne 5, 3) := by decide +kernel
theorem d_Tug_headingOf_20 : decode (mCd M_Tug_headingOf) 20 = .ok (.iconst (-1), 1) := by decide +kernel
theorem d_Tug_headingOf_21 : decode (mCd M_Tug_headingOf) 21 = .ok (.ireturn, 1) := by decide +kernel
theorem d_Tug_headingOf_22 : decode (mCd M_Tug_headingOf) 22 = .ok (.aload_n 0, 1) := by decide +kernel
theorem d_Tug_headingOf_23 : decode (mCd M_Tug_headingOf) 23 = .ok (.getfield 18, 3) := by decide +kernel
theorem d_Tug_headingOf_26 : decode (mCd M_Tug_headingOf) 26 = .ok (.iload_n 1, 1) := by decide +kernel
theorem d_Tug_headingOf_27 : decode (mCd M_Tug_headingOf) 27 = .ok (.iaload, 1) := by decide +kernel
theorem d_Tug_headingOf_28 : decode (mCd M_Tug_headingOf) 28 = .ok (.iconst (-1), 1) := by decide +kernel
theorem d_Tug_headingOf_29 : decode (mCd M_Tug_headingOf) 29 = .ok (.if_icmp .ne 12, 3) := by decide +kernel
theorem d_Tug_headingOf_32 : decode (mCd M_Tug_headingOf) 32 = .ok (.aload_n 0, 1) := by decide +kernel
theorem d_Tug_headingOf_33 : decode (mCd M_Tug_headingOf) 33 = .ok (.getfield 15, 3) := by decide +kernel
theorem d_Tug_headingOf_36 : decode (mCd M_Tug_headingOf) 36 = .ok (.iload_n 1, 1) := by decide +kernel
theorem d_Tug_headingOf_37 : decode (mCd M_Tug_headingOf) 37 = .ok (.iaload, 1) := by decide +kernel
theorem d_Tug_headingOf_38 : decode (mCd M_Tug_headingOf) 38 = .ok (.goto 4, 3) := by decide +kernel
theorem d_Tug_headingOf_41 : decode (mCd M_Tug_headingOf) 41 = .ok (.iconst 4, 1) := by decide +kernel
theorem d_Tug_headingOf_42 : decode (mCd M_Tug_headingOf) 42 = .ok (.ireturn, 1) := by decide +kernel
theorem d_Tug_pullers_0 : decode (mCd M_Tug_pullers) 0 = .ok (.iconst 0, 1) := by decide +kernel
theorem d_Tug_pullers_1 : decode (mCd M_Tug_pullers) 1 = .ok (.istore_n 1, 1) := by decide +kernel
theorem d_Tug_pullers_2 : decode (mCd M_Tug_pullers) 2 = .ok (.iconst 0, 1) := by decide +kernel
theorem d_Tug_pullers_3 : decode (mCd M_Tug_pullers) 3 = .ok (.istore_n 2, 1) := by decide +kernel
theorem d_Tug_pullers_4 : decode (mCd M_Tug_pullers) 4 = .ok (.iload_n 2, 1) := by decide +kernel
theorem d_Tug_pullers_5 : decode (mCd M_Tug_pullers) 5 = .ok (.aload_n 0, 1) := by decide +kernel
theorem d_Tug_pullers_6 : decode (mCd M_Tug_pullers) 6 = .ok (.getfield 28, 3) := by decide +kernel
theorem d_Tug_pullers_9 : decode (mCd M_Tug_pullers) 9 = .ok (.getfield 54, 3) := by decide +kernel
theorem d_Tug_pullers_12 : decode (mCd M_Tug_pullers) 12 = .ok (.if_icmp .ge 28, 3) := by decide +kernel
theorem d_Tug_pullers_15 : decode (mCd M_Tug_pullers) 15 = .ok (.iload_n 1, 1) := by decide +kernel
theorem d_Tug_pullers_16 : decode (mCd M_Tug_pullers) 16 = .ok (.aload_n 0, 1) := by decide +kernel
theorem d_Tug_pullers_17 : decode (mCd M_Tug_pullers) 17 = .ok (.getfield 9, 3) := by decide +kernel
theorem d_Tug_pullers_20 : decode (mCd M_Tug_pullers) 20 = .ok (.iload_n 2, 1) := by decide +kernel
theorem d_Tug_pullers_21 : decode (mCd M_Tug_pullers) 21 = .ok (.iaload, 1) := by decide +kernel
theorem d_Tug_pullers_22 : decode (mCd M_Tug_pullers) 22 = .ok (.ifCond .le 9, 3) := by decide +kernel
theorem d_Tug_pullers_25 : decode (mCd M_Tug_pullers) 25 = .ok (.iconst 1, 1) := by decide +kernel
theorem d_Tug_pullers_26 : decode (mCd M_Tug_pullers) 26 = .ok (.iload_n 2, 1) := by decide +kernel
theorem d_Tug_pullers_27 : decode (mCd M_Tug_pullers) 27 = .ok (.ishl, 1) := by decide +kernel
theorem d_Tug_pullers_28 : decode (mCd M_Tug_pullers) 28 = .ok (.goto 4, 3) := by decide +kernel
theorem d_Tug_pullers_31 : decode (mCd M_Tug_pullers) 31 = .ok (.iconst 0, 1) := by decide +kernel
theorem d_Tug_pullers_32 : decode (mCd M_Tug_pullers) 32 = .ok (.ior, 1) := by decide +kernel
theorem d_Tug_pullers_33 : decode (mCd M_Tug_pullers) 33 = .ok (.istore_n 1, 1) := by decide +kernel
theorem d_Tug_pullers_34 : decode (mCd M_Tug_pullers) 34 = .ok (.iinc 2 1, 3) := by decide +kernel
theorem d_Tug_pullers_37 : decode (mCd M_Tug_pullers) 37 = .ok (.goto (-33), 3) := by decide +kernel
theorem d_Tug_pullers_40 : decode (mCd M_Tug_pullers) 40 = .ok (.iload_n 1, 1) := by decide +kernel
theorem d_Tug_pullers_41 : decode (mCd M_Tug_pullers) 41 = .ok (.ireturn, 1) := by decide +kernel
theorem d_Tug_pullOf_0 : decode (mCd M_Tug_pullOf) 0 = .ok (.iconst 0, 1) := by decide +kernel
theorem d_Tug_pullOf_1 : decode (mCd M_Tug_pullOf) 1 = .ok (.istore_n 2, 1) := by decide +kernel
theorem d_Tug_pullOf_2 : decode (mCd M_Tug_pullOf) 2 = .ok (.iconst 0, 1) := by decide +kernel
theorem d_Tug_pullOf_3 : decode (mCd M_Tug_pullOf) 3 = .ok (.istore_n 3, 1) := by decide +kernel
theorem d_Tug_pullOf_4 : decode (mCd M_Tug_pullOf) 4 = .ok (.iload_n 3, 1) := by decide +kernel
theorem d_Tug_pullOf_5 : decode (mCd M_Tug_pullOf) 5 = .ok (.aload_n 0, 1) := by decide +kernel
theorem d_Tug_pullOf_6 : decode (mCd M_Tug_pullOf) 6 = .ok (.getfield 28, 3) := by decide +kernel
theorem d_Tug_pullOf_9 : decode (mCd M_Tug_pullOf) 9 = .ok (.getfield 54, 3) := by decide +kernel
theorem d_Tug_pullOf_12 : decode (mCd M_Tug_pullOf) 12 = .ok (.if_icmp .ge 31, 3) := by decide +kernel
theorem d_Tug_pullOf_15 : decode (mCd M_Tug_pullOf) 15 = .ok (.iload_n 2, 1) := by decide +kernel
theorem d_Tug_pullOf_16 : decode (mCd M_Tug_pullOf) 16 = .ok (.iload_n 1, 1) := by decide +kernel
theorem d_Tug_pullOf_17 : decode (mCd M_Tug_pullOf) 17 = .ok (.iload_n 3, 1) := by decide +kernel
theorem d_Tug_pullOf_18 : decode (mCd M_Tug_pullOf) 18 = .ok (.iushr, 1) := by decide +kernel
theorem d_Tug_pullOf_19 : decode (mCd M_Tug_pullOf) 19 = .ok (.iconst 1, 1) := by decide +kernel
theorem d_Tug_pullOf_20 : decode (mCd M_Tug_pullOf) 20 = .ok (.iand, 1) := by decide +kernel
theorem d_Tug_pullOf_21 : decode (mCd M_Tug_pullOf) 21 = .ok (.iconst 1, 1) := by decide +kernel
theorem d_Tug_pullOf_22 : decode (mCd M_Tug_pullOf) 22 = .ok (.if_icmp .ne 12, 3) := by decide +kernel
theorem d_Tug_pullOf_25 : decode (mCd M_Tug_pullOf) 25 = .ok (.aload_n 0, 1) := by decide +kernel
theorem d_Tug_pullOf_26 : decode (mCd M_Tug_pullOf) 26 = .ok (.getfield 9, 3) := by decide +kernel
theorem d_Tug_pullOf_29 : decode (mCd M_Tug_pullOf) 29 = .ok (.iload_n 3, 1) := by decide +kernel
theorem d_Tug_pullOf_30 : decode (mCd M_Tug_pullOf) 30 = .ok (.iaload, 1) := by decide +kernel
theorem d_Tug_pullOf_31 : decode (mCd M_Tug_pullOf) 31 = .ok (.goto 4, 3) := by decide +kernel
theorem d_Tug_pullOf_34 : decode (mCd M_Tug_pullOf) 34 = .ok (.iconst 0, 1) := by decide +kernel
theorem d_Tug_pullOf_35 : decode (mCd M_Tug_pullOf) 35 = .ok (.iadd, 1) := by decide +kernel
theorem d_Tug_pullOf_36 : decode (mCd M_Tug_pullOf) 36 = .ok (.istore_n 2, 1) := by decide +kernel
theorem d_Tug_pullOf_37 : decode (mCd M_Tug_pullOf) 37 = .ok (.iinc 3 1, 3) := by decide +kernel
theorem d_Tug_pullOf_40 : decode (mCd M_Tug_pullOf) 40 = .ok (.goto (-36), 3) := by decide +kernel
theorem d_Tug_pullOf_43 : decode (mCd M_Tug_pullOf) 43 = .ok (.iload_n 2, 1) := by decide +kernel
theorem d_Tug_pullOf_44 : decode (mCd M_Tug_pullOf) 44 = .ok (.ireturn, 1) := by decide +kernel
theorem d_Tug_weigh_0 : decode (mCd M_Tug_weigh) 0 = .ok (.aload_n 0, 1) := by decide +kernel
theorem d_Tug_weigh_1 : decode (mCd M_Tug_weigh) 1 = .ok (.getfield 21, 3) := by decide +kernel
theorem d_Tug_weigh_4 : decode (mCd M_Tug_weigh) 4 = .ok (.iconst 0, 1) := by decide +kernel
theorem d_Tug_weigh_5 : decode (mCd M_Tug_weigh) 5 = .ok (.invokestatic 107, 3) := by decide +kernel
theorem d_Tug_weigh_8 : decode (mCd M_Tug_weigh) 8 = .ok (.iconst 0, 1) := by decide +kernel
theorem d_Tug_weigh_9 : decode (mCd M_Tug_weigh) 9 = .ok (.istore_n 2, 1) := by decide +kernel
theorem d_Tug_weigh_10 : decode (mCd M_Tug_weigh) 10 = .ok (.iload_n 2, 1) := by decide +kernel
theorem d_Tug_weigh_11 : decode (mCd M_Tug_weigh) 11 = .ok (.aload_n 0, 1) := by decide +kernel
theorem d_Tug_weigh_12 : decode (mCd M_Tug_weigh) 12 = .ok (.getfield 28, 3) := by decide +kernel
theorem d_Tug_weigh_15 : decode (mCd M_Tug_weigh) 15 = .ok (.getfield 54, 3) := by decide +kernel
theorem d_Tug_weigh_18 : decode (mCd M_Tug_weigh) 18 = .ok (.if_icmp .ge 94, 3) := by decide +kernel
theorem d_Tug_weigh_21 : decode (mCd M_Tug_weigh) 21 = .ok (.iload_n 1, 1) := by decide +kernel
theorem d_Tug_weigh_22 : decode (mCd M_Tug_weigh) 22 = .ok (.iload_n 2, 1) := by decide +kernel
theorem d_Tug_weigh_23 : decode (mCd M_Tug_weigh) 23 = .ok (.iushr, 1) := by decide +kernel
theorem d_Tug_weigh_24 : decode (mCd M_Tug_weigh) 24 = .ok (.iconst 1, 1) := by decide +kernel
theorem d_Tug_weigh_25 : decode (mCd M_Tug_weigh) 25 = .ok (.iand, 1) := by decide +kernel
theorem d_Tug_weigh_26 : decode (mCd M_Tug_weigh) 26 = .ok (.ifCond .eq 80, 3) := by decide +kernel
theorem d_Tug_weigh_29 : decode (mCd M_Tug_weigh) 29 = .ok (.aload_n 0, 1) := by decide +kernel
theorem d_Tug_weigh_30 : decode (mCd M_Tug_weigh) 30 = .ok (.getfield 9, 3) := by decide +kernel
theorem d_Tug_weigh_33 : decode (mCd M_Tug_weigh) 33 = .ok (.iload_n 2, 1) := by decide +kernel
theorem d_Tug_weigh_34 : decode (mCd M_Tug_weigh) 34 = .ok (.iaload, 1) := by decide +kernel
theorem d_Tug_weigh_35 : decode (mCd M_Tug_weigh) 35 = .ok (.ifCond .ne 6, 3) := by decide +kernel
theorem d_Tug_weigh_38 : decode (mCd M_Tug_weigh) 38 = .ok (.goto 68, 3) := by decide +kernel
theorem d_Tug_weigh_41 : decode (mCd M_Tug_weigh) 41 = .ok (.aload_n 0, 1) := by decide +kernel
theorem d_Tug_weigh_42 : decode (mCd M_Tug_weigh) 42 = .ok (.getfield 18, 3) := by decide +kernel
theorem d_Tug_weigh_45 : decode (mCd M_Tug_weigh) 45 = .ok (.iload_n 2, 1) := by decide +kernel
theorem d_Tug_weigh_46 : decode (mCd M_Tug_weigh) 46 = .ok (.iaload, 1) := by decide +kernel
theorem d_Tug_weigh_47 : decode (mCd M_Tug_weigh) 47 = .ok (.iconst (-1), 1) := by decide +kernel
theorem d_Tug_weigh_48 : decode (mCd M_Tug_weigh) 48 = .ok (.if_icmp .ne 22, 3) := by decide +kernel
theorem d_Tug_weigh_51 : decode (mCd M_Tug_weigh) 51 = .ok (.aload_n 0, 1) := by decide +kernel
theorem d_Tug_weigh_52 : decode (mCd M_Tug_weigh) 52 = .ok (.aload_n 0, 1) := by decide +kernel
theorem d_Tug_weigh_53 : decode (mCd M_Tug_weigh) 53 = .ok (.getfield 15, 3) := by decide +kernel
theorem d_Tug_weigh_56 : decode (mCd M_Tug_weigh) 56 = .ok (.iload_n 2, 1) := by decide +kernel
theorem d_Tug_weigh_57 : decode (mCd M_Tug_weigh) 57 = .ok (.iaload, 1) := by decide +kernel
theorem d_Tug_weigh_58 : decode (mCd M_Tug_weigh) 58 = .ok (.aload_n 0, 1) := by decide +kernel
theorem d_Tug_weigh_59 : decode (mCd M_Tug_weigh) 59 = .ok (.getfield 9, 3) := by decide +kernel
theorem d_Tug_weigh_62 : decode (mCd M_Tug_weigh) 62 = .ok (.iload_n 2, 1) := by decide +kernel
theorem d_Tug_weigh_63 : decode (mCd M_Tug_weigh) 63 = .ok (.iaload, 1) := by decide +kernel
theorem d_Tug_weigh_64 : decode (mCd M_Tug_weigh) 64 = .ok (.invokevirtual 113, 3) := by decide +kernel
theorem d_Tug_weigh_67 : decode (mCd M_Tug_weigh) 67 = .ok (.goto 39, 3) := by decide +kernel
theorem d_Tug_weigh_70 : decode (mCd M_Tug_weigh) 70 = .ok (.aload_n 0, 1) := by decide +kernel
theorem d_Tug_weigh_71 : decode (mCd M_Tug_weigh) 71 = .ok (.aload_n 0, 1) := by decide +kernel
theorem d_Tug_weigh_72 : decode (mCd M_Tug_weigh) 72 = .ok (.getfield 15, 3) := by decide +kernel
theorem d_Tug_weigh_75 : decode (mCd M_Tug_weigh) 75 = .ok (.iload_n 2, 1) := by decide +kernel
theorem d_Tug_weigh_76 : decode (mCd M_Tug_weigh) 76 = .ok (.iaload, 1) := by decide +kernel
theorem d_Tug_weigh_77 : decode (mCd M_Tug_weigh) 77 = .ok (.aload_n 0, 1) := by decide +kernel
theorem d_Tug_weigh_78 : decode (mCd M_Tug_weigh) 78 = .ok (.getfield 9, 3) := by decide +kernel
theorem d_Tug_weigh_81 : decode (mCd M_Tug_weigh) 81 = .ok (.iload_n 2, 1) := by decide +kernel
theorem d_Tug_weigh_82 : decode (mCd M_Tug_weigh) 82 = .ok (.iaload, 1) := by decide +kernel
theorem d_Tug_weigh_83 : decode (mCd M_Tug_weigh) 83 = .ok (.iconst 2, 1) := by decide +kernel
theorem d_Tug_weigh_84 : decode (mCd M_Tug_weigh) 84 = .ok (.idiv, 1) := by decide +kernel
theorem d_Tug_weigh_85 : decode (mCd M_Tug_weigh) 85 = .ok (.invokevirtual 113, 3) := by decide +kernel
theorem d_Tug_weigh_88 : decode (mCd M_Tug_weigh) 88 = .ok (.aload_n 0, 1) := by decide +kernel
theorem d_Tug_weigh_89 : decode (mCd M_Tug_weigh) 89 = .ok (.aload_n 0, 1) := by decide +kernel
theorem d_Tug_weigh_90 : decode (mCd M_Tug_weigh) 90 = .ok (.getfield 18, 3) := by decide +kernel
theorem d_Tug_weigh_93 : decode (mCd M_Tug_weigh) 93 = .ok (.iload_n 2, 1) := by decide +kernel
theorem d_Tug_weigh_94 : decode (mCd M_Tug_weigh) 94 = .ok (.iaload, 1) := by decide +kernel
theorem d_Tug_weigh_95 : decode (mCd M_Tug_weigh) 95 = .ok (.aload_n 0, 1) := by decide +kernel
theorem d_Tug_weigh_96 : decode (mCd M_Tug_weigh) 96 = .ok (.getfield 9, 3) := by decide +kernel
theorem d_Tug_weigh_99 : decode (mCd M_Tug_weigh) 99 = .ok (.iload_n 2, 1) := by decide +kernel
theorem d_Tug_weigh_100 : decode (mCd M_Tug_weigh) 100 = .ok (.iaload, 1) := by decide +kernel
theorem d_Tug_weigh_101 : decode (mCd M_Tug_weigh) 101 = .ok (.iconst 2, 1) := by decide +kernel
theorem d_Tug_weigh_102 : decode (mCd M_Tug_weigh) 102 = .ok (.idiv, 1) := by decide +kernel
theorem d_Tug_weigh_103 : decode (mCd M_Tug_weigh) 103 = .ok (.invokevirtual 113, 3) := by decide +kernel
theorem d_Tug_weigh_106 : decode (mCd M_Tug_weigh) 106 = .ok (.iinc 2 1, 3) := by decide +kernel
theorem d_Tug_weigh_109 : decode (mCd M_Tug_weigh) 109 = .ok (.goto (-99), 3) := by decide +kernel
theorem d_Tug_weigh_112 : decode (mCd M_Tug_weigh) 112 = .ok (.return_, 1) := by decide +kernel
theorem d_Tug_addTo_0 : decode (mCd M_Tug_addTo) 0 = .ok (.aload_n 0, 1) := by decide +kernel
theorem d_Tug_addTo_1 : decode (mCd M_Tug_addTo) 1 = .ok (.getfield 21, 3) := by decide +kernel
theorem d_Tug_addTo_4 : decode (mCd M_Tug_addTo) 4 = .ok (.iload_n 1, 1) := by decide +kernel
theorem d_Tug_addTo_5 : decode (mCd M_Tug_addTo) 5 = .ok (.iconst 3, 1) := by decide +kernel
theorem d_Tug_addTo_6 : decode (mCd M_Tug_addTo) 6 = .ok (.iand, 1) := by decide +kernel
theorem d_Tug_addTo_7 : decode (mCd M_Tug_addTo) 7 = .ok (.dup2, 1) := by decide +kernel
theorem d_Tug_addTo_8 : decode (mCd M_Tug_addTo) 8 = .ok (.iaload, 1) := by decide +kernel
theorem d_Tug_addTo_9 : decode (mCd M_Tug_addTo) 9 = .ok (.iload_n 2, 1) := by decide +kernel
theorem d_Tug_addTo_10 : decode (mCd M_Tug_addTo) 10 = .ok (.iadd, 1) := by decide +kernel
theorem d_Tug_addTo_11 : decode (mCd M_Tug_addTo) 11 = .ok (.iastore, 1) := by decide +kernel
theorem d_Tug_addTo_12 : decode (mCd M_Tug_addTo) 12 = .ok (.aload_n 0, 1) := by decide +kernel
theorem d_Tug_addTo_13 : decode (mCd M_Tug_addTo) 13 = .ok (.getfield 21, 3) := by decide +kernel
theorem d_Tug_addTo_16 : decode (mCd M_Tug_addTo) 16 = .ok (.iload_n 1, 1) := by decide +kernel
theorem d_Tug_addTo_17 : decode (mCd M_Tug_addTo) 17 = .ok (.iconst 2, 1) := by decide +kernel
theorem d_Tug_addTo_18 : decode (mCd M_Tug_addTo) 18 = .ok (.iadd, 1) := by decide +kernel
theorem d_Tug_addTo_19 : decode (mCd M_Tug_addTo) 19 = .ok (.iconst 3, 1) := by decide +kernel
theorem d_Tug_addTo_20 : decode (mCd M_Tug_addTo) 20 = .ok (.iand, 1) := by decide +kernel
theorem d_Tug_addTo_21 : decode (mCd M_Tug_addTo) 21 = .ok (.dup2, 1) := by decide +kernel
theorem d_Tug_addTo_22 : decode (mCd M_Tug_addTo) 22 = .ok (.iaload, 1) := by decide +kernel
theorem d_Tug_addTo_23 : decode (mCd M_Tug_addTo) 23 = .ok (.iload_n 2, 1) := by decide +kernel
theorem d_Tug_addTo_24 : decode (mCd M_Tug_addTo) 24 = .ok (.isub, 1) := by decide +kernel
theorem d_Tug_addTo_25 : decode (mCd M_Tug_addTo) 25 = .ok (.iastore, 1) := by decide +kernel
theorem d_Tug_addTo_26 : decode (mCd M_Tug_addTo) 26 = .ok (.return_, 1) := by decide +kernel
theorem d_Tug_goesFrom_0 : decode (mCd M_Tug_goesFrom) 0 = .ok (.bipush (-2), 2) := by decide +kernel
theorem d_Tug_goesFrom_2 : decode (mCd M_Tug_goesFrom) 2 = .ok (.istore_n 2, 1) := by decide +kernel
theorem d_Tug_goesFrom_3 : decode (mCd M_Tug_goesFrom) 3 = .ok (.iconst 0, 1) := by decide +kernel
theorem d_Tug_goesFrom_4 : decode (mCd M_Tug_goesFrom) 4 = .ok (.istore_n 3, 1) := by decide +kernel
theorem d_Tug_goesFrom_5 : decode (mCd M_Tug_goesFrom) 5 = .ok (.iconst 0, 1) := by decide +kernel
theorem d_Tug_goesFrom_6 : decode (mCd M_Tug_goesFrom) 6 = .ok (.istore 4, 2) := by decide +kernel
theorem d_Tug_goesFrom_8 : decode (mCd M_Tug_goesFrom) 8 = .ok (.iload 4, 2) := by decide +kernel
theorem d_Tug_goesFrom_10 : decode (mCd M_Tug_goesFrom) 10 = .ok (.iconst 4, 1) := by decide +kernel
theorem d_Tug_goesFrom_11 : decode (mCd M_Tug_goesFrom) 11 = .ok (.if_icmp .ge 31, 3) := by decide +kernel
theorem d_Tug_goesFrom_14 : decode (mCd M_Tug_goesFrom) 14 = .ok (.aload_n 0, 1) := by decide +kernel
theorem d_Tug_goesFrom_15 : decode (mCd M_Tug_goesFrom) 15 = .ok (.getfield 21, 3) := by decide +kernel
theorem d_Tug_goesFrom_18 : decode (mCd M_Tug_goesFrom) 18 = .ok (.iload 4, 2) := by decide +kernel
theorem d_Tug_goesFrom_20 : decode (mCd M_Tug_goesFrom) 20 = .ok (.iaload, 1) := by decide +kernel
theorem d_Tug_goesFrom_21 : decode (mCd M_Tug_goesFrom) 21 = .ok (.iload_n 3, 1) := by decide +kernel
theorem d_Tug_goesFrom_22 : decode (mCd M_Tug_goesFrom) 22 = .ok (.if_icmp .le 14, 3) := by decide +kernel
theorem d_Tug_goesFrom_25 : decode (mCd M_Tug_goesFrom) 25 = .ok (.aload_n 0, 1) := by decide +kernel
theorem d_Tug_goesFrom_26 : decode (mCd M_Tug_goesFrom) 26 = .ok (.getfield 21, 3) := by decide +kernel
theorem d_Tug_goesFrom_29 : decode (mCd M_Tug_goesFrom) 29 = .ok (.iload 4, 2) := by decide +kernel
theorem d_Tug_goesFrom_31 : decode (mCd M_Tug_goesFrom) 31 = .ok (.iaload, 1) := by decide +kernel
theorem d_Tug_goesFrom_32 : decode (mCd M_Tug_goesFrom) 32 = .ok (.istore_n 3, 1) := by decide +kernel
theorem d_Tug_goesFrom_33 : decode (mCd M_Tug_goesFrom) 33 = .ok (.iload 4, 2) := by decide +kernel
theorem d_Tug_goesFrom_35 : decode (mCd M_Tug_goesFrom) 35 = .ok (.istore_n 2, 1) := by decide +kernel
theorem d_Tug_goesFrom_36 : decode (mCd M_Tug_goesFrom) 36 = .ok (.iinc 4 1, 3) := by decide +kernel
theorem d_Tug_goesFrom_39 : decode (mCd M_Tug_goesFrom) 39 = .ok (.goto (-31), 3) := by decide +kernel
theorem d_Tug_goesFrom_42 : decode (mCd M_Tug_goesFrom) 42 = .ok (.iload_n 2, 1) := by decide +kernel
theorem d_Tug_goesFrom_43 : decode (mCd M_Tug_goesFrom) 43 = .ok (.bipush (-2), 2) := by decide +kernel
theorem d_Tug_goesFrom_45 : decode (mCd M_Tug_goesFrom) 45 = .ok (.if_icmp .ne 6, 3) := by decide +kernel
theorem d_Tug_goesFrom_48 : decode (mCd M_Tug_goesFrom) 48 = .ok (.bipush (-2), 2) := by decide +kernel
theorem d_Tug_goesFrom_50 : decode (mCd M_Tug_goesFrom) 50 = .ok (.ireturn, 1) := by decide +kernel
theorem d_Tug_goesFrom_51 : decode (mCd M_Tug_goesFrom) 51 = .ok (.aload_n 0, 1) := by decide +kernel
theorem d_Tug_goesFrom_52 : decode (mCd M_Tug_goesFrom) 52 = .ok (.getfield 24, 3) := by decide +kernel
theorem d_Tug_goesFrom_55 : decode (mCd M_Tug_goesFrom) 55 = .ok (.iload_n 1, 1) := by decide +kernel
theorem d_Tug_goesFrom_56 : decode (mCd M_Tug_goesFrom) 56 = .ok (.iload_n 2, 1) := by decide +kernel
theorem d_Tug_goesFrom_57 : decode (mCd M_Tug_goesFrom) 57 = .ok (.invokevirtual 117, 3) := by decide +kernel
theorem d_Tug_goesFrom_60 : decode (mCd M_Tug_goesFrom) 60 = .ok (.istore 4, 2) := by decide +kernel
theorem d_Tug_goesFrom_62 : decode (mCd M_Tug_goesFrom) 62 = .ok (.iload 4, 2) := by decide +kernel
theorem d_Tug_goesFrom_64 : decode (mCd M_Tug_goesFrom) 64 = .ok (.iconst (-1), 1) := by decide +kernel
theorem d_Tug_goesFrom_65 : decode (mCd M_Tug_goesFrom) 65 = .ok (.if_icmp .eq 15, 3) := by decide +kernel
theorem d_Tug_goesFrom_68 : decode (mCd M_Tug_goesFrom) 68 = .ok (.aload_n 0, 1) := by decide +kernel
theorem d_Tug_goesFrom_69 : decode (mCd M_Tug_goesFrom) 69 = .ok (.getfield 24, 3) := by decide +kernel
theorem d_Tug_goesFrom_72 : decode (mCd M_Tug_goesFrom) 72 = .ok (.iload 4, 2) := by decide +kernel
theorem d_Tug_goesFrom_74 : decode (mCd M_Tug_goesFrom) 74 = .ok (.invokevirtual 120, 3) := by decide +kernel
theorem d_Tug_goesFrom_77 : decode (mCd M_Tug_goesFrom) 77 = .ok (.ifCond .eq 8, 3) := by decide +kernel
theorem d_Tug_goesFrom_80 : decode (mCd M_Tug_goesFrom) 80 = .ok (.bipush (-2), 2) := by decide +kernel
theorem d_Tug_goesFrom_82 : decode (mCd M_Tug_goesFrom) 82 = .ok (.goto 4, 3) := by decide +kernel
theorem d_Tug_goesFrom_85 : decode (mCd M_Tug_goesFrom) 85 = .ok (.iload_n 2, 1) := by decide +kernel
theorem d_Tug_goesFrom_86 : decode (mCd M_Tug_goesFrom) 86 = .ok (.ireturn, 1) := by decide +kernel
