-- decode rows of JDK
theorem d_Int_nlz_0 : decode b_Int_nlz 0 = .ok (.iload_n 0, 1) := by decide +kernel
theorem d_Int_nlz_1 : decode b_Int_nlz 1 = .ok (.ifCond .gt 14, 3) := by decide +kernel
theorem d_Int_nlz_4 : decode b_Int_nlz 4 = .ok (.iload_n 0, 1) := by decide +kernel
theorem d_Int_nlz_5 : decode b_Int_nlz 5 = .ok (.ifCond .ne 8, 3) := by decide +kernel
theorem d_Int_nlz_8 : decode b_Int_nlz 8 = .ok (.bipush 32, 2) := by decide +kernel
theorem d_Int_nlz_10 : decode b_Int_nlz 10 = .ok (.goto 4, 3) := by decide +kernel
theorem d_Int_nlz_13 : decode b_Int_nlz 13 = .ok (.iconst 0, 1) := by decide +kernel
theorem d_Int_nlz_14 : decode b_Int_nlz 14 = .ok (.ireturn, 1) := by decide +kernel
theorem d_Int_nlz_15 : decode b_Int_nlz 15 = .ok (.bipush 31, 2) := by decide +kernel
theorem d_Int_nlz_17 : decode b_Int_nlz 17 = .ok (.istore_n 1, 1) := by decide +kernel
theorem d_Int_nlz_18 : decode b_Int_nlz 18 = .ok (.iload_n 0, 1) := by decide +kernel
theorem d_Int_nlz_19 : decode b_Int_nlz 19 = .ok (.ldc_w 264, 3) := by decide +kernel
theorem d_Int_nlz_22 : decode b_Int_nlz 22 = .ok (.if_icmp .lt 11, 3) := by decide +kernel
theorem d_Int_nlz_25 : decode b_Int_nlz 25 = .ok (.iinc 1 (-16), 3) := by decide +kernel
theorem d_Int_nlz_28 : decode b_Int_nlz 28 = .ok (.iload_n 0, 1) := by decide +kernel
theorem d_Int_nlz_29 : decode b_Int_nlz 29 = .ok (.bipush 16, 2) := by decide +kernel
theorem d_Int_nlz_31 : decode b_Int_nlz 31 = .ok (.iushr, 1) := by decide +kernel
theorem d_Int_nlz_32 : decode b_Int_nlz 32 = .ok (.istore_n 0, 1) := by decide +kernel
theorem d_Int_nlz_33 : decode b_Int_nlz 33 = .ok (.iload_n 0, 1) := by decide +kernel
theorem d_Int_nlz_34 : decode b_Int_nlz 34 = .ok (.sipush 256, 3) := by decide +kernel
theorem d_Int_nlz_37 : decode b_Int_nlz 37 = .ok (.if_icmp .lt 11, 3) := by decide +kernel
theorem d_Int_nlz_40 : decode b_Int_nlz 40 = .ok (.iinc 1 (-8), 3) := by decide +kernel
theorem d_Int_nlz_43 : decode b_Int_nlz 43 = .ok (.iload_n 0, 1) := by decide +kernel
theorem d_Int_nlz_44 : decode b_Int_nlz 44 = .ok (.bipush 8, 2) := by decide +kernel
theorem d_Int_nlz_46 : decode b_Int_nlz 46 = .ok (.iushr, 1) := by decide +kernel
theorem d_Int_nlz_47 : decode b_Int_nlz 47 = .ok (.istore_n 0, 1) := by decide +kernel
theorem d_Int_nlz_48 : decode b_Int_nlz 48 = .ok (.iload_n 0, 1) := by decide +kernel
theorem d_Int_nlz_49 : decode b_Int_nlz 49 = .ok (.bipush 16, 2) := by decide +kernel
theorem d_Int_nlz_51 : decode b_Int_nlz 51 = .ok (.if_icmp .lt 10, 3) := by decide +kernel
theorem d_Int_nlz_54 : decode b_Int_nlz 54 = .ok (.iinc 1 (-4), 3) := by decide +kernel
theorem d_Int_nlz_57 : decode b_Int_nlz 57 = .ok (.iload_n 0, 1) := by decide +kernel
theorem d_Int_nlz_58 : decode b_Int_nlz 58 = .ok (.iconst 4, 1) := by decide +kernel
theorem d_Int_nlz_59 : decode b_Int_nlz 59 = .ok (.iushr, 1) := by decide +kernel
theorem d_Int_nlz_60 : decode b_Int_nlz 60 = .ok (.istore_n 0, 1) := by decide +kernel
theorem d_Int_nlz_61 : decode b_Int_nlz 61 = .ok (.iload_n 0, 1) := by decide +kernel
theorem d_Int_nlz_62 : decode b_Int_nlz 62 = .ok (.iconst 4, 1) := by decide +kernel
theorem d_Int_nlz_63 : decode b_Int_nlz 63 = .ok (.if_icmp .lt 10, 3) := by decide +kernel
theorem d_Int_nlz_66 : decode b_Int_nlz 66 = .ok (.iinc 1 (-2), 3) := by decide +kernel
theorem d_Int_nlz_69 : decode b_Int_nlz 69 = .ok (.iload_n 0, 1) := by decide +kernel
theorem d_Int_nlz_70 : decode b_Int_nlz 70 = .ok (.iconst 2, 1) := by decide +kernel
theorem d_Int_nlz_71 : decode b_Int_nlz 71 = .ok (.iushr, 1) := by decide +kernel
theorem d_Int_nlz_72 : decode b_Int_nlz 72 = .ok (.istore_n 0, 1) := by decide +kernel
theorem d_Int_nlz_73 : decode b_Int_nlz 73 = .ok (.iload_n 1, 1) := by decide +kernel
theorem d_Int_nlz_74 : decode b_Int_nlz 74 = .ok (.iload_n 0, 1) := by decide +kernel
theorem d_Int_nlz_75 : decode b_Int_nlz 75 = .ok (.iconst 1, 1) := by decide +kernel
theorem d_Int_nlz_76 : decode b_Int_nlz 76 = .ok (.iushr, 1) := by decide +kernel
theorem d_Int_nlz_77 : decode b_Int_nlz 77 = .ok (.isub, 1) := by decide +kernel
theorem d_Int_nlz_78 : decode b_Int_nlz 78 = .ok (.ireturn, 1) := by decide +kernel
theorem d_Int_ntz_0 : decode b_Int_ntz 0 = .ok (.iload_n 0, 1) := by decide +kernel
theorem d_Int_ntz_1 : decode b_Int_ntz 1 = .ok (.iconst (-1), 1) := by decide +kernel
theorem d_Int_ntz_2 : decode b_Int_ntz 2 = .ok (.ixor, 1) := by decide +kernel
theorem d_Int_ntz_3 : decode b_Int_ntz 3 = .ok (.iload_n 0, 1) := by decide +kernel
theorem d_Int_ntz_4 : decode b_Int_ntz 4 = .ok (.iconst 1, 1) := by decide +kernel
theorem d_Int_ntz_5 : decode b_Int_ntz 5 = .ok (.isub, 1) := by decide +kernel
theorem d_Int_ntz_6 : decode b_Int_ntz 6 = .ok (.iand, 1) := by decide +kernel
theorem d_Int_ntz_7 : decode b_Int_ntz 7 = .ok (.istore_n 0, 1) := by decide +kernel
theorem d_Int_ntz_8 : decode b_Int_ntz 8 = .ok (.iload_n 0, 1) := by decide +kernel
theorem d_Int_ntz_9 : decode b_Int_ntz 9 = .ok (.ifCond .gt 8, 3) := by decide +kernel
theorem d_Int_ntz_12 : decode b_Int_ntz 12 = .ok (.iload_n 0, 1) := by decide +kernel
theorem d_Int_ntz_13 : decode b_Int_ntz 13 = .ok (.bipush 32, 2) := by decide +kernel
theorem d_Int_ntz_15 : decode b_Int_ntz 15 = .ok (.iand, 1) := by decide +kernel
theorem d_Int_ntz_16 : decode b_Int_ntz 16 = .ok (.ireturn, 1) := by decide +kernel
theorem d_Int_ntz_17 : decode b_Int_ntz 17 = .ok (.iconst 1, 1) := by decide +kernel
theorem d_Int_ntz_18 : decode b_Int_ntz 18 = .ok (.istore_n 1, 1) := by decide +kernel
theorem d_Int_ntz_19 : decode b_Int_ntz 19 = .ok (.iload_n 0, 1) := by decide +kernel
theorem d_Int_ntz_20 : decode b_Int_ntz 20 = .ok (.ldc_w 264, 3) := by decide +kernel
theorem d_Int_ntz_23 : decode b_Int_ntz 23 = .ok (.if_icmp .le 11, 3) := by decide +kernel
theorem d_Int_ntz_26 : decode b_Int_ntz 26 = .ok (.iinc 1 16, 3) := by decide +kernel
theorem d_Int_ntz_29 : decode b_Int_ntz 29 = .ok (.iload_n 0, 1) := by decide +kernel
theorem d_Int_ntz_30 : decode b_Int_ntz 30 = .ok (.bipush 16, 2) := by decide +kernel
theorem d_Int_ntz_32 : decode b_Int_ntz 32 = .ok (.iushr, 1) := by decide +kernel
theorem d_Int_ntz_33 : decode b_Int_ntz 33 = .ok (.istore_n 0, 1) := by decide +kernel
theorem d_Int_ntz_34 : decode b_Int_ntz 34 = .ok (.iload_n 0, 1) := by decide +kernel
theorem d_Int_ntz_35 : decode b_Int_ntz 35 = .ok (.sipush 256, 3) := by decide +kernel
theorem d_Int_ntz_38 : decode b_Int_ntz 38 = .ok (.if_icmp .le 11, 3) := by decide +kernel
theorem d_Int_ntz_41 : decode b_Int_ntz 41 = .ok (.iinc 1 8, 3) := by decide +kernel
theorem d_Int_ntz_44 : decode b_Int_ntz 44 = .ok (.iload_n 0, 1) := by decide +kernel
theorem d_Int_ntz_45 : decode b_Int_ntz 45 = .ok (.bipush 8, 2) := by decide +kernel
theorem d_Int_ntz_47 : decode b_Int_ntz 47 = .ok (.iushr, 1) := by decide +kernel
theorem d_Int_ntz_48 : decode b_Int_ntz 48 = .ok (.istore_n 0, 1) := by decide +kernel
theorem d_Int_ntz_49 : decode b_Int_ntz 49 = .ok (.iload_n 0, 1) := by decide +kernel
theorem d_Int_ntz_50 : decode b_Int_ntz 50 = .ok (.bipush 16, 2) := by decide +kernel
theorem d_Int_ntz_52 : decode b_Int_ntz 52 = .ok (.if_icmp .le 10, 3) := by decide +kernel
theorem d_Int_ntz_55 : decode b_Int_ntz 55 = .ok (.iinc 1 4, 3) := by decide +kernel
theorem d_Int_ntz_58 : decode b_Int_ntz 58 = .ok (.iload_n 0, 1) := by decide +kernel
theorem d_Int_ntz_59 : decode b_Int_ntz 59 = .ok (.iconst 4, 1) := by decide +kernel
theorem d_Int_ntz_60 : decode b_Int_ntz 60 = .ok (.iushr, 1) := by decide +kernel
theorem d_Int_ntz_61 : decode b_Int_ntz 61 = .ok (.istore_n 0, 1) := by decide +kernel
theorem d_Int_ntz_62 : decode b_Int_ntz 62 = .ok (.iload_n 0, 1) := by decide +kernel
theorem d_Int_ntz_63 : decode b_Int_ntz 63 = .ok (.iconst 4, 1) := by decide +kernel
theorem d_Int_ntz_64 : decode b_Int_ntz 64 = .ok (.if_icmp .le 10, 3) := by decide +kernel
theorem d_Int_ntz_67 : decode b_Int_ntz 67 = .ok (.iinc 1 2, 3) := by decide +kernel
theorem d_Int_ntz_70 : decode b_Int_ntz 70 = .ok (.iload_n 0, 1) := by decide +kernel
theorem d_Int_ntz_71 : decode b_Int_ntz 71 = .ok (.iconst 2, 1) := by decide +kernel
theorem d_Int_ntz_72 : decode b_Int_ntz 72 = .ok (.iushr, 1) := by decide +kernel
theorem d_Int_ntz_73 : decode b_Int_ntz 73 = .ok (.istore_n 0, 1) := by decide +kernel
theorem d_Int_ntz_74 : decode b_Int_ntz 74 = .ok (.iload_n 1, 1) := by decide +kernel
theorem d_Int_ntz_75 : decode b_Int_ntz 75 = .ok (.iload_n 0, 1) := by decide +kernel
theorem d_Int_ntz_76 : decode b_Int_ntz 76 = .ok (.iconst 1, 1) := by decide +kernel
theorem d_Int_ntz_77 : decode b_Int_ntz 77 = .ok (.iushr, 1) := by decide +kernel
theorem d_Int_ntz_78 : decode b_Int_ntz 78 = .ok (.iadd, 1) := by decide +kernel
theorem d_Int_ntz_79 : decode b_Int_ntz 79 = .ok (.ireturn, 1) := by decide +kernel
theorem d_Int_bitCount_0 : decode b_Int_bitCount 0 = .ok (.iload_n 0, 1) := by decide +kernel
theorem d_Int_bitCount_1 : decode b_Int_bitCount 1 = .ok (.iload_n 0, 1) := by decide +kernel
theorem d_Int_bitCount_2 : decode b_Int_bitCount 2 = .ok (.iconst 1, 1) := by decide +kernel
theorem d_Int_bitCount_3 : decode b_Int_bitCount 3 = .ok (.iushr, 1) := by decide +kernel
theorem d_Int_bitCount_4 : decode b_Int_bitCount 4 = .ok (.ldc_w 265, 3) := by decide +kernel
theorem d_Int_bitCount_7 : decode b_Int_bitCount 7 = .ok (.iand, 1) := by decide +kernel
theorem d_Int_bitCount_8 : decode b_Int_bitCount 8 = .ok (.isub, 1) := by decide +kernel
theorem d_Int_bitCount_9 : decode b_Int_bitCount 9 = .ok (.istore_n 0, 1) := by decide +kernel
theorem d_Int_bitCount_10 : decode b_Int_bitCount 10 = .ok (.iload_n 0, 1) := by decide +kernel
theorem d_Int_bitCount_11 : decode b_Int_bitCount 11 = .ok (.ldc_w 266, 3) := by decide +kernel
theorem d_Int_bitCount_14 : decode b_Int_bitCount 14 = .ok (.iand, 1) := by decide +kernel
theorem d_Int_bitCount_15 : decode b_Int_bitCount 15 = .ok (.iload_n 0, 1) := by decide +kernel
theorem d_Int_bitCount_16 : decode b_Int_bitCount 16 = .ok (.iconst 2, 1) := by decide +kernel
theorem d_Int_bitCount_17 : decode b_Int_bitCount 17 = .ok (.iushr, 1) := by decide +kernel
theorem d_Int_bitCount_18 : decode b_Int_bitCount 18 = .ok (.ldc_w 266, 3) := by decide +kernel
theorem d_Int_bitCount_21 : decode b_Int_bitCount 21 = .ok (.iand, 1) := by decide +kernel
theorem d_Int_bitCount_22 : decode b_Int_bitCount 22 = .ok (.iadd, 1) := by decide +kernel
theorem d_Int_bitCount_23 : decode b_Int_bitCount 23 = .ok (.istore_n 0, 1) := by decide +kernel
theorem d_Int_bitCount_24 : decode b_Int_bitCount 24 = .ok (.iload_n 0, 1) := by decide +kernel
theorem d_Int_bitCount_25 : decode b_Int_bitCount 25 = .ok (.iload_n 0, 1) := by decide +kernel
theorem d_Int_bitCount_26 : decode b_Int_bitCount 26 = .ok (.iconst 4, 1) := by decide +kernel
theorem d_Int_bitCount_27 : decode b_Int_bitCount 27 = .ok (.iushr, 1) := by decide +kernel
theorem d_Int_bitCount_28 : decode b_Int_bitCount 28 = .ok (.iadd, 1) := by decide +kernel
theorem d_Int_bitCount_29 : decode b_Int_bitCount 29 = .ok (.ldc_w 267, 3) := by decide +kernel
theorem d_Int_bitCount_32 : decode b_Int_bitCount 32 = .ok (.iand, 1) := by decide +kernel
theorem d_Int_bitCount_33 : decode b_Int_bitCount 33 = .ok (.istore_n 0, 1) := by decide +kernel
theorem d_Int_bitCount_34 : decode b_Int_bitCount 34 = .ok (.iload_n 0, 1) := by decide +kernel
theorem d_Int_bitCount_35 : decode b_Int_bitCount 35 = .ok (.iload_n 0, 1) := by decide +kernel
theorem d_Int_bitCount_36 : decode b_Int_bitCount 36 = .ok (.bipush 8, 2) := by decide +kernel
theorem d_Int_bitCount_38 : decode b_Int_bitCount 38 = .ok (.iushr, 1) := by decide +kernel
theorem d_Int_bitCount_39 : decode b_Int_bitCount 39 = .ok (.iadd, 1) := by decide +kernel
theorem d_Int_bitCount_40 : decode b_Int_bitCount 40 = .ok (.istore_n 0, 1) := by decide +kernel
theorem d_Int_bitCount_41 : decode b_Int_bitCount 41 = .ok (.iload_n 0, 1) := by decide +kernel
theorem d_Int_bitCount_42 : decode b_Int_bitCount 42 = .ok (.iload_n 0, 1) := by decide +kernel
theorem d_Int_bitCount_43 : decode b_Int_bitCount 43 = .ok (.bipush 16, 2) := by decide +kernel
theorem d_Int_bitCount_45 : decode b_Int_bitCount 45 = .ok (.iushr, 1) := by decide +kernel
theorem d_Int_bitCount_46 : decode b_Int_bitCount 46 = .ok (.iadd, 1) := by decide +kernel
theorem d_Int_bitCount_47 : decode b_Int_bitCount 47 = .ok (.istore_n 0, 1) := by decide +kernel
theorem d_Int_bitCount_48 : decode b_Int_bitCount 48 = .ok (.iload_n 0, 1) := by decide +kernel
theorem d_Int_bitCount_49 : decode b_Int_bitCount 49 = .ok (.bipush 63, 2) := by decide +kernel
theorem d_Int_bitCount_51 : decode b_Int_bitCount 51 = .ok (.iand, 1) := by decide +kernel
theorem d_Int_bitCount_52 : decode b_Int_bitCount 52 = .ok (.ireturn, 1) := by decide +kernel
theorem d_Long_signum_0 : decode b_Long_signum 0 = .ok (.lload_n 0, 1) := by decide +kernel
theorem d_Long_signum_1 : decode b_Long_signum 1 = .ok (.bipush 63, 2) := by decide +kernel
theorem d_Long_signum_3 : decode b_Long_signum 3 = .ok (.lshr, 1) := by decide +kernel
theorem d_Long_signum_4 : decode b_Long_signum 4 = .ok (.lload_n 0, 1) := by decide +kernel
theorem d_Long_signum_5 : decode b_Long_signum 5 = .ok (.lneg, 1) := by decide +kernel
theorem d_Long_signum_6 : decode b_Long_signum 6 = .ok (.bipush 63, 2) := by decide +kernel
theorem d_Long_signum_8 : decode b_Long_signum 8 = .ok (.lushr, 1) := by decide +kernel
theorem d_Long_signum_9 : decode b_Long_signum 9 = .ok (.lor, 1) := by decide +kernel
theorem d_Long_signum_10 : decode b_Long_signum 10 = .ok (.l2i, 1) := by decide +kernel
theorem d_Long_signum_11 : decode b_Long_signum 11 = .ok (.ireturn, 1) := by decide +kernel
