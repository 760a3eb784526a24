-- decode rows of Divisor
theorem d_Divisor_init_0 : decode b_Divisor_init 0 = .ok (.aload_n 0, 1) := by decide +kernel
theorem d_Divisor_init_1 : decode b_Divisor_init 1 = .ok (.invokespecial 3, 3) := by decide +kernel
theorem d_Divisor_init_4 : decode b_Divisor_init 4 = .ok (.aload_n 0, 1) := by decide +kernel
theorem d_Divisor_init_5 : decode b_Divisor_init 5 = .ok (.new 9, 3) := by decide +kernel
theorem d_Divisor_init_8 : decode b_Divisor_init 8 = .ok (.dup, 1) := by decide +kernel
theorem d_Divisor_init_9 : decode b_Divisor_init 9 = .ok (.bipush 26, 2) := by decide +kernel
theorem d_Divisor_init_11 : decode b_Divisor_init 11 = .ok (.invokespecial 11, 3) := by decide +kernel
theorem d_Divisor_init_14 : decode b_Divisor_init 14 = .ok (.putfield 14, 3) := by decide +kernel
theorem d_Divisor_init_17 : decode b_Divisor_init 17 = .ok (.aload_n 0, 1) := by decide +kernel
theorem d_Divisor_init_18 : decode b_Divisor_init 18 = .ok (.new 9, 3) := by decide +kernel
theorem d_Divisor_init_21 : decode b_Divisor_init 21 = .ok (.dup, 1) := by decide +kernel
theorem d_Divisor_init_22 : decode b_Divisor_init 22 = .ok (.bipush 26, 2) := by decide +kernel
theorem d_Divisor_init_24 : decode b_Divisor_init 24 = .ok (.invokespecial 11, 3) := by decide +kernel
theorem d_Divisor_init_27 : decode b_Divisor_init 27 = .ok (.putfield 20, 3) := by decide +kernel
theorem d_Divisor_init_30 : decode b_Divisor_init 30 = .ok (.aload_n 0, 1) := by decide +kernel
theorem d_Divisor_init_31 : decode b_Divisor_init 31 = .ok (.iconst 0, 1) := by decide +kernel
theorem d_Divisor_init_32 : decode b_Divisor_init 32 = .ok (.putfield 23, 3) := by decide +kernel
theorem d_Divisor_init_35 : decode b_Divisor_init 35 = .ok (.aload_n 0, 1) := by decide +kernel
theorem d_Divisor_init_36 : decode b_Divisor_init 36 = .ok (.iconst 0, 1) := by decide +kernel
theorem d_Divisor_init_37 : decode b_Divisor_init 37 = .ok (.putfield 27, 3) := by decide +kernel
theorem d_Divisor_init_40 : decode b_Divisor_init 40 = .ok (.return_, 1) := by decide +kernel
theorem d_Divisor_setWhole_0 : decode b_Divisor_setWhole 0 = .ok (.aload_n 0, 1) := by decide +kernel
theorem d_Divisor_setWhole_1 : decode b_Divisor_setWhole 1 = .ok (.getfield 14, 3) := by decide +kernel
theorem d_Divisor_setWhole_4 : decode b_Divisor_setWhole 4 = .ok (.aload_n 1, 1) := by decide +kernel
theorem d_Divisor_setWhole_5 : decode b_Divisor_setWhole 5 = .ok (.invokevirtual 30, 3) := by decide +kernel
theorem d_Divisor_setWhole_8 : decode b_Divisor_setWhole 8 = .ok (.aload_n 0, 1) := by decide +kernel
theorem d_Divisor_setWhole_9 : decode b_Divisor_setWhole 9 = .ok (.aload_n 0, 1) := by decide +kernel
theorem d_Divisor_setWhole_10 : decode b_Divisor_setWhole 10 = .ok (.getfield 14, 3) := by decide +kernel
theorem d_Divisor_setWhole_13 : decode b_Divisor_setWhole 13 = .ok (.invokevirtual 34, 3) := by decide +kernel
theorem d_Divisor_setWhole_16 : decode b_Divisor_setWhole 16 = .ok (.putfield 23, 3) := by decide +kernel
theorem d_Divisor_setWhole_19 : decode b_Divisor_setWhole 19 = .ok (.aload_n 0, 1) := by decide +kernel
theorem d_Divisor_setWhole_20 : decode b_Divisor_setWhole 20 = .ok (.getfield 14, 3) := by decide +kernel
theorem d_Divisor_setWhole_23 : decode b_Divisor_setWhole 23 = .ok (.aload_n 0, 1) := by decide +kernel
theorem d_Divisor_setWhole_24 : decode b_Divisor_setWhole 24 = .ok (.getfield 23, 3) := by decide +kernel
theorem d_Divisor_setWhole_27 : decode b_Divisor_setWhole 27 = .ok (.invokevirtual 38, 3) := by decide +kernel
theorem d_Divisor_setWhole_30 : decode b_Divisor_setWhole 30 = .ok (.aload_n 0, 1) := by decide +kernel
theorem d_Divisor_setWhole_31 : decode b_Divisor_setWhole 31 = .ok (.invokevirtual 41, 3) := by decide +kernel
theorem d_Divisor_setWhole_34 : decode b_Divisor_setWhole 34 = .ok (.return_, 1) := by decide +kernel
theorem d_Divisor_setCommon_0 : decode b_Divisor_setCommon 0 = .ok (.aload_n 0, 1) := by decide +kernel
theorem d_Divisor_setCommon_1 : decode b_Divisor_setCommon 1 = .ok (.getfield 14, 3) := by decide +kernel
theorem d_Divisor_setCommon_4 : decode b_Divisor_setCommon 4 = .ok (.aload_n 1, 1) := by decide +kernel
theorem d_Divisor_setCommon_5 : decode b_Divisor_setCommon 5 = .ok (.invokevirtual 30, 3) := by decide +kernel
theorem d_Divisor_setCommon_8 : decode b_Divisor_setCommon 8 = .ok (.aload_n 0, 1) := by decide +kernel
theorem d_Divisor_setCommon_9 : decode b_Divisor_setCommon 9 = .ok (.getfield 20, 3) := by decide +kernel
theorem d_Divisor_setCommon_12 : decode b_Divisor_setCommon 12 = .ok (.aload_n 2, 1) := by decide +kernel
theorem d_Divisor_setCommon_13 : decode b_Divisor_setCommon 13 = .ok (.invokevirtual 30, 3) := by decide +kernel
theorem d_Divisor_setCommon_16 : decode b_Divisor_setCommon 16 = .ok (.aload_n 0, 1) := by decide +kernel
theorem d_Divisor_setCommon_17 : decode b_Divisor_setCommon 17 = .ok (.getfield 14, 3) := by decide +kernel
theorem d_Divisor_setCommon_20 : decode b_Divisor_setCommon 20 = .ok (.invokevirtual 34, 3) := by decide +kernel
theorem d_Divisor_setCommon_23 : decode b_Divisor_setCommon 23 = .ok (.istore_n 3, 1) := by decide +kernel
theorem d_Divisor_setCommon_24 : decode b_Divisor_setCommon 24 = .ok (.aload_n 0, 1) := by decide +kernel
theorem d_Divisor_setCommon_25 : decode b_Divisor_setCommon 25 = .ok (.getfield 20, 3) := by decide +kernel
theorem d_Divisor_setCommon_28 : decode b_Divisor_setCommon 28 = .ok (.invokevirtual 34, 3) := by decide +kernel
theorem d_Divisor_setCommon_31 : decode b_Divisor_setCommon 31 = .ok (.istore 4, 2) := by decide +kernel
theorem d_Divisor_setCommon_33 : decode b_Divisor_setCommon 33 = .ok (.aload_n 0, 1) := by decide +kernel
theorem d_Divisor_setCommon_34 : decode b_Divisor_setCommon 34 = .ok (.iload_n 3, 1) := by decide +kernel
theorem d_Divisor_setCommon_35 : decode b_Divisor_setCommon 35 = .ok (.iload 4, 2) := by decide +kernel
theorem d_Divisor_setCommon_37 : decode b_Divisor_setCommon 37 = .ok (.invokestatic 44, 3) := by decide +kernel
theorem d_Divisor_setCommon_40 : decode b_Divisor_setCommon 40 = .ok (.putfield 23, 3) := by decide +kernel
theorem d_Divisor_setCommon_43 : decode b_Divisor_setCommon 43 = .ok (.aload_n 0, 1) := by decide +kernel
theorem d_Divisor_setCommon_44 : decode b_Divisor_setCommon 44 = .ok (.getfield 14, 3) := by decide +kernel
theorem d_Divisor_setCommon_47 : decode b_Divisor_setCommon 47 = .ok (.iload_n 3, 1) := by decide +kernel
theorem d_Divisor_setCommon_48 : decode b_Divisor_setCommon 48 = .ok (.invokevirtual 38, 3) := by decide +kernel
theorem d_Divisor_setCommon_51 : decode b_Divisor_setCommon 51 = .ok (.aload_n 0, 1) := by decide +kernel
theorem d_Divisor_setCommon_52 : decode b_Divisor_setCommon 52 = .ok (.getfield 20, 3) := by decide +kernel
theorem d_Divisor_setCommon_55 : decode b_Divisor_setCommon 55 = .ok (.iload 4, 2) := by decide +kernel
theorem d_Divisor_setCommon_57 : decode b_Divisor_setCommon 57 = .ok (.invokevirtual 38, 3) := by decide +kernel
theorem d_Divisor_setCommon_60 : decode b_Divisor_setCommon 60 = .ok (.aload_n 0, 1) := by decide +kernel
theorem d_Divisor_setCommon_61 : decode b_Divisor_setCommon 61 = .ok (.invokevirtual 50, 3) := by decide +kernel
theorem d_Divisor_setCommon_64 : decode b_Divisor_setCommon 64 = .ok (.aload_n 0, 1) := by decide +kernel
theorem d_Divisor_setCommon_65 : decode b_Divisor_setCommon 65 = .ok (.getfield 14, 3) := by decide +kernel
theorem d_Divisor_setCommon_68 : decode b_Divisor_setCommon 68 = .ok (.iconst 1, 1) := by decide +kernel
theorem d_Divisor_setCommon_69 : decode b_Divisor_setCommon 69 = .ok (.putfield 53, 3) := by decide +kernel
theorem d_Divisor_setCommon_72 : decode b_Divisor_setCommon 72 = .ok (.aload_n 0, 1) := by decide +kernel
theorem d_Divisor_setCommon_73 : decode b_Divisor_setCommon 73 = .ok (.invokevirtual 41, 3) := by decide +kernel
theorem d_Divisor_setCommon_76 : decode b_Divisor_setCommon 76 = .ok (.return_, 1) := by decide +kernel
theorem d_Divisor_makeEqual_0 : decode b_Divisor_makeEqual 0 = .ok (.iconst 0, 1) := by decide +kernel
theorem d_Divisor_makeEqual_1 : decode b_Divisor_makeEqual 1 = .ok (.istore_n 1, 1) := by decide +kernel
theorem d_Divisor_makeEqual_2 : decode b_Divisor_makeEqual 2 = .ok (.iload_n 1, 1) := by decide +kernel
theorem d_Divisor_makeEqual_3 : decode b_Divisor_makeEqual 3 = .ok (.sipush 1612, 3) := by decide +kernel
theorem d_Divisor_makeEqual_6 : decode b_Divisor_makeEqual 6 = .ok (.if_icmp .ge 55, 3) := by decide +kernel
theorem d_Divisor_makeEqual_9 : decode b_Divisor_makeEqual 9 = .ok (.aload_n 0, 1) := by decide +kernel
theorem d_Divisor_makeEqual_10 : decode b_Divisor_makeEqual 10 = .ok (.getfield 14, 3) := by decide +kernel
theorem d_Divisor_makeEqual_13 : decode b_Divisor_makeEqual 13 = .ok (.aload_n 0, 1) := by decide +kernel
theorem d_Divisor_makeEqual_14 : decode b_Divisor_makeEqual 14 = .ok (.getfield 20, 3) := by decide +kernel
theorem d_Divisor_makeEqual_17 : decode b_Divisor_makeEqual 17 = .ok (.invokevirtual 56, 3) := by decide +kernel
theorem d_Divisor_makeEqual_20 : decode b_Divisor_makeEqual 20 = .ok (.istore_n 2, 1) := by decide +kernel
theorem d_Divisor_makeEqual_21 : decode b_Divisor_makeEqual 21 = .ok (.iload_n 2, 1) := by decide +kernel
theorem d_Divisor_makeEqual_22 : decode b_Divisor_makeEqual 22 = .ok (.ifCond .ne 4, 3) := by decide +kernel
theorem d_Divisor_makeEqual_25 : decode b_Divisor_makeEqual 25 = .ok (.return_, 1) := by decide +kernel
theorem d_Divisor_makeEqual_26 : decode b_Divisor_makeEqual 26 = .ok (.iload_n 2, 1) := by decide +kernel
theorem d_Divisor_makeEqual_27 : decode b_Divisor_makeEqual 27 = .ok (.ifCond .le 17, 3) := by decide +kernel
theorem d_Divisor_makeEqual_30 : decode b_Divisor_makeEqual 30 = .ok (.aload_n 0, 1) := by decide +kernel
theorem d_Divisor_makeEqual_31 : decode b_Divisor_makeEqual 31 = .ok (.getfield 14, 3) := by decide +kernel
theorem d_Divisor_makeEqual_34 : decode b_Divisor_makeEqual 34 = .ok (.aload_n 0, 1) := by decide +kernel
theorem d_Divisor_makeEqual_35 : decode b_Divisor_makeEqual 35 = .ok (.getfield 20, 3) := by decide +kernel
theorem d_Divisor_makeEqual_38 : decode b_Divisor_makeEqual 38 = .ok (.invokestatic 60, 3) := by decide +kernel
theorem d_Divisor_makeEqual_41 : decode b_Divisor_makeEqual 41 = .ok (.goto 14, 3) := by decide +kernel
theorem d_Divisor_makeEqual_44 : decode b_Divisor_makeEqual 44 = .ok (.aload_n 0, 1) := by decide +kernel
theorem d_Divisor_makeEqual_45 : decode b_Divisor_makeEqual 45 = .ok (.getfield 20, 3) := by decide +kernel
theorem d_Divisor_makeEqual_48 : decode b_Divisor_makeEqual 48 = .ok (.aload_n 0, 1) := by decide +kernel
theorem d_Divisor_makeEqual_49 : decode b_Divisor_makeEqual 49 = .ok (.getfield 14, 3) := by decide +kernel
theorem d_Divisor_makeEqual_52 : decode b_Divisor_makeEqual 52 = .ok (.invokestatic 60, 3) := by decide +kernel
theorem d_Divisor_makeEqual_55 : decode b_Divisor_makeEqual 55 = .ok (.iinc 1 1, 3) := by decide +kernel
theorem d_Divisor_makeEqual_58 : decode b_Divisor_makeEqual 58 = .ok (.goto (-56), 3) := by decide +kernel
theorem d_Divisor_makeEqual_61 : decode b_Divisor_makeEqual 61 = .ok (.return_, 1) := by decide +kernel
theorem d_Divisor_lessen_0 : decode b_Divisor_lessen 0 = .ok (.aload_n 0, 1) := by decide +kernel
theorem d_Divisor_lessen_1 : decode b_Divisor_lessen 1 = .ok (.aload_n 0, 1) := by decide +kernel
theorem d_Divisor_lessen_2 : decode b_Divisor_lessen 2 = .ok (.aload_n 1, 1) := by decide +kernel
theorem d_Divisor_lessen_3 : decode b_Divisor_lessen 3 = .ok (.invokevirtual 64, 3) := by decide +kernel
theorem d_Divisor_lessen_6 : decode b_Divisor_lessen 6 = .ok (.aload_n 0, 1) := by decide +kernel
theorem d_Divisor_lessen_7 : decode b_Divisor_lessen 7 = .ok (.aload_n 0, 1) := by decide +kernel
theorem d_Divisor_lessen_8 : decode b_Divisor_lessen 8 = .ok (.invokevirtual 34, 3) := by decide +kernel
theorem d_Divisor_lessen_11 : decode b_Divisor_lessen 11 = .ok (.invokevirtual 38, 3) := by decide +kernel
theorem d_Divisor_lessen_14 : decode b_Divisor_lessen 14 = .ok (.return_, 1) := by decide +kernel
theorem d_Divisor_setInverse_0 : decode b_Divisor_setInverse 0 = .ok (.aload_n 0, 1) := by decide +kernel
theorem d_Divisor_setInverse_1 : decode b_Divisor_setInverse 1 = .ok (.getfield 14, 3) := by decide +kernel
theorem d_Divisor_setInverse_4 : decode b_Divisor_setInverse 4 = .ok (.iconst 0, 1) := by decide +kernel
theorem d_Divisor_setInverse_5 : decode b_Divisor_setInverse 5 = .ok (.invokevirtual 67, 3) := by decide +kernel
theorem d_Divisor_setInverse_8 : decode b_Divisor_setInverse 8 = .ok (.istore_n 1, 1) := by decide +kernel
theorem d_Divisor_setInverse_9 : decode b_Divisor_setInverse 9 = .ok (.iload_n 1, 1) := by decide +kernel
theorem d_Divisor_setInverse_10 : decode b_Divisor_setInverse 10 = .ok (.istore_n 2, 1) := by decide +kernel
theorem d_Divisor_setInverse_11 : decode b_Divisor_setInverse 11 = .ok (.iconst 0, 1) := by decide +kernel
theorem d_Divisor_setInverse_12 : decode b_Divisor_setInverse 12 = .ok (.istore_n 3, 1) := by decide +kernel
theorem d_Divisor_setInverse_13 : decode b_Divisor_setInverse 13 = .ok (.iload_n 3, 1) := by decide +kernel
theorem d_Divisor_setInverse_14 : decode b_Divisor_setInverse 14 = .ok (.iconst 4, 1) := by decide +kernel
theorem d_Divisor_setInverse_15 : decode b_Divisor_setInverse 15 = .ok (.if_icmp .ge 17, 3) := by decide +kernel
theorem d_Divisor_setInverse_18 : decode b_Divisor_setInverse 18 = .ok (.iload_n 2, 1) := by decide +kernel
theorem d_Divisor_setInverse_19 : decode b_Divisor_setInverse 19 = .ok (.iconst 2, 1) := by decide +kernel
theorem d_Divisor_setInverse_20 : decode b_Divisor_setInverse 20 = .ok (.iload_n 1, 1) := by decide +kernel
theorem d_Divisor_setInverse_21 : decode b_Divisor_setInverse 21 = .ok (.iload_n 2, 1) := by decide +kernel
theorem d_Divisor_setInverse_22 : decode b_Divisor_setInverse 22 = .ok (.imul, 1) := by decide +kernel
theorem d_Divisor_setInverse_23 : decode b_Divisor_setInverse 23 = .ok (.isub, 1) := by decide +kernel
theorem d_Divisor_setInverse_24 : decode b_Divisor_setInverse 24 = .ok (.imul, 1) := by decide +kernel
theorem d_Divisor_setInverse_25 : decode b_Divisor_setInverse 25 = .ok (.istore_n 2, 1) := by decide +kernel
theorem d_Divisor_setInverse_26 : decode b_Divisor_setInverse 26 = .ok (.iinc 3 1, 3) := by decide +kernel
theorem d_Divisor_setInverse_29 : decode b_Divisor_setInverse 29 = .ok (.goto (-16), 3) := by decide +kernel
theorem d_Divisor_setInverse_32 : decode b_Divisor_setInverse 32 = .ok (.aload_n 0, 1) := by decide +kernel
theorem d_Divisor_setInverse_33 : decode b_Divisor_setInverse 33 = .ok (.iload_n 2, 1) := by decide +kernel
theorem d_Divisor_setInverse_34 : decode b_Divisor_setInverse 34 = .ok (.ldc 71, 2) := by decide +kernel
theorem d_Divisor_setInverse_36 : decode b_Divisor_setInverse 36 = .ok (.iand, 1) := by decide +kernel
theorem d_Divisor_setInverse_37 : decode b_Divisor_setInverse 37 = .ok (.putfield 27, 3) := by decide +kernel
theorem d_Divisor_setInverse_40 : decode b_Divisor_setInverse 40 = .ok (.return_, 1) := by decide +kernel
theorem d_Divisor_divide_0 : decode b_Divisor_divide 0 = .ok (.aload_n 1, 1) := by decide +kernel
theorem d_Divisor_divide_1 : decode b_Divisor_divide 1 = .ok (.aload_n 0, 1) := by decide +kernel
theorem d_Divisor_divide_2 : decode b_Divisor_divide 2 = .ok (.getfield 23, 3) := by decide +kernel
theorem d_Divisor_divide_5 : decode b_Divisor_divide 5 = .ok (.invokevirtual 38, 3) := by decide +kernel
theorem d_Divisor_divide_8 : decode b_Divisor_divide 8 = .ok (.aload_n 1, 1) := by decide +kernel
theorem d_Divisor_divide_9 : decode b_Divisor_divide 9 = .ok (.getfield 72, 3) := by decide +kernel
theorem d_Divisor_divide_12 : decode b_Divisor_divide 12 = .ok (.aload_n 0, 1) := by decide +kernel
theorem d_Divisor_divide_13 : decode b_Divisor_divide 13 = .ok (.getfield 14, 3) := by decide +kernel
theorem d_Divisor_divide_16 : decode b_Divisor_divide 16 = .ok (.getfield 72, 3) := by decide +kernel
theorem d_Divisor_divide_19 : decode b_Divisor_divide 19 = .ok (.isub, 1) := by decide +kernel
theorem d_Divisor_divide_20 : decode b_Divisor_divide 20 = .ok (.iconst 1, 1) := by decide +kernel
theorem d_Divisor_divide_21 : decode b_Divisor_divide 21 = .ok (.iadd, 1) := by decide +kernel
theorem d_Divisor_divide_22 : decode b_Divisor_divide 22 = .ok (.iconst 0, 1) := by decide +kernel
theorem d_Divisor_divide_23 : decode b_Divisor_divide 23 = .ok (.invokestatic 75, 3) := by decide +kernel
theorem d_Divisor_divide_26 : decode b_Divisor_divide 26 = .ok (.aload_n 1, 1) := by decide +kernel
theorem d_Divisor_divide_27 : decode b_Divisor_divide 27 = .ok (.getfield 72, 3) := by decide +kernel
theorem d_Divisor_divide_30 : decode b_Divisor_divide 30 = .ok (.invokestatic 44, 3) := by decide +kernel
theorem d_Divisor_divide_33 : decode b_Divisor_divide 33 = .ok (.istore_n 2, 1) := by decide +kernel
theorem d_Divisor_divide_34 : decode b_Divisor_divide 34 = .ok (.iconst 0, 1) := by decide +kernel
theorem d_Divisor_divide_35 : decode b_Divisor_divide 35 = .ok (.istore_n 3, 1) := by decide +kernel
theorem d_Divisor_divide_36 : decode b_Divisor_divide 36 = .ok (.iload_n 3, 1) := by decide +kernel
theorem d_Divisor_divide_37 : decode b_Divisor_divide 37 = .ok (.iload_n 2, 1) := by decide +kernel
theorem d_Divisor_divide_38 : decode b_Divisor_divide 38 = .ok (.if_icmp .ge 45, 3) := by decide +kernel
theorem d_Divisor_divide_41 : decode b_Divisor_divide 41 = .ok (.aload_n 1, 1) := by decide +kernel
theorem d_Divisor_divide_42 : decode b_Divisor_divide 42 = .ok (.getfield 78, 3) := by decide +kernel
theorem d_Divisor_divide_45 : decode b_Divisor_divide 45 = .ok (.iload_n 3, 1) := by decide +kernel
theorem d_Divisor_divide_46 : decode b_Divisor_divide 46 = .ok (.iaload, 1) := by decide +kernel
theorem d_Divisor_divide_47 : decode b_Divisor_divide 47 = .ok (.aload_n 0, 1) := by decide +kernel
theorem d_Divisor_divide_48 : decode b_Divisor_divide 48 = .ok (.getfield 27, 3) := by decide +kernel
theorem d_Divisor_divide_51 : decode b_Divisor_divide 51 = .ok (.imul, 1) := by decide +kernel
theorem d_Divisor_divide_52 : decode b_Divisor_divide 52 = .ok (.ldc 71, 2) := by decide +kernel
theorem d_Divisor_divide_54 : decode b_Divisor_divide 54 = .ok (.iand, 1) := by decide +kernel
theorem d_Divisor_divide_55 : decode b_Divisor_divide 55 = .ok (.istore 4, 2) := by decide +kernel
theorem d_Divisor_divide_57 : decode b_Divisor_divide 57 = .ok (.aload_n 0, 1) := by decide +kernel
theorem d_Divisor_divide_58 : decode b_Divisor_divide 58 = .ok (.aload_n 1, 1) := by decide +kernel
theorem d_Divisor_divide_59 : decode b_Divisor_divide 59 = .ok (.getfield 78, 3) := by decide +kernel
theorem d_Divisor_divide_62 : decode b_Divisor_divide 62 = .ok (.iload 4, 2) := by decide +kernel
theorem d_Divisor_divide_64 : decode b_Divisor_divide 64 = .ok (.iload_n 3, 1) := by decide +kernel
theorem d_Divisor_divide_65 : decode b_Divisor_divide 65 = .ok (.iload_n 2, 1) := by decide +kernel
theorem d_Divisor_divide_66 : decode b_Divisor_divide 66 = .ok (.invokevirtual 82, 3) := by decide +kernel
theorem d_Divisor_divide_69 : decode b_Divisor_divide 69 = .ok (.aload_n 1, 1) := by decide +kernel
theorem d_Divisor_divide_70 : decode b_Divisor_divide 70 = .ok (.getfield 78, 3) := by decide +kernel
theorem d_Divisor_divide_73 : decode b_Divisor_divide 73 = .ok (.iload_n 3, 1) := by decide +kernel
theorem d_Divisor_divide_74 : decode b_Divisor_divide 74 = .ok (.iload 4, 2) := by decide +kernel
theorem d_Divisor_divide_76 : decode b_Divisor_divide 76 = .ok (.iastore, 1) := by decide +kernel
theorem d_Divisor_divide_77 : decode b_Divisor_divide 77 = .ok (.iinc 3 1, 3) := by decide +kernel
theorem d_Divisor_divide_80 : decode b_Divisor_divide 80 = .ok (.goto (-44), 3) := by decide +kernel
theorem d_Divisor_divide_83 : decode b_Divisor_divide 83 = .ok (.aload_n 1, 1) := by decide +kernel
theorem d_Divisor_divide_84 : decode b_Divisor_divide 84 = .ok (.aload_n 1, 1) := by decide +kernel
theorem d_Divisor_divide_85 : decode b_Divisor_divide 85 = .ok (.getfield 53, 3) := by decide +kernel
theorem d_Divisor_divide_88 : decode b_Divisor_divide 88 = .ok (.aload_n 0, 1) := by decide +kernel
theorem d_Divisor_divide_89 : decode b_Divisor_divide 89 = .ok (.getfield 14, 3) := by decide +kernel
theorem d_Divisor_divide_92 : decode b_Divisor_divide 92 = .ok (.getfield 53, 3) := by decide +kernel
theorem d_Divisor_divide_95 : decode b_Divisor_divide 95 = .ok (.imul, 1) := by decide +kernel
theorem d_Divisor_divide_96 : decode b_Divisor_divide 96 = .ok (.putfield 53, 3) := by decide +kernel
theorem d_Divisor_divide_99 : decode b_Divisor_divide 99 = .ok (.aload_n 1, 1) := by decide +kernel
theorem d_Divisor_divide_100 : decode b_Divisor_divide 100 = .ok (.iload_n 2, 1) := by decide +kernel
theorem d_Divisor_divide_101 : decode b_Divisor_divide 101 = .ok (.invokevirtual 86, 3) := by decide +kernel
theorem d_Divisor_divide_104 : decode b_Divisor_divide 104 = .ok (.return_, 1) := by decide +kernel
theorem d_Divisor_subtractMultiple_0 : decode b_Divisor_subtractMultiple 0 = .ok (.iload_n 2, 1) := by decide +kernel
theorem d_Divisor_subtractMultiple_1 : decode b_Divisor_subtractMultiple 1 = .ok (.i2l, 1) := by decide +kernel
theorem d_Divisor_subtractMultiple_2 : decode b_Divisor_subtractMultiple 2 = .ok (.lstore 5, 2) := by decide +kernel
theorem d_Divisor_subtractMultiple_4 : decode b_Divisor_subtractMultiple 4 = .ok (.lconst 0, 1) := by decide +kernel
theorem d_Divisor_subtractMultiple_5 : decode b_Divisor_subtractMultiple 5 = .ok (.lstore 7, 2) := by decide +kernel
theorem d_Divisor_subtractMultiple_7 : decode b_Divisor_subtractMultiple 7 = .ok (.aload_n 0, 1) := by decide +kernel
theorem d_Divisor_subtractMultiple_8 : decode b_Divisor_subtractMultiple 8 = .ok (.getfield 14, 3) := by decide +kernel
theorem d_Divisor_subtractMultiple_11 : decode b_Divisor_subtractMultiple 11 = .ok (.getfield 72, 3) := by decide +kernel
theorem d_Divisor_subtractMultiple_14 : decode b_Divisor_subtractMultiple 14 = .ok (.iload 4, 2) := by decide +kernel
theorem d_Divisor_subtractMultiple_16 : decode b_Divisor_subtractMultiple 16 = .ok (.iload_n 3, 1) := by decide +kernel
theorem d_Divisor_subtractMultiple_17 : decode b_Divisor_subtractMultiple 17 = .ok (.isub, 1) := by decide +kernel
theorem d_Divisor_subtractMultiple_18 : decode b_Divisor_subtractMultiple 18 = .ok (.invokestatic 44, 3) := by decide +kernel
theorem d_Divisor_subtractMultiple_21 : decode b_Divisor_subtractMultiple 21 = .ok (.istore 9, 2) := by decide +kernel
theorem d_Divisor_subtractMultiple_23 : decode b_Divisor_subtractMultiple 23 = .ok (.iconst 0, 1) := by decide +kernel
theorem d_Divisor_subtractMultiple_24 : decode b_Divisor_subtractMultiple 24 = .ok (.istore 10, 2) := by decide +kernel
theorem d_Divisor_subtractMultiple_26 : decode b_Divisor_subtractMultiple 26 = .ok (.iload 10, 2) := by decide +kernel
theorem d_Divisor_subtractMultiple_28 : decode b_Divisor_subtractMultiple 28 = .ok (.iload 9, 2) := by decide +kernel
theorem d_Divisor_subtractMultiple_30 : decode b_Divisor_subtractMultiple 30 = .ok (.if_icmp .ge 56, 3) := by decide +kernel
theorem d_Divisor_subtractMultiple_33 : decode b_Divisor_subtractMultiple 33 = .ok (.aload_n 1, 1) := by decide +kernel
theorem d_Divisor_subtractMultiple_34 : decode b_Divisor_subtractMultiple 34 = .ok (.iload_n 3, 1) := by decide +kernel
theorem d_Divisor_subtractMultiple_35 : decode b_Divisor_subtractMultiple 35 = .ok (.iload 10, 2) := by decide +kernel
theorem d_Divisor_subtractMultiple_37 : decode b_Divisor_subtractMultiple 37 = .ok (.iadd, 1) := by decide +kernel
theorem d_Divisor_subtractMultiple_38 : decode b_Divisor_subtractMultiple 38 = .ok (.iaload, 1) := by decide +kernel
theorem d_Divisor_subtractMultiple_39 : decode b_Divisor_subtractMultiple 39 = .ok (.i2l, 1) := by decide +kernel
theorem d_Divisor_subtractMultiple_40 : decode b_Divisor_subtractMultiple 40 = .ok (.lload 5, 2) := by decide +kernel
theorem d_Divisor_subtractMultiple_42 : decode b_Divisor_subtractMultiple 42 = .ok (.aload_n 0, 1) := by decide +kernel
theorem d_Divisor_subtractMultiple_43 : decode b_Divisor_subtractMultiple 43 = .ok (.getfield 14, 3) := by decide +kernel
theorem d_Divisor_subtractMultiple_46 : decode b_Divisor_subtractMultiple 46 = .ok (.getfield 78, 3) := by decide +kernel
theorem d_Divisor_subtractMultiple_49 : decode b_Divisor_subtractMultiple 49 = .ok (.iload 10, 2) := by decide +kernel
theorem d_Divisor_subtractMultiple_51 : decode b_Divisor_subtractMultiple 51 = .ok (.iaload, 1) := by decide +kernel
theorem d_Divisor_subtractMultiple_52 : decode b_Divisor_subtractMultiple 52 = .ok (.i2l, 1) := by decide +kernel
theorem d_Divisor_subtractMultiple_53 : decode b_Divisor_subtractMultiple 53 = .ok (.lmul, 1) := by decide +kernel
theorem d_Divisor_subtractMultiple_54 : decode b_Divisor_subtractMultiple 54 = .ok (.lsub, 1) := by decide +kernel
theorem d_Divisor_subtractMultiple_55 : decode b_Divisor_subtractMultiple 55 = .ok (.lload 7, 2) := by decide +kernel
theorem d_Divisor_subtractMultiple_57 : decode b_Divisor_subtractMultiple 57 = .ok (.ladd, 1) := by decide +kernel
theorem d_Divisor_subtractMultiple_58 : decode b_Divisor_subtractMultiple 58 = .ok (.lstore 11, 2) := by decide +kernel
theorem d_Divisor_subtractMultiple_60 : decode b_Divisor_subtractMultiple 60 = .ok (.aload_n 1, 1) := by decide +kernel
theorem d_Divisor_subtractMultiple_61 : decode b_Divisor_subtractMultiple 61 = .ok (.iload_n 3, 1) := by decide +kernel
theorem d_Divisor_subtractMultiple_62 : decode b_Divisor_subtractMultiple 62 = .ok (.iload 10, 2) := by decide +kernel
theorem d_Divisor_subtractMultiple_64 : decode b_Divisor_subtractMultiple 64 = .ok (.iadd, 1) := by decide +kernel
theorem d_Divisor_subtractMultiple_65 : decode b_Divisor_subtractMultiple 65 = .ok (.lload 11, 2) := by decide +kernel
theorem d_Divisor_subtractMultiple_67 : decode b_Divisor_subtractMultiple 67 = .ok (.ldc2_w 89, 3) := by decide +kernel
theorem d_Divisor_subtractMultiple_70 : decode b_Divisor_subtractMultiple 70 = .ok (.land, 1) := by decide +kernel
theorem d_Divisor_subtractMultiple_71 : decode b_Divisor_subtractMultiple 71 = .ok (.l2i, 1) := by decide +kernel
theorem d_Divisor_subtractMultiple_72 : decode b_Divisor_subtractMultiple 72 = .ok (.iastore, 1) := by decide +kernel
theorem d_Divisor_subtractMultiple_73 : decode b_Divisor_subtractMultiple 73 = .ok (.lload 11, 2) := by decide +kernel
theorem d_Divisor_subtractMultiple_75 : decode b_Divisor_subtractMultiple 75 = .ok (.bipush 31, 2) := by decide +kernel
theorem d_Divisor_subtractMultiple_77 : decode b_Divisor_subtractMultiple 77 = .ok (.lshr, 1) := by decide +kernel
theorem d_Divisor_subtractMultiple_78 : decode b_Divisor_subtractMultiple 78 = .ok (.lstore 7, 2) := by decide +kernel
theorem d_Divisor_subtractMultiple_80 : decode b_Divisor_subtractMultiple 80 = .ok (.iinc 10 1, 3) := by decide +kernel
theorem d_Divisor_subtractMultiple_83 : decode b_Divisor_subtractMultiple 83 = .ok (.goto (-57), 3) := by decide +kernel
theorem d_Divisor_subtractMultiple_86 : decode b_Divisor_subtractMultiple 86 = .ok (.iload_n 3, 1) := by decide +kernel
theorem d_Divisor_subtractMultiple_87 : decode b_Divisor_subtractMultiple 87 = .ok (.iload 9, 2) := by decide +kernel
theorem d_Divisor_subtractMultiple_89 : decode b_Divisor_subtractMultiple 89 = .ok (.iadd, 1) := by decide +kernel
theorem d_Divisor_subtractMultiple_90 : decode b_Divisor_subtractMultiple 90 = .ok (.istore 10, 2) := by decide +kernel
theorem d_Divisor_subtractMultiple_92 : decode b_Divisor_subtractMultiple 92 = .ok (.iload 10, 2) := by decide +kernel
theorem d_Divisor_subtractMultiple_94 : decode b_Divisor_subtractMultiple 94 = .ok (.iload 4, 2) := by decide +kernel
theorem d_Divisor_subtractMultiple_96 : decode b_Divisor_subtractMultiple 96 = .ok (.if_icmp .ge 44, 3) := by decide +kernel
theorem d_Divisor_subtractMultiple_99 : decode b_Divisor_subtractMultiple 99 = .ok (.lload 7, 2) := by decide +kernel
theorem d_Divisor_subtractMultiple_101 : decode b_Divisor_subtractMultiple 101 = .ok (.lconst 0, 1) := by decide +kernel
theorem d_Divisor_subtractMultiple_102 : decode b_Divisor_subtractMultiple 102 = .ok (.lcmp, 1) := by decide +kernel
theorem d_Divisor_subtractMultiple_103 : decode b_Divisor_subtractMultiple 103 = .ok (.ifCond .eq 37, 3) := by decide +kernel
theorem d_Divisor_subtractMultiple_106 : decode b_Divisor_subtractMultiple 106 = .ok (.aload_n 1, 1) := by decide +kernel
theorem d_Divisor_subtractMultiple_107 : decode b_Divisor_subtractMultiple 107 = .ok (.iload 10, 2) := by decide +kernel
theorem d_Divisor_subtractMultiple_109 : decode b_Divisor_subtractMultiple 109 = .ok (.iaload, 1) := by decide +kernel
theorem d_Divisor_subtractMultiple_110 : decode b_Divisor_subtractMultiple 110 = .ok (.i2l, 1) := by decide +kernel
theorem d_Divisor_subtractMultiple_111 : decode b_Divisor_subtractMultiple 111 = .ok (.lload 7, 2) := by decide +kernel
theorem d_Divisor_subtractMultiple_113 : decode b_Divisor_subtractMultiple 113 = .ok (.ladd, 1) := by decide +kernel
theorem d_Divisor_subtractMultiple_114 : decode b_Divisor_subtractMultiple 114 = .ok (.lstore 11, 2) := by decide +kernel
theorem d_Divisor_subtractMultiple_116 : decode b_Divisor_subtractMultiple 116 = .ok (.aload_n 1, 1) := by decide +kernel
theorem d_Divisor_subtractMultiple_117 : decode b_Divisor_subtractMultiple 117 = .ok (.iload 10, 2) := by decide +kernel
theorem d_Divisor_subtractMultiple_119 : decode b_Divisor_subtractMultiple 119 = .ok (.lload 11, 2) := by decide +kernel
theorem d_Divisor_subtractMultiple_121 : decode b_Divisor_subtractMultiple 121 = .ok (.ldc2_w 89, 3) := by decide +kernel
theorem d_Divisor_subtractMultiple_124 : decode b_Divisor_subtractMultiple 124 = .ok (.land, 1) := by decide +kernel
theorem d_Divisor_subtractMultiple_125 : decode b_Divisor_subtractMultiple 125 = .ok (.l2i, 1) := by decide +kernel
theorem d_Divisor_subtractMultiple_126 : decode b_Divisor_subtractMultiple 126 = .ok (.iastore, 1) := by decide +kernel
theorem d_Divisor_subtractMultiple_127 : decode b_Divisor_subtractMultiple 127 = .ok (.lload 11, 2) := by decide +kernel
theorem d_Divisor_subtractMultiple_129 : decode b_Divisor_subtractMultiple 129 = .ok (.bipush 31, 2) := by decide +kernel
theorem d_Divisor_subtractMultiple_131 : decode b_Divisor_subtractMultiple 131 = .ok (.lshr, 1) := by decide +kernel
theorem d_Divisor_subtractMultiple_132 : decode b_Divisor_subtractMultiple 132 = .ok (.lstore 7, 2) := by decide +kernel
theorem d_Divisor_subtractMultiple_134 : decode b_Divisor_subtractMultiple 134 = .ok (.iinc 10 1, 3) := by decide +kernel
theorem d_Divisor_subtractMultiple_137 : decode b_Divisor_subtractMultiple 137 = .ok (.goto (-45), 3) := by decide +kernel
theorem d_Divisor_subtractMultiple_140 : decode b_Divisor_subtractMultiple 140 = .ok (.return_, 1) := by decide +kernel
