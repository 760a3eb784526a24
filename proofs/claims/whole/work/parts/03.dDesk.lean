-- decode rows of Desk
theorem d_Desk_init_0 : decode b_Desk_init 0 = .ok (.aload_n 0, 1) := by decide +kernel
theorem d_Desk_init_1 : decode b_Desk_init 1 = .ok (.invokespecial 3, 3) := by decide +kernel
theorem d_Desk_init_4 : decode b_Desk_init 4 = .ok (.aload_n 0, 1) := by decide +kernel
theorem d_Desk_init_5 : decode b_Desk_init 5 = .ok (.sipush 156, 3) := by decide +kernel
theorem d_Desk_init_8 : decode b_Desk_init 8 = .ok (.newarray .long, 2) := by decide +kernel
theorem d_Desk_init_10 : decode b_Desk_init 10 = .ok (.putfield 9, 3) := by decide +kernel
theorem d_Desk_init_13 : decode b_Desk_init 13 = .ok (.aload_n 0, 1) := by decide +kernel
theorem d_Desk_init_14 : decode b_Desk_init 14 = .ok (.iconst 0, 1) := by decide +kernel
theorem d_Desk_init_15 : decode b_Desk_init 15 = .ok (.putfield 13, 3) := by decide +kernel
theorem d_Desk_init_18 : decode b_Desk_init 18 = .ok (.aload_n 0, 1) := by decide +kernel
theorem d_Desk_init_19 : decode b_Desk_init 19 = .ok (.iconst 0, 1) := by decide +kernel
theorem d_Desk_init_20 : decode b_Desk_init 20 = .ok (.putfield 17, 3) := by decide +kernel
theorem d_Desk_init_23 : decode b_Desk_init 23 = .ok (.aload_n 0, 1) := by decide +kernel
theorem d_Desk_init_24 : decode b_Desk_init 24 = .ok (.sipush 156, 3) := by decide +kernel
theorem d_Desk_init_27 : decode b_Desk_init 27 = .ok (.anewarray 21, 3) := by decide +kernel
theorem d_Desk_init_30 : decode b_Desk_init 30 = .ok (.putfield 23, 3) := by decide +kernel
theorem d_Desk_init_33 : decode b_Desk_init 33 = .ok (.aload_n 0, 1) := by decide +kernel
theorem d_Desk_init_34 : decode b_Desk_init 34 = .ok (.new 21, 3) := by decide +kernel
theorem d_Desk_init_37 : decode b_Desk_init 37 = .ok (.dup, 1) := by decide +kernel
theorem d_Desk_init_38 : decode b_Desk_init 38 = .ok (.bipush 26, 2) := by decide +kernel
theorem d_Desk_init_40 : decode b_Desk_init 40 = .ok (.invokespecial 27, 3) := by decide +kernel
theorem d_Desk_init_43 : decode b_Desk_init 43 = .ok (.putfield 30, 3) := by decide +kernel
theorem d_Desk_init_46 : decode b_Desk_init 46 = .ok (.aload_n 0, 1) := by decide +kernel
theorem d_Desk_init_47 : decode b_Desk_init 47 = .ok (.new 21, 3) := by decide +kernel
theorem d_Desk_init_50 : decode b_Desk_init 50 = .ok (.dup, 1) := by decide +kernel
theorem d_Desk_init_51 : decode b_Desk_init 51 = .ok (.bipush 26, 2) := by decide +kernel
theorem d_Desk_init_53 : decode b_Desk_init 53 = .ok (.invokespecial 27, 3) := by decide +kernel
theorem d_Desk_init_56 : decode b_Desk_init 56 = .ok (.putfield 34, 3) := by decide +kernel
theorem d_Desk_init_59 : decode b_Desk_init 59 = .ok (.aload_n 0, 1) := by decide +kernel
theorem d_Desk_init_60 : decode b_Desk_init 60 = .ok (.new 21, 3) := by decide +kernel
theorem d_Desk_init_63 : decode b_Desk_init 63 = .ok (.dup, 1) := by decide +kernel
theorem d_Desk_init_64 : decode b_Desk_init 64 = .ok (.bipush 26, 2) := by decide +kernel
theorem d_Desk_init_66 : decode b_Desk_init 66 = .ok (.invokespecial 27, 3) := by decide +kernel
theorem d_Desk_init_69 : decode b_Desk_init 69 = .ok (.putfield 37, 3) := by decide +kernel
theorem d_Desk_init_72 : decode b_Desk_init 72 = .ok (.aload_n 0, 1) := by decide +kernel
theorem d_Desk_init_73 : decode b_Desk_init 73 = .ok (.new 21, 3) := by decide +kernel
theorem d_Desk_init_76 : decode b_Desk_init 76 = .ok (.dup, 1) := by decide +kernel
theorem d_Desk_init_77 : decode b_Desk_init 77 = .ok (.bipush 52, 2) := by decide +kernel
theorem d_Desk_init_79 : decode b_Desk_init 79 = .ok (.invokespecial 27, 3) := by decide +kernel
theorem d_Desk_init_82 : decode b_Desk_init 82 = .ok (.putfield 40, 3) := by decide +kernel
theorem d_Desk_init_85 : decode b_Desk_init 85 = .ok (.aload_n 0, 1) := by decide +kernel
theorem d_Desk_init_86 : decode b_Desk_init 86 = .ok (.new 21, 3) := by decide +kernel
theorem d_Desk_init_89 : decode b_Desk_init 89 = .ok (.dup, 1) := by decide +kernel
theorem d_Desk_init_90 : decode b_Desk_init 90 = .ok (.bipush 52, 2) := by decide +kernel
theorem d_Desk_init_92 : decode b_Desk_init 92 = .ok (.invokespecial 27, 3) := by decide +kernel
theorem d_Desk_init_95 : decode b_Desk_init 95 = .ok (.putfield 43, 3) := by decide +kernel
theorem d_Desk_init_98 : decode b_Desk_init 98 = .ok (.aload_n 0, 1) := by decide +kernel
theorem d_Desk_init_99 : decode b_Desk_init 99 = .ok (.new 46, 3) := by decide +kernel
theorem d_Desk_init_102 : decode b_Desk_init 102 = .ok (.dup, 1) := by decide +kernel
theorem d_Desk_init_103 : decode b_Desk_init 103 = .ok (.invokespecial 48, 3) := by decide +kernel
theorem d_Desk_init_106 : decode b_Desk_init 106 = .ok (.putfield 49, 3) := by decide +kernel
theorem d_Desk_init_109 : decode b_Desk_init 109 = .ok (.iconst 0, 1) := by decide +kernel
theorem d_Desk_init_110 : decode b_Desk_init 110 = .ok (.istore_n 1, 1) := by decide +kernel
theorem d_Desk_init_111 : decode b_Desk_init 111 = .ok (.iload_n 1, 1) := by decide +kernel
theorem d_Desk_init_112 : decode b_Desk_init 112 = .ok (.aload_n 0, 1) := by decide +kernel
theorem d_Desk_init_113 : decode b_Desk_init 113 = .ok (.getfield 23, 3) := by decide +kernel
theorem d_Desk_init_116 : decode b_Desk_init 116 = .ok (.arraylength, 1) := by decide +kernel
theorem d_Desk_init_117 : decode b_Desk_init 117 = .ok (.if_icmp .ge 24, 3) := by decide +kernel
theorem d_Desk_init_120 : decode b_Desk_init 120 = .ok (.aload_n 0, 1) := by decide +kernel
theorem d_Desk_init_121 : decode b_Desk_init 121 = .ok (.getfield 23, 3) := by decide +kernel
theorem d_Desk_init_124 : decode b_Desk_init 124 = .ok (.iload_n 1, 1) := by decide +kernel
theorem d_Desk_init_125 : decode b_Desk_init 125 = .ok (.new 21, 3) := by decide +kernel
theorem d_Desk_init_128 : decode b_Desk_init 128 = .ok (.dup, 1) := by decide +kernel
theorem d_Desk_init_129 : decode b_Desk_init 129 = .ok (.bipush 26, 2) := by decide +kernel
theorem d_Desk_init_131 : decode b_Desk_init 131 = .ok (.invokespecial 27, 3) := by decide +kernel
theorem d_Desk_init_134 : decode b_Desk_init 134 = .ok (.aastore, 1) := by decide +kernel
theorem d_Desk_init_135 : decode b_Desk_init 135 = .ok (.iinc 1 1, 3) := by decide +kernel
theorem d_Desk_init_138 : decode b_Desk_init 138 = .ok (.goto (-27), 3) := by decide +kernel
theorem d_Desk_init_141 : decode b_Desk_init 141 = .ok (.aload_n 0, 1) := by decide +kernel
theorem d_Desk_init_142 : decode b_Desk_init 142 = .ok (.getfield 37, 3) := by decide +kernel
theorem d_Desk_init_145 : decode b_Desk_init 145 = .ok (.lconst 1, 1) := by decide +kernel
theorem d_Desk_init_146 : decode b_Desk_init 146 = .ok (.invokevirtual 53, 3) := by decide +kernel
theorem d_Desk_init_149 : decode b_Desk_init 149 = .ok (.return_, 1) := by decide +kernel
theorem d_Desk_size_0 : decode b_Desk_size 0 = .ok (.iload_n 1, 1) := by decide +kernel
theorem d_Desk_size_1 : decode b_Desk_size 1 = .ok (.ifCond .lt 9, 3) := by decide +kernel
theorem d_Desk_size_4 : decode b_Desk_size 4 = .ok (.iload_n 1, 1) := by decide +kernel
theorem d_Desk_size_5 : decode b_Desk_size 5 = .ok (.bipush 12, 2) := by decide +kernel
theorem d_Desk_size_7 : decode b_Desk_size 7 = .ok (.if_icmp .le 11, 3) := by decide +kernel
theorem d_Desk_size_10 : decode b_Desk_size 10 = .ok (.new 57, 3) := by decide +kernel
theorem d_Desk_size_13 : decode b_Desk_size 13 = .ok (.dup, 1) := by decide +kernel
theorem d_Desk_size_14 : decode b_Desk_size 14 = .ok (.invokespecial 59, 3) := by decide +kernel
theorem d_Desk_size_17 : decode b_Desk_size 17 = .ok (.athrow, 1) := by decide +kernel
theorem d_Desk_size_18 : decode b_Desk_size 18 = .ok (.iconst 0, 1) := by decide +kernel
theorem d_Desk_size_19 : decode b_Desk_size 19 = .ok (.istore_n 2, 1) := by decide +kernel
theorem d_Desk_size_20 : decode b_Desk_size 20 = .ok (.iload_n 2, 1) := by decide +kernel
theorem d_Desk_size_21 : decode b_Desk_size 21 = .ok (.aload_n 0, 1) := by decide +kernel
theorem d_Desk_size_22 : decode b_Desk_size 22 = .ok (.getfield 9, 3) := by decide +kernel
theorem d_Desk_size_25 : decode b_Desk_size 25 = .ok (.arraylength, 1) := by decide +kernel
theorem d_Desk_size_26 : decode b_Desk_size 26 = .ok (.if_icmp .ge 16, 3) := by decide +kernel
theorem d_Desk_size_29 : decode b_Desk_size 29 = .ok (.aload_n 0, 1) := by decide +kernel
theorem d_Desk_size_30 : decode b_Desk_size 30 = .ok (.getfield 9, 3) := by decide +kernel
theorem d_Desk_size_33 : decode b_Desk_size 33 = .ok (.iload_n 2, 1) := by decide +kernel
theorem d_Desk_size_34 : decode b_Desk_size 34 = .ok (.lconst 0, 1) := by decide +kernel
theorem d_Desk_size_35 : decode b_Desk_size 35 = .ok (.lastore, 1) := by decide +kernel
theorem d_Desk_size_36 : decode b_Desk_size 36 = .ok (.iinc 2 1, 3) := by decide +kernel
theorem d_Desk_size_39 : decode b_Desk_size 39 = .ok (.goto (-19), 3) := by decide +kernel
theorem d_Desk_size_42 : decode b_Desk_size 42 = .ok (.aload_n 0, 1) := by decide +kernel
theorem d_Desk_size_43 : decode b_Desk_size 43 = .ok (.iload_n 1, 1) := by decide +kernel
theorem d_Desk_size_44 : decode b_Desk_size 44 = .ok (.putfield 13, 3) := by decide +kernel
theorem d_Desk_size_47 : decode b_Desk_size 47 = .ok (.aload_n 0, 1) := by decide +kernel
theorem d_Desk_size_48 : decode b_Desk_size 48 = .ok (.iconst 0, 1) := by decide +kernel
theorem d_Desk_size_49 : decode b_Desk_size 49 = .ok (.putfield 17, 3) := by decide +kernel
theorem d_Desk_size_52 : decode b_Desk_size 52 = .ok (.return_, 1) := by decide +kernel
theorem d_Desk_put_0 : decode b_Desk_put 0 = .ok (.iload_n 1, 1) := by decide +kernel
theorem d_Desk_put_1 : decode b_Desk_put 1 = .ok (.ifCond .lt 23, 3) := by decide +kernel
theorem d_Desk_put_4 : decode b_Desk_put 4 = .ok (.iload_n 1, 1) := by decide +kernel
theorem d_Desk_put_5 : decode b_Desk_put 5 = .ok (.aload_n 0, 1) := by decide +kernel
theorem d_Desk_put_6 : decode b_Desk_put 6 = .ok (.getfield 13, 3) := by decide +kernel
theorem d_Desk_put_9 : decode b_Desk_put 9 = .ok (.if_icmp .ge 15, 3) := by decide +kernel
theorem d_Desk_put_12 : decode b_Desk_put 12 = .ok (.iload_n 2, 1) := by decide +kernel
theorem d_Desk_put_13 : decode b_Desk_put 13 = .ok (.ifCond .lt 11, 3) := by decide +kernel
theorem d_Desk_put_16 : decode b_Desk_put 16 = .ok (.iload_n 2, 1) := by decide +kernel
theorem d_Desk_put_17 : decode b_Desk_put 17 = .ok (.aload_n 0, 1) := by decide +kernel
theorem d_Desk_put_18 : decode b_Desk_put 18 = .ok (.getfield 13, 3) := by decide +kernel
theorem d_Desk_put_21 : decode b_Desk_put 21 = .ok (.if_icmp .le 11, 3) := by decide +kernel
theorem d_Desk_put_24 : decode b_Desk_put 24 = .ok (.new 60, 3) := by decide +kernel
theorem d_Desk_put_27 : decode b_Desk_put 27 = .ok (.dup, 1) := by decide +kernel
theorem d_Desk_put_28 : decode b_Desk_put 28 = .ok (.invokespecial 62, 3) := by decide +kernel
theorem d_Desk_put_31 : decode b_Desk_put 31 = .ok (.athrow, 1) := by decide +kernel
theorem d_Desk_put_32 : decode b_Desk_put 32 = .ok (.iload_n 1, 1) := by decide +kernel
theorem d_Desk_put_33 : decode b_Desk_put 33 = .ok (.iload_n 2, 1) := by decide +kernel
theorem d_Desk_put_34 : decode b_Desk_put 34 = .ok (.invokestatic 63, 3) := by decide +kernel
theorem d_Desk_put_37 : decode b_Desk_put 37 = .ok (.istore 5, 2) := by decide +kernel
theorem d_Desk_put_39 : decode b_Desk_put 39 = .ok (.aload_n 0, 1) := by decide +kernel
theorem d_Desk_put_40 : decode b_Desk_put 40 = .ok (.getfield 9, 3) := by decide +kernel
theorem d_Desk_put_43 : decode b_Desk_put 43 = .ok (.iload 5, 2) := by decide +kernel
theorem d_Desk_put_45 : decode b_Desk_put 45 = .ok (.laload, 1) := by decide +kernel
theorem d_Desk_put_46 : decode b_Desk_put 46 = .ok (.lstore 6, 2) := by decide +kernel
theorem d_Desk_put_48 : decode b_Desk_put 48 = .ok (.aload_n 0, 1) := by decide +kernel
theorem d_Desk_put_49 : decode b_Desk_put 49 = .ok (.getfield 9, 3) := by decide +kernel
theorem d_Desk_put_52 : decode b_Desk_put 52 = .ok (.iload 5, 2) := by decide +kernel
theorem d_Desk_put_54 : decode b_Desk_put 54 = .ok (.lload_n 3, 1) := by decide +kernel
theorem d_Desk_put_55 : decode b_Desk_put 55 = .ok (.lastore, 1) := by decide +kernel
theorem d_Desk_put_56 : decode b_Desk_put 56 = .ok (.aload_n 0, 1) := by decide +kernel
theorem d_Desk_put_57 : decode b_Desk_put 57 = .ok (.iconst 0, 1) := by decide +kernel
theorem d_Desk_put_58 : decode b_Desk_put 58 = .ok (.putfield 17, 3) := by decide +kernel
theorem d_Desk_put_61 : decode b_Desk_put 61 = .ok (.lload 6, 2) := by decide +kernel
theorem d_Desk_put_63 : decode b_Desk_put 63 = .ok (.lreturn, 1) := by decide +kernel
theorem d_Desk_solve_0 : decode b_Desk_solve 0 = .ok (.aload_n 0, 1) := by decide +kernel
theorem d_Desk_solve_1 : decode b_Desk_solve 1 = .ok (.getfield 17, 3) := by decide +kernel
theorem d_Desk_solve_4 : decode b_Desk_solve 4 = .ok (.ifCond .ne 15, 3) := by decide +kernel
theorem d_Desk_solve_7 : decode b_Desk_solve 7 = .ok (.aload_n 0, 1) := by decide +kernel
theorem d_Desk_solve_8 : decode b_Desk_solve 8 = .ok (.invokevirtual 67, 3) := by decide +kernel
theorem d_Desk_solve_11 : decode b_Desk_solve 11 = .ok (.aload_n 0, 1) := by decide +kernel
theorem d_Desk_solve_12 : decode b_Desk_solve 12 = .ok (.aload_n 0, 1) := by decide +kernel
theorem d_Desk_solve_13 : decode b_Desk_solve 13 = .ok (.invokevirtual 70, 3) := by decide +kernel
theorem d_Desk_solve_16 : decode b_Desk_solve 16 = .ok (.putfield 17, 3) := by decide +kernel
theorem d_Desk_solve_19 : decode b_Desk_solve 19 = .ok (.aload_n 0, 1) := by decide +kernel
theorem d_Desk_solve_20 : decode b_Desk_solve 20 = .ok (.getfield 17, 3) := by decide +kernel
theorem d_Desk_solve_23 : decode b_Desk_solve 23 = .ok (.ireturn, 1) := by decide +kernel
theorem d_Desk_unknown_0 : decode b_Desk_unknown 0 = .ok (.aload_n 0, 1) := by decide +kernel
theorem d_Desk_unknown_1 : decode b_Desk_unknown 1 = .ok (.getfield 17, 3) := by decide +kernel
theorem d_Desk_unknown_4 : decode b_Desk_unknown 4 = .ok (.ifCond .ne 11, 3) := by decide +kernel
theorem d_Desk_unknown_7 : decode b_Desk_unknown 7 = .ok (.new 74, 3) := by decide +kernel
theorem d_Desk_unknown_10 : decode b_Desk_unknown 10 = .ok (.dup, 1) := by decide +kernel
theorem d_Desk_unknown_11 : decode b_Desk_unknown 11 = .ok (.invokespecial 76, 3) := by decide +kernel
theorem d_Desk_unknown_14 : decode b_Desk_unknown 14 = .ok (.athrow, 1) := by decide +kernel
theorem d_Desk_unknown_15 : decode b_Desk_unknown 15 = .ok (.aload_n 0, 1) := by decide +kernel
theorem d_Desk_unknown_16 : decode b_Desk_unknown 16 = .ok (.iload_n 1, 1) := by decide +kernel
theorem d_Desk_unknown_17 : decode b_Desk_unknown 17 = .ok (.invokevirtual 77, 3) := by decide +kernel
theorem d_Desk_unknown_20 : decode b_Desk_unknown 20 = .ok (.ifCond .ne 11, 3) := by decide +kernel
theorem d_Desk_unknown_23 : decode b_Desk_unknown 23 = .ok (.new 60, 3) := by decide +kernel
theorem d_Desk_unknown_26 : decode b_Desk_unknown 26 = .ok (.dup, 1) := by decide +kernel
theorem d_Desk_unknown_27 : decode b_Desk_unknown 27 = .ok (.invokespecial 62, 3) := by decide +kernel
theorem d_Desk_unknown_30 : decode b_Desk_unknown 30 = .ok (.athrow, 1) := by decide +kernel
theorem d_Desk_unknown_31 : decode b_Desk_unknown 31 = .ok (.aload_n 0, 1) := by decide +kernel
theorem d_Desk_unknown_32 : decode b_Desk_unknown 32 = .ok (.aload_n 0, 1) := by decide +kernel
theorem d_Desk_unknown_33 : decode b_Desk_unknown 33 = .ok (.getfield 23, 3) := by decide +kernel
theorem d_Desk_unknown_36 : decode b_Desk_unknown 36 = .ok (.iload_n 1, 1) := by decide +kernel
theorem d_Desk_unknown_37 : decode b_Desk_unknown 37 = .ok (.aload_n 0, 1) := by decide +kernel
theorem d_Desk_unknown_38 : decode b_Desk_unknown 38 = .ok (.getfield 13, 3) := by decide +kernel
theorem d_Desk_unknown_41 : decode b_Desk_unknown 41 = .ok (.invokestatic 63, 3) := by decide +kernel
theorem d_Desk_unknown_44 : decode b_Desk_unknown 44 = .ok (.aaload, 1) := by decide +kernel
theorem d_Desk_unknown_45 : decode b_Desk_unknown 45 = .ok (.aload_n 0, 1) := by decide +kernel
theorem d_Desk_unknown_46 : decode b_Desk_unknown 46 = .ok (.getfield 30, 3) := by decide +kernel
theorem d_Desk_unknown_49 : decode b_Desk_unknown 49 = .ok (.invokevirtual 81, 3) := by decide +kernel
theorem d_Desk_unknown_52 : decode b_Desk_unknown 52 = .ok (.aload_n 0, 1) := by decide +kernel
theorem d_Desk_unknown_53 : decode b_Desk_unknown 53 = .ok (.getfield 34, 3) := by decide +kernel
theorem d_Desk_unknown_56 : decode b_Desk_unknown 56 = .ok (.getfield 85, 3) := by decide +kernel
theorem d_Desk_unknown_59 : decode b_Desk_unknown 59 = .ok (.ireturn, 1) := by decide +kernel
theorem d_Desk_determinant_0 : decode b_Desk_determinant 0 = .ok (.aload_n 0, 1) := by decide +kernel
theorem d_Desk_determinant_1 : decode b_Desk_determinant 1 = .ok (.getfield 17, 3) := by decide +kernel
theorem d_Desk_determinant_4 : decode b_Desk_determinant 4 = .ok (.ifCond .ne 11, 3) := by decide +kernel
theorem d_Desk_determinant_7 : decode b_Desk_determinant 7 = .ok (.new 74, 3) := by decide +kernel
theorem d_Desk_determinant_10 : decode b_Desk_determinant 10 = .ok (.dup, 1) := by decide +kernel
theorem d_Desk_determinant_11 : decode b_Desk_determinant 11 = .ok (.invokespecial 76, 3) := by decide +kernel
theorem d_Desk_determinant_14 : decode b_Desk_determinant 14 = .ok (.athrow, 1) := by decide +kernel
theorem d_Desk_determinant_15 : decode b_Desk_determinant 15 = .ok (.aload_n 0, 1) := by decide +kernel
theorem d_Desk_determinant_16 : decode b_Desk_determinant 16 = .ok (.getfield 34, 3) := by decide +kernel
theorem d_Desk_determinant_19 : decode b_Desk_determinant 19 = .ok (.aload_n 0, 1) := by decide +kernel
theorem d_Desk_determinant_20 : decode b_Desk_determinant 20 = .ok (.getfield 30, 3) := by decide +kernel
theorem d_Desk_determinant_23 : decode b_Desk_determinant 23 = .ok (.invokevirtual 88, 3) := by decide +kernel
theorem d_Desk_determinant_26 : decode b_Desk_determinant 26 = .ok (.aload_n 0, 1) := by decide +kernel
theorem d_Desk_determinant_27 : decode b_Desk_determinant 27 = .ok (.getfield 37, 3) := by decide +kernel
theorem d_Desk_determinant_30 : decode b_Desk_determinant 30 = .ok (.lconst 1, 1) := by decide +kernel
theorem d_Desk_determinant_31 : decode b_Desk_determinant 31 = .ok (.invokevirtual 53, 3) := by decide +kernel
theorem d_Desk_determinant_34 : decode b_Desk_determinant 34 = .ok (.aload_n 0, 1) := by decide +kernel
theorem d_Desk_determinant_35 : decode b_Desk_determinant 35 = .ok (.getfield 34, 3) := by decide +kernel
theorem d_Desk_determinant_38 : decode b_Desk_determinant 38 = .ok (.getfield 85, 3) := by decide +kernel
theorem d_Desk_determinant_41 : decode b_Desk_determinant 41 = .ok (.ireturn, 1) := by decide +kernel
theorem d_Desk_compare_0 : decode b_Desk_compare 0 = .ok (.aload_n 0, 1) := by decide +kernel
theorem d_Desk_compare_1 : decode b_Desk_compare 1 = .ok (.getfield 17, 3) := by decide +kernel
theorem d_Desk_compare_4 : decode b_Desk_compare 4 = .ok (.ifCond .ne 11, 3) := by decide +kernel
theorem d_Desk_compare_7 : decode b_Desk_compare 7 = .ok (.new 74, 3) := by decide +kernel
theorem d_Desk_compare_10 : decode b_Desk_compare 10 = .ok (.dup, 1) := by decide +kernel
theorem d_Desk_compare_11 : decode b_Desk_compare 11 = .ok (.invokespecial 76, 3) := by decide +kernel
theorem d_Desk_compare_14 : decode b_Desk_compare 14 = .ok (.athrow, 1) := by decide +kernel
theorem d_Desk_compare_15 : decode b_Desk_compare 15 = .ok (.aload_n 0, 1) := by decide +kernel
theorem d_Desk_compare_16 : decode b_Desk_compare 16 = .ok (.iload_n 1, 1) := by decide +kernel
theorem d_Desk_compare_17 : decode b_Desk_compare 17 = .ok (.invokevirtual 77, 3) := by decide +kernel
theorem d_Desk_compare_20 : decode b_Desk_compare 20 = .ok (.ifCond .eq 11, 3) := by decide +kernel
theorem d_Desk_compare_23 : decode b_Desk_compare 23 = .ok (.aload_n 0, 1) := by decide +kernel
theorem d_Desk_compare_24 : decode b_Desk_compare 24 = .ok (.iload_n 2, 1) := by decide +kernel
theorem d_Desk_compare_25 : decode b_Desk_compare 25 = .ok (.invokevirtual 77, 3) := by decide +kernel
theorem d_Desk_compare_28 : decode b_Desk_compare 28 = .ok (.ifCond .ne 11, 3) := by decide +kernel
theorem d_Desk_compare_31 : decode b_Desk_compare 31 = .ok (.new 60, 3) := by decide +kernel
theorem d_Desk_compare_34 : decode b_Desk_compare 34 = .ok (.dup, 1) := by decide +kernel
theorem d_Desk_compare_35 : decode b_Desk_compare 35 = .ok (.invokespecial 62, 3) := by decide +kernel
theorem d_Desk_compare_38 : decode b_Desk_compare 38 = .ok (.athrow, 1) := by decide +kernel
theorem d_Desk_compare_39 : decode b_Desk_compare 39 = .ok (.aload_n 0, 1) := by decide +kernel
theorem d_Desk_compare_40 : decode b_Desk_compare 40 = .ok (.getfield 23, 3) := by decide +kernel
theorem d_Desk_compare_43 : decode b_Desk_compare 43 = .ok (.iload_n 1, 1) := by decide +kernel
theorem d_Desk_compare_44 : decode b_Desk_compare 44 = .ok (.aload_n 0, 1) := by decide +kernel
theorem d_Desk_compare_45 : decode b_Desk_compare 45 = .ok (.getfield 13, 3) := by decide +kernel
theorem d_Desk_compare_48 : decode b_Desk_compare 48 = .ok (.invokestatic 63, 3) := by decide +kernel
theorem d_Desk_compare_51 : decode b_Desk_compare 51 = .ok (.aaload, 1) := by decide +kernel
theorem d_Desk_compare_52 : decode b_Desk_compare 52 = .ok (.astore_n 3, 1) := by decide +kernel
theorem d_Desk_compare_53 : decode b_Desk_compare 53 = .ok (.aload_n 0, 1) := by decide +kernel
theorem d_Desk_compare_54 : decode b_Desk_compare 54 = .ok (.getfield 23, 3) := by decide +kernel
theorem d_Desk_compare_57 : decode b_Desk_compare 57 = .ok (.iload_n 2, 1) := by decide +kernel
theorem d_Desk_compare_58 : decode b_Desk_compare 58 = .ok (.aload_n 0, 1) := by decide +kernel
theorem d_Desk_compare_59 : decode b_Desk_compare 59 = .ok (.getfield 13, 3) := by decide +kernel
theorem d_Desk_compare_62 : decode b_Desk_compare 62 = .ok (.invokestatic 63, 3) := by decide +kernel
theorem d_Desk_compare_65 : decode b_Desk_compare 65 = .ok (.aaload, 1) := by decide +kernel
theorem d_Desk_compare_66 : decode b_Desk_compare 66 = .ok (.astore 4, 2) := by decide +kernel
theorem d_Desk_compare_68 : decode b_Desk_compare 68 = .ok (.aload_n 3, 1) := by decide +kernel
theorem d_Desk_compare_69 : decode b_Desk_compare 69 = .ok (.aload 4, 2) := by decide +kernel
theorem d_Desk_compare_71 : decode b_Desk_compare 71 = .ok (.invokevirtual 92, 3) := by decide +kernel
theorem d_Desk_compare_74 : decode b_Desk_compare 74 = .ok (.aload_n 0, 1) := by decide +kernel
theorem d_Desk_compare_75 : decode b_Desk_compare 75 = .ok (.getfield 30, 3) := by decide +kernel
theorem d_Desk_compare_78 : decode b_Desk_compare 78 = .ok (.getfield 85, 3) := by decide +kernel
theorem d_Desk_compare_81 : decode b_Desk_compare 81 = .ok (.imul, 1) := by decide +kernel
theorem d_Desk_compare_82 : decode b_Desk_compare 82 = .ok (.ireturn, 1) := by decide +kernel
theorem d_Desk_bits_0 : decode b_Desk_bits 0 = .ok (.aload_n 0, 1) := by decide +kernel
theorem d_Desk_bits_1 : decode b_Desk_bits 1 = .ok (.iload_n 1, 1) := by decide +kernel
theorem d_Desk_bits_2 : decode b_Desk_bits 2 = .ok (.invokevirtual 96, 3) := by decide +kernel
theorem d_Desk_bits_5 : decode b_Desk_bits 5 = .ok (.invokevirtual 100, 3) := by decide +kernel
theorem d_Desk_bits_8 : decode b_Desk_bits 8 = .ok (.ireturn, 1) := by decide +kernel
theorem d_Desk_part_0 : decode b_Desk_part 0 = .ok (.iload_n 2, 1) := by decide +kernel
theorem d_Desk_part_1 : decode b_Desk_part 1 = .ok (.ifCond .ge 11, 3) := by decide +kernel
theorem d_Desk_part_4 : decode b_Desk_part 4 = .ok (.new 60, 3) := by decide +kernel
theorem d_Desk_part_7 : decode b_Desk_part 7 = .ok (.dup, 1) := by decide +kernel
theorem d_Desk_part_8 : decode b_Desk_part 8 = .ok (.invokespecial 62, 3) := by decide +kernel
theorem d_Desk_part_11 : decode b_Desk_part 11 = .ok (.athrow, 1) := by decide +kernel
theorem d_Desk_part_12 : decode b_Desk_part 12 = .ok (.aload_n 0, 1) := by decide +kernel
theorem d_Desk_part_13 : decode b_Desk_part 13 = .ok (.iload_n 1, 1) := by decide +kernel
theorem d_Desk_part_14 : decode b_Desk_part 14 = .ok (.invokevirtual 96, 3) := by decide +kernel
theorem d_Desk_part_17 : decode b_Desk_part 17 = .ok (.iload_n 2, 1) := by decide +kernel
theorem d_Desk_part_18 : decode b_Desk_part 18 = .ok (.invokevirtual 104, 3) := by decide +kernel
theorem d_Desk_part_21 : decode b_Desk_part 21 = .ok (.ireturn, 1) := by decide +kernel
theorem d_Desk_cellIndex_0 : decode b_Desk_cellIndex 0 = .ok (.iload_n 0, 1) := by decide +kernel
theorem d_Desk_cellIndex_1 : decode b_Desk_cellIndex 1 = .ok (.bipush 13, 2) := by decide +kernel
theorem d_Desk_cellIndex_3 : decode b_Desk_cellIndex 3 = .ok (.imul, 1) := by decide +kernel
theorem d_Desk_cellIndex_4 : decode b_Desk_cellIndex 4 = .ok (.iload_n 1, 1) := by decide +kernel
theorem d_Desk_cellIndex_5 : decode b_Desk_cellIndex 5 = .ok (.iadd, 1) := by decide +kernel
theorem d_Desk_cellIndex_6 : decode b_Desk_cellIndex 6 = .ok (.ireturn, 1) := by decide +kernel
theorem d_Desk_isUnknown_0 : decode b_Desk_isUnknown 0 = .ok (.iload_n 1, 1) := by decide +kernel
theorem d_Desk_isUnknown_1 : decode b_Desk_isUnknown 1 = .ok (.ifCond .lt 15, 3) := by decide +kernel
theorem d_Desk_isUnknown_4 : decode b_Desk_isUnknown 4 = .ok (.iload_n 1, 1) := by decide +kernel
theorem d_Desk_isUnknown_5 : decode b_Desk_isUnknown 5 = .ok (.aload_n 0, 1) := by decide +kernel
theorem d_Desk_isUnknown_6 : decode b_Desk_isUnknown 6 = .ok (.getfield 13, 3) := by decide +kernel
theorem d_Desk_isUnknown_9 : decode b_Desk_isUnknown 9 = .ok (.if_icmp .ge 7, 3) := by decide +kernel
theorem d_Desk_isUnknown_12 : decode b_Desk_isUnknown 12 = .ok (.iconst 1, 1) := by decide +kernel
theorem d_Desk_isUnknown_13 : decode b_Desk_isUnknown 13 = .ok (.goto 4, 3) := by decide +kernel
theorem d_Desk_isUnknown_16 : decode b_Desk_isUnknown 16 = .ok (.iconst 0, 1) := by decide +kernel
theorem d_Desk_isUnknown_17 : decode b_Desk_isUnknown 17 = .ok (.ireturn, 1) := by decide +kernel
theorem d_Desk_resultPart_0 : decode b_Desk_resultPart 0 = .ok (.iload_n 1, 1) := by decide +kernel
theorem d_Desk_resultPart_1 : decode b_Desk_resultPart 1 = .ok (.ifCond .eq 10, 3) := by decide +kernel
theorem d_Desk_resultPart_4 : decode b_Desk_resultPart 4 = .ok (.aload_n 0, 1) := by decide +kernel
theorem d_Desk_resultPart_5 : decode b_Desk_resultPart 5 = .ok (.getfield 37, 3) := by decide +kernel
theorem d_Desk_resultPart_8 : decode b_Desk_resultPart 8 = .ok (.goto 7, 3) := by decide +kernel
theorem d_Desk_resultPart_11 : decode b_Desk_resultPart 11 = .ok (.aload_n 0, 1) := by decide +kernel
theorem d_Desk_resultPart_12 : decode b_Desk_resultPart 12 = .ok (.getfield 34, 3) := by decide +kernel
theorem d_Desk_resultPart_15 : decode b_Desk_resultPart 15 = .ok (.areturn, 1) := by decide +kernel
theorem d_Desk_loadCells_0 : decode b_Desk_loadCells 0 = .ok (.iconst 0, 1) := by decide +kernel
theorem d_Desk_loadCells_1 : decode b_Desk_loadCells 1 = .ok (.istore_n 1, 1) := by decide +kernel
theorem d_Desk_loadCells_2 : decode b_Desk_loadCells 2 = .ok (.iload_n 1, 1) := by decide +kernel
theorem d_Desk_loadCells_3 : decode b_Desk_loadCells 3 = .ok (.aload_n 0, 1) := by decide +kernel
theorem d_Desk_loadCells_4 : decode b_Desk_loadCells 4 = .ok (.getfield 13, 3) := by decide +kernel
theorem d_Desk_loadCells_7 : decode b_Desk_loadCells 7 = .ok (.if_icmp .ge 46, 3) := by decide +kernel
theorem d_Desk_loadCells_10 : decode b_Desk_loadCells 10 = .ok (.iconst 0, 1) := by decide +kernel
theorem d_Desk_loadCells_11 : decode b_Desk_loadCells 11 = .ok (.istore_n 2, 1) := by decide +kernel
theorem d_Desk_loadCells_12 : decode b_Desk_loadCells 12 = .ok (.iload_n 2, 1) := by decide +kernel
theorem d_Desk_loadCells_13 : decode b_Desk_loadCells 13 = .ok (.aload_n 0, 1) := by decide +kernel
theorem d_Desk_loadCells_14 : decode b_Desk_loadCells 14 = .ok (.getfield 13, 3) := by decide +kernel
theorem d_Desk_loadCells_17 : decode b_Desk_loadCells 17 = .ok (.if_icmp .gt 30, 3) := by decide +kernel
theorem d_Desk_loadCells_20 : decode b_Desk_loadCells 20 = .ok (.iload_n 1, 1) := by decide +kernel
theorem d_Desk_loadCells_21 : decode b_Desk_loadCells 21 = .ok (.iload_n 2, 1) := by decide +kernel
theorem d_Desk_loadCells_22 : decode b_Desk_loadCells 22 = .ok (.invokestatic 63, 3) := by decide +kernel
theorem d_Desk_loadCells_25 : decode b_Desk_loadCells 25 = .ok (.istore_n 3, 1) := by decide +kernel
theorem d_Desk_loadCells_26 : decode b_Desk_loadCells 26 = .ok (.aload_n 0, 1) := by decide +kernel
theorem d_Desk_loadCells_27 : decode b_Desk_loadCells 27 = .ok (.getfield 23, 3) := by decide +kernel
theorem d_Desk_loadCells_30 : decode b_Desk_loadCells 30 = .ok (.iload_n 3, 1) := by decide +kernel
theorem d_Desk_loadCells_31 : decode b_Desk_loadCells 31 = .ok (.aaload, 1) := by decide +kernel
theorem d_Desk_loadCells_32 : decode b_Desk_loadCells 32 = .ok (.aload_n 0, 1) := by decide +kernel
theorem d_Desk_loadCells_33 : decode b_Desk_loadCells 33 = .ok (.getfield 9, 3) := by decide +kernel
theorem d_Desk_loadCells_36 : decode b_Desk_loadCells 36 = .ok (.iload_n 3, 1) := by decide +kernel
theorem d_Desk_loadCells_37 : decode b_Desk_loadCells 37 = .ok (.laload, 1) := by decide +kernel
theorem d_Desk_loadCells_38 : decode b_Desk_loadCells 38 = .ok (.invokevirtual 53, 3) := by decide +kernel
theorem d_Desk_loadCells_41 : decode b_Desk_loadCells 41 = .ok (.iinc 2 1, 3) := by decide +kernel
theorem d_Desk_loadCells_44 : decode b_Desk_loadCells 44 = .ok (.goto (-32), 3) := by decide +kernel
theorem d_Desk_loadCells_47 : decode b_Desk_loadCells 47 = .ok (.iinc 1 1, 3) := by decide +kernel
theorem d_Desk_loadCells_50 : decode b_Desk_loadCells 50 = .ok (.goto (-48), 3) := by decide +kernel
theorem d_Desk_loadCells_53 : decode b_Desk_loadCells 53 = .ok (.return_, 1) := by decide +kernel
theorem d_Desk_eliminateAll_0 : decode b_Desk_eliminateAll 0 = .ok (.aload_n 0, 1) := by decide +kernel
theorem d_Desk_eliminateAll_1 : decode b_Desk_eliminateAll 1 = .ok (.getfield 30, 3) := by decide +kernel
theorem d_Desk_eliminateAll_4 : decode b_Desk_eliminateAll 4 = .ok (.lconst 1, 1) := by decide +kernel
theorem d_Desk_eliminateAll_5 : decode b_Desk_eliminateAll 5 = .ok (.invokevirtual 53, 3) := by decide +kernel
theorem d_Desk_eliminateAll_8 : decode b_Desk_eliminateAll 8 = .ok (.iconst 0, 1) := by decide +kernel
theorem d_Desk_eliminateAll_9 : decode b_Desk_eliminateAll 9 = .ok (.istore_n 1, 1) := by decide +kernel
theorem d_Desk_eliminateAll_10 : decode b_Desk_eliminateAll 10 = .ok (.iload_n 1, 1) := by decide +kernel
theorem d_Desk_eliminateAll_11 : decode b_Desk_eliminateAll 11 = .ok (.aload_n 0, 1) := by decide +kernel
theorem d_Desk_eliminateAll_12 : decode b_Desk_eliminateAll 12 = .ok (.getfield 13, 3) := by decide +kernel
theorem d_Desk_eliminateAll_15 : decode b_Desk_eliminateAll 15 = .ok (.if_icmp .ge 87, 3) := by decide +kernel
theorem d_Desk_eliminateAll_18 : decode b_Desk_eliminateAll 18 = .ok (.aload_n 0, 1) := by decide +kernel
theorem d_Desk_eliminateAll_19 : decode b_Desk_eliminateAll 19 = .ok (.iload_n 1, 1) := by decide +kernel
theorem d_Desk_eliminateAll_20 : decode b_Desk_eliminateAll 20 = .ok (.invokevirtual 108, 3) := by decide +kernel
theorem d_Desk_eliminateAll_23 : decode b_Desk_eliminateAll 23 = .ok (.istore_n 2, 1) := by decide +kernel
theorem d_Desk_eliminateAll_24 : decode b_Desk_eliminateAll 24 = .ok (.iload_n 2, 1) := by decide +kernel
theorem d_Desk_eliminateAll_25 : decode b_Desk_eliminateAll 25 = .ok (.ifCond .ge 5, 3) := by decide +kernel
theorem d_Desk_eliminateAll_28 : decode b_Desk_eliminateAll 28 = .ok (.iconst 0, 1) := by decide +kernel
theorem d_Desk_eliminateAll_29 : decode b_Desk_eliminateAll 29 = .ok (.ireturn, 1) := by decide +kernel
theorem d_Desk_eliminateAll_30 : decode b_Desk_eliminateAll 30 = .ok (.iload_n 2, 1) := by decide +kernel
theorem d_Desk_eliminateAll_31 : decode b_Desk_eliminateAll 31 = .ok (.iload_n 1, 1) := by decide +kernel
theorem d_Desk_eliminateAll_32 : decode b_Desk_eliminateAll 32 = .ok (.if_icmp .eq 9, 3) := by decide +kernel
theorem d_Desk_eliminateAll_35 : decode b_Desk_eliminateAll 35 = .ok (.aload_n 0, 1) := by decide +kernel
theorem d_Desk_eliminateAll_36 : decode b_Desk_eliminateAll 36 = .ok (.iload_n 2, 1) := by decide +kernel
theorem d_Desk_eliminateAll_37 : decode b_Desk_eliminateAll 37 = .ok (.iload_n 1, 1) := by decide +kernel
theorem d_Desk_eliminateAll_38 : decode b_Desk_eliminateAll 38 = .ok (.invokevirtual 111, 3) := by decide +kernel
theorem d_Desk_eliminateAll_41 : decode b_Desk_eliminateAll 41 = .ok (.aload_n 0, 1) := by decide +kernel
theorem d_Desk_eliminateAll_42 : decode b_Desk_eliminateAll 42 = .ok (.getfield 49, 3) := by decide +kernel
theorem d_Desk_eliminateAll_45 : decode b_Desk_eliminateAll 45 = .ok (.aload_n 0, 1) := by decide +kernel
theorem d_Desk_eliminateAll_46 : decode b_Desk_eliminateAll 46 = .ok (.getfield 30, 3) := by decide +kernel
theorem d_Desk_eliminateAll_49 : decode b_Desk_eliminateAll 49 = .ok (.invokevirtual 115, 3) := by decide +kernel
theorem d_Desk_eliminateAll_52 : decode b_Desk_eliminateAll 52 = .ok (.iconst 0, 1) := by decide +kernel
theorem d_Desk_eliminateAll_53 : decode b_Desk_eliminateAll 53 = .ok (.istore_n 3, 1) := by decide +kernel
theorem d_Desk_eliminateAll_54 : decode b_Desk_eliminateAll 54 = .ok (.iload_n 3, 1) := by decide +kernel
theorem d_Desk_eliminateAll_55 : decode b_Desk_eliminateAll 55 = .ok (.aload_n 0, 1) := by decide +kernel
theorem d_Desk_eliminateAll_56 : decode b_Desk_eliminateAll 56 = .ok (.getfield 13, 3) := by decide +kernel
theorem d_Desk_eliminateAll_59 : decode b_Desk_eliminateAll 59 = .ok (.if_icmp .ge 20, 3) := by decide +kernel
theorem d_Desk_eliminateAll_62 : decode b_Desk_eliminateAll 62 = .ok (.iload_n 3, 1) := by decide +kernel
theorem d_Desk_eliminateAll_63 : decode b_Desk_eliminateAll 63 = .ok (.iload_n 1, 1) := by decide +kernel
theorem d_Desk_eliminateAll_64 : decode b_Desk_eliminateAll 64 = .ok (.if_icmp .eq 9, 3) := by decide +kernel
theorem d_Desk_eliminateAll_67 : decode b_Desk_eliminateAll 67 = .ok (.aload_n 0, 1) := by decide +kernel
theorem d_Desk_eliminateAll_68 : decode b_Desk_eliminateAll 68 = .ok (.iload_n 3, 1) := by decide +kernel
theorem d_Desk_eliminateAll_69 : decode b_Desk_eliminateAll 69 = .ok (.iload_n 1, 1) := by decide +kernel
theorem d_Desk_eliminateAll_70 : decode b_Desk_eliminateAll 70 = .ok (.invokevirtual 116, 3) := by decide +kernel
theorem d_Desk_eliminateAll_73 : decode b_Desk_eliminateAll 73 = .ok (.iinc 3 1, 3) := by decide +kernel
theorem d_Desk_eliminateAll_76 : decode b_Desk_eliminateAll 76 = .ok (.goto (-22), 3) := by decide +kernel
theorem d_Desk_eliminateAll_79 : decode b_Desk_eliminateAll 79 = .ok (.aload_n 0, 1) := by decide +kernel
theorem d_Desk_eliminateAll_80 : decode b_Desk_eliminateAll 80 = .ok (.getfield 30, 3) := by decide +kernel
theorem d_Desk_eliminateAll_83 : decode b_Desk_eliminateAll 83 = .ok (.aload_n 0, 1) := by decide +kernel
theorem d_Desk_eliminateAll_84 : decode b_Desk_eliminateAll 84 = .ok (.getfield 23, 3) := by decide +kernel
theorem d_Desk_eliminateAll_87 : decode b_Desk_eliminateAll 87 = .ok (.iload_n 1, 1) := by decide +kernel
theorem d_Desk_eliminateAll_88 : decode b_Desk_eliminateAll 88 = .ok (.iload_n 1, 1) := by decide +kernel
theorem d_Desk_eliminateAll_89 : decode b_Desk_eliminateAll 89 = .ok (.invokestatic 63, 3) := by decide +kernel
theorem d_Desk_eliminateAll_92 : decode b_Desk_eliminateAll 92 = .ok (.aaload, 1) := by decide +kernel
theorem d_Desk_eliminateAll_93 : decode b_Desk_eliminateAll 93 = .ok (.invokevirtual 88, 3) := by decide +kernel
theorem d_Desk_eliminateAll_96 : decode b_Desk_eliminateAll 96 = .ok (.iinc 1 1, 3) := by decide +kernel
theorem d_Desk_eliminateAll_99 : decode b_Desk_eliminateAll 99 = .ok (.goto (-89), 3) := by decide +kernel
theorem d_Desk_eliminateAll_102 : decode b_Desk_eliminateAll 102 = .ok (.iconst 1, 1) := by decide +kernel
theorem d_Desk_eliminateAll_103 : decode b_Desk_eliminateAll 103 = .ok (.ireturn, 1) := by decide +kernel
theorem d_Desk_pivotRow_0 : decode b_Desk_pivotRow 0 = .ok (.iload_n 1, 1) := by decide +kernel
theorem d_Desk_pivotRow_1 : decode b_Desk_pivotRow 1 = .ok (.istore_n 2, 1) := by decide +kernel
theorem d_Desk_pivotRow_2 : decode b_Desk_pivotRow 2 = .ok (.iload_n 2, 1) := by decide +kernel
theorem d_Desk_pivotRow_3 : decode b_Desk_pivotRow 3 = .ok (.aload_n 0, 1) := by decide +kernel
theorem d_Desk_pivotRow_4 : decode b_Desk_pivotRow 4 = .ok (.getfield 13, 3) := by decide +kernel
theorem d_Desk_pivotRow_7 : decode b_Desk_pivotRow 7 = .ok (.if_icmp .ge 27, 3) := by decide +kernel
theorem d_Desk_pivotRow_10 : decode b_Desk_pivotRow 10 = .ok (.aload_n 0, 1) := by decide +kernel
theorem d_Desk_pivotRow_11 : decode b_Desk_pivotRow 11 = .ok (.getfield 23, 3) := by decide +kernel
theorem d_Desk_pivotRow_14 : decode b_Desk_pivotRow 14 = .ok (.iload_n 2, 1) := by decide +kernel
theorem d_Desk_pivotRow_15 : decode b_Desk_pivotRow 15 = .ok (.iload_n 1, 1) := by decide +kernel
theorem d_Desk_pivotRow_16 : decode b_Desk_pivotRow 16 = .ok (.invokestatic 63, 3) := by decide +kernel
theorem d_Desk_pivotRow_19 : decode b_Desk_pivotRow 19 = .ok (.aaload, 1) := by decide +kernel
theorem d_Desk_pivotRow_20 : decode b_Desk_pivotRow 20 = .ok (.getfield 85, 3) := by decide +kernel
theorem d_Desk_pivotRow_23 : decode b_Desk_pivotRow 23 = .ok (.ifCond .eq 5, 3) := by decide +kernel
theorem d_Desk_pivotRow_26 : decode b_Desk_pivotRow 26 = .ok (.iload_n 2, 1) := by decide +kernel
theorem d_Desk_pivotRow_27 : decode b_Desk_pivotRow 27 = .ok (.ireturn, 1) := by decide +kernel
theorem d_Desk_pivotRow_28 : decode b_Desk_pivotRow 28 = .ok (.iinc 2 1, 3) := by decide +kernel
theorem d_Desk_pivotRow_31 : decode b_Desk_pivotRow 31 = .ok (.goto (-29), 3) := by decide +kernel
theorem d_Desk_pivotRow_34 : decode b_Desk_pivotRow 34 = .ok (.iconst (-1), 1) := by decide +kernel
theorem d_Desk_pivotRow_35 : decode b_Desk_pivotRow 35 = .ok (.ireturn, 1) := by decide +kernel
theorem d_Desk_swapRows_0 : decode b_Desk_swapRows 0 = .ok (.iload_n 2, 1) := by decide +kernel
theorem d_Desk_swapRows_1 : decode b_Desk_swapRows 1 = .ok (.istore_n 3, 1) := by decide +kernel
theorem d_Desk_swapRows_2 : decode b_Desk_swapRows 2 = .ok (.iload_n 3, 1) := by decide +kernel
theorem d_Desk_swapRows_3 : decode b_Desk_swapRows 3 = .ok (.aload_n 0, 1) := by decide +kernel
theorem d_Desk_swapRows_4 : decode b_Desk_swapRows 4 = .ok (.getfield 13, 3) := by decide +kernel
theorem d_Desk_swapRows_7 : decode b_Desk_swapRows 7 = .ok (.if_icmp .gt 64, 3) := by decide +kernel
theorem d_Desk_swapRows_10 : decode b_Desk_swapRows 10 = .ok (.aload_n 0, 1) := by decide +kernel
theorem d_Desk_swapRows_11 : decode b_Desk_swapRows 11 = .ok (.getfield 23, 3) := by decide +kernel
theorem d_Desk_swapRows_14 : decode b_Desk_swapRows 14 = .ok (.iload_n 2, 1) := by decide +kernel
theorem d_Desk_swapRows_15 : decode b_Desk_swapRows 15 = .ok (.iload_n 3, 1) := by decide +kernel
theorem d_Desk_swapRows_16 : decode b_Desk_swapRows 16 = .ok (.invokestatic 63, 3) := by decide +kernel
theorem d_Desk_swapRows_19 : decode b_Desk_swapRows 19 = .ok (.aaload, 1) := by decide +kernel
theorem d_Desk_swapRows_20 : decode b_Desk_swapRows 20 = .ok (.astore 4, 2) := by decide +kernel
theorem d_Desk_swapRows_22 : decode b_Desk_swapRows 22 = .ok (.aload_n 0, 1) := by decide +kernel
theorem d_Desk_swapRows_23 : decode b_Desk_swapRows 23 = .ok (.getfield 23, 3) := by decide +kernel
theorem d_Desk_swapRows_26 : decode b_Desk_swapRows 26 = .ok (.iload_n 2, 1) := by decide +kernel
theorem d_Desk_swapRows_27 : decode b_Desk_swapRows 27 = .ok (.iload_n 3, 1) := by decide +kernel
theorem d_Desk_swapRows_28 : decode b_Desk_swapRows 28 = .ok (.invokestatic 63, 3) := by decide +kernel
theorem d_Desk_swapRows_31 : decode b_Desk_swapRows 31 = .ok (.aload_n 0, 1) := by decide +kernel
theorem d_Desk_swapRows_32 : decode b_Desk_swapRows 32 = .ok (.getfield 23, 3) := by decide +kernel
theorem d_Desk_swapRows_35 : decode b_Desk_swapRows 35 = .ok (.iload_n 1, 1) := by decide +kernel
theorem d_Desk_swapRows_36 : decode b_Desk_swapRows 36 = .ok (.iload_n 3, 1) := by decide +kernel
theorem d_Desk_swapRows_37 : decode b_Desk_swapRows 37 = .ok (.invokestatic 63, 3) := by decide +kernel
theorem d_Desk_swapRows_40 : decode b_Desk_swapRows 40 = .ok (.aaload, 1) := by decide +kernel
theorem d_Desk_swapRows_41 : decode b_Desk_swapRows 41 = .ok (.aastore, 1) := by decide +kernel
theorem d_Desk_swapRows_42 : decode b_Desk_swapRows 42 = .ok (.aload_n 0, 1) := by decide +kernel
theorem d_Desk_swapRows_43 : decode b_Desk_swapRows 43 = .ok (.getfield 23, 3) := by decide +kernel
theorem d_Desk_swapRows_46 : decode b_Desk_swapRows 46 = .ok (.iload_n 1, 1) := by decide +kernel
theorem d_Desk_swapRows_47 : decode b_Desk_swapRows 47 = .ok (.iload_n 3, 1) := by decide +kernel
theorem d_Desk_swapRows_48 : decode b_Desk_swapRows 48 = .ok (.invokestatic 63, 3) := by decide +kernel
theorem d_Desk_swapRows_51 : decode b_Desk_swapRows 51 = .ok (.aload 4, 2) := by decide +kernel
theorem d_Desk_swapRows_53 : decode b_Desk_swapRows 53 = .ok (.aastore, 1) := by decide +kernel
theorem d_Desk_swapRows_54 : decode b_Desk_swapRows 54 = .ok (.aload 4, 2) := by decide +kernel
theorem d_Desk_swapRows_56 : decode b_Desk_swapRows 56 = .ok (.aload 4, 2) := by decide +kernel
theorem d_Desk_swapRows_58 : decode b_Desk_swapRows 58 = .ok (.getfield 85, 3) := by decide +kernel
theorem d_Desk_swapRows_61 : decode b_Desk_swapRows 61 = .ok (.ineg, 1) := by decide +kernel
theorem d_Desk_swapRows_62 : decode b_Desk_swapRows 62 = .ok (.putfield 85, 3) := by decide +kernel
theorem d_Desk_swapRows_65 : decode b_Desk_swapRows 65 = .ok (.iinc 3 1, 3) := by decide +kernel
theorem d_Desk_swapRows_68 : decode b_Desk_swapRows 68 = .ok (.goto (-66), 3) := by decide +kernel
theorem d_Desk_swapRows_71 : decode b_Desk_swapRows 71 = .ok (.return_, 1) := by decide +kernel
theorem d_Desk_eliminateRow_0 : decode b_Desk_eliminateRow 0 = .ok (.aload_n 0, 1) := by decide +kernel
theorem d_Desk_eliminateRow_1 : decode b_Desk_eliminateRow 1 = .ok (.getfield 23, 3) := by decide +kernel
theorem d_Desk_eliminateRow_4 : decode b_Desk_eliminateRow 4 = .ok (.iload_n 2, 1) := by decide +kernel
theorem d_Desk_eliminateRow_5 : decode b_Desk_eliminateRow 5 = .ok (.iload_n 2, 1) := by decide +kernel
theorem d_Desk_eliminateRow_6 : decode b_Desk_eliminateRow 6 = .ok (.invokestatic 63, 3) := by decide +kernel
theorem d_Desk_eliminateRow_9 : decode b_Desk_eliminateRow 9 = .ok (.aaload, 1) := by decide +kernel
theorem d_Desk_eliminateRow_10 : decode b_Desk_eliminateRow 10 = .ok (.astore_n 3, 1) := by decide +kernel
theorem d_Desk_eliminateRow_11 : decode b_Desk_eliminateRow 11 = .ok (.aload_n 0, 1) := by decide +kernel
theorem d_Desk_eliminateRow_12 : decode b_Desk_eliminateRow 12 = .ok (.getfield 23, 3) := by decide +kernel
theorem d_Desk_eliminateRow_15 : decode b_Desk_eliminateRow 15 = .ok (.iload_n 1, 1) := by decide +kernel
theorem d_Desk_eliminateRow_16 : decode b_Desk_eliminateRow 16 = .ok (.iload_n 2, 1) := by decide +kernel
theorem d_Desk_eliminateRow_17 : decode b_Desk_eliminateRow 17 = .ok (.invokestatic 63, 3) := by decide +kernel
theorem d_Desk_eliminateRow_20 : decode b_Desk_eliminateRow 20 = .ok (.aaload, 1) := by decide +kernel
theorem d_Desk_eliminateRow_21 : decode b_Desk_eliminateRow 21 = .ok (.astore 4, 2) := by decide +kernel
theorem d_Desk_eliminateRow_23 : decode b_Desk_eliminateRow 23 = .ok (.iload_n 2, 1) := by decide +kernel
theorem d_Desk_eliminateRow_24 : decode b_Desk_eliminateRow 24 = .ok (.iconst 1, 1) := by decide +kernel
theorem d_Desk_eliminateRow_25 : decode b_Desk_eliminateRow 25 = .ok (.iadd, 1) := by decide +kernel
theorem d_Desk_eliminateRow_26 : decode b_Desk_eliminateRow 26 = .ok (.istore 5, 2) := by decide +kernel
theorem d_Desk_eliminateRow_28 : decode b_Desk_eliminateRow 28 = .ok (.iload 5, 2) := by decide +kernel
theorem d_Desk_eliminateRow_30 : decode b_Desk_eliminateRow 30 = .ok (.aload_n 0, 1) := by decide +kernel
theorem d_Desk_eliminateRow_31 : decode b_Desk_eliminateRow 31 = .ok (.getfield 13, 3) := by decide +kernel
theorem d_Desk_eliminateRow_34 : decode b_Desk_eliminateRow 34 = .ok (.if_icmp .gt 83, 3) := by decide +kernel
theorem d_Desk_eliminateRow_37 : decode b_Desk_eliminateRow 37 = .ok (.aload_n 0, 1) := by decide +kernel
theorem d_Desk_eliminateRow_38 : decode b_Desk_eliminateRow 38 = .ok (.getfield 23, 3) := by decide +kernel
theorem d_Desk_eliminateRow_41 : decode b_Desk_eliminateRow 41 = .ok (.iload_n 1, 1) := by decide +kernel
theorem d_Desk_eliminateRow_42 : decode b_Desk_eliminateRow 42 = .ok (.iload 5, 2) := by decide +kernel
theorem d_Desk_eliminateRow_44 : decode b_Desk_eliminateRow 44 = .ok (.invokestatic 63, 3) := by decide +kernel
theorem d_Desk_eliminateRow_47 : decode b_Desk_eliminateRow 47 = .ok (.aaload, 1) := by decide +kernel
theorem d_Desk_eliminateRow_48 : decode b_Desk_eliminateRow 48 = .ok (.astore 6, 2) := by decide +kernel
theorem d_Desk_eliminateRow_50 : decode b_Desk_eliminateRow 50 = .ok (.aload_n 0, 1) := by decide +kernel
theorem d_Desk_eliminateRow_51 : decode b_Desk_eliminateRow 51 = .ok (.getfield 40, 3) := by decide +kernel
theorem d_Desk_eliminateRow_54 : decode b_Desk_eliminateRow 54 = .ok (.aload_n 3, 1) := by decide +kernel
theorem d_Desk_eliminateRow_55 : decode b_Desk_eliminateRow 55 = .ok (.aload 6, 2) := by decide +kernel
theorem d_Desk_eliminateRow_57 : decode b_Desk_eliminateRow 57 = .ok (.invokevirtual 119, 3) := by decide +kernel
theorem d_Desk_eliminateRow_60 : decode b_Desk_eliminateRow 60 = .ok (.aload_n 0, 1) := by decide +kernel
theorem d_Desk_eliminateRow_61 : decode b_Desk_eliminateRow 61 = .ok (.getfield 43, 3) := by decide +kernel
theorem d_Desk_eliminateRow_64 : decode b_Desk_eliminateRow 64 = .ok (.aload 4, 2) := by decide +kernel
theorem d_Desk_eliminateRow_66 : decode b_Desk_eliminateRow 66 = .ok (.aload_n 0, 1) := by decide +kernel
theorem d_Desk_eliminateRow_67 : decode b_Desk_eliminateRow 67 = .ok (.getfield 23, 3) := by decide +kernel
theorem d_Desk_eliminateRow_70 : decode b_Desk_eliminateRow 70 = .ok (.iload_n 2, 1) := by decide +kernel
theorem d_Desk_eliminateRow_71 : decode b_Desk_eliminateRow 71 = .ok (.iload 5, 2) := by decide +kernel
theorem d_Desk_eliminateRow_73 : decode b_Desk_eliminateRow 73 = .ok (.invokestatic 63, 3) := by decide +kernel
theorem d_Desk_eliminateRow_76 : decode b_Desk_eliminateRow 76 = .ok (.aaload, 1) := by decide +kernel
theorem d_Desk_eliminateRow_77 : decode b_Desk_eliminateRow 77 = .ok (.invokevirtual 119, 3) := by decide +kernel
theorem d_Desk_eliminateRow_80 : decode b_Desk_eliminateRow 80 = .ok (.aload_n 0, 1) := by decide +kernel
theorem d_Desk_eliminateRow_81 : decode b_Desk_eliminateRow 81 = .ok (.getfield 40, 3) := by decide +kernel
theorem d_Desk_eliminateRow_84 : decode b_Desk_eliminateRow 84 = .ok (.aload_n 0, 1) := by decide +kernel
theorem d_Desk_eliminateRow_85 : decode b_Desk_eliminateRow 85 = .ok (.getfield 43, 3) := by decide +kernel
theorem d_Desk_eliminateRow_88 : decode b_Desk_eliminateRow 88 = .ok (.invokevirtual 122, 3) := by decide +kernel
theorem d_Desk_eliminateRow_91 : decode b_Desk_eliminateRow 91 = .ok (.aload_n 0, 1) := by decide +kernel
theorem d_Desk_eliminateRow_92 : decode b_Desk_eliminateRow 92 = .ok (.getfield 49, 3) := by decide +kernel
theorem d_Desk_eliminateRow_95 : decode b_Desk_eliminateRow 95 = .ok (.aload_n 0, 1) := by decide +kernel
theorem d_Desk_eliminateRow_96 : decode b_Desk_eliminateRow 96 = .ok (.getfield 40, 3) := by decide +kernel
theorem d_Desk_eliminateRow_99 : decode b_Desk_eliminateRow 99 = .ok (.invokevirtual 125, 3) := by decide +kernel
theorem d_Desk_eliminateRow_102 : decode b_Desk_eliminateRow 102 = .ok (.aload 6, 2) := by decide +kernel
theorem d_Desk_eliminateRow_104 : decode b_Desk_eliminateRow 104 = .ok (.aload_n 0, 1) := by decide +kernel
theorem d_Desk_eliminateRow_105 : decode b_Desk_eliminateRow 105 = .ok (.getfield 40, 3) := by decide +kernel
theorem d_Desk_eliminateRow_108 : decode b_Desk_eliminateRow 108 = .ok (.invokevirtual 88, 3) := by decide +kernel
theorem d_Desk_eliminateRow_111 : decode b_Desk_eliminateRow 111 = .ok (.iinc 5 1, 3) := by decide +kernel
theorem d_Desk_eliminateRow_114 : decode b_Desk_eliminateRow 114 = .ok (.goto (-86), 3) := by decide +kernel
theorem d_Desk_eliminateRow_117 : decode b_Desk_eliminateRow 117 = .ok (.return_, 1) := by decide +kernel
theorem d_Desk_setResult_0 : decode b_Desk_setResult 0 = .ok (.aload_n 0, 1) := by decide +kernel
theorem d_Desk_setResult_1 : decode b_Desk_setResult 1 = .ok (.getfield 34, 3) := by decide +kernel
theorem d_Desk_setResult_4 : decode b_Desk_setResult 4 = .ok (.aload_n 1, 1) := by decide +kernel
theorem d_Desk_setResult_5 : decode b_Desk_setResult 5 = .ok (.invokevirtual 88, 3) := by decide +kernel
theorem d_Desk_setResult_8 : decode b_Desk_setResult 8 = .ok (.aload_n 1, 1) := by decide +kernel
theorem d_Desk_setResult_9 : decode b_Desk_setResult 9 = .ok (.getfield 85, 3) := by decide +kernel
theorem d_Desk_setResult_12 : decode b_Desk_setResult 12 = .ok (.ifCond .ne 12, 3) := by decide +kernel
theorem d_Desk_setResult_15 : decode b_Desk_setResult 15 = .ok (.aload_n 0, 1) := by decide +kernel
theorem d_Desk_setResult_16 : decode b_Desk_setResult 16 = .ok (.getfield 37, 3) := by decide +kernel
theorem d_Desk_setResult_19 : decode b_Desk_setResult 19 = .ok (.lconst 1, 1) := by decide +kernel
theorem d_Desk_setResult_20 : decode b_Desk_setResult 20 = .ok (.invokevirtual 53, 3) := by decide +kernel
theorem d_Desk_setResult_23 : decode b_Desk_setResult 23 = .ok (.return_, 1) := by decide +kernel
theorem d_Desk_setResult_24 : decode b_Desk_setResult 24 = .ok (.aload_n 0, 1) := by decide +kernel
theorem d_Desk_setResult_25 : decode b_Desk_setResult 25 = .ok (.getfield 37, 3) := by decide +kernel
theorem d_Desk_setResult_28 : decode b_Desk_setResult 28 = .ok (.aload_n 2, 1) := by decide +kernel
theorem d_Desk_setResult_29 : decode b_Desk_setResult 29 = .ok (.invokevirtual 88, 3) := by decide +kernel
theorem d_Desk_setResult_32 : decode b_Desk_setResult 32 = .ok (.aload_n 0, 1) := by decide +kernel
theorem d_Desk_setResult_33 : decode b_Desk_setResult 33 = .ok (.getfield 49, 3) := by decide +kernel
theorem d_Desk_setResult_36 : decode b_Desk_setResult 36 = .ok (.aload_n 1, 1) := by decide +kernel
theorem d_Desk_setResult_37 : decode b_Desk_setResult 37 = .ok (.aload_n 2, 1) := by decide +kernel
theorem d_Desk_setResult_38 : decode b_Desk_setResult 38 = .ok (.invokevirtual 128, 3) := by decide +kernel
theorem d_Desk_setResult_41 : decode b_Desk_setResult 41 = .ok (.aload_n 0, 1) := by decide +kernel
theorem d_Desk_setResult_42 : decode b_Desk_setResult 42 = .ok (.getfield 49, 3) := by decide +kernel
theorem d_Desk_setResult_45 : decode b_Desk_setResult 45 = .ok (.aload_n 0, 1) := by decide +kernel
theorem d_Desk_setResult_46 : decode b_Desk_setResult 46 = .ok (.getfield 34, 3) := by decide +kernel
theorem d_Desk_setResult_49 : decode b_Desk_setResult 49 = .ok (.invokevirtual 125, 3) := by decide +kernel
theorem d_Desk_setResult_52 : decode b_Desk_setResult 52 = .ok (.aload_n 0, 1) := by decide +kernel
theorem d_Desk_setResult_53 : decode b_Desk_setResult 53 = .ok (.getfield 49, 3) := by decide +kernel
theorem d_Desk_setResult_56 : decode b_Desk_setResult 56 = .ok (.aload_n 0, 1) := by decide +kernel
theorem d_Desk_setResult_57 : decode b_Desk_setResult 57 = .ok (.getfield 37, 3) := by decide +kernel
theorem d_Desk_setResult_60 : decode b_Desk_setResult 60 = .ok (.invokevirtual 125, 3) := by decide +kernel
theorem d_Desk_setResult_63 : decode b_Desk_setResult 63 = .ok (.aload_n 0, 1) := by decide +kernel
theorem d_Desk_setResult_64 : decode b_Desk_setResult 64 = .ok (.getfield 37, 3) := by decide +kernel
theorem d_Desk_setResult_67 : decode b_Desk_setResult 67 = .ok (.getfield 85, 3) := by decide +kernel
theorem d_Desk_setResult_70 : decode b_Desk_setResult 70 = .ok (.ifCond .ge 26, 3) := by decide +kernel
theorem d_Desk_setResult_73 : decode b_Desk_setResult 73 = .ok (.aload_n 0, 1) := by decide +kernel
theorem d_Desk_setResult_74 : decode b_Desk_setResult 74 = .ok (.getfield 34, 3) := by decide +kernel
theorem d_Desk_setResult_77 : decode b_Desk_setResult 77 = .ok (.aload_n 0, 1) := by decide +kernel
theorem d_Desk_setResult_78 : decode b_Desk_setResult 78 = .ok (.getfield 34, 3) := by decide +kernel
theorem d_Desk_setResult_81 : decode b_Desk_setResult 81 = .ok (.getfield 85, 3) := by decide +kernel
theorem d_Desk_setResult_84 : decode b_Desk_setResult 84 = .ok (.ineg, 1) := by decide +kernel
theorem d_Desk_setResult_85 : decode b_Desk_setResult 85 = .ok (.putfield 85, 3) := by decide +kernel
theorem d_Desk_setResult_88 : decode b_Desk_setResult 88 = .ok (.aload_n 0, 1) := by decide +kernel
theorem d_Desk_setResult_89 : decode b_Desk_setResult 89 = .ok (.getfield 37, 3) := by decide +kernel
theorem d_Desk_setResult_92 : decode b_Desk_setResult 92 = .ok (.iconst 1, 1) := by decide +kernel
theorem d_Desk_setResult_93 : decode b_Desk_setResult 93 = .ok (.putfield 85, 3) := by decide +kernel
theorem d_Desk_setResult_96 : decode b_Desk_setResult 96 = .ok (.return_, 1) := by decide +kernel
