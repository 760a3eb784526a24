-- decode rows of Model
theorem d_Model_init_0 : decode b_Model_init 0 = .ok (.aload_n 0, 1) := by decide +kernel
theorem d_Model_init_1 : decode b_Model_init 1 = .ok (.invokespecial 1, 3) := by decide +kernel
theorem d_Model_init_4 : decode b_Model_init 4 = .ok (.aload_n 0, 1) := by decide +kernel
theorem d_Model_init_5 : decode b_Model_init 5 = .ok (.sipush 156, 3) := by decide +kernel
theorem d_Model_init_8 : decode b_Model_init 8 = .ok (.newarray .long, 2) := by decide +kernel
theorem d_Model_init_10 : decode b_Model_init 10 = .ok (.putfield 9, 3) := by decide +kernel
theorem d_Model_init_13 : decode b_Model_init 13 = .ok (.aload_n 0, 1) := by decide +kernel
theorem d_Model_init_14 : decode b_Model_init 14 = .ok (.ldc 13, 2) := by decide +kernel
theorem d_Model_init_16 : decode b_Model_init 16 = .ok (.newarray .int, 2) := by decide +kernel
theorem d_Model_init_18 : decode b_Model_init 18 = .ok (.putfield 14, 3) := by decide +kernel
theorem d_Model_init_21 : decode b_Model_init 21 = .ok (.aload_n 0, 1) := by decide +kernel
theorem d_Model_init_22 : decode b_Model_init 22 = .ok (.bipush 56, 2) := by decide +kernel
theorem d_Model_init_24 : decode b_Model_init 24 = .ok (.newarray .int, 2) := by decide +kernel
theorem d_Model_init_26 : decode b_Model_init 26 = .ok (.putfield 18, 3) := by decide +kernel
theorem d_Model_init_29 : decode b_Model_init 29 = .ok (.aload_n 0, 1) := by decide +kernel
theorem d_Model_init_30 : decode b_Model_init 30 = .ok (.bipush 56, 2) := by decide +kernel
theorem d_Model_init_32 : decode b_Model_init 32 = .ok (.newarray .int, 2) := by decide +kernel
theorem d_Model_init_34 : decode b_Model_init 34 = .ok (.putfield 21, 3) := by decide +kernel
theorem d_Model_init_37 : decode b_Model_init 37 = .ok (.aload_n 0, 1) := by decide +kernel
theorem d_Model_init_38 : decode b_Model_init 38 = .ok (.bipush 56, 2) := by decide +kernel
theorem d_Model_init_40 : decode b_Model_init 40 = .ok (.newarray .int, 2) := by decide +kernel
theorem d_Model_init_42 : decode b_Model_init 42 = .ok (.putfield 24, 3) := by decide +kernel
theorem d_Model_init_45 : decode b_Model_init 45 = .ok (.aload_n 0, 1) := by decide +kernel
theorem d_Model_init_46 : decode b_Model_init 46 = .ok (.bipush 56, 2) := by decide +kernel
theorem d_Model_init_48 : decode b_Model_init 48 = .ok (.newarray .int, 2) := by decide +kernel
theorem d_Model_init_50 : decode b_Model_init 50 = .ok (.putfield 27, 3) := by decide +kernel
theorem d_Model_init_53 : decode b_Model_init 53 = .ok (.aload_n 0, 1) := by decide +kernel
theorem d_Model_init_54 : decode b_Model_init 54 = .ok (.bipush 56, 2) := by decide +kernel
theorem d_Model_init_56 : decode b_Model_init 56 = .ok (.newarray .int, 2) := by decide +kernel
theorem d_Model_init_58 : decode b_Model_init 58 = .ok (.putfield 30, 3) := by decide +kernel
theorem d_Model_init_61 : decode b_Model_init 61 = .ok (.aload_n 0, 1) := by decide +kernel
theorem d_Model_init_62 : decode b_Model_init 62 = .ok (.bipush 56, 2) := by decide +kernel
theorem d_Model_init_64 : decode b_Model_init 64 = .ok (.newarray .int, 2) := by decide +kernel
theorem d_Model_init_66 : decode b_Model_init 66 = .ok (.putfield 33, 3) := by decide +kernel
theorem d_Model_init_69 : decode b_Model_init 69 = .ok (.aload_n 0, 1) := by decide +kernel
theorem d_Model_init_70 : decode b_Model_init 70 = .ok (.getfield 24, 3) := by decide +kernel
theorem d_Model_init_73 : decode b_Model_init 73 = .ok (.iconst 0, 1) := by decide +kernel
theorem d_Model_init_74 : decode b_Model_init 74 = .ok (.iconst 1, 1) := by decide +kernel
theorem d_Model_init_75 : decode b_Model_init 75 = .ok (.iastore, 1) := by decide +kernel
theorem d_Model_init_76 : decode b_Model_init 76 = .ok (.return_, 1) := by decide +kernel
theorem d_Model_thrown_0 : decode b_Model_thrown 0 = .ok (.aload_n 0, 1) := by decide +kernel
theorem d_Model_thrown_1 : decode b_Model_thrown 1 = .ok (.getfield 36, 3) := by decide +kernel
theorem d_Model_thrown_4 : decode b_Model_thrown 4 = .ok (.ireturn, 1) := by decide +kernel
theorem d_Model_fails_0 : decode b_Model_fails 0 = .ok (.iload_n 1, 1) := by decide +kernel
theorem d_Model_fails_1 : decode b_Model_fails 1 = .ok (.ifCond .eq 15, 3) := by decide +kernel
theorem d_Model_fails_4 : decode b_Model_fails 4 = .ok (.aload_n 0, 1) := by decide +kernel
theorem d_Model_fails_5 : decode b_Model_fails 5 = .ok (.getfield 36, 3) := by decide +kernel
theorem d_Model_fails_8 : decode b_Model_fails 8 = .ok (.ifCond .ne 8, 3) := by decide +kernel
theorem d_Model_fails_11 : decode b_Model_fails 11 = .ok (.aload_n 0, 1) := by decide +kernel
theorem d_Model_fails_12 : decode b_Model_fails 12 = .ok (.iload_n 2, 1) := by decide +kernel
theorem d_Model_fails_13 : decode b_Model_fails 13 = .ok (.putfield 36, 3) := by decide +kernel
theorem d_Model_fails_16 : decode b_Model_fails 16 = .ok (.aload_n 0, 1) := by decide +kernel
theorem d_Model_fails_17 : decode b_Model_fails 17 = .ok (.getfield 36, 3) := by decide +kernel
theorem d_Model_fails_20 : decode b_Model_fails 20 = .ok (.ifCond .eq 7, 3) := by decide +kernel
theorem d_Model_fails_23 : decode b_Model_fails 23 = .ok (.iconst 1, 1) := by decide +kernel
theorem d_Model_fails_24 : decode b_Model_fails 24 = .ok (.goto 4, 3) := by decide +kernel
theorem d_Model_fails_27 : decode b_Model_fails 27 = .ok (.iconst 0, 1) := by decide +kernel
theorem d_Model_fails_28 : decode b_Model_fails 28 = .ok (.ireturn, 1) := by decide +kernel
theorem d_Model_size_0 : decode b_Model_size 0 = .ok (.aload_n 0, 1) := by decide +kernel
theorem d_Model_size_1 : decode b_Model_size 1 = .ok (.iconst 0, 1) := by decide +kernel
theorem d_Model_size_2 : decode b_Model_size 2 = .ok (.putfield 36, 3) := by decide +kernel
theorem d_Model_size_5 : decode b_Model_size 5 = .ok (.aload_n 0, 1) := by decide +kernel
theorem d_Model_size_6 : decode b_Model_size 6 = .ok (.iload_n 1, 1) := by decide +kernel
theorem d_Model_size_7 : decode b_Model_size 7 = .ok (.ifCond .lt 9, 3) := by decide +kernel
theorem d_Model_size_10 : decode b_Model_size 10 = .ok (.iload_n 1, 1) := by decide +kernel
theorem d_Model_size_11 : decode b_Model_size 11 = .ok (.bipush 12, 2) := by decide +kernel
theorem d_Model_size_13 : decode b_Model_size 13 = .ok (.if_icmp .le 7, 3) := by decide +kernel
theorem d_Model_size_16 : decode b_Model_size 16 = .ok (.iconst 1, 1) := by decide +kernel
theorem d_Model_size_17 : decode b_Model_size 17 = .ok (.goto 4, 3) := by decide +kernel
theorem d_Model_size_20 : decode b_Model_size 20 = .ok (.iconst 0, 1) := by decide +kernel
theorem d_Model_size_21 : decode b_Model_size 21 = .ok (.iconst 1, 1) := by decide +kernel
theorem d_Model_size_22 : decode b_Model_size 22 = .ok (.invokevirtual 40, 3) := by decide +kernel
theorem d_Model_size_25 : decode b_Model_size 25 = .ok (.ifCond .eq 4, 3) := by decide +kernel
theorem d_Model_size_28 : decode b_Model_size 28 = .ok (.return_, 1) := by decide +kernel
theorem d_Model_size_29 : decode b_Model_size 29 = .ok (.aload_n 0, 1) := by decide +kernel
theorem d_Model_size_30 : decode b_Model_size 30 = .ok (.iload_n 1, 1) := by decide +kernel
theorem d_Model_size_31 : decode b_Model_size 31 = .ok (.putfield 44, 3) := by decide +kernel
theorem d_Model_size_34 : decode b_Model_size 34 = .ok (.aload_n 0, 1) := by decide +kernel
theorem d_Model_size_35 : decode b_Model_size 35 = .ok (.iconst 0, 1) := by decide +kernel
theorem d_Model_size_36 : decode b_Model_size 36 = .ok (.putfield 47, 3) := by decide +kernel
theorem d_Model_size_39 : decode b_Model_size 39 = .ok (.iconst 0, 1) := by decide +kernel
theorem d_Model_size_40 : decode b_Model_size 40 = .ok (.istore_n 2, 1) := by decide +kernel
theorem d_Model_size_41 : decode b_Model_size 41 = .ok (.iload_n 2, 1) := by decide +kernel
theorem d_Model_size_42 : decode b_Model_size 42 = .ok (.sipush 156, 3) := by decide +kernel
theorem d_Model_size_45 : decode b_Model_size 45 = .ok (.if_icmp .ge 16, 3) := by decide +kernel
theorem d_Model_size_48 : decode b_Model_size 48 = .ok (.aload_n 0, 1) := by decide +kernel
theorem d_Model_size_49 : decode b_Model_size 49 = .ok (.getfield 9, 3) := by decide +kernel
theorem d_Model_size_52 : decode b_Model_size 52 = .ok (.iload_n 2, 1) := by decide +kernel
theorem d_Model_size_53 : decode b_Model_size 53 = .ok (.lconst 0, 1) := by decide +kernel
theorem d_Model_size_54 : decode b_Model_size 54 = .ok (.lastore, 1) := by decide +kernel
theorem d_Model_size_55 : decode b_Model_size 55 = .ok (.iinc 2 1, 3) := by decide +kernel
theorem d_Model_size_58 : decode b_Model_size 58 = .ok (.goto (-17), 3) := by decide +kernel
theorem d_Model_size_61 : decode b_Model_size 61 = .ok (.return_, 1) := by decide +kernel
theorem d_Model_put_0 : decode b_Model_put 0 = .ok (.aload_n 0, 1) := by decide +kernel
theorem d_Model_put_1 : decode b_Model_put 1 = .ok (.iconst 0, 1) := by decide +kernel
theorem d_Model_put_2 : decode b_Model_put 2 = .ok (.putfield 36, 3) := by decide +kernel
theorem d_Model_put_5 : decode b_Model_put 5 = .ok (.aload_n 0, 1) := by decide +kernel
theorem d_Model_put_6 : decode b_Model_put 6 = .ok (.iload_n 1, 1) := by decide +kernel
theorem d_Model_put_7 : decode b_Model_put 7 = .ok (.ifCond .lt 23, 3) := by decide +kernel
theorem d_Model_put_10 : decode b_Model_put 10 = .ok (.iload_n 1, 1) := by decide +kernel
theorem d_Model_put_11 : decode b_Model_put 11 = .ok (.aload_n 0, 1) := by decide +kernel
theorem d_Model_put_12 : decode b_Model_put 12 = .ok (.getfield 44, 3) := by decide +kernel
theorem d_Model_put_15 : decode b_Model_put 15 = .ok (.if_icmp .ge 15, 3) := by decide +kernel
theorem d_Model_put_18 : decode b_Model_put 18 = .ok (.iload_n 2, 1) := by decide +kernel
theorem d_Model_put_19 : decode b_Model_put 19 = .ok (.ifCond .lt 11, 3) := by decide +kernel
theorem d_Model_put_22 : decode b_Model_put 22 = .ok (.iload_n 2, 1) := by decide +kernel
theorem d_Model_put_23 : decode b_Model_put 23 = .ok (.aload_n 0, 1) := by decide +kernel
theorem d_Model_put_24 : decode b_Model_put 24 = .ok (.getfield 44, 3) := by decide +kernel
theorem d_Model_put_27 : decode b_Model_put 27 = .ok (.if_icmp .le 7, 3) := by decide +kernel
theorem d_Model_put_30 : decode b_Model_put 30 = .ok (.iconst 1, 1) := by decide +kernel
theorem d_Model_put_31 : decode b_Model_put 31 = .ok (.goto 4, 3) := by decide +kernel
theorem d_Model_put_34 : decode b_Model_put 34 = .ok (.iconst 0, 1) := by decide +kernel
theorem d_Model_put_35 : decode b_Model_put 35 = .ok (.iconst 1, 1) := by decide +kernel
theorem d_Model_put_36 : decode b_Model_put 36 = .ok (.invokevirtual 40, 3) := by decide +kernel
theorem d_Model_put_39 : decode b_Model_put 39 = .ok (.ifCond .eq 5, 3) := by decide +kernel
theorem d_Model_put_42 : decode b_Model_put 42 = .ok (.lconst 0, 1) := by decide +kernel
theorem d_Model_put_43 : decode b_Model_put 43 = .ok (.lreturn, 1) := by decide +kernel
theorem d_Model_put_44 : decode b_Model_put 44 = .ok (.iload_n 1, 1) := by decide +kernel
theorem d_Model_put_45 : decode b_Model_put 45 = .ok (.bipush 13, 2) := by decide +kernel
theorem d_Model_put_47 : decode b_Model_put 47 = .ok (.imul, 1) := by decide +kernel
theorem d_Model_put_48 : decode b_Model_put 48 = .ok (.iload_n 2, 1) := by decide +kernel
theorem d_Model_put_49 : decode b_Model_put 49 = .ok (.iadd, 1) := by decide +kernel
theorem d_Model_put_50 : decode b_Model_put 50 = .ok (.istore 5, 2) := by decide +kernel
theorem d_Model_put_52 : decode b_Model_put 52 = .ok (.aload_n 0, 1) := by decide +kernel
theorem d_Model_put_53 : decode b_Model_put 53 = .ok (.getfield 9, 3) := by decide +kernel
theorem d_Model_put_56 : decode b_Model_put 56 = .ok (.iload 5, 2) := by decide +kernel
theorem d_Model_put_58 : decode b_Model_put 58 = .ok (.laload, 1) := by decide +kernel
theorem d_Model_put_59 : decode b_Model_put 59 = .ok (.lstore 6, 2) := by decide +kernel
theorem d_Model_put_61 : decode b_Model_put 61 = .ok (.aload_n 0, 1) := by decide +kernel
theorem d_Model_put_62 : decode b_Model_put 62 = .ok (.getfield 9, 3) := by decide +kernel
theorem d_Model_put_65 : decode b_Model_put 65 = .ok (.iload 5, 2) := by decide +kernel
theorem d_Model_put_67 : decode b_Model_put 67 = .ok (.lload_n 3, 1) := by decide +kernel
theorem d_Model_put_68 : decode b_Model_put 68 = .ok (.lastore, 1) := by decide +kernel
theorem d_Model_put_69 : decode b_Model_put 69 = .ok (.aload_n 0, 1) := by decide +kernel
theorem d_Model_put_70 : decode b_Model_put 70 = .ok (.iconst 0, 1) := by decide +kernel
theorem d_Model_put_71 : decode b_Model_put 71 = .ok (.putfield 47, 3) := by decide +kernel
theorem d_Model_put_74 : decode b_Model_put 74 = .ok (.lload 6, 2) := by decide +kernel
theorem d_Model_put_76 : decode b_Model_put 76 = .ok (.lreturn, 1) := by decide +kernel
theorem d_Model_times_0 : decode b_Model_times 0 = .ok (.lload_n 2, 1) := by decide +kernel
theorem d_Model_times_1 : decode b_Model_times 1 = .ok (.lconst 0, 1) := by decide +kernel
theorem d_Model_times_2 : decode b_Model_times 2 = .ok (.lcmp, 1) := by decide +kernel
theorem d_Model_times_3 : decode b_Model_times 3 = .ok (.ifCond .ge 8, 3) := by decide +kernel
theorem d_Model_times_6 : decode b_Model_times 6 = .ok (.lload_n 2, 1) := by decide +kernel
theorem d_Model_times_7 : decode b_Model_times 7 = .ok (.lneg, 1) := by decide +kernel
theorem d_Model_times_8 : decode b_Model_times 8 = .ok (.goto 4, 3) := by decide +kernel
theorem d_Model_times_11 : decode b_Model_times 11 = .ok (.lload_n 2, 1) := by decide +kernel
theorem d_Model_times_12 : decode b_Model_times 12 = .ok (.lstore 4, 2) := by decide +kernel
theorem d_Model_times_14 : decode b_Model_times 14 = .ok (.lconst 0, 1) := by decide +kernel
theorem d_Model_times_15 : decode b_Model_times 15 = .ok (.lstore 6, 2) := by decide +kernel
theorem d_Model_times_17 : decode b_Model_times 17 = .ok (.iconst 0, 1) := by decide +kernel
theorem d_Model_times_18 : decode b_Model_times 18 = .ok (.istore 8, 2) := by decide +kernel
theorem d_Model_times_20 : decode b_Model_times 20 = .ok (.iload 8, 2) := by decide +kernel
theorem d_Model_times_22 : decode b_Model_times 22 = .ok (.bipush 56, 2) := by decide +kernel
theorem d_Model_times_24 : decode b_Model_times 24 = .ok (.if_icmp .ge 119, 3) := by decide +kernel
theorem d_Model_times_27 : decode b_Model_times 27 = .ok (.lload 6, 2) := by decide +kernel
theorem d_Model_times_29 : decode b_Model_times 29 = .ok (.ldc2_w 51, 3) := by decide +kernel
theorem d_Model_times_32 : decode b_Model_times 32 = .ok (.land, 1) := by decide +kernel
theorem d_Model_times_33 : decode b_Model_times 33 = .ok (.lstore 9, 2) := by decide +kernel
theorem d_Model_times_35 : decode b_Model_times 35 = .ok (.lload 6, 2) := by decide +kernel
theorem d_Model_times_37 : decode b_Model_times 37 = .ok (.bipush 16, 2) := by decide +kernel
theorem d_Model_times_39 : decode b_Model_times 39 = .ok (.lushr, 1) := by decide +kernel
theorem d_Model_times_40 : decode b_Model_times 40 = .ok (.lstore 11, 2) := by decide +kernel
theorem d_Model_times_42 : decode b_Model_times 42 = .ok (.iconst 0, 1) := by decide +kernel
theorem d_Model_times_43 : decode b_Model_times 43 = .ok (.istore 13, 2) := by decide +kernel
theorem d_Model_times_45 : decode b_Model_times 45 = .ok (.iload 13, 2) := by decide +kernel
theorem d_Model_times_47 : decode b_Model_times 47 = .ok (.iconst 4, 1) := by decide +kernel
theorem d_Model_times_48 : decode b_Model_times 48 = .ok (.if_icmp .ge 65, 3) := by decide +kernel
theorem d_Model_times_51 : decode b_Model_times 51 = .ok (.iload 13, 2) := by decide +kernel
theorem d_Model_times_53 : decode b_Model_times 53 = .ok (.iload 8, 2) := by decide +kernel
theorem d_Model_times_55 : decode b_Model_times 55 = .ok (.if_icmp .gt 58, 3) := by decide +kernel
theorem d_Model_times_58 : decode b_Model_times 58 = .ok (.aload_n 0, 1) := by decide +kernel
theorem d_Model_times_59 : decode b_Model_times 59 = .ok (.getfield 14, 3) := by decide +kernel
theorem d_Model_times_62 : decode b_Model_times 62 = .ok (.iload_n 1, 1) := by decide +kernel
theorem d_Model_times_63 : decode b_Model_times 63 = .ok (.iload 8, 2) := by decide +kernel
theorem d_Model_times_65 : decode b_Model_times 65 = .ok (.iadd, 1) := by decide +kernel
theorem d_Model_times_66 : decode b_Model_times 66 = .ok (.iload 13, 2) := by decide +kernel
theorem d_Model_times_68 : decode b_Model_times 68 = .ok (.isub, 1) := by decide +kernel
theorem d_Model_times_69 : decode b_Model_times 69 = .ok (.iaload, 1) := by decide +kernel
theorem d_Model_times_70 : decode b_Model_times 70 = .ok (.i2l, 1) := by decide +kernel
theorem d_Model_times_71 : decode b_Model_times 71 = .ok (.lload 4, 2) := by decide +kernel
theorem d_Model_times_73 : decode b_Model_times 73 = .ok (.bipush 16, 2) := by decide +kernel
theorem d_Model_times_75 : decode b_Model_times 75 = .ok (.iload 13, 2) := by decide +kernel
theorem d_Model_times_77 : decode b_Model_times 77 = .ok (.imul, 1) := by decide +kernel
theorem d_Model_times_78 : decode b_Model_times 78 = .ok (.lushr, 1) := by decide +kernel
theorem d_Model_times_79 : decode b_Model_times 79 = .ok (.ldc2_w 51, 3) := by decide +kernel
theorem d_Model_times_82 : decode b_Model_times 82 = .ok (.land, 1) := by decide +kernel
theorem d_Model_times_83 : decode b_Model_times 83 = .ok (.lmul, 1) := by decide +kernel
theorem d_Model_times_84 : decode b_Model_times 84 = .ok (.lstore 14, 2) := by decide +kernel
theorem d_Model_times_86 : decode b_Model_times 86 = .ok (.lload 9, 2) := by decide +kernel
theorem d_Model_times_88 : decode b_Model_times 88 = .ok (.lload 14, 2) := by decide +kernel
theorem d_Model_times_90 : decode b_Model_times 90 = .ok (.ldc2_w 51, 3) := by decide +kernel
theorem d_Model_times_93 : decode b_Model_times 93 = .ok (.land, 1) := by decide +kernel
theorem d_Model_times_94 : decode b_Model_times 94 = .ok (.ladd, 1) := by decide +kernel
theorem d_Model_times_95 : decode b_Model_times 95 = .ok (.lstore 9, 2) := by decide +kernel
theorem d_Model_times_97 : decode b_Model_times 97 = .ok (.lload 11, 2) := by decide +kernel
theorem d_Model_times_99 : decode b_Model_times 99 = .ok (.lload 14, 2) := by decide +kernel
theorem d_Model_times_101 : decode b_Model_times 101 = .ok (.bipush 16, 2) := by decide +kernel
theorem d_Model_times_103 : decode b_Model_times 103 = .ok (.lushr, 1) := by decide +kernel
theorem d_Model_times_104 : decode b_Model_times 104 = .ok (.ladd, 1) := by decide +kernel
theorem d_Model_times_105 : decode b_Model_times 105 = .ok (.lstore 11, 2) := by decide +kernel
theorem d_Model_times_107 : decode b_Model_times 107 = .ok (.iinc 13 1, 3) := by decide +kernel
theorem d_Model_times_110 : decode b_Model_times 110 = .ok (.goto (-65), 3) := by decide +kernel
theorem d_Model_times_113 : decode b_Model_times 113 = .ok (.aload_n 0, 1) := by decide +kernel
theorem d_Model_times_114 : decode b_Model_times 114 = .ok (.getfield 18, 3) := by decide +kernel
theorem d_Model_times_117 : decode b_Model_times 117 = .ok (.iload 8, 2) := by decide +kernel
theorem d_Model_times_119 : decode b_Model_times 119 = .ok (.lload 9, 2) := by decide +kernel
theorem d_Model_times_121 : decode b_Model_times 121 = .ok (.ldc2_w 51, 3) := by decide +kernel
theorem d_Model_times_124 : decode b_Model_times 124 = .ok (.land, 1) := by decide +kernel
theorem d_Model_times_125 : decode b_Model_times 125 = .ok (.l2i, 1) := by decide +kernel
theorem d_Model_times_126 : decode b_Model_times 126 = .ok (.iastore, 1) := by decide +kernel
theorem d_Model_times_127 : decode b_Model_times 127 = .ok (.lload 11, 2) := by decide +kernel
theorem d_Model_times_129 : decode b_Model_times 129 = .ok (.lload 9, 2) := by decide +kernel
theorem d_Model_times_131 : decode b_Model_times 131 = .ok (.bipush 16, 2) := by decide +kernel
theorem d_Model_times_133 : decode b_Model_times 133 = .ok (.lushr, 1) := by decide +kernel
theorem d_Model_times_134 : decode b_Model_times 134 = .ok (.ladd, 1) := by decide +kernel
theorem d_Model_times_135 : decode b_Model_times 135 = .ok (.lstore 6, 2) := by decide +kernel
theorem d_Model_times_137 : decode b_Model_times 137 = .ok (.iinc 8 1, 3) := by decide +kernel
theorem d_Model_times_140 : decode b_Model_times 140 = .ok (.goto (-120), 3) := by decide +kernel
theorem d_Model_times_143 : decode b_Model_times 143 = .ok (.lload_n 2, 1) := by decide +kernel
theorem d_Model_times_144 : decode b_Model_times 144 = .ok (.lconst 0, 1) := by decide +kernel
theorem d_Model_times_145 : decode b_Model_times 145 = .ok (.lcmp, 1) := by decide +kernel
theorem d_Model_times_146 : decode b_Model_times 146 = .ok (.ifCond .ge 10, 3) := by decide +kernel
theorem d_Model_times_149 : decode b_Model_times 149 = .ok (.aload_n 0, 1) := by decide +kernel
theorem d_Model_times_150 : decode b_Model_times 150 = .ok (.getfield 18, 3) := by decide +kernel
theorem d_Model_times_153 : decode b_Model_times 153 = .ok (.invokestatic 53, 3) := by decide +kernel
theorem d_Model_times_156 : decode b_Model_times 156 = .ok (.return_, 1) := by decide +kernel
theorem d_Model_turn_0 : decode b_Model_turn 0 = .ok (.iconst 1, 1) := by decide +kernel
theorem d_Model_turn_1 : decode b_Model_turn 1 = .ok (.istore_n 1, 1) := by decide +kernel
theorem d_Model_turn_2 : decode b_Model_turn 2 = .ok (.iconst 0, 1) := by decide +kernel
theorem d_Model_turn_3 : decode b_Model_turn 3 = .ok (.istore_n 2, 1) := by decide +kernel
theorem d_Model_turn_4 : decode b_Model_turn 4 = .ok (.iload_n 2, 1) := by decide +kernel
theorem d_Model_turn_5 : decode b_Model_turn 5 = .ok (.bipush 56, 2) := by decide +kernel
theorem d_Model_turn_7 : decode b_Model_turn 7 = .ok (.if_icmp .ge 32, 3) := by decide +kernel
theorem d_Model_turn_10 : decode b_Model_turn 10 = .ok (.iload_n 1, 1) := by decide +kernel
theorem d_Model_turn_11 : decode b_Model_turn 11 = .ok (.aload_n 0, 1) := by decide +kernel
theorem d_Model_turn_12 : decode b_Model_turn 12 = .ok (.iload_n 2, 1) := by decide +kernel
theorem d_Model_turn_13 : decode b_Model_turn 13 = .ok (.iaload, 1) := by decide +kernel
theorem d_Model_turn_14 : decode b_Model_turn 14 = .ok (.iconst (-1), 1) := by decide +kernel
theorem d_Model_turn_15 : decode b_Model_turn 15 = .ok (.ixor, 1) := by decide +kernel
theorem d_Model_turn_16 : decode b_Model_turn 16 = .ok (.ldc 57, 2) := by decide +kernel
theorem d_Model_turn_18 : decode b_Model_turn 18 = .ok (.iand, 1) := by decide +kernel
theorem d_Model_turn_19 : decode b_Model_turn 19 = .ok (.iadd, 1) := by decide +kernel
theorem d_Model_turn_20 : decode b_Model_turn 20 = .ok (.istore_n 1, 1) := by decide +kernel
theorem d_Model_turn_21 : decode b_Model_turn 21 = .ok (.aload_n 0, 1) := by decide +kernel
theorem d_Model_turn_22 : decode b_Model_turn 22 = .ok (.iload_n 2, 1) := by decide +kernel
theorem d_Model_turn_23 : decode b_Model_turn 23 = .ok (.iload_n 1, 1) := by decide +kernel
theorem d_Model_turn_24 : decode b_Model_turn 24 = .ok (.ldc 57, 2) := by decide +kernel
theorem d_Model_turn_26 : decode b_Model_turn 26 = .ok (.iand, 1) := by decide +kernel
theorem d_Model_turn_27 : decode b_Model_turn 27 = .ok (.iastore, 1) := by decide +kernel
theorem d_Model_turn_28 : decode b_Model_turn 28 = .ok (.iload_n 1, 1) := by decide +kernel
theorem d_Model_turn_29 : decode b_Model_turn 29 = .ok (.bipush 16, 2) := by decide +kernel
theorem d_Model_turn_31 : decode b_Model_turn 31 = .ok (.ishr, 1) := by decide +kernel
theorem d_Model_turn_32 : decode b_Model_turn 32 = .ok (.istore_n 1, 1) := by decide +kernel
theorem d_Model_turn_33 : decode b_Model_turn 33 = .ok (.iinc 2 1, 3) := by decide +kernel
theorem d_Model_turn_36 : decode b_Model_turn 36 = .ok (.goto (-32), 3) := by decide +kernel
theorem d_Model_turn_39 : decode b_Model_turn 39 = .ok (.return_, 1) := by decide +kernel
theorem d_Model_add_0 : decode b_Model_add 0 = .ok (.iload_n 2, 1) := by decide +kernel
theorem d_Model_add_1 : decode b_Model_add 1 = .ok (.ifCond .eq 10, 3) := by decide +kernel
theorem d_Model_add_4 : decode b_Model_add 4 = .ok (.aload_n 0, 1) := by decide +kernel
theorem d_Model_add_5 : decode b_Model_add 5 = .ok (.getfield 18, 3) := by decide +kernel
theorem d_Model_add_8 : decode b_Model_add 8 = .ok (.invokestatic 53, 3) := by decide +kernel
theorem d_Model_add_11 : decode b_Model_add 11 = .ok (.iconst 0, 1) := by decide +kernel
theorem d_Model_add_12 : decode b_Model_add 12 = .ok (.istore_n 3, 1) := by decide +kernel
theorem d_Model_add_13 : decode b_Model_add 13 = .ok (.iconst 0, 1) := by decide +kernel
theorem d_Model_add_14 : decode b_Model_add 14 = .ok (.istore 4, 2) := by decide +kernel
theorem d_Model_add_16 : decode b_Model_add 16 = .ok (.iload 4, 2) := by decide +kernel
theorem d_Model_add_18 : decode b_Model_add 18 = .ok (.bipush 56, 2) := by decide +kernel
theorem d_Model_add_20 : decode b_Model_add 20 = .ok (.if_icmp .ge 47, 3) := by decide +kernel
theorem d_Model_add_23 : decode b_Model_add 23 = .ok (.iload_n 3, 1) := by decide +kernel
theorem d_Model_add_24 : decode b_Model_add 24 = .ok (.aload_n 0, 1) := by decide +kernel
theorem d_Model_add_25 : decode b_Model_add 25 = .ok (.getfield 14, 3) := by decide +kernel
theorem d_Model_add_28 : decode b_Model_add 28 = .ok (.iload_n 1, 1) := by decide +kernel
theorem d_Model_add_29 : decode b_Model_add 29 = .ok (.iload 4, 2) := by decide +kernel
theorem d_Model_add_31 : decode b_Model_add 31 = .ok (.iadd, 1) := by decide +kernel
theorem d_Model_add_32 : decode b_Model_add 32 = .ok (.iaload, 1) := by decide +kernel
theorem d_Model_add_33 : decode b_Model_add 33 = .ok (.aload_n 0, 1) := by decide +kernel
theorem d_Model_add_34 : decode b_Model_add 34 = .ok (.getfield 18, 3) := by decide +kernel
theorem d_Model_add_37 : decode b_Model_add 37 = .ok (.iload 4, 2) := by decide +kernel
theorem d_Model_add_39 : decode b_Model_add 39 = .ok (.iaload, 1) := by decide +kernel
theorem d_Model_add_40 : decode b_Model_add 40 = .ok (.iadd, 1) := by decide +kernel
theorem d_Model_add_41 : decode b_Model_add 41 = .ok (.iadd, 1) := by decide +kernel
theorem d_Model_add_42 : decode b_Model_add 42 = .ok (.istore_n 3, 1) := by decide +kernel
theorem d_Model_add_43 : decode b_Model_add 43 = .ok (.aload_n 0, 1) := by decide +kernel
theorem d_Model_add_44 : decode b_Model_add 44 = .ok (.getfield 14, 3) := by decide +kernel
theorem d_Model_add_47 : decode b_Model_add 47 = .ok (.iload_n 1, 1) := by decide +kernel
theorem d_Model_add_48 : decode b_Model_add 48 = .ok (.iload 4, 2) := by decide +kernel
theorem d_Model_add_50 : decode b_Model_add 50 = .ok (.iadd, 1) := by decide +kernel
theorem d_Model_add_51 : decode b_Model_add 51 = .ok (.iload_n 3, 1) := by decide +kernel
theorem d_Model_add_52 : decode b_Model_add 52 = .ok (.ldc 57, 2) := by decide +kernel
theorem d_Model_add_54 : decode b_Model_add 54 = .ok (.iand, 1) := by decide +kernel
theorem d_Model_add_55 : decode b_Model_add 55 = .ok (.iastore, 1) := by decide +kernel
theorem d_Model_add_56 : decode b_Model_add 56 = .ok (.iload_n 3, 1) := by decide +kernel
theorem d_Model_add_57 : decode b_Model_add 57 = .ok (.bipush 16, 2) := by decide +kernel
theorem d_Model_add_59 : decode b_Model_add 59 = .ok (.ishr, 1) := by decide +kernel
theorem d_Model_add_60 : decode b_Model_add 60 = .ok (.istore_n 3, 1) := by decide +kernel
theorem d_Model_add_61 : decode b_Model_add 61 = .ok (.iinc 4 1, 3) := by decide +kernel
theorem d_Model_add_64 : decode b_Model_add 64 = .ok (.goto (-48), 3) := by decide +kernel
theorem d_Model_add_67 : decode b_Model_add 67 = .ok (.return_, 1) := by decide +kernel
theorem d_Model_solve_0 : decode b_Model_solve 0 = .ok (.aload_n 0, 1) := by decide +kernel
theorem d_Model_solve_1 : decode b_Model_solve 1 = .ok (.iconst 0, 1) := by decide +kernel
theorem d_Model_solve_2 : decode b_Model_solve 2 = .ok (.putfield 36, 3) := by decide +kernel
theorem d_Model_solve_5 : decode b_Model_solve 5 = .ok (.aload_n 0, 1) := by decide +kernel
theorem d_Model_solve_6 : decode b_Model_solve 6 = .ok (.iconst 0, 1) := by decide +kernel
theorem d_Model_solve_7 : decode b_Model_solve 7 = .ok (.putfield 47, 3) := by decide +kernel
theorem d_Model_solve_10 : decode b_Model_solve 10 = .ok (.iconst 1, 1) := by decide +kernel
theorem d_Model_solve_11 : decode b_Model_solve 11 = .ok (.aload_n 0, 1) := by decide +kernel
theorem d_Model_solve_12 : decode b_Model_solve 12 = .ok (.getfield 44, 3) := by decide +kernel
theorem d_Model_solve_15 : decode b_Model_solve 15 = .ok (.iconst 1, 1) := by decide +kernel
theorem d_Model_solve_16 : decode b_Model_solve 16 = .ok (.iadd, 1) := by decide +kernel
theorem d_Model_solve_17 : decode b_Model_solve 17 = .ok (.ishl, 1) := by decide +kernel
theorem d_Model_solve_18 : decode b_Model_solve 18 = .ok (.istore_n 1, 1) := by decide +kernel
theorem d_Model_solve_19 : decode b_Model_solve 19 = .ok (.iconst 0, 1) := by decide +kernel
theorem d_Model_solve_20 : decode b_Model_solve 20 = .ok (.istore_n 2, 1) := by decide +kernel
theorem d_Model_solve_21 : decode b_Model_solve 21 = .ok (.iload_n 2, 1) := by decide +kernel
theorem d_Model_solve_22 : decode b_Model_solve 22 = .ok (.iload_n 1, 1) := by decide +kernel
theorem d_Model_solve_23 : decode b_Model_solve 23 = .ok (.if_icmp .ge 154, 3) := by decide +kernel
theorem d_Model_solve_26 : decode b_Model_solve 26 = .ok (.iload_n 2, 1) := by decide +kernel
theorem d_Model_solve_27 : decode b_Model_solve 27 = .ok (.invokestatic 58, 3) := by decide +kernel
theorem d_Model_solve_30 : decode b_Model_solve 30 = .ok (.istore_n 3, 1) := by decide +kernel
theorem d_Model_solve_31 : decode b_Model_solve 31 = .ok (.bipush 56, 2) := by decide +kernel
theorem d_Model_solve_33 : decode b_Model_solve 33 = .ok (.iload_n 2, 1) := by decide +kernel
theorem d_Model_solve_34 : decode b_Model_solve 34 = .ok (.imul, 1) := by decide +kernel
theorem d_Model_solve_35 : decode b_Model_solve 35 = .ok (.istore 4, 2) := by decide +kernel
theorem d_Model_solve_37 : decode b_Model_solve 37 = .ok (.iload_n 3, 1) := by decide +kernel
theorem d_Model_solve_38 : decode b_Model_solve 38 = .ok (.aload_n 0, 1) := by decide +kernel
theorem d_Model_solve_39 : decode b_Model_solve 39 = .ok (.getfield 44, 3) := by decide +kernel
theorem d_Model_solve_42 : decode b_Model_solve 42 = .ok (.if_icmp .le 6, 3) := by decide +kernel
theorem d_Model_solve_45 : decode b_Model_solve 45 = .ok (.goto 126, 3) := by decide +kernel
theorem d_Model_solve_48 : decode b_Model_solve 48 = .ok (.iconst 0, 1) := by decide +kernel
theorem d_Model_solve_49 : decode b_Model_solve 49 = .ok (.istore 5, 2) := by decide +kernel
theorem d_Model_solve_51 : decode b_Model_solve 51 = .ok (.iload 5, 2) := by decide +kernel
theorem d_Model_solve_53 : decode b_Model_solve 53 = .ok (.bipush 56, 2) := by decide +kernel
theorem d_Model_solve_55 : decode b_Model_solve 55 = .ok (.if_icmp .ge 20, 3) := by decide +kernel
theorem d_Model_solve_58 : decode b_Model_solve 58 = .ok (.aload_n 0, 1) := by decide +kernel
theorem d_Model_solve_59 : decode b_Model_solve 59 = .ok (.getfield 14, 3) := by decide +kernel
theorem d_Model_solve_62 : decode b_Model_solve 62 = .ok (.iload 4, 2) := by decide +kernel
theorem d_Model_solve_64 : decode b_Model_solve 64 = .ok (.iload 5, 2) := by decide +kernel
theorem d_Model_solve_66 : decode b_Model_solve 66 = .ok (.iadd, 1) := by decide +kernel
theorem d_Model_solve_67 : decode b_Model_solve 67 = .ok (.iconst 0, 1) := by decide +kernel
theorem d_Model_solve_68 : decode b_Model_solve 68 = .ok (.iastore, 1) := by decide +kernel
theorem d_Model_solve_69 : decode b_Model_solve 69 = .ok (.iinc 5 1, 3) := by decide +kernel
theorem d_Model_solve_72 : decode b_Model_solve 72 = .ok (.goto (-21), 3) := by decide +kernel
theorem d_Model_solve_75 : decode b_Model_solve 75 = .ok (.iload_n 3, 1) := by decide +kernel
theorem d_Model_solve_76 : decode b_Model_solve 76 = .ok (.ifCond .ne 14, 3) := by decide +kernel
theorem d_Model_solve_79 : decode b_Model_solve 79 = .ok (.aload_n 0, 1) := by decide +kernel
theorem d_Model_solve_80 : decode b_Model_solve 80 = .ok (.getfield 14, 3) := by decide +kernel
theorem d_Model_solve_83 : decode b_Model_solve 83 = .ok (.iload 4, 2) := by decide +kernel
theorem d_Model_solve_85 : decode b_Model_solve 85 = .ok (.iconst 1, 1) := by decide +kernel
theorem d_Model_solve_86 : decode b_Model_solve 86 = .ok (.iastore, 1) := by decide +kernel
theorem d_Model_solve_87 : decode b_Model_solve 87 = .ok (.goto 84, 3) := by decide +kernel
theorem d_Model_solve_90 : decode b_Model_solve 90 = .ok (.iconst 0, 1) := by decide +kernel
theorem d_Model_solve_91 : decode b_Model_solve 91 = .ok (.istore 5, 2) := by decide +kernel
theorem d_Model_solve_93 : decode b_Model_solve 93 = .ok (.aload_n 0, 1) := by decide +kernel
theorem d_Model_solve_94 : decode b_Model_solve 94 = .ok (.getfield 44, 3) := by decide +kernel
theorem d_Model_solve_97 : decode b_Model_solve 97 = .ok (.istore 6, 2) := by decide +kernel
theorem d_Model_solve_99 : decode b_Model_solve 99 = .ok (.iload 6, 2) := by decide +kernel
theorem d_Model_solve_101 : decode b_Model_solve 101 = .ok (.ifCond .lt 70, 3) := by decide +kernel
theorem d_Model_solve_104 : decode b_Model_solve 104 = .ok (.iload_n 2, 1) := by decide +kernel
theorem d_Model_solve_105 : decode b_Model_solve 105 = .ok (.iload 6, 2) := by decide +kernel
theorem d_Model_solve_107 : decode b_Model_solve 107 = .ok (.ishr, 1) := by decide +kernel
theorem d_Model_solve_108 : decode b_Model_solve 108 = .ok (.iconst 1, 1) := by decide +kernel
theorem d_Model_solve_109 : decode b_Model_solve 109 = .ok (.iand, 1) := by decide +kernel
theorem d_Model_solve_110 : decode b_Model_solve 110 = .ok (.ifCond .ne 6, 3) := by decide +kernel
theorem d_Model_solve_113 : decode b_Model_solve 113 = .ok (.goto 52, 3) := by decide +kernel
theorem d_Model_solve_116 : decode b_Model_solve 116 = .ok (.aload_n 0, 1) := by decide +kernel
theorem d_Model_solve_117 : decode b_Model_solve 117 = .ok (.bipush 56, 2) := by decide +kernel
theorem d_Model_solve_119 : decode b_Model_solve 119 = .ok (.iload_n 2, 1) := by decide +kernel
theorem d_Model_solve_120 : decode b_Model_solve 120 = .ok (.iconst 1, 1) := by decide +kernel
theorem d_Model_solve_121 : decode b_Model_solve 121 = .ok (.iload 6, 2) := by decide +kernel
theorem d_Model_solve_123 : decode b_Model_solve 123 = .ok (.ishl, 1) := by decide +kernel
theorem d_Model_solve_124 : decode b_Model_solve 124 = .ok (.iconst (-1), 1) := by decide +kernel
theorem d_Model_solve_125 : decode b_Model_solve 125 = .ok (.ixor, 1) := by decide +kernel
theorem d_Model_solve_126 : decode b_Model_solve 126 = .ok (.iand, 1) := by decide +kernel
theorem d_Model_solve_127 : decode b_Model_solve 127 = .ok (.imul, 1) := by decide +kernel
theorem d_Model_solve_128 : decode b_Model_solve 128 = .ok (.aload_n 0, 1) := by decide +kernel
theorem d_Model_solve_129 : decode b_Model_solve 129 = .ok (.getfield 9, 3) := by decide +kernel
theorem d_Model_solve_132 : decode b_Model_solve 132 = .ok (.iload_n 3, 1) := by decide +kernel
theorem d_Model_solve_133 : decode b_Model_solve 133 = .ok (.iconst 1, 1) := by decide +kernel
theorem d_Model_solve_134 : decode b_Model_solve 134 = .ok (.isub, 1) := by decide +kernel
theorem d_Model_solve_135 : decode b_Model_solve 135 = .ok (.bipush 13, 2) := by decide +kernel
theorem d_Model_solve_137 : decode b_Model_solve 137 = .ok (.imul, 1) := by decide +kernel
theorem d_Model_solve_138 : decode b_Model_solve 138 = .ok (.iload 6, 2) := by decide +kernel
theorem d_Model_solve_140 : decode b_Model_solve 140 = .ok (.iadd, 1) := by decide +kernel
theorem d_Model_solve_141 : decode b_Model_solve 141 = .ok (.laload, 1) := by decide +kernel
theorem d_Model_solve_142 : decode b_Model_solve 142 = .ok (.invokevirtual 64, 3) := by decide +kernel
theorem d_Model_solve_145 : decode b_Model_solve 145 = .ok (.aload_n 0, 1) := by decide +kernel
theorem d_Model_solve_146 : decode b_Model_solve 146 = .ok (.iload 4, 2) := by decide +kernel
theorem d_Model_solve_148 : decode b_Model_solve 148 = .ok (.iload 5, 2) := by decide +kernel
theorem d_Model_solve_150 : decode b_Model_solve 150 = .ok (.invokevirtual 68, 3) := by decide +kernel
theorem d_Model_solve_153 : decode b_Model_solve 153 = .ok (.iload 5, 2) := by decide +kernel
theorem d_Model_solve_155 : decode b_Model_solve 155 = .ok (.ifCond .ne 7, 3) := by decide +kernel
theorem d_Model_solve_158 : decode b_Model_solve 158 = .ok (.iconst 1, 1) := by decide +kernel
theorem d_Model_solve_159 : decode b_Model_solve 159 = .ok (.goto 4, 3) := by decide +kernel
theorem d_Model_solve_162 : decode b_Model_solve 162 = .ok (.iconst 0, 1) := by decide +kernel
theorem d_Model_solve_163 : decode b_Model_solve 163 = .ok (.istore 5, 2) := by decide +kernel
theorem d_Model_solve_165 : decode b_Model_solve 165 = .ok (.iinc 6 (-1), 3) := by decide +kernel
theorem d_Model_solve_168 : decode b_Model_solve 168 = .ok (.goto (-69), 3) := by decide +kernel
theorem d_Model_solve_171 : decode b_Model_solve 171 = .ok (.iinc 2 1, 3) := by decide +kernel
theorem d_Model_solve_174 : decode b_Model_solve 174 = .ok (.goto (-153), 3) := by decide +kernel
theorem d_Model_solve_177 : decode b_Model_solve 177 = .ok (.aload_n 0, 1) := by decide +kernel
theorem d_Model_solve_178 : decode b_Model_solve 178 = .ok (.aload_n 0, 1) := by decide +kernel
theorem d_Model_solve_179 : decode b_Model_solve 179 = .ok (.aload_n 0, 1) := by decide +kernel
theorem d_Model_solve_180 : decode b_Model_solve 180 = .ok (.iconst (-1), 1) := by decide +kernel
theorem d_Model_solve_181 : decode b_Model_solve 181 = .ok (.invokevirtual 72, 3) := by decide +kernel
theorem d_Model_solve_184 : decode b_Model_solve 184 = .ok (.invokevirtual 75, 3) := by decide +kernel
theorem d_Model_solve_187 : decode b_Model_solve 187 = .ok (.ifCond .eq 7, 3) := by decide +kernel
theorem d_Model_solve_190 : decode b_Model_solve 190 = .ok (.iconst 1, 1) := by decide +kernel
theorem d_Model_solve_191 : decode b_Model_solve 191 = .ok (.goto 4, 3) := by decide +kernel
theorem d_Model_solve_194 : decode b_Model_solve 194 = .ok (.iconst 0, 1) := by decide +kernel
theorem d_Model_solve_195 : decode b_Model_solve 195 = .ok (.putfield 47, 3) := by decide +kernel
theorem d_Model_solve_198 : decode b_Model_solve 198 = .ok (.aload_n 0, 1) := by decide +kernel
theorem d_Model_solve_199 : decode b_Model_solve 199 = .ok (.getfield 47, 3) := by decide +kernel
theorem d_Model_solve_202 : decode b_Model_solve 202 = .ok (.ireturn, 1) := by decide +kernel
theorem d_Model_place_0 : decode b_Model_place 0 = .ok (.iconst 1, 1) := by decide +kernel
theorem d_Model_place_1 : decode b_Model_place 1 = .ok (.aload_n 0, 1) := by decide +kernel
theorem d_Model_place_2 : decode b_Model_place 2 = .ok (.getfield 44, 3) := by decide +kernel
theorem d_Model_place_5 : decode b_Model_place 5 = .ok (.iconst 1, 1) := by decide +kernel
theorem d_Model_place_6 : decode b_Model_place 6 = .ok (.iadd, 1) := by decide +kernel
theorem d_Model_place_7 : decode b_Model_place 7 = .ok (.ishl, 1) := by decide +kernel
theorem d_Model_place_8 : decode b_Model_place 8 = .ok (.iconst 1, 1) := by decide +kernel
theorem d_Model_place_9 : decode b_Model_place 9 = .ok (.isub, 1) := by decide +kernel
theorem d_Model_place_10 : decode b_Model_place 10 = .ok (.istore_n 2, 1) := by decide +kernel
theorem d_Model_place_11 : decode b_Model_place 11 = .ok (.bipush 56, 2) := by decide +kernel
theorem d_Model_place_13 : decode b_Model_place 13 = .ok (.iload_n 1, 1) := by decide +kernel
theorem d_Model_place_14 : decode b_Model_place 14 = .ok (.ifCond .ge 16, 3) := by decide +kernel
theorem d_Model_place_17 : decode b_Model_place 17 = .ok (.iload_n 2, 1) := by decide +kernel
theorem d_Model_place_18 : decode b_Model_place 18 = .ok (.iconst 1, 1) := by decide +kernel
theorem d_Model_place_19 : decode b_Model_place 19 = .ok (.aload_n 0, 1) := by decide +kernel
theorem d_Model_place_20 : decode b_Model_place 20 = .ok (.getfield 44, 3) := by decide +kernel
theorem d_Model_place_23 : decode b_Model_place 23 = .ok (.ishl, 1) := by decide +kernel
theorem d_Model_place_24 : decode b_Model_place 24 = .ok (.iconst (-1), 1) := by decide +kernel
theorem d_Model_place_25 : decode b_Model_place 25 = .ok (.ixor, 1) := by decide +kernel
theorem d_Model_place_26 : decode b_Model_place 26 = .ok (.iand, 1) := by decide +kernel
theorem d_Model_place_27 : decode b_Model_place 27 = .ok (.goto 10, 3) := by decide +kernel
theorem d_Model_place_30 : decode b_Model_place 30 = .ok (.iload_n 2, 1) := by decide +kernel
theorem d_Model_place_31 : decode b_Model_place 31 = .ok (.iconst 1, 1) := by decide +kernel
theorem d_Model_place_32 : decode b_Model_place 32 = .ok (.iload_n 1, 1) := by decide +kernel
theorem d_Model_place_33 : decode b_Model_place 33 = .ok (.ishl, 1) := by decide +kernel
theorem d_Model_place_34 : decode b_Model_place 34 = .ok (.iconst (-1), 1) := by decide +kernel
theorem d_Model_place_35 : decode b_Model_place 35 = .ok (.ixor, 1) := by decide +kernel
theorem d_Model_place_36 : decode b_Model_place 36 = .ok (.iand, 1) := by decide +kernel
theorem d_Model_place_37 : decode b_Model_place 37 = .ok (.imul, 1) := by decide +kernel
theorem d_Model_place_38 : decode b_Model_place 38 = .ok (.ireturn, 1) := by decide +kernel
theorem d_Model_signAt_0 : decode b_Model_signAt 0 = .ok (.aload_n 0, 1) := by decide +kernel
theorem d_Model_signAt_1 : decode b_Model_signAt 1 = .ok (.getfield 14, 3) := by decide +kernel
theorem d_Model_signAt_4 : decode b_Model_signAt 4 = .ok (.iload_n 1, 1) := by decide +kernel
theorem d_Model_signAt_5 : decode b_Model_signAt 5 = .ok (.bipush 56, 2) := by decide +kernel
theorem d_Model_signAt_7 : decode b_Model_signAt 7 = .ok (.iadd, 1) := by decide +kernel
theorem d_Model_signAt_8 : decode b_Model_signAt 8 = .ok (.iconst 1, 1) := by decide +kernel
theorem d_Model_signAt_9 : decode b_Model_signAt 9 = .ok (.isub, 1) := by decide +kernel
theorem d_Model_signAt_10 : decode b_Model_signAt 10 = .ok (.iaload, 1) := by decide +kernel
theorem d_Model_signAt_11 : decode b_Model_signAt 11 = .ok (.ldc 78, 2) := by decide +kernel
theorem d_Model_signAt_13 : decode b_Model_signAt 13 = .ok (.iand, 1) := by decide +kernel
theorem d_Model_signAt_14 : decode b_Model_signAt 14 = .ok (.ifCond .eq 5, 3) := by decide +kernel
theorem d_Model_signAt_17 : decode b_Model_signAt 17 = .ok (.iconst (-1), 1) := by decide +kernel
theorem d_Model_signAt_18 : decode b_Model_signAt 18 = .ok (.ireturn, 1) := by decide +kernel
theorem d_Model_signAt_19 : decode b_Model_signAt 19 = .ok (.iconst 0, 1) := by decide +kernel
theorem d_Model_signAt_20 : decode b_Model_signAt 20 = .ok (.istore_n 2, 1) := by decide +kernel
theorem d_Model_signAt_21 : decode b_Model_signAt 21 = .ok (.iload_n 2, 1) := by decide +kernel
theorem d_Model_signAt_22 : decode b_Model_signAt 22 = .ok (.bipush 56, 2) := by decide +kernel
theorem d_Model_signAt_24 : decode b_Model_signAt 24 = .ok (.if_icmp .ge 22, 3) := by decide +kernel
theorem d_Model_signAt_27 : decode b_Model_signAt 27 = .ok (.aload_n 0, 1) := by decide +kernel
theorem d_Model_signAt_28 : decode b_Model_signAt 28 = .ok (.getfield 14, 3) := by decide +kernel
theorem d_Model_signAt_31 : decode b_Model_signAt 31 = .ok (.iload_n 1, 1) := by decide +kernel
theorem d_Model_signAt_32 : decode b_Model_signAt 32 = .ok (.iload_n 2, 1) := by decide +kernel
theorem d_Model_signAt_33 : decode b_Model_signAt 33 = .ok (.iadd, 1) := by decide +kernel
theorem d_Model_signAt_34 : decode b_Model_signAt 34 = .ok (.iaload, 1) := by decide +kernel
theorem d_Model_signAt_35 : decode b_Model_signAt 35 = .ok (.ifCond .eq 5, 3) := by decide +kernel
theorem d_Model_signAt_38 : decode b_Model_signAt 38 = .ok (.iconst 1, 1) := by decide +kernel
theorem d_Model_signAt_39 : decode b_Model_signAt 39 = .ok (.ireturn, 1) := by decide +kernel
theorem d_Model_signAt_40 : decode b_Model_signAt 40 = .ok (.iinc 2 1, 3) := by decide +kernel
theorem d_Model_signAt_43 : decode b_Model_signAt 43 = .ok (.goto (-22), 3) := by decide +kernel
theorem d_Model_signAt_46 : decode b_Model_signAt 46 = .ok (.iconst 0, 1) := by decide +kernel
theorem d_Model_signAt_47 : decode b_Model_signAt 47 = .ok (.ireturn, 1) := by decide +kernel
theorem d_Model_isZero_0 : decode b_Model_isZero 0 = .ok (.iconst 0, 1) := by decide +kernel
theorem d_Model_isZero_1 : decode b_Model_isZero 1 = .ok (.istore_n 1, 1) := by decide +kernel
theorem d_Model_isZero_2 : decode b_Model_isZero 2 = .ok (.iload_n 1, 1) := by decide +kernel
theorem d_Model_isZero_3 : decode b_Model_isZero 3 = .ok (.bipush 56, 2) := by decide +kernel
theorem d_Model_isZero_5 : decode b_Model_isZero 5 = .ok (.if_icmp .ge 17, 3) := by decide +kernel
theorem d_Model_isZero_8 : decode b_Model_isZero 8 = .ok (.aload_n 0, 1) := by decide +kernel
theorem d_Model_isZero_9 : decode b_Model_isZero 9 = .ok (.iload_n 1, 1) := by decide +kernel
theorem d_Model_isZero_10 : decode b_Model_isZero 10 = .ok (.iaload, 1) := by decide +kernel
theorem d_Model_isZero_11 : decode b_Model_isZero 11 = .ok (.ifCond .eq 5, 3) := by decide +kernel
theorem d_Model_isZero_14 : decode b_Model_isZero 14 = .ok (.iconst 0, 1) := by decide +kernel
theorem d_Model_isZero_15 : decode b_Model_isZero 15 = .ok (.ireturn, 1) := by decide +kernel
theorem d_Model_isZero_16 : decode b_Model_isZero 16 = .ok (.iinc 1 1, 3) := by decide +kernel
theorem d_Model_isZero_19 : decode b_Model_isZero 19 = .ok (.goto (-17), 3) := by decide +kernel
theorem d_Model_isZero_22 : decode b_Model_isZero 22 = .ok (.iconst 1, 1) := by decide +kernel
theorem d_Model_isZero_23 : decode b_Model_isZero 23 = .ok (.ireturn, 1) := by decide +kernel
theorem d_Model_take_0 : decode b_Model_take 0 = .ok (.iconst 0, 1) := by decide +kernel
theorem d_Model_take_1 : decode b_Model_take 1 = .ok (.istore_n 3, 1) := by decide +kernel
theorem d_Model_take_2 : decode b_Model_take 2 = .ok (.iload_n 3, 1) := by decide +kernel
theorem d_Model_take_3 : decode b_Model_take 3 = .ok (.bipush 56, 2) := by decide +kernel
theorem d_Model_take_5 : decode b_Model_take 5 = .ok (.if_icmp .ge 20, 3) := by decide +kernel
theorem d_Model_take_8 : decode b_Model_take 8 = .ok (.aload_n 2, 1) := by decide +kernel
theorem d_Model_take_9 : decode b_Model_take 9 = .ok (.iload_n 3, 1) := by decide +kernel
theorem d_Model_take_10 : decode b_Model_take 10 = .ok (.aload_n 0, 1) := by decide +kernel
theorem d_Model_take_11 : decode b_Model_take 11 = .ok (.getfield 14, 3) := by decide +kernel
theorem d_Model_take_14 : decode b_Model_take 14 = .ok (.iload_n 1, 1) := by decide +kernel
theorem d_Model_take_15 : decode b_Model_take 15 = .ok (.iload_n 3, 1) := by decide +kernel
theorem d_Model_take_16 : decode b_Model_take 16 = .ok (.iadd, 1) := by decide +kernel
theorem d_Model_take_17 : decode b_Model_take 17 = .ok (.iaload, 1) := by decide +kernel
theorem d_Model_take_18 : decode b_Model_take 18 = .ok (.iastore, 1) := by decide +kernel
theorem d_Model_take_19 : decode b_Model_take 19 = .ok (.iinc 3 1, 3) := by decide +kernel
theorem d_Model_take_22 : decode b_Model_take 22 = .ok (.goto (-20), 3) := by decide +kernel
theorem d_Model_take_25 : decode b_Model_take 25 = .ok (.return_, 1) := by decide +kernel
theorem d_Model_cmp_0 : decode b_Model_cmp 0 = .ok (.bipush 55, 2) := by decide +kernel
theorem d_Model_cmp_2 : decode b_Model_cmp 2 = .ok (.istore_n 2, 1) := by decide +kernel
theorem d_Model_cmp_3 : decode b_Model_cmp 3 = .ok (.iload_n 2, 1) := by decide +kernel
theorem d_Model_cmp_4 : decode b_Model_cmp 4 = .ok (.ifCond .lt 33, 3) := by decide +kernel
theorem d_Model_cmp_7 : decode b_Model_cmp 7 = .ok (.aload_n 0, 1) := by decide +kernel
theorem d_Model_cmp_8 : decode b_Model_cmp 8 = .ok (.iload_n 2, 1) := by decide +kernel
theorem d_Model_cmp_9 : decode b_Model_cmp 9 = .ok (.iaload, 1) := by decide +kernel
theorem d_Model_cmp_10 : decode b_Model_cmp 10 = .ok (.aload_n 1, 1) := by decide +kernel
theorem d_Model_cmp_11 : decode b_Model_cmp 11 = .ok (.iload_n 2, 1) := by decide +kernel
theorem d_Model_cmp_12 : decode b_Model_cmp 12 = .ok (.iaload, 1) := by decide +kernel
theorem d_Model_cmp_13 : decode b_Model_cmp 13 = .ok (.if_icmp .eq 18, 3) := by decide +kernel
theorem d_Model_cmp_16 : decode b_Model_cmp 16 = .ok (.aload_n 0, 1) := by decide +kernel
theorem d_Model_cmp_17 : decode b_Model_cmp 17 = .ok (.iload_n 2, 1) := by decide +kernel
theorem d_Model_cmp_18 : decode b_Model_cmp 18 = .ok (.iaload, 1) := by decide +kernel
theorem d_Model_cmp_19 : decode b_Model_cmp 19 = .ok (.aload_n 1, 1) := by decide +kernel
theorem d_Model_cmp_20 : decode b_Model_cmp 20 = .ok (.iload_n 2, 1) := by decide +kernel
theorem d_Model_cmp_21 : decode b_Model_cmp 21 = .ok (.iaload, 1) := by decide +kernel
theorem d_Model_cmp_22 : decode b_Model_cmp 22 = .ok (.if_icmp .ge 7, 3) := by decide +kernel
theorem d_Model_cmp_25 : decode b_Model_cmp 25 = .ok (.iconst (-1), 1) := by decide +kernel
theorem d_Model_cmp_26 : decode b_Model_cmp 26 = .ok (.goto 4, 3) := by decide +kernel
theorem d_Model_cmp_29 : decode b_Model_cmp 29 = .ok (.iconst 1, 1) := by decide +kernel
theorem d_Model_cmp_30 : decode b_Model_cmp 30 = .ok (.ireturn, 1) := by decide +kernel
theorem d_Model_cmp_31 : decode b_Model_cmp 31 = .ok (.iinc 2 (-1), 3) := by decide +kernel
theorem d_Model_cmp_34 : decode b_Model_cmp 34 = .ok (.goto (-31), 3) := by decide +kernel
theorem d_Model_cmp_37 : decode b_Model_cmp 37 = .ok (.iconst 0, 1) := by decide +kernel
theorem d_Model_cmp_38 : decode b_Model_cmp 38 = .ok (.ireturn, 1) := by decide +kernel
theorem d_Model_less_0 : decode b_Model_less 0 = .ok (.iconst 1, 1) := by decide +kernel
theorem d_Model_less_1 : decode b_Model_less 1 = .ok (.istore_n 2, 1) := by decide +kernel
theorem d_Model_less_2 : decode b_Model_less 2 = .ok (.iconst 0, 1) := by decide +kernel
theorem d_Model_less_3 : decode b_Model_less 3 = .ok (.istore_n 3, 1) := by decide +kernel
theorem d_Model_less_4 : decode b_Model_less 4 = .ok (.iload_n 3, 1) := by decide +kernel
theorem d_Model_less_5 : decode b_Model_less 5 = .ok (.bipush 56, 2) := by decide +kernel
theorem d_Model_less_7 : decode b_Model_less 7 = .ok (.if_icmp .ge 36, 3) := by decide +kernel
theorem d_Model_less_10 : decode b_Model_less 10 = .ok (.iload_n 2, 1) := by decide +kernel
theorem d_Model_less_11 : decode b_Model_less 11 = .ok (.aload_n 0, 1) := by decide +kernel
theorem d_Model_less_12 : decode b_Model_less 12 = .ok (.iload_n 3, 1) := by decide +kernel
theorem d_Model_less_13 : decode b_Model_less 13 = .ok (.iaload, 1) := by decide +kernel
theorem d_Model_less_14 : decode b_Model_less 14 = .ok (.aload_n 1, 1) := by decide +kernel
theorem d_Model_less_15 : decode b_Model_less 15 = .ok (.iload_n 3, 1) := by decide +kernel
theorem d_Model_less_16 : decode b_Model_less 16 = .ok (.iaload, 1) := by decide +kernel
theorem d_Model_less_17 : decode b_Model_less 17 = .ok (.iconst (-1), 1) := by decide +kernel
theorem d_Model_less_18 : decode b_Model_less 18 = .ok (.ixor, 1) := by decide +kernel
theorem d_Model_less_19 : decode b_Model_less 19 = .ok (.ldc 57, 2) := by decide +kernel
theorem d_Model_less_21 : decode b_Model_less 21 = .ok (.iand, 1) := by decide +kernel
theorem d_Model_less_22 : decode b_Model_less 22 = .ok (.iadd, 1) := by decide +kernel
theorem d_Model_less_23 : decode b_Model_less 23 = .ok (.iadd, 1) := by decide +kernel
theorem d_Model_less_24 : decode b_Model_less 24 = .ok (.istore_n 2, 1) := by decide +kernel
theorem d_Model_less_25 : decode b_Model_less 25 = .ok (.aload_n 0, 1) := by decide +kernel
theorem d_Model_less_26 : decode b_Model_less 26 = .ok (.iload_n 3, 1) := by decide +kernel
theorem d_Model_less_27 : decode b_Model_less 27 = .ok (.iload_n 2, 1) := by decide +kernel
theorem d_Model_less_28 : decode b_Model_less 28 = .ok (.ldc 57, 2) := by decide +kernel
theorem d_Model_less_30 : decode b_Model_less 30 = .ok (.iand, 1) := by decide +kernel
theorem d_Model_less_31 : decode b_Model_less 31 = .ok (.iastore, 1) := by decide +kernel
theorem d_Model_less_32 : decode b_Model_less 32 = .ok (.iload_n 2, 1) := by decide +kernel
theorem d_Model_less_33 : decode b_Model_less 33 = .ok (.bipush 16, 2) := by decide +kernel
theorem d_Model_less_35 : decode b_Model_less 35 = .ok (.ishr, 1) := by decide +kernel
theorem d_Model_less_36 : decode b_Model_less 36 = .ok (.istore_n 2, 1) := by decide +kernel
theorem d_Model_less_37 : decode b_Model_less 37 = .ok (.iinc 3 1, 3) := by decide +kernel
theorem d_Model_less_40 : decode b_Model_less 40 = .ok (.goto (-36), 3) := by decide +kernel
theorem d_Model_less_43 : decode b_Model_less 43 = .ok (.return_, 1) := by decide +kernel
theorem d_Model_half_0 : decode b_Model_half 0 = .ok (.iconst 0, 1) := by decide +kernel
theorem d_Model_half_1 : decode b_Model_half 1 = .ok (.istore_n 1, 1) := by decide +kernel
theorem d_Model_half_2 : decode b_Model_half 2 = .ok (.iload_n 1, 1) := by decide +kernel
theorem d_Model_half_3 : decode b_Model_half 3 = .ok (.bipush 56, 2) := by decide +kernel
theorem d_Model_half_5 : decode b_Model_half 5 = .ok (.if_icmp .ge 40, 3) := by decide +kernel
theorem d_Model_half_8 : decode b_Model_half 8 = .ok (.aload_n 0, 1) := by decide +kernel
theorem d_Model_half_9 : decode b_Model_half 9 = .ok (.iload_n 1, 1) := by decide +kernel
theorem d_Model_half_10 : decode b_Model_half 10 = .ok (.aload_n 0, 1) := by decide +kernel
theorem d_Model_half_11 : decode b_Model_half 11 = .ok (.iload_n 1, 1) := by decide +kernel
theorem d_Model_half_12 : decode b_Model_half 12 = .ok (.iaload, 1) := by decide +kernel
theorem d_Model_half_13 : decode b_Model_half 13 = .ok (.iconst 1, 1) := by decide +kernel
theorem d_Model_half_14 : decode b_Model_half 14 = .ok (.ishr, 1) := by decide +kernel
theorem d_Model_half_15 : decode b_Model_half 15 = .ok (.iload_n 1, 1) := by decide +kernel
theorem d_Model_half_16 : decode b_Model_half 16 = .ok (.iconst 1, 1) := by decide +kernel
theorem d_Model_half_17 : decode b_Model_half 17 = .ok (.iadd, 1) := by decide +kernel
theorem d_Model_half_18 : decode b_Model_half 18 = .ok (.bipush 56, 2) := by decide +kernel
theorem d_Model_half_20 : decode b_Model_half 20 = .ok (.if_icmp .ge 13, 3) := by decide +kernel
theorem d_Model_half_23 : decode b_Model_half 23 = .ok (.aload_n 0, 1) := by decide +kernel
theorem d_Model_half_24 : decode b_Model_half 24 = .ok (.iload_n 1, 1) := by decide +kernel
theorem d_Model_half_25 : decode b_Model_half 25 = .ok (.iconst 1, 1) := by decide +kernel
theorem d_Model_half_26 : decode b_Model_half 26 = .ok (.iadd, 1) := by decide +kernel
theorem d_Model_half_27 : decode b_Model_half 27 = .ok (.iaload, 1) := by decide +kernel
theorem d_Model_half_28 : decode b_Model_half 28 = .ok (.iconst 1, 1) := by decide +kernel
theorem d_Model_half_29 : decode b_Model_half 29 = .ok (.iand, 1) := by decide +kernel
theorem d_Model_half_30 : decode b_Model_half 30 = .ok (.goto 4, 3) := by decide +kernel
theorem d_Model_half_33 : decode b_Model_half 33 = .ok (.iconst 0, 1) := by decide +kernel
theorem d_Model_half_34 : decode b_Model_half 34 = .ok (.bipush 15, 2) := by decide +kernel
theorem d_Model_half_36 : decode b_Model_half 36 = .ok (.ishl, 1) := by decide +kernel
theorem d_Model_half_37 : decode b_Model_half 37 = .ok (.ior, 1) := by decide +kernel
theorem d_Model_half_38 : decode b_Model_half 38 = .ok (.iastore, 1) := by decide +kernel
theorem d_Model_half_39 : decode b_Model_half 39 = .ok (.iinc 1 1, 3) := by decide +kernel
theorem d_Model_half_42 : decode b_Model_half 42 = .ok (.goto (-40), 3) := by decide +kernel
theorem d_Model_half_45 : decode b_Model_half 45 = .ok (.return_, 1) := by decide +kernel
theorem d_Model_twice_0 : decode b_Model_twice 0 = .ok (.iload_n 1, 1) := by decide +kernel
theorem d_Model_twice_1 : decode b_Model_twice 1 = .ok (.istore_n 2, 1) := by decide +kernel
theorem d_Model_twice_2 : decode b_Model_twice 2 = .ok (.iconst 0, 1) := by decide +kernel
theorem d_Model_twice_3 : decode b_Model_twice 3 = .ok (.istore_n 3, 1) := by decide +kernel
theorem d_Model_twice_4 : decode b_Model_twice 4 = .ok (.iload_n 3, 1) := by decide +kernel
theorem d_Model_twice_5 : decode b_Model_twice 5 = .ok (.bipush 56, 2) := by decide +kernel
theorem d_Model_twice_7 : decode b_Model_twice 7 = .ok (.if_icmp .ge 29, 3) := by decide +kernel
theorem d_Model_twice_10 : decode b_Model_twice 10 = .ok (.iload_n 2, 1) := by decide +kernel
theorem d_Model_twice_11 : decode b_Model_twice 11 = .ok (.aload_n 0, 1) := by decide +kernel
theorem d_Model_twice_12 : decode b_Model_twice 12 = .ok (.iload_n 3, 1) := by decide +kernel
theorem d_Model_twice_13 : decode b_Model_twice 13 = .ok (.iaload, 1) := by decide +kernel
theorem d_Model_twice_14 : decode b_Model_twice 14 = .ok (.iconst 1, 1) := by decide +kernel
theorem d_Model_twice_15 : decode b_Model_twice 15 = .ok (.ishl, 1) := by decide +kernel
theorem d_Model_twice_16 : decode b_Model_twice 16 = .ok (.ior, 1) := by decide +kernel
theorem d_Model_twice_17 : decode b_Model_twice 17 = .ok (.istore_n 2, 1) := by decide +kernel
theorem d_Model_twice_18 : decode b_Model_twice 18 = .ok (.aload_n 0, 1) := by decide +kernel
theorem d_Model_twice_19 : decode b_Model_twice 19 = .ok (.iload_n 3, 1) := by decide +kernel
theorem d_Model_twice_20 : decode b_Model_twice 20 = .ok (.iload_n 2, 1) := by decide +kernel
theorem d_Model_twice_21 : decode b_Model_twice 21 = .ok (.ldc 57, 2) := by decide +kernel
theorem d_Model_twice_23 : decode b_Model_twice 23 = .ok (.iand, 1) := by decide +kernel
theorem d_Model_twice_24 : decode b_Model_twice 24 = .ok (.iastore, 1) := by decide +kernel
theorem d_Model_twice_25 : decode b_Model_twice 25 = .ok (.iload_n 2, 1) := by decide +kernel
theorem d_Model_twice_26 : decode b_Model_twice 26 = .ok (.bipush 16, 2) := by decide +kernel
theorem d_Model_twice_28 : decode b_Model_twice 28 = .ok (.ishr, 1) := by decide +kernel
theorem d_Model_twice_29 : decode b_Model_twice 29 = .ok (.istore_n 2, 1) := by decide +kernel
theorem d_Model_twice_30 : decode b_Model_twice 30 = .ok (.iinc 3 1, 3) := by decide +kernel
theorem d_Model_twice_33 : decode b_Model_twice 33 = .ok (.goto (-29), 3) := by decide +kernel
theorem d_Model_twice_36 : decode b_Model_twice 36 = .ok (.return_, 1) := by decide +kernel
theorem d_Model_copy_0 : decode b_Model_copy 0 = .ok (.iconst 0, 1) := by decide +kernel
theorem d_Model_copy_1 : decode b_Model_copy 1 = .ok (.istore_n 2, 1) := by decide +kernel
theorem d_Model_copy_2 : decode b_Model_copy 2 = .ok (.iload_n 2, 1) := by decide +kernel
theorem d_Model_copy_3 : decode b_Model_copy 3 = .ok (.bipush 56, 2) := by decide +kernel
theorem d_Model_copy_5 : decode b_Model_copy 5 = .ok (.if_icmp .ge 15, 3) := by decide +kernel
theorem d_Model_copy_8 : decode b_Model_copy 8 = .ok (.aload_n 1, 1) := by decide +kernel
theorem d_Model_copy_9 : decode b_Model_copy 9 = .ok (.iload_n 2, 1) := by decide +kernel
theorem d_Model_copy_10 : decode b_Model_copy 10 = .ok (.aload_n 0, 1) := by decide +kernel
theorem d_Model_copy_11 : decode b_Model_copy 11 = .ok (.iload_n 2, 1) := by decide +kernel
theorem d_Model_copy_12 : decode b_Model_copy 12 = .ok (.iaload, 1) := by decide +kernel
theorem d_Model_copy_13 : decode b_Model_copy 13 = .ok (.iastore, 1) := by decide +kernel
theorem d_Model_copy_14 : decode b_Model_copy 14 = .ok (.iinc 2 1, 3) := by decide +kernel
theorem d_Model_copy_17 : decode b_Model_copy 17 = .ok (.goto (-15), 3) := by decide +kernel
theorem d_Model_copy_20 : decode b_Model_copy 20 = .ok (.return_, 1) := by decide +kernel
theorem d_Model_common_0 : decode b_Model_common 0 = .ok (.aload_n 0, 1) := by decide +kernel
theorem d_Model_common_1 : decode b_Model_common 1 = .ok (.getfield 21, 3) := by decide +kernel
theorem d_Model_common_4 : decode b_Model_common 4 = .ok (.aload_n 0, 1) := by decide +kernel
theorem d_Model_common_5 : decode b_Model_common 5 = .ok (.getfield 27, 3) := by decide +kernel
theorem d_Model_common_8 : decode b_Model_common 8 = .ok (.invokestatic 79, 3) := by decide +kernel
theorem d_Model_common_11 : decode b_Model_common 11 = .ok (.aload_n 0, 1) := by decide +kernel
theorem d_Model_common_12 : decode b_Model_common 12 = .ok (.getfield 24, 3) := by decide +kernel
theorem d_Model_common_15 : decode b_Model_common 15 = .ok (.aload_n 0, 1) := by decide +kernel
theorem d_Model_common_16 : decode b_Model_common 16 = .ok (.getfield 30, 3) := by decide +kernel
theorem d_Model_common_19 : decode b_Model_common 19 = .ok (.invokestatic 79, 3) := by decide +kernel
theorem d_Model_common_22 : decode b_Model_common 22 = .ok (.aload_n 0, 1) := by decide +kernel
theorem d_Model_common_23 : decode b_Model_common 23 = .ok (.getfield 27, 3) := by decide +kernel
theorem d_Model_common_26 : decode b_Model_common 26 = .ok (.invokestatic 83, 3) := by decide +kernel
theorem d_Model_common_29 : decode b_Model_common 29 = .ok (.ifCond .eq 15, 3) := by decide +kernel
theorem d_Model_common_32 : decode b_Model_common 32 = .ok (.aload_n 0, 1) := by decide +kernel
theorem d_Model_common_33 : decode b_Model_common 33 = .ok (.getfield 30, 3) := by decide +kernel
theorem d_Model_common_36 : decode b_Model_common 36 = .ok (.aload_n 0, 1) := by decide +kernel
theorem d_Model_common_37 : decode b_Model_common 37 = .ok (.getfield 27, 3) := by decide +kernel
theorem d_Model_common_40 : decode b_Model_common 40 = .ok (.invokestatic 79, 3) := by decide +kernel
theorem d_Model_common_43 : decode b_Model_common 43 = .ok (.return_, 1) := by decide +kernel
theorem d_Model_common_44 : decode b_Model_common 44 = .ok (.iconst 0, 1) := by decide +kernel
theorem d_Model_common_45 : decode b_Model_common 45 = .ok (.istore_n 1, 1) := by decide +kernel
theorem d_Model_common_46 : decode b_Model_common 46 = .ok (.aload_n 0, 1) := by decide +kernel
theorem d_Model_common_47 : decode b_Model_common 47 = .ok (.getfield 27, 3) := by decide +kernel
theorem d_Model_common_50 : decode b_Model_common 50 = .ok (.iconst 0, 1) := by decide +kernel
theorem d_Model_common_51 : decode b_Model_common 51 = .ok (.iaload, 1) := by decide +kernel
theorem d_Model_common_52 : decode b_Model_common 52 = .ok (.iconst 1, 1) := by decide +kernel
theorem d_Model_common_53 : decode b_Model_common 53 = .ok (.iand, 1) := by decide +kernel
theorem d_Model_common_54 : decode b_Model_common 54 = .ok (.ifCond .ne 34, 3) := by decide +kernel
theorem d_Model_common_57 : decode b_Model_common 57 = .ok (.aload_n 0, 1) := by decide +kernel
theorem d_Model_common_58 : decode b_Model_common 58 = .ok (.getfield 30, 3) := by decide +kernel
theorem d_Model_common_61 : decode b_Model_common 61 = .ok (.iconst 0, 1) := by decide +kernel
theorem d_Model_common_62 : decode b_Model_common 62 = .ok (.iaload, 1) := by decide +kernel
theorem d_Model_common_63 : decode b_Model_common 63 = .ok (.iconst 1, 1) := by decide +kernel
theorem d_Model_common_64 : decode b_Model_common 64 = .ok (.iand, 1) := by decide +kernel
theorem d_Model_common_65 : decode b_Model_common 65 = .ok (.ifCond .ne 23, 3) := by decide +kernel
theorem d_Model_common_68 : decode b_Model_common 68 = .ok (.aload_n 0, 1) := by decide +kernel
theorem d_Model_common_69 : decode b_Model_common 69 = .ok (.getfield 27, 3) := by decide +kernel
theorem d_Model_common_72 : decode b_Model_common 72 = .ok (.invokestatic 87, 3) := by decide +kernel
theorem d_Model_common_75 : decode b_Model_common 75 = .ok (.aload_n 0, 1) := by decide +kernel
theorem d_Model_common_76 : decode b_Model_common 76 = .ok (.getfield 30, 3) := by decide +kernel
theorem d_Model_common_79 : decode b_Model_common 79 = .ok (.invokestatic 87, 3) := by decide +kernel
theorem d_Model_common_82 : decode b_Model_common 82 = .ok (.iinc 1 1, 3) := by decide +kernel
theorem d_Model_common_85 : decode b_Model_common 85 = .ok (.goto (-39), 3) := by decide +kernel
theorem d_Model_common_88 : decode b_Model_common 88 = .ok (.aload_n 0, 1) := by decide +kernel
theorem d_Model_common_89 : decode b_Model_common 89 = .ok (.getfield 30, 3) := by decide +kernel
theorem d_Model_common_92 : decode b_Model_common 92 = .ok (.invokestatic 83, 3) := by decide +kernel
theorem d_Model_common_95 : decode b_Model_common 95 = .ok (.ifCond .ne 127, 3) := by decide +kernel
theorem d_Model_common_98 : decode b_Model_common 98 = .ok (.aload_n 0, 1) := by decide +kernel
theorem d_Model_common_99 : decode b_Model_common 99 = .ok (.getfield 27, 3) := by decide +kernel
theorem d_Model_common_102 : decode b_Model_common 102 = .ok (.iconst 0, 1) := by decide +kernel
theorem d_Model_common_103 : decode b_Model_common 103 = .ok (.iaload, 1) := by decide +kernel
theorem d_Model_common_104 : decode b_Model_common 104 = .ok (.iconst 1, 1) := by decide +kernel
theorem d_Model_common_105 : decode b_Model_common 105 = .ok (.iand, 1) := by decide +kernel
theorem d_Model_common_106 : decode b_Model_common 106 = .ok (.ifCond .ne 13, 3) := by decide +kernel
theorem d_Model_common_109 : decode b_Model_common 109 = .ok (.aload_n 0, 1) := by decide +kernel
theorem d_Model_common_110 : decode b_Model_common 110 = .ok (.getfield 27, 3) := by decide +kernel
theorem d_Model_common_113 : decode b_Model_common 113 = .ok (.invokestatic 87, 3) := by decide +kernel
theorem d_Model_common_116 : decode b_Model_common 116 = .ok (.goto (-18), 3) := by decide +kernel
theorem d_Model_common_119 : decode b_Model_common 119 = .ok (.aload_n 0, 1) := by decide +kernel
theorem d_Model_common_120 : decode b_Model_common 120 = .ok (.getfield 30, 3) := by decide +kernel
theorem d_Model_common_123 : decode b_Model_common 123 = .ok (.iconst 0, 1) := by decide +kernel
theorem d_Model_common_124 : decode b_Model_common 124 = .ok (.iaload, 1) := by decide +kernel
theorem d_Model_common_125 : decode b_Model_common 125 = .ok (.iconst 1, 1) := by decide +kernel
theorem d_Model_common_126 : decode b_Model_common 126 = .ok (.iand, 1) := by decide +kernel
theorem d_Model_common_127 : decode b_Model_common 127 = .ok (.ifCond .ne 13, 3) := by decide +kernel
theorem d_Model_common_130 : decode b_Model_common 130 = .ok (.aload_n 0, 1) := by decide +kernel
theorem d_Model_common_131 : decode b_Model_common 131 = .ok (.getfield 30, 3) := by decide +kernel
theorem d_Model_common_134 : decode b_Model_common 134 = .ok (.invokestatic 87, 3) := by decide +kernel
theorem d_Model_common_137 : decode b_Model_common 137 = .ok (.goto (-18), 3) := by decide +kernel
theorem d_Model_common_140 : decode b_Model_common 140 = .ok (.aload_n 0, 1) := by decide +kernel
theorem d_Model_common_141 : decode b_Model_common 141 = .ok (.getfield 27, 3) := by decide +kernel
theorem d_Model_common_144 : decode b_Model_common 144 = .ok (.aload_n 0, 1) := by decide +kernel
theorem d_Model_common_145 : decode b_Model_common 145 = .ok (.getfield 30, 3) := by decide +kernel
theorem d_Model_common_148 : decode b_Model_common 148 = .ok (.invokestatic 90, 3) := by decide +kernel
theorem d_Model_common_151 : decode b_Model_common 151 = .ok (.ifCond .le 57, 3) := by decide +kernel
theorem d_Model_common_154 : decode b_Model_common 154 = .ok (.aload_n 0, 1) := by decide +kernel
theorem d_Model_common_155 : decode b_Model_common 155 = .ok (.getfield 27, 3) := by decide +kernel
theorem d_Model_common_158 : decode b_Model_common 158 = .ok (.aload_n 0, 1) := by decide +kernel
theorem d_Model_common_159 : decode b_Model_common 159 = .ok (.getfield 30, 3) := by decide +kernel
theorem d_Model_common_162 : decode b_Model_common 162 = .ok (.invokestatic 94, 3) := by decide +kernel
theorem d_Model_common_165 : decode b_Model_common 165 = .ok (.iconst 0, 1) := by decide +kernel
theorem d_Model_common_166 : decode b_Model_common 166 = .ok (.istore_n 2, 1) := by decide +kernel
theorem d_Model_common_167 : decode b_Model_common 167 = .ok (.iload_n 2, 1) := by decide +kernel
theorem d_Model_common_168 : decode b_Model_common 168 = .ok (.bipush 56, 2) := by decide +kernel
theorem d_Model_common_170 : decode b_Model_common 170 = .ok (.if_icmp .ge 35, 3) := by decide +kernel
theorem d_Model_common_173 : decode b_Model_common 173 = .ok (.aload_n 0, 1) := by decide +kernel
theorem d_Model_common_174 : decode b_Model_common 174 = .ok (.getfield 27, 3) := by decide +kernel
theorem d_Model_common_177 : decode b_Model_common 177 = .ok (.iload_n 2, 1) := by decide +kernel
theorem d_Model_common_178 : decode b_Model_common 178 = .ok (.iaload, 1) := by decide +kernel
theorem d_Model_common_179 : decode b_Model_common 179 = .ok (.istore_n 3, 1) := by decide +kernel
theorem d_Model_common_180 : decode b_Model_common 180 = .ok (.aload_n 0, 1) := by decide +kernel
theorem d_Model_common_181 : decode b_Model_common 181 = .ok (.getfield 27, 3) := by decide +kernel
theorem d_Model_common_184 : decode b_Model_common 184 = .ok (.iload_n 2, 1) := by decide +kernel
theorem d_Model_common_185 : decode b_Model_common 185 = .ok (.aload_n 0, 1) := by decide +kernel
theorem d_Model_common_186 : decode b_Model_common 186 = .ok (.getfield 30, 3) := by decide +kernel
theorem d_Model_common_189 : decode b_Model_common 189 = .ok (.iload_n 2, 1) := by decide +kernel
theorem d_Model_common_190 : decode b_Model_common 190 = .ok (.iaload, 1) := by decide +kernel
theorem d_Model_common_191 : decode b_Model_common 191 = .ok (.iastore, 1) := by decide +kernel
theorem d_Model_common_192 : decode b_Model_common 192 = .ok (.aload_n 0, 1) := by decide +kernel
theorem d_Model_common_193 : decode b_Model_common 193 = .ok (.getfield 30, 3) := by decide +kernel
theorem d_Model_common_196 : decode b_Model_common 196 = .ok (.iload_n 2, 1) := by decide +kernel
theorem d_Model_common_197 : decode b_Model_common 197 = .ok (.iload_n 3, 1) := by decide +kernel
theorem d_Model_common_198 : decode b_Model_common 198 = .ok (.iastore, 1) := by decide +kernel
theorem d_Model_common_199 : decode b_Model_common 199 = .ok (.iinc 2 1, 3) := by decide +kernel
theorem d_Model_common_202 : decode b_Model_common 202 = .ok (.goto (-35), 3) := by decide +kernel
theorem d_Model_common_205 : decode b_Model_common 205 = .ok (.goto (-117), 3) := by decide +kernel
theorem d_Model_common_208 : decode b_Model_common 208 = .ok (.aload_n 0, 1) := by decide +kernel
theorem d_Model_common_209 : decode b_Model_common 209 = .ok (.getfield 30, 3) := by decide +kernel
theorem d_Model_common_212 : decode b_Model_common 212 = .ok (.aload_n 0, 1) := by decide +kernel
theorem d_Model_common_213 : decode b_Model_common 213 = .ok (.getfield 27, 3) := by decide +kernel
theorem d_Model_common_216 : decode b_Model_common 216 = .ok (.invokestatic 94, 3) := by decide +kernel
theorem d_Model_common_219 : decode b_Model_common 219 = .ok (.goto (-131), 3) := by decide +kernel
theorem d_Model_common_222 : decode b_Model_common 222 = .ok (.iconst 0, 1) := by decide +kernel
theorem d_Model_common_223 : decode b_Model_common 223 = .ok (.istore_n 2, 1) := by decide +kernel
theorem d_Model_common_224 : decode b_Model_common 224 = .ok (.iload_n 2, 1) := by decide +kernel
theorem d_Model_common_225 : decode b_Model_common 225 = .ok (.iload_n 1, 1) := by decide +kernel
theorem d_Model_common_226 : decode b_Model_common 226 = .ok (.if_icmp .ge 17, 3) := by decide +kernel
theorem d_Model_common_229 : decode b_Model_common 229 = .ok (.aload_n 0, 1) := by decide +kernel
theorem d_Model_common_230 : decode b_Model_common 230 = .ok (.getfield 27, 3) := by decide +kernel
theorem d_Model_common_233 : decode b_Model_common 233 = .ok (.iconst 0, 1) := by decide +kernel
theorem d_Model_common_234 : decode b_Model_common 234 = .ok (.invokestatic 97, 3) := by decide +kernel
theorem d_Model_common_237 : decode b_Model_common 237 = .ok (.iinc 2 1, 3) := by decide +kernel
theorem d_Model_common_240 : decode b_Model_common 240 = .ok (.goto (-16), 3) := by decide +kernel
theorem d_Model_common_243 : decode b_Model_common 243 = .ok (.return_, 1) := by decide +kernel
theorem d_Model_divide_0 : decode b_Model_divide 0 = .ok (.iconst 0, 1) := by decide +kernel
theorem d_Model_divide_1 : decode b_Model_divide 1 = .ok (.istore_n 2, 1) := by decide +kernel
theorem d_Model_divide_2 : decode b_Model_divide 2 = .ok (.iload_n 2, 1) := by decide +kernel
theorem d_Model_divide_3 : decode b_Model_divide 3 = .ok (.bipush 56, 2) := by decide +kernel
theorem d_Model_divide_5 : decode b_Model_divide 5 = .ok (.if_icmp .ge 23, 3) := by decide +kernel
theorem d_Model_divide_8 : decode b_Model_divide 8 = .ok (.aload_n 0, 1) := by decide +kernel
theorem d_Model_divide_9 : decode b_Model_divide 9 = .ok (.getfield 33, 3) := by decide +kernel
theorem d_Model_divide_12 : decode b_Model_divide 12 = .ok (.iload_n 2, 1) := by decide +kernel
theorem d_Model_divide_13 : decode b_Model_divide 13 = .ok (.iconst 0, 1) := by decide +kernel
theorem d_Model_divide_14 : decode b_Model_divide 14 = .ok (.iastore, 1) := by decide +kernel
theorem d_Model_divide_15 : decode b_Model_divide 15 = .ok (.aload_n 0, 1) := by decide +kernel
theorem d_Model_divide_16 : decode b_Model_divide 16 = .ok (.getfield 30, 3) := by decide +kernel
theorem d_Model_divide_19 : decode b_Model_divide 19 = .ok (.iload_n 2, 1) := by decide +kernel
theorem d_Model_divide_20 : decode b_Model_divide 20 = .ok (.iconst 0, 1) := by decide +kernel
theorem d_Model_divide_21 : decode b_Model_divide 21 = .ok (.iastore, 1) := by decide +kernel
theorem d_Model_divide_22 : decode b_Model_divide 22 = .ok (.iinc 2 1, 3) := by decide +kernel
theorem d_Model_divide_25 : decode b_Model_divide 25 = .ok (.goto (-23), 3) := by decide +kernel
theorem d_Model_divide_28 : decode b_Model_divide 28 = .ok (.sipush 895, 3) := by decide +kernel
theorem d_Model_divide_31 : decode b_Model_divide 31 = .ok (.istore_n 2, 1) := by decide +kernel
theorem d_Model_divide_32 : decode b_Model_divide 32 = .ok (.iload_n 2, 1) := by decide +kernel
theorem d_Model_divide_33 : decode b_Model_divide 33 = .ok (.ifCond .lt 72, 3) := by decide +kernel
theorem d_Model_divide_36 : decode b_Model_divide 36 = .ok (.aload_n 0, 1) := by decide +kernel
theorem d_Model_divide_37 : decode b_Model_divide 37 = .ok (.getfield 33, 3) := by decide +kernel
theorem d_Model_divide_40 : decode b_Model_divide 40 = .ok (.aload_n 1, 1) := by decide +kernel
theorem d_Model_divide_41 : decode b_Model_divide 41 = .ok (.iload_n 2, 1) := by decide +kernel
theorem d_Model_divide_42 : decode b_Model_divide 42 = .ok (.iconst 4, 1) := by decide +kernel
theorem d_Model_divide_43 : decode b_Model_divide 43 = .ok (.ishr, 1) := by decide +kernel
theorem d_Model_divide_44 : decode b_Model_divide 44 = .ok (.iaload, 1) := by decide +kernel
theorem d_Model_divide_45 : decode b_Model_divide 45 = .ok (.iload_n 2, 1) := by decide +kernel
theorem d_Model_divide_46 : decode b_Model_divide 46 = .ok (.bipush 15, 2) := by decide +kernel
theorem d_Model_divide_48 : decode b_Model_divide 48 = .ok (.iand, 1) := by decide +kernel
theorem d_Model_divide_49 : decode b_Model_divide 49 = .ok (.ishr, 1) := by decide +kernel
theorem d_Model_divide_50 : decode b_Model_divide 50 = .ok (.iconst 1, 1) := by decide +kernel
theorem d_Model_divide_51 : decode b_Model_divide 51 = .ok (.iand, 1) := by decide +kernel
theorem d_Model_divide_52 : decode b_Model_divide 52 = .ok (.invokestatic 97, 3) := by decide +kernel
theorem d_Model_divide_55 : decode b_Model_divide 55 = .ok (.aload_n 0, 1) := by decide +kernel
theorem d_Model_divide_56 : decode b_Model_divide 56 = .ok (.getfield 33, 3) := by decide +kernel
theorem d_Model_divide_59 : decode b_Model_divide 59 = .ok (.aload_n 0, 1) := by decide +kernel
theorem d_Model_divide_60 : decode b_Model_divide 60 = .ok (.getfield 27, 3) := by decide +kernel
theorem d_Model_divide_63 : decode b_Model_divide 63 = .ok (.invokestatic 90, 3) := by decide +kernel
theorem d_Model_divide_66 : decode b_Model_divide 66 = .ok (.ifCond .lt 7, 3) := by decide +kernel
theorem d_Model_divide_69 : decode b_Model_divide 69 = .ok (.iconst 1, 1) := by decide +kernel
theorem d_Model_divide_70 : decode b_Model_divide 70 = .ok (.goto 4, 3) := by decide +kernel
theorem d_Model_divide_73 : decode b_Model_divide 73 = .ok (.iconst 0, 1) := by decide +kernel
theorem d_Model_divide_74 : decode b_Model_divide 74 = .ok (.istore_n 3, 1) := by decide +kernel
theorem d_Model_divide_75 : decode b_Model_divide 75 = .ok (.iload_n 3, 1) := by decide +kernel
theorem d_Model_divide_76 : decode b_Model_divide 76 = .ok (.iconst 1, 1) := by decide +kernel
theorem d_Model_divide_77 : decode b_Model_divide 77 = .ok (.if_icmp .ne 14, 3) := by decide +kernel
theorem d_Model_divide_80 : decode b_Model_divide 80 = .ok (.aload_n 0, 1) := by decide +kernel
theorem d_Model_divide_81 : decode b_Model_divide 81 = .ok (.getfield 33, 3) := by decide +kernel
theorem d_Model_divide_84 : decode b_Model_divide 84 = .ok (.aload_n 0, 1) := by decide +kernel
theorem d_Model_divide_85 : decode b_Model_divide 85 = .ok (.getfield 27, 3) := by decide +kernel
theorem d_Model_divide_88 : decode b_Model_divide 88 = .ok (.invokestatic 94, 3) := by decide +kernel
theorem d_Model_divide_91 : decode b_Model_divide 91 = .ok (.aload_n 0, 1) := by decide +kernel
theorem d_Model_divide_92 : decode b_Model_divide 92 = .ok (.getfield 30, 3) := by decide +kernel
theorem d_Model_divide_95 : decode b_Model_divide 95 = .ok (.iload_n 3, 1) := by decide +kernel
theorem d_Model_divide_96 : decode b_Model_divide 96 = .ok (.invokestatic 97, 3) := by decide +kernel
theorem d_Model_divide_99 : decode b_Model_divide 99 = .ok (.iinc 2 (-1), 3) := by decide +kernel
theorem d_Model_divide_102 : decode b_Model_divide 102 = .ok (.goto (-70), 3) := by decide +kernel
theorem d_Model_divide_105 : decode b_Model_divide 105 = .ok (.aload_n 0, 1) := by decide +kernel
theorem d_Model_divide_106 : decode b_Model_divide 106 = .ok (.getfield 30, 3) := by decide +kernel
theorem d_Model_divide_109 : decode b_Model_divide 109 = .ok (.aload_n 1, 1) := by decide +kernel
theorem d_Model_divide_110 : decode b_Model_divide 110 = .ok (.invokestatic 79, 3) := by decide +kernel
theorem d_Model_divide_113 : decode b_Model_divide 113 = .ok (.return_, 1) := by decide +kernel
theorem d_Model_signOf_0 : decode b_Model_signOf 0 = .ok (.aload_n 0, 1) := by decide +kernel
theorem d_Model_signOf_1 : decode b_Model_signOf 1 = .ok (.aload_n 0, 1) := by decide +kernel
theorem d_Model_signOf_2 : decode b_Model_signOf 2 = .ok (.iload_n 1, 1) := by decide +kernel
theorem d_Model_signOf_3 : decode b_Model_signOf 3 = .ok (.invokevirtual 72, 3) := by decide +kernel
theorem d_Model_signOf_6 : decode b_Model_signOf 6 = .ok (.invokevirtual 75, 3) := by decide +kernel
theorem d_Model_signOf_9 : decode b_Model_signOf 9 = .ok (.aload_n 0, 1) := by decide +kernel
theorem d_Model_signOf_10 : decode b_Model_signOf 10 = .ok (.aload_n 0, 1) := by decide +kernel
theorem d_Model_signOf_11 : decode b_Model_signOf 11 = .ok (.iconst (-1), 1) := by decide +kernel
theorem d_Model_signOf_12 : decode b_Model_signOf 12 = .ok (.invokevirtual 72, 3) := by decide +kernel
theorem d_Model_signOf_15 : decode b_Model_signOf 15 = .ok (.invokevirtual 75, 3) := by decide +kernel
theorem d_Model_signOf_18 : decode b_Model_signOf 18 = .ok (.imul, 1) := by decide +kernel
theorem d_Model_signOf_19 : decode b_Model_signOf 19 = .ok (.istore_n 2, 1) := by decide +kernel
theorem d_Model_signOf_20 : decode b_Model_signOf 20 = .ok (.aload_n 0, 1) := by decide +kernel
theorem d_Model_signOf_21 : decode b_Model_signOf 21 = .ok (.getfield 44, 3) := by decide +kernel
theorem d_Model_signOf_24 : decode b_Model_signOf 24 = .ok (.iconst 1, 1) := by decide +kernel
theorem d_Model_signOf_25 : decode b_Model_signOf 25 = .ok (.isub, 1) := by decide +kernel
theorem d_Model_signOf_26 : decode b_Model_signOf 26 = .ok (.iload_n 1, 1) := by decide +kernel
theorem d_Model_signOf_27 : decode b_Model_signOf 27 = .ok (.isub, 1) := by decide +kernel
theorem d_Model_signOf_28 : decode b_Model_signOf 28 = .ok (.iconst 1, 1) := by decide +kernel
theorem d_Model_signOf_29 : decode b_Model_signOf 29 = .ok (.iand, 1) := by decide +kernel
theorem d_Model_signOf_30 : decode b_Model_signOf 30 = .ok (.iconst 1, 1) := by decide +kernel
theorem d_Model_signOf_31 : decode b_Model_signOf 31 = .ok (.if_icmp .ne 8, 3) := by decide +kernel
theorem d_Model_signOf_34 : decode b_Model_signOf 34 = .ok (.iload_n 2, 1) := by decide +kernel
theorem d_Model_signOf_35 : decode b_Model_signOf 35 = .ok (.ineg, 1) := by decide +kernel
theorem d_Model_signOf_36 : decode b_Model_signOf 36 = .ok (.goto 4, 3) := by decide +kernel
theorem d_Model_signOf_39 : decode b_Model_signOf 39 = .ok (.iload_n 2, 1) := by decide +kernel
theorem d_Model_signOf_40 : decode b_Model_signOf 40 = .ok (.ireturn, 1) := by decide +kernel
theorem d_Model_unknown_0 : decode b_Model_unknown 0 = .ok (.aload_n 0, 1) := by decide +kernel
theorem d_Model_unknown_1 : decode b_Model_unknown 1 = .ok (.iconst 0, 1) := by decide +kernel
theorem d_Model_unknown_2 : decode b_Model_unknown 2 = .ok (.putfield 36, 3) := by decide +kernel
theorem d_Model_unknown_5 : decode b_Model_unknown 5 = .ok (.aload_n 0, 1) := by decide +kernel
theorem d_Model_unknown_6 : decode b_Model_unknown 6 = .ok (.aload_n 0, 1) := by decide +kernel
theorem d_Model_unknown_7 : decode b_Model_unknown 7 = .ok (.getfield 47, 3) := by decide +kernel
theorem d_Model_unknown_10 : decode b_Model_unknown 10 = .ok (.ifCond .ne 7, 3) := by decide +kernel
theorem d_Model_unknown_13 : decode b_Model_unknown 13 = .ok (.iconst 1, 1) := by decide +kernel
theorem d_Model_unknown_14 : decode b_Model_unknown 14 = .ok (.goto 4, 3) := by decide +kernel
theorem d_Model_unknown_17 : decode b_Model_unknown 17 = .ok (.iconst 0, 1) := by decide +kernel
theorem d_Model_unknown_18 : decode b_Model_unknown 18 = .ok (.iconst 1, 1) := by decide +kernel
theorem d_Model_unknown_19 : decode b_Model_unknown 19 = .ok (.invokevirtual 40, 3) := by decide +kernel
theorem d_Model_unknown_22 : decode b_Model_unknown 22 = .ok (.ifCond .ne 28, 3) := by decide +kernel
theorem d_Model_unknown_25 : decode b_Model_unknown 25 = .ok (.aload_n 0, 1) := by decide +kernel
theorem d_Model_unknown_26 : decode b_Model_unknown 26 = .ok (.iload_n 1, 1) := by decide +kernel
theorem d_Model_unknown_27 : decode b_Model_unknown 27 = .ok (.ifCond .lt 11, 3) := by decide +kernel
theorem d_Model_unknown_30 : decode b_Model_unknown 30 = .ok (.iload_n 1, 1) := by decide +kernel
theorem d_Model_unknown_31 : decode b_Model_unknown 31 = .ok (.aload_n 0, 1) := by decide +kernel
theorem d_Model_unknown_32 : decode b_Model_unknown 32 = .ok (.getfield 44, 3) := by decide +kernel
theorem d_Model_unknown_35 : decode b_Model_unknown 35 = .ok (.if_icmp .lt 7, 3) := by decide +kernel
theorem d_Model_unknown_38 : decode b_Model_unknown 38 = .ok (.iconst 1, 1) := by decide +kernel
theorem d_Model_unknown_39 : decode b_Model_unknown 39 = .ok (.goto 4, 3) := by decide +kernel
theorem d_Model_unknown_42 : decode b_Model_unknown 42 = .ok (.iconst 0, 1) := by decide +kernel
theorem d_Model_unknown_43 : decode b_Model_unknown 43 = .ok (.iconst 2, 1) := by decide +kernel
theorem d_Model_unknown_44 : decode b_Model_unknown 44 = .ok (.invokevirtual 40, 3) := by decide +kernel
theorem d_Model_unknown_47 : decode b_Model_unknown 47 = .ok (.ifCond .eq 5, 3) := by decide +kernel
theorem d_Model_unknown_50 : decode b_Model_unknown 50 = .ok (.iconst 0, 1) := by decide +kernel
theorem d_Model_unknown_51 : decode b_Model_unknown 51 = .ok (.ireturn, 1) := by decide +kernel
theorem d_Model_unknown_52 : decode b_Model_unknown 52 = .ok (.aload_n 0, 1) := by decide +kernel
theorem d_Model_unknown_53 : decode b_Model_unknown 53 = .ok (.aload_n 0, 1) := by decide +kernel
theorem d_Model_unknown_54 : decode b_Model_unknown 54 = .ok (.iload_n 1, 1) := by decide +kernel
theorem d_Model_unknown_55 : decode b_Model_unknown 55 = .ok (.invokevirtual 72, 3) := by decide +kernel
theorem d_Model_unknown_58 : decode b_Model_unknown 58 = .ok (.aload_n 0, 1) := by decide +kernel
theorem d_Model_unknown_59 : decode b_Model_unknown 59 = .ok (.getfield 21, 3) := by decide +kernel
theorem d_Model_unknown_62 : decode b_Model_unknown 62 = .ok (.invokevirtual 101, 3) := by decide +kernel
theorem d_Model_unknown_65 : decode b_Model_unknown 65 = .ok (.aload_n 0, 1) := by decide +kernel
theorem d_Model_unknown_66 : decode b_Model_unknown 66 = .ok (.aload_n 0, 1) := by decide +kernel
theorem d_Model_unknown_67 : decode b_Model_unknown 67 = .ok (.iconst (-1), 1) := by decide +kernel
theorem d_Model_unknown_68 : decode b_Model_unknown 68 = .ok (.invokevirtual 72, 3) := by decide +kernel
theorem d_Model_unknown_71 : decode b_Model_unknown 71 = .ok (.aload_n 0, 1) := by decide +kernel
theorem d_Model_unknown_72 : decode b_Model_unknown 72 = .ok (.getfield 24, 3) := by decide +kernel
theorem d_Model_unknown_75 : decode b_Model_unknown 75 = .ok (.invokevirtual 101, 3) := by decide +kernel
theorem d_Model_unknown_78 : decode b_Model_unknown 78 = .ok (.aload_n 0, 1) := by decide +kernel
theorem d_Model_unknown_79 : decode b_Model_unknown 79 = .ok (.aload_n 0, 1) := by decide +kernel
theorem d_Model_unknown_80 : decode b_Model_unknown 80 = .ok (.iload_n 1, 1) := by decide +kernel
theorem d_Model_unknown_81 : decode b_Model_unknown 81 = .ok (.invokevirtual 72, 3) := by decide +kernel
theorem d_Model_unknown_84 : decode b_Model_unknown 84 = .ok (.invokevirtual 75, 3) := by decide +kernel
theorem d_Model_unknown_87 : decode b_Model_unknown 87 = .ok (.ifCond .ge 10, 3) := by decide +kernel
theorem d_Model_unknown_90 : decode b_Model_unknown 90 = .ok (.aload_n 0, 1) := by decide +kernel
theorem d_Model_unknown_91 : decode b_Model_unknown 91 = .ok (.getfield 21, 3) := by decide +kernel
theorem d_Model_unknown_94 : decode b_Model_unknown 94 = .ok (.invokestatic 53, 3) := by decide +kernel
theorem d_Model_unknown_97 : decode b_Model_unknown 97 = .ok (.aload_n 0, 1) := by decide +kernel
theorem d_Model_unknown_98 : decode b_Model_unknown 98 = .ok (.aload_n 0, 1) := by decide +kernel
theorem d_Model_unknown_99 : decode b_Model_unknown 99 = .ok (.iconst (-1), 1) := by decide +kernel
theorem d_Model_unknown_100 : decode b_Model_unknown 100 = .ok (.invokevirtual 72, 3) := by decide +kernel
theorem d_Model_unknown_103 : decode b_Model_unknown 103 = .ok (.invokevirtual 75, 3) := by decide +kernel
theorem d_Model_unknown_106 : decode b_Model_unknown 106 = .ok (.ifCond .ge 10, 3) := by decide +kernel
theorem d_Model_unknown_109 : decode b_Model_unknown 109 = .ok (.aload_n 0, 1) := by decide +kernel
theorem d_Model_unknown_110 : decode b_Model_unknown 110 = .ok (.getfield 24, 3) := by decide +kernel
theorem d_Model_unknown_113 : decode b_Model_unknown 113 = .ok (.invokestatic 53, 3) := by decide +kernel
theorem d_Model_unknown_116 : decode b_Model_unknown 116 = .ok (.aload_n 0, 1) := by decide +kernel
theorem d_Model_unknown_117 : decode b_Model_unknown 117 = .ok (.invokevirtual 105, 3) := by decide +kernel
theorem d_Model_unknown_120 : decode b_Model_unknown 120 = .ok (.aload_n 0, 1) := by decide +kernel
theorem d_Model_unknown_121 : decode b_Model_unknown 121 = .ok (.aload_n 0, 1) := by decide +kernel
theorem d_Model_unknown_122 : decode b_Model_unknown 122 = .ok (.getfield 21, 3) := by decide +kernel
theorem d_Model_unknown_125 : decode b_Model_unknown 125 = .ok (.invokevirtual 108, 3) := by decide +kernel
theorem d_Model_unknown_128 : decode b_Model_unknown 128 = .ok (.aload_n 0, 1) := by decide +kernel
theorem d_Model_unknown_129 : decode b_Model_unknown 129 = .ok (.aload_n 0, 1) := by decide +kernel
theorem d_Model_unknown_130 : decode b_Model_unknown 130 = .ok (.getfield 24, 3) := by decide +kernel
theorem d_Model_unknown_133 : decode b_Model_unknown 133 = .ok (.invokevirtual 108, 3) := by decide +kernel
theorem d_Model_unknown_136 : decode b_Model_unknown 136 = .ok (.aload_n 0, 1) := by decide +kernel
theorem d_Model_unknown_137 : decode b_Model_unknown 137 = .ok (.iload_n 1, 1) := by decide +kernel
theorem d_Model_unknown_138 : decode b_Model_unknown 138 = .ok (.invokevirtual 111, 3) := by decide +kernel
theorem d_Model_unknown_141 : decode b_Model_unknown 141 = .ok (.ireturn, 1) := by decide +kernel
theorem d_Model_determinant_0 : decode b_Model_determinant 0 = .ok (.aload_n 0, 1) := by decide +kernel
theorem d_Model_determinant_1 : decode b_Model_determinant 1 = .ok (.iconst 0, 1) := by decide +kernel
theorem d_Model_determinant_2 : decode b_Model_determinant 2 = .ok (.putfield 36, 3) := by decide +kernel
theorem d_Model_determinant_5 : decode b_Model_determinant 5 = .ok (.aload_n 0, 1) := by decide +kernel
theorem d_Model_determinant_6 : decode b_Model_determinant 6 = .ok (.aload_n 0, 1) := by decide +kernel
theorem d_Model_determinant_7 : decode b_Model_determinant 7 = .ok (.getfield 47, 3) := by decide +kernel
theorem d_Model_determinant_10 : decode b_Model_determinant 10 = .ok (.ifCond .ne 7, 3) := by decide +kernel
theorem d_Model_determinant_13 : decode b_Model_determinant 13 = .ok (.iconst 1, 1) := by decide +kernel
theorem d_Model_determinant_14 : decode b_Model_determinant 14 = .ok (.goto 4, 3) := by decide +kernel
theorem d_Model_determinant_17 : decode b_Model_determinant 17 = .ok (.iconst 0, 1) := by decide +kernel
theorem d_Model_determinant_18 : decode b_Model_determinant 18 = .ok (.iconst 1, 1) := by decide +kernel
theorem d_Model_determinant_19 : decode b_Model_determinant 19 = .ok (.invokevirtual 40, 3) := by decide +kernel
theorem d_Model_determinant_22 : decode b_Model_determinant 22 = .ok (.ifCond .eq 5, 3) := by decide +kernel
theorem d_Model_determinant_25 : decode b_Model_determinant 25 = .ok (.iconst 0, 1) := by decide +kernel
theorem d_Model_determinant_26 : decode b_Model_determinant 26 = .ok (.ireturn, 1) := by decide +kernel
theorem d_Model_determinant_27 : decode b_Model_determinant 27 = .ok (.aload_n 0, 1) := by decide +kernel
theorem d_Model_determinant_28 : decode b_Model_determinant 28 = .ok (.aload_n 0, 1) := by decide +kernel
theorem d_Model_determinant_29 : decode b_Model_determinant 29 = .ok (.iconst (-1), 1) := by decide +kernel
theorem d_Model_determinant_30 : decode b_Model_determinant 30 = .ok (.invokevirtual 72, 3) := by decide +kernel
theorem d_Model_determinant_33 : decode b_Model_determinant 33 = .ok (.invokevirtual 75, 3) := by decide +kernel
theorem d_Model_determinant_36 : decode b_Model_determinant 36 = .ok (.istore_n 1, 1) := by decide +kernel
theorem d_Model_determinant_37 : decode b_Model_determinant 37 = .ok (.aload_n 0, 1) := by decide +kernel
theorem d_Model_determinant_38 : decode b_Model_determinant 38 = .ok (.aload_n 0, 1) := by decide +kernel
theorem d_Model_determinant_39 : decode b_Model_determinant 39 = .ok (.iconst (-1), 1) := by decide +kernel
theorem d_Model_determinant_40 : decode b_Model_determinant 40 = .ok (.invokevirtual 72, 3) := by decide +kernel
theorem d_Model_determinant_43 : decode b_Model_determinant 43 = .ok (.aload_n 0, 1) := by decide +kernel
theorem d_Model_determinant_44 : decode b_Model_determinant 44 = .ok (.getfield 21, 3) := by decide +kernel
theorem d_Model_determinant_47 : decode b_Model_determinant 47 = .ok (.invokevirtual 101, 3) := by decide +kernel
theorem d_Model_determinant_50 : decode b_Model_determinant 50 = .ok (.iload_n 1, 1) := by decide +kernel
theorem d_Model_determinant_51 : decode b_Model_determinant 51 = .ok (.ifCond .ge 10, 3) := by decide +kernel
theorem d_Model_determinant_54 : decode b_Model_determinant 54 = .ok (.aload_n 0, 1) := by decide +kernel
theorem d_Model_determinant_55 : decode b_Model_determinant 55 = .ok (.getfield 21, 3) := by decide +kernel
theorem d_Model_determinant_58 : decode b_Model_determinant 58 = .ok (.invokestatic 53, 3) := by decide +kernel
theorem d_Model_determinant_61 : decode b_Model_determinant 61 = .ok (.iconst 0, 1) := by decide +kernel
theorem d_Model_determinant_62 : decode b_Model_determinant 62 = .ok (.istore_n 2, 1) := by decide +kernel
theorem d_Model_determinant_63 : decode b_Model_determinant 63 = .ok (.iload_n 2, 1) := by decide +kernel
theorem d_Model_determinant_64 : decode b_Model_determinant 64 = .ok (.bipush 56, 2) := by decide +kernel
theorem d_Model_determinant_66 : decode b_Model_determinant 66 = .ok (.if_icmp .ge 16, 3) := by decide +kernel
theorem d_Model_determinant_69 : decode b_Model_determinant 69 = .ok (.aload_n 0, 1) := by decide +kernel
theorem d_Model_determinant_70 : decode b_Model_determinant 70 = .ok (.getfield 24, 3) := by decide +kernel
theorem d_Model_determinant_73 : decode b_Model_determinant 73 = .ok (.iload_n 2, 1) := by decide +kernel
theorem d_Model_determinant_74 : decode b_Model_determinant 74 = .ok (.iconst 0, 1) := by decide +kernel
theorem d_Model_determinant_75 : decode b_Model_determinant 75 = .ok (.iastore, 1) := by decide +kernel
theorem d_Model_determinant_76 : decode b_Model_determinant 76 = .ok (.iinc 2 1, 3) := by decide +kernel
theorem d_Model_determinant_79 : decode b_Model_determinant 79 = .ok (.goto (-16), 3) := by decide +kernel
theorem d_Model_determinant_82 : decode b_Model_determinant 82 = .ok (.aload_n 0, 1) := by decide +kernel
theorem d_Model_determinant_83 : decode b_Model_determinant 83 = .ok (.getfield 24, 3) := by decide +kernel
theorem d_Model_determinant_86 : decode b_Model_determinant 86 = .ok (.iconst 0, 1) := by decide +kernel
theorem d_Model_determinant_87 : decode b_Model_determinant 87 = .ok (.iconst 1, 1) := by decide +kernel
theorem d_Model_determinant_88 : decode b_Model_determinant 88 = .ok (.iastore, 1) := by decide +kernel
theorem d_Model_determinant_89 : decode b_Model_determinant 89 = .ok (.iload_n 1, 1) := by decide +kernel
theorem d_Model_determinant_90 : decode b_Model_determinant 90 = .ok (.ireturn, 1) := by decide +kernel
theorem d_Model_compare_0 : decode b_Model_compare 0 = .ok (.aload_n 0, 1) := by decide +kernel
theorem d_Model_compare_1 : decode b_Model_compare 1 = .ok (.iconst 0, 1) := by decide +kernel
theorem d_Model_compare_2 : decode b_Model_compare 2 = .ok (.putfield 36, 3) := by decide +kernel
theorem d_Model_compare_5 : decode b_Model_compare 5 = .ok (.aload_n 0, 1) := by decide +kernel
theorem d_Model_compare_6 : decode b_Model_compare 6 = .ok (.aload_n 0, 1) := by decide +kernel
theorem d_Model_compare_7 : decode b_Model_compare 7 = .ok (.getfield 47, 3) := by decide +kernel
theorem d_Model_compare_10 : decode b_Model_compare 10 = .ok (.ifCond .ne 7, 3) := by decide +kernel
theorem d_Model_compare_13 : decode b_Model_compare 13 = .ok (.iconst 1, 1) := by decide +kernel
theorem d_Model_compare_14 : decode b_Model_compare 14 = .ok (.goto 4, 3) := by decide +kernel
theorem d_Model_compare_17 : decode b_Model_compare 17 = .ok (.iconst 0, 1) := by decide +kernel
theorem d_Model_compare_18 : decode b_Model_compare 18 = .ok (.iconst 1, 1) := by decide +kernel
theorem d_Model_compare_19 : decode b_Model_compare 19 = .ok (.invokevirtual 40, 3) := by decide +kernel
theorem d_Model_compare_22 : decode b_Model_compare 22 = .ok (.ifCond .ne 40, 3) := by decide +kernel
theorem d_Model_compare_25 : decode b_Model_compare 25 = .ok (.aload_n 0, 1) := by decide +kernel
theorem d_Model_compare_26 : decode b_Model_compare 26 = .ok (.iload_n 1, 1) := by decide +kernel
theorem d_Model_compare_27 : decode b_Model_compare 27 = .ok (.ifCond .lt 23, 3) := by decide +kernel
theorem d_Model_compare_30 : decode b_Model_compare 30 = .ok (.iload_n 1, 1) := by decide +kernel
theorem d_Model_compare_31 : decode b_Model_compare 31 = .ok (.aload_n 0, 1) := by decide +kernel
theorem d_Model_compare_32 : decode b_Model_compare 32 = .ok (.getfield 44, 3) := by decide +kernel
theorem d_Model_compare_35 : decode b_Model_compare 35 = .ok (.if_icmp .ge 15, 3) := by decide +kernel
theorem d_Model_compare_38 : decode b_Model_compare 38 = .ok (.iload_n 2, 1) := by decide +kernel
theorem d_Model_compare_39 : decode b_Model_compare 39 = .ok (.ifCond .lt 11, 3) := by decide +kernel
theorem d_Model_compare_42 : decode b_Model_compare 42 = .ok (.iload_n 2, 1) := by decide +kernel
theorem d_Model_compare_43 : decode b_Model_compare 43 = .ok (.aload_n 0, 1) := by decide +kernel
theorem d_Model_compare_44 : decode b_Model_compare 44 = .ok (.getfield 44, 3) := by decide +kernel
theorem d_Model_compare_47 : decode b_Model_compare 47 = .ok (.if_icmp .lt 7, 3) := by decide +kernel
theorem d_Model_compare_50 : decode b_Model_compare 50 = .ok (.iconst 1, 1) := by decide +kernel
theorem d_Model_compare_51 : decode b_Model_compare 51 = .ok (.goto 4, 3) := by decide +kernel
theorem d_Model_compare_54 : decode b_Model_compare 54 = .ok (.iconst 0, 1) := by decide +kernel
theorem d_Model_compare_55 : decode b_Model_compare 55 = .ok (.iconst 2, 1) := by decide +kernel
theorem d_Model_compare_56 : decode b_Model_compare 56 = .ok (.invokevirtual 40, 3) := by decide +kernel
theorem d_Model_compare_59 : decode b_Model_compare 59 = .ok (.ifCond .eq 5, 3) := by decide +kernel
theorem d_Model_compare_62 : decode b_Model_compare 62 = .ok (.iconst 0, 1) := by decide +kernel
theorem d_Model_compare_63 : decode b_Model_compare 63 = .ok (.ireturn, 1) := by decide +kernel
theorem d_Model_compare_64 : decode b_Model_compare 64 = .ok (.aload_n 0, 1) := by decide +kernel
theorem d_Model_compare_65 : decode b_Model_compare 65 = .ok (.aload_n 0, 1) := by decide +kernel
theorem d_Model_compare_66 : decode b_Model_compare 66 = .ok (.iload_n 1, 1) := by decide +kernel
theorem d_Model_compare_67 : decode b_Model_compare 67 = .ok (.invokevirtual 72, 3) := by decide +kernel
theorem d_Model_compare_70 : decode b_Model_compare 70 = .ok (.aload_n 0, 1) := by decide +kernel
theorem d_Model_compare_71 : decode b_Model_compare 71 = .ok (.getfield 27, 3) := by decide +kernel
theorem d_Model_compare_74 : decode b_Model_compare 74 = .ok (.invokevirtual 101, 3) := by decide +kernel
theorem d_Model_compare_77 : decode b_Model_compare 77 = .ok (.aload_n 0, 1) := by decide +kernel
theorem d_Model_compare_78 : decode b_Model_compare 78 = .ok (.aload_n 0, 1) := by decide +kernel
theorem d_Model_compare_79 : decode b_Model_compare 79 = .ok (.iload_n 2, 1) := by decide +kernel
theorem d_Model_compare_80 : decode b_Model_compare 80 = .ok (.invokevirtual 72, 3) := by decide +kernel
theorem d_Model_compare_83 : decode b_Model_compare 83 = .ok (.aload_n 0, 1) := by decide +kernel
theorem d_Model_compare_84 : decode b_Model_compare 84 = .ok (.getfield 30, 3) := by decide +kernel
theorem d_Model_compare_87 : decode b_Model_compare 87 = .ok (.invokevirtual 101, 3) := by decide +kernel
theorem d_Model_compare_90 : decode b_Model_compare 90 = .ok (.aload_n 0, 1) := by decide +kernel
theorem d_Model_compare_91 : decode b_Model_compare 91 = .ok (.getfield 44, 3) := by decide +kernel
theorem d_Model_compare_94 : decode b_Model_compare 94 = .ok (.iconst 1, 1) := by decide +kernel
theorem d_Model_compare_95 : decode b_Model_compare 95 = .ok (.isub, 1) := by decide +kernel
theorem d_Model_compare_96 : decode b_Model_compare 96 = .ok (.iload_n 1, 1) := by decide +kernel
theorem d_Model_compare_97 : decode b_Model_compare 97 = .ok (.isub, 1) := by decide +kernel
theorem d_Model_compare_98 : decode b_Model_compare 98 = .ok (.iconst 1, 1) := by decide +kernel
theorem d_Model_compare_99 : decode b_Model_compare 99 = .ok (.iand, 1) := by decide +kernel
theorem d_Model_compare_100 : decode b_Model_compare 100 = .ok (.iconst 1, 1) := by decide +kernel
theorem d_Model_compare_101 : decode b_Model_compare 101 = .ok (.if_icmp .ne 10, 3) := by decide +kernel
theorem d_Model_compare_104 : decode b_Model_compare 104 = .ok (.aload_n 0, 1) := by decide +kernel
theorem d_Model_compare_105 : decode b_Model_compare 105 = .ok (.getfield 27, 3) := by decide +kernel
theorem d_Model_compare_108 : decode b_Model_compare 108 = .ok (.invokestatic 53, 3) := by decide +kernel
theorem d_Model_compare_111 : decode b_Model_compare 111 = .ok (.aload_n 0, 1) := by decide +kernel
theorem d_Model_compare_112 : decode b_Model_compare 112 = .ok (.getfield 44, 3) := by decide +kernel
theorem d_Model_compare_115 : decode b_Model_compare 115 = .ok (.iconst 1, 1) := by decide +kernel
theorem d_Model_compare_116 : decode b_Model_compare 116 = .ok (.isub, 1) := by decide +kernel
theorem d_Model_compare_117 : decode b_Model_compare 117 = .ok (.iload_n 2, 1) := by decide +kernel
theorem d_Model_compare_118 : decode b_Model_compare 118 = .ok (.isub, 1) := by decide +kernel
theorem d_Model_compare_119 : decode b_Model_compare 119 = .ok (.iconst 1, 1) := by decide +kernel
theorem d_Model_compare_120 : decode b_Model_compare 120 = .ok (.iand, 1) := by decide +kernel
theorem d_Model_compare_121 : decode b_Model_compare 121 = .ok (.iconst 1, 1) := by decide +kernel
theorem d_Model_compare_122 : decode b_Model_compare 122 = .ok (.if_icmp .ne 10, 3) := by decide +kernel
theorem d_Model_compare_125 : decode b_Model_compare 125 = .ok (.aload_n 0, 1) := by decide +kernel
theorem d_Model_compare_126 : decode b_Model_compare 126 = .ok (.getfield 30, 3) := by decide +kernel
theorem d_Model_compare_129 : decode b_Model_compare 129 = .ok (.invokestatic 53, 3) := by decide +kernel
theorem d_Model_compare_132 : decode b_Model_compare 132 = .ok (.aload_n 0, 1) := by decide +kernel
theorem d_Model_compare_133 : decode b_Model_compare 133 = .ok (.getfield 27, 3) := by decide +kernel
theorem d_Model_compare_136 : decode b_Model_compare 136 = .ok (.bipush 55, 2) := by decide +kernel
theorem d_Model_compare_138 : decode b_Model_compare 138 = .ok (.dup2, 1) := by decide +kernel
theorem d_Model_compare_139 : decode b_Model_compare 139 = .ok (.iaload, 1) := by decide +kernel
theorem d_Model_compare_140 : decode b_Model_compare 140 = .ok (.ldc 78, 2) := by decide +kernel
theorem d_Model_compare_142 : decode b_Model_compare 142 = .ok (.ixor, 1) := by decide +kernel
theorem d_Model_compare_143 : decode b_Model_compare 143 = .ok (.iastore, 1) := by decide +kernel
theorem d_Model_compare_144 : decode b_Model_compare 144 = .ok (.aload_n 0, 1) := by decide +kernel
theorem d_Model_compare_145 : decode b_Model_compare 145 = .ok (.getfield 30, 3) := by decide +kernel
theorem d_Model_compare_148 : decode b_Model_compare 148 = .ok (.bipush 55, 2) := by decide +kernel
theorem d_Model_compare_150 : decode b_Model_compare 150 = .ok (.dup2, 1) := by decide +kernel
theorem d_Model_compare_151 : decode b_Model_compare 151 = .ok (.iaload, 1) := by decide +kernel
theorem d_Model_compare_152 : decode b_Model_compare 152 = .ok (.ldc 78, 2) := by decide +kernel
theorem d_Model_compare_154 : decode b_Model_compare 154 = .ok (.ixor, 1) := by decide +kernel
theorem d_Model_compare_155 : decode b_Model_compare 155 = .ok (.iastore, 1) := by decide +kernel
theorem d_Model_compare_156 : decode b_Model_compare 156 = .ok (.aload_n 0, 1) := by decide +kernel
theorem d_Model_compare_157 : decode b_Model_compare 157 = .ok (.getfield 27, 3) := by decide +kernel
theorem d_Model_compare_160 : decode b_Model_compare 160 = .ok (.aload_n 0, 1) := by decide +kernel
theorem d_Model_compare_161 : decode b_Model_compare 161 = .ok (.getfield 30, 3) := by decide +kernel
theorem d_Model_compare_164 : decode b_Model_compare 164 = .ok (.invokestatic 90, 3) := by decide +kernel
theorem d_Model_compare_167 : decode b_Model_compare 167 = .ok (.aload_n 0, 1) := by decide +kernel
theorem d_Model_compare_168 : decode b_Model_compare 168 = .ok (.aload_n 0, 1) := by decide +kernel
theorem d_Model_compare_169 : decode b_Model_compare 169 = .ok (.iconst (-1), 1) := by decide +kernel
theorem d_Model_compare_170 : decode b_Model_compare 170 = .ok (.invokevirtual 72, 3) := by decide +kernel
theorem d_Model_compare_173 : decode b_Model_compare 173 = .ok (.invokevirtual 75, 3) := by decide +kernel
theorem d_Model_compare_176 : decode b_Model_compare 176 = .ok (.imul, 1) := by decide +kernel
theorem d_Model_compare_177 : decode b_Model_compare 177 = .ok (.ireturn, 1) := by decide +kernel
theorem d_Model_bitsOf_0 : decode b_Model_bitsOf 0 = .ok (.sipush 896, 3) := by decide +kernel
theorem d_Model_bitsOf_3 : decode b_Model_bitsOf 3 = .ok (.istore_n 1, 1) := by decide +kernel
theorem d_Model_bitsOf_4 : decode b_Model_bitsOf 4 = .ok (.iload_n 1, 1) := by decide +kernel
theorem d_Model_bitsOf_5 : decode b_Model_bitsOf 5 = .ok (.ifCond .le 28, 3) := by decide +kernel
theorem d_Model_bitsOf_8 : decode b_Model_bitsOf 8 = .ok (.aload_n 0, 1) := by decide +kernel
theorem d_Model_bitsOf_9 : decode b_Model_bitsOf 9 = .ok (.iload_n 1, 1) := by decide +kernel
theorem d_Model_bitsOf_10 : decode b_Model_bitsOf 10 = .ok (.iconst 1, 1) := by decide +kernel
theorem d_Model_bitsOf_11 : decode b_Model_bitsOf 11 = .ok (.isub, 1) := by decide +kernel
theorem d_Model_bitsOf_12 : decode b_Model_bitsOf 12 = .ok (.iconst 4, 1) := by decide +kernel
theorem d_Model_bitsOf_13 : decode b_Model_bitsOf 13 = .ok (.ishr, 1) := by decide +kernel
theorem d_Model_bitsOf_14 : decode b_Model_bitsOf 14 = .ok (.iaload, 1) := by decide +kernel
theorem d_Model_bitsOf_15 : decode b_Model_bitsOf 15 = .ok (.iload_n 1, 1) := by decide +kernel
theorem d_Model_bitsOf_16 : decode b_Model_bitsOf 16 = .ok (.iconst 1, 1) := by decide +kernel
theorem d_Model_bitsOf_17 : decode b_Model_bitsOf 17 = .ok (.isub, 1) := by decide +kernel
theorem d_Model_bitsOf_18 : decode b_Model_bitsOf 18 = .ok (.bipush 15, 2) := by decide +kernel
theorem d_Model_bitsOf_20 : decode b_Model_bitsOf 20 = .ok (.iand, 1) := by decide +kernel
theorem d_Model_bitsOf_21 : decode b_Model_bitsOf 21 = .ok (.ishr, 1) := by decide +kernel
theorem d_Model_bitsOf_22 : decode b_Model_bitsOf 22 = .ok (.iconst 1, 1) := by decide +kernel
theorem d_Model_bitsOf_23 : decode b_Model_bitsOf 23 = .ok (.iand, 1) := by decide +kernel
theorem d_Model_bitsOf_24 : decode b_Model_bitsOf 24 = .ok (.ifCond .ne 9, 3) := by decide +kernel
theorem d_Model_bitsOf_27 : decode b_Model_bitsOf 27 = .ok (.iinc 1 (-1), 3) := by decide +kernel
theorem d_Model_bitsOf_30 : decode b_Model_bitsOf 30 = .ok (.goto (-26), 3) := by decide +kernel
theorem d_Model_bitsOf_33 : decode b_Model_bitsOf 33 = .ok (.iload_n 1, 1) := by decide +kernel
theorem d_Model_bitsOf_34 : decode b_Model_bitsOf 34 = .ok (.ireturn, 1) := by decide +kernel
theorem d_Model_bits_0 : decode b_Model_bits 0 = .ok (.aload_n 0, 1) := by decide +kernel
theorem d_Model_bits_1 : decode b_Model_bits 1 = .ok (.iconst 0, 1) := by decide +kernel
theorem d_Model_bits_2 : decode b_Model_bits 2 = .ok (.putfield 36, 3) := by decide +kernel
theorem d_Model_bits_5 : decode b_Model_bits 5 = .ok (.iload_n 1, 1) := by decide +kernel
theorem d_Model_bits_6 : decode b_Model_bits 6 = .ok (.ifCond .eq 10, 3) := by decide +kernel
theorem d_Model_bits_9 : decode b_Model_bits 9 = .ok (.aload_n 0, 1) := by decide +kernel
theorem d_Model_bits_10 : decode b_Model_bits 10 = .ok (.getfield 24, 3) := by decide +kernel
theorem d_Model_bits_13 : decode b_Model_bits 13 = .ok (.goto 7, 3) := by decide +kernel
theorem d_Model_bits_16 : decode b_Model_bits 16 = .ok (.aload_n 0, 1) := by decide +kernel
theorem d_Model_bits_17 : decode b_Model_bits 17 = .ok (.getfield 21, 3) := by decide +kernel
theorem d_Model_bits_20 : decode b_Model_bits 20 = .ok (.invokestatic 114, 3) := by decide +kernel
theorem d_Model_bits_23 : decode b_Model_bits 23 = .ok (.ireturn, 1) := by decide +kernel
theorem d_Model_part_0 : decode b_Model_part 0 = .ok (.aload_n 0, 1) := by decide +kernel
theorem d_Model_part_1 : decode b_Model_part 1 = .ok (.iconst 0, 1) := by decide +kernel
theorem d_Model_part_2 : decode b_Model_part 2 = .ok (.putfield 36, 3) := by decide +kernel
theorem d_Model_part_5 : decode b_Model_part 5 = .ok (.aload_n 0, 1) := by decide +kernel
theorem d_Model_part_6 : decode b_Model_part 6 = .ok (.iload_n 2, 1) := by decide +kernel
theorem d_Model_part_7 : decode b_Model_part 7 = .ok (.ifCond .ge 7, 3) := by decide +kernel
theorem d_Model_part_10 : decode b_Model_part 10 = .ok (.iconst 1, 1) := by decide +kernel
theorem d_Model_part_11 : decode b_Model_part 11 = .ok (.goto 4, 3) := by decide +kernel
theorem d_Model_part_14 : decode b_Model_part 14 = .ok (.iconst 0, 1) := by decide +kernel
theorem d_Model_part_15 : decode b_Model_part 15 = .ok (.iconst 1, 1) := by decide +kernel
theorem d_Model_part_16 : decode b_Model_part 16 = .ok (.invokevirtual 40, 3) := by decide +kernel
theorem d_Model_part_19 : decode b_Model_part 19 = .ok (.ifCond .eq 5, 3) := by decide +kernel
theorem d_Model_part_22 : decode b_Model_part 22 = .ok (.iconst 0, 1) := by decide +kernel
theorem d_Model_part_23 : decode b_Model_part 23 = .ok (.ireturn, 1) := by decide +kernel
theorem d_Model_part_24 : decode b_Model_part 24 = .ok (.iconst 0, 1) := by decide +kernel
theorem d_Model_part_25 : decode b_Model_part 25 = .ok (.istore_n 3, 1) := by decide +kernel
theorem d_Model_part_26 : decode b_Model_part 26 = .ok (.bipush 30, 2) := by decide +kernel
theorem d_Model_part_28 : decode b_Model_part 28 = .ok (.istore 4, 2) := by decide +kernel
theorem d_Model_part_30 : decode b_Model_part 30 = .ok (.iload 4, 2) := by decide +kernel
theorem d_Model_part_32 : decode b_Model_part 32 = .ok (.ifCond .lt 74, 3) := by decide +kernel
theorem d_Model_part_35 : decode b_Model_part 35 = .ok (.ldc2_w 118, 3) := by decide +kernel
theorem d_Model_part_38 : decode b_Model_part 38 = .ok (.iload_n 2, 1) := by decide +kernel
theorem d_Model_part_39 : decode b_Model_part 39 = .ok (.i2l, 1) := by decide +kernel
theorem d_Model_part_40 : decode b_Model_part 40 = .ok (.lmul, 1) := by decide +kernel
theorem d_Model_part_41 : decode b_Model_part 41 = .ok (.iload 4, 2) := by decide +kernel
theorem d_Model_part_43 : decode b_Model_part 43 = .ok (.i2l, 1) := by decide +kernel
theorem d_Model_part_44 : decode b_Model_part 44 = .ok (.ladd, 1) := by decide +kernel
theorem d_Model_part_45 : decode b_Model_part 45 = .ok (.lstore 5, 2) := by decide +kernel
theorem d_Model_part_47 : decode b_Model_part 47 = .ok (.lload 5, 2) := by decide +kernel
theorem d_Model_part_49 : decode b_Model_part 49 = .ok (.ldc2_w 120, 3) := by decide +kernel
theorem d_Model_part_52 : decode b_Model_part 52 = .ok (.lcmp, 1) := by decide +kernel
theorem d_Model_part_53 : decode b_Model_part 53 = .ok (.ifCond .lt 7, 3) := by decide +kernel
theorem d_Model_part_56 : decode b_Model_part 56 = .ok (.iconst 0, 1) := by decide +kernel
theorem d_Model_part_57 : decode b_Model_part 57 = .ok (.goto 34, 3) := by decide +kernel
theorem d_Model_part_60 : decode b_Model_part 60 = .ok (.iload_n 1, 1) := by decide +kernel
theorem d_Model_part_61 : decode b_Model_part 61 = .ok (.ifCond .eq 10, 3) := by decide +kernel
theorem d_Model_part_64 : decode b_Model_part 64 = .ok (.aload_n 0, 1) := by decide +kernel
theorem d_Model_part_65 : decode b_Model_part 65 = .ok (.getfield 24, 3) := by decide +kernel
theorem d_Model_part_68 : decode b_Model_part 68 = .ok (.goto 7, 3) := by decide +kernel
theorem d_Model_part_71 : decode b_Model_part 71 = .ok (.aload_n 0, 1) := by decide +kernel
theorem d_Model_part_72 : decode b_Model_part 72 = .ok (.getfield 21, 3) := by decide +kernel
theorem d_Model_part_75 : decode b_Model_part 75 = .ok (.lload 5, 2) := by decide +kernel
theorem d_Model_part_77 : decode b_Model_part 77 = .ok (.iconst 4, 1) := by decide +kernel
theorem d_Model_part_78 : decode b_Model_part 78 = .ok (.lshr, 1) := by decide +kernel
theorem d_Model_part_79 : decode b_Model_part 79 = .ok (.l2i, 1) := by decide +kernel
theorem d_Model_part_80 : decode b_Model_part 80 = .ok (.iaload, 1) := by decide +kernel
theorem d_Model_part_81 : decode b_Model_part 81 = .ok (.lload 5, 2) := by decide +kernel
theorem d_Model_part_83 : decode b_Model_part 83 = .ok (.ldc2_w 122, 3) := by decide +kernel
theorem d_Model_part_86 : decode b_Model_part 86 = .ok (.land, 1) := by decide +kernel
theorem d_Model_part_87 : decode b_Model_part 87 = .ok (.l2i, 1) := by decide +kernel
theorem d_Model_part_88 : decode b_Model_part 88 = .ok (.ishr, 1) := by decide +kernel
theorem d_Model_part_89 : decode b_Model_part 89 = .ok (.iconst 1, 1) := by decide +kernel
theorem d_Model_part_90 : decode b_Model_part 90 = .ok (.iand, 1) := by decide +kernel
theorem d_Model_part_91 : decode b_Model_part 91 = .ok (.istore 7, 2) := by decide +kernel
theorem d_Model_part_93 : decode b_Model_part 93 = .ok (.iload_n 3, 1) := by decide +kernel
theorem d_Model_part_94 : decode b_Model_part 94 = .ok (.iconst 1, 1) := by decide +kernel
theorem d_Model_part_95 : decode b_Model_part 95 = .ok (.ishl, 1) := by decide +kernel
theorem d_Model_part_96 : decode b_Model_part 96 = .ok (.iload 7, 2) := by decide +kernel
theorem d_Model_part_98 : decode b_Model_part 98 = .ok (.ior, 1) := by decide +kernel
theorem d_Model_part_99 : decode b_Model_part 99 = .ok (.istore_n 3, 1) := by decide +kernel
theorem d_Model_part_100 : decode b_Model_part 100 = .ok (.iinc 4 (-1), 3) := by decide +kernel
theorem d_Model_part_103 : decode b_Model_part 103 = .ok (.goto (-73), 3) := by decide +kernel
theorem d_Model_part_106 : decode b_Model_part 106 = .ok (.iload_n 3, 1) := by decide +kernel
theorem d_Model_part_107 : decode b_Model_part 107 = .ok (.ireturn, 1) := by decide +kernel
