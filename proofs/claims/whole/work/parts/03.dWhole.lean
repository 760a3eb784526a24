-- decode rows of Whole
theorem d_Whole_init_0 : decode b_Whole_init 0 = .ok (.aload_n 0, 1) := by decide +kernel
theorem d_Whole_init_1 : decode b_Whole_init 1 = .ok (.invokespecial 3, 3) := by decide +kernel
theorem d_Whole_init_4 : decode b_Whole_init 4 = .ok (.aload_n 0, 1) := by decide +kernel
theorem d_Whole_init_5 : decode b_Whole_init 5 = .ok (.iconst 0, 1) := by decide +kernel
theorem d_Whole_init_6 : decode b_Whole_init 6 = .ok (.putfield 9, 3) := by decide +kernel
theorem d_Whole_init_9 : decode b_Whole_init 9 = .ok (.aload_n 0, 1) := by decide +kernel
theorem d_Whole_init_10 : decode b_Whole_init 10 = .ok (.iconst 0, 1) := by decide +kernel
theorem d_Whole_init_11 : decode b_Whole_init 11 = .ok (.putfield 15, 3) := by decide +kernel
theorem d_Whole_init_14 : decode b_Whole_init 14 = .ok (.aload_n 0, 1) := by decide +kernel
theorem d_Whole_init_15 : decode b_Whole_init 15 = .ok (.iload_n 1, 1) := by decide +kernel
theorem d_Whole_init_16 : decode b_Whole_init 16 = .ok (.newarray .int, 2) := by decide +kernel
theorem d_Whole_init_18 : decode b_Whole_init 18 = .ok (.putfield 18, 3) := by decide +kernel
theorem d_Whole_init_21 : decode b_Whole_init 21 = .ok (.return_, 1) := by decide +kernel
theorem d_Whole_setLong_0 : decode b_Whole_setLong 0 = .ok (.lload_n 1, 1) := by decide +kernel
theorem d_Whole_setLong_1 : decode b_Whole_setLong 1 = .ok (.lconst 0, 1) := by decide +kernel
theorem d_Whole_setLong_2 : decode b_Whole_setLong 2 = .ok (.lcmp, 1) := by decide +kernel
theorem d_Whole_setLong_3 : decode b_Whole_setLong 3 = .ok (.ifCond .ge 8, 3) := by decide +kernel
theorem d_Whole_setLong_6 : decode b_Whole_setLong 6 = .ok (.lload_n 1, 1) := by decide +kernel
theorem d_Whole_setLong_7 : decode b_Whole_setLong 7 = .ok (.lneg, 1) := by decide +kernel
theorem d_Whole_setLong_8 : decode b_Whole_setLong 8 = .ok (.goto 4, 3) := by decide +kernel
theorem d_Whole_setLong_11 : decode b_Whole_setLong 11 = .ok (.lload_n 1, 1) := by decide +kernel
theorem d_Whole_setLong_12 : decode b_Whole_setLong 12 = .ok (.lstore_n 3, 1) := by decide +kernel
theorem d_Whole_setLong_13 : decode b_Whole_setLong 13 = .ok (.aload_n 0, 1) := by decide +kernel
theorem d_Whole_setLong_14 : decode b_Whole_setLong 14 = .ok (.lload_n 1, 1) := by decide +kernel
theorem d_Whole_setLong_15 : decode b_Whole_setLong 15 = .ok (.invokestatic 22, 3) := by decide +kernel
theorem d_Whole_setLong_18 : decode b_Whole_setLong 18 = .ok (.putfield 15, 3) := by decide +kernel
theorem d_Whole_setLong_21 : decode b_Whole_setLong 21 = .ok (.iconst 0, 1) := by decide +kernel
theorem d_Whole_setLong_22 : decode b_Whole_setLong 22 = .ok (.istore 5, 2) := by decide +kernel
theorem d_Whole_setLong_24 : decode b_Whole_setLong 24 = .ok (.iconst 0, 1) := by decide +kernel
theorem d_Whole_setLong_25 : decode b_Whole_setLong 25 = .ok (.istore 6, 2) := by decide +kernel
theorem d_Whole_setLong_27 : decode b_Whole_setLong 27 = .ok (.iload 6, 2) := by decide +kernel
theorem d_Whole_setLong_29 : decode b_Whole_setLong 29 = .ok (.aload_n 0, 1) := by decide +kernel
theorem d_Whole_setLong_30 : decode b_Whole_setLong 30 = .ok (.getfield 18, 3) := by decide +kernel
theorem d_Whole_setLong_33 : decode b_Whole_setLong 33 = .ok (.arraylength, 1) := by decide +kernel
theorem d_Whole_setLong_34 : decode b_Whole_setLong 34 = .ok (.if_icmp .ge 39, 3) := by decide +kernel
theorem d_Whole_setLong_37 : decode b_Whole_setLong 37 = .ok (.lload_n 3, 1) := by decide +kernel
theorem d_Whole_setLong_38 : decode b_Whole_setLong 38 = .ok (.lconst 0, 1) := by decide +kernel
theorem d_Whole_setLong_39 : decode b_Whole_setLong 39 = .ok (.lcmp, 1) := by decide +kernel
theorem d_Whole_setLong_40 : decode b_Whole_setLong 40 = .ok (.ifCond .eq 33, 3) := by decide +kernel
theorem d_Whole_setLong_43 : decode b_Whole_setLong 43 = .ok (.aload_n 0, 1) := by decide +kernel
theorem d_Whole_setLong_44 : decode b_Whole_setLong 44 = .ok (.getfield 18, 3) := by decide +kernel
theorem d_Whole_setLong_47 : decode b_Whole_setLong 47 = .ok (.iload 6, 2) := by decide +kernel
theorem d_Whole_setLong_49 : decode b_Whole_setLong 49 = .ok (.lload_n 3, 1) := by decide +kernel
theorem d_Whole_setLong_50 : decode b_Whole_setLong 50 = .ok (.ldc2_w 28, 3) := by decide +kernel
theorem d_Whole_setLong_53 : decode b_Whole_setLong 53 = .ok (.land, 1) := by decide +kernel
theorem d_Whole_setLong_54 : decode b_Whole_setLong 54 = .ok (.l2i, 1) := by decide +kernel
theorem d_Whole_setLong_55 : decode b_Whole_setLong 55 = .ok (.iastore, 1) := by decide +kernel
theorem d_Whole_setLong_56 : decode b_Whole_setLong 56 = .ok (.lload_n 3, 1) := by decide +kernel
theorem d_Whole_setLong_57 : decode b_Whole_setLong 57 = .ok (.bipush 31, 2) := by decide +kernel
theorem d_Whole_setLong_59 : decode b_Whole_setLong 59 = .ok (.lushr, 1) := by decide +kernel
theorem d_Whole_setLong_60 : decode b_Whole_setLong 60 = .ok (.lstore_n 3, 1) := by decide +kernel
theorem d_Whole_setLong_61 : decode b_Whole_setLong 61 = .ok (.iload 6, 2) := by decide +kernel
theorem d_Whole_setLong_63 : decode b_Whole_setLong 63 = .ok (.iconst 1, 1) := by decide +kernel
theorem d_Whole_setLong_64 : decode b_Whole_setLong 64 = .ok (.iadd, 1) := by decide +kernel
theorem d_Whole_setLong_65 : decode b_Whole_setLong 65 = .ok (.istore 5, 2) := by decide +kernel
theorem d_Whole_setLong_67 : decode b_Whole_setLong 67 = .ok (.iinc 6 1, 3) := by decide +kernel
theorem d_Whole_setLong_70 : decode b_Whole_setLong 70 = .ok (.goto (-43), 3) := by decide +kernel
theorem d_Whole_setLong_73 : decode b_Whole_setLong 73 = .ok (.aload_n 0, 1) := by decide +kernel
theorem d_Whole_setLong_74 : decode b_Whole_setLong 74 = .ok (.iload 5, 2) := by decide +kernel
theorem d_Whole_setLong_76 : decode b_Whole_setLong 76 = .ok (.putfield 9, 3) := by decide +kernel
theorem d_Whole_setLong_79 : decode b_Whole_setLong 79 = .ok (.return_, 1) := by decide +kernel
theorem d_Whole_setWhole_0 : decode b_Whole_setWhole 0 = .ok (.aload_n 1, 1) := by decide +kernel
theorem d_Whole_setWhole_1 : decode b_Whole_setWhole 1 = .ok (.getfield 9, 3) := by decide +kernel
theorem d_Whole_setWhole_4 : decode b_Whole_setWhole 4 = .ok (.aload_n 0, 1) := by decide +kernel
theorem d_Whole_setWhole_5 : decode b_Whole_setWhole 5 = .ok (.getfield 18, 3) := by decide +kernel
theorem d_Whole_setWhole_8 : decode b_Whole_setWhole 8 = .ok (.arraylength, 1) := by decide +kernel
theorem d_Whole_setWhole_9 : decode b_Whole_setWhole 9 = .ok (.invokestatic 30, 3) := by decide +kernel
theorem d_Whole_setWhole_12 : decode b_Whole_setWhole 12 = .ok (.istore_n 2, 1) := by decide +kernel
theorem d_Whole_setWhole_13 : decode b_Whole_setWhole 13 = .ok (.aload_n 1, 1) := by decide +kernel
theorem d_Whole_setWhole_14 : decode b_Whole_setWhole 14 = .ok (.getfield 18, 3) := by decide +kernel
theorem d_Whole_setWhole_17 : decode b_Whole_setWhole 17 = .ok (.iconst 0, 1) := by decide +kernel
theorem d_Whole_setWhole_18 : decode b_Whole_setWhole 18 = .ok (.aload_n 0, 1) := by decide +kernel
theorem d_Whole_setWhole_19 : decode b_Whole_setWhole 19 = .ok (.getfield 18, 3) := by decide +kernel
theorem d_Whole_setWhole_22 : decode b_Whole_setWhole 22 = .ok (.iconst 0, 1) := by decide +kernel
theorem d_Whole_setWhole_23 : decode b_Whole_setWhole 23 = .ok (.iload_n 2, 1) := by decide +kernel
theorem d_Whole_setWhole_24 : decode b_Whole_setWhole 24 = .ok (.invokestatic 36, 3) := by decide +kernel
theorem d_Whole_setWhole_27 : decode b_Whole_setWhole 27 = .ok (.aload_n 0, 1) := by decide +kernel
theorem d_Whole_setWhole_28 : decode b_Whole_setWhole 28 = .ok (.iload_n 2, 1) := by decide +kernel
theorem d_Whole_setWhole_29 : decode b_Whole_setWhole 29 = .ok (.putfield 9, 3) := by decide +kernel
theorem d_Whole_setWhole_32 : decode b_Whole_setWhole 32 = .ok (.aload_n 0, 1) := by decide +kernel
theorem d_Whole_setWhole_33 : decode b_Whole_setWhole 33 = .ok (.aload_n 1, 1) := by decide +kernel
theorem d_Whole_setWhole_34 : decode b_Whole_setWhole 34 = .ok (.getfield 15, 3) := by decide +kernel
theorem d_Whole_setWhole_37 : decode b_Whole_setWhole 37 = .ok (.putfield 15, 3) := by decide +kernel
theorem d_Whole_setWhole_40 : decode b_Whole_setWhole 40 = .ok (.return_, 1) := by decide +kernel
theorem d_Whole_limbAt_0 : decode b_Whole_limbAt 0 = .ok (.iload_n 1, 1) := by decide +kernel
theorem d_Whole_limbAt_1 : decode b_Whole_limbAt 1 = .ok (.aload_n 0, 1) := by decide +kernel
theorem d_Whole_limbAt_2 : decode b_Whole_limbAt 2 = .ok (.getfield 9, 3) := by decide +kernel
theorem d_Whole_limbAt_5 : decode b_Whole_limbAt 5 = .ok (.if_icmp .ge 12, 3) := by decide +kernel
theorem d_Whole_limbAt_8 : decode b_Whole_limbAt 8 = .ok (.aload_n 0, 1) := by decide +kernel
theorem d_Whole_limbAt_9 : decode b_Whole_limbAt 9 = .ok (.getfield 18, 3) := by decide +kernel
theorem d_Whole_limbAt_12 : decode b_Whole_limbAt 12 = .ok (.iload_n 1, 1) := by decide +kernel
theorem d_Whole_limbAt_13 : decode b_Whole_limbAt 13 = .ok (.iaload, 1) := by decide +kernel
theorem d_Whole_limbAt_14 : decode b_Whole_limbAt 14 = .ok (.goto 4, 3) := by decide +kernel
theorem d_Whole_limbAt_17 : decode b_Whole_limbAt 17 = .ok (.iconst 0, 1) := by decide +kernel
theorem d_Whole_limbAt_18 : decode b_Whole_limbAt 18 = .ok (.ireturn, 1) := by decide +kernel
theorem d_Whole_bitLength_0 : decode b_Whole_bitLength 0 = .ok (.aload_n 0, 1) := by decide +kernel
theorem d_Whole_bitLength_1 : decode b_Whole_bitLength 1 = .ok (.getfield 9, 3) := by decide +kernel
theorem d_Whole_bitLength_4 : decode b_Whole_bitLength 4 = .ok (.ifCond .ne 5, 3) := by decide +kernel
theorem d_Whole_bitLength_7 : decode b_Whole_bitLength 7 = .ok (.iconst 0, 1) := by decide +kernel
theorem d_Whole_bitLength_8 : decode b_Whole_bitLength 8 = .ok (.ireturn, 1) := by decide +kernel
theorem d_Whole_bitLength_9 : decode b_Whole_bitLength 9 = .ok (.aload_n 0, 1) := by decide +kernel
theorem d_Whole_bitLength_10 : decode b_Whole_bitLength 10 = .ok (.getfield 18, 3) := by decide +kernel
theorem d_Whole_bitLength_13 : decode b_Whole_bitLength 13 = .ok (.aload_n 0, 1) := by decide +kernel
theorem d_Whole_bitLength_14 : decode b_Whole_bitLength 14 = .ok (.getfield 9, 3) := by decide +kernel
theorem d_Whole_bitLength_17 : decode b_Whole_bitLength 17 = .ok (.iconst 1, 1) := by decide +kernel
theorem d_Whole_bitLength_18 : decode b_Whole_bitLength 18 = .ok (.isub, 1) := by decide +kernel
theorem d_Whole_bitLength_19 : decode b_Whole_bitLength 19 = .ok (.iaload, 1) := by decide +kernel
theorem d_Whole_bitLength_20 : decode b_Whole_bitLength 20 = .ok (.istore_n 1, 1) := by decide +kernel
theorem d_Whole_bitLength_21 : decode b_Whole_bitLength 21 = .ok (.aload_n 0, 1) := by decide +kernel
theorem d_Whole_bitLength_22 : decode b_Whole_bitLength 22 = .ok (.getfield 9, 3) := by decide +kernel
theorem d_Whole_bitLength_25 : decode b_Whole_bitLength 25 = .ok (.bipush 31, 2) := by decide +kernel
theorem d_Whole_bitLength_27 : decode b_Whole_bitLength 27 = .ok (.imul, 1) := by decide +kernel
theorem d_Whole_bitLength_28 : decode b_Whole_bitLength 28 = .ok (.iload_n 1, 1) := by decide +kernel
theorem d_Whole_bitLength_29 : decode b_Whole_bitLength 29 = .ok (.invokestatic 42, 3) := by decide +kernel
theorem d_Whole_bitLength_32 : decode b_Whole_bitLength 32 = .ok (.iconst 1, 1) := by decide +kernel
theorem d_Whole_bitLength_33 : decode b_Whole_bitLength 33 = .ok (.isub, 1) := by decide +kernel
theorem d_Whole_bitLength_34 : decode b_Whole_bitLength 34 = .ok (.isub, 1) := by decide +kernel
theorem d_Whole_bitLength_35 : decode b_Whole_bitLength 35 = .ok (.ireturn, 1) := by decide +kernel
theorem d_Whole_order_0 : decode b_Whole_order 0 = .ok (.aload_n 0, 1) := by decide +kernel
theorem d_Whole_order_1 : decode b_Whole_order 1 = .ok (.getfield 15, 3) := by decide +kernel
theorem d_Whole_order_4 : decode b_Whole_order 4 = .ok (.aload_n 1, 1) := by decide +kernel
theorem d_Whole_order_5 : decode b_Whole_order 5 = .ok (.getfield 15, 3) := by decide +kernel
theorem d_Whole_order_8 : decode b_Whole_order 8 = .ok (.if_icmp .eq 20, 3) := by decide +kernel
theorem d_Whole_order_11 : decode b_Whole_order 11 = .ok (.aload_n 0, 1) := by decide +kernel
theorem d_Whole_order_12 : decode b_Whole_order 12 = .ok (.getfield 15, 3) := by decide +kernel
theorem d_Whole_order_15 : decode b_Whole_order 15 = .ok (.aload_n 1, 1) := by decide +kernel
theorem d_Whole_order_16 : decode b_Whole_order 16 = .ok (.getfield 15, 3) := by decide +kernel
theorem d_Whole_order_19 : decode b_Whole_order 19 = .ok (.if_icmp .ge 7, 3) := by decide +kernel
theorem d_Whole_order_22 : decode b_Whole_order 22 = .ok (.iconst (-1), 1) := by decide +kernel
theorem d_Whole_order_23 : decode b_Whole_order 23 = .ok (.goto 4, 3) := by decide +kernel
theorem d_Whole_order_26 : decode b_Whole_order 26 = .ok (.iconst 1, 1) := by decide +kernel
theorem d_Whole_order_27 : decode b_Whole_order 27 = .ok (.ireturn, 1) := by decide +kernel
theorem d_Whole_order_28 : decode b_Whole_order 28 = .ok (.aload_n 0, 1) := by decide +kernel
theorem d_Whole_order_29 : decode b_Whole_order 29 = .ok (.getfield 15, 3) := by decide +kernel
theorem d_Whole_order_32 : decode b_Whole_order 32 = .ok (.aload_n 0, 1) := by decide +kernel
theorem d_Whole_order_33 : decode b_Whole_order 33 = .ok (.aload_n 1, 1) := by decide +kernel
theorem d_Whole_order_34 : decode b_Whole_order 34 = .ok (.invokevirtual 48, 3) := by decide +kernel
theorem d_Whole_order_37 : decode b_Whole_order 37 = .ok (.imul, 1) := by decide +kernel
theorem d_Whole_order_38 : decode b_Whole_order 38 = .ok (.ireturn, 1) := by decide +kernel
theorem d_Whole_orderOfSizes_0 : decode b_Whole_orderOfSizes 0 = .ok (.aload_n 0, 1) := by decide +kernel
theorem d_Whole_orderOfSizes_1 : decode b_Whole_orderOfSizes 1 = .ok (.getfield 9, 3) := by decide +kernel
theorem d_Whole_orderOfSizes_4 : decode b_Whole_orderOfSizes 4 = .ok (.aload_n 1, 1) := by decide +kernel
theorem d_Whole_orderOfSizes_5 : decode b_Whole_orderOfSizes 5 = .ok (.getfield 9, 3) := by decide +kernel
theorem d_Whole_orderOfSizes_8 : decode b_Whole_orderOfSizes 8 = .ok (.if_icmp .eq 20, 3) := by decide +kernel
theorem d_Whole_orderOfSizes_11 : decode b_Whole_orderOfSizes 11 = .ok (.aload_n 0, 1) := by decide +kernel
theorem d_Whole_orderOfSizes_12 : decode b_Whole_orderOfSizes 12 = .ok (.getfield 9, 3) := by decide +kernel
theorem d_Whole_orderOfSizes_15 : decode b_Whole_orderOfSizes 15 = .ok (.aload_n 1, 1) := by decide +kernel
theorem d_Whole_orderOfSizes_16 : decode b_Whole_orderOfSizes 16 = .ok (.getfield 9, 3) := by decide +kernel
theorem d_Whole_orderOfSizes_19 : decode b_Whole_orderOfSizes 19 = .ok (.if_icmp .ge 7, 3) := by decide +kernel
theorem d_Whole_orderOfSizes_22 : decode b_Whole_orderOfSizes 22 = .ok (.iconst (-1), 1) := by decide +kernel
theorem d_Whole_orderOfSizes_23 : decode b_Whole_orderOfSizes 23 = .ok (.goto 4, 3) := by decide +kernel
theorem d_Whole_orderOfSizes_26 : decode b_Whole_orderOfSizes 26 = .ok (.iconst 1, 1) := by decide +kernel
theorem d_Whole_orderOfSizes_27 : decode b_Whole_orderOfSizes 27 = .ok (.ireturn, 1) := by decide +kernel
theorem d_Whole_orderOfSizes_28 : decode b_Whole_orderOfSizes 28 = .ok (.aload_n 0, 1) := by decide +kernel
theorem d_Whole_orderOfSizes_29 : decode b_Whole_orderOfSizes 29 = .ok (.getfield 9, 3) := by decide +kernel
theorem d_Whole_orderOfSizes_32 : decode b_Whole_orderOfSizes 32 = .ok (.iconst 1, 1) := by decide +kernel
theorem d_Whole_orderOfSizes_33 : decode b_Whole_orderOfSizes 33 = .ok (.isub, 1) := by decide +kernel
theorem d_Whole_orderOfSizes_34 : decode b_Whole_orderOfSizes 34 = .ok (.istore_n 2, 1) := by decide +kernel
theorem d_Whole_orderOfSizes_35 : decode b_Whole_orderOfSizes 35 = .ok (.iload_n 2, 1) := by decide +kernel
theorem d_Whole_orderOfSizes_36 : decode b_Whole_orderOfSizes 36 = .ok (.ifCond .lt 45, 3) := by decide +kernel
theorem d_Whole_orderOfSizes_39 : decode b_Whole_orderOfSizes 39 = .ok (.aload_n 0, 1) := by decide +kernel
theorem d_Whole_orderOfSizes_40 : decode b_Whole_orderOfSizes 40 = .ok (.getfield 18, 3) := by decide +kernel
theorem d_Whole_orderOfSizes_43 : decode b_Whole_orderOfSizes 43 = .ok (.iload_n 2, 1) := by decide +kernel
theorem d_Whole_orderOfSizes_44 : decode b_Whole_orderOfSizes 44 = .ok (.iaload, 1) := by decide +kernel
theorem d_Whole_orderOfSizes_45 : decode b_Whole_orderOfSizes 45 = .ok (.aload_n 1, 1) := by decide +kernel
theorem d_Whole_orderOfSizes_46 : decode b_Whole_orderOfSizes 46 = .ok (.getfield 18, 3) := by decide +kernel
theorem d_Whole_orderOfSizes_49 : decode b_Whole_orderOfSizes 49 = .ok (.iload_n 2, 1) := by decide +kernel
theorem d_Whole_orderOfSizes_50 : decode b_Whole_orderOfSizes 50 = .ok (.iaload, 1) := by decide +kernel
theorem d_Whole_orderOfSizes_51 : decode b_Whole_orderOfSizes 51 = .ok (.if_icmp .eq 24, 3) := by decide +kernel
theorem d_Whole_orderOfSizes_54 : decode b_Whole_orderOfSizes 54 = .ok (.aload_n 0, 1) := by decide +kernel
theorem d_Whole_orderOfSizes_55 : decode b_Whole_orderOfSizes 55 = .ok (.getfield 18, 3) := by decide +kernel
theorem d_Whole_orderOfSizes_58 : decode b_Whole_orderOfSizes 58 = .ok (.iload_n 2, 1) := by decide +kernel
theorem d_Whole_orderOfSizes_59 : decode b_Whole_orderOfSizes 59 = .ok (.iaload, 1) := by decide +kernel
theorem d_Whole_orderOfSizes_60 : decode b_Whole_orderOfSizes 60 = .ok (.aload_n 1, 1) := by decide +kernel
theorem d_Whole_orderOfSizes_61 : decode b_Whole_orderOfSizes 61 = .ok (.getfield 18, 3) := by decide +kernel
theorem d_Whole_orderOfSizes_64 : decode b_Whole_orderOfSizes 64 = .ok (.iload_n 2, 1) := by decide +kernel
theorem d_Whole_orderOfSizes_65 : decode b_Whole_orderOfSizes 65 = .ok (.iaload, 1) := by decide +kernel
theorem d_Whole_orderOfSizes_66 : decode b_Whole_orderOfSizes 66 = .ok (.if_icmp .ge 7, 3) := by decide +kernel
theorem d_Whole_orderOfSizes_69 : decode b_Whole_orderOfSizes 69 = .ok (.iconst (-1), 1) := by decide +kernel
theorem d_Whole_orderOfSizes_70 : decode b_Whole_orderOfSizes 70 = .ok (.goto 4, 3) := by decide +kernel
theorem d_Whole_orderOfSizes_73 : decode b_Whole_orderOfSizes 73 = .ok (.iconst 1, 1) := by decide +kernel
theorem d_Whole_orderOfSizes_74 : decode b_Whole_orderOfSizes 74 = .ok (.ireturn, 1) := by decide +kernel
theorem d_Whole_orderOfSizes_75 : decode b_Whole_orderOfSizes 75 = .ok (.iinc 2 (-1), 3) := by decide +kernel
theorem d_Whole_orderOfSizes_78 : decode b_Whole_orderOfSizes 78 = .ok (.goto (-43), 3) := by decide +kernel
theorem d_Whole_orderOfSizes_81 : decode b_Whole_orderOfSizes 81 = .ok (.iconst 0, 1) := by decide +kernel
theorem d_Whole_orderOfSizes_82 : decode b_Whole_orderOfSizes 82 = .ok (.ireturn, 1) := by decide +kernel
theorem d_Whole_setProduct_0 : decode b_Whole_setProduct 0 = .ok (.aload_n 1, 1) := by decide +kernel
theorem d_Whole_setProduct_1 : decode b_Whole_setProduct 1 = .ok (.getfield 9, 3) := by decide +kernel
theorem d_Whole_setProduct_4 : decode b_Whole_setProduct 4 = .ok (.aload_n 2, 1) := by decide +kernel
theorem d_Whole_setProduct_5 : decode b_Whole_setProduct 5 = .ok (.getfield 9, 3) := by decide +kernel
theorem d_Whole_setProduct_8 : decode b_Whole_setProduct 8 = .ok (.iadd, 1) := by decide +kernel
theorem d_Whole_setProduct_9 : decode b_Whole_setProduct 9 = .ok (.aload_n 0, 1) := by decide +kernel
theorem d_Whole_setProduct_10 : decode b_Whole_setProduct 10 = .ok (.getfield 18, 3) := by decide +kernel
theorem d_Whole_setProduct_13 : decode b_Whole_setProduct 13 = .ok (.arraylength, 1) := by decide +kernel
theorem d_Whole_setProduct_14 : decode b_Whole_setProduct 14 = .ok (.invokestatic 30, 3) := by decide +kernel
theorem d_Whole_setProduct_17 : decode b_Whole_setProduct 17 = .ok (.istore_n 3, 1) := by decide +kernel
theorem d_Whole_setProduct_18 : decode b_Whole_setProduct 18 = .ok (.iconst 0, 1) := by decide +kernel
theorem d_Whole_setProduct_19 : decode b_Whole_setProduct 19 = .ok (.istore 4, 2) := by decide +kernel
theorem d_Whole_setProduct_21 : decode b_Whole_setProduct 21 = .ok (.iload 4, 2) := by decide +kernel
theorem d_Whole_setProduct_23 : decode b_Whole_setProduct 23 = .ok (.iload_n 3, 1) := by decide +kernel
theorem d_Whole_setProduct_24 : decode b_Whole_setProduct 24 = .ok (.if_icmp .ge 17, 3) := by decide +kernel
theorem d_Whole_setProduct_27 : decode b_Whole_setProduct 27 = .ok (.aload_n 0, 1) := by decide +kernel
theorem d_Whole_setProduct_28 : decode b_Whole_setProduct 28 = .ok (.getfield 18, 3) := by decide +kernel
theorem d_Whole_setProduct_31 : decode b_Whole_setProduct 31 = .ok (.iload 4, 2) := by decide +kernel
theorem d_Whole_setProduct_33 : decode b_Whole_setProduct 33 = .ok (.iconst 0, 1) := by decide +kernel
theorem d_Whole_setProduct_34 : decode b_Whole_setProduct 34 = .ok (.iastore, 1) := by decide +kernel
theorem d_Whole_setProduct_35 : decode b_Whole_setProduct 35 = .ok (.iinc 4 1, 3) := by decide +kernel
theorem d_Whole_setProduct_38 : decode b_Whole_setProduct 38 = .ok (.goto (-17), 3) := by decide +kernel
theorem d_Whole_setProduct_41 : decode b_Whole_setProduct 41 = .ok (.iconst 0, 1) := by decide +kernel
theorem d_Whole_setProduct_42 : decode b_Whole_setProduct 42 = .ok (.istore 4, 2) := by decide +kernel
theorem d_Whole_setProduct_44 : decode b_Whole_setProduct 44 = .ok (.iload 4, 2) := by decide +kernel
theorem d_Whole_setProduct_46 : decode b_Whole_setProduct 46 = .ok (.aload_n 1, 1) := by decide +kernel
theorem d_Whole_setProduct_47 : decode b_Whole_setProduct 47 = .ok (.getfield 9, 3) := by decide +kernel
theorem d_Whole_setProduct_50 : decode b_Whole_setProduct 50 = .ok (.if_icmp .ge 23, 3) := by decide +kernel
theorem d_Whole_setProduct_53 : decode b_Whole_setProduct 53 = .ok (.aload_n 0, 1) := by decide +kernel
theorem d_Whole_setProduct_54 : decode b_Whole_setProduct 54 = .ok (.aload_n 1, 1) := by decide +kernel
theorem d_Whole_setProduct_55 : decode b_Whole_setProduct 55 = .ok (.getfield 18, 3) := by decide +kernel
theorem d_Whole_setProduct_58 : decode b_Whole_setProduct 58 = .ok (.iload 4, 2) := by decide +kernel
theorem d_Whole_setProduct_60 : decode b_Whole_setProduct 60 = .ok (.iaload, 1) := by decide +kernel
theorem d_Whole_setProduct_61 : decode b_Whole_setProduct 61 = .ok (.aload_n 2, 1) := by decide +kernel
theorem d_Whole_setProduct_62 : decode b_Whole_setProduct 62 = .ok (.iload 4, 2) := by decide +kernel
theorem d_Whole_setProduct_64 : decode b_Whole_setProduct 64 = .ok (.invokevirtual 52, 3) := by decide +kernel
theorem d_Whole_setProduct_67 : decode b_Whole_setProduct 67 = .ok (.iinc 4 1, 3) := by decide +kernel
theorem d_Whole_setProduct_70 : decode b_Whole_setProduct 70 = .ok (.goto (-26), 3) := by decide +kernel
theorem d_Whole_setProduct_73 : decode b_Whole_setProduct 73 = .ok (.aload_n 0, 1) := by decide +kernel
theorem d_Whole_setProduct_74 : decode b_Whole_setProduct 74 = .ok (.aload_n 1, 1) := by decide +kernel
theorem d_Whole_setProduct_75 : decode b_Whole_setProduct 75 = .ok (.getfield 15, 3) := by decide +kernel
theorem d_Whole_setProduct_78 : decode b_Whole_setProduct 78 = .ok (.aload_n 2, 1) := by decide +kernel
theorem d_Whole_setProduct_79 : decode b_Whole_setProduct 79 = .ok (.getfield 15, 3) := by decide +kernel
theorem d_Whole_setProduct_82 : decode b_Whole_setProduct 82 = .ok (.imul, 1) := by decide +kernel
theorem d_Whole_setProduct_83 : decode b_Whole_setProduct 83 = .ok (.putfield 15, 3) := by decide +kernel
theorem d_Whole_setProduct_86 : decode b_Whole_setProduct 86 = .ok (.aload_n 0, 1) := by decide +kernel
theorem d_Whole_setProduct_87 : decode b_Whole_setProduct 87 = .ok (.aload_n 0, 1) := by decide +kernel
theorem d_Whole_setProduct_88 : decode b_Whole_setProduct 88 = .ok (.getfield 15, 3) := by decide +kernel
theorem d_Whole_setProduct_91 : decode b_Whole_setProduct 91 = .ok (.ifCond .ne 7, 3) := by decide +kernel
theorem d_Whole_setProduct_94 : decode b_Whole_setProduct 94 = .ok (.iconst 0, 1) := by decide +kernel
theorem d_Whole_setProduct_95 : decode b_Whole_setProduct 95 = .ok (.goto 4, 3) := by decide +kernel
theorem d_Whole_setProduct_98 : decode b_Whole_setProduct 98 = .ok (.iload_n 3, 1) := by decide +kernel
theorem d_Whole_setProduct_99 : decode b_Whole_setProduct 99 = .ok (.invokevirtual 56, 3) := by decide +kernel
theorem d_Whole_setProduct_102 : decode b_Whole_setProduct 102 = .ok (.return_, 1) := by decide +kernel
theorem d_Whole_addMultiple_0 : decode b_Whole_addMultiple 0 = .ok (.iload_n 1, 1) := by decide +kernel
theorem d_Whole_addMultiple_1 : decode b_Whole_addMultiple 1 = .ok (.i2l, 1) := by decide +kernel
theorem d_Whole_addMultiple_2 : decode b_Whole_addMultiple 2 = .ok (.lstore 4, 2) := by decide +kernel
theorem d_Whole_addMultiple_4 : decode b_Whole_addMultiple 4 = .ok (.lconst 0, 1) := by decide +kernel
theorem d_Whole_addMultiple_5 : decode b_Whole_addMultiple 5 = .ok (.lstore 6, 2) := by decide +kernel
theorem d_Whole_addMultiple_7 : decode b_Whole_addMultiple 7 = .ok (.aload_n 2, 1) := by decide +kernel
theorem d_Whole_addMultiple_8 : decode b_Whole_addMultiple 8 = .ok (.getfield 9, 3) := by decide +kernel
theorem d_Whole_addMultiple_11 : decode b_Whole_addMultiple 11 = .ok (.aload_n 0, 1) := by decide +kernel
theorem d_Whole_addMultiple_12 : decode b_Whole_addMultiple 12 = .ok (.getfield 18, 3) := by decide +kernel
theorem d_Whole_addMultiple_15 : decode b_Whole_addMultiple 15 = .ok (.arraylength, 1) := by decide +kernel
theorem d_Whole_addMultiple_16 : decode b_Whole_addMultiple 16 = .ok (.iload_n 3, 1) := by decide +kernel
theorem d_Whole_addMultiple_17 : decode b_Whole_addMultiple 17 = .ok (.isub, 1) := by decide +kernel
theorem d_Whole_addMultiple_18 : decode b_Whole_addMultiple 18 = .ok (.invokestatic 30, 3) := by decide +kernel
theorem d_Whole_addMultiple_21 : decode b_Whole_addMultiple 21 = .ok (.istore 8, 2) := by decide +kernel
theorem d_Whole_addMultiple_23 : decode b_Whole_addMultiple 23 = .ok (.iconst 0, 1) := by decide +kernel
theorem d_Whole_addMultiple_24 : decode b_Whole_addMultiple 24 = .ok (.istore 9, 2) := by decide +kernel
theorem d_Whole_addMultiple_26 : decode b_Whole_addMultiple 26 = .ok (.iload 9, 2) := by decide +kernel
theorem d_Whole_addMultiple_28 : decode b_Whole_addMultiple 28 = .ok (.iload 8, 2) := by decide +kernel
theorem d_Whole_addMultiple_30 : decode b_Whole_addMultiple 30 = .ok (.if_icmp .ge 59, 3) := by decide +kernel
theorem d_Whole_addMultiple_33 : decode b_Whole_addMultiple 33 = .ok (.lload 4, 2) := by decide +kernel
theorem d_Whole_addMultiple_35 : decode b_Whole_addMultiple 35 = .ok (.aload_n 2, 1) := by decide +kernel
theorem d_Whole_addMultiple_36 : decode b_Whole_addMultiple 36 = .ok (.getfield 18, 3) := by decide +kernel
theorem d_Whole_addMultiple_39 : decode b_Whole_addMultiple 39 = .ok (.iload 9, 2) := by decide +kernel
theorem d_Whole_addMultiple_41 : decode b_Whole_addMultiple 41 = .ok (.iaload, 1) := by decide +kernel
theorem d_Whole_addMultiple_42 : decode b_Whole_addMultiple 42 = .ok (.i2l, 1) := by decide +kernel
theorem d_Whole_addMultiple_43 : decode b_Whole_addMultiple 43 = .ok (.lmul, 1) := by decide +kernel
theorem d_Whole_addMultiple_44 : decode b_Whole_addMultiple 44 = .ok (.aload_n 0, 1) := by decide +kernel
theorem d_Whole_addMultiple_45 : decode b_Whole_addMultiple 45 = .ok (.getfield 18, 3) := by decide +kernel
theorem d_Whole_addMultiple_48 : decode b_Whole_addMultiple 48 = .ok (.iload_n 3, 1) := by decide +kernel
theorem d_Whole_addMultiple_49 : decode b_Whole_addMultiple 49 = .ok (.iload 9, 2) := by decide +kernel
theorem d_Whole_addMultiple_51 : decode b_Whole_addMultiple 51 = .ok (.iadd, 1) := by decide +kernel
theorem d_Whole_addMultiple_52 : decode b_Whole_addMultiple 52 = .ok (.iaload, 1) := by decide +kernel
theorem d_Whole_addMultiple_53 : decode b_Whole_addMultiple 53 = .ok (.i2l, 1) := by decide +kernel
theorem d_Whole_addMultiple_54 : decode b_Whole_addMultiple 54 = .ok (.ladd, 1) := by decide +kernel
theorem d_Whole_addMultiple_55 : decode b_Whole_addMultiple 55 = .ok (.lload 6, 2) := by decide +kernel
theorem d_Whole_addMultiple_57 : decode b_Whole_addMultiple 57 = .ok (.ladd, 1) := by decide +kernel
theorem d_Whole_addMultiple_58 : decode b_Whole_addMultiple 58 = .ok (.lstore 10, 2) := by decide +kernel
theorem d_Whole_addMultiple_60 : decode b_Whole_addMultiple 60 = .ok (.aload_n 0, 1) := by decide +kernel
theorem d_Whole_addMultiple_61 : decode b_Whole_addMultiple 61 = .ok (.getfield 18, 3) := by decide +kernel
theorem d_Whole_addMultiple_64 : decode b_Whole_addMultiple 64 = .ok (.iload_n 3, 1) := by decide +kernel
theorem d_Whole_addMultiple_65 : decode b_Whole_addMultiple 65 = .ok (.iload 9, 2) := by decide +kernel
theorem d_Whole_addMultiple_67 : decode b_Whole_addMultiple 67 = .ok (.iadd, 1) := by decide +kernel
theorem d_Whole_addMultiple_68 : decode b_Whole_addMultiple 68 = .ok (.lload 10, 2) := by decide +kernel
theorem d_Whole_addMultiple_70 : decode b_Whole_addMultiple 70 = .ok (.ldc2_w 28, 3) := by decide +kernel
theorem d_Whole_addMultiple_73 : decode b_Whole_addMultiple 73 = .ok (.land, 1) := by decide +kernel
theorem d_Whole_addMultiple_74 : decode b_Whole_addMultiple 74 = .ok (.l2i, 1) := by decide +kernel
theorem d_Whole_addMultiple_75 : decode b_Whole_addMultiple 75 = .ok (.iastore, 1) := by decide +kernel
theorem d_Whole_addMultiple_76 : decode b_Whole_addMultiple 76 = .ok (.lload 10, 2) := by decide +kernel
theorem d_Whole_addMultiple_78 : decode b_Whole_addMultiple 78 = .ok (.bipush 31, 2) := by decide +kernel
theorem d_Whole_addMultiple_80 : decode b_Whole_addMultiple 80 = .ok (.lushr, 1) := by decide +kernel
theorem d_Whole_addMultiple_81 : decode b_Whole_addMultiple 81 = .ok (.lstore 6, 2) := by decide +kernel
theorem d_Whole_addMultiple_83 : decode b_Whole_addMultiple 83 = .ok (.iinc 9 1, 3) := by decide +kernel
theorem d_Whole_addMultiple_86 : decode b_Whole_addMultiple 86 = .ok (.goto (-60), 3) := by decide +kernel
theorem d_Whole_addMultiple_89 : decode b_Whole_addMultiple 89 = .ok (.iload_n 3, 1) := by decide +kernel
theorem d_Whole_addMultiple_90 : decode b_Whole_addMultiple 90 = .ok (.iload 8, 2) := by decide +kernel
theorem d_Whole_addMultiple_92 : decode b_Whole_addMultiple 92 = .ok (.iadd, 1) := by decide +kernel
theorem d_Whole_addMultiple_93 : decode b_Whole_addMultiple 93 = .ok (.aload_n 0, 1) := by decide +kernel
theorem d_Whole_addMultiple_94 : decode b_Whole_addMultiple 94 = .ok (.getfield 18, 3) := by decide +kernel
theorem d_Whole_addMultiple_97 : decode b_Whole_addMultiple 97 = .ok (.arraylength, 1) := by decide +kernel
theorem d_Whole_addMultiple_98 : decode b_Whole_addMultiple 98 = .ok (.if_icmp .ge 15, 3) := by decide +kernel
theorem d_Whole_addMultiple_101 : decode b_Whole_addMultiple 101 = .ok (.aload_n 0, 1) := by decide +kernel
theorem d_Whole_addMultiple_102 : decode b_Whole_addMultiple 102 = .ok (.getfield 18, 3) := by decide +kernel
theorem d_Whole_addMultiple_105 : decode b_Whole_addMultiple 105 = .ok (.iload_n 3, 1) := by decide +kernel
theorem d_Whole_addMultiple_106 : decode b_Whole_addMultiple 106 = .ok (.iload 8, 2) := by decide +kernel
theorem d_Whole_addMultiple_108 : decode b_Whole_addMultiple 108 = .ok (.iadd, 1) := by decide +kernel
theorem d_Whole_addMultiple_109 : decode b_Whole_addMultiple 109 = .ok (.lload 6, 2) := by decide +kernel
theorem d_Whole_addMultiple_111 : decode b_Whole_addMultiple 111 = .ok (.l2i, 1) := by decide +kernel
theorem d_Whole_addMultiple_112 : decode b_Whole_addMultiple 112 = .ok (.iastore, 1) := by decide +kernel
theorem d_Whole_addMultiple_113 : decode b_Whole_addMultiple 113 = .ok (.return_, 1) := by decide +kernel
theorem d_Whole_subtract_0 : decode b_Whole_subtract 0 = .ok (.aload_n 1, 1) := by decide +kernel
theorem d_Whole_subtract_1 : decode b_Whole_subtract 1 = .ok (.getfield 15, 3) := by decide +kernel
theorem d_Whole_subtract_4 : decode b_Whole_subtract 4 = .ok (.ifCond .ne 4, 3) := by decide +kernel
theorem d_Whole_subtract_7 : decode b_Whole_subtract 7 = .ok (.return_, 1) := by decide +kernel
theorem d_Whole_subtract_8 : decode b_Whole_subtract 8 = .ok (.aload_n 0, 1) := by decide +kernel
theorem d_Whole_subtract_9 : decode b_Whole_subtract 9 = .ok (.getfield 15, 3) := by decide +kernel
theorem d_Whole_subtract_12 : decode b_Whole_subtract 12 = .ok (.ifCond .ne 20, 3) := by decide +kernel
theorem d_Whole_subtract_15 : decode b_Whole_subtract 15 = .ok (.aload_n 0, 1) := by decide +kernel
theorem d_Whole_subtract_16 : decode b_Whole_subtract 16 = .ok (.aload_n 1, 1) := by decide +kernel
theorem d_Whole_subtract_17 : decode b_Whole_subtract 17 = .ok (.invokevirtual 60, 3) := by decide +kernel
theorem d_Whole_subtract_20 : decode b_Whole_subtract 20 = .ok (.aload_n 0, 1) := by decide +kernel
theorem d_Whole_subtract_21 : decode b_Whole_subtract 21 = .ok (.aload_n 1, 1) := by decide +kernel
theorem d_Whole_subtract_22 : decode b_Whole_subtract 22 = .ok (.getfield 15, 3) := by decide +kernel
theorem d_Whole_subtract_25 : decode b_Whole_subtract 25 = .ok (.ineg, 1) := by decide +kernel
theorem d_Whole_subtract_26 : decode b_Whole_subtract 26 = .ok (.putfield 15, 3) := by decide +kernel
theorem d_Whole_subtract_29 : decode b_Whole_subtract 29 = .ok (.goto 54, 3) := by decide +kernel
theorem d_Whole_subtract_32 : decode b_Whole_subtract 32 = .ok (.aload_n 0, 1) := by decide +kernel
theorem d_Whole_subtract_33 : decode b_Whole_subtract 33 = .ok (.getfield 15, 3) := by decide +kernel
theorem d_Whole_subtract_36 : decode b_Whole_subtract 36 = .ok (.aload_n 1, 1) := by decide +kernel
theorem d_Whole_subtract_37 : decode b_Whole_subtract 37 = .ok (.getfield 15, 3) := by decide +kernel
theorem d_Whole_subtract_40 : decode b_Whole_subtract 40 = .ok (.if_icmp .eq 11, 3) := by decide +kernel
theorem d_Whole_subtract_43 : decode b_Whole_subtract 43 = .ok (.aload_n 0, 1) := by decide +kernel
theorem d_Whole_subtract_44 : decode b_Whole_subtract 44 = .ok (.aload_n 1, 1) := by decide +kernel
theorem d_Whole_subtract_45 : decode b_Whole_subtract 45 = .ok (.invokevirtual 64, 3) := by decide +kernel
theorem d_Whole_subtract_48 : decode b_Whole_subtract 48 = .ok (.goto 35, 3) := by decide +kernel
theorem d_Whole_subtract_51 : decode b_Whole_subtract 51 = .ok (.aload_n 0, 1) := by decide +kernel
theorem d_Whole_subtract_52 : decode b_Whole_subtract 52 = .ok (.aload_n 1, 1) := by decide +kernel
theorem d_Whole_subtract_53 : decode b_Whole_subtract 53 = .ok (.invokevirtual 48, 3) := by decide +kernel
theorem d_Whole_subtract_56 : decode b_Whole_subtract 56 = .ok (.ifCond .lt 12, 3) := by decide +kernel
theorem d_Whole_subtract_59 : decode b_Whole_subtract 59 = .ok (.aload_n 0, 1) := by decide +kernel
theorem d_Whole_subtract_60 : decode b_Whole_subtract 60 = .ok (.aload_n 0, 1) := by decide +kernel
theorem d_Whole_subtract_61 : decode b_Whole_subtract 61 = .ok (.aload_n 1, 1) := by decide +kernel
theorem d_Whole_subtract_62 : decode b_Whole_subtract 62 = .ok (.invokevirtual 67, 3) := by decide +kernel
theorem d_Whole_subtract_65 : decode b_Whole_subtract 65 = .ok (.goto 18, 3) := by decide +kernel
theorem d_Whole_subtract_68 : decode b_Whole_subtract 68 = .ok (.aload_n 0, 1) := by decide +kernel
theorem d_Whole_subtract_69 : decode b_Whole_subtract 69 = .ok (.aload_n 0, 1) := by decide +kernel
theorem d_Whole_subtract_70 : decode b_Whole_subtract 70 = .ok (.getfield 15, 3) := by decide +kernel
theorem d_Whole_subtract_73 : decode b_Whole_subtract 73 = .ok (.ineg, 1) := by decide +kernel
theorem d_Whole_subtract_74 : decode b_Whole_subtract 74 = .ok (.putfield 15, 3) := by decide +kernel
theorem d_Whole_subtract_77 : decode b_Whole_subtract 77 = .ok (.aload_n 0, 1) := by decide +kernel
theorem d_Whole_subtract_78 : decode b_Whole_subtract 78 = .ok (.aload_n 1, 1) := by decide +kernel
theorem d_Whole_subtract_79 : decode b_Whole_subtract 79 = .ok (.aload_n 0, 1) := by decide +kernel
theorem d_Whole_subtract_80 : decode b_Whole_subtract 80 = .ok (.invokevirtual 67, 3) := by decide +kernel
theorem d_Whole_subtract_83 : decode b_Whole_subtract 83 = .ok (.return_, 1) := by decide +kernel
theorem d_Whole_addSize_0 : decode b_Whole_addSize 0 = .ok (.aload_n 0, 1) := by decide +kernel
theorem d_Whole_addSize_1 : decode b_Whole_addSize 1 = .ok (.getfield 9, 3) := by decide +kernel
theorem d_Whole_addSize_4 : decode b_Whole_addSize 4 = .ok (.aload_n 1, 1) := by decide +kernel
theorem d_Whole_addSize_5 : decode b_Whole_addSize 5 = .ok (.getfield 9, 3) := by decide +kernel
theorem d_Whole_addSize_8 : decode b_Whole_addSize 8 = .ok (.invokestatic 71, 3) := by decide +kernel
theorem d_Whole_addSize_11 : decode b_Whole_addSize 11 = .ok (.istore_n 2, 1) := by decide +kernel
theorem d_Whole_addSize_12 : decode b_Whole_addSize 12 = .ok (.lconst 0, 1) := by decide +kernel
theorem d_Whole_addSize_13 : decode b_Whole_addSize 13 = .ok (.lstore_n 3, 1) := by decide +kernel
theorem d_Whole_addSize_14 : decode b_Whole_addSize 14 = .ok (.iconst 0, 1) := by decide +kernel
theorem d_Whole_addSize_15 : decode b_Whole_addSize 15 = .ok (.istore 5, 2) := by decide +kernel
theorem d_Whole_addSize_17 : decode b_Whole_addSize 17 = .ok (.iload 5, 2) := by decide +kernel
theorem d_Whole_addSize_19 : decode b_Whole_addSize 19 = .ok (.iload_n 2, 1) := by decide +kernel
theorem d_Whole_addSize_20 : decode b_Whole_addSize 20 = .ok (.if_icmp .ge 58, 3) := by decide +kernel
theorem d_Whole_addSize_23 : decode b_Whole_addSize 23 = .ok (.iload 5, 2) := by decide +kernel
theorem d_Whole_addSize_25 : decode b_Whole_addSize 25 = .ok (.aload_n 0, 1) := by decide +kernel
theorem d_Whole_addSize_26 : decode b_Whole_addSize 26 = .ok (.getfield 18, 3) := by decide +kernel
theorem d_Whole_addSize_29 : decode b_Whole_addSize 29 = .ok (.arraylength, 1) := by decide +kernel
theorem d_Whole_addSize_30 : decode b_Whole_addSize 30 = .ok (.if_icmp .ge 48, 3) := by decide +kernel
theorem d_Whole_addSize_33 : decode b_Whole_addSize 33 = .ok (.aload_n 0, 1) := by decide +kernel
theorem d_Whole_addSize_34 : decode b_Whole_addSize 34 = .ok (.iload 5, 2) := by decide +kernel
theorem d_Whole_addSize_36 : decode b_Whole_addSize 36 = .ok (.invokevirtual 74, 3) := by decide +kernel
theorem d_Whole_addSize_39 : decode b_Whole_addSize 39 = .ok (.i2l, 1) := by decide +kernel
theorem d_Whole_addSize_40 : decode b_Whole_addSize 40 = .ok (.aload_n 1, 1) := by decide +kernel
theorem d_Whole_addSize_41 : decode b_Whole_addSize 41 = .ok (.iload 5, 2) := by decide +kernel
theorem d_Whole_addSize_43 : decode b_Whole_addSize 43 = .ok (.invokevirtual 74, 3) := by decide +kernel
theorem d_Whole_addSize_46 : decode b_Whole_addSize 46 = .ok (.i2l, 1) := by decide +kernel
theorem d_Whole_addSize_47 : decode b_Whole_addSize 47 = .ok (.ladd, 1) := by decide +kernel
theorem d_Whole_addSize_48 : decode b_Whole_addSize 48 = .ok (.lload_n 3, 1) := by decide +kernel
theorem d_Whole_addSize_49 : decode b_Whole_addSize 49 = .ok (.ladd, 1) := by decide +kernel
theorem d_Whole_addSize_50 : decode b_Whole_addSize 50 = .ok (.lstore 6, 2) := by decide +kernel
theorem d_Whole_addSize_52 : decode b_Whole_addSize 52 = .ok (.aload_n 0, 1) := by decide +kernel
theorem d_Whole_addSize_53 : decode b_Whole_addSize 53 = .ok (.getfield 18, 3) := by decide +kernel
theorem d_Whole_addSize_56 : decode b_Whole_addSize 56 = .ok (.iload 5, 2) := by decide +kernel
theorem d_Whole_addSize_58 : decode b_Whole_addSize 58 = .ok (.lload 6, 2) := by decide +kernel
theorem d_Whole_addSize_60 : decode b_Whole_addSize 60 = .ok (.ldc2_w 28, 3) := by decide +kernel
theorem d_Whole_addSize_63 : decode b_Whole_addSize 63 = .ok (.land, 1) := by decide +kernel
theorem d_Whole_addSize_64 : decode b_Whole_addSize 64 = .ok (.l2i, 1) := by decide +kernel
theorem d_Whole_addSize_65 : decode b_Whole_addSize 65 = .ok (.iastore, 1) := by decide +kernel
theorem d_Whole_addSize_66 : decode b_Whole_addSize 66 = .ok (.lload 6, 2) := by decide +kernel
theorem d_Whole_addSize_68 : decode b_Whole_addSize 68 = .ok (.bipush 31, 2) := by decide +kernel
theorem d_Whole_addSize_70 : decode b_Whole_addSize 70 = .ok (.lushr, 1) := by decide +kernel
theorem d_Whole_addSize_71 : decode b_Whole_addSize 71 = .ok (.lstore_n 3, 1) := by decide +kernel
theorem d_Whole_addSize_72 : decode b_Whole_addSize 72 = .ok (.iinc 5 1, 3) := by decide +kernel
theorem d_Whole_addSize_75 : decode b_Whole_addSize 75 = .ok (.goto (-58), 3) := by decide +kernel
theorem d_Whole_addSize_78 : decode b_Whole_addSize 78 = .ok (.lload_n 3, 1) := by decide +kernel
theorem d_Whole_addSize_79 : decode b_Whole_addSize 79 = .ok (.lconst 0, 1) := by decide +kernel
theorem d_Whole_addSize_80 : decode b_Whole_addSize 80 = .ok (.lcmp, 1) := by decide +kernel
theorem d_Whole_addSize_81 : decode b_Whole_addSize 81 = .ok (.ifCond .eq 23, 3) := by decide +kernel
theorem d_Whole_addSize_84 : decode b_Whole_addSize 84 = .ok (.iload_n 2, 1) := by decide +kernel
theorem d_Whole_addSize_85 : decode b_Whole_addSize 85 = .ok (.aload_n 0, 1) := by decide +kernel
theorem d_Whole_addSize_86 : decode b_Whole_addSize 86 = .ok (.getfield 18, 3) := by decide +kernel
theorem d_Whole_addSize_89 : decode b_Whole_addSize 89 = .ok (.arraylength, 1) := by decide +kernel
theorem d_Whole_addSize_90 : decode b_Whole_addSize 90 = .ok (.if_icmp .ge 14, 3) := by decide +kernel
theorem d_Whole_addSize_93 : decode b_Whole_addSize 93 = .ok (.aload_n 0, 1) := by decide +kernel
theorem d_Whole_addSize_94 : decode b_Whole_addSize 94 = .ok (.getfield 18, 3) := by decide +kernel
theorem d_Whole_addSize_97 : decode b_Whole_addSize 97 = .ok (.iload_n 2, 1) := by decide +kernel
theorem d_Whole_addSize_98 : decode b_Whole_addSize 98 = .ok (.lload_n 3, 1) := by decide +kernel
theorem d_Whole_addSize_99 : decode b_Whole_addSize 99 = .ok (.l2i, 1) := by decide +kernel
theorem d_Whole_addSize_100 : decode b_Whole_addSize 100 = .ok (.iastore, 1) := by decide +kernel
theorem d_Whole_addSize_101 : decode b_Whole_addSize 101 = .ok (.iinc 2 1, 3) := by decide +kernel
theorem d_Whole_addSize_104 : decode b_Whole_addSize 104 = .ok (.aload_n 0, 1) := by decide +kernel
theorem d_Whole_addSize_105 : decode b_Whole_addSize 105 = .ok (.iload_n 2, 1) := by decide +kernel
theorem d_Whole_addSize_106 : decode b_Whole_addSize 106 = .ok (.aload_n 0, 1) := by decide +kernel
theorem d_Whole_addSize_107 : decode b_Whole_addSize 107 = .ok (.getfield 18, 3) := by decide +kernel
theorem d_Whole_addSize_110 : decode b_Whole_addSize 110 = .ok (.arraylength, 1) := by decide +kernel
theorem d_Whole_addSize_111 : decode b_Whole_addSize 111 = .ok (.invokestatic 30, 3) := by decide +kernel
theorem d_Whole_addSize_114 : decode b_Whole_addSize 114 = .ok (.putfield 9, 3) := by decide +kernel
theorem d_Whole_addSize_117 : decode b_Whole_addSize 117 = .ok (.return_, 1) := by decide +kernel
theorem d_Whole_setDifferenceOfSizes_0 : decode b_Whole_setDifferenceOfSizes 0 = .ok (.aload_n 1, 1) := by decide +kernel
theorem d_Whole_setDifferenceOfSizes_1 : decode b_Whole_setDifferenceOfSizes 1 = .ok (.getfield 9, 3) := by decide +kernel
theorem d_Whole_setDifferenceOfSizes_4 : decode b_Whole_setDifferenceOfSizes 4 = .ok (.aload_n 0, 1) := by decide +kernel
theorem d_Whole_setDifferenceOfSizes_5 : decode b_Whole_setDifferenceOfSizes 5 = .ok (.getfield 18, 3) := by decide +kernel
theorem d_Whole_setDifferenceOfSizes_8 : decode b_Whole_setDifferenceOfSizes 8 = .ok (.arraylength, 1) := by decide +kernel
theorem d_Whole_setDifferenceOfSizes_9 : decode b_Whole_setDifferenceOfSizes 9 = .ok (.invokestatic 30, 3) := by decide +kernel
theorem d_Whole_setDifferenceOfSizes_12 : decode b_Whole_setDifferenceOfSizes 12 = .ok (.istore_n 3, 1) := by decide +kernel
theorem d_Whole_setDifferenceOfSizes_13 : decode b_Whole_setDifferenceOfSizes 13 = .ok (.lconst 0, 1) := by decide +kernel
theorem d_Whole_setDifferenceOfSizes_14 : decode b_Whole_setDifferenceOfSizes 14 = .ok (.lstore 4, 2) := by decide +kernel
theorem d_Whole_setDifferenceOfSizes_16 : decode b_Whole_setDifferenceOfSizes 16 = .ok (.iconst 0, 1) := by decide +kernel
theorem d_Whole_setDifferenceOfSizes_17 : decode b_Whole_setDifferenceOfSizes 17 = .ok (.istore 6, 2) := by decide +kernel
theorem d_Whole_setDifferenceOfSizes_19 : decode b_Whole_setDifferenceOfSizes 19 = .ok (.iload 6, 2) := by decide +kernel
theorem d_Whole_setDifferenceOfSizes_21 : decode b_Whole_setDifferenceOfSizes 21 = .ok (.iload_n 3, 1) := by decide +kernel
theorem d_Whole_setDifferenceOfSizes_22 : decode b_Whole_setDifferenceOfSizes 22 = .ok (.if_icmp .ge 51, 3) := by decide +kernel
theorem d_Whole_setDifferenceOfSizes_25 : decode b_Whole_setDifferenceOfSizes 25 = .ok (.aload_n 1, 1) := by decide +kernel
theorem d_Whole_setDifferenceOfSizes_26 : decode b_Whole_setDifferenceOfSizes 26 = .ok (.getfield 18, 3) := by decide +kernel
theorem d_Whole_setDifferenceOfSizes_29 : decode b_Whole_setDifferenceOfSizes 29 = .ok (.iload 6, 2) := by decide +kernel
theorem d_Whole_setDifferenceOfSizes_31 : decode b_Whole_setDifferenceOfSizes 31 = .ok (.iaload, 1) := by decide +kernel
theorem d_Whole_setDifferenceOfSizes_32 : decode b_Whole_setDifferenceOfSizes 32 = .ok (.i2l, 1) := by decide +kernel
theorem d_Whole_setDifferenceOfSizes_33 : decode b_Whole_setDifferenceOfSizes 33 = .ok (.aload_n 2, 1) := by decide +kernel
theorem d_Whole_setDifferenceOfSizes_34 : decode b_Whole_setDifferenceOfSizes 34 = .ok (.iload 6, 2) := by decide +kernel
theorem d_Whole_setDifferenceOfSizes_36 : decode b_Whole_setDifferenceOfSizes 36 = .ok (.invokevirtual 74, 3) := by decide +kernel
theorem d_Whole_setDifferenceOfSizes_39 : decode b_Whole_setDifferenceOfSizes 39 = .ok (.i2l, 1) := by decide +kernel
theorem d_Whole_setDifferenceOfSizes_40 : decode b_Whole_setDifferenceOfSizes 40 = .ok (.lsub, 1) := by decide +kernel
theorem d_Whole_setDifferenceOfSizes_41 : decode b_Whole_setDifferenceOfSizes 41 = .ok (.lload 4, 2) := by decide +kernel
theorem d_Whole_setDifferenceOfSizes_43 : decode b_Whole_setDifferenceOfSizes 43 = .ok (.ladd, 1) := by decide +kernel
theorem d_Whole_setDifferenceOfSizes_44 : decode b_Whole_setDifferenceOfSizes 44 = .ok (.lstore 7, 2) := by decide +kernel
theorem d_Whole_setDifferenceOfSizes_46 : decode b_Whole_setDifferenceOfSizes 46 = .ok (.aload_n 0, 1) := by decide +kernel
theorem d_Whole_setDifferenceOfSizes_47 : decode b_Whole_setDifferenceOfSizes 47 = .ok (.getfield 18, 3) := by decide +kernel
theorem d_Whole_setDifferenceOfSizes_50 : decode b_Whole_setDifferenceOfSizes 50 = .ok (.iload 6, 2) := by decide +kernel
theorem d_Whole_setDifferenceOfSizes_52 : decode b_Whole_setDifferenceOfSizes 52 = .ok (.lload 7, 2) := by decide +kernel
theorem d_Whole_setDifferenceOfSizes_54 : decode b_Whole_setDifferenceOfSizes 54 = .ok (.ldc2_w 28, 3) := by decide +kernel
theorem d_Whole_setDifferenceOfSizes_57 : decode b_Whole_setDifferenceOfSizes 57 = .ok (.land, 1) := by decide +kernel
theorem d_Whole_setDifferenceOfSizes_58 : decode b_Whole_setDifferenceOfSizes 58 = .ok (.l2i, 1) := by decide +kernel
theorem d_Whole_setDifferenceOfSizes_59 : decode b_Whole_setDifferenceOfSizes 59 = .ok (.iastore, 1) := by decide +kernel
theorem d_Whole_setDifferenceOfSizes_60 : decode b_Whole_setDifferenceOfSizes 60 = .ok (.lload 7, 2) := by decide +kernel
theorem d_Whole_setDifferenceOfSizes_62 : decode b_Whole_setDifferenceOfSizes 62 = .ok (.bipush 31, 2) := by decide +kernel
theorem d_Whole_setDifferenceOfSizes_64 : decode b_Whole_setDifferenceOfSizes 64 = .ok (.lshr, 1) := by decide +kernel
theorem d_Whole_setDifferenceOfSizes_65 : decode b_Whole_setDifferenceOfSizes 65 = .ok (.lstore 4, 2) := by decide +kernel
theorem d_Whole_setDifferenceOfSizes_67 : decode b_Whole_setDifferenceOfSizes 67 = .ok (.iinc 6 1, 3) := by decide +kernel
theorem d_Whole_setDifferenceOfSizes_70 : decode b_Whole_setDifferenceOfSizes 70 = .ok (.goto (-51), 3) := by decide +kernel
theorem d_Whole_setDifferenceOfSizes_73 : decode b_Whole_setDifferenceOfSizes 73 = .ok (.aload_n 0, 1) := by decide +kernel
theorem d_Whole_setDifferenceOfSizes_74 : decode b_Whole_setDifferenceOfSizes 74 = .ok (.iload_n 3, 1) := by decide +kernel
theorem d_Whole_setDifferenceOfSizes_75 : decode b_Whole_setDifferenceOfSizes 75 = .ok (.invokevirtual 56, 3) := by decide +kernel
theorem d_Whole_setDifferenceOfSizes_78 : decode b_Whole_setDifferenceOfSizes 78 = .ok (.return_, 1) := by decide +kernel
theorem d_Whole_countTwos_0 : decode b_Whole_countTwos 0 = .ok (.iconst 0, 1) := by decide +kernel
theorem d_Whole_countTwos_1 : decode b_Whole_countTwos 1 = .ok (.istore_n 1, 1) := by decide +kernel
theorem d_Whole_countTwos_2 : decode b_Whole_countTwos 2 = .ok (.iload_n 1, 1) := by decide +kernel
theorem d_Whole_countTwos_3 : decode b_Whole_countTwos 3 = .ok (.aload_n 0, 1) := by decide +kernel
theorem d_Whole_countTwos_4 : decode b_Whole_countTwos 4 = .ok (.getfield 9, 3) := by decide +kernel
theorem d_Whole_countTwos_7 : decode b_Whole_countTwos 7 = .ok (.if_icmp .ge 33, 3) := by decide +kernel
theorem d_Whole_countTwos_10 : decode b_Whole_countTwos 10 = .ok (.aload_n 0, 1) := by decide +kernel
theorem d_Whole_countTwos_11 : decode b_Whole_countTwos 11 = .ok (.getfield 18, 3) := by decide +kernel
theorem d_Whole_countTwos_14 : decode b_Whole_countTwos 14 = .ok (.iload_n 1, 1) := by decide +kernel
theorem d_Whole_countTwos_15 : decode b_Whole_countTwos 15 = .ok (.iaload, 1) := by decide +kernel
theorem d_Whole_countTwos_16 : decode b_Whole_countTwos 16 = .ok (.ifCond .eq 18, 3) := by decide +kernel
theorem d_Whole_countTwos_19 : decode b_Whole_countTwos 19 = .ok (.iload_n 1, 1) := by decide +kernel
theorem d_Whole_countTwos_20 : decode b_Whole_countTwos 20 = .ok (.bipush 31, 2) := by decide +kernel
theorem d_Whole_countTwos_22 : decode b_Whole_countTwos 22 = .ok (.imul, 1) := by decide +kernel
theorem d_Whole_countTwos_23 : decode b_Whole_countTwos 23 = .ok (.aload_n 0, 1) := by decide +kernel
theorem d_Whole_countTwos_24 : decode b_Whole_countTwos 24 = .ok (.getfield 18, 3) := by decide +kernel
theorem d_Whole_countTwos_27 : decode b_Whole_countTwos 27 = .ok (.iload_n 1, 1) := by decide +kernel
theorem d_Whole_countTwos_28 : decode b_Whole_countTwos 28 = .ok (.iaload, 1) := by decide +kernel
theorem d_Whole_countTwos_29 : decode b_Whole_countTwos 29 = .ok (.invokestatic 77, 3) := by decide +kernel
theorem d_Whole_countTwos_32 : decode b_Whole_countTwos 32 = .ok (.iadd, 1) := by decide +kernel
theorem d_Whole_countTwos_33 : decode b_Whole_countTwos 33 = .ok (.ireturn, 1) := by decide +kernel
theorem d_Whole_countTwos_34 : decode b_Whole_countTwos 34 = .ok (.iinc 1 1, 3) := by decide +kernel
theorem d_Whole_countTwos_37 : decode b_Whole_countTwos 37 = .ok (.goto (-35), 3) := by decide +kernel
theorem d_Whole_countTwos_40 : decode b_Whole_countTwos 40 = .ok (.iconst 0, 1) := by decide +kernel
theorem d_Whole_countTwos_41 : decode b_Whole_countTwos 41 = .ok (.ireturn, 1) := by decide +kernel
theorem d_Whole_shiftDown_0 : decode b_Whole_shiftDown 0 = .ok (.iload_n 1, 1) := by decide +kernel
theorem d_Whole_shiftDown_1 : decode b_Whole_shiftDown 1 = .ok (.bipush 31, 2) := by decide +kernel
theorem d_Whole_shiftDown_3 : decode b_Whole_shiftDown 3 = .ok (.idiv, 1) := by decide +kernel
theorem d_Whole_shiftDown_4 : decode b_Whole_shiftDown 4 = .ok (.istore_n 2, 1) := by decide +kernel
theorem d_Whole_shiftDown_5 : decode b_Whole_shiftDown 5 = .ok (.iload_n 1, 1) := by decide +kernel
theorem d_Whole_shiftDown_6 : decode b_Whole_shiftDown 6 = .ok (.bipush 31, 2) := by decide +kernel
theorem d_Whole_shiftDown_8 : decode b_Whole_shiftDown 8 = .ok (.irem, 1) := by decide +kernel
theorem d_Whole_shiftDown_9 : decode b_Whole_shiftDown 9 = .ok (.istore_n 3, 1) := by decide +kernel
theorem d_Whole_shiftDown_10 : decode b_Whole_shiftDown 10 = .ok (.aload_n 0, 1) := by decide +kernel
theorem d_Whole_shiftDown_11 : decode b_Whole_shiftDown 11 = .ok (.getfield 9, 3) := by decide +kernel
theorem d_Whole_shiftDown_14 : decode b_Whole_shiftDown 14 = .ok (.iload_n 2, 1) := by decide +kernel
theorem d_Whole_shiftDown_15 : decode b_Whole_shiftDown 15 = .ok (.isub, 1) := by decide +kernel
theorem d_Whole_shiftDown_16 : decode b_Whole_shiftDown 16 = .ok (.iconst 0, 1) := by decide +kernel
theorem d_Whole_shiftDown_17 : decode b_Whole_shiftDown 17 = .ok (.invokestatic 71, 3) := by decide +kernel
theorem d_Whole_shiftDown_20 : decode b_Whole_shiftDown 20 = .ok (.istore 4, 2) := by decide +kernel
theorem d_Whole_shiftDown_22 : decode b_Whole_shiftDown 22 = .ok (.iconst 0, 1) := by decide +kernel
theorem d_Whole_shiftDown_23 : decode b_Whole_shiftDown 23 = .ok (.istore 5, 2) := by decide +kernel
theorem d_Whole_shiftDown_25 : decode b_Whole_shiftDown 25 = .ok (.iload 5, 2) := by decide +kernel
theorem d_Whole_shiftDown_27 : decode b_Whole_shiftDown 27 = .ok (.iload 4, 2) := by decide +kernel
theorem d_Whole_shiftDown_29 : decode b_Whole_shiftDown 29 = .ok (.if_icmp .ge 50, 3) := by decide +kernel
theorem d_Whole_shiftDown_32 : decode b_Whole_shiftDown 32 = .ok (.aload_n 0, 1) := by decide +kernel
theorem d_Whole_shiftDown_33 : decode b_Whole_shiftDown 33 = .ok (.iload 5, 2) := by decide +kernel
theorem d_Whole_shiftDown_35 : decode b_Whole_shiftDown 35 = .ok (.iload_n 2, 1) := by decide +kernel
theorem d_Whole_shiftDown_36 : decode b_Whole_shiftDown 36 = .ok (.iadd, 1) := by decide +kernel
theorem d_Whole_shiftDown_37 : decode b_Whole_shiftDown 37 = .ok (.iconst 1, 1) := by decide +kernel
theorem d_Whole_shiftDown_38 : decode b_Whole_shiftDown 38 = .ok (.iadd, 1) := by decide +kernel
theorem d_Whole_shiftDown_39 : decode b_Whole_shiftDown 39 = .ok (.invokevirtual 74, 3) := by decide +kernel
theorem d_Whole_shiftDown_42 : decode b_Whole_shiftDown 42 = .ok (.bipush 31, 2) := by decide +kernel
theorem d_Whole_shiftDown_44 : decode b_Whole_shiftDown 44 = .ok (.iload_n 3, 1) := by decide +kernel
theorem d_Whole_shiftDown_45 : decode b_Whole_shiftDown 45 = .ok (.isub, 1) := by decide +kernel
theorem d_Whole_shiftDown_46 : decode b_Whole_shiftDown 46 = .ok (.ishl, 1) := by decide +kernel
theorem d_Whole_shiftDown_47 : decode b_Whole_shiftDown 47 = .ok (.istore 6, 2) := by decide +kernel
theorem d_Whole_shiftDown_49 : decode b_Whole_shiftDown 49 = .ok (.aload_n 0, 1) := by decide +kernel
theorem d_Whole_shiftDown_50 : decode b_Whole_shiftDown 50 = .ok (.getfield 18, 3) := by decide +kernel
theorem d_Whole_shiftDown_53 : decode b_Whole_shiftDown 53 = .ok (.iload 5, 2) := by decide +kernel
theorem d_Whole_shiftDown_55 : decode b_Whole_shiftDown 55 = .ok (.aload_n 0, 1) := by decide +kernel
theorem d_Whole_shiftDown_56 : decode b_Whole_shiftDown 56 = .ok (.getfield 18, 3) := by decide +kernel
theorem d_Whole_shiftDown_59 : decode b_Whole_shiftDown 59 = .ok (.iload 5, 2) := by decide +kernel
theorem d_Whole_shiftDown_61 : decode b_Whole_shiftDown 61 = .ok (.iload_n 2, 1) := by decide +kernel
theorem d_Whole_shiftDown_62 : decode b_Whole_shiftDown 62 = .ok (.iadd, 1) := by decide +kernel
theorem d_Whole_shiftDown_63 : decode b_Whole_shiftDown 63 = .ok (.iaload, 1) := by decide +kernel
theorem d_Whole_shiftDown_64 : decode b_Whole_shiftDown 64 = .ok (.iload_n 3, 1) := by decide +kernel
theorem d_Whole_shiftDown_65 : decode b_Whole_shiftDown 65 = .ok (.iushr, 1) := by decide +kernel
theorem d_Whole_shiftDown_66 : decode b_Whole_shiftDown 66 = .ok (.iload 6, 2) := by decide +kernel
theorem d_Whole_shiftDown_68 : decode b_Whole_shiftDown 68 = .ok (.ior, 1) := by decide +kernel
theorem d_Whole_shiftDown_69 : decode b_Whole_shiftDown 69 = .ok (.ldc 80, 2) := by decide +kernel
theorem d_Whole_shiftDown_71 : decode b_Whole_shiftDown 71 = .ok (.iand, 1) := by decide +kernel
theorem d_Whole_shiftDown_72 : decode b_Whole_shiftDown 72 = .ok (.iastore, 1) := by decide +kernel
theorem d_Whole_shiftDown_73 : decode b_Whole_shiftDown 73 = .ok (.iinc 5 1, 3) := by decide +kernel
theorem d_Whole_shiftDown_76 : decode b_Whole_shiftDown 76 = .ok (.goto (-51), 3) := by decide +kernel
theorem d_Whole_shiftDown_79 : decode b_Whole_shiftDown 79 = .ok (.aload_n 0, 1) := by decide +kernel
theorem d_Whole_shiftDown_80 : decode b_Whole_shiftDown 80 = .ok (.iload 4, 2) := by decide +kernel
theorem d_Whole_shiftDown_82 : decode b_Whole_shiftDown 82 = .ok (.invokevirtual 56, 3) := by decide +kernel
theorem d_Whole_shiftDown_85 : decode b_Whole_shiftDown 85 = .ok (.return_, 1) := by decide +kernel
theorem d_Whole_trim_0 : decode b_Whole_trim 0 = .ok (.iload_n 1, 1) := by decide +kernel
theorem d_Whole_trim_1 : decode b_Whole_trim 1 = .ok (.istore_n 2, 1) := by decide +kernel
theorem d_Whole_trim_2 : decode b_Whole_trim 2 = .ok (.iload_n 2, 1) := by decide +kernel
theorem d_Whole_trim_3 : decode b_Whole_trim 3 = .ok (.ifCond .le 20, 3) := by decide +kernel
theorem d_Whole_trim_6 : decode b_Whole_trim 6 = .ok (.aload_n 0, 1) := by decide +kernel
theorem d_Whole_trim_7 : decode b_Whole_trim 7 = .ok (.getfield 18, 3) := by decide +kernel
theorem d_Whole_trim_10 : decode b_Whole_trim 10 = .ok (.iload_n 2, 1) := by decide +kernel
theorem d_Whole_trim_11 : decode b_Whole_trim 11 = .ok (.iconst 1, 1) := by decide +kernel
theorem d_Whole_trim_12 : decode b_Whole_trim 12 = .ok (.isub, 1) := by decide +kernel
theorem d_Whole_trim_13 : decode b_Whole_trim 13 = .ok (.iaload, 1) := by decide +kernel
theorem d_Whole_trim_14 : decode b_Whole_trim 14 = .ok (.ifCond .ne 9, 3) := by decide +kernel
theorem d_Whole_trim_17 : decode b_Whole_trim 17 = .ok (.iinc 2 (-1), 3) := by decide +kernel
theorem d_Whole_trim_20 : decode b_Whole_trim 20 = .ok (.goto (-18), 3) := by decide +kernel
theorem d_Whole_trim_23 : decode b_Whole_trim 23 = .ok (.aload_n 0, 1) := by decide +kernel
theorem d_Whole_trim_24 : decode b_Whole_trim 24 = .ok (.iload_n 2, 1) := by decide +kernel
theorem d_Whole_trim_25 : decode b_Whole_trim 25 = .ok (.putfield 9, 3) := by decide +kernel
theorem d_Whole_trim_28 : decode b_Whole_trim 28 = .ok (.iload_n 2, 1) := by decide +kernel
theorem d_Whole_trim_29 : decode b_Whole_trim 29 = .ok (.ifCond .ne 8, 3) := by decide +kernel
theorem d_Whole_trim_32 : decode b_Whole_trim 32 = .ok (.aload_n 0, 1) := by decide +kernel
theorem d_Whole_trim_33 : decode b_Whole_trim 33 = .ok (.iconst 0, 1) := by decide +kernel
theorem d_Whole_trim_34 : decode b_Whole_trim 34 = .ok (.putfield 15, 3) := by decide +kernel
theorem d_Whole_trim_37 : decode b_Whole_trim 37 = .ok (.return_, 1) := by decide +kernel
