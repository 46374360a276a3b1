theorem dX8_hashLine_33 : decode cX8_hashLine 33 = .ok (.iinc 6 1, 3) := by decide +kernel
theorem dX8_hashLine_36 : decode cX8_hashLine 36 = .ok (.goto (-30), 3) := by decide +kernel
theorem dX8_hashLine_39 : decode cX8_hashLine 39 = .ok (.iconst 0, 1) := by decide +kernel
theorem dX8_hashLine_40 : decode cX8_hashLine 40 = .ok (.istore 6, 2) := by decide +kernel
theorem dX8_hashLine_42 : decode cX8_hashLine 42 = .ok (.iload 6, 2) := by decide +kernel
theorem dX8_hashLine_44 : decode cX8_hashLine 44 = .ok (.aload_n 0, 1) := by decide +kernel
theorem dX8_hashLine_45 : decode cX8_hashLine 45 = .ok (.getfield 12, 3) := by decide +kernel
theorem dX8_hashLine_48 : decode cX8_hashLine 48 = .ok (.getfield 55, 3) := by decide +kernel
theorem dX8_hashLine_51 : decode cX8_hashLine 51 = .ok (.if_icmp .ge 49, 3) := by decide +kernel
theorem dX8_hashLine_54 : decode cX8_hashLine 54 = .ok (.iconst 0, 1) := by decide +kernel
theorem dX8_hashLine_55 : decode cX8_hashLine 55 = .ok (.istore 7, 2) := by decide +kernel
theorem dX8_hashLine_57 : decode cX8_hashLine 57 = .ok (.iload 7, 2) := by decide +kernel
theorem dX8_hashLine_59 : decode cX8_hashLine 59 = .ok (.iconst 4, 1) := by decide +kernel
theorem dX8_hashLine_60 : decode cX8_hashLine 60 = .ok (.if_icmp .ge 34, 3) := by decide +kernel
theorem dX8_hashLine_63 : decode cX8_hashLine 63 = .ok (.ldc2_w 200, 3) := by decide +kernel
theorem dX8_hashLine_66 : decode cX8_hashLine 66 = .ok (.lload 4, 2) := by decide +kernel
theorem dX8_hashLine_68 : decode cX8_hashLine 68 = .ok (.lmul, 1) := by decide +kernel
theorem dX8_hashLine_69 : decode cX8_hashLine 69 = .ok (.aload_n 0, 1) := by decide +kernel
theorem dX8_hashLine_70 : decode cX8_hashLine 70 = .ok (.getfield 12, 3) := by decide +kernel
theorem dX8_hashLine_73 : decode cX8_hashLine 73 = .ok (.getfield 98, 3) := by decide +kernel
theorem dX8_hashLine_76 : decode cX8_hashLine 76 = .ok (.iload 6, 2) := by decide +kernel
theorem dX8_hashLine_78 : decode cX8_hashLine 78 = .ok (.iload_n 3, 1) := by decide +kernel
theorem dX8_hashLine_79 : decode cX8_hashLine 79 = .ok (.iload 7, 2) := by decide +kernel
theorem dX8_hashLine_81 : decode cX8_hashLine 81 = .ok (.invokevirtual 130, 3) := by decide +kernel
theorem dX8_hashLine_84 : decode cX8_hashLine 84 = .ok (.i2l, 1) := by decide +kernel
theorem dX8_hashLine_85 : decode cX8_hashLine 85 = .ok (.ladd, 1) := by decide +kernel
theorem dX8_hashLine_86 : decode cX8_hashLine 86 = .ok (.lstore 4, 2) := by decide +kernel
theorem dX8_hashLine_88 : decode cX8_hashLine 88 = .ok (.iinc 7 1, 3) := by decide +kernel
theorem dX8_hashLine_91 : decode cX8_hashLine 91 = .ok (.goto (-34), 3) := by decide +kernel
theorem dX8_hashLine_94 : decode cX8_hashLine 94 = .ok (.iinc 6 1, 3) := by decide +kernel
theorem dX8_hashLine_97 : decode cX8_hashLine 97 = .ok (.goto (-55), 3) := by decide +kernel
theorem dX8_hashLine_100 : decode cX8_hashLine 100 = .ok (.lload 4, 2) := by decide +kernel
theorem dX8_hashLine_102 : decode cX8_hashLine 102 = .ok (.lreturn, 1) := by decide +kernel
theorem dX8_isPossible_0 : decode cX8_isPossible 0 = .ok (.aload_n 0, 1) := by decide +kernel
theorem dX8_isPossible_1 : decode cX8_isPossible 1 = .ok (.getfield 41, 3) := by decide +kernel
theorem dX8_isPossible_4 : decode cX8_isPossible 4 = .ok (.iload_n 1, 1) := by decide +kernel
theorem dX8_isPossible_5 : decode cX8_isPossible 5 = .ok (.invokevirtual 185, 3) := by decide +kernel
theorem dX8_isPossible_8 : decode cX8_isPossible 8 = .ok (.ifCond .eq 20, 3) := by decide +kernel
theorem dX8_isPossible_11 : decode cX8_isPossible 11 = .ok (.aload_n 0, 1) := by decide +kernel
theorem dX8_isPossible_12 : decode cX8_isPossible 12 = .ok (.getfield 12, 3) := by decide +kernel
theorem dX8_isPossible_15 : decode cX8_isPossible 15 = .ok (.aload_n 0, 1) := by decide +kernel
theorem dX8_isPossible_16 : decode cX8_isPossible 16 = .ok (.getfield 41, 3) := by decide +kernel
theorem dX8_isPossible_19 : decode cX8_isPossible 19 = .ok (.getfield 188, 3) := by decide +kernel
theorem dX8_isPossible_22 : decode cX8_isPossible 22 = .ok (.iload_n 1, 1) := by decide +kernel
theorem dX8_isPossible_23 : decode cX8_isPossible 23 = .ok (.iaload, 1) := by decide +kernel
theorem dX8_isPossible_24 : decode cX8_isPossible 24 = .ok (.invokevirtual 91, 3) := by decide +kernel
theorem dX8_isPossible_27 : decode cX8_isPossible 27 = .ok (.ireturn, 1) := by decide +kernel
theorem dX8_isPossible_28 : decode cX8_isPossible 28 = .ok (.aload_n 0, 1) := by decide +kernel
theorem dX8_isPossible_29 : decode cX8_isPossible 29 = .ok (.getfield 41, 3) := by decide +kernel
theorem dX8_isPossible_32 : decode cX8_isPossible 32 = .ok (.getfield 190, 3) := by decide +kernel
theorem dX8_isPossible_35 : decode cX8_isPossible 35 = .ok (.iload_n 1, 1) := by decide +kernel
theorem dX8_isPossible_36 : decode cX8_isPossible 36 = .ok (.iaload, 1) := by decide +kernel
theorem dX8_isPossible_37 : decode cX8_isPossible 37 = .ok (.istore_n 2, 1) := by decide +kernel
theorem dX8_isPossible_38 : decode cX8_isPossible 38 = .ok (.iload_n 2, 1) := by decide +kernel
theorem dX8_isPossible_39 : decode cX8_isPossible 39 = .ok (.aload_n 0, 1) := by decide +kernel
theorem dX8_isPossible_40 : decode cX8_isPossible 40 = .ok (.getfield 12, 3) := by decide +kernel
theorem dX8_isPossible_43 : decode cX8_isPossible 43 = .ok (.getfield 55, 3) := by decide +kernel
theorem dX8_isPossible_46 : decode cX8_isPossible 46 = .ok (.if_icmp .ge 21, 3) := by decide +kernel
theorem dX8_isPossible_49 : decode cX8_isPossible 49 = .ok (.aload_n 0, 1) := by decide +kernel
theorem dX8_isPossible_50 : decode cX8_isPossible 50 = .ok (.getfield 12, 3) := by decide +kernel
theorem dX8_isPossible_53 : decode cX8_isPossible 53 = .ok (.getfield 62, 3) := by decide +kernel
theorem dX8_isPossible_56 : decode cX8_isPossible 56 = .ok (.iload_n 2, 1) := by decide +kernel
theorem dX8_isPossible_57 : decode cX8_isPossible 57 = .ok (.invokevirtual 66, 3) := by decide +kernel
theorem dX8_isPossible_60 : decode cX8_isPossible 60 = .ok (.ifCond .ne 7, 3) := by decide +kernel
theorem dX8_isPossible_63 : decode cX8_isPossible 63 = .ok (.iconst 1, 1) := by decide +kernel
theorem dX8_isPossible_64 : decode cX8_isPossible 64 = .ok (.goto 4, 3) := by decide +kernel
theorem dX8_isPossible_67 : decode cX8_isPossible 67 = .ok (.iconst 0, 1) := by decide +kernel
theorem dX8_isPossible_68 : decode cX8_isPossible 68 = .ok (.ireturn, 1) := by decide +kernel
theorem dX8_needIndex_0 : decode cX8_needIndex 0 = .ok (.iload_n 0, 1) := by decide +kernel
theorem dX8_needIndex_1 : decode cX8_needIndex 1 = .ok (.ifCond .lt 8, 3) := by decide +kernel
theorem dX8_needIndex_4 : decode cX8_needIndex 4 = .ok (.iload_n 0, 1) := by decide +kernel
theorem dX8_needIndex_5 : decode cX8_needIndex 5 = .ok (.iload_n 1, 1) := by decide +kernel
theorem dX8_needIndex_6 : decode cX8_needIndex 6 = .ok (.if_icmp .lt 13, 3) := by decide +kernel
theorem dX8_needIndex_9 : decode cX8_needIndex 9 = .ok (.new 206, 3) := by decide +kernel
theorem dX8_needIndex_12 : decode cX8_needIndex 12 = .ok (.dup, 1) := by decide +kernel
theorem dX8_needIndex_13 : decode cX8_needIndex 13 = .ok (.ldc 208, 2) := by decide +kernel
theorem dX8_needIndex_15 : decode cX8_needIndex 15 = .ok (.invokespecial 210, 3) := by decide +kernel
theorem dX8_needIndex_18 : decode cX8_needIndex 18 = .ok (.athrow, 1) := by decide +kernel
theorem dX8_needIndex_19 : decode cX8_needIndex 19 = .ok (.return_, 1) := by decide +kernel
theorem dX8_needRange_0 : decode cX8_needRange 0 = .ok (.iload_n 0, 1) := by decide +kernel
theorem dX8_needRange_1 : decode cX8_needRange 1 = .ok (.iload_n 1, 1) := by decide +kernel
theorem dX8_needRange_2 : decode cX8_needRange 2 = .ok (.if_icmp .lt 8, 3) := by decide +kernel
theorem dX8_needRange_5 : decode cX8_needRange 5 = .ok (.iload_n 0, 1) := by decide +kernel
theorem dX8_needRange_6 : decode cX8_needRange 6 = .ok (.iload_n 2, 1) := by decide +kernel
theorem dX8_needRange_7 : decode cX8_needRange 7 = .ok (.if_icmp .le 13, 3) := by decide +kernel
theorem dX8_needRange_10 : decode cX8_needRange 10 = .ok (.new 213, 3) := by decide +kernel
theorem dX8_needRange_13 : decode cX8_needRange 13 = .ok (.dup, 1) := by decide +kernel
theorem dX8_needRange_14 : decode cX8_needRange 14 = .ok (.ldc 215, 2) := by decide +kernel
theorem dX8_needRange_16 : decode cX8_needRange 16 = .ok (.invokespecial 217, 3) := by decide +kernel
theorem dX8_needRange_19 : decode cX8_needRange 19 = .ok (.athrow, 1) := by decide +kernel
theorem dX8_needRange_20 : decode cX8_needRange 20 = .ok (.return_, 1) := by decide +kernel
theorem dX8_needState_0 : decode cX8_needState 0 = .ok (.iload_n 0, 1) := by decide +kernel
theorem dX8_needState_1 : decode cX8_needState 1 = .ok (.ifCond .ne 13, 3) := by decide +kernel
theorem dX8_needState_4 : decode cX8_needState 4 = .ok (.new 218, 3) := by decide +kernel
theorem dX8_needState_7 : decode cX8_needState 7 = .ok (.dup, 1) := by decide +kernel
theorem dX8_needState_8 : decode cX8_needState 8 = .ok (.ldc 220, 2) := by decide +kernel
theorem dX8_needState_10 : decode cX8_needState 10 = .ok (.invokespecial 222, 3) := by decide +kernel
theorem dX8_needState_13 : decode cX8_needState 13 = .ok (.athrow, 1) := by decide +kernel
theorem dX8_needState_14 : decode cX8_needState 14 = .ok (.return_, 1) := by decide +kernel
theorem dJ6_bitCount_0f7a4_0 : decode cJ6_bitCount_0f7a4 0 = .ok (.iload_n 0, 1) := by decide +kernel
theorem dJ6_bitCount_0f7a4_1 : decode cJ6_bitCount_0f7a4 1 = .ok (.iload_n 0, 1) := by decide +kernel
theorem dJ6_bitCount_0f7a4_2 : decode cJ6_bitCount_0f7a4 2 = .ok (.iconst 1, 1) := by decide +kernel
theorem dJ6_bitCount_0f7a4_3 : decode cJ6_bitCount_0f7a4 3 = .ok (.iushr, 1) := by decide +kernel
theorem dJ6_bitCount_0f7a4_4 : decode cJ6_bitCount_0f7a4 4 = .ok (.ldc_w 265, 3) := by decide +kernel
theorem dJ6_bitCount_0f7a4_7 : decode cJ6_bitCount_0f7a4 7 = .ok (.iand, 1) := by decide +kernel
theorem dJ6_bitCount_0f7a4_8 : decode cJ6_bitCount_0f7a4 8 = .ok (.isub, 1) := by decide +kernel
theorem dJ6_bitCount_0f7a4_9 : decode cJ6_bitCount_0f7a4 9 = .ok (.istore_n 0, 1) := by decide +kernel
theorem dJ6_bitCount_0f7a4_10 : decode cJ6_bitCount_0f7a4 10 = .ok (.iload_n 0, 1) := by decide +kernel
theorem dJ6_bitCount_0f7a4_11 : decode cJ6_bitCount_0f7a4 11 = .ok (.ldc_w 266, 3) := by decide +kernel
theorem dJ6_bitCount_0f7a4_14 : decode cJ6_bitCount_0f7a4 14 = .ok (.iand, 1) := by decide +kernel
theorem dJ6_bitCount_0f7a4_15 : decode cJ6_bitCount_0f7a4 15 = .ok (.iload_n 0, 1) := by decide +kernel
theorem dJ6_bitCount_0f7a4_16 : decode cJ6_bitCount_0f7a4 16 = .ok (.iconst 2, 1) := by decide +kernel
theorem dJ6_bitCount_0f7a4_17 : decode cJ6_bitCount_0f7a4 17 = .ok (.iushr, 1) := by decide +kernel
theorem dJ6_bitCount_0f7a4_18 : decode cJ6_bitCount_0f7a4 18 = .ok (.ldc_w 266, 3) := by decide +kernel
theorem dJ6_bitCount_0f7a4_21 : decode cJ6_bitCount_0f7a4 21 = .ok (.iand, 1) := by decide +kernel
theorem dJ6_bitCount_0f7a4_22 : decode cJ6_bitCount_0f7a4 22 = .ok (.iadd, 1) := by decide +kernel
theorem dJ6_bitCount_0f7a4_23 : decode cJ6_bitCount_0f7a4 23 = .ok (.istore_n 0, 1) := by decide +kernel
theorem dJ6_bitCount_0f7a4_24 : decode cJ6_bitCount_0f7a4 24 = .ok (.iload_n 0, 1) := by decide +kernel
theorem dJ6_bitCount_0f7a4_25 : decode cJ6_bitCount_0f7a4 25 = .ok (.iload_n 0, 1) := by decide +kernel
theorem dJ6_bitCount_0f7a4_26 : decode cJ6_bitCount_0f7a4 26 = .ok (.iconst 4, 1) := by decide +kernel
theorem dJ6_bitCount_0f7a4_27 : decode cJ6_bitCount_0f7a4 27 = .ok (.iushr, 1) := by decide +kernel
theorem dJ6_bitCount_0f7a4_28 : decode cJ6_bitCount_0f7a4 28 = .ok (.iadd, 1) := by decide +kernel
theorem dJ6_bitCount_0f7a4_29 : decode cJ6_bitCount_0f7a4 29 = .ok (.ldc_w 267, 3) := by decide +kernel
theorem dJ6_bitCount_0f7a4_32 : decode cJ6_bitCount_0f7a4 32 = .ok (.iand, 1) := by decide +kernel
theorem dJ6_bitCount_0f7a4_33 : decode cJ6_bitCount_0f7a4 33 = .ok (.istore_n 0, 1) := by decide +kernel
theorem dJ6_bitCount_0f7a4_34 : decode cJ6_bitCount_0f7a4 34 = .ok (.iload_n 0, 1) := by decide +kernel
theorem dJ6_bitCount_0f7a4_35 : decode cJ6_bitCount_0f7a4 35 = .ok (.iload_n 0, 1) := by decide +kernel
theorem dJ6_bitCount_0f7a4_36 : decode cJ6_bitCount_0f7a4 36 = .ok (.bipush 8, 2) := by decide +kernel
theorem dJ6_bitCount_0f7a4_38 : decode cJ6_bitCount_0f7a4 38 = .ok (.iushr, 1) := by decide +kernel
theorem dJ6_bitCount_0f7a4_39 : decode cJ6_bitCount_0f7a4 39 = .ok (.iadd, 1) := by decide +kernel
theorem dJ6_bitCount_0f7a4_40 : decode cJ6_bitCount_0f7a4 40 = .ok (.istore_n 0, 1) := by decide +kernel
theorem dJ6_bitCount_0f7a4_41 : decode cJ6_bitCount_0f7a4 41 = .ok (.iload_n 0, 1) := by decide +kernel
theorem dJ6_bitCount_0f7a4_42 : decode cJ6_bitCount_0f7a4 42 = .ok (.iload_n 0, 1) := by decide +kernel
theorem dJ6_bitCount_0f7a4_43 : decode cJ6_bitCount_0f7a4 43 = .ok (.bipush 16, 2) := by decide +kernel
theorem dJ6_bitCount_0f7a4_45 : decode cJ6_bitCount_0f7a4 45 = .ok (.iushr, 1) := by decide +kernel
theorem dJ6_bitCount_0f7a4_46 : decode cJ6_bitCount_0f7a4 46 = .ok (.iadd, 1) := by decide +kernel
theorem dJ6_bitCount_0f7a4_47 : decode cJ6_bitCount_0f7a4 47 = .ok (.istore_n 0, 1) := by decide +kernel
theorem dJ6_bitCount_0f7a4_48 : decode cJ6_bitCount_0f7a4 48 = .ok (.iload_n 0, 1) := by decide +kernel
theorem dJ6_bitCount_0f7a4_49 : decode cJ6_bitCount_0f7a4 49 = .ok (.bipush 63, 2) := by decide +kernel
theorem dJ6_bitCount_0f7a4_51 : decode cJ6_bitCount_0f7a4 51 = .ok (.iand, 1) := by decide +kernel
theorem dJ6_bitCount_0f7a4_52 : decode cJ6_bitCount_0f7a4 52 = .ok (.ireturn, 1) := by decide +kernel
theorem dJ7_fill_53178_0 : decode cJ7_fill_53178 0 = .ok (.iconst 0, 1) := by decide +kernel
theorem dJ7_fill_53178_1 : decode cJ7_fill_53178 1 = .ok (.istore_n 2, 1) := by decide +kernel
theorem dJ7_fill_53178_2 : decode cJ7_fill_53178 2 = .ok (.aload_n 0, 1) := by decide +kernel
theorem dJ7_fill_53178_3 : decode cJ7_fill_53178 3 = .ok (.arraylength, 1) := by decide +kernel
theorem dJ7_fill_53178_4 : decode cJ7_fill_53178 4 = .ok (.istore_n 3, 1) := by decide +kernel
theorem dJ7_fill_53178_5 : decode cJ7_fill_53178 5 = .ok (.iload_n 2, 1) := by decide +kernel
theorem dJ7_fill_53178_6 : decode cJ7_fill_53178 6 = .ok (.iload_n 3, 1) := by decide +kernel
theorem dJ7_fill_53178_7 : decode cJ7_fill_53178 7 = .ok (.if_icmp .ge 13, 3) := by decide +kernel
theorem dJ7_fill_53178_10 : decode cJ7_fill_53178 10 = .ok (.aload_n 0, 1) := by decide +kernel
theorem dJ7_fill_53178_11 : decode cJ7_fill_53178 11 = .ok (.iload_n 2, 1) := by decide +kernel
theorem dJ7_fill_53178_12 : decode cJ7_fill_53178 12 = .ok (.iload_n 1, 1) := by decide +kernel
theorem dJ7_fill_53178_13 : decode cJ7_fill_53178 13 = .ok (.iastore, 1) := by decide +kernel
theorem dJ7_fill_53178_14 : decode cJ7_fill_53178 14 = .ok (.iinc 2 1, 3) := by decide +kernel
theorem dJ7_fill_53178_17 : decode cJ7_fill_53178 17 = .ok (.goto (-12), 3) := by decide +kernel
theorem dJ7_fill_53178_20 : decode cJ7_fill_53178 20 = .ok (.return_, 1) := by decide +kernel
