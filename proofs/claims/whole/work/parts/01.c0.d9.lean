theorem dX9_init_0 : decode cX9_init 0 = .ok (.aload_n 0, 1) := by decide +kernel
theorem dX9_init_1 : decode cX9_init 1 = .ok (.invokespecial 1, 3) := by decide +kernel
theorem dX9_init_4 : decode cX9_init 4 = .ok (.aload_n 0, 1) := by decide +kernel
theorem dX9_init_5 : decode cX9_init 5 = .ok (.sipush 456, 3) := by decide +kernel
theorem dX9_init_8 : decode cX9_init 8 = .ok (.newarray .int, 2) := by decide +kernel
theorem dX9_init_10 : decode cX9_init 10 = .ok (.putfield 7, 3) := by decide +kernel
theorem dX9_init_13 : decode cX9_init 13 = .ok (.aload_n 0, 1) := by decide +kernel
theorem dX9_init_14 : decode cX9_init 14 = .ok (.sipush 456, 3) := by decide +kernel
theorem dX9_init_17 : decode cX9_init 17 = .ok (.newarray .int, 2) := by decide +kernel
theorem dX9_init_19 : decode cX9_init 19 = .ok (.putfield 13, 3) := by decide +kernel
theorem dX9_init_22 : decode cX9_init 22 = .ok (.aload_n 0, 1) := by decide +kernel
theorem dX9_init_23 : decode cX9_init 23 = .ok (.sipush 1824, 3) := by decide +kernel
theorem dX9_init_26 : decode cX9_init 26 = .ok (.newarray .int, 2) := by decide +kernel
theorem dX9_init_28 : decode cX9_init 28 = .ok (.putfield 16, 3) := by decide +kernel
theorem dX9_init_31 : decode cX9_init 31 = .ok (.aload_n 0, 1) := by decide +kernel
theorem dX9_init_32 : decode cX9_init 32 = .ok (.bipush 100, 2) := by decide +kernel
theorem dX9_init_34 : decode cX9_init 34 = .ok (.newarray .int, 2) := by decide +kernel
theorem dX9_init_36 : decode cX9_init 36 = .ok (.putfield 19, 3) := by decide +kernel
theorem dX9_init_39 : decode cX9_init 39 = .ok (.aload_n 0, 1) := by decide +kernel
theorem dX9_init_40 : decode cX9_init 40 = .ok (.iconst 4, 1) := by decide +kernel
theorem dX9_init_41 : decode cX9_init 41 = .ok (.newarray .int, 2) := by decide +kernel
theorem dX9_init_43 : decode cX9_init 43 = .ok (.putfield 22, 3) := by decide +kernel
theorem dX9_init_46 : decode cX9_init 46 = .ok (.aload_n 0, 1) := by decide +kernel
theorem dX9_init_47 : decode cX9_init 47 = .ok (.iconst 3, 1) := by decide +kernel
theorem dX9_init_48 : decode cX9_init 48 = .ok (.iconst 4, 1) := by decide +kernel
theorem dX9_init_49 : decode cX9_init 49 = .ok (.iconst 4, 1) := by decide +kernel
theorem dX9_init_50 : decode cX9_init 50 = .ok (.invokevirtual 25, 3) := by decide +kernel
theorem dX9_init_53 : decode cX9_init 53 = .ok (.return_, 1) := by decide +kernel
theorem dX9_thrown_0 : decode cX9_thrown 0 = .ok (.aload_n 0, 1) := by decide +kernel
theorem dX9_thrown_1 : decode cX9_thrown 1 = .ok (.getfield 29, 3) := by decide +kernel
theorem dX9_thrown_4 : decode cX9_thrown 4 = .ok (.ireturn, 1) := by decide +kernel
theorem dX9_in_0 : decode cX9_in 0 = .ok (.iload_n 0, 1) := by decide +kernel
theorem dX9_in_1 : decode cX9_in 1 = .ok (.iload_n 1, 1) := by decide +kernel
theorem dX9_in_2 : decode cX9_in 2 = .ok (.if_icmp .lt 12, 3) := by decide +kernel
theorem dX9_in_5 : decode cX9_in 5 = .ok (.iload_n 0, 1) := by decide +kernel
theorem dX9_in_6 : decode cX9_in 6 = .ok (.iload_n 2, 1) := by decide +kernel
theorem dX9_in_7 : decode cX9_in 7 = .ok (.if_icmp .gt 7, 3) := by decide +kernel
theorem dX9_in_10 : decode cX9_in 10 = .ok (.iconst 1, 1) := by decide +kernel
theorem dX9_in_11 : decode cX9_in 11 = .ok (.goto 4, 3) := by decide +kernel
theorem dX9_in_14 : decode cX9_in 14 = .ok (.iconst 0, 1) := by decide +kernel
theorem dX9_in_15 : decode cX9_in 15 = .ok (.ireturn, 1) := by decide +kernel
theorem dX9_fails_0 : decode cX9_fails 0 = .ok (.aload_n 0, 1) := by decide +kernel
theorem dX9_fails_1 : decode cX9_fails 1 = .ok (.iload_n 1, 1) := by decide +kernel
theorem dX9_fails_2 : decode cX9_fails 2 = .ok (.putfield 29, 3) := by decide +kernel
theorem dX9_fails_5 : decode cX9_fails 5 = .ok (.iconst 0, 1) := by decide +kernel
theorem dX9_fails_6 : decode cX9_fails 6 = .ok (.ireturn, 1) := by decide +kernel
theorem dX9_anew_0 : decode cX9_anew 0 = .ok (.iconst 0, 1) := by decide +kernel
theorem dX9_anew_1 : decode cX9_anew 1 = .ok (.istore 4, 2) := by decide +kernel
theorem dX9_anew_3 : decode cX9_anew 3 = .ok (.iload 4, 2) := by decide +kernel
theorem dX9_anew_5 : decode cX9_anew 5 = .ok (.sipush 456, 3) := by decide +kernel
theorem dX9_anew_8 : decode cX9_anew 8 = .ok (.if_icmp .ge 17, 3) := by decide +kernel
theorem dX9_anew_11 : decode cX9_anew 11 = .ok (.aload_n 0, 1) := by decide +kernel
theorem dX9_anew_12 : decode cX9_anew 12 = .ok (.getfield 7, 3) := by decide +kernel
theorem dX9_anew_15 : decode cX9_anew 15 = .ok (.iload 4, 2) := by decide +kernel
theorem dX9_anew_17 : decode cX9_anew 17 = .ok (.iconst 0, 1) := by decide +kernel
theorem dX9_anew_18 : decode cX9_anew 18 = .ok (.iastore, 1) := by decide +kernel
theorem dX9_anew_19 : decode cX9_anew 19 = .ok (.iinc 4 1, 3) := by decide +kernel
theorem dX9_anew_22 : decode cX9_anew 22 = .ok (.goto (-19), 3) := by decide +kernel
theorem dX9_anew_25 : decode cX9_anew 25 = .ok (.aload_n 0, 1) := by decide +kernel
theorem dX9_anew_26 : decode cX9_anew 26 = .ok (.getfield 7, 3) := by decide +kernel
theorem dX9_anew_29 : decode cX9_anew 29 = .ok (.iconst 0, 1) := by decide +kernel
theorem dX9_anew_30 : decode cX9_anew 30 = .ok (.iload_n 1, 1) := by decide +kernel
theorem dX9_anew_31 : decode cX9_anew 31 = .ok (.iastore, 1) := by decide +kernel
theorem dX9_anew_32 : decode cX9_anew 32 = .ok (.aload_n 0, 1) := by decide +kernel
theorem dX9_anew_33 : decode cX9_anew 33 = .ok (.getfield 7, 3) := by decide +kernel
theorem dX9_anew_36 : decode cX9_anew 36 = .ok (.iconst 1, 1) := by decide +kernel
theorem dX9_anew_37 : decode cX9_anew 37 = .ok (.iload_n 2, 1) := by decide +kernel
theorem dX9_anew_38 : decode cX9_anew 38 = .ok (.iastore, 1) := by decide +kernel
theorem dX9_anew_39 : decode cX9_anew 39 = .ok (.aload_n 0, 1) := by decide +kernel
theorem dX9_anew_40 : decode cX9_anew 40 = .ok (.getfield 7, 3) := by decide +kernel
theorem dX9_anew_43 : decode cX9_anew 43 = .ok (.iconst 2, 1) := by decide +kernel
theorem dX9_anew_44 : decode cX9_anew 44 = .ok (.iload_n 3, 1) := by decide +kernel
theorem dX9_anew_45 : decode cX9_anew 45 = .ok (.iastore, 1) := by decide +kernel
theorem dX9_anew_46 : decode cX9_anew 46 = .ok (.iconst 0, 1) := by decide +kernel
theorem dX9_anew_47 : decode cX9_anew 47 = .ok (.istore 4, 2) := by decide +kernel
theorem dX9_anew_49 : decode cX9_anew 49 = .ok (.iload 4, 2) := by decide +kernel
theorem dX9_anew_51 : decode cX9_anew 51 = .ok (.bipush 48, 2) := by decide +kernel
theorem dX9_anew_53 : decode cX9_anew 53 = .ok (.if_icmp .ge 22, 3) := by decide +kernel
theorem dX9_anew_56 : decode cX9_anew 56 = .ok (.aload_n 0, 1) := by decide +kernel
theorem dX9_anew_57 : decode cX9_anew 57 = .ok (.getfield 7, 3) := by decide +kernel
theorem dX9_anew_60 : decode cX9_anew 60 = .ok (.bipush 110, 2) := by decide +kernel
theorem dX9_anew_62 : decode cX9_anew 62 = .ok (.iconst 4, 1) := by decide +kernel
theorem dX9_anew_63 : decode cX9_anew 63 = .ok (.iload 4, 2) := by decide +kernel
theorem dX9_anew_65 : decode cX9_anew 65 = .ok (.imul, 1) := by decide +kernel
theorem dX9_anew_66 : decode cX9_anew 66 = .ok (.iadd, 1) := by decide +kernel
theorem dX9_anew_67 : decode cX9_anew 67 = .ok (.iconst (-1), 1) := by decide +kernel
theorem dX9_anew_68 : decode cX9_anew 68 = .ok (.iastore, 1) := by decide +kernel
theorem dX9_anew_69 : decode cX9_anew 69 = .ok (.iinc 4 1, 3) := by decide +kernel
theorem dX9_anew_72 : decode cX9_anew 72 = .ok (.goto (-23), 3) := by decide +kernel
theorem dX9_anew_75 : decode cX9_anew 75 = .ok (.iconst 0, 1) := by decide +kernel
theorem dX9_anew_76 : decode cX9_anew 76 = .ok (.istore 4, 2) := by decide +kernel
theorem dX9_anew_78 : decode cX9_anew 78 = .ok (.iload 4, 2) := by decide +kernel
theorem dX9_anew_80 : decode cX9_anew 80 = .ok (.bipush 6, 2) := by decide +kernel
theorem dX9_anew_82 : decode cX9_anew 82 = .ok (.if_icmp .ge 23, 3) := by decide +kernel
theorem dX9_anew_85 : decode cX9_anew 85 = .ok (.aload_n 0, 1) := by decide +kernel
theorem dX9_anew_86 : decode cX9_anew 86 = .ok (.getfield 7, 3) := by decide +kernel
theorem dX9_anew_89 : decode cX9_anew 89 = .ok (.sipush 366, 3) := by decide +kernel
theorem dX9_anew_92 : decode cX9_anew 92 = .ok (.iconst 3, 1) := by decide +kernel
theorem dX9_anew_93 : decode cX9_anew 93 = .ok (.iload 4, 2) := by decide +kernel
theorem dX9_anew_95 : decode cX9_anew 95 = .ok (.imul, 1) := by decide +kernel
theorem dX9_anew_96 : decode cX9_anew 96 = .ok (.iadd, 1) := by decide +kernel
theorem dX9_anew_97 : decode cX9_anew 97 = .ok (.iconst (-1), 1) := by decide +kernel
theorem dX9_anew_98 : decode cX9_anew 98 = .ok (.iastore, 1) := by decide +kernel
theorem dX9_anew_99 : decode cX9_anew 99 = .ok (.iinc 4 1, 3) := by decide +kernel
theorem dX9_anew_102 : decode cX9_anew 102 = .ok (.goto (-24), 3) := by decide +kernel
theorem dX9_anew_105 : decode cX9_anew 105 = .ok (.return_, 1) := by decide +kernel
theorem dX9_keep_0 : decode cX9_keep 0 = .ok (.iconst 0, 1) := by decide +kernel
theorem dX9_keep_1 : decode cX9_keep 1 = .ok (.istore_n 1, 1) := by decide +kernel
theorem dX9_keep_2 : decode cX9_keep 2 = .ok (.iload_n 1, 1) := by decide +kernel
theorem dX9_keep_3 : decode cX9_keep 3 = .ok (.sipush 456, 3) := by decide +kernel
theorem dX9_keep_6 : decode cX9_keep 6 = .ok (.if_icmp .ge 21, 3) := by decide +kernel
theorem dX9_keep_9 : decode cX9_keep 9 = .ok (.aload_n 0, 1) := by decide +kernel
theorem dX9_keep_10 : decode cX9_keep 10 = .ok (.getfield 13, 3) := by decide +kernel
theorem dX9_keep_13 : decode cX9_keep 13 = .ok (.iload_n 1, 1) := by decide +kernel
theorem dX9_keep_14 : decode cX9_keep 14 = .ok (.aload_n 0, 1) := by decide +kernel
theorem dX9_keep_15 : decode cX9_keep 15 = .ok (.getfield 7, 3) := by decide +kernel
theorem dX9_keep_18 : decode cX9_keep 18 = .ok (.iload_n 1, 1) := by decide +kernel
theorem dX9_keep_19 : decode cX9_keep 19 = .ok (.iaload, 1) := by decide +kernel
theorem dX9_keep_20 : decode cX9_keep 20 = .ok (.iastore, 1) := by decide +kernel
theorem dX9_keep_21 : decode cX9_keep 21 = .ok (.iinc 1 1, 3) := by decide +kernel
theorem dX9_keep_24 : decode cX9_keep 24 = .ok (.goto (-22), 3) := by decide +kernel
theorem dX9_keep_27 : decode cX9_keep 27 = .ok (.return_, 1) := by decide +kernel
theorem dX9_bringBack_0 : decode cX9_bringBack 0 = .ok (.iconst 0, 1) := by decide +kernel
theorem dX9_bringBack_1 : decode cX9_bringBack 1 = .ok (.istore_n 1, 1) := by decide +kernel
theorem dX9_bringBack_2 : decode cX9_bringBack 2 = .ok (.iload_n 1, 1) := by decide +kernel
theorem dX9_bringBack_3 : decode cX9_bringBack 3 = .ok (.sipush 456, 3) := by decide +kernel
theorem dX9_bringBack_6 : decode cX9_bringBack 6 = .ok (.if_icmp .ge 21, 3) := by decide +kernel
theorem dX9_bringBack_9 : decode cX9_bringBack 9 = .ok (.aload_n 0, 1) := by decide +kernel
theorem dX9_bringBack_10 : decode cX9_bringBack 10 = .ok (.getfield 7, 3) := by decide +kernel
theorem dX9_bringBack_13 : decode cX9_bringBack 13 = .ok (.iload_n 1, 1) := by decide +kernel
theorem dX9_bringBack_14 : decode cX9_bringBack 14 = .ok (.aload_n 0, 1) := by decide +kernel
theorem dX9_bringBack_15 : decode cX9_bringBack 15 = .ok (.getfield 13, 3) := by decide +kernel
theorem dX9_bringBack_18 : decode cX9_bringBack 18 = .ok (.iload_n 1, 1) := by decide +kernel
theorem dX9_bringBack_19 : decode cX9_bringBack 19 = .ok (.iaload, 1) := by decide +kernel
theorem dX9_bringBack_20 : decode cX9_bringBack 20 = .ok (.iastore, 1) := by decide +kernel
theorem dX9_bringBack_21 : decode cX9_bringBack 21 = .ok (.iinc 1 1, 3) := by decide +kernel
theorem dX9_bringBack_24 : decode cX9_bringBack 24 = .ok (.goto (-22), 3) := by decide +kernel
theorem dX9_bringBack_27 : decode cX9_bringBack 27 = .ok (.return_, 1) := by decide +kernel
theorem dX9_save_0 : decode cX9_save 0 = .ok (.aload_n 0, 1) := by decide +kernel
theorem dX9_save_1 : decode cX9_save 1 = .ok (.getfield 33, 3) := by decide +kernel
theorem dX9_save_4 : decode cX9_save 4 = .ok (.iconst 4, 1) := by decide +kernel
theorem dX9_save_5 : decode cX9_save 5 = .ok (.if_icmp .ne 44, 3) := by decide +kernel
theorem dX9_save_8 : decode cX9_save 8 = .ok (.iconst 0, 1) := by decide +kernel
theorem dX9_save_9 : decode cX9_save 9 = .ok (.istore_n 1, 1) := by decide +kernel
theorem dX9_save_10 : decode cX9_save 10 = .ok (.iload_n 1, 1) := by decide +kernel
theorem dX9_save_11 : decode cX9_save 11 = .ok (.sipush 1368, 3) := by decide +kernel
theorem dX9_save_14 : decode cX9_save 14 = .ok (.if_icmp .ge 25, 3) := by decide +kernel
theorem dX9_save_17 : decode cX9_save 17 = .ok (.aload_n 0, 1) := by decide +kernel
theorem dX9_save_18 : decode cX9_save 18 = .ok (.getfield 16, 3) := by decide +kernel
theorem dX9_save_21 : decode cX9_save 21 = .ok (.iload_n 1, 1) := by decide +kernel
theorem dX9_save_22 : decode cX9_save 22 = .ok (.aload_n 0, 1) := by decide +kernel
theorem dX9_save_23 : decode cX9_save 23 = .ok (.getfield 16, 3) := by decide +kernel
theorem dX9_save_26 : decode cX9_save 26 = .ok (.iload_n 1, 1) := by decide +kernel
theorem dX9_save_27 : decode cX9_save 27 = .ok (.sipush 456, 3) := by decide +kernel
theorem dX9_save_30 : decode cX9_save 30 = .ok (.iadd, 1) := by decide +kernel
theorem dX9_save_31 : decode cX9_save 31 = .ok (.iaload, 1) := by decide +kernel
theorem dX9_save_32 : decode cX9_save 32 = .ok (.iastore, 1) := by decide +kernel
theorem dX9_save_33 : decode cX9_save 33 = .ok (.iinc 1 1, 3) := by decide +kernel
theorem dX9_save_36 : decode cX9_save 36 = .ok (.goto (-26), 3) := by decide +kernel
theorem dX9_save_39 : decode cX9_save 39 = .ok (.aload_n 0, 1) := by decide +kernel
theorem dX9_save_40 : decode cX9_save 40 = .ok (.dup, 1) := by decide +kernel
theorem dX9_save_41 : decode cX9_save 41 = .ok (.getfield 33, 3) := by decide +kernel
theorem dX9_save_44 : decode cX9_save 44 = .ok (.iconst 1, 1) := by decide +kernel
theorem dX9_save_45 : decode cX9_save 45 = .ok (.isub, 1) := by decide +kernel
theorem dX9_save_46 : decode cX9_save 46 = .ok (.putfield 33, 3) := by decide +kernel
theorem dX9_save_49 : decode cX9_save 49 = .ok (.iconst 0, 1) := by decide +kernel
theorem dX9_save_50 : decode cX9_save 50 = .ok (.istore_n 1, 1) := by decide +kernel
theorem dX9_save_51 : decode cX9_save 51 = .ok (.iload_n 1, 1) := by decide +kernel
theorem dX9_save_52 : decode cX9_save 52 = .ok (.sipush 456, 3) := by decide +kernel
theorem dX9_save_55 : decode cX9_save 55 = .ok (.if_icmp .ge 30, 3) := by decide +kernel
theorem dX9_save_58 : decode cX9_save 58 = .ok (.aload_n 0, 1) := by decide +kernel
theorem dX9_save_59 : decode cX9_save 59 = .ok (.getfield 16, 3) := by decide +kernel
theorem dX9_save_62 : decode cX9_save 62 = .ok (.sipush 456, 3) := by decide +kernel
theorem dX9_save_65 : decode cX9_save 65 = .ok (.aload_n 0, 1) := by decide +kernel
theorem dX9_save_66 : decode cX9_save 66 = .ok (.getfield 33, 3) := by decide +kernel
theorem dX9_save_69 : decode cX9_save 69 = .ok (.imul, 1) := by decide +kernel
theorem dX9_save_70 : decode cX9_save 70 = .ok (.iload_n 1, 1) := by decide +kernel
theorem dX9_save_71 : decode cX9_save 71 = .ok (.iadd, 1) := by decide +kernel
theorem dX9_save_72 : decode cX9_save 72 = .ok (.aload_n 0, 1) := by decide +kernel
theorem dX9_save_73 : decode cX9_save 73 = .ok (.getfield 7, 3) := by decide +kernel
theorem dX9_save_76 : decode cX9_save 76 = .ok (.iload_n 1, 1) := by decide +kernel
theorem dX9_save_77 : decode cX9_save 77 = .ok (.iaload, 1) := by decide +kernel
theorem dX9_save_78 : decode cX9_save 78 = .ok (.iastore, 1) := by decide +kernel
theorem dX9_save_79 : decode cX9_save 79 = .ok (.iinc 1 1, 3) := by decide +kernel
theorem dX9_save_82 : decode cX9_save 82 = .ok (.goto (-31), 3) := by decide +kernel
theorem dX9_save_85 : decode cX9_save 85 = .ok (.aload_n 0, 1) := by decide +kernel
theorem dX9_save_86 : decode cX9_save 86 = .ok (.dup, 1) := by decide +kernel
theorem dX9_save_87 : decode cX9_save 87 = .ok (.getfield 33, 3) := by decide +kernel
theorem dX9_save_90 : decode cX9_save 90 = .ok (.iconst 1, 1) := by decide +kernel
theorem dX9_save_91 : decode cX9_save 91 = .ok (.iadd, 1) := by decide +kernel
theorem dX9_save_92 : decode cX9_save 92 = .ok (.putfield 33, 3) := by decide +kernel
theorem dX9_save_95 : decode cX9_save 95 = .ok (.return_, 1) := by decide +kernel
theorem dX9_isCache_0 : decode cX9_isCache 0 = .ok (.iload_n 1, 1) := by decide +kernel
theorem dX9_isCache_1 : decode cX9_isCache 1 = .ok (.iconst 0, 1) := by decide +kernel
theorem dX9_isCache_2 : decode cX9_isCache 2 = .ok (.aload_n 0, 1) := by decide +kernel
theorem dX9_isCache_3 : decode cX9_isCache 3 = .ok (.getfield 7, 3) := by decide +kernel
theorem dX9_isCache_6 : decode cX9_isCache 6 = .ok (.iconst 0, 1) := by decide +kernel
theorem dX9_isCache_7 : decode cX9_isCache 7 = .ok (.iaload, 1) := by decide +kernel
theorem dX9_isCache_8 : decode cX9_isCache 8 = .ok (.iconst 1, 1) := by decide +kernel
theorem dX9_isCache_9 : decode cX9_isCache 9 = .ok (.isub, 1) := by decide +kernel
theorem dX9_isCache_10 : decode cX9_isCache 10 = .ok (.invokestatic 36, 3) := by decide +kernel
theorem dX9_isCache_13 : decode cX9_isCache 13 = .ok (.ireturn, 1) := by decide +kernel
theorem dX9_isLine_0 : decode cX9_isLine 0 = .ok (.iload_n 0, 1) := by decide +kernel
theorem dX9_isLine_1 : decode cX9_isLine 1 = .ok (.iconst 0, 1) := by decide +kernel
theorem dX9_isLine_2 : decode cX9_isLine 2 = .ok (.bipush 31, 2) := by decide +kernel
theorem dX9_isLine_4 : decode cX9_isLine 4 = .ok (.invokestatic 36, 3) := by decide +kernel
theorem dX9_isLine_7 : decode cX9_isLine 7 = .ok (.ireturn, 1) := by decide +kernel
theorem dX9_slotAt_0 : decode cX9_slotAt 0 = .ok (.bipush 110, 2) := by decide +kernel
theorem dX9_slotAt_2 : decode cX9_slotAt 2 = .ok (.iconst 4, 1) := by decide +kernel
theorem dX9_slotAt_3 : decode cX9_slotAt 3 = .ok (.bipush 8, 2) := by decide +kernel
theorem dX9_slotAt_5 : decode cX9_slotAt 5 = .ok (.iload_n 0, 1) := by decide +kernel
theorem dX9_slotAt_6 : decode cX9_slotAt 6 = .ok (.imul, 1) := by decide +kernel
theorem dX9_slotAt_7 : decode cX9_slotAt 7 = .ok (.iload_n 1, 1) := by decide +kernel
theorem dX9_slotAt_8 : decode cX9_slotAt 8 = .ok (.iadd, 1) := by decide +kernel
theorem dX9_slotAt_9 : decode cX9_slotAt 9 = .ok (.imul, 1) := by decide +kernel
theorem dX9_slotAt_10 : decode cX9_slotAt 10 = .ok (.iadd, 1) := by decide +kernel
theorem dX9_slotAt_11 : decode cX9_slotAt 11 = .ok (.ireturn, 1) := by decide +kernel
theorem dX9_copyOf_0 : decode cX9_copyOf 0 = .ok (.iconst 0, 1) := by decide +kernel
theorem dX9_copyOf_1 : decode cX9_copyOf 1 = .ok (.istore_n 3, 1) := by decide +kernel
theorem dX9_copyOf_2 : decode cX9_copyOf 2 = .ok (.iload_n 3, 1) := by decide +kernel
theorem dX9_copyOf_3 : decode cX9_copyOf 3 = .ok (.aload_n 0, 1) := by decide +kernel
theorem dX9_copyOf_4 : decode cX9_copyOf 4 = .ok (.getfield 7, 3) := by decide +kernel
theorem dX9_copyOf_7 : decode cX9_copyOf 7 = .ok (.iconst 1, 1) := by decide +kernel
theorem dX9_copyOf_8 : decode cX9_copyOf 8 = .ok (.iaload, 1) := by decide +kernel
theorem dX9_copyOf_9 : decode cX9_copyOf 9 = .ok (.if_icmp .ge 29, 3) := by decide +kernel
theorem dX9_copyOf_12 : decode cX9_copyOf 12 = .ok (.aload_n 0, 1) := by decide +kernel
theorem dX9_copyOf_13 : decode cX9_copyOf 13 = .ok (.getfield 7, 3) := by decide +kernel
theorem dX9_copyOf_16 : decode cX9_copyOf 16 = .ok (.iload_n 1, 1) := by decide +kernel
theorem dX9_copyOf_17 : decode cX9_copyOf 17 = .ok (.iload_n 3, 1) := by decide +kernel
theorem dX9_copyOf_18 : decode cX9_copyOf 18 = .ok (.invokestatic 40, 3) := by decide +kernel
theorem dX9_copyOf_21 : decode cX9_copyOf 21 = .ok (.iaload, 1) := by decide +kernel
theorem dX9_copyOf_22 : decode cX9_copyOf 22 = .ok (.iload_n 2, 1) := by decide +kernel
theorem dX9_copyOf_23 : decode cX9_copyOf 23 = .ok (.if_icmp .ne 9, 3) := by decide +kernel
theorem dX9_copyOf_26 : decode cX9_copyOf 26 = .ok (.iload_n 1, 1) := by decide +kernel
theorem dX9_copyOf_27 : decode cX9_copyOf 27 = .ok (.iload_n 3, 1) := by decide +kernel
theorem dX9_copyOf_28 : decode cX9_copyOf 28 = .ok (.invokestatic 40, 3) := by decide +kernel
theorem dX9_copyOf_31 : decode cX9_copyOf 31 = .ok (.ireturn, 1) := by decide +kernel
theorem dX9_copyOf_32 : decode cX9_copyOf 32 = .ok (.iinc 3 1, 3) := by decide +kernel
theorem dX9_copyOf_35 : decode cX9_copyOf 35 = .ok (.goto (-33), 3) := by decide +kernel
theorem dX9_copyOf_38 : decode cX9_copyOf 38 = .ok (.iconst (-1), 1) := by decide +kernel
theorem dX9_copyOf_39 : decode cX9_copyOf 39 = .ok (.ireturn, 1) := by decide +kernel
theorem dX9_oldestCopy_0 : decode cX9_oldestCopy 0 = .ok (.iload_n 1, 1) := by decide +kernel
theorem dX9_oldestCopy_1 : decode cX9_oldestCopy 1 = .ok (.iconst 0, 1) := by decide +kernel
theorem dX9_oldestCopy_2 : decode cX9_oldestCopy 2 = .ok (.invokestatic 40, 3) := by decide +kernel
theorem dX9_oldestCopy_5 : decode cX9_oldestCopy 5 = .ok (.istore_n 2, 1) := by decide +kernel
theorem dX9_oldestCopy_6 : decode cX9_oldestCopy 6 = .ok (.iconst 1, 1) := by decide +kernel
theorem dX9_oldestCopy_7 : decode cX9_oldestCopy 7 = .ok (.istore_n 3, 1) := by decide +kernel
theorem dX9_oldestCopy_8 : decode cX9_oldestCopy 8 = .ok (.iload_n 3, 1) := by decide +kernel
theorem dX9_oldestCopy_9 : decode cX9_oldestCopy 9 = .ok (.aload_n 0, 1) := by decide +kernel
theorem dX9_oldestCopy_10 : decode cX9_oldestCopy 10 = .ok (.getfield 7, 3) := by decide +kernel
theorem dX9_oldestCopy_13 : decode cX9_oldestCopy 13 = .ok (.iconst 1, 1) := by decide +kernel
theorem dX9_oldestCopy_14 : decode cX9_oldestCopy 14 = .ok (.iaload, 1) := by decide +kernel
theorem dX9_oldestCopy_15 : decode cX9_oldestCopy 15 = .ok (.if_icmp .ge 42, 3) := by decide +kernel
theorem dX9_oldestCopy_18 : decode cX9_oldestCopy 18 = .ok (.aload_n 0, 1) := by decide +kernel
theorem dX9_oldestCopy_19 : decode cX9_oldestCopy 19 = .ok (.getfield 7, 3) := by decide +kernel
theorem dX9_oldestCopy_22 : decode cX9_oldestCopy 22 = .ok (.iload_n 1, 1) := by decide +kernel
theorem dX9_oldestCopy_23 : decode cX9_oldestCopy 23 = .ok (.iload_n 3, 1) := by decide +kernel
theorem dX9_oldestCopy_24 : decode cX9_oldestCopy 24 = .ok (.invokestatic 40, 3) := by decide +kernel
theorem dX9_oldestCopy_27 : decode cX9_oldestCopy 27 = .ok (.iconst 3, 1) := by decide +kernel
theorem dX9_oldestCopy_28 : decode cX9_oldestCopy 28 = .ok (.iadd, 1) := by decide +kernel
theorem dX9_oldestCopy_29 : decode cX9_oldestCopy 29 = .ok (.iaload, 1) := by decide +kernel
theorem dX9_oldestCopy_30 : decode cX9_oldestCopy 30 = .ok (.aload_n 0, 1) := by decide +kernel
theorem dX9_oldestCopy_31 : decode cX9_oldestCopy 31 = .ok (.getfield 7, 3) := by decide +kernel
theorem dX9_oldestCopy_34 : decode cX9_oldestCopy 34 = .ok (.iload_n 2, 1) := by decide +kernel
theorem dX9_oldestCopy_35 : decode cX9_oldestCopy 35 = .ok (.iconst 3, 1) := by decide +kernel
theorem dX9_oldestCopy_36 : decode cX9_oldestCopy 36 = .ok (.iadd, 1) := by decide +kernel
theorem dX9_oldestCopy_37 : decode cX9_oldestCopy 37 = .ok (.iaload, 1) := by decide +kernel
theorem dX9_oldestCopy_38 : decode cX9_oldestCopy 38 = .ok (.if_icmp .ge 11, 3) := by decide +kernel
theorem dX9_oldestCopy_41 : decode cX9_oldestCopy 41 = .ok (.iload_n 1, 1) := by decide +kernel
theorem dX9_oldestCopy_42 : decode cX9_oldestCopy 42 = .ok (.iload_n 3, 1) := by decide +kernel
theorem dX9_oldestCopy_43 : decode cX9_oldestCopy 43 = .ok (.invokestatic 40, 3) := by decide +kernel
theorem dX9_oldestCopy_46 : decode cX9_oldestCopy 46 = .ok (.goto 4, 3) := by decide +kernel
theorem dX9_oldestCopy_49 : decode cX9_oldestCopy 49 = .ok (.iload_n 2, 1) := by decide +kernel
theorem dX9_oldestCopy_50 : decode cX9_oldestCopy 50 = .ok (.istore_n 2, 1) := by decide +kernel
theorem dX9_oldestCopy_51 : decode cX9_oldestCopy 51 = .ok (.iinc 3 1, 3) := by decide +kernel
theorem dX9_oldestCopy_54 : decode cX9_oldestCopy 54 = .ok (.goto (-46), 3) := by decide +kernel
theorem dX9_oldestCopy_57 : decode cX9_oldestCopy 57 = .ok (.iload_n 2, 1) := by decide +kernel
theorem dX9_oldestCopy_58 : decode cX9_oldestCopy 58 = .ok (.ireturn, 1) := by decide +kernel
theorem dX9_pageOf_0 : decode cX9_pageOf 0 = .ok (.iconst 0, 1) := by decide +kernel
theorem dX9_pageOf_1 : decode cX9_pageOf 1 = .ok (.istore_n 2, 1) := by decide +kernel
theorem dX9_pageOf_2 : decode cX9_pageOf 2 = .ok (.iload_n 2, 1) := by decide +kernel
theorem dX9_pageOf_3 : decode cX9_pageOf 3 = .ok (.aload_n 0, 1) := by decide +kernel
theorem dX9_pageOf_4 : decode cX9_pageOf 4 = .ok (.getfield 7, 3) := by decide +kernel
theorem dX9_pageOf_7 : decode cX9_pageOf 7 = .ok (.iconst 3, 1) := by decide +kernel
theorem dX9_pageOf_8 : decode cX9_pageOf 8 = .ok (.iaload, 1) := by decide +kernel
theorem dX9_pageOf_9 : decode cX9_pageOf 9 = .ok (.if_icmp .ge 33, 3) := by decide +kernel
theorem dX9_pageOf_12 : decode cX9_pageOf 12 = .ok (.aload_n 0, 1) := by decide +kernel
theorem dX9_pageOf_13 : decode cX9_pageOf 13 = .ok (.getfield 7, 3) := by decide +kernel
theorem dX9_pageOf_16 : decode cX9_pageOf 16 = .ok (.sipush 302, 3) := by decide +kernel
theorem dX9_pageOf_19 : decode cX9_pageOf 19 = .ok (.iconst 4, 1) := by decide +kernel
theorem dX9_pageOf_20 : decode cX9_pageOf 20 = .ok (.iload_n 2, 1) := by decide +kernel
theorem dX9_pageOf_21 : decode cX9_pageOf 21 = .ok (.imul, 1) := by decide +kernel
theorem dX9_pageOf_22 : decode cX9_pageOf 22 = .ok (.iadd, 1) := by decide +kernel
theorem dX9_pageOf_23 : decode cX9_pageOf 23 = .ok (.iaload, 1) := by decide +kernel
theorem dX9_pageOf_24 : decode cX9_pageOf 24 = .ok (.iload_n 1, 1) := by decide +kernel
theorem dX9_pageOf_25 : decode cX9_pageOf 25 = .ok (.if_icmp .ne 11, 3) := by decide +kernel
theorem dX9_pageOf_28 : decode cX9_pageOf 28 = .ok (.sipush 302, 3) := by decide +kernel
theorem dX9_pageOf_31 : decode cX9_pageOf 31 = .ok (.iconst 4, 1) := by decide +kernel
theorem dX9_pageOf_32 : decode cX9_pageOf 32 = .ok (.iload_n 2, 1) := by decide +kernel
theorem dX9_pageOf_33 : decode cX9_pageOf 33 = .ok (.imul, 1) := by decide +kernel
theorem dX9_pageOf_34 : decode cX9_pageOf 34 = .ok (.iadd, 1) := by decide +kernel
theorem dX9_pageOf_35 : decode cX9_pageOf 35 = .ok (.ireturn, 1) := by decide +kernel
theorem dX9_pageOf_36 : decode cX9_pageOf 36 = .ok (.iinc 2 1, 3) := by decide +kernel
theorem dX9_pageOf_39 : decode cX9_pageOf 39 = .ok (.goto (-37), 3) := by decide +kernel
theorem dX9_pageOf_42 : decode cX9_pageOf 42 = .ok (.iconst (-1), 1) := by decide +kernel
theorem dX9_pageOf_43 : decode cX9_pageOf 43 = .ok (.ireturn, 1) := by decide +kernel
theorem dX9_oldestPage_0 : decode cX9_oldestPage 0 = .ok (.sipush 302, 3) := by decide +kernel
theorem dX9_oldestPage_3 : decode cX9_oldestPage 3 = .ok (.istore_n 1, 1) := by decide +kernel
theorem dX9_oldestPage_4 : decode cX9_oldestPage 4 = .ok (.iconst 1, 1) := by decide +kernel
theorem dX9_oldestPage_5 : decode cX9_oldestPage 5 = .ok (.istore_n 2, 1) := by decide +kernel
theorem dX9_oldestPage_6 : decode cX9_oldestPage 6 = .ok (.iload_n 2, 1) := by decide +kernel
theorem dX9_oldestPage_7 : decode cX9_oldestPage 7 = .ok (.aload_n 0, 1) := by decide +kernel
theorem dX9_oldestPage_8 : decode cX9_oldestPage 8 = .ok (.getfield 7, 3) := by decide +kernel
theorem dX9_oldestPage_11 : decode cX9_oldestPage 11 = .ok (.iconst 3, 1) := by decide +kernel
theorem dX9_oldestPage_12 : decode cX9_oldestPage 12 = .ok (.iaload, 1) := by decide +kernel
theorem dX9_oldestPage_13 : decode cX9_oldestPage 13 = .ok (.if_icmp .ge 46, 3) := by decide +kernel
theorem dX9_oldestPage_16 : decode cX9_oldestPage 16 = .ok (.aload_n 0, 1) := by decide +kernel
theorem dX9_oldestPage_17 : decode cX9_oldestPage 17 = .ok (.getfield 7, 3) := by decide +kernel
theorem dX9_oldestPage_20 : decode cX9_oldestPage 20 = .ok (.sipush 302, 3) := by decide +kernel
theorem dX9_oldestPage_23 : decode cX9_oldestPage 23 = .ok (.iconst 4, 1) := by decide +kernel
theorem dX9_oldestPage_24 : decode cX9_oldestPage 24 = .ok (.iload_n 2, 1) := by decide +kernel
theorem dX9_oldestPage_25 : decode cX9_oldestPage 25 = .ok (.imul, 1) := by decide +kernel
theorem dX9_oldestPage_26 : decode cX9_oldestPage 26 = .ok (.iadd, 1) := by decide +kernel
theorem dX9_oldestPage_27 : decode cX9_oldestPage 27 = .ok (.iconst 3, 1) := by decide +kernel
theorem dX9_oldestPage_28 : decode cX9_oldestPage 28 = .ok (.iadd, 1) := by decide +kernel
theorem dX9_oldestPage_29 : decode cX9_oldestPage 29 = .ok (.iaload, 1) := by decide +kernel
theorem dX9_oldestPage_30 : decode cX9_oldestPage 30 = .ok (.aload_n 0, 1) := by decide +kernel
theorem dX9_oldestPage_31 : decode cX9_oldestPage 31 = .ok (.getfield 7, 3) := by decide +kernel
theorem dX9_oldestPage_34 : decode cX9_oldestPage 34 = .ok (.iload_n 1, 1) := by decide +kernel
theorem dX9_oldestPage_35 : decode cX9_oldestPage 35 = .ok (.iconst 3, 1) := by decide +kernel
theorem dX9_oldestPage_36 : decode cX9_oldestPage 36 = .ok (.iadd, 1) := by decide +kernel
theorem dX9_oldestPage_37 : decode cX9_oldestPage 37 = .ok (.iaload, 1) := by decide +kernel
theorem dX9_oldestPage_38 : decode cX9_oldestPage 38 = .ok (.if_icmp .ge 13, 3) := by decide +kernel
theorem dX9_oldestPage_41 : decode cX9_oldestPage 41 = .ok (.sipush 302, 3) := by decide +kernel
theorem dX9_oldestPage_44 : decode cX9_oldestPage 44 = .ok (.iconst 4, 1) := by decide +kernel
theorem dX9_oldestPage_45 : decode cX9_oldestPage 45 = .ok (.iload_n 2, 1) := by decide +kernel
theorem dX9_oldestPage_46 : decode cX9_oldestPage 46 = .ok (.imul, 1) := by decide +kernel
theorem dX9_oldestPage_47 : decode cX9_oldestPage 47 = .ok (.iadd, 1) := by decide +kernel
theorem dX9_oldestPage_48 : decode cX9_oldestPage 48 = .ok (.goto 4, 3) := by decide +kernel
theorem dX9_oldestPage_51 : decode cX9_oldestPage 51 = .ok (.iload_n 1, 1) := by decide +kernel
theorem dX9_oldestPage_52 : decode cX9_oldestPage 52 = .ok (.istore_n 1, 1) := by decide +kernel
theorem dX9_oldestPage_53 : decode cX9_oldestPage 53 = .ok (.iinc 2 1, 3) := by decide +kernel
theorem dX9_oldestPage_56 : decode cX9_oldestPage 56 = .ok (.goto (-50), 3) := by decide +kernel
theorem dX9_oldestPage_59 : decode cX9_oldestPage 59 = .ok (.iload_n 1, 1) := by decide +kernel
theorem dX9_oldestPage_60 : decode cX9_oldestPage 60 = .ok (.ireturn, 1) := by decide +kernel
theorem dX9_tearOut_0 : decode cX9_tearOut 0 = .ok (.aload_n 0, 1) := by decide +kernel
theorem dX9_tearOut_1 : decode cX9_tearOut 1 = .ok (.getfield 7, 3) := by decide +kernel
theorem dX9_tearOut_4 : decode cX9_tearOut 4 = .ok (.iload_n 1, 1) := by decide +kernel
theorem dX9_tearOut_5 : decode cX9_tearOut 5 = .ok (.iconst 1, 1) := by decide +kernel
theorem dX9_tearOut_6 : decode cX9_tearOut 6 = .ok (.iadd, 1) := by decide +kernel
theorem dX9_tearOut_7 : decode cX9_tearOut 7 = .ok (.iaload, 1) := by decide +kernel
theorem dX9_tearOut_8 : decode cX9_tearOut 8 = .ok (.ifCond .ge 14, 3) := by decide +kernel
theorem dX9_tearOut_11 : decode cX9_tearOut 11 = .ok (.aload_n 0, 1) := by decide +kernel
theorem dX9_tearOut_12 : decode cX9_tearOut 12 = .ok (.getfield 7, 3) := by decide +kernel
theorem dX9_tearOut_15 : decode cX9_tearOut 15 = .ok (.iload_n 1, 1) := by decide +kernel
theorem dX9_tearOut_16 : decode cX9_tearOut 16 = .ok (.iconst 2, 1) := by decide +kernel
theorem dX9_tearOut_17 : decode cX9_tearOut 17 = .ok (.iadd, 1) := by decide +kernel
theorem dX9_tearOut_18 : decode cX9_tearOut 18 = .ok (.iaload, 1) := by decide +kernel
theorem dX9_tearOut_19 : decode cX9_tearOut 19 = .ok (.ifCond .eq 18, 3) := by decide +kernel
theorem dX9_tearOut_22 : decode cX9_tearOut 22 = .ok (.aload_n 0, 1) := by decide +kernel
theorem dX9_tearOut_23 : decode cX9_tearOut 23 = .ok (.getfield 7, 3) := by decide +kernel
theorem dX9_tearOut_26 : decode cX9_tearOut 26 = .ok (.bipush 78, 2) := by decide +kernel
theorem dX9_tearOut_28 : decode cX9_tearOut 28 = .ok (.aload_n 0, 1) := by decide +kernel
theorem dX9_tearOut_29 : decode cX9_tearOut 29 = .ok (.getfield 7, 3) := by decide +kernel
theorem dX9_tearOut_32 : decode cX9_tearOut 32 = .ok (.iload_n 1, 1) := by decide +kernel
theorem dX9_tearOut_33 : decode cX9_tearOut 33 = .ok (.iaload, 1) := by decide +kernel
theorem dX9_tearOut_34 : decode cX9_tearOut 34 = .ok (.iadd, 1) := by decide +kernel
theorem dX9_tearOut_35 : decode cX9_tearOut 35 = .ok (.iconst 1, 1) := by decide +kernel
theorem dX9_tearOut_36 : decode cX9_tearOut 36 = .ok (.iastore, 1) := by decide +kernel
theorem dX9_tearOut_37 : decode cX9_tearOut 37 = .ok (.aload_n 0, 1) := by decide +kernel
theorem dX9_tearOut_38 : decode cX9_tearOut 38 = .ok (.getfield 7, 3) := by decide +kernel
theorem dX9_tearOut_41 : decode cX9_tearOut 41 = .ok (.bipush 10, 2) := by decide +kernel
theorem dX9_tearOut_43 : decode cX9_tearOut 43 = .ok (.dup2, 1) := by decide +kernel
theorem dX9_tearOut_44 : decode cX9_tearOut 44 = .ok (.iaload, 1) := by decide +kernel
theorem dX9_tearOut_45 : decode cX9_tearOut 45 = .ok (.iconst 1, 1) := by decide +kernel
theorem dX9_tearOut_46 : decode cX9_tearOut 46 = .ok (.iadd, 1) := by decide +kernel
theorem dX9_tearOut_47 : decode cX9_tearOut 47 = .ok (.iastore, 1) := by decide +kernel
theorem dX9_tearOut_48 : decode cX9_tearOut 48 = .ok (.aload_n 0, 1) := by decide +kernel
theorem dX9_tearOut_49 : decode cX9_tearOut 49 = .ok (.getfield 7, 3) := by decide +kernel
theorem dX9_tearOut_52 : decode cX9_tearOut 52 = .ok (.iconst 3, 1) := by decide +kernel
theorem dX9_tearOut_53 : decode cX9_tearOut 53 = .ok (.dup2, 1) := by decide +kernel
theorem dX9_tearOut_54 : decode cX9_tearOut 54 = .ok (.iaload, 1) := by decide +kernel
theorem dX9_tearOut_55 : decode cX9_tearOut 55 = .ok (.iconst 1, 1) := by decide +kernel
theorem dX9_tearOut_56 : decode cX9_tearOut 56 = .ok (.isub, 1) := by decide +kernel
theorem dX9_tearOut_57 : decode cX9_tearOut 57 = .ok (.iastore, 1) := by decide +kernel
theorem dX9_tearOut_58 : decode cX9_tearOut 58 = .ok (.iconst 0, 1) := by decide +kernel
theorem dX9_tearOut_59 : decode cX9_tearOut 59 = .ok (.istore_n 2, 1) := by decide +kernel
theorem dX9_tearOut_60 : decode cX9_tearOut 60 = .ok (.iload_n 2, 1) := by decide +kernel
theorem dX9_tearOut_61 : decode cX9_tearOut 61 = .ok (.iconst 4, 1) := by decide +kernel
theorem dX9_tearOut_62 : decode cX9_tearOut 62 = .ok (.if_icmp .ge 36, 3) := by decide +kernel
theorem dX9_tearOut_65 : decode cX9_tearOut 65 = .ok (.aload_n 0, 1) := by decide +kernel
theorem dX9_tearOut_66 : decode cX9_tearOut 66 = .ok (.getfield 7, 3) := by decide +kernel
theorem dX9_tearOut_69 : decode cX9_tearOut 69 = .ok (.iload_n 1, 1) := by decide +kernel
theorem dX9_tearOut_70 : decode cX9_tearOut 70 = .ok (.iload_n 2, 1) := by decide +kernel
theorem dX9_tearOut_71 : decode cX9_tearOut 71 = .ok (.iadd, 1) := by decide +kernel
theorem dX9_tearOut_72 : decode cX9_tearOut 72 = .ok (.aload_n 0, 1) := by decide +kernel
theorem dX9_tearOut_73 : decode cX9_tearOut 73 = .ok (.getfield 7, 3) := by decide +kernel
theorem dX9_tearOut_76 : decode cX9_tearOut 76 = .ok (.sipush 302, 3) := by decide +kernel
theorem dX9_tearOut_79 : decode cX9_tearOut 79 = .ok (.iconst 4, 1) := by decide +kernel
theorem dX9_tearOut_80 : decode cX9_tearOut 80 = .ok (.aload_n 0, 1) := by decide +kernel
theorem dX9_tearOut_81 : decode cX9_tearOut 81 = .ok (.getfield 7, 3) := by decide +kernel
theorem dX9_tearOut_84 : decode cX9_tearOut 84 = .ok (.iconst 3, 1) := by decide +kernel
theorem dX9_tearOut_85 : decode cX9_tearOut 85 = .ok (.iaload, 1) := by decide +kernel
theorem dX9_tearOut_86 : decode cX9_tearOut 86 = .ok (.imul, 1) := by decide +kernel
theorem dX9_tearOut_87 : decode cX9_tearOut 87 = .ok (.iadd, 1) := by decide +kernel
theorem dX9_tearOut_88 : decode cX9_tearOut 88 = .ok (.iload_n 2, 1) := by decide +kernel
theorem dX9_tearOut_89 : decode cX9_tearOut 89 = .ok (.iadd, 1) := by decide +kernel
theorem dX9_tearOut_90 : decode cX9_tearOut 90 = .ok (.iaload, 1) := by decide +kernel
theorem dX9_tearOut_91 : decode cX9_tearOut 91 = .ok (.iastore, 1) := by decide +kernel
theorem dX9_tearOut_92 : decode cX9_tearOut 92 = .ok (.iinc 2 1, 3) := by decide +kernel
theorem dX9_tearOut_95 : decode cX9_tearOut 95 = .ok (.goto (-35), 3) := by decide +kernel
theorem dX9_tearOut_98 : decode cX9_tearOut 98 = .ok (.return_, 1) := by decide +kernel
theorem dX9_toMemory_0 : decode cX9_toMemory 0 = .ok (.aload_n 0, 1) := by decide +kernel
theorem dX9_toMemory_1 : decode cX9_toMemory 1 = .ok (.getfield 7, 3) := by decide +kernel
theorem dX9_toMemory_4 : decode cX9_toMemory 4 = .ok (.bipush 14, 2) := by decide +kernel
theorem dX9_toMemory_6 : decode cX9_toMemory 6 = .ok (.aload_n 0, 1) := by decide +kernel
theorem dX9_toMemory_7 : decode cX9_toMemory 7 = .ok (.getfield 7, 3) := by decide +kernel
theorem dX9_toMemory_10 : decode cX9_toMemory 10 = .ok (.iload_n 1, 1) := by decide +kernel
theorem dX9_toMemory_11 : decode cX9_toMemory 11 = .ok (.iaload, 1) := by decide +kernel
theorem dX9_toMemory_12 : decode cX9_toMemory 12 = .ok (.iadd, 1) := by decide +kernel
theorem dX9_toMemory_13 : decode cX9_toMemory 13 = .ok (.aload_n 0, 1) := by decide +kernel
theorem dX9_toMemory_14 : decode cX9_toMemory 14 = .ok (.getfield 7, 3) := by decide +kernel
theorem dX9_toMemory_17 : decode cX9_toMemory 17 = .ok (.iload_n 1, 1) := by decide +kernel
theorem dX9_toMemory_18 : decode cX9_toMemory 18 = .ok (.iconst 2, 1) := by decide +kernel
theorem dX9_toMemory_19 : decode cX9_toMemory 19 = .ok (.iadd, 1) := by decide +kernel
theorem dX9_toMemory_20 : decode cX9_toMemory 20 = .ok (.iaload, 1) := by decide +kernel
theorem dX9_toMemory_21 : decode cX9_toMemory 21 = .ok (.iastore, 1) := by decide +kernel
theorem dX9_toMemory_22 : decode cX9_toMemory 22 = .ok (.aload_n 0, 1) := by decide +kernel
theorem dX9_toMemory_23 : decode cX9_toMemory 23 = .ok (.getfield 7, 3) := by decide +kernel
theorem dX9_toMemory_26 : decode cX9_toMemory 26 = .ok (.bipush 11, 2) := by decide +kernel
theorem dX9_toMemory_28 : decode cX9_toMemory 28 = .ok (.dup2, 1) := by decide +kernel
theorem dX9_toMemory_29 : decode cX9_toMemory 29 = .ok (.iaload, 1) := by decide +kernel
theorem dX9_toMemory_30 : decode cX9_toMemory 30 = .ok (.iconst 1, 1) := by decide +kernel
theorem dX9_toMemory_31 : decode cX9_toMemory 31 = .ok (.iadd, 1) := by decide +kernel
theorem dX9_toMemory_32 : decode cX9_toMemory 32 = .ok (.iastore, 1) := by decide +kernel
theorem dX9_toMemory_33 : decode cX9_toMemory 33 = .ok (.return_, 1) := by decide +kernel
theorem dX9_throwAway_0 : decode cX9_throwAway 0 = .ok (.aload_n 0, 1) := by decide +kernel
theorem dX9_throwAway_1 : decode cX9_throwAway 1 = .ok (.getfield 7, 3) := by decide +kernel
theorem dX9_throwAway_4 : decode cX9_throwAway 4 = .ok (.iload_n 2, 1) := by decide +kernel
theorem dX9_throwAway_5 : decode cX9_throwAway 5 = .ok (.iconst 1, 1) := by decide +kernel
theorem dX9_throwAway_6 : decode cX9_throwAway 6 = .ok (.iadd, 1) := by decide +kernel
theorem dX9_throwAway_7 : decode cX9_throwAway 7 = .ok (.iaload, 1) := by decide +kernel
theorem dX9_throwAway_8 : decode cX9_throwAway 8 = .ok (.iconst 2, 1) := by decide +kernel
theorem dX9_throwAway_9 : decode cX9_throwAway 9 = .ok (.if_icmp .ne 7, 3) := by decide +kernel
theorem dX9_throwAway_12 : decode cX9_throwAway 12 = .ok (.iconst 1, 1) := by decide +kernel
theorem dX9_throwAway_13 : decode cX9_throwAway 13 = .ok (.goto 4, 3) := by decide +kernel
theorem dX9_throwAway_16 : decode cX9_throwAway 16 = .ok (.iconst 0, 1) := by decide +kernel
theorem dX9_throwAway_17 : decode cX9_throwAway 17 = .ok (.istore_n 3, 1) := by decide +kernel
theorem dX9_throwAway_18 : decode cX9_throwAway 18 = .ok (.iload_n 3, 1) := by decide +kernel
theorem dX9_throwAway_19 : decode cX9_throwAway 19 = .ok (.ifCond .eq 8, 3) := by decide +kernel
theorem dX9_throwAway_22 : decode cX9_throwAway 22 = .ok (.aload_n 0, 1) := by decide +kernel
theorem dX9_throwAway_23 : decode cX9_throwAway 23 = .ok (.iload_n 2, 1) := by decide +kernel
theorem dX9_throwAway_24 : decode cX9_throwAway 24 = .ok (.invokevirtual 44, 3) := by decide +kernel
theorem dX9_throwAway_27 : decode cX9_throwAway 27 = .ok (.aload_n 0, 1) := by decide +kernel
theorem dX9_throwAway_28 : decode cX9_throwAway 28 = .ok (.aload_n 0, 1) := by decide +kernel
theorem dX9_throwAway_29 : decode cX9_throwAway 29 = .ok (.getfield 7, 3) := by decide +kernel
theorem dX9_throwAway_32 : decode cX9_throwAway 32 = .ok (.iload_n 2, 1) := by decide +kernel
theorem dX9_throwAway_33 : decode cX9_throwAway 33 = .ok (.iaload, 1) := by decide +kernel
theorem dX9_throwAway_34 : decode cX9_throwAway 34 = .ok (.invokevirtual 48, 3) := by decide +kernel
theorem dX9_throwAway_37 : decode cX9_throwAway 37 = .ok (.istore 4, 2) := by decide +kernel
theorem dX9_throwAway_39 : decode cX9_throwAway 39 = .ok (.iload 4, 2) := by decide +kernel
theorem dX9_throwAway_41 : decode cX9_throwAway 41 = .ok (.ifCond .lt 55, 3) := by decide +kernel
theorem dX9_throwAway_44 : decode cX9_throwAway 44 = .ok (.aload_n 0, 1) := by decide +kernel
theorem dX9_throwAway_45 : decode cX9_throwAway 45 = .ok (.getfield 7, 3) := by decide +kernel
theorem dX9_throwAway_48 : decode cX9_throwAway 48 = .ok (.iload 4, 2) := by decide +kernel
theorem dX9_throwAway_50 : decode cX9_throwAway 50 = .ok (.iconst 1, 1) := by decide +kernel
theorem dX9_throwAway_51 : decode cX9_throwAway 51 = .ok (.iadd, 1) := by decide +kernel
theorem dX9_throwAway_52 : decode cX9_throwAway 52 = .ok (.aload_n 0, 1) := by decide +kernel
theorem dX9_throwAway_53 : decode cX9_throwAway 53 = .ok (.getfield 7, 3) := by decide +kernel
theorem dX9_throwAway_56 : decode cX9_throwAway 56 = .ok (.iload 4, 2) := by decide +kernel
theorem dX9_throwAway_58 : decode cX9_throwAway 58 = .ok (.iconst 1, 1) := by decide +kernel
theorem dX9_throwAway_59 : decode cX9_throwAway 59 = .ok (.iadd, 1) := by decide +kernel
theorem dX9_throwAway_60 : decode cX9_throwAway 60 = .ok (.iaload, 1) := by decide +kernel
theorem dX9_throwAway_61 : decode cX9_throwAway 61 = .ok (.iload_n 1, 1) := by decide +kernel
theorem dX9_throwAway_62 : decode cX9_throwAway 62 = .ok (.if_icmp .ne 7, 3) := by decide +kernel
theorem dX9_throwAway_65 : decode cX9_throwAway 65 = .ok (.iconst (-1), 1) := by decide +kernel
theorem dX9_throwAway_66 : decode cX9_throwAway 66 = .ok (.goto 12, 3) := by decide +kernel
theorem dX9_throwAway_69 : decode cX9_throwAway 69 = .ok (.aload_n 0, 1) := by decide +kernel
theorem dX9_throwAway_70 : decode cX9_throwAway 70 = .ok (.getfield 7, 3) := by decide +kernel
theorem dX9_throwAway_73 : decode cX9_throwAway 73 = .ok (.iload 4, 2) := by decide +kernel
theorem dX9_throwAway_75 : decode cX9_throwAway 75 = .ok (.iconst 1, 1) := by decide +kernel
theorem dX9_throwAway_76 : decode cX9_throwAway 76 = .ok (.iadd, 1) := by decide +kernel
theorem dX9_throwAway_77 : decode cX9_throwAway 77 = .ok (.iaload, 1) := by decide +kernel
theorem dX9_throwAway_78 : decode cX9_throwAway 78 = .ok (.iastore, 1) := by decide +kernel
theorem dX9_throwAway_79 : decode cX9_throwAway 79 = .ok (.aload_n 0, 1) := by decide +kernel
theorem dX9_throwAway_80 : decode cX9_throwAway 80 = .ok (.getfield 7, 3) := by decide +kernel
theorem dX9_throwAway_83 : decode cX9_throwAway 83 = .ok (.iload 4, 2) := by decide +kernel
theorem dX9_throwAway_85 : decode cX9_throwAway 85 = .ok (.iconst 2, 1) := by decide +kernel
theorem dX9_throwAway_86 : decode cX9_throwAway 86 = .ok (.iadd, 1) := by decide +kernel
theorem dX9_throwAway_87 : decode cX9_throwAway 87 = .ok (.dup2, 1) := by decide +kernel
theorem dX9_throwAway_88 : decode cX9_throwAway 88 = .ok (.iaload, 1) := by decide +kernel
theorem dX9_throwAway_89 : decode cX9_throwAway 89 = .ok (.iconst 1, 1) := by decide +kernel
theorem dX9_throwAway_90 : decode cX9_throwAway 90 = .ok (.iload_n 1, 1) := by decide +kernel
theorem dX9_throwAway_91 : decode cX9_throwAway 91 = .ok (.ishl, 1) := by decide +kernel
theorem dX9_throwAway_92 : decode cX9_throwAway 92 = .ok (.iconst (-1), 1) := by decide +kernel
theorem dX9_throwAway_93 : decode cX9_throwAway 93 = .ok (.ixor, 1) := by decide +kernel
theorem dX9_throwAway_94 : decode cX9_throwAway 94 = .ok (.iand, 1) := by decide +kernel
theorem dX9_throwAway_95 : decode cX9_throwAway 95 = .ok (.iastore, 1) := by decide +kernel
theorem dX9_throwAway_96 : decode cX9_throwAway 96 = .ok (.aload_n 0, 1) := by decide +kernel
theorem dX9_throwAway_97 : decode cX9_throwAway 97 = .ok (.getfield 7, 3) := by decide +kernel
theorem dX9_throwAway_100 : decode cX9_throwAway 100 = .ok (.iload_n 2, 1) := by decide +kernel
theorem dX9_throwAway_101 : decode cX9_throwAway 101 = .ok (.iconst (-1), 1) := by decide +kernel
theorem dX9_throwAway_102 : decode cX9_throwAway 102 = .ok (.iastore, 1) := by decide +kernel
theorem dX9_throwAway_103 : decode cX9_throwAway 103 = .ok (.iload_n 3, 1) := by decide +kernel
theorem dX9_throwAway_104 : decode cX9_throwAway 104 = .ok (.ifCond .eq 7, 3) := by decide +kernel
theorem dX9_throwAway_107 : decode cX9_throwAway 107 = .ok (.iconst 1, 1) := by decide +kernel
theorem dX9_throwAway_108 : decode cX9_throwAway 108 = .ok (.goto 4, 3) := by decide +kernel
theorem dX9_throwAway_111 : decode cX9_throwAway 111 = .ok (.iconst 0, 1) := by decide +kernel
theorem dX9_throwAway_112 : decode cX9_throwAway 112 = .ok (.ireturn, 1) := by decide +kernel
theorem dX9_ownerOf_0 : decode cX9_ownerOf 0 = .ok (.iconst 0, 1) := by decide +kernel
theorem dX9_ownerOf_1 : decode cX9_ownerOf 1 = .ok (.istore_n 2, 1) := by decide +kernel
theorem dX9_ownerOf_2 : decode cX9_ownerOf 2 = .ok (.iload_n 2, 1) := by decide +kernel
theorem dX9_ownerOf_3 : decode cX9_ownerOf 3 = .ok (.aload_n 0, 1) := by decide +kernel
theorem dX9_ownerOf_4 : decode cX9_ownerOf 4 = .ok (.getfield 7, 3) := by decide +kernel
theorem dX9_ownerOf_7 : decode cX9_ownerOf 7 = .ok (.iconst 0, 1) := by decide +kernel
theorem dX9_ownerOf_8 : decode cX9_ownerOf 8 = .ok (.iaload, 1) := by decide +kernel
theorem dX9_ownerOf_9 : decode cX9_ownerOf 9 = .ok (.if_icmp .ge 34, 3) := by decide +kernel
theorem dX9_ownerOf_12 : decode cX9_ownerOf 12 = .ok (.aload_n 0, 1) := by decide +kernel
theorem dX9_ownerOf_13 : decode cX9_ownerOf 13 = .ok (.iload_n 2, 1) := by decide +kernel
theorem dX9_ownerOf_14 : decode cX9_ownerOf 14 = .ok (.iload_n 1, 1) := by decide +kernel
theorem dX9_ownerOf_15 : decode cX9_ownerOf 15 = .ok (.invokevirtual 52, 3) := by decide +kernel
theorem dX9_ownerOf_18 : decode cX9_ownerOf 18 = .ok (.istore_n 3, 1) := by decide +kernel
theorem dX9_ownerOf_19 : decode cX9_ownerOf 19 = .ok (.iload_n 3, 1) := by decide +kernel
theorem dX9_ownerOf_20 : decode cX9_ownerOf 20 = .ok (.ifCond .lt 17, 3) := by decide +kernel
theorem dX9_ownerOf_23 : decode cX9_ownerOf 23 = .ok (.aload_n 0, 1) := by decide +kernel
theorem dX9_ownerOf_24 : decode cX9_ownerOf 24 = .ok (.getfield 7, 3) := by decide +kernel
theorem dX9_ownerOf_27 : decode cX9_ownerOf 27 = .ok (.iload_n 3, 1) := by decide +kernel
theorem dX9_ownerOf_28 : decode cX9_ownerOf 28 = .ok (.iconst 1, 1) := by decide +kernel
theorem dX9_ownerOf_29 : decode cX9_ownerOf 29 = .ok (.iadd, 1) := by decide +kernel
theorem dX9_ownerOf_30 : decode cX9_ownerOf 30 = .ok (.iaload, 1) := by decide +kernel
theorem dX9_ownerOf_31 : decode cX9_ownerOf 31 = .ok (.iconst 2, 1) := by decide +kernel
theorem dX9_ownerOf_32 : decode cX9_ownerOf 32 = .ok (.if_icmp .ne 5, 3) := by decide +kernel
theorem dX9_ownerOf_35 : decode cX9_ownerOf 35 = .ok (.iload_n 2, 1) := by decide +kernel
theorem dX9_ownerOf_36 : decode cX9_ownerOf 36 = .ok (.ireturn, 1) := by decide +kernel
theorem dX9_ownerOf_37 : decode cX9_ownerOf 37 = .ok (.iinc 2 1, 3) := by decide +kernel
theorem dX9_ownerOf_40 : decode cX9_ownerOf 40 = .ok (.goto (-38), 3) := by decide +kernel
theorem dX9_ownerOf_43 : decode cX9_ownerOf 43 = .ok (.iconst (-1), 1) := by decide +kernel
theorem dX9_ownerOf_44 : decode cX9_ownerOf 44 = .ok (.ireturn, 1) := by decide +kernel
theorem dX9_sharersOf_0 : decode cX9_sharersOf 0 = .ok (.iconst 0, 1) := by decide +kernel
theorem dX9_sharersOf_1 : decode cX9_sharersOf 1 = .ok (.istore_n 2, 1) := by decide +kernel
theorem dX9_sharersOf_2 : decode cX9_sharersOf 2 = .ok (.iconst 0, 1) := by decide +kernel
theorem dX9_sharersOf_3 : decode cX9_sharersOf 3 = .ok (.istore_n 3, 1) := by decide +kernel
theorem dX9_sharersOf_4 : decode cX9_sharersOf 4 = .ok (.iload_n 3, 1) := by decide +kernel
theorem dX9_sharersOf_5 : decode cX9_sharersOf 5 = .ok (.aload_n 0, 1) := by decide +kernel
theorem dX9_sharersOf_6 : decode cX9_sharersOf 6 = .ok (.getfield 7, 3) := by decide +kernel
theorem dX9_sharersOf_9 : decode cX9_sharersOf 9 = .ok (.iconst 0, 1) := by decide +kernel
theorem dX9_sharersOf_10 : decode cX9_sharersOf 10 = .ok (.iaload, 1) := by decide +kernel
theorem dX9_sharersOf_11 : decode cX9_sharersOf 11 = .ok (.if_icmp .ge 45, 3) := by decide +kernel
theorem dX9_sharersOf_14 : decode cX9_sharersOf 14 = .ok (.aload_n 0, 1) := by decide +kernel
theorem dX9_sharersOf_15 : decode cX9_sharersOf 15 = .ok (.iload_n 3, 1) := by decide +kernel
theorem dX9_sharersOf_16 : decode cX9_sharersOf 16 = .ok (.iload_n 1, 1) := by decide +kernel
theorem dX9_sharersOf_17 : decode cX9_sharersOf 17 = .ok (.invokevirtual 52, 3) := by decide +kernel
theorem dX9_sharersOf_20 : decode cX9_sharersOf 20 = .ok (.istore 4, 2) := by decide +kernel
theorem dX9_sharersOf_22 : decode cX9_sharersOf 22 = .ok (.iload_n 2, 1) := by decide +kernel
theorem dX9_sharersOf_23 : decode cX9_sharersOf 23 = .ok (.iload 4, 2) := by decide +kernel
theorem dX9_sharersOf_25 : decode cX9_sharersOf 25 = .ok (.ifCond .lt 22, 3) := by decide +kernel
theorem dX9_sharersOf_28 : decode cX9_sharersOf 28 = .ok (.aload_n 0, 1) := by decide +kernel
theorem dX9_sharersOf_29 : decode cX9_sharersOf 29 = .ok (.getfield 7, 3) := by decide +kernel
theorem dX9_sharersOf_32 : decode cX9_sharersOf 32 = .ok (.iload 4, 2) := by decide +kernel
theorem dX9_sharersOf_34 : decode cX9_sharersOf 34 = .ok (.iconst 1, 1) := by decide +kernel
theorem dX9_sharersOf_35 : decode cX9_sharersOf 35 = .ok (.iadd, 1) := by decide +kernel
theorem dX9_sharersOf_36 : decode cX9_sharersOf 36 = .ok (.iaload, 1) := by decide +kernel
theorem dX9_sharersOf_37 : decode cX9_sharersOf 37 = .ok (.iconst 1, 1) := by decide +kernel
theorem dX9_sharersOf_38 : decode cX9_sharersOf 38 = .ok (.if_icmp .ne 9, 3) := by decide +kernel
theorem dX9_sharersOf_41 : decode cX9_sharersOf 41 = .ok (.iconst 1, 1) := by decide +kernel
theorem dX9_sharersOf_42 : decode cX9_sharersOf 42 = .ok (.iload_n 3, 1) := by decide +kernel
theorem dX9_sharersOf_43 : decode cX9_sharersOf 43 = .ok (.ishl, 1) := by decide +kernel
theorem dX9_sharersOf_44 : decode cX9_sharersOf 44 = .ok (.goto 4, 3) := by decide +kernel
theorem dX9_sharersOf_47 : decode cX9_sharersOf 47 = .ok (.iconst 0, 1) := by decide +kernel
theorem dX9_sharersOf_48 : decode cX9_sharersOf 48 = .ok (.ior, 1) := by decide +kernel
theorem dX9_sharersOf_49 : decode cX9_sharersOf 49 = .ok (.istore_n 2, 1) := by decide +kernel
theorem dX9_sharersOf_50 : decode cX9_sharersOf 50 = .ok (.iinc 3 1, 3) := by decide +kernel
theorem dX9_sharersOf_53 : decode cX9_sharersOf 53 = .ok (.goto (-49), 3) := by decide +kernel
theorem dX9_sharersOf_56 : decode cX9_sharersOf 56 = .ok (.iload_n 2, 1) := by decide +kernel
theorem dX9_sharersOf_57 : decode cX9_sharersOf 57 = .ok (.ireturn, 1) := by decide +kernel
theorem dX9_isHit_0 : decode cX9_isHit 0 = .ok (.aload_n 0, 1) := by decide +kernel
theorem dX9_isHit_1 : decode cX9_isHit 1 = .ok (.iload_n 1, 1) := by decide +kernel
theorem dX9_isHit_2 : decode cX9_isHit 2 = .ok (.iload_n 2, 1) := by decide +kernel
theorem dX9_isHit_3 : decode cX9_isHit 3 = .ok (.invokevirtual 52, 3) := by decide +kernel
theorem dX9_isHit_6 : decode cX9_isHit 6 = .ok (.istore 4, 2) := by decide +kernel
theorem dX9_isHit_8 : decode cX9_isHit 8 = .ok (.iload 4, 2) := by decide +kernel
theorem dX9_isHit_10 : decode cX9_isHit 10 = .ok (.ifCond .lt 24, 3) := by decide +kernel
theorem dX9_isHit_13 : decode cX9_isHit 13 = .ok (.iload_n 3, 1) := by decide +kernel
theorem dX9_isHit_14 : decode cX9_isHit 14 = .ok (.ifCond .eq 16, 3) := by decide +kernel
theorem dX9_isHit_17 : decode cX9_isHit 17 = .ok (.aload_n 0, 1) := by decide +kernel
theorem dX9_isHit_18 : decode cX9_isHit 18 = .ok (.getfield 7, 3) := by decide +kernel
theorem dX9_isHit_21 : decode cX9_isHit 21 = .ok (.iload 4, 2) := by decide +kernel
theorem dX9_isHit_23 : decode cX9_isHit 23 = .ok (.iconst 1, 1) := by decide +kernel
theorem dX9_isHit_24 : decode cX9_isHit 24 = .ok (.iadd, 1) := by decide +kernel
theorem dX9_isHit_25 : decode cX9_isHit 25 = .ok (.iaload, 1) := by decide +kernel
theorem dX9_isHit_26 : decode cX9_isHit 26 = .ok (.iconst 2, 1) := by decide +kernel
theorem dX9_isHit_27 : decode cX9_isHit 27 = .ok (.if_icmp .ne 7, 3) := by decide +kernel
theorem dX9_isHit_30 : decode cX9_isHit 30 = .ok (.iconst 1, 1) := by decide +kernel
theorem dX9_isHit_31 : decode cX9_isHit 31 = .ok (.goto 4, 3) := by decide +kernel
theorem dX9_isHit_34 : decode cX9_isHit 34 = .ok (.iconst 0, 1) := by decide +kernel
theorem dX9_isHit_35 : decode cX9_isHit 35 = .ok (.ireturn, 1) := by decide +kernel
theorem dX9_opensPage_0 : decode cX9_opensPage 0 = .ok (.aload_n 0, 1) := by decide +kernel
theorem dX9_opensPage_1 : decode cX9_opensPage 1 = .ok (.iload_n 1, 1) := by decide +kernel
theorem dX9_opensPage_2 : decode cX9_opensPage 2 = .ok (.invokevirtual 48, 3) := by decide +kernel
theorem dX9_opensPage_5 : decode cX9_opensPage 5 = .ok (.ifCond .lt 5, 3) := by decide +kernel
theorem dX9_opensPage_8 : decode cX9_opensPage 8 = .ok (.iconst 1, 1) := by decide +kernel
theorem dX9_opensPage_9 : decode cX9_opensPage 9 = .ok (.ireturn, 1) := by decide +kernel
theorem dX9_opensPage_10 : decode cX9_opensPage 10 = .ok (.aload_n 0, 1) := by decide +kernel
theorem dX9_opensPage_11 : decode cX9_opensPage 11 = .ok (.getfield 7, 3) := by decide +kernel
theorem dX9_opensPage_14 : decode cX9_opensPage 14 = .ok (.iconst 3, 1) := by decide +kernel
theorem dX9_opensPage_15 : decode cX9_opensPage 15 = .ok (.iaload, 1) := by decide +kernel
theorem dX9_opensPage_16 : decode cX9_opensPage 16 = .ok (.aload_n 0, 1) := by decide +kernel
theorem dX9_opensPage_17 : decode cX9_opensPage 17 = .ok (.getfield 7, 3) := by decide +kernel
theorem dX9_opensPage_20 : decode cX9_opensPage 20 = .ok (.iconst 2, 1) := by decide +kernel
theorem dX9_opensPage_21 : decode cX9_opensPage 21 = .ok (.iaload, 1) := by decide +kernel
theorem dX9_opensPage_22 : decode cX9_opensPage 22 = .ok (.if_icmp .ne 11, 3) := by decide +kernel
theorem dX9_opensPage_25 : decode cX9_opensPage 25 = .ok (.aload_n 0, 1) := by decide +kernel
theorem dX9_opensPage_26 : decode cX9_opensPage 26 = .ok (.aload_n 0, 1) := by decide +kernel
theorem dX9_opensPage_27 : decode cX9_opensPage 27 = .ok (.invokevirtual 55, 3) := by decide +kernel
theorem dX9_opensPage_30 : decode cX9_opensPage 30 = .ok (.invokevirtual 59, 3) := by decide +kernel
theorem dX9_opensPage_33 : decode cX9_opensPage 33 = .ok (.aload_n 0, 1) := by decide +kernel
theorem dX9_opensPage_34 : decode cX9_opensPage 34 = .ok (.getfield 7, 3) := by decide +kernel
theorem dX9_opensPage_37 : decode cX9_opensPage 37 = .ok (.bipush 78, 2) := by decide +kernel
theorem dX9_opensPage_39 : decode cX9_opensPage 39 = .ok (.iload_n 1, 1) := by decide +kernel
theorem dX9_opensPage_40 : decode cX9_opensPage 40 = .ok (.iadd, 1) := by decide +kernel
theorem dX9_opensPage_41 : decode cX9_opensPage 41 = .ok (.iaload, 1) := by decide +kernel
theorem dX9_opensPage_42 : decode cX9_opensPage 42 = .ok (.iconst 1, 1) := by decide +kernel
theorem dX9_opensPage_43 : decode cX9_opensPage 43 = .ok (.if_icmp .ne 7, 3) := by decide +kernel
theorem dX9_opensPage_46 : decode cX9_opensPage 46 = .ok (.iconst 1, 1) := by decide +kernel
theorem dX9_opensPage_47 : decode cX9_opensPage 47 = .ok (.goto 4, 3) := by decide +kernel
theorem dX9_opensPage_50 : decode cX9_opensPage 50 = .ok (.iconst 0, 1) := by decide +kernel
theorem dX9_opensPage_51 : decode cX9_opensPage 51 = .ok (.istore_n 2, 1) := by decide +kernel
theorem dX9_opensPage_52 : decode cX9_opensPage 52 = .ok (.sipush 302, 3) := by decide +kernel
theorem dX9_opensPage_55 : decode cX9_opensPage 55 = .ok (.iconst 4, 1) := by decide +kernel
theorem dX9_opensPage_56 : decode cX9_opensPage 56 = .ok (.aload_n 0, 1) := by decide +kernel
theorem dX9_opensPage_57 : decode cX9_opensPage 57 = .ok (.getfield 7, 3) := by decide +kernel
theorem dX9_opensPage_60 : decode cX9_opensPage 60 = .ok (.iconst 3, 1) := by decide +kernel
theorem dX9_opensPage_61 : decode cX9_opensPage 61 = .ok (.iaload, 1) := by decide +kernel
theorem dX9_opensPage_62 : decode cX9_opensPage 62 = .ok (.imul, 1) := by decide +kernel
theorem dX9_opensPage_63 : decode cX9_opensPage 63 = .ok (.iadd, 1) := by decide +kernel
theorem dX9_opensPage_64 : decode cX9_opensPage 64 = .ok (.istore_n 3, 1) := by decide +kernel
theorem dX9_opensPage_65 : decode cX9_opensPage 65 = .ok (.aload_n 0, 1) := by decide +kernel
theorem dX9_opensPage_66 : decode cX9_opensPage 66 = .ok (.getfield 7, 3) := by decide +kernel
theorem dX9_opensPage_69 : decode cX9_opensPage 69 = .ok (.iload_n 3, 1) := by decide +kernel
theorem dX9_opensPage_70 : decode cX9_opensPage 70 = .ok (.iload_n 1, 1) := by decide +kernel
theorem dX9_opensPage_71 : decode cX9_opensPage 71 = .ok (.iastore, 1) := by decide +kernel
theorem dX9_opensPage_72 : decode cX9_opensPage 72 = .ok (.aload_n 0, 1) := by decide +kernel
theorem dX9_opensPage_73 : decode cX9_opensPage 73 = .ok (.getfield 7, 3) := by decide +kernel
theorem dX9_opensPage_76 : decode cX9_opensPage 76 = .ok (.iload_n 3, 1) := by decide +kernel
theorem dX9_opensPage_77 : decode cX9_opensPage 77 = .ok (.iconst 1, 1) := by decide +kernel
theorem dX9_opensPage_78 : decode cX9_opensPage 78 = .ok (.iadd, 1) := by decide +kernel
theorem dX9_opensPage_79 : decode cX9_opensPage 79 = .ok (.iload_n 2, 1) := by decide +kernel
theorem dX9_opensPage_80 : decode cX9_opensPage 80 = .ok (.ifCond .eq 11, 3) := by decide +kernel
theorem dX9_opensPage_83 : decode cX9_opensPage 83 = .ok (.aload_n 0, 1) := by decide +kernel
theorem dX9_opensPage_84 : decode cX9_opensPage 84 = .ok (.iload_n 1, 1) := by decide +kernel
theorem dX9_opensPage_85 : decode cX9_opensPage 85 = .ok (.invokevirtual 62, 3) := by decide +kernel
theorem dX9_opensPage_88 : decode cX9_opensPage 88 = .ok (.goto 4, 3) := by decide +kernel
theorem dX9_opensPage_91 : decode cX9_opensPage 91 = .ok (.iconst (-1), 1) := by decide +kernel
theorem dX9_opensPage_92 : decode cX9_opensPage 92 = .ok (.iastore, 1) := by decide +kernel
theorem dX9_opensPage_93 : decode cX9_opensPage 93 = .ok (.aload_n 0, 1) := by decide +kernel
theorem dX9_opensPage_94 : decode cX9_opensPage 94 = .ok (.getfield 7, 3) := by decide +kernel
theorem dX9_opensPage_97 : decode cX9_opensPage 97 = .ok (.iload_n 3, 1) := by decide +kernel
theorem dX9_opensPage_98 : decode cX9_opensPage 98 = .ok (.iconst 2, 1) := by decide +kernel
theorem dX9_opensPage_99 : decode cX9_opensPage 99 = .ok (.iadd, 1) := by decide +kernel
theorem dX9_opensPage_100 : decode cX9_opensPage 100 = .ok (.iload_n 2, 1) := by decide +kernel
theorem dX9_opensPage_101 : decode cX9_opensPage 101 = .ok (.ifCond .eq 11, 3) := by decide +kernel
theorem dX9_opensPage_104 : decode cX9_opensPage 104 = .ok (.aload_n 0, 1) := by decide +kernel
theorem dX9_opensPage_105 : decode cX9_opensPage 105 = .ok (.iload_n 1, 1) := by decide +kernel
theorem dX9_opensPage_106 : decode cX9_opensPage 106 = .ok (.invokevirtual 65, 3) := by decide +kernel
theorem dX9_opensPage_109 : decode cX9_opensPage 109 = .ok (.goto 4, 3) := by decide +kernel
theorem dX9_opensPage_112 : decode cX9_opensPage 112 = .ok (.iconst 0, 1) := by decide +kernel
theorem dX9_opensPage_113 : decode cX9_opensPage 113 = .ok (.iastore, 1) := by decide +kernel
theorem dX9_opensPage_114 : decode cX9_opensPage 114 = .ok (.aload_n 0, 1) := by decide +kernel
theorem dX9_opensPage_115 : decode cX9_opensPage 115 = .ok (.getfield 7, 3) := by decide +kernel
theorem dX9_opensPage_118 : decode cX9_opensPage 118 = .ok (.iconst 3, 1) := by decide +kernel
theorem dX9_opensPage_119 : decode cX9_opensPage 119 = .ok (.dup2, 1) := by decide +kernel
theorem dX9_opensPage_120 : decode cX9_opensPage 120 = .ok (.iaload, 1) := by decide +kernel
theorem dX9_opensPage_121 : decode cX9_opensPage 121 = .ok (.iconst 1, 1) := by decide +kernel
theorem dX9_opensPage_122 : decode cX9_opensPage 122 = .ok (.iadd, 1) := by decide +kernel
theorem dX9_opensPage_123 : decode cX9_opensPage 123 = .ok (.iastore, 1) := by decide +kernel
theorem dX9_opensPage_124 : decode cX9_opensPage 124 = .ok (.aload_n 0, 1) := by decide +kernel
theorem dX9_opensPage_125 : decode cX9_opensPage 125 = .ok (.getfield 7, 3) := by decide +kernel
theorem dX9_opensPage_128 : decode cX9_opensPage 128 = .ok (.bipush 78, 2) := by decide +kernel
theorem dX9_opensPage_130 : decode cX9_opensPage 130 = .ok (.iload_n 1, 1) := by decide +kernel
theorem dX9_opensPage_131 : decode cX9_opensPage 131 = .ok (.iadd, 1) := by decide +kernel
theorem dX9_opensPage_132 : decode cX9_opensPage 132 = .ok (.iconst 0, 1) := by decide +kernel
theorem dX9_opensPage_133 : decode cX9_opensPage 133 = .ok (.iastore, 1) := by decide +kernel
theorem dX9_opensPage_134 : decode cX9_opensPage 134 = .ok (.aload_n 0, 1) := by decide +kernel
theorem dX9_opensPage_135 : decode cX9_opensPage 135 = .ok (.getfield 7, 3) := by decide +kernel
theorem dX9_opensPage_138 : decode cX9_opensPage 138 = .ok (.bipush 9, 2) := by decide +kernel
theorem dX9_opensPage_140 : decode cX9_opensPage 140 = .ok (.dup2, 1) := by decide +kernel
theorem dX9_opensPage_141 : decode cX9_opensPage 141 = .ok (.iaload, 1) := by decide +kernel
theorem dX9_opensPage_142 : decode cX9_opensPage 142 = .ok (.iload_n 2, 1) := by decide +kernel
theorem dX9_opensPage_143 : decode cX9_opensPage 143 = .ok (.ifCond .eq 7, 3) := by decide +kernel
theorem dX9_opensPage_146 : decode cX9_opensPage 146 = .ok (.iconst 1, 1) := by decide +kernel
theorem dX9_opensPage_147 : decode cX9_opensPage 147 = .ok (.goto 4, 3) := by decide +kernel
theorem dX9_opensPage_150 : decode cX9_opensPage 150 = .ok (.iconst 0, 1) := by decide +kernel
theorem dX9_opensPage_151 : decode cX9_opensPage 151 = .ok (.iadd, 1) := by decide +kernel
theorem dX9_opensPage_152 : decode cX9_opensPage 152 = .ok (.iastore, 1) := by decide +kernel
theorem dX9_opensPage_153 : decode cX9_opensPage 153 = .ok (.iload_n 2, 1) := by decide +kernel
theorem dX9_opensPage_154 : decode cX9_opensPage 154 = .ok (.ifCond .eq 14, 3) := by decide +kernel
theorem dX9_opensPage_157 : decode cX9_opensPage 157 = .ok (.aload_n 0, 1) := by decide +kernel
theorem dX9_opensPage_158 : decode cX9_opensPage 158 = .ok (.getfield 7, 3) := by decide +kernel
theorem dX9_opensPage_161 : decode cX9_opensPage 161 = .ok (.iconst 0, 1) := by decide +kernel
theorem dX9_opensPage_162 : decode cX9_opensPage 162 = .ok (.iaload, 1) := by decide +kernel
theorem dX9_opensPage_163 : decode cX9_opensPage 163 = .ok (.iconst 1, 1) := by decide +kernel
theorem dX9_opensPage_164 : decode cX9_opensPage 164 = .ok (.isub, 1) := by decide +kernel
theorem dX9_opensPage_165 : decode cX9_opensPage 165 = .ok (.goto 4, 3) := by decide +kernel
theorem dX9_opensPage_168 : decode cX9_opensPage 168 = .ok (.iconst 1, 1) := by decide +kernel
theorem dX9_opensPage_169 : decode cX9_opensPage 169 = .ok (.ireturn, 1) := by decide +kernel
theorem dX9_reachesOthers_0 : decode cX9_reachesOthers 0 = .ok (.iconst 0, 1) := by decide +kernel
theorem dX9_reachesOthers_1 : decode cX9_reachesOthers 1 = .ok (.istore 4, 2) := by decide +kernel
theorem dX9_reachesOthers_3 : decode cX9_reachesOthers 3 = .ok (.iconst 0, 1) := by decide +kernel
theorem dX9_reachesOthers_4 : decode cX9_reachesOthers 4 = .ok (.istore 5, 2) := by decide +kernel
theorem dX9_reachesOthers_6 : decode cX9_reachesOthers 6 = .ok (.iload 5, 2) := by decide +kernel
theorem dX9_reachesOthers_8 : decode cX9_reachesOthers 8 = .ok (.aload_n 0, 1) := by decide +kernel
theorem dX9_reachesOthers_9 : decode cX9_reachesOthers 9 = .ok (.getfield 7, 3) := by decide +kernel
theorem dX9_reachesOthers_12 : decode cX9_reachesOthers 12 = .ok (.iconst 0, 1) := by decide +kernel
theorem dX9_reachesOthers_13 : decode cX9_reachesOthers 13 = .ok (.iaload, 1) := by decide +kernel
theorem dX9_reachesOthers_14 : decode cX9_reachesOthers 14 = .ok (.if_icmp .ge 101, 3) := by decide +kernel
theorem dX9_reachesOthers_17 : decode cX9_reachesOthers 17 = .ok (.iload 5, 2) := by decide +kernel
theorem dX9_reachesOthers_19 : decode cX9_reachesOthers 19 = .ok (.iload_n 1, 1) := by decide +kernel
theorem dX9_reachesOthers_20 : decode cX9_reachesOthers 20 = .ok (.if_icmp .ne 7, 3) := by decide +kernel
theorem dX9_reachesOthers_23 : decode cX9_reachesOthers 23 = .ok (.iconst (-1), 1) := by decide +kernel
theorem dX9_reachesOthers_24 : decode cX9_reachesOthers 24 = .ok (.goto 10, 3) := by decide +kernel
theorem dX9_reachesOthers_27 : decode cX9_reachesOthers 27 = .ok (.aload_n 0, 1) := by decide +kernel
theorem dX9_reachesOthers_28 : decode cX9_reachesOthers 28 = .ok (.iload 5, 2) := by decide +kernel
theorem dX9_reachesOthers_30 : decode cX9_reachesOthers 30 = .ok (.iload_n 2, 1) := by decide +kernel
theorem dX9_reachesOthers_31 : decode cX9_reachesOthers 31 = .ok (.invokevirtual 52, 3) := by decide +kernel
theorem dX9_reachesOthers_34 : decode cX9_reachesOthers 34 = .ok (.istore 6, 2) := by decide +kernel
theorem dX9_reachesOthers_36 : decode cX9_reachesOthers 36 = .ok (.iload 6, 2) := by decide +kernel
theorem dX9_reachesOthers_38 : decode cX9_reachesOthers 38 = .ok (.ifCond .lt 28, 3) := by decide +kernel
theorem dX9_reachesOthers_41 : decode cX9_reachesOthers 41 = .ok (.aload_n 0, 1) := by decide +kernel
theorem dX9_reachesOthers_42 : decode cX9_reachesOthers 42 = .ok (.getfield 7, 3) := by decide +kernel
theorem dX9_reachesOthers_45 : decode cX9_reachesOthers 45 = .ok (.iload 6, 2) := by decide +kernel
theorem dX9_reachesOthers_47 : decode cX9_reachesOthers 47 = .ok (.iconst 1, 1) := by decide +kernel
theorem dX9_reachesOthers_48 : decode cX9_reachesOthers 48 = .ok (.iadd, 1) := by decide +kernel
theorem dX9_reachesOthers_49 : decode cX9_reachesOthers 49 = .ok (.iaload, 1) := by decide +kernel
theorem dX9_reachesOthers_50 : decode cX9_reachesOthers 50 = .ok (.iconst 2, 1) := by decide +kernel
theorem dX9_reachesOthers_51 : decode cX9_reachesOthers 51 = .ok (.if_icmp .ne 15, 3) := by decide +kernel
theorem dX9_reachesOthers_54 : decode cX9_reachesOthers 54 = .ok (.aload_n 0, 1) := by decide +kernel
theorem dX9_reachesOthers_55 : decode cX9_reachesOthers 55 = .ok (.iload 6, 2) := by decide +kernel
theorem dX9_reachesOthers_57 : decode cX9_reachesOthers 57 = .ok (.invokevirtual 44, 3) := by decide +kernel
theorem dX9_reachesOthers_60 : decode cX9_reachesOthers 60 = .ok (.iinc 4 2, 3) := by decide +kernel
theorem dX9_reachesOthers_63 : decode cX9_reachesOthers 63 = .ok (.goto 15, 3) := by decide +kernel
theorem dX9_reachesOthers_66 : decode cX9_reachesOthers 66 = .ok (.iload 6, 2) := by decide +kernel
theorem dX9_reachesOthers_68 : decode cX9_reachesOthers 68 = .ok (.ifCond .lt 10, 3) := by decide +kernel
theorem dX9_reachesOthers_71 : decode cX9_reachesOthers 71 = .ok (.iload_n 3, 1) := by decide +kernel
theorem dX9_reachesOthers_72 : decode cX9_reachesOthers 72 = .ok (.ifCond .eq 6, 3) := by decide +kernel
theorem dX9_reachesOthers_75 : decode cX9_reachesOthers 75 = .ok (.iinc 4 1, 3) := by decide +kernel
theorem dX9_reachesOthers_78 : decode cX9_reachesOthers 78 = .ok (.iload 6, 2) := by decide +kernel
theorem dX9_reachesOthers_80 : decode cX9_reachesOthers 80 = .ok (.ifCond .lt 29, 3) := by decide +kernel
theorem dX9_reachesOthers_83 : decode cX9_reachesOthers 83 = .ok (.aload_n 0, 1) := by decide +kernel
theorem dX9_reachesOthers_84 : decode cX9_reachesOthers 84 = .ok (.getfield 7, 3) := by decide +kernel
theorem dX9_reachesOthers_87 : decode cX9_reachesOthers 87 = .ok (.iload 6, 2) := by decide +kernel
theorem dX9_reachesOthers_89 : decode cX9_reachesOthers 89 = .ok (.iconst 1, 1) := by decide +kernel
theorem dX9_reachesOthers_90 : decode cX9_reachesOthers 90 = .ok (.iadd, 1) := by decide +kernel
theorem dX9_reachesOthers_91 : decode cX9_reachesOthers 91 = .ok (.iconst 1, 1) := by decide +kernel
theorem dX9_reachesOthers_92 : decode cX9_reachesOthers 92 = .ok (.iastore, 1) := by decide +kernel
theorem dX9_reachesOthers_93 : decode cX9_reachesOthers 93 = .ok (.aload_n 0, 1) := by decide +kernel
theorem dX9_reachesOthers_94 : decode cX9_reachesOthers 94 = .ok (.getfield 7, 3) := by decide +kernel
theorem dX9_reachesOthers_97 : decode cX9_reachesOthers 97 = .ok (.iload 6, 2) := by decide +kernel
theorem dX9_reachesOthers_99 : decode cX9_reachesOthers 99 = .ok (.iload_n 3, 1) := by decide +kernel
theorem dX9_reachesOthers_100 : decode cX9_reachesOthers 100 = .ok (.ifCond .eq 7, 3) := by decide +kernel
theorem dX9_reachesOthers_103 : decode cX9_reachesOthers 103 = .ok (.iconst (-1), 1) := by decide +kernel
theorem dX9_reachesOthers_104 : decode cX9_reachesOthers 104 = .ok (.goto 4, 3) := by decide +kernel
theorem dX9_reachesOthers_107 : decode cX9_reachesOthers 107 = .ok (.iload_n 2, 1) := by decide +kernel
theorem dX9_reachesOthers_108 : decode cX9_reachesOthers 108 = .ok (.iastore, 1) := by decide +kernel
theorem dX9_reachesOthers_109 : decode cX9_reachesOthers 109 = .ok (.iinc 5 1, 3) := by decide +kernel
theorem dX9_reachesOthers_112 : decode cX9_reachesOthers 112 = .ok (.goto (-106), 3) := by decide +kernel
theorem dX9_reachesOthers_115 : decode cX9_reachesOthers 115 = .ok (.iload 4, 2) := by decide +kernel
theorem dX9_reachesOthers_117 : decode cX9_reachesOthers 117 = .ok (.ireturn, 1) := by decide +kernel
theorem dX9_misses_0 : decode cX9_misses 0 = .ok (.iload_n 3, 1) := by decide +kernel
theorem dX9_misses_1 : decode cX9_misses 1 = .ok (.ifCond .lt 7, 3) := by decide +kernel
theorem dX9_misses_4 : decode cX9_misses 4 = .ok (.iconst 1, 1) := by decide +kernel
theorem dX9_misses_5 : decode cX9_misses 5 = .ok (.goto 4, 3) := by decide +kernel
theorem dX9_misses_8 : decode cX9_misses 8 = .ok (.iconst 0, 1) := by decide +kernel
theorem dX9_misses_9 : decode cX9_misses 9 = .ok (.istore 4, 2) := by decide +kernel
theorem dX9_misses_11 : decode cX9_misses 11 = .ok (.aload_n 0, 1) := by decide +kernel
theorem dX9_misses_12 : decode cX9_misses 12 = .ok (.iload_n 2, 1) := by decide +kernel
theorem dX9_misses_13 : decode cX9_misses 13 = .ok (.invokevirtual 68, 3) := by decide +kernel
theorem dX9_misses_16 : decode cX9_misses 16 = .ok (.aload_n 0, 1) := by decide +kernel
theorem dX9_misses_17 : decode cX9_misses 17 = .ok (.iload_n 1, 1) := by decide +kernel
theorem dX9_misses_18 : decode cX9_misses 18 = .ok (.iload_n 2, 1) := by decide +kernel
theorem dX9_misses_19 : decode cX9_misses 19 = .ok (.iload 4, 2) := by decide +kernel
theorem dX9_misses_21 : decode cX9_misses 21 = .ok (.invokevirtual 71, 3) := by decide +kernel
theorem dX9_misses_24 : decode cX9_misses 24 = .ok (.iadd, 1) := by decide +kernel
theorem dX9_misses_25 : decode cX9_misses 25 = .ok (.istore 5, 2) := by decide +kernel
theorem dX9_misses_27 : decode cX9_misses 27 = .ok (.aload_n 0, 1) := by decide +kernel
theorem dX9_misses_28 : decode cX9_misses 28 = .ok (.iload_n 1, 1) := by decide +kernel
theorem dX9_misses_29 : decode cX9_misses 29 = .ok (.iload_n 2, 1) := by decide +kernel
theorem dX9_misses_30 : decode cX9_misses 30 = .ok (.invokevirtual 52, 3) := by decide +kernel
theorem dX9_misses_33 : decode cX9_misses 33 = .ok (.istore 6, 2) := by decide +kernel
theorem dX9_misses_35 : decode cX9_misses 35 = .ok (.iload 6, 2) := by decide +kernel
theorem dX9_misses_37 : decode cX9_misses 37 = .ok (.ifCond .ge 11, 3) := by decide +kernel
theorem dX9_misses_40 : decode cX9_misses 40 = .ok (.aload_n 0, 1) := by decide +kernel
theorem dX9_misses_41 : decode cX9_misses 41 = .ok (.iload_n 1, 1) := by decide +kernel
theorem dX9_misses_42 : decode cX9_misses 42 = .ok (.iconst (-1), 1) := by decide +kernel
theorem dX9_misses_43 : decode cX9_misses 43 = .ok (.invokevirtual 52, 3) := by decide +kernel
theorem dX9_misses_46 : decode cX9_misses 46 = .ok (.istore 6, 2) := by decide +kernel
theorem dX9_misses_48 : decode cX9_misses 48 = .ok (.iload 6, 2) := by decide +kernel
theorem dX9_misses_50 : decode cX9_misses 50 = .ok (.ifCond .ge 22, 3) := by decide +kernel
theorem dX9_misses_53 : decode cX9_misses 53 = .ok (.aload_n 0, 1) := by decide +kernel
theorem dX9_misses_54 : decode cX9_misses 54 = .ok (.iload_n 1, 1) := by decide +kernel
theorem dX9_misses_55 : decode cX9_misses 55 = .ok (.invokevirtual 75, 3) := by decide +kernel
theorem dX9_misses_58 : decode cX9_misses 58 = .ok (.istore 6, 2) := by decide +kernel
theorem dX9_misses_60 : decode cX9_misses 60 = .ok (.iload 5, 2) := by decide +kernel
theorem dX9_misses_62 : decode cX9_misses 62 = .ok (.aload_n 0, 1) := by decide +kernel
theorem dX9_misses_63 : decode cX9_misses 63 = .ok (.iload_n 1, 1) := by decide +kernel
theorem dX9_misses_64 : decode cX9_misses 64 = .ok (.iload 6, 2) := by decide +kernel
theorem dX9_misses_66 : decode cX9_misses 66 = .ok (.invokevirtual 78, 3) := by decide +kernel
theorem dX9_misses_69 : decode cX9_misses 69 = .ok (.iadd, 1) := by decide +kernel
theorem dX9_misses_70 : decode cX9_misses 70 = .ok (.istore 5, 2) := by decide +kernel
theorem dX9_misses_72 : decode cX9_misses 72 = .ok (.aload_n 0, 1) := by decide +kernel
theorem dX9_misses_73 : decode cX9_misses 73 = .ok (.getfield 7, 3) := by decide +kernel
theorem dX9_misses_76 : decode cX9_misses 76 = .ok (.iload 6, 2) := by decide +kernel
theorem dX9_misses_78 : decode cX9_misses 78 = .ok (.iload_n 2, 1) := by decide +kernel
theorem dX9_misses_79 : decode cX9_misses 79 = .ok (.iastore, 1) := by decide +kernel
theorem dX9_misses_80 : decode cX9_misses 80 = .ok (.aload_n 0, 1) := by decide +kernel
theorem dX9_misses_81 : decode cX9_misses 81 = .ok (.getfield 7, 3) := by decide +kernel
theorem dX9_misses_84 : decode cX9_misses 84 = .ok (.iload 6, 2) := by decide +kernel
theorem dX9_misses_86 : decode cX9_misses 86 = .ok (.iconst 1, 1) := by decide +kernel
theorem dX9_misses_87 : decode cX9_misses 87 = .ok (.iadd, 1) := by decide +kernel
theorem dX9_misses_88 : decode cX9_misses 88 = .ok (.iload 4, 2) := by decide +kernel
theorem dX9_misses_90 : decode cX9_misses 90 = .ok (.ifCond .eq 7, 3) := by decide +kernel
theorem dX9_misses_93 : decode cX9_misses 93 = .ok (.iconst 2, 1) := by decide +kernel
theorem dX9_misses_94 : decode cX9_misses 94 = .ok (.goto 4, 3) := by decide +kernel
theorem dX9_misses_97 : decode cX9_misses 97 = .ok (.iconst 1, 1) := by decide +kernel
theorem dX9_misses_98 : decode cX9_misses 98 = .ok (.iastore, 1) := by decide +kernel
theorem dX9_misses_99 : decode cX9_misses 99 = .ok (.aload_n 0, 1) := by decide +kernel
theorem dX9_misses_100 : decode cX9_misses 100 = .ok (.getfield 7, 3) := by decide +kernel
theorem dX9_misses_103 : decode cX9_misses 103 = .ok (.iload 6, 2) := by decide +kernel
theorem dX9_misses_105 : decode cX9_misses 105 = .ok (.iconst 2, 1) := by decide +kernel
theorem dX9_misses_106 : decode cX9_misses 106 = .ok (.iadd, 1) := by decide +kernel
theorem dX9_misses_107 : decode cX9_misses 107 = .ok (.aload_n 0, 1) := by decide +kernel
theorem dX9_misses_108 : decode cX9_misses 108 = .ok (.getfield 7, 3) := by decide +kernel
theorem dX9_misses_111 : decode cX9_misses 111 = .ok (.bipush 14, 2) := by decide +kernel
theorem dX9_misses_113 : decode cX9_misses 113 = .ok (.iload_n 2, 1) := by decide +kernel
theorem dX9_misses_114 : decode cX9_misses 114 = .ok (.iadd, 1) := by decide +kernel
theorem dX9_misses_115 : decode cX9_misses 115 = .ok (.iaload, 1) := by decide +kernel
theorem dX9_misses_116 : decode cX9_misses 116 = .ok (.iastore, 1) := by decide +kernel
theorem dX9_misses_117 : decode cX9_misses 117 = .ok (.aload_n 0, 1) := by decide +kernel
theorem dX9_misses_118 : decode cX9_misses 118 = .ok (.iload_n 2, 1) := by decide +kernel
theorem dX9_misses_119 : decode cX9_misses 119 = .ok (.invokevirtual 48, 3) := by decide +kernel
theorem dX9_misses_122 : decode cX9_misses 122 = .ok (.istore 7, 2) := by decide +kernel
theorem dX9_misses_124 : decode cX9_misses 124 = .ok (.aload_n 0, 1) := by decide +kernel
theorem dX9_misses_125 : decode cX9_misses 125 = .ok (.getfield 7, 3) := by decide +kernel
theorem dX9_misses_128 : decode cX9_misses 128 = .ok (.iload 7, 2) := by decide +kernel
theorem dX9_misses_130 : decode cX9_misses 130 = .ok (.iconst 1, 1) := by decide +kernel
theorem dX9_misses_131 : decode cX9_misses 131 = .ok (.iadd, 1) := by decide +kernel
theorem dX9_misses_132 : decode cX9_misses 132 = .ok (.iload 4, 2) := by decide +kernel
theorem dX9_misses_134 : decode cX9_misses 134 = .ok (.ifCond .eq 7, 3) := by decide +kernel
theorem dX9_misses_137 : decode cX9_misses 137 = .ok (.iload_n 1, 1) := by decide +kernel
theorem dX9_misses_138 : decode cX9_misses 138 = .ok (.goto 4, 3) := by decide +kernel
theorem dX9_misses_141 : decode cX9_misses 141 = .ok (.iconst (-1), 1) := by decide +kernel
theorem dX9_misses_142 : decode cX9_misses 142 = .ok (.iastore, 1) := by decide +kernel
theorem dX9_misses_143 : decode cX9_misses 143 = .ok (.aload_n 0, 1) := by decide +kernel
theorem dX9_misses_144 : decode cX9_misses 144 = .ok (.getfield 7, 3) := by decide +kernel
theorem dX9_misses_147 : decode cX9_misses 147 = .ok (.iload 7, 2) := by decide +kernel
theorem dX9_misses_149 : decode cX9_misses 149 = .ok (.iconst 2, 1) := by decide +kernel
theorem dX9_misses_150 : decode cX9_misses 150 = .ok (.iadd, 1) := by decide +kernel
theorem dX9_misses_151 : decode cX9_misses 151 = .ok (.iload 4, 2) := by decide +kernel
theorem dX9_misses_153 : decode cX9_misses 153 = .ok (.ifCond .eq 7, 3) := by decide +kernel
theorem dX9_misses_156 : decode cX9_misses 156 = .ok (.iconst 0, 1) := by decide +kernel
theorem dX9_misses_157 : decode cX9_misses 157 = .ok (.goto 8, 3) := by decide +kernel
theorem dX9_misses_160 : decode cX9_misses 160 = .ok (.aload_n 0, 1) := by decide +kernel
theorem dX9_misses_161 : decode cX9_misses 161 = .ok (.iload_n 2, 1) := by decide +kernel
theorem dX9_misses_162 : decode cX9_misses 162 = .ok (.invokevirtual 65, 3) := by decide +kernel
theorem dX9_misses_165 : decode cX9_misses 165 = .ok (.iastore, 1) := by decide +kernel
theorem dX9_misses_166 : decode cX9_misses 166 = .ok (.aload_n 0, 1) := by decide +kernel
theorem dX9_misses_167 : decode cX9_misses 167 = .ok (.getfield 7, 3) := by decide +kernel
theorem dX9_misses_170 : decode cX9_misses 170 = .ok (.iload 7, 2) := by decide +kernel
theorem dX9_misses_172 : decode cX9_misses 172 = .ok (.iconst 3, 1) := by decide +kernel
theorem dX9_misses_173 : decode cX9_misses 173 = .ok (.iadd, 1) := by decide +kernel
theorem dX9_misses_174 : decode cX9_misses 174 = .ok (.aload_n 0, 1) := by decide +kernel
theorem dX9_misses_175 : decode cX9_misses 175 = .ok (.getfield 7, 3) := by decide +kernel
theorem dX9_misses_178 : decode cX9_misses 178 = .ok (.bipush 13, 2) := by decide +kernel
theorem dX9_misses_180 : decode cX9_misses 180 = .ok (.iaload, 1) := by decide +kernel
theorem dX9_misses_181 : decode cX9_misses 181 = .ok (.iconst 1, 1) := by decide +kernel
theorem dX9_misses_182 : decode cX9_misses 182 = .ok (.iadd, 1) := by decide +kernel
theorem dX9_misses_183 : decode cX9_misses 183 = .ok (.iastore, 1) := by decide +kernel
theorem dX9_misses_184 : decode cX9_misses 184 = .ok (.iload 5, 2) := by decide +kernel
theorem dX9_misses_186 : decode cX9_misses 186 = .ok (.ireturn, 1) := by decide +kernel
theorem dX9_serves_0 : decode cX9_serves 0 = .ok (.aload_n 0, 1) := by decide +kernel
theorem dX9_serves_1 : decode cX9_serves 1 = .ok (.iload_n 1, 1) := by decide +kernel
theorem dX9_serves_2 : decode cX9_serves 2 = .ok (.iload_n 2, 1) := by decide +kernel
theorem dX9_serves_3 : decode cX9_serves 3 = .ok (.iload_n 3, 1) := by decide +kernel
theorem dX9_serves_4 : decode cX9_serves 4 = .ok (.ifCond .lt 7, 3) := by decide +kernel
theorem dX9_serves_7 : decode cX9_serves 7 = .ok (.iconst 1, 1) := by decide +kernel
theorem dX9_serves_8 : decode cX9_serves 8 = .ok (.goto 4, 3) := by decide +kernel
theorem dX9_serves_11 : decode cX9_serves 11 = .ok (.iconst 0, 1) := by decide +kernel
theorem dX9_serves_12 : decode cX9_serves 12 = .ok (.invokevirtual 81, 3) := by decide +kernel
theorem dX9_serves_15 : decode cX9_serves 15 = .ok (.istore 4, 2) := by decide +kernel
theorem dX9_serves_17 : decode cX9_serves 17 = .ok (.iload 4, 2) := by decide +kernel
theorem dX9_serves_19 : decode cX9_serves 19 = .ok (.ifCond .eq 7, 3) := by decide +kernel
theorem dX9_serves_22 : decode cX9_serves 22 = .ok (.iconst 0, 1) := by decide +kernel
theorem dX9_serves_23 : decode cX9_serves 23 = .ok (.goto 10, 3) := by decide +kernel
theorem dX9_serves_26 : decode cX9_serves 26 = .ok (.aload_n 0, 1) := by decide +kernel
theorem dX9_serves_27 : decode cX9_serves 27 = .ok (.iload_n 1, 1) := by decide +kernel
theorem dX9_serves_28 : decode cX9_serves 28 = .ok (.iload_n 2, 1) := by decide +kernel
theorem dX9_serves_29 : decode cX9_serves 29 = .ok (.iload_n 3, 1) := by decide +kernel
theorem dX9_serves_30 : decode cX9_serves 30 = .ok (.invokevirtual 85, 3) := by decide +kernel
theorem dX9_serves_33 : decode cX9_serves 33 = .ok (.istore 5, 2) := by decide +kernel
theorem dX9_serves_35 : decode cX9_serves 35 = .ok (.aload_n 0, 1) := by decide +kernel
theorem dX9_serves_36 : decode cX9_serves 36 = .ok (.iload_n 1, 1) := by decide +kernel
