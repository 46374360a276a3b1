theorem dX0_init_0 : decode cX0_init 0 = .ok (.aload_n 0, 1) := by decide +kernel
theorem dX0_init_1 : decode cX0_init 1 = .ok (.invokespecial 3, 3) := by decide +kernel
theorem dX0_init_4 : decode cX0_init 4 = .ok (.aload_n 0, 1) := by decide +kernel
theorem dX0_init_5 : decode cX0_init 5 = .ok (.sipush 192, 3) := by decide +kernel
theorem dX0_init_8 : decode cX0_init 8 = .ok (.newarray .int, 2) := by decide +kernel
theorem dX0_init_10 : decode cX0_init 10 = .ok (.putfield 9, 3) := by decide +kernel
theorem dX0_init_13 : decode cX0_init 13 = .ok (.aload_n 0, 1) := by decide +kernel
theorem dX0_init_14 : decode cX0_init 14 = .ok (.sipush 192, 3) := by decide +kernel
theorem dX0_init_17 : decode cX0_init 17 = .ok (.newarray .int, 2) := by decide +kernel
theorem dX0_init_19 : decode cX0_init 19 = .ok (.putfield 15, 3) := by decide +kernel
theorem dX0_init_22 : decode cX0_init 22 = .ok (.aload_n 0, 1) := by decide +kernel
theorem dX0_init_23 : decode cX0_init 23 = .ok (.sipush 192, 3) := by decide +kernel
theorem dX0_init_26 : decode cX0_init 26 = .ok (.newarray .int, 2) := by decide +kernel
theorem dX0_init_28 : decode cX0_init 28 = .ok (.putfield 18, 3) := by decide +kernel
theorem dX0_init_31 : decode cX0_init 31 = .ok (.aload_n 0, 1) := by decide +kernel
theorem dX0_init_32 : decode cX0_init 32 = .ok (.sipush 192, 3) := by decide +kernel
theorem dX0_init_35 : decode cX0_init 35 = .ok (.newarray .int, 2) := by decide +kernel
theorem dX0_init_37 : decode cX0_init 37 = .ok (.putfield 21, 3) := by decide +kernel
theorem dX0_init_40 : decode cX0_init 40 = .ok (.return_, 1) := by decide +kernel
theorem dX0_removeAll_0 : decode cX0_removeAll 0 = .ok (.aload_n 0, 1) := by decide +kernel
theorem dX0_removeAll_1 : decode cX0_removeAll 1 = .ok (.getfield 9, 3) := by decide +kernel
theorem dX0_removeAll_4 : decode cX0_removeAll 4 = .ok (.iconst 0, 1) := by decide +kernel
theorem dX0_removeAll_5 : decode cX0_removeAll 5 = .ok (.invokestatic 24, 3) := by decide +kernel
theorem dX0_removeAll_8 : decode cX0_removeAll 8 = .ok (.aload_n 0, 1) := by decide +kernel
theorem dX0_removeAll_9 : decode cX0_removeAll 9 = .ok (.iconst 0, 1) := by decide +kernel
theorem dX0_removeAll_10 : decode cX0_removeAll 10 = .ok (.putfield 30, 3) := by decide +kernel
theorem dX0_removeAll_13 : decode cX0_removeAll 13 = .ok (.return_, 1) := by decide +kernel
theorem dX0_takeOver_0 : decode cX0_takeOver 0 = .ok (.aload_n 1, 1) := by decide +kernel
theorem dX0_takeOver_1 : decode cX0_takeOver 1 = .ok (.getfield 9, 3) := by decide +kernel
theorem dX0_takeOver_4 : decode cX0_takeOver 4 = .ok (.iconst 0, 1) := by decide +kernel
theorem dX0_takeOver_5 : decode cX0_takeOver 5 = .ok (.aload_n 0, 1) := by decide +kernel
theorem dX0_takeOver_6 : decode cX0_takeOver 6 = .ok (.getfield 9, 3) := by decide +kernel
theorem dX0_takeOver_9 : decode cX0_takeOver 9 = .ok (.iconst 0, 1) := by decide +kernel
theorem dX0_takeOver_10 : decode cX0_takeOver 10 = .ok (.aload_n 0, 1) := by decide +kernel
theorem dX0_takeOver_11 : decode cX0_takeOver 11 = .ok (.getfield 9, 3) := by decide +kernel
theorem dX0_takeOver_14 : decode cX0_takeOver 14 = .ok (.arraylength, 1) := by decide +kernel
theorem dX0_takeOver_15 : decode cX0_takeOver 15 = .ok (.invokestatic 34, 3) := by decide +kernel
theorem dX0_takeOver_18 : decode cX0_takeOver 18 = .ok (.aload_n 1, 1) := by decide +kernel
theorem dX0_takeOver_19 : decode cX0_takeOver 19 = .ok (.getfield 15, 3) := by decide +kernel
theorem dX0_takeOver_22 : decode cX0_takeOver 22 = .ok (.iconst 0, 1) := by decide +kernel
theorem dX0_takeOver_23 : decode cX0_takeOver 23 = .ok (.aload_n 0, 1) := by decide +kernel
theorem dX0_takeOver_24 : decode cX0_takeOver 24 = .ok (.getfield 15, 3) := by decide +kernel
theorem dX0_takeOver_27 : decode cX0_takeOver 27 = .ok (.iconst 0, 1) := by decide +kernel
theorem dX0_takeOver_28 : decode cX0_takeOver 28 = .ok (.aload_n 0, 1) := by decide +kernel
theorem dX0_takeOver_29 : decode cX0_takeOver 29 = .ok (.getfield 15, 3) := by decide +kernel
theorem dX0_takeOver_32 : decode cX0_takeOver 32 = .ok (.arraylength, 1) := by decide +kernel
theorem dX0_takeOver_33 : decode cX0_takeOver 33 = .ok (.invokestatic 34, 3) := by decide +kernel
theorem dX0_takeOver_36 : decode cX0_takeOver 36 = .ok (.aload_n 1, 1) := by decide +kernel
theorem dX0_takeOver_37 : decode cX0_takeOver 37 = .ok (.getfield 18, 3) := by decide +kernel
theorem dX0_takeOver_40 : decode cX0_takeOver 40 = .ok (.iconst 0, 1) := by decide +kernel
theorem dX0_takeOver_41 : decode cX0_takeOver 41 = .ok (.aload_n 0, 1) := by decide +kernel
theorem dX0_takeOver_42 : decode cX0_takeOver 42 = .ok (.getfield 18, 3) := by decide +kernel
theorem dX0_takeOver_45 : decode cX0_takeOver 45 = .ok (.iconst 0, 1) := by decide +kernel
theorem dX0_takeOver_46 : decode cX0_takeOver 46 = .ok (.aload_n 0, 1) := by decide +kernel
theorem dX0_takeOver_47 : decode cX0_takeOver 47 = .ok (.getfield 18, 3) := by decide +kernel
theorem dX0_takeOver_50 : decode cX0_takeOver 50 = .ok (.arraylength, 1) := by decide +kernel
theorem dX0_takeOver_51 : decode cX0_takeOver 51 = .ok (.invokestatic 34, 3) := by decide +kernel
theorem dX0_takeOver_54 : decode cX0_takeOver 54 = .ok (.aload_n 1, 1) := by decide +kernel
theorem dX0_takeOver_55 : decode cX0_takeOver 55 = .ok (.getfield 21, 3) := by decide +kernel
theorem dX0_takeOver_58 : decode cX0_takeOver 58 = .ok (.iconst 0, 1) := by decide +kernel
theorem dX0_takeOver_59 : decode cX0_takeOver 59 = .ok (.aload_n 0, 1) := by decide +kernel
theorem dX0_takeOver_60 : decode cX0_takeOver 60 = .ok (.getfield 21, 3) := by decide +kernel
theorem dX0_takeOver_63 : decode cX0_takeOver 63 = .ok (.iconst 0, 1) := by decide +kernel
theorem dX0_takeOver_64 : decode cX0_takeOver 64 = .ok (.aload_n 0, 1) := by decide +kernel
theorem dX0_takeOver_65 : decode cX0_takeOver 65 = .ok (.getfield 21, 3) := by decide +kernel
theorem dX0_takeOver_68 : decode cX0_takeOver 68 = .ok (.arraylength, 1) := by decide +kernel
theorem dX0_takeOver_69 : decode cX0_takeOver 69 = .ok (.invokestatic 34, 3) := by decide +kernel
theorem dX0_takeOver_72 : decode cX0_takeOver 72 = .ok (.aload_n 0, 1) := by decide +kernel
theorem dX0_takeOver_73 : decode cX0_takeOver 73 = .ok (.aload_n 1, 1) := by decide +kernel
theorem dX0_takeOver_74 : decode cX0_takeOver 74 = .ok (.getfield 30, 3) := by decide +kernel
theorem dX0_takeOver_77 : decode cX0_takeOver 77 = .ok (.putfield 30, 3) := by decide +kernel
theorem dX0_takeOver_80 : decode cX0_takeOver 80 = .ok (.return_, 1) := by decide +kernel
theorem dX0_kindOf_0 : decode cX0_kindOf 0 = .ok (.aload_n 0, 1) := by decide +kernel
theorem dX0_kindOf_1 : decode cX0_kindOf 1 = .ok (.getfield 9, 3) := by decide +kernel
theorem dX0_kindOf_4 : decode cX0_kindOf 4 = .ok (.iload_n 1, 1) := by decide +kernel
theorem dX0_kindOf_5 : decode cX0_kindOf 5 = .ok (.bipush 32, 2) := by decide +kernel
theorem dX0_kindOf_7 : decode cX0_kindOf 7 = .ok (.imul, 1) := by decide +kernel
theorem dX0_kindOf_8 : decode cX0_kindOf 8 = .ok (.iload_n 2, 1) := by decide +kernel
theorem dX0_kindOf_9 : decode cX0_kindOf 9 = .ok (.iadd, 1) := by decide +kernel
theorem dX0_kindOf_10 : decode cX0_kindOf 10 = .ok (.iaload, 1) := by decide +kernel
theorem dX0_kindOf_11 : decode cX0_kindOf 11 = .ok (.ireturn, 1) := by decide +kernel
theorem dX0_valueOf_0 : decode cX0_valueOf 0 = .ok (.aload_n 0, 1) := by decide +kernel
theorem dX0_valueOf_1 : decode cX0_valueOf 1 = .ok (.getfield 15, 3) := by decide +kernel
theorem dX0_valueOf_4 : decode cX0_valueOf 4 = .ok (.iload_n 1, 1) := by decide +kernel
theorem dX0_valueOf_5 : decode cX0_valueOf 5 = .ok (.bipush 32, 2) := by decide +kernel
theorem dX0_valueOf_7 : decode cX0_valueOf 7 = .ok (.imul, 1) := by decide +kernel
theorem dX0_valueOf_8 : decode cX0_valueOf 8 = .ok (.iload_n 2, 1) := by decide +kernel
theorem dX0_valueOf_9 : decode cX0_valueOf 9 = .ok (.iadd, 1) := by decide +kernel
theorem dX0_valueOf_10 : decode cX0_valueOf 10 = .ok (.iaload, 1) := by decide +kernel
theorem dX0_valueOf_11 : decode cX0_valueOf 11 = .ok (.ireturn, 1) := by decide +kernel
theorem dX0_add_0 : decode cX0_add 0 = .ok (.iload_n 1, 1) := by decide +kernel
theorem dX0_add_1 : decode cX0_add 1 = .ok (.bipush 32, 2) := by decide +kernel
theorem dX0_add_3 : decode cX0_add 3 = .ok (.imul, 1) := by decide +kernel
theorem dX0_add_4 : decode cX0_add 4 = .ok (.iload_n 2, 1) := by decide +kernel
theorem dX0_add_5 : decode cX0_add 5 = .ok (.iadd, 1) := by decide +kernel
theorem dX0_add_6 : decode cX0_add 6 = .ok (.istore 5, 2) := by decide +kernel
theorem dX0_add_8 : decode cX0_add 8 = .ok (.aload_n 0, 1) := by decide +kernel
theorem dX0_add_9 : decode cX0_add 9 = .ok (.getfield 9, 3) := by decide +kernel
theorem dX0_add_12 : decode cX0_add 12 = .ok (.iload 5, 2) := by decide +kernel
theorem dX0_add_14 : decode cX0_add 14 = .ok (.iconst 1, 1) := by decide +kernel
theorem dX0_add_15 : decode cX0_add 15 = .ok (.iastore, 1) := by decide +kernel
theorem dX0_add_16 : decode cX0_add 16 = .ok (.aload_n 0, 1) := by decide +kernel
theorem dX0_add_17 : decode cX0_add 17 = .ok (.getfield 15, 3) := by decide +kernel
theorem dX0_add_20 : decode cX0_add 20 = .ok (.iload 5, 2) := by decide +kernel
theorem dX0_add_22 : decode cX0_add 22 = .ok (.iload_n 3, 1) := by decide +kernel
theorem dX0_add_23 : decode cX0_add 23 = .ok (.iastore, 1) := by decide +kernel
theorem dX0_add_24 : decode cX0_add 24 = .ok (.aload_n 0, 1) := by decide +kernel
theorem dX0_add_25 : decode cX0_add 25 = .ok (.getfield 18, 3) := by decide +kernel
theorem dX0_add_28 : decode cX0_add 28 = .ok (.iload 5, 2) := by decide +kernel
theorem dX0_add_30 : decode cX0_add 30 = .ok (.iload 4, 2) := by decide +kernel
theorem dX0_add_32 : decode cX0_add 32 = .ok (.iastore, 1) := by decide +kernel
theorem dX0_add_33 : decode cX0_add 33 = .ok (.return_, 1) := by decide +kernel
theorem dX0_share_0 : decode cX0_share 0 = .ok (.aload_n 0, 1) := by decide +kernel
theorem dX0_share_1 : decode cX0_share 1 = .ok (.getfield 9, 3) := by decide +kernel
theorem dX0_share_4 : decode cX0_share 4 = .ok (.iload_n 1, 1) := by decide +kernel
theorem dX0_share_5 : decode cX0_share 5 = .ok (.bipush 32, 2) := by decide +kernel
theorem dX0_share_7 : decode cX0_share 7 = .ok (.imul, 1) := by decide +kernel
theorem dX0_share_8 : decode cX0_share 8 = .ok (.iload_n 2, 1) := by decide +kernel
theorem dX0_share_9 : decode cX0_share 9 = .ok (.iadd, 1) := by decide +kernel
theorem dX0_share_10 : decode cX0_share 10 = .ok (.iconst 1, 1) := by decide +kernel
theorem dX0_share_11 : decode cX0_share 11 = .ok (.iastore, 1) := by decide +kernel
theorem dX0_share_12 : decode cX0_share 12 = .ok (.return_, 1) := by decide +kernel
theorem dX0_own_0 : decode cX0_own 0 = .ok (.aload_n 0, 1) := by decide +kernel
theorem dX0_own_1 : decode cX0_own 1 = .ok (.getfield 9, 3) := by decide +kernel
theorem dX0_own_4 : decode cX0_own 4 = .ok (.iload_n 1, 1) := by decide +kernel
theorem dX0_own_5 : decode cX0_own 5 = .ok (.bipush 32, 2) := by decide +kernel
theorem dX0_own_7 : decode cX0_own 7 = .ok (.imul, 1) := by decide +kernel
theorem dX0_own_8 : decode cX0_own 8 = .ok (.iload_n 2, 1) := by decide +kernel
theorem dX0_own_9 : decode cX0_own 9 = .ok (.iadd, 1) := by decide +kernel
theorem dX0_own_10 : decode cX0_own 10 = .ok (.iconst 2, 1) := by decide +kernel
theorem dX0_own_11 : decode cX0_own 11 = .ok (.iastore, 1) := by decide +kernel
theorem dX0_own_12 : decode cX0_own 12 = .ok (.aload_n 0, 1) := by decide +kernel
theorem dX0_own_13 : decode cX0_own 13 = .ok (.getfield 15, 3) := by decide +kernel
theorem dX0_own_16 : decode cX0_own 16 = .ok (.iload_n 1, 1) := by decide +kernel
theorem dX0_own_17 : decode cX0_own 17 = .ok (.bipush 32, 2) := by decide +kernel
theorem dX0_own_19 : decode cX0_own 19 = .ok (.imul, 1) := by decide +kernel
theorem dX0_own_20 : decode cX0_own 20 = .ok (.iload_n 2, 1) := by decide +kernel
theorem dX0_own_21 : decode cX0_own 21 = .ok (.iadd, 1) := by decide +kernel
theorem dX0_own_22 : decode cX0_own 22 = .ok (.iload_n 3, 1) := by decide +kernel
theorem dX0_own_23 : decode cX0_own 23 = .ok (.iastore, 1) := by decide +kernel
theorem dX0_own_24 : decode cX0_own 24 = .ok (.return_, 1) := by decide +kernel
theorem dX0_use_0 : decode cX0_use 0 = .ok (.aload_n 0, 1) := by decide +kernel
theorem dX0_use_1 : decode cX0_use 1 = .ok (.dup, 1) := by decide +kernel
theorem dX0_use_2 : decode cX0_use 2 = .ok (.getfield 30, 3) := by decide +kernel
theorem dX0_use_5 : decode cX0_use 5 = .ok (.iconst 1, 1) := by decide +kernel
theorem dX0_use_6 : decode cX0_use 6 = .ok (.iadd, 1) := by decide +kernel
theorem dX0_use_7 : decode cX0_use 7 = .ok (.putfield 30, 3) := by decide +kernel
theorem dX0_use_10 : decode cX0_use 10 = .ok (.aload_n 0, 1) := by decide +kernel
theorem dX0_use_11 : decode cX0_use 11 = .ok (.getfield 21, 3) := by decide +kernel
theorem dX0_use_14 : decode cX0_use 14 = .ok (.iload_n 1, 1) := by decide +kernel
theorem dX0_use_15 : decode cX0_use 15 = .ok (.bipush 32, 2) := by decide +kernel
theorem dX0_use_17 : decode cX0_use 17 = .ok (.imul, 1) := by decide +kernel
theorem dX0_use_18 : decode cX0_use 18 = .ok (.iload_n 2, 1) := by decide +kernel
theorem dX0_use_19 : decode cX0_use 19 = .ok (.iadd, 1) := by decide +kernel
theorem dX0_use_20 : decode cX0_use 20 = .ok (.aload_n 0, 1) := by decide +kernel
theorem dX0_use_21 : decode cX0_use 21 = .ok (.getfield 30, 3) := by decide +kernel
theorem dX0_use_24 : decode cX0_use 24 = .ok (.iastore, 1) := by decide +kernel
theorem dX0_use_25 : decode cX0_use 25 = .ok (.return_, 1) := by decide +kernel
theorem dX0_remove_0 : decode cX0_remove 0 = .ok (.aload_n 0, 1) := by decide +kernel
theorem dX0_remove_1 : decode cX0_remove 1 = .ok (.getfield 9, 3) := by decide +kernel
theorem dX0_remove_4 : decode cX0_remove 4 = .ok (.iload_n 1, 1) := by decide +kernel
theorem dX0_remove_5 : decode cX0_remove 5 = .ok (.bipush 32, 2) := by decide +kernel
theorem dX0_remove_7 : decode cX0_remove 7 = .ok (.imul, 1) := by decide +kernel
theorem dX0_remove_8 : decode cX0_remove 8 = .ok (.iload_n 2, 1) := by decide +kernel
theorem dX0_remove_9 : decode cX0_remove 9 = .ok (.iadd, 1) := by decide +kernel
theorem dX0_remove_10 : decode cX0_remove 10 = .ok (.iconst 0, 1) := by decide +kernel
theorem dX0_remove_11 : decode cX0_remove 11 = .ok (.iastore, 1) := by decide +kernel
theorem dX0_remove_12 : decode cX0_remove 12 = .ok (.return_, 1) := by decide +kernel
theorem dX0_removeOthers_0 : decode cX0_removeOthers 0 = .ok (.iconst 0, 1) := by decide +kernel
theorem dX0_removeOthers_1 : decode cX0_removeOthers 1 = .ok (.istore_n 3, 1) := by decide +kernel
theorem dX0_removeOthers_2 : decode cX0_removeOthers 2 = .ok (.iload_n 3, 1) := by decide +kernel
theorem dX0_removeOthers_3 : decode cX0_removeOthers 3 = .ok (.bipush 6, 2) := by decide +kernel
theorem dX0_removeOthers_5 : decode cX0_removeOthers 5 = .ok (.if_icmp .ge 26, 3) := by decide +kernel
theorem dX0_removeOthers_8 : decode cX0_removeOthers 8 = .ok (.iload_n 3, 1) := by decide +kernel
theorem dX0_removeOthers_9 : decode cX0_removeOthers 9 = .ok (.iload_n 1, 1) := by decide +kernel
theorem dX0_removeOthers_10 : decode cX0_removeOthers 10 = .ok (.if_icmp .eq 15, 3) := by decide +kernel
theorem dX0_removeOthers_13 : decode cX0_removeOthers 13 = .ok (.aload_n 0, 1) := by decide +kernel
theorem dX0_removeOthers_14 : decode cX0_removeOthers 14 = .ok (.getfield 9, 3) := by decide +kernel
theorem dX0_removeOthers_17 : decode cX0_removeOthers 17 = .ok (.iload_n 3, 1) := by decide +kernel
theorem dX0_removeOthers_18 : decode cX0_removeOthers 18 = .ok (.bipush 32, 2) := by decide +kernel
theorem dX0_removeOthers_20 : decode cX0_removeOthers 20 = .ok (.imul, 1) := by decide +kernel
theorem dX0_removeOthers_21 : decode cX0_removeOthers 21 = .ok (.iload_n 2, 1) := by decide +kernel
theorem dX0_removeOthers_22 : decode cX0_removeOthers 22 = .ok (.iadd, 1) := by decide +kernel
theorem dX0_removeOthers_23 : decode cX0_removeOthers 23 = .ok (.iconst 0, 1) := by decide +kernel
theorem dX0_removeOthers_24 : decode cX0_removeOthers 24 = .ok (.iastore, 1) := by decide +kernel
theorem dX0_removeOthers_25 : decode cX0_removeOthers 25 = .ok (.iinc 3 1, 3) := by decide +kernel
theorem dX0_removeOthers_28 : decode cX0_removeOthers 28 = .ok (.goto (-26), 3) := by decide +kernel
theorem dX0_removeOthers_31 : decode cX0_removeOthers 31 = .ok (.return_, 1) := by decide +kernel
theorem dX0_ownerOf_0 : decode cX0_ownerOf 0 = .ok (.iconst 0, 1) := by decide +kernel
theorem dX0_ownerOf_1 : decode cX0_ownerOf 1 = .ok (.istore_n 2, 1) := by decide +kernel
theorem dX0_ownerOf_2 : decode cX0_ownerOf 2 = .ok (.iload_n 2, 1) := by decide +kernel
theorem dX0_ownerOf_3 : decode cX0_ownerOf 3 = .ok (.bipush 6, 2) := by decide +kernel
theorem dX0_ownerOf_5 : decode cX0_ownerOf 5 = .ok (.if_icmp .ge 26, 3) := by decide +kernel
theorem dX0_ownerOf_8 : decode cX0_ownerOf 8 = .ok (.aload_n 0, 1) := by decide +kernel
theorem dX0_ownerOf_9 : decode cX0_ownerOf 9 = .ok (.getfield 9, 3) := by decide +kernel
theorem dX0_ownerOf_12 : decode cX0_ownerOf 12 = .ok (.iload_n 2, 1) := by decide +kernel
theorem dX0_ownerOf_13 : decode cX0_ownerOf 13 = .ok (.bipush 32, 2) := by decide +kernel
theorem dX0_ownerOf_15 : decode cX0_ownerOf 15 = .ok (.imul, 1) := by decide +kernel
theorem dX0_ownerOf_16 : decode cX0_ownerOf 16 = .ok (.iload_n 1, 1) := by decide +kernel
theorem dX0_ownerOf_17 : decode cX0_ownerOf 17 = .ok (.iadd, 1) := by decide +kernel
theorem dX0_ownerOf_18 : decode cX0_ownerOf 18 = .ok (.iaload, 1) := by decide +kernel
theorem dX0_ownerOf_19 : decode cX0_ownerOf 19 = .ok (.iconst 2, 1) := by decide +kernel
theorem dX0_ownerOf_20 : decode cX0_ownerOf 20 = .ok (.if_icmp .ne 5, 3) := by decide +kernel
theorem dX0_ownerOf_23 : decode cX0_ownerOf 23 = .ok (.iload_n 2, 1) := by decide +kernel
theorem dX0_ownerOf_24 : decode cX0_ownerOf 24 = .ok (.ireturn, 1) := by decide +kernel
theorem dX0_ownerOf_25 : decode cX0_ownerOf 25 = .ok (.iinc 2 1, 3) := by decide +kernel
theorem dX0_ownerOf_28 : decode cX0_ownerOf 28 = .ok (.goto (-26), 3) := by decide +kernel
theorem dX0_ownerOf_31 : decode cX0_ownerOf 31 = .ok (.iconst (-1), 1) := by decide +kernel
theorem dX0_ownerOf_32 : decode cX0_ownerOf 32 = .ok (.ireturn, 1) := by decide +kernel
theorem dX0_sharersOf_0 : decode cX0_sharersOf 0 = .ok (.iconst 0, 1) := by decide +kernel
theorem dX0_sharersOf_1 : decode cX0_sharersOf 1 = .ok (.istore_n 2, 1) := by decide +kernel
theorem dX0_sharersOf_2 : decode cX0_sharersOf 2 = .ok (.iconst 0, 1) := by decide +kernel
theorem dX0_sharersOf_3 : decode cX0_sharersOf 3 = .ok (.istore_n 3, 1) := by decide +kernel
theorem dX0_sharersOf_4 : decode cX0_sharersOf 4 = .ok (.iload_n 3, 1) := by decide +kernel
theorem dX0_sharersOf_5 : decode cX0_sharersOf 5 = .ok (.bipush 6, 2) := by decide +kernel
theorem dX0_sharersOf_7 : decode cX0_sharersOf 7 = .ok (.if_icmp .ge 30, 3) := by decide +kernel
theorem dX0_sharersOf_10 : decode cX0_sharersOf 10 = .ok (.aload_n 0, 1) := by decide +kernel
theorem dX0_sharersOf_11 : decode cX0_sharersOf 11 = .ok (.getfield 9, 3) := by decide +kernel
theorem dX0_sharersOf_14 : decode cX0_sharersOf 14 = .ok (.iload_n 3, 1) := by decide +kernel
theorem dX0_sharersOf_15 : decode cX0_sharersOf 15 = .ok (.bipush 32, 2) := by decide +kernel
theorem dX0_sharersOf_17 : decode cX0_sharersOf 17 = .ok (.imul, 1) := by decide +kernel
theorem dX0_sharersOf_18 : decode cX0_sharersOf 18 = .ok (.iload_n 1, 1) := by decide +kernel
theorem dX0_sharersOf_19 : decode cX0_sharersOf 19 = .ok (.iadd, 1) := by decide +kernel
theorem dX0_sharersOf_20 : decode cX0_sharersOf 20 = .ok (.iaload, 1) := by decide +kernel
theorem dX0_sharersOf_21 : decode cX0_sharersOf 21 = .ok (.iconst 1, 1) := by decide +kernel
theorem dX0_sharersOf_22 : decode cX0_sharersOf 22 = .ok (.if_icmp .ne 9, 3) := by decide +kernel
theorem dX0_sharersOf_25 : decode cX0_sharersOf 25 = .ok (.iload_n 2, 1) := by decide +kernel
theorem dX0_sharersOf_26 : decode cX0_sharersOf 26 = .ok (.iconst 1, 1) := by decide +kernel
theorem dX0_sharersOf_27 : decode cX0_sharersOf 27 = .ok (.iload_n 3, 1) := by decide +kernel
theorem dX0_sharersOf_28 : decode cX0_sharersOf 28 = .ok (.ishl, 1) := by decide +kernel
theorem dX0_sharersOf_29 : decode cX0_sharersOf 29 = .ok (.ior, 1) := by decide +kernel
theorem dX0_sharersOf_30 : decode cX0_sharersOf 30 = .ok (.istore_n 2, 1) := by decide +kernel
theorem dX0_sharersOf_31 : decode cX0_sharersOf 31 = .ok (.iinc 3 1, 3) := by decide +kernel
theorem dX0_sharersOf_34 : decode cX0_sharersOf 34 = .ok (.goto (-30), 3) := by decide +kernel
theorem dX0_sharersOf_37 : decode cX0_sharersOf 37 = .ok (.iload_n 2, 1) := by decide +kernel
theorem dX0_sharersOf_38 : decode cX0_sharersOf 38 = .ok (.ireturn, 1) := by decide +kernel
theorem dX0_countOf_0 : decode cX0_countOf 0 = .ok (.iconst 0, 1) := by decide +kernel
theorem dX0_countOf_1 : decode cX0_countOf 1 = .ok (.istore_n 2, 1) := by decide +kernel
theorem dX0_countOf_2 : decode cX0_countOf 2 = .ok (.iconst 0, 1) := by decide +kernel
theorem dX0_countOf_3 : decode cX0_countOf 3 = .ok (.istore_n 3, 1) := by decide +kernel
theorem dX0_countOf_4 : decode cX0_countOf 4 = .ok (.iload_n 3, 1) := by decide +kernel
theorem dX0_countOf_5 : decode cX0_countOf 5 = .ok (.bipush 6, 2) := by decide +kernel
theorem dX0_countOf_7 : decode cX0_countOf 7 = .ok (.if_icmp .ge 26, 3) := by decide +kernel
theorem dX0_countOf_10 : decode cX0_countOf 10 = .ok (.aload_n 0, 1) := by decide +kernel
theorem dX0_countOf_11 : decode cX0_countOf 11 = .ok (.getfield 9, 3) := by decide +kernel
theorem dX0_countOf_14 : decode cX0_countOf 14 = .ok (.iload_n 3, 1) := by decide +kernel
theorem dX0_countOf_15 : decode cX0_countOf 15 = .ok (.bipush 32, 2) := by decide +kernel
theorem dX0_countOf_17 : decode cX0_countOf 17 = .ok (.imul, 1) := by decide +kernel
theorem dX0_countOf_18 : decode cX0_countOf 18 = .ok (.iload_n 1, 1) := by decide +kernel
theorem dX0_countOf_19 : decode cX0_countOf 19 = .ok (.iadd, 1) := by decide +kernel
theorem dX0_countOf_20 : decode cX0_countOf 20 = .ok (.iaload, 1) := by decide +kernel
theorem dX0_countOf_21 : decode cX0_countOf 21 = .ok (.ifCond .eq 6, 3) := by decide +kernel
theorem dX0_countOf_24 : decode cX0_countOf 24 = .ok (.iinc 2 1, 3) := by decide +kernel
theorem dX0_countOf_27 : decode cX0_countOf 27 = .ok (.iinc 3 1, 3) := by decide +kernel
theorem dX0_countOf_30 : decode cX0_countOf 30 = .ok (.goto (-26), 3) := by decide +kernel
theorem dX0_countOf_33 : decode cX0_countOf 33 = .ok (.iload_n 2, 1) := by decide +kernel
theorem dX0_countOf_34 : decode cX0_countOf 34 = .ok (.ireturn, 1) := by decide +kernel
theorem dX0_freeSlot_0 : decode cX0_freeSlot 0 = .ok (.iconst 0, 1) := by decide +kernel
theorem dX0_freeSlot_1 : decode cX0_freeSlot 1 = .ok (.istore_n 3, 1) := by decide +kernel
theorem dX0_freeSlot_2 : decode cX0_freeSlot 2 = .ok (.iconst 0, 1) := by decide +kernel
theorem dX0_freeSlot_3 : decode cX0_freeSlot 3 = .ok (.istore 4, 2) := by decide +kernel
theorem dX0_freeSlot_5 : decode cX0_freeSlot 5 = .ok (.iload 4, 2) := by decide +kernel
theorem dX0_freeSlot_7 : decode cX0_freeSlot 7 = .ok (.bipush 32, 2) := by decide +kernel
theorem dX0_freeSlot_9 : decode cX0_freeSlot 9 = .ok (.if_icmp .ge 41, 3) := by decide +kernel
theorem dX0_freeSlot_12 : decode cX0_freeSlot 12 = .ok (.aload_n 0, 1) := by decide +kernel
theorem dX0_freeSlot_13 : decode cX0_freeSlot 13 = .ok (.getfield 9, 3) := by decide +kernel
theorem dX0_freeSlot_16 : decode cX0_freeSlot 16 = .ok (.iload_n 1, 1) := by decide +kernel
theorem dX0_freeSlot_17 : decode cX0_freeSlot 17 = .ok (.bipush 32, 2) := by decide +kernel
theorem dX0_freeSlot_19 : decode cX0_freeSlot 19 = .ok (.imul, 1) := by decide +kernel
theorem dX0_freeSlot_20 : decode cX0_freeSlot 20 = .ok (.iload 4, 2) := by decide +kernel
theorem dX0_freeSlot_22 : decode cX0_freeSlot 22 = .ok (.iadd, 1) := by decide +kernel
theorem dX0_freeSlot_23 : decode cX0_freeSlot 23 = .ok (.iaload, 1) := by decide +kernel
theorem dX0_freeSlot_24 : decode cX0_freeSlot 24 = .ok (.ifCond .eq 20, 3) := by decide +kernel
theorem dX0_freeSlot_27 : decode cX0_freeSlot 27 = .ok (.iload_n 3, 1) := by decide +kernel
theorem dX0_freeSlot_28 : decode cX0_freeSlot 28 = .ok (.iconst 1, 1) := by decide +kernel
theorem dX0_freeSlot_29 : decode cX0_freeSlot 29 = .ok (.aload_n 0, 1) := by decide +kernel
theorem dX0_freeSlot_30 : decode cX0_freeSlot 30 = .ok (.getfield 18, 3) := by decide +kernel
theorem dX0_freeSlot_33 : decode cX0_freeSlot 33 = .ok (.iload_n 1, 1) := by decide +kernel
theorem dX0_freeSlot_34 : decode cX0_freeSlot 34 = .ok (.bipush 32, 2) := by decide +kernel
theorem dX0_freeSlot_36 : decode cX0_freeSlot 36 = .ok (.imul, 1) := by decide +kernel
theorem dX0_freeSlot_37 : decode cX0_freeSlot 37 = .ok (.iload 4, 2) := by decide +kernel
theorem dX0_freeSlot_39 : decode cX0_freeSlot 39 = .ok (.iadd, 1) := by decide +kernel
theorem dX0_freeSlot_40 : decode cX0_freeSlot 40 = .ok (.iaload, 1) := by decide +kernel
theorem dX0_freeSlot_41 : decode cX0_freeSlot 41 = .ok (.ishl, 1) := by decide +kernel
theorem dX0_freeSlot_42 : decode cX0_freeSlot 42 = .ok (.ior, 1) := by decide +kernel
theorem dX0_freeSlot_43 : decode cX0_freeSlot 43 = .ok (.istore_n 3, 1) := by decide +kernel
theorem dX0_freeSlot_44 : decode cX0_freeSlot 44 = .ok (.iinc 4 1, 3) := by decide +kernel
theorem dX0_freeSlot_47 : decode cX0_freeSlot 47 = .ok (.goto (-42), 3) := by decide +kernel
theorem dX0_freeSlot_50 : decode cX0_freeSlot 50 = .ok (.iconst 0, 1) := by decide +kernel
theorem dX0_freeSlot_51 : decode cX0_freeSlot 51 = .ok (.istore 4, 2) := by decide +kernel
theorem dX0_freeSlot_53 : decode cX0_freeSlot 53 = .ok (.iload 4, 2) := by decide +kernel
theorem dX0_freeSlot_55 : decode cX0_freeSlot 55 = .ok (.iload_n 2, 1) := by decide +kernel
theorem dX0_freeSlot_56 : decode cX0_freeSlot 56 = .ok (.if_icmp .ge 21, 3) := by decide +kernel
theorem dX0_freeSlot_59 : decode cX0_freeSlot 59 = .ok (.iload_n 3, 1) := by decide +kernel
theorem dX0_freeSlot_60 : decode cX0_freeSlot 60 = .ok (.iload 4, 2) := by decide +kernel
theorem dX0_freeSlot_62 : decode cX0_freeSlot 62 = .ok (.ishr, 1) := by decide +kernel
theorem dX0_freeSlot_63 : decode cX0_freeSlot 63 = .ok (.iconst 1, 1) := by decide +kernel
theorem dX0_freeSlot_64 : decode cX0_freeSlot 64 = .ok (.iand, 1) := by decide +kernel
theorem dX0_freeSlot_65 : decode cX0_freeSlot 65 = .ok (.ifCond .ne 6, 3) := by decide +kernel
theorem dX0_freeSlot_68 : decode cX0_freeSlot 68 = .ok (.iload 4, 2) := by decide +kernel
theorem dX0_freeSlot_70 : decode cX0_freeSlot 70 = .ok (.ireturn, 1) := by decide +kernel
theorem dX0_freeSlot_71 : decode cX0_freeSlot 71 = .ok (.iinc 4 1, 3) := by decide +kernel
theorem dX0_freeSlot_74 : decode cX0_freeSlot 74 = .ok (.goto (-21), 3) := by decide +kernel
theorem dX0_freeSlot_77 : decode cX0_freeSlot 77 = .ok (.iconst (-1), 1) := by decide +kernel
theorem dX0_freeSlot_78 : decode cX0_freeSlot 78 = .ok (.ireturn, 1) := by decide +kernel
theorem dX0_leastUsed_0 : decode cX0_leastUsed 0 = .ok (.iconst (-1), 1) := by decide +kernel
theorem dX0_leastUsed_1 : decode cX0_leastUsed 1 = .ok (.istore_n 2, 1) := by decide +kernel
theorem dX0_leastUsed_2 : decode cX0_leastUsed 2 = .ok (.iconst 0, 1) := by decide +kernel
theorem dX0_leastUsed_3 : decode cX0_leastUsed 3 = .ok (.istore_n 3, 1) := by decide +kernel
theorem dX0_leastUsed_4 : decode cX0_leastUsed 4 = .ok (.iconst 0, 1) := by decide +kernel
theorem dX0_leastUsed_5 : decode cX0_leastUsed 5 = .ok (.istore 4, 2) := by decide +kernel
theorem dX0_leastUsed_7 : decode cX0_leastUsed 7 = .ok (.iload 4, 2) := by decide +kernel
theorem dX0_leastUsed_9 : decode cX0_leastUsed 9 = .ok (.bipush 32, 2) := by decide +kernel
theorem dX0_leastUsed_11 : decode cX0_leastUsed 11 = .ok (.if_icmp .ge 55, 3) := by decide +kernel
theorem dX0_leastUsed_14 : decode cX0_leastUsed 14 = .ok (.iload_n 1, 1) := by decide +kernel
theorem dX0_leastUsed_15 : decode cX0_leastUsed 15 = .ok (.bipush 32, 2) := by decide +kernel
theorem dX0_leastUsed_17 : decode cX0_leastUsed 17 = .ok (.imul, 1) := by decide +kernel
theorem dX0_leastUsed_18 : decode cX0_leastUsed 18 = .ok (.iload 4, 2) := by decide +kernel
theorem dX0_leastUsed_20 : decode cX0_leastUsed 20 = .ok (.iadd, 1) := by decide +kernel
theorem dX0_leastUsed_21 : decode cX0_leastUsed 21 = .ok (.istore 5, 2) := by decide +kernel
theorem dX0_leastUsed_23 : decode cX0_leastUsed 23 = .ok (.aload_n 0, 1) := by decide +kernel
theorem dX0_leastUsed_24 : decode cX0_leastUsed 24 = .ok (.getfield 9, 3) := by decide +kernel
theorem dX0_leastUsed_27 : decode cX0_leastUsed 27 = .ok (.iload 5, 2) := by decide +kernel
theorem dX0_leastUsed_29 : decode cX0_leastUsed 29 = .ok (.iaload, 1) := by decide +kernel
theorem dX0_leastUsed_30 : decode cX0_leastUsed 30 = .ok (.ifCond .eq 30, 3) := by decide +kernel
theorem dX0_leastUsed_33 : decode cX0_leastUsed 33 = .ok (.iload_n 2, 1) := by decide +kernel
theorem dX0_leastUsed_34 : decode cX0_leastUsed 34 = .ok (.iconst (-1), 1) := by decide +kernel
theorem dX0_leastUsed_35 : decode cX0_leastUsed 35 = .ok (.if_icmp .eq 14, 3) := by decide +kernel
theorem dX0_leastUsed_38 : decode cX0_leastUsed 38 = .ok (.aload_n 0, 1) := by decide +kernel
theorem dX0_leastUsed_39 : decode cX0_leastUsed 39 = .ok (.getfield 21, 3) := by decide +kernel
theorem dX0_leastUsed_42 : decode cX0_leastUsed 42 = .ok (.iload 5, 2) := by decide +kernel
theorem dX0_leastUsed_44 : decode cX0_leastUsed 44 = .ok (.iaload, 1) := by decide +kernel
theorem dX0_leastUsed_45 : decode cX0_leastUsed 45 = .ok (.iload_n 3, 1) := by decide +kernel
theorem dX0_leastUsed_46 : decode cX0_leastUsed 46 = .ok (.if_icmp .ge 14, 3) := by decide +kernel
theorem dX0_leastUsed_49 : decode cX0_leastUsed 49 = .ok (.iload 4, 2) := by decide +kernel
theorem dX0_leastUsed_51 : decode cX0_leastUsed 51 = .ok (.istore_n 2, 1) := by decide +kernel
theorem dX0_leastUsed_52 : decode cX0_leastUsed 52 = .ok (.aload_n 0, 1) := by decide +kernel
theorem dX0_leastUsed_53 : decode cX0_leastUsed 53 = .ok (.getfield 21, 3) := by decide +kernel
theorem dX0_leastUsed_56 : decode cX0_leastUsed 56 = .ok (.iload 5, 2) := by decide +kernel
theorem dX0_leastUsed_58 : decode cX0_leastUsed 58 = .ok (.iaload, 1) := by decide +kernel
theorem dX0_leastUsed_59 : decode cX0_leastUsed 59 = .ok (.istore_n 3, 1) := by decide +kernel
theorem dX0_leastUsed_60 : decode cX0_leastUsed 60 = .ok (.iinc 4 1, 3) := by decide +kernel
theorem dX0_leastUsed_63 : decode cX0_leastUsed 63 = .ok (.goto (-56), 3) := by decide +kernel
theorem dX0_leastUsed_66 : decode cX0_leastUsed 66 = .ok (.iload_n 2, 1) := by decide +kernel
theorem dX0_leastUsed_67 : decode cX0_leastUsed 67 = .ok (.ireturn, 1) := by decide +kernel
theorem dX0_usedLater_0 : decode cX0_usedLater 0 = .ok (.aload_n 0, 1) := by decide +kernel
theorem dX0_usedLater_1 : decode cX0_usedLater 1 = .ok (.getfield 21, 3) := by decide +kernel
theorem dX0_usedLater_4 : decode cX0_usedLater 4 = .ok (.iload_n 1, 1) := by decide +kernel
theorem dX0_usedLater_5 : decode cX0_usedLater 5 = .ok (.bipush 32, 2) := by decide +kernel
theorem dX0_usedLater_7 : decode cX0_usedLater 7 = .ok (.imul, 1) := by decide +kernel
theorem dX0_usedLater_8 : decode cX0_usedLater 8 = .ok (.iload_n 2, 1) := by decide +kernel
theorem dX0_usedLater_9 : decode cX0_usedLater 9 = .ok (.iadd, 1) := by decide +kernel
theorem dX0_usedLater_10 : decode cX0_usedLater 10 = .ok (.iaload, 1) := by decide +kernel
theorem dX0_usedLater_11 : decode cX0_usedLater 11 = .ok (.istore_n 3, 1) := by decide +kernel
theorem dX0_usedLater_12 : decode cX0_usedLater 12 = .ok (.iconst 0, 1) := by decide +kernel
theorem dX0_usedLater_13 : decode cX0_usedLater 13 = .ok (.istore 4, 2) := by decide +kernel
theorem dX0_usedLater_15 : decode cX0_usedLater 15 = .ok (.iconst 0, 1) := by decide +kernel
theorem dX0_usedLater_16 : decode cX0_usedLater 16 = .ok (.istore 5, 2) := by decide +kernel
theorem dX0_usedLater_18 : decode cX0_usedLater 18 = .ok (.iload 5, 2) := by decide +kernel
theorem dX0_usedLater_20 : decode cX0_usedLater 20 = .ok (.bipush 32, 2) := by decide +kernel
theorem dX0_usedLater_22 : decode cX0_usedLater 22 = .ok (.if_icmp .ge 42, 3) := by decide +kernel
theorem dX0_usedLater_25 : decode cX0_usedLater 25 = .ok (.iload_n 1, 1) := by decide +kernel
theorem dX0_usedLater_26 : decode cX0_usedLater 26 = .ok (.bipush 32, 2) := by decide +kernel
theorem dX0_usedLater_28 : decode cX0_usedLater 28 = .ok (.imul, 1) := by decide +kernel
theorem dX0_usedLater_29 : decode cX0_usedLater 29 = .ok (.iload 5, 2) := by decide +kernel
theorem dX0_usedLater_31 : decode cX0_usedLater 31 = .ok (.iadd, 1) := by decide +kernel
theorem dX0_usedLater_32 : decode cX0_usedLater 32 = .ok (.istore 6, 2) := by decide +kernel
theorem dX0_usedLater_34 : decode cX0_usedLater 34 = .ok (.aload_n 0, 1) := by decide +kernel
theorem dX0_usedLater_35 : decode cX0_usedLater 35 = .ok (.getfield 9, 3) := by decide +kernel
theorem dX0_usedLater_38 : decode cX0_usedLater 38 = .ok (.iload 6, 2) := by decide +kernel
theorem dX0_usedLater_40 : decode cX0_usedLater 40 = .ok (.iaload, 1) := by decide +kernel
theorem dX0_usedLater_41 : decode cX0_usedLater 41 = .ok (.ifCond .eq 17, 3) := by decide +kernel
theorem dX0_usedLater_44 : decode cX0_usedLater 44 = .ok (.aload_n 0, 1) := by decide +kernel
theorem dX0_usedLater_45 : decode cX0_usedLater 45 = .ok (.getfield 21, 3) := by decide +kernel
theorem dX0_usedLater_48 : decode cX0_usedLater 48 = .ok (.iload 6, 2) := by decide +kernel
theorem dX0_usedLater_50 : decode cX0_usedLater 50 = .ok (.iaload, 1) := by decide +kernel
theorem dX0_usedLater_51 : decode cX0_usedLater 51 = .ok (.iload_n 3, 1) := by decide +kernel
theorem dX0_usedLater_52 : decode cX0_usedLater 52 = .ok (.if_icmp .le 6, 3) := by decide +kernel
theorem dX0_usedLater_55 : decode cX0_usedLater 55 = .ok (.iinc 4 1, 3) := by decide +kernel
theorem dX0_usedLater_58 : decode cX0_usedLater 58 = .ok (.iinc 5 1, 3) := by decide +kernel
theorem dX0_usedLater_61 : decode cX0_usedLater 61 = .ok (.goto (-43), 3) := by decide +kernel
theorem dX0_usedLater_64 : decode cX0_usedLater 64 = .ok (.iload 4, 2) := by decide +kernel
theorem dX0_usedLater_66 : decode cX0_usedLater 66 = .ok (.ireturn, 1) := by decide +kernel
theorem dX0_fact_0 : decode cX0_fact 0 = .ok (.iload_n 1, 1) := by decide +kernel
theorem dX0_fact_1 : decode cX0_fact 1 = .ok (.bipush 32, 2) := by decide +kernel
theorem dX0_fact_3 : decode cX0_fact 3 = .ok (.imul, 1) := by decide +kernel
theorem dX0_fact_4 : decode cX0_fact 4 = .ok (.iload_n 2, 1) := by decide +kernel
theorem dX0_fact_5 : decode cX0_fact 5 = .ok (.iadd, 1) := by decide +kernel
theorem dX0_fact_6 : decode cX0_fact 6 = .ok (.istore 4, 2) := by decide +kernel
theorem dX0_fact_8 : decode cX0_fact 8 = .ok (.iload_n 3, 1) := by decide +kernel
theorem dX0_fact_9 : decode cX0_fact 9 = .ok (.ifCond .ne 11, 3) := by decide +kernel
theorem dX0_fact_12 : decode cX0_fact 12 = .ok (.aload_n 0, 1) := by decide +kernel
theorem dX0_fact_13 : decode cX0_fact 13 = .ok (.getfield 9, 3) := by decide +kernel
theorem dX0_fact_16 : decode cX0_fact 16 = .ok (.iload 4, 2) := by decide +kernel
theorem dX0_fact_18 : decode cX0_fact 18 = .ok (.iaload, 1) := by decide +kernel
theorem dX0_fact_19 : decode cX0_fact 19 = .ok (.ireturn, 1) := by decide +kernel
theorem dX0_fact_20 : decode cX0_fact 20 = .ok (.aload_n 0, 1) := by decide +kernel
theorem dX0_fact_21 : decode cX0_fact 21 = .ok (.getfield 9, 3) := by decide +kernel
theorem dX0_fact_24 : decode cX0_fact 24 = .ok (.iload 4, 2) := by decide +kernel
theorem dX0_fact_26 : decode cX0_fact 26 = .ok (.iaload, 1) := by decide +kernel
theorem dX0_fact_27 : decode cX0_fact 27 = .ok (.ifCond .ne 5, 3) := by decide +kernel
theorem dX0_fact_30 : decode cX0_fact 30 = .ok (.iconst (-1), 1) := by decide +kernel
theorem dX0_fact_31 : decode cX0_fact 31 = .ok (.ireturn, 1) := by decide +kernel
theorem dX0_fact_32 : decode cX0_fact 32 = .ok (.iload_n 3, 1) := by decide +kernel
theorem dX0_fact_33 : decode cX0_fact 33 = .ok (.lookupswitch 43 #[(1, 27), (2, 35)], 27) := by decide +kernel
theorem dX0_fact_60 : decode cX0_fact 60 = .ok (.aload_n 0, 1) := by decide +kernel
theorem dX0_fact_61 : decode cX0_fact 61 = .ok (.getfield 15, 3) := by decide +kernel
theorem dX0_fact_64 : decode cX0_fact 64 = .ok (.iload 4, 2) := by decide +kernel
theorem dX0_fact_66 : decode cX0_fact 66 = .ok (.iaload, 1) := by decide +kernel
theorem dX0_fact_67 : decode cX0_fact 67 = .ok (.ireturn, 1) := by decide +kernel
theorem dX0_fact_68 : decode cX0_fact 68 = .ok (.aload_n 0, 1) := by decide +kernel
theorem dX0_fact_69 : decode cX0_fact 69 = .ok (.getfield 18, 3) := by decide +kernel
theorem dX0_fact_72 : decode cX0_fact 72 = .ok (.iload 4, 2) := by decide +kernel
theorem dX0_fact_74 : decode cX0_fact 74 = .ok (.iaload, 1) := by decide +kernel
theorem dX0_fact_75 : decode cX0_fact 75 = .ok (.ireturn, 1) := by decide +kernel
theorem dX0_fact_76 : decode cX0_fact 76 = .ok (.aload_n 0, 1) := by decide +kernel
theorem dX0_fact_77 : decode cX0_fact 77 = .ok (.iload_n 1, 1) := by decide +kernel
theorem dX0_fact_78 : decode cX0_fact 78 = .ok (.iload_n 2, 1) := by decide +kernel
theorem dX0_fact_79 : decode cX0_fact 79 = .ok (.invokevirtual 40, 3) := by decide +kernel
theorem dX0_fact_82 : decode cX0_fact 82 = .ok (.ireturn, 1) := by decide +kernel
theorem dX1_init_0 : decode cX1_init 0 = .ok (.aload_n 0, 1) := by decide +kernel
theorem dX1_init_1 : decode cX1_init 1 = .ok (.invokespecial 3, 3) := by decide +kernel
theorem dX1_init_4 : decode cX1_init 4 = .ok (.aload_n 0, 1) := by decide +kernel
theorem dX1_init_5 : decode cX1_init 5 = .ok (.bipush 32, 2) := by decide +kernel
theorem dX1_init_7 : decode cX1_init 7 = .ok (.newarray .int, 2) := by decide +kernel
theorem dX1_init_9 : decode cX1_init 9 = .ok (.putfield 9, 3) := by decide +kernel
theorem dX1_init_12 : decode cX1_init 12 = .ok (.return_, 1) := by decide +kernel
theorem dX1_empty_0 : decode cX1_empty 0 = .ok (.aload_n 0, 1) := by decide +kernel
theorem dX1_empty_1 : decode cX1_empty 1 = .ok (.getfield 9, 3) := by decide +kernel
theorem dX1_empty_4 : decode cX1_empty 4 = .ok (.iconst 0, 1) := by decide +kernel
theorem dX1_empty_5 : decode cX1_empty 5 = .ok (.invokestatic 15, 3) := by decide +kernel
theorem dX1_empty_8 : decode cX1_empty 8 = .ok (.aload_n 0, 1) := by decide +kernel
theorem dX1_empty_9 : decode cX1_empty 9 = .ok (.iconst 0, 1) := by decide +kernel
theorem dX1_empty_10 : decode cX1_empty 10 = .ok (.putfield 21, 3) := by decide +kernel
theorem dX1_empty_13 : decode cX1_empty 13 = .ok (.aload_n 0, 1) := by decide +kernel
theorem dX1_empty_14 : decode cX1_empty 14 = .ok (.iconst 0, 1) := by decide +kernel
theorem dX1_empty_15 : decode cX1_empty 15 = .ok (.putfield 25, 3) := by decide +kernel
theorem dX1_empty_18 : decode cX1_empty 18 = .ok (.aload_n 0, 1) := by decide +kernel
theorem dX1_empty_19 : decode cX1_empty 19 = .ok (.iload_n 1, 1) := by decide +kernel
theorem dX1_empty_20 : decode cX1_empty 20 = .ok (.putfield 28, 3) := by decide +kernel
theorem dX1_empty_23 : decode cX1_empty 23 = .ok (.aload_n 0, 1) := by decide +kernel
theorem dX1_empty_24 : decode cX1_empty 24 = .ok (.iconst 0, 1) := by decide +kernel
theorem dX1_empty_25 : decode cX1_empty 25 = .ok (.putfield 31, 3) := by decide +kernel
theorem dX1_empty_28 : decode cX1_empty 28 = .ok (.aload_n 0, 1) := by decide +kernel
theorem dX1_empty_29 : decode cX1_empty 29 = .ok (.iconst 0, 1) := by decide +kernel
theorem dX1_empty_30 : decode cX1_empty 30 = .ok (.putfield 34, 3) := by decide +kernel
theorem dX1_empty_33 : decode cX1_empty 33 = .ok (.aload_n 0, 1) := by decide +kernel
theorem dX1_empty_34 : decode cX1_empty 34 = .ok (.iconst 0, 1) := by decide +kernel
theorem dX1_empty_35 : decode cX1_empty 35 = .ok (.putfield 37, 3) := by decide +kernel
theorem dX1_empty_38 : decode cX1_empty 38 = .ok (.return_, 1) := by decide +kernel
theorem dX1_takeOver_0 : decode cX1_takeOver 0 = .ok (.aload_n 1, 1) := by decide +kernel
theorem dX1_takeOver_1 : decode cX1_takeOver 1 = .ok (.getfield 9, 3) := by decide +kernel
theorem dX1_takeOver_4 : decode cX1_takeOver 4 = .ok (.iconst 0, 1) := by decide +kernel
theorem dX1_takeOver_5 : decode cX1_takeOver 5 = .ok (.aload_n 0, 1) := by decide +kernel
theorem dX1_takeOver_6 : decode cX1_takeOver 6 = .ok (.getfield 9, 3) := by decide +kernel
theorem dX1_takeOver_9 : decode cX1_takeOver 9 = .ok (.iconst 0, 1) := by decide +kernel
theorem dX1_takeOver_10 : decode cX1_takeOver 10 = .ok (.bipush 32, 2) := by decide +kernel
theorem dX1_takeOver_12 : decode cX1_takeOver 12 = .ok (.invokestatic 40, 3) := by decide +kernel
theorem dX1_takeOver_15 : decode cX1_takeOver 15 = .ok (.aload_n 0, 1) := by decide +kernel
theorem dX1_takeOver_16 : decode cX1_takeOver 16 = .ok (.aload_n 1, 1) := by decide +kernel
theorem dX1_takeOver_17 : decode cX1_takeOver 17 = .ok (.getfield 21, 3) := by decide +kernel
theorem dX1_takeOver_20 : decode cX1_takeOver 20 = .ok (.putfield 21, 3) := by decide +kernel
theorem dX1_takeOver_23 : decode cX1_takeOver 23 = .ok (.aload_n 0, 1) := by decide +kernel
theorem dX1_takeOver_24 : decode cX1_takeOver 24 = .ok (.aload_n 1, 1) := by decide +kernel
theorem dX1_takeOver_25 : decode cX1_takeOver 25 = .ok (.getfield 25, 3) := by decide +kernel
theorem dX1_takeOver_28 : decode cX1_takeOver 28 = .ok (.putfield 25, 3) := by decide +kernel
theorem dX1_takeOver_31 : decode cX1_takeOver 31 = .ok (.aload_n 0, 1) := by decide +kernel
theorem dX1_takeOver_32 : decode cX1_takeOver 32 = .ok (.aload_n 1, 1) := by decide +kernel
theorem dX1_takeOver_33 : decode cX1_takeOver 33 = .ok (.getfield 28, 3) := by decide +kernel
theorem dX1_takeOver_36 : decode cX1_takeOver 36 = .ok (.putfield 28, 3) := by decide +kernel
theorem dX1_takeOver_39 : decode cX1_takeOver 39 = .ok (.aload_n 0, 1) := by decide +kernel
theorem dX1_takeOver_40 : decode cX1_takeOver 40 = .ok (.aload_n 1, 1) := by decide +kernel
theorem dX1_takeOver_41 : decode cX1_takeOver 41 = .ok (.getfield 31, 3) := by decide +kernel
theorem dX1_takeOver_44 : decode cX1_takeOver 44 = .ok (.putfield 31, 3) := by decide +kernel
theorem dX1_takeOver_47 : decode cX1_takeOver 47 = .ok (.aload_n 0, 1) := by decide +kernel
theorem dX1_takeOver_48 : decode cX1_takeOver 48 = .ok (.aload_n 1, 1) := by decide +kernel
theorem dX1_takeOver_49 : decode cX1_takeOver 49 = .ok (.getfield 34, 3) := by decide +kernel
theorem dX1_takeOver_52 : decode cX1_takeOver 52 = .ok (.putfield 34, 3) := by decide +kernel
theorem dX1_takeOver_55 : decode cX1_takeOver 55 = .ok (.aload_n 0, 1) := by decide +kernel
theorem dX1_takeOver_56 : decode cX1_takeOver 56 = .ok (.aload_n 1, 1) := by decide +kernel
theorem dX1_takeOver_57 : decode cX1_takeOver 57 = .ok (.getfield 37, 3) := by decide +kernel
theorem dX1_takeOver_60 : decode cX1_takeOver 60 = .ok (.putfield 37, 3) := by decide +kernel
theorem dX1_takeOver_63 : decode cX1_takeOver 63 = .ok (.return_, 1) := by decide +kernel
theorem dX1_hasPage_0 : decode cX1_hasPage 0 = .ok (.aload_n 0, 1) := by decide +kernel
theorem dX1_hasPage_1 : decode cX1_hasPage 1 = .ok (.getfield 9, 3) := by decide +kernel
theorem dX1_hasPage_4 : decode cX1_hasPage 4 = .ok (.iload_n 1, 1) := by decide +kernel
theorem dX1_hasPage_5 : decode cX1_hasPage 5 = .ok (.iaload, 1) := by decide +kernel
theorem dX1_hasPage_6 : decode cX1_hasPage 6 = .ok (.ifCond .le 7, 3) := by decide +kernel
theorem dX1_hasPage_9 : decode cX1_hasPage 9 = .ok (.iconst 1, 1) := by decide +kernel
theorem dX1_hasPage_10 : decode cX1_hasPage 10 = .ok (.goto 4, 3) := by decide +kernel
theorem dX1_hasPage_13 : decode cX1_hasPage 13 = .ok (.iconst 0, 1) := by decide +kernel
theorem dX1_hasPage_14 : decode cX1_hasPage 14 = .ok (.ireturn, 1) := by decide +kernel
theorem dX1_isMarked_0 : decode cX1_isMarked 0 = .ok (.aload_n 0, 1) := by decide +kernel
theorem dX1_isMarked_1 : decode cX1_isMarked 1 = .ok (.getfield 25, 3) := by decide +kernel
theorem dX1_isMarked_4 : decode cX1_isMarked 4 = .ok (.iload_n 1, 1) := by decide +kernel
theorem dX1_isMarked_5 : decode cX1_isMarked 5 = .ok (.ishr, 1) := by decide +kernel
theorem dX1_isMarked_6 : decode cX1_isMarked 6 = .ok (.iconst 1, 1) := by decide +kernel
theorem dX1_isMarked_7 : decode cX1_isMarked 7 = .ok (.iand, 1) := by decide +kernel
theorem dX1_isMarked_8 : decode cX1_isMarked 8 = .ok (.ifCond .eq 7, 3) := by decide +kernel
theorem dX1_isMarked_11 : decode cX1_isMarked 11 = .ok (.iconst 1, 1) := by decide +kernel
theorem dX1_isMarked_12 : decode cX1_isMarked 12 = .ok (.goto 4, 3) := by decide +kernel
theorem dX1_isMarked_15 : decode cX1_isMarked 15 = .ok (.iconst 0, 1) := by decide +kernel
theorem dX1_isMarked_16 : decode cX1_isMarked 16 = .ok (.ireturn, 1) := by decide +kernel
theorem dX1_lineToTear_0 : decode cX1_lineToTear 0 = .ok (.aload_n 0, 1) := by decide +kernel
theorem dX1_lineToTear_1 : decode cX1_lineToTear 1 = .ok (.getfield 31, 3) := by decide +kernel
theorem dX1_lineToTear_4 : decode cX1_lineToTear 4 = .ok (.aload_n 0, 1) := by decide +kernel
theorem dX1_lineToTear_5 : decode cX1_lineToTear 5 = .ok (.getfield 28, 3) := by decide +kernel
theorem dX1_lineToTear_8 : decode cX1_lineToTear 8 = .ok (.if_icmp .ge 5, 3) := by decide +kernel
theorem dX1_lineToTear_11 : decode cX1_lineToTear 11 = .ok (.iconst (-1), 1) := by decide +kernel
theorem dX1_lineToTear_12 : decode cX1_lineToTear 12 = .ok (.ireturn, 1) := by decide +kernel
theorem dX1_lineToTear_13 : decode cX1_lineToTear 13 = .ok (.iconst (-1), 1) := by decide +kernel
theorem dX1_lineToTear_14 : decode cX1_lineToTear 14 = .ok (.istore_n 1, 1) := by decide +kernel
theorem dX1_lineToTear_15 : decode cX1_lineToTear 15 = .ok (.iconst 0, 1) := by decide +kernel
theorem dX1_lineToTear_16 : decode cX1_lineToTear 16 = .ok (.istore_n 2, 1) := by decide +kernel
theorem dX1_lineToTear_17 : decode cX1_lineToTear 17 = .ok (.iconst 0, 1) := by decide +kernel
theorem dX1_lineToTear_18 : decode cX1_lineToTear 18 = .ok (.istore_n 3, 1) := by decide +kernel
theorem dX1_lineToTear_19 : decode cX1_lineToTear 19 = .ok (.iload_n 3, 1) := by decide +kernel
theorem dX1_lineToTear_20 : decode cX1_lineToTear 20 = .ok (.bipush 32, 2) := by decide +kernel
theorem dX1_lineToTear_22 : decode cX1_lineToTear 22 = .ok (.if_icmp .ge 42, 3) := by decide +kernel
theorem dX1_lineToTear_25 : decode cX1_lineToTear 25 = .ok (.aload_n 0, 1) := by decide +kernel
theorem dX1_lineToTear_26 : decode cX1_lineToTear 26 = .ok (.getfield 9, 3) := by decide +kernel
theorem dX1_lineToTear_29 : decode cX1_lineToTear 29 = .ok (.iload_n 3, 1) := by decide +kernel
theorem dX1_lineToTear_30 : decode cX1_lineToTear 30 = .ok (.iaload, 1) := by decide +kernel
theorem dX1_lineToTear_31 : decode cX1_lineToTear 31 = .ok (.ifCond .le 27, 3) := by decide +kernel
theorem dX1_lineToTear_34 : decode cX1_lineToTear 34 = .ok (.iload_n 1, 1) := by decide +kernel
theorem dX1_lineToTear_35 : decode cX1_lineToTear 35 = .ok (.iconst (-1), 1) := by decide +kernel
theorem dX1_lineToTear_36 : decode cX1_lineToTear 36 = .ok (.if_icmp .eq 13, 3) := by decide +kernel
theorem dX1_lineToTear_39 : decode cX1_lineToTear 39 = .ok (.aload_n 0, 1) := by decide +kernel
theorem dX1_lineToTear_40 : decode cX1_lineToTear 40 = .ok (.getfield 9, 3) := by decide +kernel
theorem dX1_lineToTear_43 : decode cX1_lineToTear 43 = .ok (.iload_n 3, 1) := by decide +kernel
theorem dX1_lineToTear_44 : decode cX1_lineToTear 44 = .ok (.iaload, 1) := by decide +kernel
theorem dX1_lineToTear_45 : decode cX1_lineToTear 45 = .ok (.iload_n 2, 1) := by decide +kernel
theorem dX1_lineToTear_46 : decode cX1_lineToTear 46 = .ok (.if_icmp .ge 12, 3) := by decide +kernel
theorem dX1_lineToTear_49 : decode cX1_lineToTear 49 = .ok (.iload_n 3, 1) := by decide +kernel
theorem dX1_lineToTear_50 : decode cX1_lineToTear 50 = .ok (.istore_n 1, 1) := by decide +kernel
theorem dX1_lineToTear_51 : decode cX1_lineToTear 51 = .ok (.aload_n 0, 1) := by decide +kernel
theorem dX1_lineToTear_52 : decode cX1_lineToTear 52 = .ok (.getfield 9, 3) := by decide +kernel
theorem dX1_lineToTear_55 : decode cX1_lineToTear 55 = .ok (.iload_n 3, 1) := by decide +kernel
theorem dX1_lineToTear_56 : decode cX1_lineToTear 56 = .ok (.iaload, 1) := by decide +kernel
theorem dX1_lineToTear_57 : decode cX1_lineToTear 57 = .ok (.istore_n 2, 1) := by decide +kernel
theorem dX1_lineToTear_58 : decode cX1_lineToTear 58 = .ok (.iinc 3 1, 3) := by decide +kernel
theorem dX1_lineToTear_61 : decode cX1_lineToTear 61 = .ok (.goto (-42), 3) := by decide +kernel
theorem dX1_lineToTear_64 : decode cX1_lineToTear 64 = .ok (.iload_n 1, 1) := by decide +kernel
theorem dX1_lineToTear_65 : decode cX1_lineToTear 65 = .ok (.ireturn, 1) := by decide +kernel
theorem dX1_tearOut_0 : decode cX1_tearOut 0 = .ok (.aload_n 0, 1) := by decide +kernel
theorem dX1_tearOut_1 : decode cX1_tearOut 1 = .ok (.getfield 9, 3) := by decide +kernel
theorem dX1_tearOut_4 : decode cX1_tearOut 4 = .ok (.iload_n 1, 1) := by decide +kernel
theorem dX1_tearOut_5 : decode cX1_tearOut 5 = .ok (.iconst 0, 1) := by decide +kernel
theorem dX1_tearOut_6 : decode cX1_tearOut 6 = .ok (.iastore, 1) := by decide +kernel
theorem dX1_tearOut_7 : decode cX1_tearOut 7 = .ok (.aload_n 0, 1) := by decide +kernel
theorem dX1_tearOut_8 : decode cX1_tearOut 8 = .ok (.dup, 1) := by decide +kernel
theorem dX1_tearOut_9 : decode cX1_tearOut 9 = .ok (.getfield 31, 3) := by decide +kernel
theorem dX1_tearOut_12 : decode cX1_tearOut 12 = .ok (.iconst 1, 1) := by decide +kernel
theorem dX1_tearOut_13 : decode cX1_tearOut 13 = .ok (.isub, 1) := by decide +kernel
theorem dX1_tearOut_14 : decode cX1_tearOut 14 = .ok (.putfield 31, 3) := by decide +kernel
theorem dX1_tearOut_17 : decode cX1_tearOut 17 = .ok (.aload_n 0, 1) := by decide +kernel
theorem dX1_tearOut_18 : decode cX1_tearOut 18 = .ok (.dup, 1) := by decide +kernel
theorem dX1_tearOut_19 : decode cX1_tearOut 19 = .ok (.getfield 37, 3) := by decide +kernel
theorem dX1_tearOut_22 : decode cX1_tearOut 22 = .ok (.iconst 1, 1) := by decide +kernel
theorem dX1_tearOut_23 : decode cX1_tearOut 23 = .ok (.iadd, 1) := by decide +kernel
theorem dX1_tearOut_24 : decode cX1_tearOut 24 = .ok (.putfield 37, 3) := by decide +kernel
theorem dX1_tearOut_27 : decode cX1_tearOut 27 = .ok (.iload_n 2, 1) := by decide +kernel
theorem dX1_tearOut_28 : decode cX1_tearOut 28 = .ok (.ifCond .eq 15, 3) := by decide +kernel
theorem dX1_tearOut_31 : decode cX1_tearOut 31 = .ok (.aload_n 0, 1) := by decide +kernel
theorem dX1_tearOut_32 : decode cX1_tearOut 32 = .ok (.dup, 1) := by decide +kernel
theorem dX1_tearOut_33 : decode cX1_tearOut 33 = .ok (.getfield 25, 3) := by decide +kernel
theorem dX1_tearOut_36 : decode cX1_tearOut 36 = .ok (.iconst 1, 1) := by decide +kernel
theorem dX1_tearOut_37 : decode cX1_tearOut 37 = .ok (.iload_n 1, 1) := by decide +kernel
theorem dX1_tearOut_38 : decode cX1_tearOut 38 = .ok (.ishl, 1) := by decide +kernel
theorem dX1_tearOut_39 : decode cX1_tearOut 39 = .ok (.ior, 1) := by decide +kernel
theorem dX1_tearOut_40 : decode cX1_tearOut 40 = .ok (.putfield 25, 3) := by decide +kernel
theorem dX1_tearOut_43 : decode cX1_tearOut 43 = .ok (.return_, 1) := by decide +kernel
theorem dX1_makePage_0 : decode cX1_makePage 0 = .ok (.aload_n 0, 1) := by decide +kernel
theorem dX1_makePage_1 : decode cX1_makePage 1 = .ok (.iload_n 1, 1) := by decide +kernel
theorem dX1_makePage_2 : decode cX1_makePage 2 = .ok (.invokevirtual 46, 3) := by decide +kernel
theorem dX1_makePage_5 : decode cX1_makePage 5 = .ok (.ifCond .eq 27, 3) := by decide +kernel
theorem dX1_makePage_8 : decode cX1_makePage 8 = .ok (.aload_n 0, 1) := by decide +kernel
theorem dX1_makePage_9 : decode cX1_makePage 9 = .ok (.dup, 1) := by decide +kernel
theorem dX1_makePage_10 : decode cX1_makePage 10 = .ok (.getfield 34, 3) := by decide +kernel
theorem dX1_makePage_13 : decode cX1_makePage 13 = .ok (.iconst 1, 1) := by decide +kernel
theorem dX1_makePage_14 : decode cX1_makePage 14 = .ok (.iadd, 1) := by decide +kernel
theorem dX1_makePage_15 : decode cX1_makePage 15 = .ok (.putfield 34, 3) := by decide +kernel
theorem dX1_makePage_18 : decode cX1_makePage 18 = .ok (.aload_n 0, 1) := by decide +kernel
theorem dX1_makePage_19 : decode cX1_makePage 19 = .ok (.dup, 1) := by decide +kernel
theorem dX1_makePage_20 : decode cX1_makePage 20 = .ok (.getfield 25, 3) := by decide +kernel
theorem dX1_makePage_23 : decode cX1_makePage 23 = .ok (.iconst 1, 1) := by decide +kernel
theorem dX1_makePage_24 : decode cX1_makePage 24 = .ok (.iload_n 1, 1) := by decide +kernel
theorem dX1_makePage_25 : decode cX1_makePage 25 = .ok (.ishl, 1) := by decide +kernel
theorem dX1_makePage_26 : decode cX1_makePage 26 = .ok (.iconst (-1), 1) := by decide +kernel
theorem dX1_makePage_27 : decode cX1_makePage 27 = .ok (.ixor, 1) := by decide +kernel
theorem dX1_makePage_28 : decode cX1_makePage 28 = .ok (.iand, 1) := by decide +kernel
theorem dX1_makePage_29 : decode cX1_makePage 29 = .ok (.putfield 25, 3) := by decide +kernel
theorem dX1_makePage_32 : decode cX1_makePage 32 = .ok (.aload_n 0, 1) := by decide +kernel
theorem dX1_makePage_33 : decode cX1_makePage 33 = .ok (.dup, 1) := by decide +kernel
theorem dX1_makePage_34 : decode cX1_makePage 34 = .ok (.getfield 31, 3) := by decide +kernel
theorem dX1_makePage_37 : decode cX1_makePage 37 = .ok (.iconst 1, 1) := by decide +kernel
theorem dX1_makePage_38 : decode cX1_makePage 38 = .ok (.iadd, 1) := by decide +kernel
theorem dX1_makePage_39 : decode cX1_makePage 39 = .ok (.putfield 31, 3) := by decide +kernel
theorem dX1_makePage_42 : decode cX1_makePage 42 = .ok (.aload_n 0, 1) := by decide +kernel
theorem dX1_makePage_43 : decode cX1_makePage 43 = .ok (.iload_n 1, 1) := by decide +kernel
theorem dX1_makePage_44 : decode cX1_makePage 44 = .ok (.invokevirtual 50, 3) := by decide +kernel
theorem dX1_makePage_47 : decode cX1_makePage 47 = .ok (.return_, 1) := by decide +kernel
theorem dX1_use_0 : decode cX1_use 0 = .ok (.aload_n 0, 1) := by decide +kernel
theorem dX1_use_1 : decode cX1_use 1 = .ok (.dup, 1) := by decide +kernel
theorem dX1_use_2 : decode cX1_use 2 = .ok (.getfield 21, 3) := by decide +kernel
theorem dX1_use_5 : decode cX1_use 5 = .ok (.iconst 1, 1) := by decide +kernel
theorem dX1_use_6 : decode cX1_use 6 = .ok (.iadd, 1) := by decide +kernel
theorem dX1_use_7 : decode cX1_use 7 = .ok (.putfield 21, 3) := by decide +kernel
theorem dX1_use_10 : decode cX1_use 10 = .ok (.aload_n 0, 1) := by decide +kernel
theorem dX1_use_11 : decode cX1_use 11 = .ok (.getfield 9, 3) := by decide +kernel
theorem dX1_use_14 : decode cX1_use 14 = .ok (.iload_n 1, 1) := by decide +kernel
theorem dX1_use_15 : decode cX1_use 15 = .ok (.aload_n 0, 1) := by decide +kernel
theorem dX1_use_16 : decode cX1_use 16 = .ok (.getfield 21, 3) := by decide +kernel
theorem dX1_use_19 : decode cX1_use 19 = .ok (.iastore, 1) := by decide +kernel
theorem dX1_use_20 : decode cX1_use 20 = .ok (.return_, 1) := by decide +kernel
theorem dX2_init_0 : decode cX2_init 0 = .ok (.aload_n 0, 1) := by decide +kernel
theorem dX2_init_1 : decode cX2_init 1 = .ok (.invokespecial 3, 3) := by decide +kernel
theorem dX2_init_4 : decode cX2_init 4 = .ok (.aload_n 0, 1) := by decide +kernel
theorem dX2_init_5 : decode cX2_init 5 = .ok (.iconst 4, 1) := by decide +kernel
theorem dX2_init_6 : decode cX2_init 6 = .ok (.anewarray 9, 3) := by decide +kernel
theorem dX2_init_9 : decode cX2_init 9 = .ok (.putfield 11, 3) := by decide +kernel
theorem dX2_init_12 : decode cX2_init 12 = .ok (.iconst 0, 1) := by decide +kernel
theorem dX2_init_13 : decode cX2_init 13 = .ok (.istore_n 1, 1) := by decide +kernel
theorem dX2_init_14 : decode cX2_init 14 = .ok (.iload_n 1, 1) := by decide +kernel
theorem dX2_init_15 : decode cX2_init 15 = .ok (.iconst 4, 1) := by decide +kernel
theorem dX2_init_16 : decode cX2_init 16 = .ok (.if_icmp .ge 22, 3) := by decide +kernel
theorem dX2_init_19 : decode cX2_init 19 = .ok (.aload_n 0, 1) := by decide +kernel
theorem dX2_init_20 : decode cX2_init 20 = .ok (.getfield 11, 3) := by decide +kernel
theorem dX2_init_23 : decode cX2_init 23 = .ok (.iload_n 1, 1) := by decide +kernel
theorem dX2_init_24 : decode cX2_init 24 = .ok (.new 9, 3) := by decide +kernel
theorem dX2_init_27 : decode cX2_init 27 = .ok (.dup, 1) := by decide +kernel
theorem dX2_init_28 : decode cX2_init 28 = .ok (.invokespecial 17, 3) := by decide +kernel
theorem dX2_init_31 : decode cX2_init 31 = .ok (.aastore, 1) := by decide +kernel
theorem dX2_init_32 : decode cX2_init 32 = .ok (.iinc 1 1, 3) := by decide +kernel
theorem dX2_init_35 : decode cX2_init 35 = .ok (.goto (-21), 3) := by decide +kernel
theorem dX2_init_38 : decode cX2_init 38 = .ok (.return_, 1) := by decide +kernel
theorem dX2_save_0 : decode cX2_save 0 = .ok (.aload_n 0, 1) := by decide +kernel
theorem dX2_save_1 : decode cX2_save 1 = .ok (.getfield 18, 3) := by decide +kernel
theorem dX2_save_4 : decode cX2_save 4 = .ok (.iconst 4, 1) := by decide +kernel
theorem dX2_save_5 : decode cX2_save 5 = .ok (.if_icmp .lt 7, 3) := by decide +kernel
theorem dX2_save_8 : decode cX2_save 8 = .ok (.aload_n 0, 1) := by decide +kernel
theorem dX2_save_9 : decode cX2_save 9 = .ok (.invokevirtual 22, 3) := by decide +kernel
theorem dX2_save_12 : decode cX2_save 12 = .ok (.aload_n 0, 1) := by decide +kernel
theorem dX2_save_13 : decode cX2_save 13 = .ok (.getfield 11, 3) := by decide +kernel
theorem dX2_save_16 : decode cX2_save 16 = .ok (.aload_n 0, 1) := by decide +kernel
theorem dX2_save_17 : decode cX2_save 17 = .ok (.getfield 18, 3) := by decide +kernel
theorem dX2_save_20 : decode cX2_save 20 = .ok (.aaload, 1) := by decide +kernel
theorem dX2_save_21 : decode cX2_save 21 = .ok (.aload_n 1, 1) := by decide +kernel
theorem dX2_save_22 : decode cX2_save 22 = .ok (.invokevirtual 25, 3) := by decide +kernel
theorem dX2_save_25 : decode cX2_save 25 = .ok (.aload_n 0, 1) := by decide +kernel
theorem dX2_save_26 : decode cX2_save 26 = .ok (.dup, 1) := by decide +kernel
theorem dX2_save_27 : decode cX2_save 27 = .ok (.getfield 18, 3) := by decide +kernel
theorem dX2_save_30 : decode cX2_save 30 = .ok (.iconst 1, 1) := by decide +kernel
theorem dX2_save_31 : decode cX2_save 31 = .ok (.iadd, 1) := by decide +kernel
theorem dX2_save_32 : decode cX2_save 32 = .ok (.putfield 18, 3) := by decide +kernel
theorem dX2_save_35 : decode cX2_save 35 = .ok (.return_, 1) := by decide +kernel
theorem dX2_dropOldest_0 : decode cX2_dropOldest 0 = .ok (.aload_n 0, 1) := by decide +kernel
theorem dX2_dropOldest_1 : decode cX2_dropOldest 1 = .ok (.getfield 11, 3) := by decide +kernel
theorem dX2_dropOldest_4 : decode cX2_dropOldest 4 = .ok (.iconst 0, 1) := by decide +kernel
theorem dX2_dropOldest_5 : decode cX2_dropOldest 5 = .ok (.aaload, 1) := by decide +kernel
theorem dX2_dropOldest_6 : decode cX2_dropOldest 6 = .ok (.astore_n 1, 1) := by decide +kernel
theorem dX2_dropOldest_7 : decode cX2_dropOldest 7 = .ok (.iconst 1, 1) := by decide +kernel
theorem dX2_dropOldest_8 : decode cX2_dropOldest 8 = .ok (.istore_n 2, 1) := by decide +kernel
theorem dX2_dropOldest_9 : decode cX2_dropOldest 9 = .ok (.iload_n 2, 1) := by decide +kernel
theorem dX2_dropOldest_10 : decode cX2_dropOldest 10 = .ok (.iconst 4, 1) := by decide +kernel
theorem dX2_dropOldest_11 : decode cX2_dropOldest 11 = .ok (.if_icmp .ge 23, 3) := by decide +kernel
theorem dX2_dropOldest_14 : decode cX2_dropOldest 14 = .ok (.aload_n 0, 1) := by decide +kernel
theorem dX2_dropOldest_15 : decode cX2_dropOldest 15 = .ok (.getfield 11, 3) := by decide +kernel
theorem dX2_dropOldest_18 : decode cX2_dropOldest 18 = .ok (.iload_n 2, 1) := by decide +kernel
theorem dX2_dropOldest_19 : decode cX2_dropOldest 19 = .ok (.iconst 1, 1) := by decide +kernel
theorem dX2_dropOldest_20 : decode cX2_dropOldest 20 = .ok (.isub, 1) := by decide +kernel
theorem dX2_dropOldest_21 : decode cX2_dropOldest 21 = .ok (.aload_n 0, 1) := by decide +kernel
theorem dX2_dropOldest_22 : decode cX2_dropOldest 22 = .ok (.getfield 11, 3) := by decide +kernel
theorem dX2_dropOldest_25 : decode cX2_dropOldest 25 = .ok (.iload_n 2, 1) := by decide +kernel
theorem dX2_dropOldest_26 : decode cX2_dropOldest 26 = .ok (.aaload, 1) := by decide +kernel
theorem dX2_dropOldest_27 : decode cX2_dropOldest 27 = .ok (.aastore, 1) := by decide +kernel
theorem dX2_dropOldest_28 : decode cX2_dropOldest 28 = .ok (.iinc 2 1, 3) := by decide +kernel
theorem dX2_dropOldest_31 : decode cX2_dropOldest 31 = .ok (.goto (-22), 3) := by decide +kernel
theorem dX2_dropOldest_34 : decode cX2_dropOldest 34 = .ok (.aload_n 0, 1) := by decide +kernel
theorem dX2_dropOldest_35 : decode cX2_dropOldest 35 = .ok (.getfield 11, 3) := by decide +kernel
theorem dX2_dropOldest_38 : decode cX2_dropOldest 38 = .ok (.iconst 3, 1) := by decide +kernel
theorem dX2_dropOldest_39 : decode cX2_dropOldest 39 = .ok (.aload_n 1, 1) := by decide +kernel
theorem dX2_dropOldest_40 : decode cX2_dropOldest 40 = .ok (.aastore, 1) := by decide +kernel
theorem dX2_dropOldest_41 : decode cX2_dropOldest 41 = .ok (.aload_n 0, 1) := by decide +kernel
theorem dX2_dropOldest_42 : decode cX2_dropOldest 42 = .ok (.dup, 1) := by decide +kernel
theorem dX2_dropOldest_43 : decode cX2_dropOldest 43 = .ok (.getfield 18, 3) := by decide +kernel
theorem dX2_dropOldest_46 : decode cX2_dropOldest 46 = .ok (.iconst 1, 1) := by decide +kernel
theorem dX2_dropOldest_47 : decode cX2_dropOldest 47 = .ok (.isub, 1) := by decide +kernel
theorem dX2_dropOldest_48 : decode cX2_dropOldest 48 = .ok (.putfield 18, 3) := by decide +kernel
theorem dX2_dropOldest_51 : decode cX2_dropOldest 51 = .ok (.return_, 1) := by decide +kernel
theorem dX2_restore_0 : decode cX2_restore 0 = .ok (.aload_n 0, 1) := by decide +kernel
theorem dX2_restore_1 : decode cX2_restore 1 = .ok (.dup, 1) := by decide +kernel
theorem dX2_restore_2 : decode cX2_restore 2 = .ok (.getfield 18, 3) := by decide +kernel
theorem dX2_restore_5 : decode cX2_restore 5 = .ok (.iconst 1, 1) := by decide +kernel
theorem dX2_restore_6 : decode cX2_restore 6 = .ok (.isub, 1) := by decide +kernel
theorem dX2_restore_7 : decode cX2_restore 7 = .ok (.putfield 18, 3) := by decide +kernel
theorem dX2_restore_10 : decode cX2_restore 10 = .ok (.aload_n 1, 1) := by decide +kernel
theorem dX2_restore_11 : decode cX2_restore 11 = .ok (.aload_n 0, 1) := by decide +kernel
theorem dX2_restore_12 : decode cX2_restore 12 = .ok (.getfield 11, 3) := by decide +kernel
theorem dX2_restore_15 : decode cX2_restore 15 = .ok (.aload_n 0, 1) := by decide +kernel
theorem dX2_restore_16 : decode cX2_restore 16 = .ok (.getfield 18, 3) := by decide +kernel
theorem dX2_restore_19 : decode cX2_restore 19 = .ok (.aaload, 1) := by decide +kernel
theorem dX2_restore_20 : decode cX2_restore 20 = .ok (.invokevirtual 25, 3) := by decide +kernel
theorem dX2_restore_23 : decode cX2_restore 23 = .ok (.return_, 1) := by decide +kernel
theorem dX3_init_0 : decode cX3_init 0 = .ok (.aload_n 0, 1) := by decide +kernel
theorem dX3_init_1 : decode cX3_init 1 = .ok (.invokespecial 3, 3) := by decide +kernel
theorem dX3_init_4 : decode cX3_init 4 = .ok (.aload_n 0, 1) := by decide +kernel
theorem dX3_init_5 : decode cX3_init 5 = .ok (.bipush 72, 2) := by decide +kernel
theorem dX3_init_7 : decode cX3_init 7 = .ok (.newarray .int, 2) := by decide +kernel
theorem dX3_init_9 : decode cX3_init 9 = .ok (.putfield 9, 3) := by decide +kernel
theorem dX3_init_12 : decode cX3_init 12 = .ok (.return_, 1) := by decide +kernel
theorem dX3_takeOver_0 : decode cX3_takeOver 0 = .ok (.aload_n 1, 1) := by decide +kernel
theorem dX3_takeOver_1 : decode cX3_takeOver 1 = .ok (.getfield 9, 3) := by decide +kernel
theorem dX3_takeOver_4 : decode cX3_takeOver 4 = .ok (.iconst 0, 1) := by decide +kernel
theorem dX3_takeOver_5 : decode cX3_takeOver 5 = .ok (.aload_n 0, 1) := by decide +kernel
theorem dX3_takeOver_6 : decode cX3_takeOver 6 = .ok (.getfield 9, 3) := by decide +kernel
theorem dX3_takeOver_9 : decode cX3_takeOver 9 = .ok (.iconst 0, 1) := by decide +kernel
theorem dX3_takeOver_10 : decode cX3_takeOver 10 = .ok (.aload_n 0, 1) := by decide +kernel
theorem dX3_takeOver_11 : decode cX3_takeOver 11 = .ok (.getfield 9, 3) := by decide +kernel
theorem dX3_takeOver_14 : decode cX3_takeOver 14 = .ok (.arraylength, 1) := by decide +kernel
theorem dX3_takeOver_15 : decode cX3_takeOver 15 = .ok (.invokestatic 15, 3) := by decide +kernel
theorem dX3_takeOver_18 : decode cX3_takeOver 18 = .ok (.aload_n 0, 1) := by decide +kernel
theorem dX3_takeOver_19 : decode cX3_takeOver 19 = .ok (.aload_n 1, 1) := by decide +kernel
theorem dX3_takeOver_20 : decode cX3_takeOver 20 = .ok (.getfield 21, 3) := by decide +kernel
theorem dX3_takeOver_23 : decode cX3_takeOver 23 = .ok (.putfield 21, 3) := by decide +kernel
theorem dX3_takeOver_26 : decode cX3_takeOver 26 = .ok (.return_, 1) := by decide +kernel
theorem dX3_add_0 : decode cX3_add 0 = .ok (.aload_n 0, 1) := by decide +kernel
theorem dX3_add_1 : decode cX3_add 1 = .ok (.getfield 9, 3) := by decide +kernel
theorem dX3_add_4 : decode cX3_add 4 = .ok (.arraylength, 1) := by decide +kernel
theorem dX3_add_5 : decode cX3_add 5 = .ok (.iconst 1, 1) := by decide +kernel
theorem dX3_add_6 : decode cX3_add 6 = .ok (.isub, 1) := by decide +kernel
theorem dX3_add_7 : decode cX3_add 7 = .ok (.istore 7, 2) := by decide +kernel
theorem dX3_add_9 : decode cX3_add 9 = .ok (.iload 7, 2) := by decide +kernel
theorem dX3_add_11 : decode cX3_add 11 = .ok (.bipush 6, 2) := by decide +kernel
theorem dX3_add_13 : decode cX3_add 13 = .ok (.if_icmp .lt 26, 3) := by decide +kernel
theorem dX3_add_16 : decode cX3_add 16 = .ok (.aload_n 0, 1) := by decide +kernel
theorem dX3_add_17 : decode cX3_add 17 = .ok (.getfield 9, 3) := by decide +kernel
theorem dX3_add_20 : decode cX3_add 20 = .ok (.iload 7, 2) := by decide +kernel
theorem dX3_add_22 : decode cX3_add 22 = .ok (.aload_n 0, 1) := by decide +kernel
theorem dX3_add_23 : decode cX3_add 23 = .ok (.getfield 9, 3) := by decide +kernel
theorem dX3_add_26 : decode cX3_add 26 = .ok (.iload 7, 2) := by decide +kernel
theorem dX3_add_28 : decode cX3_add 28 = .ok (.bipush 6, 2) := by decide +kernel
theorem dX3_add_30 : decode cX3_add 30 = .ok (.isub, 1) := by decide +kernel
theorem dX3_add_31 : decode cX3_add 31 = .ok (.iaload, 1) := by decide +kernel
theorem dX3_add_32 : decode cX3_add 32 = .ok (.iastore, 1) := by decide +kernel
theorem dX3_add_33 : decode cX3_add 33 = .ok (.iinc 7 (-1), 3) := by decide +kernel
theorem dX3_add_36 : decode cX3_add 36 = .ok (.goto (-27), 3) := by decide +kernel
theorem dX3_add_39 : decode cX3_add 39 = .ok (.aload_n 0, 1) := by decide +kernel
theorem dX3_add_40 : decode cX3_add 40 = .ok (.getfield 9, 3) := by decide +kernel
theorem dX3_add_43 : decode cX3_add 43 = .ok (.iconst 0, 1) := by decide +kernel
theorem dX3_add_44 : decode cX3_add 44 = .ok (.iload_n 1, 1) := by decide +kernel
theorem dX3_add_45 : decode cX3_add 45 = .ok (.iastore, 1) := by decide +kernel
theorem dX3_add_46 : decode cX3_add 46 = .ok (.aload_n 0, 1) := by decide +kernel
theorem dX3_add_47 : decode cX3_add 47 = .ok (.getfield 9, 3) := by decide +kernel
theorem dX3_add_50 : decode cX3_add 50 = .ok (.iconst 1, 1) := by decide +kernel
theorem dX3_add_51 : decode cX3_add 51 = .ok (.iload_n 2, 1) := by decide +kernel
theorem dX3_add_52 : decode cX3_add 52 = .ok (.iastore, 1) := by decide +kernel
theorem dX3_add_53 : decode cX3_add 53 = .ok (.aload_n 0, 1) := by decide +kernel
theorem dX3_add_54 : decode cX3_add 54 = .ok (.getfield 9, 3) := by decide +kernel
theorem dX3_add_57 : decode cX3_add 57 = .ok (.iconst 2, 1) := by decide +kernel
theorem dX3_add_58 : decode cX3_add 58 = .ok (.iload_n 3, 1) := by decide +kernel
theorem dX3_add_59 : decode cX3_add 59 = .ok (.iastore, 1) := by decide +kernel
theorem dX3_add_60 : decode cX3_add 60 = .ok (.aload_n 0, 1) := by decide +kernel
theorem dX3_add_61 : decode cX3_add 61 = .ok (.getfield 9, 3) := by decide +kernel
theorem dX3_add_64 : decode cX3_add 64 = .ok (.iconst 3, 1) := by decide +kernel
theorem dX3_add_65 : decode cX3_add 65 = .ok (.iload 4, 2) := by decide +kernel
theorem dX3_add_67 : decode cX3_add 67 = .ok (.iastore, 1) := by decide +kernel
theorem dX3_add_68 : decode cX3_add 68 = .ok (.aload_n 0, 1) := by decide +kernel
theorem dX3_add_69 : decode cX3_add 69 = .ok (.getfield 9, 3) := by decide +kernel
theorem dX3_add_72 : decode cX3_add 72 = .ok (.iconst 4, 1) := by decide +kernel
theorem dX3_add_73 : decode cX3_add 73 = .ok (.iload 5, 2) := by decide +kernel
theorem dX3_add_75 : decode cX3_add 75 = .ok (.iastore, 1) := by decide +kernel
theorem dX3_add_76 : decode cX3_add 76 = .ok (.aload_n 0, 1) := by decide +kernel
theorem dX3_add_77 : decode cX3_add 77 = .ok (.getfield 9, 3) := by decide +kernel
theorem dX3_add_80 : decode cX3_add 80 = .ok (.iconst 5, 1) := by decide +kernel
theorem dX3_add_81 : decode cX3_add 81 = .ok (.iload 6, 2) := by decide +kernel
theorem dX3_add_83 : decode cX3_add 83 = .ok (.iastore, 1) := by decide +kernel
theorem dX3_add_84 : decode cX3_add 84 = .ok (.aload_n 0, 1) := by decide +kernel
theorem dX3_add_85 : decode cX3_add 85 = .ok (.getfield 21, 3) := by decide +kernel
theorem dX3_add_88 : decode cX3_add 88 = .ok (.bipush 12, 2) := by decide +kernel
theorem dX3_add_90 : decode cX3_add 90 = .ok (.if_icmp .ge 13, 3) := by decide +kernel
theorem dX3_add_93 : decode cX3_add 93 = .ok (.aload_n 0, 1) := by decide +kernel
theorem dX3_add_94 : decode cX3_add 94 = .ok (.dup, 1) := by decide +kernel
theorem dX3_add_95 : decode cX3_add 95 = .ok (.getfield 21, 3) := by decide +kernel
theorem dX3_add_98 : decode cX3_add 98 = .ok (.iconst 1, 1) := by decide +kernel
theorem dX3_add_99 : decode cX3_add 99 = .ok (.iadd, 1) := by decide +kernel
theorem dX3_add_100 : decode cX3_add 100 = .ok (.putfield 21, 3) := by decide +kernel
theorem dX3_add_103 : decode cX3_add 103 = .ok (.return_, 1) := by decide +kernel
theorem dX3_fact_0 : decode cX3_fact 0 = .ok (.aload_n 0, 1) := by decide +kernel
theorem dX3_fact_1 : decode cX3_fact 1 = .ok (.getfield 9, 3) := by decide +kernel
theorem dX3_fact_4 : decode cX3_fact 4 = .ok (.iload_n 1, 1) := by decide +kernel
theorem dX3_fact_5 : decode cX3_fact 5 = .ok (.bipush 6, 2) := by decide +kernel
theorem dX3_fact_7 : decode cX3_fact 7 = .ok (.imul, 1) := by decide +kernel
theorem dX3_fact_8 : decode cX3_fact 8 = .ok (.iload_n 2, 1) := by decide +kernel
theorem dX3_fact_9 : decode cX3_fact 9 = .ok (.iadd, 1) := by decide +kernel
theorem dX3_fact_10 : decode cX3_fact 10 = .ok (.iaload, 1) := by decide +kernel
theorem dX3_fact_11 : decode cX3_fact 11 = .ok (.ireturn, 1) := by decide +kernel
theorem dX4_init_0 : decode cX4_init 0 = .ok (.aload_n 0, 1) := by decide +kernel
theorem dX4_init_1 : decode cX4_init 1 = .ok (.invokespecial 3, 3) := by decide +kernel
theorem dX4_init_4 : decode cX4_init 4 = .ok (.aload_n 0, 1) := by decide +kernel
theorem dX4_init_5 : decode cX4_init 5 = .ok (.bipush 32, 2) := by decide +kernel
theorem dX4_init_7 : decode cX4_init 7 = .ok (.newarray .int, 2) := by decide +kernel
theorem dX4_init_9 : decode cX4_init 9 = .ok (.putfield 9, 3) := by decide +kernel
theorem dX4_init_12 : decode cX4_init 12 = .ok (.aload_n 0, 1) := by decide +kernel
theorem dX4_init_13 : decode cX4_init 13 = .ok (.bipush 32, 2) := by decide +kernel
theorem dX4_init_15 : decode cX4_init 15 = .ok (.newarray .int, 2) := by decide +kernel
theorem dX4_init_17 : decode cX4_init 17 = .ok (.putfield 15, 3) := by decide +kernel
theorem dX4_init_20 : decode cX4_init 20 = .ok (.aload_n 0, 1) := by decide +kernel
theorem dX4_init_21 : decode cX4_init 21 = .ok (.new 18, 3) := by decide +kernel
theorem dX4_init_24 : decode cX4_init 24 = .ok (.dup, 1) := by decide +kernel
theorem dX4_init_25 : decode cX4_init 25 = .ok (.invokespecial 20, 3) := by decide +kernel
theorem dX4_init_28 : decode cX4_init 28 = .ok (.putfield 21, 3) := by decide +kernel
theorem dX4_init_31 : decode cX4_init 31 = .ok (.aload_n 0, 1) := by decide +kernel
theorem dX4_init_32 : decode cX4_init 32 = .ok (.new 25, 3) := by decide +kernel
theorem dX4_init_35 : decode cX4_init 35 = .ok (.dup, 1) := by decide +kernel
theorem dX4_init_36 : decode cX4_init 36 = .ok (.invokespecial 27, 3) := by decide +kernel
theorem dX4_init_39 : decode cX4_init 39 = .ok (.putfield 28, 3) := by decide +kernel
theorem dX4_init_42 : decode cX4_init 42 = .ok (.aload_n 0, 1) := by decide +kernel
theorem dX4_init_43 : decode cX4_init 43 = .ok (.new 32, 3) := by decide +kernel
theorem dX4_init_46 : decode cX4_init 46 = .ok (.dup, 1) := by decide +kernel
theorem dX4_init_47 : decode cX4_init 47 = .ok (.invokespecial 34, 3) := by decide +kernel
theorem dX4_init_50 : decode cX4_init 50 = .ok (.putfield 35, 3) := by decide +kernel
theorem dX4_init_53 : decode cX4_init 53 = .ok (.aload_n 0, 1) := by decide +kernel
theorem dX4_init_54 : decode cX4_init 54 = .ok (.new 39, 3) := by decide +kernel
theorem dX4_init_57 : decode cX4_init 57 = .ok (.dup, 1) := by decide +kernel
theorem dX4_init_58 : decode cX4_init 58 = .ok (.invokespecial 41, 3) := by decide +kernel
theorem dX4_init_61 : decode cX4_init 61 = .ok (.putfield 42, 3) := by decide +kernel
theorem dX4_init_64 : decode cX4_init 64 = .ok (.return_, 1) := by decide +kernel
theorem dX4_startAnew_0 : decode cX4_startAnew 0 = .ok (.aload_n 0, 1) := by decide +kernel
theorem dX4_startAnew_1 : decode cX4_startAnew 1 = .ok (.getfield 9, 3) := by decide +kernel
theorem dX4_startAnew_4 : decode cX4_startAnew 4 = .ok (.iconst 0, 1) := by decide +kernel
theorem dX4_startAnew_5 : decode cX4_startAnew 5 = .ok (.invokestatic 46, 3) := by decide +kernel
theorem dX4_startAnew_8 : decode cX4_startAnew 8 = .ok (.aload_n 0, 1) := by decide +kernel
theorem dX4_startAnew_9 : decode cX4_startAnew 9 = .ok (.getfield 15, 3) := by decide +kernel
theorem dX4_startAnew_12 : decode cX4_startAnew 12 = .ok (.iconst 0, 1) := by decide +kernel
theorem dX4_startAnew_13 : decode cX4_startAnew 13 = .ok (.invokestatic 46, 3) := by decide +kernel
theorem dX4_startAnew_16 : decode cX4_startAnew 16 = .ok (.aload_n 0, 1) := by decide +kernel
theorem dX4_startAnew_17 : decode cX4_startAnew 17 = .ok (.getfield 21, 3) := by decide +kernel
theorem dX4_startAnew_20 : decode cX4_startAnew 20 = .ok (.invokevirtual 52, 3) := by decide +kernel
theorem dX4_startAnew_23 : decode cX4_startAnew 23 = .ok (.aload_n 0, 1) := by decide +kernel
theorem dX4_startAnew_24 : decode cX4_startAnew 24 = .ok (.getfield 28, 3) := by decide +kernel
theorem dX4_startAnew_27 : decode cX4_startAnew 27 = .ok (.iload_n 3, 1) := by decide +kernel
theorem dX4_startAnew_28 : decode cX4_startAnew 28 = .ok (.invokevirtual 55, 3) := by decide +kernel
theorem dX4_startAnew_31 : decode cX4_startAnew 31 = .ok (.aload_n 0, 1) := by decide +kernel
theorem dX4_startAnew_32 : decode cX4_startAnew 32 = .ok (.getfield 35, 3) := by decide +kernel
theorem dX4_startAnew_35 : decode cX4_startAnew 35 = .ok (.invokevirtual 59, 3) := by decide +kernel
theorem dX4_startAnew_38 : decode cX4_startAnew 38 = .ok (.aload_n 0, 1) := by decide +kernel
theorem dX4_startAnew_39 : decode cX4_startAnew 39 = .ok (.getfield 42, 3) := by decide +kernel
theorem dX4_startAnew_42 : decode cX4_startAnew 42 = .ok (.iconst 0, 1) := by decide +kernel
theorem dX4_startAnew_43 : decode cX4_startAnew 43 = .ok (.putfield 62, 3) := by decide +kernel
theorem dX4_startAnew_46 : decode cX4_startAnew 46 = .ok (.aload_n 0, 1) := by decide +kernel
theorem dX4_startAnew_47 : decode cX4_startAnew 47 = .ok (.iload_n 1, 1) := by decide +kernel
theorem dX4_startAnew_48 : decode cX4_startAnew 48 = .ok (.putfield 66, 3) := by decide +kernel
theorem dX4_startAnew_51 : decode cX4_startAnew 51 = .ok (.aload_n 0, 1) := by decide +kernel
theorem dX4_startAnew_52 : decode cX4_startAnew 52 = .ok (.iload_n 2, 1) := by decide +kernel
theorem dX4_startAnew_53 : decode cX4_startAnew 53 = .ok (.putfield 69, 3) := by decide +kernel
theorem dX4_startAnew_56 : decode cX4_startAnew 56 = .ok (.aload_n 0, 1) := by decide +kernel
theorem dX4_startAnew_57 : decode cX4_startAnew 57 = .ok (.iconst 0, 1) := by decide +kernel
theorem dX4_startAnew_58 : decode cX4_startAnew 58 = .ok (.putfield 72, 3) := by decide +kernel
theorem dX4_startAnew_61 : decode cX4_startAnew 61 = .ok (.aload_n 0, 1) := by decide +kernel
theorem dX4_startAnew_62 : decode cX4_startAnew 62 = .ok (.iconst 0, 1) := by decide +kernel
theorem dX4_startAnew_63 : decode cX4_startAnew 63 = .ok (.putfield 75, 3) := by decide +kernel
theorem dX4_startAnew_66 : decode cX4_startAnew 66 = .ok (.aload_n 0, 1) := by decide +kernel
theorem dX4_startAnew_67 : decode cX4_startAnew 67 = .ok (.iconst 0, 1) := by decide +kernel
theorem dX4_startAnew_68 : decode cX4_startAnew 68 = .ok (.putfield 78, 3) := by decide +kernel
theorem dX4_startAnew_71 : decode cX4_startAnew 71 = .ok (.aload_n 0, 1) := by decide +kernel
theorem dX4_startAnew_72 : decode cX4_startAnew 72 = .ok (.iconst 0, 1) := by decide +kernel
theorem dX4_startAnew_73 : decode cX4_startAnew 73 = .ok (.putfield 81, 3) := by decide +kernel
theorem dX4_startAnew_76 : decode cX4_startAnew 76 = .ok (.aload_n 0, 1) := by decide +kernel
theorem dX4_startAnew_77 : decode cX4_startAnew 77 = .ok (.iconst 0, 1) := by decide +kernel
theorem dX4_startAnew_78 : decode cX4_startAnew 78 = .ok (.putfield 84, 3) := by decide +kernel
theorem dX4_startAnew_81 : decode cX4_startAnew 81 = .ok (.aload_n 0, 1) := by decide +kernel
theorem dX4_startAnew_82 : decode cX4_startAnew 82 = .ok (.iconst 0, 1) := by decide +kernel
theorem dX4_startAnew_83 : decode cX4_startAnew 83 = .ok (.putfield 87, 3) := by decide +kernel
theorem dX4_startAnew_86 : decode cX4_startAnew 86 = .ok (.return_, 1) := by decide +kernel
theorem dX4_takeOver_0 : decode cX4_takeOver 0 = .ok (.aload_n 1, 1) := by decide +kernel
theorem dX4_takeOver_1 : decode cX4_takeOver 1 = .ok (.getfield 9, 3) := by decide +kernel
theorem dX4_takeOver_4 : decode cX4_takeOver 4 = .ok (.iconst 0, 1) := by decide +kernel
theorem dX4_takeOver_5 : decode cX4_takeOver 5 = .ok (.aload_n 0, 1) := by decide +kernel
theorem dX4_takeOver_6 : decode cX4_takeOver 6 = .ok (.getfield 9, 3) := by decide +kernel
theorem dX4_takeOver_9 : decode cX4_takeOver 9 = .ok (.iconst 0, 1) := by decide +kernel
theorem dX4_takeOver_10 : decode cX4_takeOver 10 = .ok (.bipush 32, 2) := by decide +kernel
theorem dX4_takeOver_12 : decode cX4_takeOver 12 = .ok (.invokestatic 90, 3) := by decide +kernel
theorem dX4_takeOver_15 : decode cX4_takeOver 15 = .ok (.aload_n 1, 1) := by decide +kernel
theorem dX4_takeOver_16 : decode cX4_takeOver 16 = .ok (.getfield 15, 3) := by decide +kernel
theorem dX4_takeOver_19 : decode cX4_takeOver 19 = .ok (.iconst 0, 1) := by decide +kernel
theorem dX4_takeOver_20 : decode cX4_takeOver 20 = .ok (.aload_n 0, 1) := by decide +kernel
theorem dX4_takeOver_21 : decode cX4_takeOver 21 = .ok (.getfield 15, 3) := by decide +kernel
theorem dX4_takeOver_24 : decode cX4_takeOver 24 = .ok (.iconst 0, 1) := by decide +kernel
theorem dX4_takeOver_25 : decode cX4_takeOver 25 = .ok (.bipush 32, 2) := by decide +kernel
theorem dX4_takeOver_27 : decode cX4_takeOver 27 = .ok (.invokestatic 90, 3) := by decide +kernel
theorem dX4_takeOver_30 : decode cX4_takeOver 30 = .ok (.aload_n 0, 1) := by decide +kernel
theorem dX4_takeOver_31 : decode cX4_takeOver 31 = .ok (.getfield 21, 3) := by decide +kernel
theorem dX4_takeOver_34 : decode cX4_takeOver 34 = .ok (.aload_n 1, 1) := by decide +kernel
theorem dX4_takeOver_35 : decode cX4_takeOver 35 = .ok (.getfield 21, 3) := by decide +kernel
theorem dX4_takeOver_38 : decode cX4_takeOver 38 = .ok (.invokevirtual 96, 3) := by decide +kernel
theorem dX4_takeOver_41 : decode cX4_takeOver 41 = .ok (.aload_n 0, 1) := by decide +kernel
theorem dX4_takeOver_42 : decode cX4_takeOver 42 = .ok (.getfield 28, 3) := by decide +kernel
theorem dX4_takeOver_45 : decode cX4_takeOver 45 = .ok (.aload_n 1, 1) := by decide +kernel
theorem dX4_takeOver_46 : decode cX4_takeOver 46 = .ok (.getfield 28, 3) := by decide +kernel
