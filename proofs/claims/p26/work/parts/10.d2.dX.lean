theorem dX5_takeDigit_47 : decode cX5_takeDigit 47 = .ok (.iadd, 1) := by decide +kernel
theorem dX5_takeDigit_48 : decode cX5_takeDigit 48 = .ok (.putfield 77, 3) := by decide +kernel
theorem dX5_takeDigit_51 : decode cX5_takeDigit 51 = .ok (.iconst (-1), 1) := by decide +kernel
theorem dX5_takeDigit_52 : decode cX5_takeDigit 52 = .ok (.ireturn, 1) := by decide +kernel
theorem dX5_keepOrder_0 : decode cX5_keepOrder 0 = .ok (.aload_n 0, 1) := by decide +kernel
theorem dX5_keepOrder_1 : decode cX5_keepOrder 1 = .ok (.getfield 30, 3) := by decide +kernel
theorem dX5_keepOrder_4 : decode cX5_keepOrder 4 = .ok (.bipush 34, 2) := by decide +kernel
theorem dX5_keepOrder_6 : decode cX5_keepOrder 6 = .ok (.if_icmp .ge 66, 3) := by decide +kernel
theorem dX5_keepOrder_9 : decode cX5_keepOrder 9 = .ok (.aload_n 0, 1) := by decide +kernel
theorem dX5_keepOrder_10 : decode cX5_keepOrder 10 = .ok (.getfield 9, 3) := by decide +kernel
theorem dX5_keepOrder_13 : decode cX5_keepOrder 13 = .ok (.aload_n 0, 1) := by decide +kernel
theorem dX5_keepOrder_14 : decode cX5_keepOrder 14 = .ok (.getfield 30, 3) := by decide +kernel
theorem dX5_keepOrder_17 : decode cX5_keepOrder 17 = .ok (.aload_n 0, 1) := by decide +kernel
theorem dX5_keepOrder_18 : decode cX5_keepOrder 18 = .ok (.getfield 57, 3) := by decide +kernel
theorem dX5_keepOrder_21 : decode cX5_keepOrder 21 = .ok (.iastore, 1) := by decide +kernel
theorem dX5_keepOrder_22 : decode cX5_keepOrder 22 = .ok (.aload_n 0, 1) := by decide +kernel
theorem dX5_keepOrder_23 : decode cX5_keepOrder 23 = .ok (.getfield 15, 3) := by decide +kernel
theorem dX5_keepOrder_26 : decode cX5_keepOrder 26 = .ok (.aload_n 0, 1) := by decide +kernel
theorem dX5_keepOrder_27 : decode cX5_keepOrder 27 = .ok (.getfield 30, 3) := by decide +kernel
theorem dX5_keepOrder_30 : decode cX5_keepOrder 30 = .ok (.aload_n 0, 1) := by decide +kernel
theorem dX5_keepOrder_31 : decode cX5_keepOrder 31 = .ok (.getfield 92, 3) := by decide +kernel
theorem dX5_keepOrder_34 : decode cX5_keepOrder 34 = .ok (.iastore, 1) := by decide +kernel
theorem dX5_keepOrder_35 : decode cX5_keepOrder 35 = .ok (.aload_n 0, 1) := by decide +kernel
theorem dX5_keepOrder_36 : decode cX5_keepOrder 36 = .ok (.getfield 18, 3) := by decide +kernel
theorem dX5_keepOrder_39 : decode cX5_keepOrder 39 = .ok (.aload_n 0, 1) := by decide +kernel
theorem dX5_keepOrder_40 : decode cX5_keepOrder 40 = .ok (.getfield 30, 3) := by decide +kernel
theorem dX5_keepOrder_43 : decode cX5_keepOrder 43 = .ok (.aload_n 0, 1) := by decide +kernel
theorem dX5_keepOrder_44 : decode cX5_keepOrder 44 = .ok (.getfield 27, 3) := by decide +kernel
theorem dX5_keepOrder_47 : decode cX5_keepOrder 47 = .ok (.getstatic 71, 3) := by decide +kernel
theorem dX5_keepOrder_50 : decode cX5_keepOrder 50 = .ok (.if_acmp .ne 7, 3) := by decide +kernel
theorem dX5_keepOrder_53 : decode cX5_keepOrder 53 = .ok (.iconst (-1), 1) := by decide +kernel
theorem dX5_keepOrder_54 : decode cX5_keepOrder 54 = .ok (.goto 7, 3) := by decide +kernel
theorem dX5_keepOrder_57 : decode cX5_keepOrder 57 = .ok (.aload_n 0, 1) := by decide +kernel
theorem dX5_keepOrder_58 : decode cX5_keepOrder 58 = .ok (.getfield 74, 3) := by decide +kernel
theorem dX5_keepOrder_61 : decode cX5_keepOrder 61 = .ok (.iastore, 1) := by decide +kernel
theorem dX5_keepOrder_62 : decode cX5_keepOrder 62 = .ok (.aload_n 0, 1) := by decide +kernel
theorem dX5_keepOrder_63 : decode cX5_keepOrder 63 = .ok (.dup, 1) := by decide +kernel
theorem dX5_keepOrder_64 : decode cX5_keepOrder 64 = .ok (.getfield 30, 3) := by decide +kernel
theorem dX5_keepOrder_67 : decode cX5_keepOrder 67 = .ok (.iconst 1, 1) := by decide +kernel
theorem dX5_keepOrder_68 : decode cX5_keepOrder 68 = .ok (.iadd, 1) := by decide +kernel
theorem dX5_keepOrder_69 : decode cX5_keepOrder 69 = .ok (.putfield 30, 3) := by decide +kernel
theorem dX5_keepOrder_72 : decode cX5_keepOrder 72 = .ok (.aload_n 0, 1) := by decide +kernel
theorem dX5_keepOrder_73 : decode cX5_keepOrder 73 = .ok (.getstatic 21, 3) := by decide +kernel
theorem dX5_keepOrder_76 : decode cX5_keepOrder 76 = .ok (.putfield 27, 3) := by decide +kernel
theorem dX5_keepOrder_79 : decode cX5_keepOrder 79 = .ok (.return_, 1) := by decide +kernel
theorem dX7_init_0 : decode cX7_init 0 = .ok (.aload_n 0, 1) := by decide +kernel
theorem dX7_init_1 : decode cX7_init 1 = .ok (.invokespecial 3, 3) := by decide +kernel
theorem dX7_init_4 : decode cX7_init 4 = .ok (.aload_n 0, 1) := by decide +kernel
theorem dX7_init_5 : decode cX7_init 5 = .ok (.bipush 6, 2) := by decide +kernel
theorem dX7_init_7 : decode cX7_init 7 = .ok (.newarray .int, 2) := by decide +kernel
theorem dX7_init_9 : decode cX7_init 9 = .ok (.putfield 9, 3) := by decide +kernel
theorem dX7_init_12 : decode cX7_init 12 = .ok (.aload_n 0, 1) := by decide +kernel
theorem dX7_init_13 : decode cX7_init 13 = .ok (.bipush 6, 2) := by decide +kernel
theorem dX7_init_15 : decode cX7_init 15 = .ok (.newarray .int, 2) := by decide +kernel
theorem dX7_init_17 : decode cX7_init 17 = .ok (.putfield 15, 3) := by decide +kernel
theorem dX7_init_20 : decode cX7_init 20 = .ok (.aload_n 0, 1) := by decide +kernel
theorem dX7_init_21 : decode cX7_init 21 = .ok (.bipush 6, 2) := by decide +kernel
theorem dX7_init_23 : decode cX7_init 23 = .ok (.newarray .int, 2) := by decide +kernel
theorem dX7_init_25 : decode cX7_init 25 = .ok (.putfield 18, 3) := by decide +kernel
theorem dX7_init_28 : decode cX7_init 28 = .ok (.return_, 1) := by decide +kernel
theorem dX7_forgetAll_0 : decode cX7_forgetAll 0 = .ok (.aload_n 0, 1) := by decide +kernel
theorem dX7_forgetAll_1 : decode cX7_forgetAll 1 = .ok (.getfield 9, 3) := by decide +kernel
theorem dX7_forgetAll_4 : decode cX7_forgetAll 4 = .ok (.iconst (-1), 1) := by decide +kernel
theorem dX7_forgetAll_5 : decode cX7_forgetAll 5 = .ok (.invokestatic 21, 3) := by decide +kernel
theorem dX7_forgetAll_8 : decode cX7_forgetAll 8 = .ok (.return_, 1) := by decide +kernel
theorem dX7_takeOver_0 : decode cX7_takeOver 0 = .ok (.aload_n 1, 1) := by decide +kernel
theorem dX7_takeOver_1 : decode cX7_takeOver 1 = .ok (.getfield 9, 3) := by decide +kernel
theorem dX7_takeOver_4 : decode cX7_takeOver 4 = .ok (.iconst 0, 1) := by decide +kernel
theorem dX7_takeOver_5 : decode cX7_takeOver 5 = .ok (.aload_n 0, 1) := by decide +kernel
theorem dX7_takeOver_6 : decode cX7_takeOver 6 = .ok (.getfield 9, 3) := by decide +kernel
theorem dX7_takeOver_9 : decode cX7_takeOver 9 = .ok (.iconst 0, 1) := by decide +kernel
theorem dX7_takeOver_10 : decode cX7_takeOver 10 = .ok (.bipush 6, 2) := by decide +kernel
theorem dX7_takeOver_12 : decode cX7_takeOver 12 = .ok (.invokestatic 27, 3) := by decide +kernel
theorem dX7_takeOver_15 : decode cX7_takeOver 15 = .ok (.aload_n 1, 1) := by decide +kernel
theorem dX7_takeOver_16 : decode cX7_takeOver 16 = .ok (.getfield 15, 3) := by decide +kernel
theorem dX7_takeOver_19 : decode cX7_takeOver 19 = .ok (.iconst 0, 1) := by decide +kernel
theorem dX7_takeOver_20 : decode cX7_takeOver 20 = .ok (.aload_n 0, 1) := by decide +kernel
theorem dX7_takeOver_21 : decode cX7_takeOver 21 = .ok (.getfield 15, 3) := by decide +kernel
theorem dX7_takeOver_24 : decode cX7_takeOver 24 = .ok (.iconst 0, 1) := by decide +kernel
theorem dX7_takeOver_25 : decode cX7_takeOver 25 = .ok (.bipush 6, 2) := by decide +kernel
theorem dX7_takeOver_27 : decode cX7_takeOver 27 = .ok (.invokestatic 27, 3) := by decide +kernel
theorem dX7_takeOver_30 : decode cX7_takeOver 30 = .ok (.aload_n 1, 1) := by decide +kernel
theorem dX7_takeOver_31 : decode cX7_takeOver 31 = .ok (.getfield 18, 3) := by decide +kernel
theorem dX7_takeOver_34 : decode cX7_takeOver 34 = .ok (.iconst 0, 1) := by decide +kernel
theorem dX7_takeOver_35 : decode cX7_takeOver 35 = .ok (.aload_n 0, 1) := by decide +kernel
theorem dX7_takeOver_36 : decode cX7_takeOver 36 = .ok (.getfield 18, 3) := by decide +kernel
theorem dX7_takeOver_39 : decode cX7_takeOver 39 = .ok (.iconst 0, 1) := by decide +kernel
theorem dX7_takeOver_40 : decode cX7_takeOver 40 = .ok (.bipush 6, 2) := by decide +kernel
theorem dX7_takeOver_42 : decode cX7_takeOver 42 = .ok (.invokestatic 27, 3) := by decide +kernel
theorem dX7_takeOver_45 : decode cX7_takeOver 45 = .ok (.return_, 1) := by decide +kernel
theorem dX7_isPending_0 : decode cX7_isPending 0 = .ok (.aload_n 0, 1) := by decide +kernel
theorem dX7_isPending_1 : decode cX7_isPending 1 = .ok (.getfield 9, 3) := by decide +kernel
theorem dX7_isPending_4 : decode cX7_isPending 4 = .ok (.iload_n 1, 1) := by decide +kernel
theorem dX7_isPending_5 : decode cX7_isPending 5 = .ok (.iaload, 1) := by decide +kernel
theorem dX7_isPending_6 : decode cX7_isPending 6 = .ok (.iconst (-1), 1) := by decide +kernel
theorem dX7_isPending_7 : decode cX7_isPending 7 = .ok (.if_icmp .eq 7, 3) := by decide +kernel
theorem dX7_isPending_10 : decode cX7_isPending 10 = .ok (.iconst 1, 1) := by decide +kernel
theorem dX7_isPending_11 : decode cX7_isPending 11 = .ok (.goto 4, 3) := by decide +kernel
theorem dX7_isPending_14 : decode cX7_isPending 14 = .ok (.iconst 0, 1) := by decide +kernel
theorem dX7_isPending_15 : decode cX7_isPending 15 = .ok (.ireturn, 1) := by decide +kernel
theorem dX7_isWrite_0 : decode cX7_isWrite 0 = .ok (.aload_n 0, 1) := by decide +kernel
theorem dX7_isWrite_1 : decode cX7_isWrite 1 = .ok (.getfield 15, 3) := by decide +kernel
theorem dX7_isWrite_4 : decode cX7_isWrite 4 = .ok (.iload_n 1, 1) := by decide +kernel
theorem dX7_isWrite_5 : decode cX7_isWrite 5 = .ok (.iaload, 1) := by decide +kernel
theorem dX7_isWrite_6 : decode cX7_isWrite 6 = .ok (.iconst (-1), 1) := by decide +kernel
theorem dX7_isWrite_7 : decode cX7_isWrite 7 = .ok (.if_icmp .eq 7, 3) := by decide +kernel
theorem dX7_isWrite_10 : decode cX7_isWrite 10 = .ok (.iconst 1, 1) := by decide +kernel
theorem dX7_isWrite_11 : decode cX7_isWrite 11 = .ok (.goto 4, 3) := by decide +kernel
theorem dX7_isWrite_14 : decode cX7_isWrite 14 = .ok (.iconst 0, 1) := by decide +kernel
theorem dX7_isWrite_15 : decode cX7_isWrite 15 = .ok (.ireturn, 1) := by decide +kernel
theorem dX7_ask_0 : decode cX7_ask 0 = .ok (.aload_n 0, 1) := by decide +kernel
theorem dX7_ask_1 : decode cX7_ask 1 = .ok (.getfield 9, 3) := by decide +kernel
theorem dX7_ask_4 : decode cX7_ask 4 = .ok (.iload_n 1, 1) := by decide +kernel
theorem dX7_ask_5 : decode cX7_ask 5 = .ok (.iload_n 2, 1) := by decide +kernel
theorem dX7_ask_6 : decode cX7_ask 6 = .ok (.iastore, 1) := by decide +kernel
theorem dX7_ask_7 : decode cX7_ask 7 = .ok (.aload_n 0, 1) := by decide +kernel
theorem dX7_ask_8 : decode cX7_ask 8 = .ok (.getfield 15, 3) := by decide +kernel
theorem dX7_ask_11 : decode cX7_ask 11 = .ok (.iload_n 1, 1) := by decide +kernel
theorem dX7_ask_12 : decode cX7_ask 12 = .ok (.iload_n 3, 1) := by decide +kernel
theorem dX7_ask_13 : decode cX7_ask 13 = .ok (.iastore, 1) := by decide +kernel
theorem dX7_ask_14 : decode cX7_ask 14 = .ok (.aload_n 0, 1) := by decide +kernel
theorem dX7_ask_15 : decode cX7_ask 15 = .ok (.getfield 18, 3) := by decide +kernel
theorem dX7_ask_18 : decode cX7_ask 18 = .ok (.iload_n 1, 1) := by decide +kernel
theorem dX7_ask_19 : decode cX7_ask 19 = .ok (.iconst 0, 1) := by decide +kernel
theorem dX7_ask_20 : decode cX7_ask 20 = .ok (.iastore, 1) := by decide +kernel
theorem dX7_ask_21 : decode cX7_ask 21 = .ok (.return_, 1) := by decide +kernel
theorem dX7_forget_0 : decode cX7_forget 0 = .ok (.aload_n 0, 1) := by decide +kernel
theorem dX7_forget_1 : decode cX7_forget 1 = .ok (.getfield 9, 3) := by decide +kernel
theorem dX7_forget_4 : decode cX7_forget 4 = .ok (.iload_n 1, 1) := by decide +kernel
theorem dX7_forget_5 : decode cX7_forget 5 = .ok (.iconst (-1), 1) := by decide +kernel
theorem dX7_forget_6 : decode cX7_forget 6 = .ok (.iastore, 1) := by decide +kernel
theorem dX7_forget_7 : decode cX7_forget 7 = .ok (.return_, 1) := by decide +kernel
theorem dX7_count_0 : decode cX7_count 0 = .ok (.iconst 0, 1) := by decide +kernel
theorem dX7_count_1 : decode cX7_count 1 = .ok (.istore_n 1, 1) := by decide +kernel
theorem dX7_count_2 : decode cX7_count 2 = .ok (.iconst 0, 1) := by decide +kernel
theorem dX7_count_3 : decode cX7_count 3 = .ok (.istore_n 2, 1) := by decide +kernel
theorem dX7_count_4 : decode cX7_count 4 = .ok (.iload_n 2, 1) := by decide +kernel
theorem dX7_count_5 : decode cX7_count 5 = .ok (.bipush 6, 2) := by decide +kernel
theorem dX7_count_7 : decode cX7_count 7 = .ok (.if_icmp .ge 22, 3) := by decide +kernel
theorem dX7_count_10 : decode cX7_count 10 = .ok (.aload_n 0, 1) := by decide +kernel
theorem dX7_count_11 : decode cX7_count 11 = .ok (.getfield 9, 3) := by decide +kernel
theorem dX7_count_14 : decode cX7_count 14 = .ok (.iload_n 2, 1) := by decide +kernel
theorem dX7_count_15 : decode cX7_count 15 = .ok (.iaload, 1) := by decide +kernel
theorem dX7_count_16 : decode cX7_count 16 = .ok (.iconst (-1), 1) := by decide +kernel
theorem dX7_count_17 : decode cX7_count 17 = .ok (.if_icmp .eq 6, 3) := by decide +kernel
theorem dX7_count_20 : decode cX7_count 20 = .ok (.iinc 1 1, 3) := by decide +kernel
theorem dX7_count_23 : decode cX7_count 23 = .ok (.iinc 2 1, 3) := by decide +kernel
theorem dX7_count_26 : decode cX7_count 26 = .ok (.goto (-22), 3) := by decide +kernel
theorem dX7_count_29 : decode cX7_count 29 = .ok (.iload_n 1, 1) := by decide +kernel
theorem dX7_count_30 : decode cX7_count 30 = .ok (.ireturn, 1) := by decide +kernel
theorem dX7_fact_0 : decode cX7_fact 0 = .ok (.aload_n 0, 1) := by decide +kernel
theorem dX7_fact_1 : decode cX7_fact 1 = .ok (.getfield 9, 3) := by decide +kernel
theorem dX7_fact_4 : decode cX7_fact 4 = .ok (.iload_n 1, 1) := by decide +kernel
theorem dX7_fact_5 : decode cX7_fact 5 = .ok (.iaload, 1) := by decide +kernel
theorem dX7_fact_6 : decode cX7_fact 6 = .ok (.iconst (-1), 1) := by decide +kernel
theorem dX7_fact_7 : decode cX7_fact 7 = .ok (.if_icmp .ne 5, 3) := by decide +kernel
theorem dX7_fact_10 : decode cX7_fact 10 = .ok (.iconst (-1), 1) := by decide +kernel
theorem dX7_fact_11 : decode cX7_fact 11 = .ok (.ireturn, 1) := by decide +kernel
theorem dX7_fact_12 : decode cX7_fact 12 = .ok (.iload_n 2, 1) := by decide +kernel
theorem dX7_fact_13 : decode cX7_fact 13 = .ok (.lookupswitch 41 #[(0, 27), (1, 34)], 27) := by decide +kernel
theorem dX7_fact_40 : decode cX7_fact 40 = .ok (.aload_n 0, 1) := by decide +kernel
theorem dX7_fact_41 : decode cX7_fact 41 = .ok (.getfield 9, 3) := by decide +kernel
theorem dX7_fact_44 : decode cX7_fact 44 = .ok (.iload_n 1, 1) := by decide +kernel
theorem dX7_fact_45 : decode cX7_fact 45 = .ok (.iaload, 1) := by decide +kernel
theorem dX7_fact_46 : decode cX7_fact 46 = .ok (.ireturn, 1) := by decide +kernel
theorem dX7_fact_47 : decode cX7_fact 47 = .ok (.aload_n 0, 1) := by decide +kernel
theorem dX7_fact_48 : decode cX7_fact 48 = .ok (.getfield 15, 3) := by decide +kernel
theorem dX7_fact_51 : decode cX7_fact 51 = .ok (.iload_n 1, 1) := by decide +kernel
theorem dX7_fact_52 : decode cX7_fact 52 = .ok (.iaload, 1) := by decide +kernel
theorem dX7_fact_53 : decode cX7_fact 53 = .ok (.ireturn, 1) := by decide +kernel
theorem dX7_fact_54 : decode cX7_fact 54 = .ok (.aload_n 0, 1) := by decide +kernel
theorem dX7_fact_55 : decode cX7_fact 55 = .ok (.getfield 18, 3) := by decide +kernel
theorem dX7_fact_58 : decode cX7_fact 58 = .ok (.iload_n 1, 1) := by decide +kernel
theorem dX7_fact_59 : decode cX7_fact 59 = .ok (.iaload, 1) := by decide +kernel
theorem dX7_fact_60 : decode cX7_fact 60 = .ok (.ireturn, 1) := by decide +kernel
theorem dX8_init_0 : decode cX8_init 0 = .ok (.aload_n 0, 1) := by decide +kernel
theorem dX8_init_1 : decode cX8_init 1 = .ok (.invokespecial 3, 3) := by decide +kernel
theorem dX8_init_4 : decode cX8_init 4 = .ok (.aload_n 0, 1) := by decide +kernel
theorem dX8_init_5 : decode cX8_init 5 = .ok (.new 9, 3) := by decide +kernel
theorem dX8_init_8 : decode cX8_init 8 = .ok (.dup, 1) := by decide +kernel
theorem dX8_init_9 : decode cX8_init 9 = .ok (.invokespecial 11, 3) := by decide +kernel
theorem dX8_init_12 : decode cX8_init 12 = .ok (.putfield 12, 3) := by decide +kernel
theorem dX8_init_15 : decode cX8_init 15 = .ok (.aload_n 0, 1) := by decide +kernel
theorem dX8_init_16 : decode cX8_init 16 = .ok (.getfield 12, 3) := by decide +kernel
theorem dX8_init_19 : decode cX8_init 19 = .ok (.iconst 3, 1) := by decide +kernel
theorem dX8_init_20 : decode cX8_init 20 = .ok (.iconst 4, 1) := by decide +kernel
theorem dX8_init_21 : decode cX8_init 21 = .ok (.iconst 4, 1) := by decide +kernel
theorem dX8_init_22 : decode cX8_init 22 = .ok (.invokevirtual 16, 3) := by decide +kernel
theorem dX8_init_25 : decode cX8_init 25 = .ok (.aload_n 0, 1) := by decide +kernel
theorem dX8_init_26 : decode cX8_init 26 = .ok (.new 9, 3) := by decide +kernel
theorem dX8_init_29 : decode cX8_init 29 = .ok (.dup, 1) := by decide +kernel
theorem dX8_init_30 : decode cX8_init 30 = .ok (.invokespecial 11, 3) := by decide +kernel
theorem dX8_init_33 : decode cX8_init 33 = .ok (.putfield 20, 3) := by decide +kernel
theorem dX8_init_36 : decode cX8_init 36 = .ok (.aload_n 0, 1) := by decide +kernel
theorem dX8_init_37 : decode cX8_init 37 = .ok (.new 23, 3) := by decide +kernel
theorem dX8_init_40 : decode cX8_init 40 = .ok (.dup, 1) := by decide +kernel
theorem dX8_init_41 : decode cX8_init 41 = .ok (.invokespecial 25, 3) := by decide +kernel
theorem dX8_init_44 : decode cX8_init 44 = .ok (.putfield 26, 3) := by decide +kernel
theorem dX8_init_47 : decode cX8_init 47 = .ok (.aload_n 0, 1) := by decide +kernel
theorem dX8_init_48 : decode cX8_init 48 = .ok (.bipush 100, 2) := by decide +kernel
theorem dX8_init_50 : decode cX8_init 50 = .ok (.newarray .byte, 2) := by decide +kernel
theorem dX8_init_52 : decode cX8_init 52 = .ok (.putfield 30, 3) := by decide +kernel
theorem dX8_init_55 : decode cX8_init 55 = .ok (.aload_n 0, 1) := by decide +kernel
theorem dX8_init_56 : decode cX8_init 56 = .ok (.iconst 0, 1) := by decide +kernel
theorem dX8_init_57 : decode cX8_init 57 = .ok (.putfield 34, 3) := by decide +kernel
theorem dX8_init_60 : decode cX8_init 60 = .ok (.aload_n 0, 1) := by decide +kernel
theorem dX8_init_61 : decode cX8_init 61 = .ok (.new 38, 3) := by decide +kernel
theorem dX8_init_64 : decode cX8_init 64 = .ok (.dup, 1) := by decide +kernel
theorem dX8_init_65 : decode cX8_init 65 = .ok (.invokespecial 40, 3) := by decide +kernel
theorem dX8_init_68 : decode cX8_init 68 = .ok (.putfield 41, 3) := by decide +kernel
theorem dX8_init_71 : decode cX8_init 71 = .ok (.return_, 1) := by decide +kernel
theorem dX8_begin_0 : decode cX8_begin 0 = .ok (.iload_n 1, 1) := by decide +kernel
theorem dX8_begin_1 : decode cX8_begin 1 = .ok (.iconst 2, 1) := by decide +kernel
theorem dX8_begin_2 : decode cX8_begin 2 = .ok (.bipush 6, 2) := by decide +kernel
theorem dX8_begin_4 : decode cX8_begin 4 = .ok (.invokestatic 45, 3) := by decide +kernel
theorem dX8_begin_7 : decode cX8_begin 7 = .ok (.iload_n 2, 1) := by decide +kernel
theorem dX8_begin_8 : decode cX8_begin 8 = .ok (.iconst 1, 1) := by decide +kernel
theorem dX8_begin_9 : decode cX8_begin 9 = .ok (.bipush 8, 2) := by decide +kernel
theorem dX8_begin_11 : decode cX8_begin 11 = .ok (.invokestatic 45, 3) := by decide +kernel
theorem dX8_begin_14 : decode cX8_begin 14 = .ok (.iload_n 3, 1) := by decide +kernel
theorem dX8_begin_15 : decode cX8_begin 15 = .ok (.iconst 1, 1) := by decide +kernel
theorem dX8_begin_16 : decode cX8_begin 16 = .ok (.bipush 16, 2) := by decide +kernel
theorem dX8_begin_18 : decode cX8_begin 18 = .ok (.invokestatic 45, 3) := by decide +kernel
theorem dX8_begin_21 : decode cX8_begin 21 = .ok (.aload_n 0, 1) := by decide +kernel
theorem dX8_begin_22 : decode cX8_begin 22 = .ok (.getfield 26, 3) := by decide +kernel
theorem dX8_begin_25 : decode cX8_begin 25 = .ok (.aload_n 0, 1) := by decide +kernel
theorem dX8_begin_26 : decode cX8_begin 26 = .ok (.getfield 12, 3) := by decide +kernel
theorem dX8_begin_29 : decode cX8_begin 29 = .ok (.invokevirtual 48, 3) := by decide +kernel
theorem dX8_begin_32 : decode cX8_begin 32 = .ok (.aload_n 0, 1) := by decide +kernel
theorem dX8_begin_33 : decode cX8_begin 33 = .ok (.getfield 12, 3) := by decide +kernel
theorem dX8_begin_36 : decode cX8_begin 36 = .ok (.getfield 52, 3) := by decide +kernel
theorem dX8_begin_39 : decode cX8_begin 39 = .ok (.istore 4, 2) := by decide +kernel
theorem dX8_begin_41 : decode cX8_begin 41 = .ok (.aload_n 0, 1) := by decide +kernel
theorem dX8_begin_42 : decode cX8_begin 42 = .ok (.getfield 12, 3) := by decide +kernel
theorem dX8_begin_45 : decode cX8_begin 45 = .ok (.iload_n 1, 1) := by decide +kernel
theorem dX8_begin_46 : decode cX8_begin 46 = .ok (.iload_n 2, 1) := by decide +kernel
theorem dX8_begin_47 : decode cX8_begin 47 = .ok (.iload_n 3, 1) := by decide +kernel
theorem dX8_begin_48 : decode cX8_begin 48 = .ok (.invokevirtual 16, 3) := by decide +kernel
theorem dX8_begin_51 : decode cX8_begin 51 = .ok (.iload 4, 2) := by decide +kernel
theorem dX8_begin_53 : decode cX8_begin 53 = .ok (.ireturn, 1) := by decide +kernel
theorem dX8_read_0 : decode cX8_read 0 = .ok (.iload_n 1, 1) := by decide +kernel
theorem dX8_read_1 : decode cX8_read 1 = .ok (.aload_n 0, 1) := by decide +kernel
theorem dX8_read_2 : decode cX8_read 2 = .ok (.getfield 12, 3) := by decide +kernel
theorem dX8_read_5 : decode cX8_read 5 = .ok (.getfield 55, 3) := by decide +kernel
theorem dX8_read_8 : decode cX8_read 8 = .ok (.invokestatic 58, 3) := by decide +kernel
theorem dX8_read_11 : decode cX8_read 11 = .ok (.iload_n 2, 1) := by decide +kernel
theorem dX8_read_12 : decode cX8_read 12 = .ok (.bipush 32, 2) := by decide +kernel
theorem dX8_read_14 : decode cX8_read 14 = .ok (.invokestatic 58, 3) := by decide +kernel
theorem dX8_read_17 : decode cX8_read 17 = .ok (.aload_n 0, 1) := by decide +kernel
theorem dX8_read_18 : decode cX8_read 18 = .ok (.getfield 12, 3) := by decide +kernel
theorem dX8_read_21 : decode cX8_read 21 = .ok (.getfield 62, 3) := by decide +kernel
theorem dX8_read_24 : decode cX8_read 24 = .ok (.iload_n 1, 1) := by decide +kernel
theorem dX8_read_25 : decode cX8_read 25 = .ok (.invokevirtual 66, 3) := by decide +kernel
theorem dX8_read_28 : decode cX8_read 28 = .ok (.ifCond .ne 7, 3) := by decide +kernel
theorem dX8_read_31 : decode cX8_read 31 = .ok (.iconst 1, 1) := by decide +kernel
theorem dX8_read_32 : decode cX8_read 32 = .ok (.goto 4, 3) := by decide +kernel
theorem dX8_read_35 : decode cX8_read 35 = .ok (.iconst 0, 1) := by decide +kernel
theorem dX8_read_36 : decode cX8_read 36 = .ok (.invokestatic 72, 3) := by decide +kernel
theorem dX8_read_39 : decode cX8_read 39 = .ok (.aload_n 0, 1) := by decide +kernel
theorem dX8_read_40 : decode cX8_read 40 = .ok (.getfield 26, 3) := by decide +kernel
theorem dX8_read_43 : decode cX8_read 43 = .ok (.aload_n 0, 1) := by decide +kernel
theorem dX8_read_44 : decode cX8_read 44 = .ok (.getfield 12, 3) := by decide +kernel
theorem dX8_read_47 : decode cX8_read 47 = .ok (.invokevirtual 48, 3) := by decide +kernel
theorem dX8_read_50 : decode cX8_read 50 = .ok (.aload_n 0, 1) := by decide +kernel
theorem dX8_read_51 : decode cX8_read 51 = .ok (.getfield 12, 3) := by decide +kernel
theorem dX8_read_54 : decode cX8_read 54 = .ok (.getfield 62, 3) := by decide +kernel
theorem dX8_read_57 : decode cX8_read 57 = .ok (.iload_n 1, 1) := by decide +kernel
theorem dX8_read_58 : decode cX8_read 58 = .ok (.iload_n 2, 1) := by decide +kernel
theorem dX8_read_59 : decode cX8_read 59 = .ok (.iconst (-1), 1) := by decide +kernel
theorem dX8_read_60 : decode cX8_read 60 = .ok (.invokevirtual 76, 3) := by decide +kernel
theorem dX8_read_63 : decode cX8_read 63 = .ok (.aload_n 0, 1) := by decide +kernel
theorem dX8_read_64 : decode cX8_read 64 = .ok (.getfield 12, 3) := by decide +kernel
theorem dX8_read_67 : decode cX8_read 67 = .ok (.iload_n 1, 1) := by decide +kernel
theorem dX8_read_68 : decode cX8_read 68 = .ok (.iload_n 2, 1) := by decide +kernel
theorem dX8_read_69 : decode cX8_read 69 = .ok (.iconst 0, 1) := by decide +kernel
theorem dX8_read_70 : decode cX8_read 70 = .ok (.invokevirtual 79, 3) := by decide +kernel
theorem dX8_read_73 : decode cX8_read 73 = .ok (.ifCond .eq 7, 3) := by decide +kernel
theorem dX8_read_76 : decode cX8_read 76 = .ok (.iconst 1, 1) := by decide +kernel
theorem dX8_read_77 : decode cX8_read 77 = .ok (.goto 4, 3) := by decide +kernel
theorem dX8_read_80 : decode cX8_read 80 = .ok (.iconst 0, 1) := by decide +kernel
theorem dX8_read_81 : decode cX8_read 81 = .ok (.ireturn, 1) := by decide +kernel
theorem dX8_write_0 : decode cX8_write 0 = .ok (.iload_n 1, 1) := by decide +kernel
theorem dX8_write_1 : decode cX8_write 1 = .ok (.aload_n 0, 1) := by decide +kernel
theorem dX8_write_2 : decode cX8_write 2 = .ok (.getfield 12, 3) := by decide +kernel
theorem dX8_write_5 : decode cX8_write 5 = .ok (.getfield 55, 3) := by decide +kernel
theorem dX8_write_8 : decode cX8_write 8 = .ok (.invokestatic 58, 3) := by decide +kernel
theorem dX8_write_11 : decode cX8_write 11 = .ok (.iload_n 2, 1) := by decide +kernel
theorem dX8_write_12 : decode cX8_write 12 = .ok (.bipush 32, 2) := by decide +kernel
theorem dX8_write_14 : decode cX8_write 14 = .ok (.invokestatic 58, 3) := by decide +kernel
theorem dX8_write_17 : decode cX8_write 17 = .ok (.iload_n 3, 1) := by decide +kernel
theorem dX8_write_18 : decode cX8_write 18 = .ok (.iconst 0, 1) := by decide +kernel
theorem dX8_write_19 : decode cX8_write 19 = .ok (.sipush 999, 3) := by decide +kernel
theorem dX8_write_22 : decode cX8_write 22 = .ok (.invokestatic 45, 3) := by decide +kernel
theorem dX8_write_25 : decode cX8_write 25 = .ok (.aload_n 0, 1) := by decide +kernel
theorem dX8_write_26 : decode cX8_write 26 = .ok (.getfield 12, 3) := by decide +kernel
theorem dX8_write_29 : decode cX8_write 29 = .ok (.getfield 62, 3) := by decide +kernel
theorem dX8_write_32 : decode cX8_write 32 = .ok (.iload_n 1, 1) := by decide +kernel
theorem dX8_write_33 : decode cX8_write 33 = .ok (.invokevirtual 66, 3) := by decide +kernel
theorem dX8_write_36 : decode cX8_write 36 = .ok (.ifCond .ne 7, 3) := by decide +kernel
theorem dX8_write_39 : decode cX8_write 39 = .ok (.iconst 1, 1) := by decide +kernel
theorem dX8_write_40 : decode cX8_write 40 = .ok (.goto 4, 3) := by decide +kernel
theorem dX8_write_43 : decode cX8_write 43 = .ok (.iconst 0, 1) := by decide +kernel
theorem dX8_write_44 : decode cX8_write 44 = .ok (.invokestatic 72, 3) := by decide +kernel
theorem dX8_write_47 : decode cX8_write 47 = .ok (.aload_n 0, 1) := by decide +kernel
theorem dX8_write_48 : decode cX8_write 48 = .ok (.getfield 26, 3) := by decide +kernel
theorem dX8_write_51 : decode cX8_write 51 = .ok (.aload_n 0, 1) := by decide +kernel
theorem dX8_write_52 : decode cX8_write 52 = .ok (.getfield 12, 3) := by decide +kernel
theorem dX8_write_55 : decode cX8_write 55 = .ok (.invokevirtual 48, 3) := by decide +kernel
theorem dX8_write_58 : decode cX8_write 58 = .ok (.aload_n 0, 1) := by decide +kernel
theorem dX8_write_59 : decode cX8_write 59 = .ok (.getfield 12, 3) := by decide +kernel
theorem dX8_write_62 : decode cX8_write 62 = .ok (.getfield 62, 3) := by decide +kernel
theorem dX8_write_65 : decode cX8_write 65 = .ok (.iload_n 1, 1) := by decide +kernel
theorem dX8_write_66 : decode cX8_write 66 = .ok (.iload_n 2, 1) := by decide +kernel
theorem dX8_write_67 : decode cX8_write 67 = .ok (.iload_n 3, 1) := by decide +kernel
theorem dX8_write_68 : decode cX8_write 68 = .ok (.invokevirtual 76, 3) := by decide +kernel
theorem dX8_write_71 : decode cX8_write 71 = .ok (.aload_n 0, 1) := by decide +kernel
theorem dX8_write_72 : decode cX8_write 72 = .ok (.getfield 12, 3) := by decide +kernel
theorem dX8_write_75 : decode cX8_write 75 = .ok (.iload_n 1, 1) := by decide +kernel
theorem dX8_write_76 : decode cX8_write 76 = .ok (.iload_n 2, 1) := by decide +kernel
theorem dX8_write_77 : decode cX8_write 77 = .ok (.iconst 1, 1) := by decide +kernel
theorem dX8_write_78 : decode cX8_write 78 = .ok (.invokevirtual 79, 3) := by decide +kernel
theorem dX8_write_81 : decode cX8_write 81 = .ok (.ifCond .eq 7, 3) := by decide +kernel
theorem dX8_write_84 : decode cX8_write 84 = .ok (.iconst 1, 1) := by decide +kernel
theorem dX8_write_85 : decode cX8_write 85 = .ok (.goto 4, 3) := by decide +kernel
theorem dX8_write_88 : decode cX8_write 88 = .ok (.iconst 0, 1) := by decide +kernel
theorem dX8_write_89 : decode cX8_write 89 = .ok (.ireturn, 1) := by decide +kernel
theorem dX8_pass_0 : decode cX8_pass 0 = .ok (.iload_n 1, 1) := by decide +kernel
theorem dX8_pass_1 : decode cX8_pass 1 = .ok (.iconst 1, 1) := by decide +kernel
theorem dX8_pass_2 : decode cX8_pass 2 = .ok (.bipush 100, 2) := by decide +kernel
theorem dX8_pass_4 : decode cX8_pass 4 = .ok (.invokestatic 45, 3) := by decide +kernel
theorem dX8_pass_7 : decode cX8_pass 7 = .ok (.aload_n 0, 1) := by decide +kernel
theorem dX8_pass_8 : decode cX8_pass 8 = .ok (.getfield 12, 3) := by decide +kernel
theorem dX8_pass_11 : decode cX8_pass 11 = .ok (.iload_n 1, 1) := by decide +kernel
theorem dX8_pass_12 : decode cX8_pass 12 = .ok (.invokevirtual 91, 3) := by decide +kernel
theorem dX8_pass_15 : decode cX8_pass 15 = .ok (.invokestatic 72, 3) := by decide +kernel
theorem dX8_pass_18 : decode cX8_pass 18 = .ok (.aload_n 0, 1) := by decide +kernel
theorem dX8_pass_19 : decode cX8_pass 19 = .ok (.getfield 26, 3) := by decide +kernel
theorem dX8_pass_22 : decode cX8_pass 22 = .ok (.aload_n 0, 1) := by decide +kernel
theorem dX8_pass_23 : decode cX8_pass 23 = .ok (.getfield 12, 3) := by decide +kernel
theorem dX8_pass_26 : decode cX8_pass 26 = .ok (.invokevirtual 48, 3) := by decide +kernel
theorem dX8_pass_29 : decode cX8_pass 29 = .ok (.aload_n 0, 1) := by decide +kernel
theorem dX8_pass_30 : decode cX8_pass 30 = .ok (.getfield 12, 3) := by decide +kernel
theorem dX8_pass_33 : decode cX8_pass 33 = .ok (.iload_n 1, 1) := by decide +kernel
theorem dX8_pass_34 : decode cX8_pass 34 = .ok (.invokevirtual 94, 3) := by decide +kernel
theorem dX8_pass_37 : decode cX8_pass 37 = .ok (.ireturn, 1) := by decide +kernel
theorem dX8_drop_0 : decode cX8_drop 0 = .ok (.iload_n 1, 1) := by decide +kernel
theorem dX8_drop_1 : decode cX8_drop 1 = .ok (.aload_n 0, 1) := by decide +kernel
theorem dX8_drop_2 : decode cX8_drop 2 = .ok (.getfield 12, 3) := by decide +kernel
theorem dX8_drop_5 : decode cX8_drop 5 = .ok (.getfield 55, 3) := by decide +kernel
theorem dX8_drop_8 : decode cX8_drop 8 = .ok (.invokestatic 58, 3) := by decide +kernel
theorem dX8_drop_11 : decode cX8_drop 11 = .ok (.iload_n 2, 1) := by decide +kernel
theorem dX8_drop_12 : decode cX8_drop 12 = .ok (.bipush 32, 2) := by decide +kernel
theorem dX8_drop_14 : decode cX8_drop 14 = .ok (.invokestatic 58, 3) := by decide +kernel
theorem dX8_drop_17 : decode cX8_drop 17 = .ok (.aload_n 0, 1) := by decide +kernel
theorem dX8_drop_18 : decode cX8_drop 18 = .ok (.getfield 12, 3) := by decide +kernel
theorem dX8_drop_21 : decode cX8_drop 21 = .ok (.getfield 98, 3) := by decide +kernel
theorem dX8_drop_24 : decode cX8_drop 24 = .ok (.iload_n 1, 1) := by decide +kernel
theorem dX8_drop_25 : decode cX8_drop 25 = .ok (.iload_n 2, 1) := by decide +kernel
theorem dX8_drop_26 : decode cX8_drop 26 = .ok (.invokevirtual 102, 3) := by decide +kernel
theorem dX8_drop_29 : decode cX8_drop 29 = .ok (.ifCond .eq 7, 3) := by decide +kernel
theorem dX8_drop_32 : decode cX8_drop 32 = .ok (.iconst 1, 1) := by decide +kernel
theorem dX8_drop_33 : decode cX8_drop 33 = .ok (.goto 4, 3) := by decide +kernel
theorem dX8_drop_36 : decode cX8_drop 36 = .ok (.iconst 0, 1) := by decide +kernel
theorem dX8_drop_37 : decode cX8_drop 37 = .ok (.invokestatic 72, 3) := by decide +kernel
theorem dX8_drop_40 : decode cX8_drop 40 = .ok (.aload_n 0, 1) := by decide +kernel
theorem dX8_drop_41 : decode cX8_drop 41 = .ok (.getfield 26, 3) := by decide +kernel
theorem dX8_drop_44 : decode cX8_drop 44 = .ok (.aload_n 0, 1) := by decide +kernel
theorem dX8_drop_45 : decode cX8_drop 45 = .ok (.getfield 12, 3) := by decide +kernel
theorem dX8_drop_48 : decode cX8_drop 48 = .ok (.invokevirtual 48, 3) := by decide +kernel
theorem dX8_drop_51 : decode cX8_drop 51 = .ok (.aload_n 0, 1) := by decide +kernel
theorem dX8_drop_52 : decode cX8_drop 52 = .ok (.getfield 12, 3) := by decide +kernel
theorem dX8_drop_55 : decode cX8_drop 55 = .ok (.getfield 98, 3) := by decide +kernel
theorem dX8_drop_58 : decode cX8_drop 58 = .ok (.iload_n 1, 1) := by decide +kernel
theorem dX8_drop_59 : decode cX8_drop 59 = .ok (.iload_n 2, 1) := by decide +kernel
theorem dX8_drop_60 : decode cX8_drop 60 = .ok (.invokevirtual 102, 3) := by decide +kernel
theorem dX8_drop_63 : decode cX8_drop 63 = .ok (.iconst 2, 1) := by decide +kernel
theorem dX8_drop_64 : decode cX8_drop 64 = .ok (.if_icmp .ne 7, 3) := by decide +kernel
theorem dX8_drop_67 : decode cX8_drop 67 = .ok (.iconst 1, 1) := by decide +kernel
theorem dX8_drop_68 : decode cX8_drop 68 = .ok (.goto 4, 3) := by decide +kernel
theorem dX8_drop_71 : decode cX8_drop 71 = .ok (.iconst 0, 1) := by decide +kernel
theorem dX8_drop_72 : decode cX8_drop 72 = .ok (.istore_n 3, 1) := by decide +kernel
theorem dX8_drop_73 : decode cX8_drop 73 = .ok (.aload_n 0, 1) := by decide +kernel
theorem dX8_drop_74 : decode cX8_drop 74 = .ok (.getfield 12, 3) := by decide +kernel
theorem dX8_drop_77 : decode cX8_drop 77 = .ok (.iload_n 1, 1) := by decide +kernel
theorem dX8_drop_78 : decode cX8_drop 78 = .ok (.iload_n 2, 1) := by decide +kernel
theorem dX8_drop_79 : decode cX8_drop 79 = .ok (.invokevirtual 108, 3) := by decide +kernel
theorem dX8_drop_82 : decode cX8_drop 82 = .ok (.aload_n 0, 1) := by decide +kernel
theorem dX8_drop_83 : decode cX8_drop 83 = .ok (.getfield 12, 3) := by decide +kernel
theorem dX8_drop_86 : decode cX8_drop 86 = .ok (.dup, 1) := by decide +kernel
theorem dX8_drop_87 : decode cX8_drop 87 = .ok (.getfield 111, 3) := by decide +kernel
theorem dX8_drop_90 : decode cX8_drop 90 = .ok (.iload_n 3, 1) := by decide +kernel
theorem dX8_drop_91 : decode cX8_drop 91 = .ok (.iadd, 1) := by decide +kernel
theorem dX8_drop_92 : decode cX8_drop 92 = .ok (.putfield 111, 3) := by decide +kernel
theorem dX8_drop_95 : decode cX8_drop 95 = .ok (.iload_n 3, 1) := by decide +kernel
theorem dX8_drop_96 : decode cX8_drop 96 = .ok (.ireturn, 1) := by decide +kernel
theorem dX8_tear_0 : decode cX8_tear 0 = .ok (.iload_n 1, 1) := by decide +kernel
theorem dX8_tear_1 : decode cX8_tear 1 = .ok (.bipush 32, 2) := by decide +kernel
theorem dX8_tear_3 : decode cX8_tear 3 = .ok (.invokestatic 58, 3) := by decide +kernel
theorem dX8_tear_6 : decode cX8_tear 6 = .ok (.aload_n 0, 1) := by decide +kernel
theorem dX8_tear_7 : decode cX8_tear 7 = .ok (.getfield 12, 3) := by decide +kernel
theorem dX8_tear_10 : decode cX8_tear 10 = .ok (.getfield 114, 3) := by decide +kernel
theorem dX8_tear_13 : decode cX8_tear 13 = .ok (.iload_n 1, 1) := by decide +kernel
theorem dX8_tear_14 : decode cX8_tear 14 = .ok (.invokevirtual 118, 3) := by decide +kernel
theorem dX8_tear_17 : decode cX8_tear 17 = .ok (.invokestatic 72, 3) := by decide +kernel
theorem dX8_tear_20 : decode cX8_tear 20 = .ok (.aload_n 0, 1) := by decide +kernel
theorem dX8_tear_21 : decode cX8_tear 21 = .ok (.getfield 26, 3) := by decide +kernel
theorem dX8_tear_24 : decode cX8_tear 24 = .ok (.aload_n 0, 1) := by decide +kernel
theorem dX8_tear_25 : decode cX8_tear 25 = .ok (.getfield 12, 3) := by decide +kernel
theorem dX8_tear_28 : decode cX8_tear 28 = .ok (.invokevirtual 48, 3) := by decide +kernel
theorem dX8_tear_31 : decode cX8_tear 31 = .ok (.aload_n 0, 1) := by decide +kernel
theorem dX8_tear_32 : decode cX8_tear 32 = .ok (.getfield 12, 3) := by decide +kernel
theorem dX8_tear_35 : decode cX8_tear 35 = .ok (.getfield 98, 3) := by decide +kernel
theorem dX8_tear_38 : decode cX8_tear 38 = .ok (.iload_n 1, 1) := by decide +kernel
theorem dX8_tear_39 : decode cX8_tear 39 = .ok (.invokevirtual 123, 3) := by decide +kernel
theorem dX8_tear_42 : decode cX8_tear 42 = .ok (.istore_n 2, 1) := by decide +kernel
theorem dX8_tear_43 : decode cX8_tear 43 = .ok (.aload_n 0, 1) := by decide +kernel
theorem dX8_tear_44 : decode cX8_tear 44 = .ok (.getfield 12, 3) := by decide +kernel
theorem dX8_tear_47 : decode cX8_tear 47 = .ok (.getfield 114, 3) := by decide +kernel
theorem dX8_tear_50 : decode cX8_tear 50 = .ok (.iload_n 1, 1) := by decide +kernel
theorem dX8_tear_51 : decode cX8_tear 51 = .ok (.iload_n 2, 1) := by decide +kernel
theorem dX8_tear_52 : decode cX8_tear 52 = .ok (.ifCond .le 7, 3) := by decide +kernel
theorem dX8_tear_55 : decode cX8_tear 55 = .ok (.iconst 1, 1) := by decide +kernel
theorem dX8_tear_56 : decode cX8_tear 56 = .ok (.goto 4, 3) := by decide +kernel
theorem dX8_tear_59 : decode cX8_tear 59 = .ok (.iconst 0, 1) := by decide +kernel
theorem dX8_tear_60 : decode cX8_tear 60 = .ok (.invokevirtual 126, 3) := by decide +kernel
theorem dX8_tear_63 : decode cX8_tear 63 = .ok (.iload_n 2, 1) := by decide +kernel
theorem dX8_tear_64 : decode cX8_tear 64 = .ok (.ireturn, 1) := by decide +kernel
theorem dX8_copy_0 : decode cX8_copy 0 = .ok (.iload_n 1, 1) := by decide +kernel
theorem dX8_copy_1 : decode cX8_copy 1 = .ok (.aload_n 0, 1) := by decide +kernel
theorem dX8_copy_2 : decode cX8_copy 2 = .ok (.getfield 12, 3) := by decide +kernel
theorem dX8_copy_5 : decode cX8_copy 5 = .ok (.getfield 55, 3) := by decide +kernel
theorem dX8_copy_8 : decode cX8_copy 8 = .ok (.invokestatic 58, 3) := by decide +kernel
theorem dX8_copy_11 : decode cX8_copy 11 = .ok (.iload_n 2, 1) := by decide +kernel
theorem dX8_copy_12 : decode cX8_copy 12 = .ok (.bipush 32, 2) := by decide +kernel
theorem dX8_copy_14 : decode cX8_copy 14 = .ok (.invokestatic 58, 3) := by decide +kernel
theorem dX8_copy_17 : decode cX8_copy 17 = .ok (.iload_n 3, 1) := by decide +kernel
theorem dX8_copy_18 : decode cX8_copy 18 = .ok (.iconst 0, 1) := by decide +kernel
theorem dX8_copy_19 : decode cX8_copy 19 = .ok (.iconst 3, 1) := by decide +kernel
theorem dX8_copy_20 : decode cX8_copy 20 = .ok (.invokestatic 45, 3) := by decide +kernel
theorem dX8_copy_23 : decode cX8_copy 23 = .ok (.aload_n 0, 1) := by decide +kernel
theorem dX8_copy_24 : decode cX8_copy 24 = .ok (.getfield 12, 3) := by decide +kernel
theorem dX8_copy_27 : decode cX8_copy 27 = .ok (.getfield 98, 3) := by decide +kernel
theorem dX8_copy_30 : decode cX8_copy 30 = .ok (.iload_n 1, 1) := by decide +kernel
theorem dX8_copy_31 : decode cX8_copy 31 = .ok (.iload_n 2, 1) := by decide +kernel
theorem dX8_copy_32 : decode cX8_copy 32 = .ok (.iload_n 3, 1) := by decide +kernel
theorem dX8_copy_33 : decode cX8_copy 33 = .ok (.invokevirtual 130, 3) := by decide +kernel
theorem dX8_copy_36 : decode cX8_copy 36 = .ok (.ireturn, 1) := by decide +kernel
theorem dX8_line_0 : decode cX8_line 0 = .ok (.iload_n 1, 1) := by decide +kernel
theorem dX8_line_1 : decode cX8_line 1 = .ok (.bipush 32, 2) := by decide +kernel
theorem dX8_line_3 : decode cX8_line 3 = .ok (.invokestatic 58, 3) := by decide +kernel
theorem dX8_line_6 : decode cX8_line 6 = .ok (.iload_n 2, 1) := by decide +kernel
theorem dX8_line_7 : decode cX8_line 7 = .ok (.iconst 0, 1) := by decide +kernel
theorem dX8_line_8 : decode cX8_line 8 = .ok (.bipush 7, 2) := by decide +kernel
theorem dX8_line_10 : decode cX8_line 10 = .ok (.invokestatic 45, 3) := by decide +kernel
theorem dX8_line_13 : decode cX8_line 13 = .ok (.aload_n 0, 1) := by decide +kernel
theorem dX8_line_14 : decode cX8_line 14 = .ok (.getfield 12, 3) := by decide +kernel
theorem dX8_line_17 : decode cX8_line 17 = .ok (.iload_n 1, 1) := by decide +kernel
theorem dX8_line_18 : decode cX8_line 18 = .ok (.iload_n 2, 1) := by decide +kernel
theorem dX8_line_19 : decode cX8_line 19 = .ok (.invokevirtual 134, 3) := by decide +kernel
theorem dX8_line_22 : decode cX8_line 22 = .ok (.ireturn, 1) := by decide +kernel
theorem dX8_pending_0 : decode cX8_pending 0 = .ok (.iload_n 1, 1) := by decide +kernel
theorem dX8_pending_1 : decode cX8_pending 1 = .ok (.aload_n 0, 1) := by decide +kernel
theorem dX8_pending_2 : decode cX8_pending 2 = .ok (.getfield 12, 3) := by decide +kernel
theorem dX8_pending_5 : decode cX8_pending 5 = .ok (.getfield 55, 3) := by decide +kernel
theorem dX8_pending_8 : decode cX8_pending 8 = .ok (.invokestatic 58, 3) := by decide +kernel
theorem dX8_pending_11 : decode cX8_pending 11 = .ok (.iload_n 2, 1) := by decide +kernel
theorem dX8_pending_12 : decode cX8_pending 12 = .ok (.iconst 0, 1) := by decide +kernel
theorem dX8_pending_13 : decode cX8_pending 13 = .ok (.iconst 2, 1) := by decide +kernel
theorem dX8_pending_14 : decode cX8_pending 14 = .ok (.invokestatic 45, 3) := by decide +kernel
theorem dX8_pending_17 : decode cX8_pending 17 = .ok (.aload_n 0, 1) := by decide +kernel
theorem dX8_pending_18 : decode cX8_pending 18 = .ok (.getfield 12, 3) := by decide +kernel
theorem dX8_pending_21 : decode cX8_pending 21 = .ok (.getfield 62, 3) := by decide +kernel
theorem dX8_pending_24 : decode cX8_pending 24 = .ok (.iload_n 1, 1) := by decide +kernel
theorem dX8_pending_25 : decode cX8_pending 25 = .ok (.iload_n 2, 1) := by decide +kernel
theorem dX8_pending_26 : decode cX8_pending 26 = .ok (.invokevirtual 137, 3) := by decide +kernel
theorem dX8_pending_29 : decode cX8_pending 29 = .ok (.ireturn, 1) := by decide +kernel
theorem dX8_value_0 : decode cX8_value 0 = .ok (.iload_n 1, 1) := by decide +kernel
theorem dX8_value_1 : decode cX8_value 1 = .ok (.iconst 0, 1) := by decide +kernel
theorem dX8_value_2 : decode cX8_value 2 = .ok (.bipush 13, 2) := by decide +kernel
theorem dX8_value_4 : decode cX8_value 4 = .ok (.invokestatic 45, 3) := by decide +kernel
theorem dX8_value_7 : decode cX8_value 7 = .ok (.aload_n 0, 1) := by decide +kernel
theorem dX8_value_8 : decode cX8_value 8 = .ok (.getfield 12, 3) := by decide +kernel
theorem dX8_value_11 : decode cX8_value 11 = .ok (.iload_n 1, 1) := by decide +kernel
theorem dX8_value_12 : decode cX8_value 12 = .ok (.invokevirtual 149, 3) := by decide +kernel
theorem dX8_value_15 : decode cX8_value 15 = .ok (.ireturn, 1) := by decide +kernel
theorem dX8_nextTorn_0 : decode cX8_nextTorn 0 = .ok (.aload_n 0, 1) := by decide +kernel
theorem dX8_nextTorn_1 : decode cX8_nextTorn 1 = .ok (.getfield 12, 3) := by decide +kernel
theorem dX8_nextTorn_4 : decode cX8_nextTorn 4 = .ok (.getfield 114, 3) := by decide +kernel
theorem dX8_nextTorn_7 : decode cX8_nextTorn 7 = .ok (.invokevirtual 156, 3) := by decide +kernel
theorem dX8_nextTorn_10 : decode cX8_nextTorn 10 = .ok (.ireturn, 1) := by decide +kernel
theorem dX8_nextDropped_0 : decode cX8_nextDropped 0 = .ok (.iload_n 1, 1) := by decide +kernel
theorem dX8_nextDropped_1 : decode cX8_nextDropped 1 = .ok (.aload_n 0, 1) := by decide +kernel
theorem dX8_nextDropped_2 : decode cX8_nextDropped 2 = .ok (.getfield 12, 3) := by decide +kernel
theorem dX8_nextDropped_5 : decode cX8_nextDropped 5 = .ok (.getfield 55, 3) := by decide +kernel
theorem dX8_nextDropped_8 : decode cX8_nextDropped 8 = .ok (.invokestatic 58, 3) := by decide +kernel
theorem dX8_nextDropped_11 : decode cX8_nextDropped 11 = .ok (.aload_n 0, 1) := by decide +kernel
theorem dX8_nextDropped_12 : decode cX8_nextDropped 12 = .ok (.getfield 12, 3) := by decide +kernel
theorem dX8_nextDropped_15 : decode cX8_nextDropped 15 = .ok (.iload_n 1, 1) := by decide +kernel
theorem dX8_nextDropped_16 : decode cX8_nextDropped 16 = .ok (.invokevirtual 160, 3) := by decide +kernel
theorem dX8_nextDropped_19 : decode cX8_nextDropped 19 = .ok (.ireturn, 1) := by decide +kernel
theorem dX8_append_0 : decode cX8_append 0 = .ok (.iload_n 1, 1) := by decide +kernel
theorem dX8_append_1 : decode cX8_append 1 = .ok (.iconst 0, 1) := by decide +kernel
theorem dX8_append_2 : decode cX8_append 2 = .ok (.bipush 127, 2) := by decide +kernel
theorem dX8_append_4 : decode cX8_append 4 = .ok (.invokestatic 45, 3) := by decide +kernel
theorem dX8_append_7 : decode cX8_append 7 = .ok (.aload_n 0, 1) := by decide +kernel
theorem dX8_append_8 : decode cX8_append 8 = .ok (.getfield 34, 3) := by decide +kernel
theorem dX8_append_11 : decode cX8_append 11 = .ok (.bipush 100, 2) := by decide +kernel
theorem dX8_append_13 : decode cX8_append 13 = .ok (.if_icmp .ge 7, 3) := by decide +kernel
theorem dX8_append_16 : decode cX8_append 16 = .ok (.iconst 1, 1) := by decide +kernel
theorem dX8_append_17 : decode cX8_append 17 = .ok (.goto 4, 3) := by decide +kernel
theorem dX8_append_20 : decode cX8_append 20 = .ok (.iconst 0, 1) := by decide +kernel
theorem dX8_append_21 : decode cX8_append 21 = .ok (.invokestatic 72, 3) := by decide +kernel
theorem dX8_append_24 : decode cX8_append 24 = .ok (.aload_n 0, 1) := by decide +kernel
theorem dX8_append_25 : decode cX8_append 25 = .ok (.getfield 30, 3) := by decide +kernel
theorem dX8_append_28 : decode cX8_append 28 = .ok (.aload_n 0, 1) := by decide +kernel
theorem dX8_append_29 : decode cX8_append 29 = .ok (.getfield 34, 3) := by decide +kernel
theorem dX8_append_32 : decode cX8_append 32 = .ok (.iload_n 1, 1) := by decide +kernel
theorem dX8_append_33 : decode cX8_append 33 = .ok (.i2b, 1) := by decide +kernel
theorem dX8_append_34 : decode cX8_append 34 = .ok (.bastore, 1) := by decide +kernel
theorem dX8_append_35 : decode cX8_append 35 = .ok (.aload_n 0, 1) := by decide +kernel
theorem dX8_append_36 : decode cX8_append 36 = .ok (.dup, 1) := by decide +kernel
theorem dX8_append_37 : decode cX8_append 37 = .ok (.getfield 34, 3) := by decide +kernel
theorem dX8_append_40 : decode cX8_append 40 = .ok (.iconst 1, 1) := by decide +kernel
theorem dX8_append_41 : decode cX8_append 41 = .ok (.iadd, 1) := by decide +kernel
theorem dX8_append_42 : decode cX8_append 42 = .ok (.putfield 34, 3) := by decide +kernel
theorem dX8_append_45 : decode cX8_append 45 = .ok (.aload_n 0, 1) := by decide +kernel
theorem dX8_append_46 : decode cX8_append 46 = .ok (.getfield 34, 3) := by decide +kernel
theorem dX8_append_49 : decode cX8_append 49 = .ok (.ireturn, 1) := by decide +kernel
theorem dX8_clearText_0 : decode cX8_clearText 0 = .ok (.aload_n 0, 1) := by decide +kernel
theorem dX8_clearText_1 : decode cX8_clearText 1 = .ok (.getfield 34, 3) := by decide +kernel
theorem dX8_clearText_4 : decode cX8_clearText 4 = .ok (.istore_n 1, 1) := by decide +kernel
theorem dX8_clearText_5 : decode cX8_clearText 5 = .ok (.aload_n 0, 1) := by decide +kernel
theorem dX8_clearText_6 : decode cX8_clearText 6 = .ok (.iconst 0, 1) := by decide +kernel
theorem dX8_clearText_7 : decode cX8_clearText 7 = .ok (.putfield 34, 3) := by decide +kernel
theorem dX8_clearText_10 : decode cX8_clearText 10 = .ok (.iload_n 1, 1) := by decide +kernel
theorem dX8_clearText_11 : decode cX8_clearText 11 = .ok (.ireturn, 1) := by decide +kernel
theorem dX8_carryOut_0 : decode cX8_carryOut 0 = .ok (.aload_n 0, 1) := by decide +kernel
theorem dX8_carryOut_1 : decode cX8_carryOut 1 = .ok (.getfield 41, 3) := by decide +kernel
theorem dX8_carryOut_4 : decode cX8_carryOut 4 = .ok (.aload_n 0, 1) := by decide +kernel
theorem dX8_carryOut_5 : decode cX8_carryOut 5 = .ok (.getfield 30, 3) := by decide +kernel
theorem dX8_carryOut_8 : decode cX8_carryOut 8 = .ok (.aload_n 0, 1) := by decide +kernel
theorem dX8_carryOut_9 : decode cX8_carryOut 9 = .ok (.getfield 34, 3) := by decide +kernel
theorem dX8_carryOut_12 : decode cX8_carryOut 12 = .ok (.invokevirtual 177, 3) := by decide +kernel
theorem dX8_carryOut_15 : decode cX8_carryOut 15 = .ok (.istore_n 1, 1) := by decide +kernel
theorem dX8_carryOut_16 : decode cX8_carryOut 16 = .ok (.iload_n 1, 1) := by decide +kernel
theorem dX8_carryOut_17 : decode cX8_carryOut 17 = .ok (.iconst (-1), 1) := by decide +kernel
theorem dX8_carryOut_18 : decode cX8_carryOut 18 = .ok (.if_icmp .eq 8, 3) := by decide +kernel
theorem dX8_carryOut_21 : decode cX8_carryOut 21 = .ok (.bipush (-10), 2) := by decide +kernel
theorem dX8_carryOut_23 : decode cX8_carryOut 23 = .ok (.iload_n 1, 1) := by decide +kernel
theorem dX8_carryOut_24 : decode cX8_carryOut 24 = .ok (.isub, 1) := by decide +kernel
theorem dX8_carryOut_25 : decode cX8_carryOut 25 = .ok (.ireturn, 1) := by decide +kernel
theorem dX8_carryOut_26 : decode cX8_carryOut 26 = .ok (.aload_n 0, 1) := by decide +kernel
theorem dX8_carryOut_27 : decode cX8_carryOut 27 = .ok (.getfield 26, 3) := by decide +kernel
theorem dX8_carryOut_30 : decode cX8_carryOut 30 = .ok (.aload_n 0, 1) := by decide +kernel
theorem dX8_carryOut_31 : decode cX8_carryOut 31 = .ok (.getfield 12, 3) := by decide +kernel
theorem dX8_carryOut_34 : decode cX8_carryOut 34 = .ok (.invokevirtual 48, 3) := by decide +kernel
theorem dX8_carryOut_37 : decode cX8_carryOut 37 = .ok (.iconst 0, 1) := by decide +kernel
theorem dX8_carryOut_38 : decode cX8_carryOut 38 = .ok (.istore_n 2, 1) := by decide +kernel
theorem dX8_carryOut_39 : decode cX8_carryOut 39 = .ok (.iload_n 2, 1) := by decide +kernel
theorem dX8_carryOut_40 : decode cX8_carryOut 40 = .ok (.aload_n 0, 1) := by decide +kernel
theorem dX8_carryOut_41 : decode cX8_carryOut 41 = .ok (.getfield 41, 3) := by decide +kernel
theorem dX8_carryOut_44 : decode cX8_carryOut 44 = .ok (.getfield 181, 3) := by decide +kernel
theorem dX8_carryOut_47 : decode cX8_carryOut 47 = .ok (.if_icmp .ge 87, 3) := by decide +kernel
theorem dX8_carryOut_50 : decode cX8_carryOut 50 = .ok (.aload_n 0, 1) := by decide +kernel
theorem dX8_carryOut_51 : decode cX8_carryOut 51 = .ok (.iload_n 2, 1) := by decide +kernel
theorem dX8_carryOut_52 : decode cX8_carryOut 52 = .ok (.invokevirtual 182, 3) := by decide +kernel
theorem dX8_carryOut_55 : decode cX8_carryOut 55 = .ok (.ifCond .ne 5, 3) := by decide +kernel
theorem dX8_carryOut_58 : decode cX8_carryOut 58 = .ok (.iload_n 2, 1) := by decide +kernel
theorem dX8_carryOut_59 : decode cX8_carryOut 59 = .ok (.ireturn, 1) := by decide +kernel
theorem dX8_carryOut_60 : decode cX8_carryOut 60 = .ok (.aload_n 0, 1) := by decide +kernel
theorem dX8_carryOut_61 : decode cX8_carryOut 61 = .ok (.getfield 41, 3) := by decide +kernel
theorem dX8_carryOut_64 : decode cX8_carryOut 64 = .ok (.iload_n 2, 1) := by decide +kernel
theorem dX8_carryOut_65 : decode cX8_carryOut 65 = .ok (.invokevirtual 185, 3) := by decide +kernel
theorem dX8_carryOut_68 : decode cX8_carryOut 68 = .ok (.ifCond .eq 23, 3) := by decide +kernel
theorem dX8_carryOut_71 : decode cX8_carryOut 71 = .ok (.aload_n 0, 1) := by decide +kernel
theorem dX8_carryOut_72 : decode cX8_carryOut 72 = .ok (.getfield 12, 3) := by decide +kernel
theorem dX8_carryOut_75 : decode cX8_carryOut 75 = .ok (.aload_n 0, 1) := by decide +kernel
theorem dX8_carryOut_76 : decode cX8_carryOut 76 = .ok (.getfield 41, 3) := by decide +kernel
theorem dX8_carryOut_79 : decode cX8_carryOut 79 = .ok (.getfield 188, 3) := by decide +kernel
theorem dX8_carryOut_82 : decode cX8_carryOut 82 = .ok (.iload_n 2, 1) := by decide +kernel
theorem dX8_carryOut_83 : decode cX8_carryOut 83 = .ok (.iaload, 1) := by decide +kernel
theorem dX8_carryOut_84 : decode cX8_carryOut 84 = .ok (.invokevirtual 94, 3) := by decide +kernel
theorem dX8_carryOut_87 : decode cX8_carryOut 87 = .ok (.pop, 1) := by decide +kernel
theorem dX8_carryOut_88 : decode cX8_carryOut 88 = .ok (.goto 40, 3) := by decide +kernel
theorem dX8_carryOut_91 : decode cX8_carryOut 91 = .ok (.aload_n 0, 1) := by decide +kernel
theorem dX8_carryOut_92 : decode cX8_carryOut 92 = .ok (.getfield 12, 3) := by decide +kernel
theorem dX8_carryOut_95 : decode cX8_carryOut 95 = .ok (.getfield 62, 3) := by decide +kernel
theorem dX8_carryOut_98 : decode cX8_carryOut 98 = .ok (.aload_n 0, 1) := by decide +kernel
theorem dX8_carryOut_99 : decode cX8_carryOut 99 = .ok (.getfield 41, 3) := by decide +kernel
theorem dX8_carryOut_102 : decode cX8_carryOut 102 = .ok (.getfield 190, 3) := by decide +kernel
theorem dX8_carryOut_105 : decode cX8_carryOut 105 = .ok (.iload_n 2, 1) := by decide +kernel
theorem dX8_carryOut_106 : decode cX8_carryOut 106 = .ok (.iaload, 1) := by decide +kernel
theorem dX8_carryOut_107 : decode cX8_carryOut 107 = .ok (.aload_n 0, 1) := by decide +kernel
theorem dX8_carryOut_108 : decode cX8_carryOut 108 = .ok (.getfield 41, 3) := by decide +kernel
theorem dX8_carryOut_111 : decode cX8_carryOut 111 = .ok (.getfield 193, 3) := by decide +kernel
theorem dX8_carryOut_114 : decode cX8_carryOut 114 = .ok (.iload_n 2, 1) := by decide +kernel
theorem dX8_carryOut_115 : decode cX8_carryOut 115 = .ok (.iaload, 1) := by decide +kernel
theorem dX8_carryOut_116 : decode cX8_carryOut 116 = .ok (.aload_n 0, 1) := by decide +kernel
theorem dX8_carryOut_117 : decode cX8_carryOut 117 = .ok (.getfield 41, 3) := by decide +kernel
theorem dX8_carryOut_120 : decode cX8_carryOut 120 = .ok (.getfield 188, 3) := by decide +kernel
theorem dX8_carryOut_123 : decode cX8_carryOut 123 = .ok (.iload_n 2, 1) := by decide +kernel
theorem dX8_carryOut_124 : decode cX8_carryOut 124 = .ok (.iaload, 1) := by decide +kernel
theorem dX8_carryOut_125 : decode cX8_carryOut 125 = .ok (.invokevirtual 76, 3) := by decide +kernel
theorem dX8_carryOut_128 : decode cX8_carryOut 128 = .ok (.iinc 2 1, 3) := by decide +kernel
theorem dX8_carryOut_131 : decode cX8_carryOut 131 = .ok (.goto (-92), 3) := by decide +kernel
theorem dX8_carryOut_134 : decode cX8_carryOut 134 = .ok (.aload_n 0, 1) := by decide +kernel
theorem dX8_carryOut_135 : decode cX8_carryOut 135 = .ok (.getfield 41, 3) := by decide +kernel
theorem dX8_carryOut_138 : decode cX8_carryOut 138 = .ok (.getfield 181, 3) := by decide +kernel
theorem dX8_carryOut_141 : decode cX8_carryOut 141 = .ok (.ireturn, 1) := by decide +kernel
theorem dX8_undo_0 : decode cX8_undo 0 = .ok (.aload_n 0, 1) := by decide +kernel
theorem dX8_undo_1 : decode cX8_undo 1 = .ok (.getfield 26, 3) := by decide +kernel
theorem dX8_undo_4 : decode cX8_undo 4 = .ok (.getfield 194, 3) := by decide +kernel
theorem dX8_undo_7 : decode cX8_undo 7 = .ok (.ifCond .le 7, 3) := by decide +kernel
theorem dX8_undo_10 : decode cX8_undo 10 = .ok (.iconst 1, 1) := by decide +kernel
theorem dX8_undo_11 : decode cX8_undo 11 = .ok (.goto 4, 3) := by decide +kernel
theorem dX8_undo_14 : decode cX8_undo 14 = .ok (.iconst 0, 1) := by decide +kernel
theorem dX8_undo_15 : decode cX8_undo 15 = .ok (.invokestatic 72, 3) := by decide +kernel
theorem dX8_undo_18 : decode cX8_undo 18 = .ok (.aload_n 0, 1) := by decide +kernel
theorem dX8_undo_19 : decode cX8_undo 19 = .ok (.getfield 26, 3) := by decide +kernel
theorem dX8_undo_22 : decode cX8_undo 22 = .ok (.aload_n 0, 1) := by decide +kernel
theorem dX8_undo_23 : decode cX8_undo 23 = .ok (.getfield 12, 3) := by decide +kernel
theorem dX8_undo_26 : decode cX8_undo 26 = .ok (.invokevirtual 195, 3) := by decide +kernel
theorem dX8_undo_29 : decode cX8_undo 29 = .ok (.aload_n 0, 1) := by decide +kernel
theorem dX8_undo_30 : decode cX8_undo 30 = .ok (.getfield 26, 3) := by decide +kernel
theorem dX8_undo_33 : decode cX8_undo 33 = .ok (.getfield 194, 3) := by decide +kernel
theorem dX8_undo_36 : decode cX8_undo 36 = .ok (.ireturn, 1) := by decide +kernel
theorem dX8_digest_0 : decode cX8_digest 0 = .ok (.ldc2_w 198, 3) := by decide +kernel
theorem dX8_digest_3 : decode cX8_digest 3 = .ok (.aload_n 0, 1) := by decide +kernel
theorem dX8_digest_4 : decode cX8_digest 4 = .ok (.getfield 34, 3) := by decide +kernel
theorem dX8_digest_7 : decode cX8_digest 7 = .ok (.i2l, 1) := by decide +kernel
theorem dX8_digest_8 : decode cX8_digest 8 = .ok (.ladd, 1) := by decide +kernel
theorem dX8_digest_9 : decode cX8_digest 9 = .ok (.lstore_n 1, 1) := by decide +kernel
theorem dX8_digest_10 : decode cX8_digest 10 = .ok (.iconst 0, 1) := by decide +kernel
theorem dX8_digest_11 : decode cX8_digest 11 = .ok (.istore_n 3, 1) := by decide +kernel
theorem dX8_digest_12 : decode cX8_digest 12 = .ok (.iload_n 3, 1) := by decide +kernel
theorem dX8_digest_13 : decode cX8_digest 13 = .ok (.bipush 14, 2) := by decide +kernel
theorem dX8_digest_15 : decode cX8_digest 15 = .ok (.if_icmp .ge 25, 3) := by decide +kernel
theorem dX8_digest_18 : decode cX8_digest 18 = .ok (.ldc2_w 200, 3) := by decide +kernel
theorem dX8_digest_21 : decode cX8_digest 21 = .ok (.lload_n 1, 1) := by decide +kernel
theorem dX8_digest_22 : decode cX8_digest 22 = .ok (.lmul, 1) := by decide +kernel
theorem dX8_digest_23 : decode cX8_digest 23 = .ok (.aload_n 0, 1) := by decide +kernel
theorem dX8_digest_24 : decode cX8_digest 24 = .ok (.getfield 12, 3) := by decide +kernel
theorem dX8_digest_27 : decode cX8_digest 27 = .ok (.iload_n 3, 1) := by decide +kernel
theorem dX8_digest_28 : decode cX8_digest 28 = .ok (.invokevirtual 149, 3) := by decide +kernel
theorem dX8_digest_31 : decode cX8_digest 31 = .ok (.i2l, 1) := by decide +kernel
theorem dX8_digest_32 : decode cX8_digest 32 = .ok (.ladd, 1) := by decide +kernel
theorem dX8_digest_33 : decode cX8_digest 33 = .ok (.lstore_n 1, 1) := by decide +kernel
theorem dX8_digest_34 : decode cX8_digest 34 = .ok (.iinc 3 1, 3) := by decide +kernel
theorem dX8_digest_37 : decode cX8_digest 37 = .ok (.goto (-25), 3) := by decide +kernel
theorem dX8_digest_40 : decode cX8_digest 40 = .ok (.iconst 0, 1) := by decide +kernel
theorem dX8_digest_41 : decode cX8_digest 41 = .ok (.istore_n 3, 1) := by decide +kernel
theorem dX8_digest_42 : decode cX8_digest 42 = .ok (.iload_n 3, 1) := by decide +kernel
theorem dX8_digest_43 : decode cX8_digest 43 = .ok (.bipush 32, 2) := by decide +kernel
theorem dX8_digest_45 : decode cX8_digest 45 = .ok (.if_icmp .ge 16, 3) := by decide +kernel
theorem dX8_digest_48 : decode cX8_digest 48 = .ok (.aload_n 0, 1) := by decide +kernel
theorem dX8_digest_49 : decode cX8_digest 49 = .ok (.lload_n 1, 1) := by decide +kernel
theorem dX8_digest_50 : decode cX8_digest 50 = .ok (.iload_n 3, 1) := by decide +kernel
theorem dX8_digest_51 : decode cX8_digest 51 = .ok (.invokevirtual 202, 3) := by decide +kernel
theorem dX8_digest_54 : decode cX8_digest 54 = .ok (.lstore_n 1, 1) := by decide +kernel
theorem dX8_digest_55 : decode cX8_digest 55 = .ok (.iinc 3 1, 3) := by decide +kernel
theorem dX8_digest_58 : decode cX8_digest 58 = .ok (.goto (-16), 3) := by decide +kernel
theorem dX8_digest_61 : decode cX8_digest 61 = .ok (.iconst 0, 1) := by decide +kernel
theorem dX8_digest_62 : decode cX8_digest 62 = .ok (.istore_n 3, 1) := by decide +kernel
theorem dX8_digest_63 : decode cX8_digest 63 = .ok (.iload_n 3, 1) := by decide +kernel
theorem dX8_digest_64 : decode cX8_digest 64 = .ok (.aload_n 0, 1) := by decide +kernel
theorem dX8_digest_65 : decode cX8_digest 65 = .ok (.getfield 12, 3) := by decide +kernel
theorem dX8_digest_68 : decode cX8_digest 68 = .ok (.getfield 55, 3) := by decide +kernel
theorem dX8_digest_71 : decode cX8_digest 71 = .ok (.if_icmp .ge 45, 3) := by decide +kernel
theorem dX8_digest_74 : decode cX8_digest 74 = .ok (.iconst 0, 1) := by decide +kernel
theorem dX8_digest_75 : decode cX8_digest 75 = .ok (.istore 4, 2) := by decide +kernel
theorem dX8_digest_77 : decode cX8_digest 77 = .ok (.iload 4, 2) := by decide +kernel
theorem dX8_digest_79 : decode cX8_digest 79 = .ok (.iconst 3, 1) := by decide +kernel
theorem dX8_digest_80 : decode cX8_digest 80 = .ok (.if_icmp .ge 30, 3) := by decide +kernel
theorem dX8_digest_83 : decode cX8_digest 83 = .ok (.ldc2_w 200, 3) := by decide +kernel
theorem dX8_digest_86 : decode cX8_digest 86 = .ok (.lload_n 1, 1) := by decide +kernel
theorem dX8_digest_87 : decode cX8_digest 87 = .ok (.lmul, 1) := by decide +kernel
theorem dX8_digest_88 : decode cX8_digest 88 = .ok (.aload_n 0, 1) := by decide +kernel
theorem dX8_digest_89 : decode cX8_digest 89 = .ok (.getfield 12, 3) := by decide +kernel
theorem dX8_digest_92 : decode cX8_digest 92 = .ok (.getfield 62, 3) := by decide +kernel
theorem dX8_digest_95 : decode cX8_digest 95 = .ok (.iload_n 3, 1) := by decide +kernel
theorem dX8_digest_96 : decode cX8_digest 96 = .ok (.iload 4, 2) := by decide +kernel
theorem dX8_digest_98 : decode cX8_digest 98 = .ok (.invokevirtual 137, 3) := by decide +kernel
theorem dX8_digest_101 : decode cX8_digest 101 = .ok (.i2l, 1) := by decide +kernel
theorem dX8_digest_102 : decode cX8_digest 102 = .ok (.ladd, 1) := by decide +kernel
theorem dX8_digest_103 : decode cX8_digest 103 = .ok (.lstore_n 1, 1) := by decide +kernel
theorem dX8_digest_104 : decode cX8_digest 104 = .ok (.iinc 4 1, 3) := by decide +kernel
theorem dX8_digest_107 : decode cX8_digest 107 = .ok (.goto (-30), 3) := by decide +kernel
theorem dX8_digest_110 : decode cX8_digest 110 = .ok (.iinc 3 1, 3) := by decide +kernel
theorem dX8_digest_113 : decode cX8_digest 113 = .ok (.goto (-50), 3) := by decide +kernel
theorem dX8_digest_116 : decode cX8_digest 116 = .ok (.iconst 0, 1) := by decide +kernel
theorem dX8_digest_117 : decode cX8_digest 117 = .ok (.istore_n 3, 1) := by decide +kernel
theorem dX8_digest_118 : decode cX8_digest 118 = .ok (.iload_n 3, 1) := by decide +kernel
theorem dX8_digest_119 : decode cX8_digest 119 = .ok (.aload_n 0, 1) := by decide +kernel
theorem dX8_digest_120 : decode cX8_digest 120 = .ok (.getfield 12, 3) := by decide +kernel
theorem dX8_digest_123 : decode cX8_digest 123 = .ok (.getfield 139, 3) := by decide +kernel
theorem dX8_digest_126 : decode cX8_digest 126 = .ok (.getfield 143, 3) := by decide +kernel
theorem dX8_digest_129 : decode cX8_digest 129 = .ok (.if_icmp .ge 46, 3) := by decide +kernel
theorem dX8_digest_132 : decode cX8_digest 132 = .ok (.iconst 0, 1) := by decide +kernel
theorem dX8_digest_133 : decode cX8_digest 133 = .ok (.istore 4, 2) := by decide +kernel
theorem dX8_digest_135 : decode cX8_digest 135 = .ok (.iload 4, 2) := by decide +kernel
theorem dX8_digest_137 : decode cX8_digest 137 = .ok (.bipush 6, 2) := by decide +kernel
theorem dX8_digest_139 : decode cX8_digest 139 = .ok (.if_icmp .ge 30, 3) := by decide +kernel
theorem dX8_digest_142 : decode cX8_digest 142 = .ok (.ldc2_w 200, 3) := by decide +kernel
theorem dX8_digest_145 : decode cX8_digest 145 = .ok (.lload_n 1, 1) := by decide +kernel
theorem dX8_digest_146 : decode cX8_digest 146 = .ok (.lmul, 1) := by decide +kernel
theorem dX8_digest_147 : decode cX8_digest 147 = .ok (.aload_n 0, 1) := by decide +kernel
theorem dX8_digest_148 : decode cX8_digest 148 = .ok (.getfield 12, 3) := by decide +kernel
theorem dX8_digest_151 : decode cX8_digest 151 = .ok (.getfield 139, 3) := by decide +kernel
theorem dX8_digest_154 : decode cX8_digest 154 = .ok (.iload_n 3, 1) := by decide +kernel
theorem dX8_digest_155 : decode cX8_digest 155 = .ok (.iload 4, 2) := by decide +kernel
theorem dX8_digest_157 : decode cX8_digest 157 = .ok (.invokevirtual 148, 3) := by decide +kernel
theorem dX8_digest_160 : decode cX8_digest 160 = .ok (.i2l, 1) := by decide +kernel
theorem dX8_digest_161 : decode cX8_digest 161 = .ok (.ladd, 1) := by decide +kernel
theorem dX8_digest_162 : decode cX8_digest 162 = .ok (.lstore_n 1, 1) := by decide +kernel
theorem dX8_digest_163 : decode cX8_digest 163 = .ok (.iinc 4 1, 3) := by decide +kernel
theorem dX8_digest_166 : decode cX8_digest 166 = .ok (.goto (-31), 3) := by decide +kernel
theorem dX8_digest_169 : decode cX8_digest 169 = .ok (.iinc 3 1, 3) := by decide +kernel
theorem dX8_digest_172 : decode cX8_digest 172 = .ok (.goto (-54), 3) := by decide +kernel
theorem dX8_digest_175 : decode cX8_digest 175 = .ok (.ldc2_w 200, 3) := by decide +kernel
theorem dX8_digest_178 : decode cX8_digest 178 = .ok (.lload_n 1, 1) := by decide +kernel
theorem dX8_digest_179 : decode cX8_digest 179 = .ok (.lmul, 1) := by decide +kernel
theorem dX8_digest_180 : decode cX8_digest 180 = .ok (.aload_n 0, 1) := by decide +kernel
theorem dX8_digest_181 : decode cX8_digest 181 = .ok (.getfield 12, 3) := by decide +kernel
theorem dX8_digest_184 : decode cX8_digest 184 = .ok (.getfield 114, 3) := by decide +kernel
theorem dX8_digest_187 : decode cX8_digest 187 = .ok (.invokevirtual 156, 3) := by decide +kernel
theorem dX8_digest_190 : decode cX8_digest 190 = .ok (.i2l, 1) := by decide +kernel
theorem dX8_digest_191 : decode cX8_digest 191 = .ok (.ladd, 1) := by decide +kernel
theorem dX8_digest_192 : decode cX8_digest 192 = .ok (.lstore_n 1, 1) := by decide +kernel
theorem dX8_digest_193 : decode cX8_digest 193 = .ok (.ldc2_w 200, 3) := by decide +kernel
theorem dX8_digest_196 : decode cX8_digest 196 = .ok (.lload_n 1, 1) := by decide +kernel
theorem dX8_digest_197 : decode cX8_digest 197 = .ok (.lmul, 1) := by decide +kernel
theorem dX8_digest_198 : decode cX8_digest 198 = .ok (.aload_n 0, 1) := by decide +kernel
theorem dX8_digest_199 : decode cX8_digest 199 = .ok (.getfield 26, 3) := by decide +kernel
theorem dX8_digest_202 : decode cX8_digest 202 = .ok (.getfield 194, 3) := by decide +kernel
theorem dX8_digest_205 : decode cX8_digest 205 = .ok (.i2l, 1) := by decide +kernel
theorem dX8_digest_206 : decode cX8_digest 206 = .ok (.ladd, 1) := by decide +kernel
theorem dX8_digest_207 : decode cX8_digest 207 = .ok (.lreturn, 1) := by decide +kernel
theorem dX8_hashLine_0 : decode cX8_hashLine 0 = .ok (.lload_n 1, 1) := by decide +kernel
theorem dX8_hashLine_1 : decode cX8_hashLine 1 = .ok (.lstore 4, 2) := by decide +kernel
theorem dX8_hashLine_3 : decode cX8_hashLine 3 = .ok (.iconst 0, 1) := by decide +kernel
theorem dX8_hashLine_4 : decode cX8_hashLine 4 = .ok (.istore 6, 2) := by decide +kernel
theorem dX8_hashLine_6 : decode cX8_hashLine 6 = .ok (.iload 6, 2) := by decide +kernel
theorem dX8_hashLine_8 : decode cX8_hashLine 8 = .ok (.bipush 8, 2) := by decide +kernel
theorem dX8_hashLine_10 : decode cX8_hashLine 10 = .ok (.if_icmp .ge 29, 3) := by decide +kernel
theorem dX8_hashLine_13 : decode cX8_hashLine 13 = .ok (.ldc2_w 200, 3) := by decide +kernel
theorem dX8_hashLine_16 : decode cX8_hashLine 16 = .ok (.lload 4, 2) := by decide +kernel
theorem dX8_hashLine_18 : decode cX8_hashLine 18 = .ok (.lmul, 1) := by decide +kernel
theorem dX8_hashLine_19 : decode cX8_hashLine 19 = .ok (.aload_n 0, 1) := by decide +kernel
theorem dX8_hashLine_20 : decode cX8_hashLine 20 = .ok (.getfield 12, 3) := by decide +kernel
theorem dX8_hashLine_23 : decode cX8_hashLine 23 = .ok (.iload_n 3, 1) := by decide +kernel
theorem dX8_hashLine_24 : decode cX8_hashLine 24 = .ok (.iload 6, 2) := by decide +kernel
theorem dX8_hashLine_26 : decode cX8_hashLine 26 = .ok (.invokevirtual 134, 3) := by decide +kernel
theorem dX8_hashLine_29 : decode cX8_hashLine 29 = .ok (.i2l, 1) := by decide +kernel
theorem dX8_hashLine_30 : decode cX8_hashLine 30 = .ok (.ladd, 1) := by decide +kernel
theorem dX8_hashLine_31 : decode cX8_hashLine 31 = .ok (.lstore 4, 2) := by decide +kernel
theorem dX8_hashLine_33 : decode cX8_hashLine 33 = .ok (.iinc 6 1, 3) := by decide +kernel
theorem dX8_hashLine_36 : decode cX8_hashLine 36 = .ok (.goto (-30), 3) := by decide +kernel
theorem dX8_hashLine_39 : decode cX8_hashLine 39 = .ok (.iconst 0, 1) := by decide +kernel
theorem dX8_hashLine_40 : decode cX8_hashLine 40 = .ok (.istore 6, 2) := by decide +kernel
theorem dX8_hashLine_42 : decode cX8_hashLine 42 = .ok (.iload 6, 2) := by decide +kernel
theorem dX8_hashLine_44 : decode cX8_hashLine 44 = .ok (.aload_n 0, 1) := by decide +kernel
theorem dX8_hashLine_45 : decode cX8_hashLine 45 = .ok (.getfield 12, 3) := by decide +kernel
theorem dX8_hashLine_48 : decode cX8_hashLine 48 = .ok (.getfield 55, 3) := by decide +kernel
theorem dX8_hashLine_51 : decode cX8_hashLine 51 = .ok (.if_icmp .ge 49, 3) := by decide +kernel
theorem dX8_hashLine_54 : decode cX8_hashLine 54 = .ok (.iconst 0, 1) := by decide +kernel
theorem dX8_hashLine_55 : decode cX8_hashLine 55 = .ok (.istore 7, 2) := by decide +kernel
theorem dX8_hashLine_57 : decode cX8_hashLine 57 = .ok (.iload 7, 2) := by decide +kernel
theorem dX8_hashLine_59 : decode cX8_hashLine 59 = .ok (.iconst 4, 1) := by decide +kernel
theorem dX8_hashLine_60 : decode cX8_hashLine 60 = .ok (.if_icmp .ge 34, 3) := by decide +kernel
theorem dX8_hashLine_63 : decode cX8_hashLine 63 = .ok (.ldc2_w 200, 3) := by decide +kernel
theorem dX8_hashLine_66 : decode cX8_hashLine 66 = .ok (.lload 4, 2) := by decide +kernel
theorem dX8_hashLine_68 : decode cX8_hashLine 68 = .ok (.lmul, 1) := by decide +kernel
theorem dX8_hashLine_69 : decode cX8_hashLine 69 = .ok (.aload_n 0, 1) := by decide +kernel
theorem dX8_hashLine_70 : decode cX8_hashLine 70 = .ok (.getfield 12, 3) := by decide +kernel
theorem dX8_hashLine_73 : decode cX8_hashLine 73 = .ok (.getfield 98, 3) := by decide +kernel
theorem dX8_hashLine_76 : decode cX8_hashLine 76 = .ok (.iload 6, 2) := by decide +kernel
theorem dX8_hashLine_78 : decode cX8_hashLine 78 = .ok (.iload_n 3, 1) := by decide +kernel
theorem dX8_hashLine_79 : decode cX8_hashLine 79 = .ok (.iload 7, 2) := by decide +kernel
theorem dX8_hashLine_81 : decode cX8_hashLine 81 = .ok (.invokevirtual 130, 3) := by decide +kernel
theorem dX8_hashLine_84 : decode cX8_hashLine 84 = .ok (.i2l, 1) := by decide +kernel
theorem dX8_hashLine_85 : decode cX8_hashLine 85 = .ok (.ladd, 1) := by decide +kernel
theorem dX8_hashLine_86 : decode cX8_hashLine 86 = .ok (.lstore 4, 2) := by decide +kernel
theorem dX8_hashLine_88 : decode cX8_hashLine 88 = .ok (.iinc 7 1, 3) := by decide +kernel
theorem dX8_hashLine_91 : decode cX8_hashLine 91 = .ok (.goto (-34), 3) := by decide +kernel
theorem dX8_hashLine_94 : decode cX8_hashLine 94 = .ok (.iinc 6 1, 3) := by decide +kernel
theorem dX8_hashLine_97 : decode cX8_hashLine 97 = .ok (.goto (-55), 3) := by decide +kernel
theorem dX8_hashLine_100 : decode cX8_hashLine 100 = .ok (.lload 4, 2) := by decide +kernel
theorem dX8_hashLine_102 : decode cX8_hashLine 102 = .ok (.lreturn, 1) := by decide +kernel
theorem dX8_isPossible_0 : decode cX8_isPossible 0 = .ok (.aload_n 0, 1) := by decide +kernel
theorem dX8_isPossible_1 : decode cX8_isPossible 1 = .ok (.getfield 41, 3) := by decide +kernel
theorem dX8_isPossible_4 : decode cX8_isPossible 4 = .ok (.iload_n 1, 1) := by decide +kernel
theorem dX8_isPossible_5 : decode cX8_isPossible 5 = .ok (.invokevirtual 185, 3) := by decide +kernel
theorem dX8_isPossible_8 : decode cX8_isPossible 8 = .ok (.ifCond .eq 20, 3) := by decide +kernel
theorem dX8_isPossible_11 : decode cX8_isPossible 11 = .ok (.aload_n 0, 1) := by decide +kernel
theorem dX8_isPossible_12 : decode cX8_isPossible 12 = .ok (.getfield 12, 3) := by decide +kernel
theorem dX8_isPossible_15 : decode cX8_isPossible 15 = .ok (.aload_n 0, 1) := by decide +kernel
theorem dX8_isPossible_16 : decode cX8_isPossible 16 = .ok (.getfield 41, 3) := by decide +kernel
theorem dX8_isPossible_19 : decode cX8_isPossible 19 = .ok (.getfield 188, 3) := by decide +kernel
theorem dX8_isPossible_22 : decode cX8_isPossible 22 = .ok (.iload_n 1, 1) := by decide +kernel
theorem dX8_isPossible_23 : decode cX8_isPossible 23 = .ok (.iaload, 1) := by decide +kernel
theorem dX8_isPossible_24 : decode cX8_isPossible 24 = .ok (.invokevirtual 91, 3) := by decide +kernel
theorem dX8_isPossible_27 : decode cX8_isPossible 27 = .ok (.ireturn, 1) := by decide +kernel
theorem dX8_isPossible_28 : decode cX8_isPossible 28 = .ok (.aload_n 0, 1) := by decide +kernel
theorem dX8_isPossible_29 : decode cX8_isPossible 29 = .ok (.getfield 41, 3) := by decide +kernel
theorem dX8_isPossible_32 : decode cX8_isPossible 32 = .ok (.getfield 190, 3) := by decide +kernel
theorem dX8_isPossible_35 : decode cX8_isPossible 35 = .ok (.iload_n 1, 1) := by decide +kernel
theorem dX8_isPossible_36 : decode cX8_isPossible 36 = .ok (.iaload, 1) := by decide +kernel
theorem dX8_isPossible_37 : decode cX8_isPossible 37 = .ok (.istore_n 2, 1) := by decide +kernel
theorem dX8_isPossible_38 : decode cX8_isPossible 38 = .ok (.iload_n 2, 1) := by decide +kernel
theorem dX8_isPossible_39 : decode cX8_isPossible 39 = .ok (.aload_n 0, 1) := by decide +kernel
theorem dX8_isPossible_40 : decode cX8_isPossible 40 = .ok (.getfield 12, 3) := by decide +kernel
theorem dX8_isPossible_43 : decode cX8_isPossible 43 = .ok (.getfield 55, 3) := by decide +kernel
theorem dX8_isPossible_46 : decode cX8_isPossible 46 = .ok (.if_icmp .ge 21, 3) := by decide +kernel
theorem dX8_isPossible_49 : decode cX8_isPossible 49 = .ok (.aload_n 0, 1) := by decide +kernel
theorem dX8_isPossible_50 : decode cX8_isPossible 50 = .ok (.getfield 12, 3) := by decide +kernel
theorem dX8_isPossible_53 : decode cX8_isPossible 53 = .ok (.getfield 62, 3) := by decide +kernel
theorem dX8_isPossible_56 : decode cX8_isPossible 56 = .ok (.iload_n 2, 1) := by decide +kernel
theorem dX8_isPossible_57 : decode cX8_isPossible 57 = .ok (.invokevirtual 66, 3) := by decide +kernel
theorem dX8_isPossible_60 : decode cX8_isPossible 60 = .ok (.ifCond .ne 7, 3) := by decide +kernel
theorem dX8_isPossible_63 : decode cX8_isPossible 63 = .ok (.iconst 1, 1) := by decide +kernel
theorem dX8_isPossible_64 : decode cX8_isPossible 64 = .ok (.goto 4, 3) := by decide +kernel
theorem dX8_isPossible_67 : decode cX8_isPossible 67 = .ok (.iconst 0, 1) := by decide +kernel
theorem dX8_isPossible_68 : decode cX8_isPossible 68 = .ok (.ireturn, 1) := by decide +kernel
theorem dX8_needIndex_0 : decode cX8_needIndex 0 = .ok (.iload_n 0, 1) := by decide +kernel
theorem dX8_needIndex_1 : decode cX8_needIndex 1 = .ok (.ifCond .lt 8, 3) := by decide +kernel
theorem dX8_needIndex_4 : decode cX8_needIndex 4 = .ok (.iload_n 0, 1) := by decide +kernel
theorem dX8_needIndex_5 : decode cX8_needIndex 5 = .ok (.iload_n 1, 1) := by decide +kernel
theorem dX8_needIndex_6 : decode cX8_needIndex 6 = .ok (.if_icmp .lt 13, 3) := by decide +kernel
theorem dX8_needIndex_9 : decode cX8_needIndex 9 = .ok (.new 206, 3) := by decide +kernel
theorem dX8_needIndex_12 : decode cX8_needIndex 12 = .ok (.dup, 1) := by decide +kernel
theorem dX8_needIndex_13 : decode cX8_needIndex 13 = .ok (.ldc 208, 2) := by decide +kernel
theorem dX8_needIndex_15 : decode cX8_needIndex 15 = .ok (.invokespecial 210, 3) := by decide +kernel
theorem dX8_needIndex_18 : decode cX8_needIndex 18 = .ok (.athrow, 1) := by decide +kernel
theorem dX8_needIndex_19 : decode cX8_needIndex 19 = .ok (.return_, 1) := by decide +kernel
theorem dX8_needRange_0 : decode cX8_needRange 0 = .ok (.iload_n 0, 1) := by decide +kernel
theorem dX8_needRange_1 : decode cX8_needRange 1 = .ok (.iload_n 1, 1) := by decide +kernel
theorem dX8_needRange_2 : decode cX8_needRange 2 = .ok (.if_icmp .lt 8, 3) := by decide +kernel
theorem dX8_needRange_5 : decode cX8_needRange 5 = .ok (.iload_n 0, 1) := by decide +kernel
theorem dX8_needRange_6 : decode cX8_needRange 6 = .ok (.iload_n 2, 1) := by decide +kernel
theorem dX8_needRange_7 : decode cX8_needRange 7 = .ok (.if_icmp .le 13, 3) := by decide +kernel
theorem dX8_needRange_10 : decode cX8_needRange 10 = .ok (.new 213, 3) := by decide +kernel
theorem dX8_needRange_13 : decode cX8_needRange 13 = .ok (.dup, 1) := by decide +kernel
theorem dX8_needRange_14 : decode cX8_needRange 14 = .ok (.ldc 215, 2) := by decide +kernel
theorem dX8_needRange_16 : decode cX8_needRange 16 = .ok (.invokespecial 217, 3) := by decide +kernel
theorem dX8_needRange_19 : decode cX8_needRange 19 = .ok (.athrow, 1) := by decide +kernel
theorem dX8_needRange_20 : decode cX8_needRange 20 = .ok (.return_, 1) := by decide +kernel
theorem dX8_needState_0 : decode cX8_needState 0 = .ok (.iload_n 0, 1) := by decide +kernel
theorem dX8_needState_1 : decode cX8_needState 1 = .ok (.ifCond .ne 13, 3) := by decide +kernel
theorem dX8_needState_4 : decode cX8_needState 4 = .ok (.new 218, 3) := by decide +kernel
theorem dX8_needState_7 : decode cX8_needState 7 = .ok (.dup, 1) := by decide +kernel
theorem dX8_needState_8 : decode cX8_needState 8 = .ok (.ldc 220, 2) := by decide +kernel
theorem dX8_needState_10 : decode cX8_needState 10 = .ok (.invokespecial 222, 3) := by decide +kernel
theorem dX8_needState_13 : decode cX8_needState 13 = .ok (.athrow, 1) := by decide +kernel
theorem dX8_needState_14 : decode cX8_needState 14 = .ok (.return_, 1) := by decide +kernel
theorem dJ6_bitCount_0f7a4_0 : decode cJ6_bitCount_0f7a4 0 = .ok (.iload_n 0, 1) := by decide +kernel
theorem dJ6_bitCount_0f7a4_1 : decode cJ6_bitCount_0f7a4 1 = .ok (.iload_n 0, 1) := by decide +kernel
theorem dJ6_bitCount_0f7a4_2 : decode cJ6_bitCount_0f7a4 2 = .ok (.iconst 1, 1) := by decide +kernel
theorem dJ6_bitCount_0f7a4_3 : decode cJ6_bitCount_0f7a4 3 = .ok (.iushr, 1) := by decide +kernel
theorem dJ6_bitCount_0f7a4_4 : decode cJ6_bitCount_0f7a4 4 = .ok (.ldc_w 265, 3) := by decide +kernel
theorem dJ6_bitCount_0f7a4_7 : decode cJ6_bitCount_0f7a4 7 = .ok (.iand, 1) := by decide +kernel
theorem dJ6_bitCount_0f7a4_8 : decode cJ6_bitCount_0f7a4 8 = .ok (.isub, 1) := by decide +kernel
theorem dJ6_bitCount_0f7a4_9 : decode cJ6_bitCount_0f7a4 9 = .ok (.istore_n 0, 1) := by decide +kernel
theorem dJ6_bitCount_0f7a4_10 : decode cJ6_bitCount_0f7a4 10 = .ok (.iload_n 0, 1) := by decide +kernel
theorem dJ6_bitCount_0f7a4_11 : decode cJ6_bitCount_0f7a4 11 = .ok (.ldc_w 266, 3) := by decide +kernel
theorem dJ6_bitCount_0f7a4_14 : decode cJ6_bitCount_0f7a4 14 = .ok (.iand, 1) := by decide +kernel
theorem dJ6_bitCount_0f7a4_15 : decode cJ6_bitCount_0f7a4 15 = .ok (.iload_n 0, 1) := by decide +kernel
theorem dJ6_bitCount_0f7a4_16 : decode cJ6_bitCount_0f7a4 16 = .ok (.iconst 2, 1) := by decide +kernel
theorem dJ6_bitCount_0f7a4_17 : decode cJ6_bitCount_0f7a4 17 = .ok (.iushr, 1) := by decide +kernel
theorem dJ6_bitCount_0f7a4_18 : decode cJ6_bitCount_0f7a4 18 = .ok (.ldc_w 266, 3) := by decide +kernel
theorem dJ6_bitCount_0f7a4_21 : decode cJ6_bitCount_0f7a4 21 = .ok (.iand, 1) := by decide +kernel
theorem dJ6_bitCount_0f7a4_22 : decode cJ6_bitCount_0f7a4 22 = .ok (.iadd, 1) := by decide +kernel
theorem dJ6_bitCount_0f7a4_23 : decode cJ6_bitCount_0f7a4 23 = .ok (.istore_n 0, 1) := by decide +kernel
theorem dJ6_bitCount_0f7a4_24 : decode cJ6_bitCount_0f7a4 24 = .ok (.iload_n 0, 1) := by decide +kernel
theorem dJ6_bitCount_0f7a4_25 : decode cJ6_bitCount_0f7a4 25 = .ok (.iload_n 0, 1) := by decide +kernel
theorem dJ6_bitCount_0f7a4_26 : decode cJ6_bitCount_0f7a4 26 = .ok (.iconst 4, 1) := by decide +kernel
theorem dJ6_bitCount_0f7a4_27 : decode cJ6_bitCount_0f7a4 27 = .ok (.iushr, 1) := by decide +kernel
theorem dJ6_bitCount_0f7a4_28 : decode cJ6_bitCount_0f7a4 28 = .ok (.iadd, 1) := by decide +kernel
theorem dJ6_bitCount_0f7a4_29 : decode cJ6_bitCount_0f7a4 29 = .ok (.ldc_w 267, 3) := by decide +kernel
theorem dJ6_bitCount_0f7a4_32 : decode cJ6_bitCount_0f7a4 32 = .ok (.iand, 1) := by decide +kernel
theorem dJ6_bitCount_0f7a4_33 : decode cJ6_bitCount_0f7a4 33 = .ok (.istore_n 0, 1) := by decide +kernel
theorem dJ6_bitCount_0f7a4_34 : decode cJ6_bitCount_0f7a4 34 = .ok (.iload_n 0, 1) := by decide +kernel
theorem dJ6_bitCount_0f7a4_35 : decode cJ6_bitCount_0f7a4 35 = .ok (.iload_n 0, 1) := by decide +kernel
theorem dJ6_bitCount_0f7a4_36 : decode cJ6_bitCount_0f7a4 36 = .ok (.bipush 8, 2) := by decide +kernel
theorem dJ6_bitCount_0f7a4_38 : decode cJ6_bitCount_0f7a4 38 = .ok (.iushr, 1) := by decide +kernel
theorem dJ6_bitCount_0f7a4_39 : decode cJ6_bitCount_0f7a4 39 = .ok (.iadd, 1) := by decide +kernel
theorem dJ6_bitCount_0f7a4_40 : decode cJ6_bitCount_0f7a4 40 = .ok (.istore_n 0, 1) := by decide +kernel
theorem dJ6_bitCount_0f7a4_41 : decode cJ6_bitCount_0f7a4 41 = .ok (.iload_n 0, 1) := by decide +kernel
theorem dJ6_bitCount_0f7a4_42 : decode cJ6_bitCount_0f7a4 42 = .ok (.iload_n 0, 1) := by decide +kernel
theorem dJ6_bitCount_0f7a4_43 : decode cJ6_bitCount_0f7a4 43 = .ok (.bipush 16, 2) := by decide +kernel
theorem dJ6_bitCount_0f7a4_45 : decode cJ6_bitCount_0f7a4 45 = .ok (.iushr, 1) := by decide +kernel
theorem dJ6_bitCount_0f7a4_46 : decode cJ6_bitCount_0f7a4 46 = .ok (.iadd, 1) := by decide +kernel
theorem dJ6_bitCount_0f7a4_47 : decode cJ6_bitCount_0f7a4 47 = .ok (.istore_n 0, 1) := by decide +kernel
theorem dJ6_bitCount_0f7a4_48 : decode cJ6_bitCount_0f7a4 48 = .ok (.iload_n 0, 1) := by decide +kernel
theorem dJ6_bitCount_0f7a4_49 : decode cJ6_bitCount_0f7a4 49 = .ok (.bipush 63, 2) := by decide +kernel
theorem dJ6_bitCount_0f7a4_51 : decode cJ6_bitCount_0f7a4 51 = .ok (.iand, 1) := by decide +kernel
theorem dJ6_bitCount_0f7a4_52 : decode cJ6_bitCount_0f7a4 52 = .ok (.ireturn, 1) := by decide +kernel
theorem dJ7_fill_53178_0 : decode cJ7_fill_53178 0 = .ok (.iconst 0, 1) := by decide +kernel
theorem dJ7_fill_53178_1 : decode cJ7_fill_53178 1 = .ok (.istore_n 2, 1) := by decide +kernel
theorem dJ7_fill_53178_2 : decode cJ7_fill_53178 2 = .ok (.aload_n 0, 1) := by decide +kernel
theorem dJ7_fill_53178_3 : decode cJ7_fill_53178 3 = .ok (.arraylength, 1) := by decide +kernel
