theorem dX9_entry_16 : decode cX9_entry 16 = .ok (.invokestatic 36, 3) := by decide +kernel
theorem dX9_entry_19 : decode cX9_entry 19 = .ok (.ifCond .ne 9, 3) := by decide +kernel
theorem dX9_entry_22 : decode cX9_entry 22 = .ok (.aload_n 0, 1) := by decide +kernel
theorem dX9_entry_23 : decode cX9_entry 23 = .ok (.iconst 1, 1) := by decide +kernel
theorem dX9_entry_24 : decode cX9_entry 24 = .ok (.invokevirtual 99, 3) := by decide +kernel
theorem dX9_entry_27 : decode cX9_entry 27 = .ok (.ireturn, 1) := by decide +kernel
theorem dX9_entry_28 : decode cX9_entry 28 = .ok (.iload_n 2, 1) := by decide +kernel
theorem dX9_entry_29 : decode cX9_entry 29 = .ok (.iconst 0, 1) := by decide +kernel
theorem dX9_entry_30 : decode cX9_entry 30 = .ok (.iconst 5, 1) := by decide +kernel
theorem dX9_entry_31 : decode cX9_entry 31 = .ok (.invokestatic 36, 3) := by decide +kernel
theorem dX9_entry_34 : decode cX9_entry 34 = .ok (.ifCond .eq 21, 3) := by decide +kernel
theorem dX9_entry_37 : decode cX9_entry 37 = .ok (.aload_n 0, 1) := by decide +kernel
theorem dX9_entry_38 : decode cX9_entry 38 = .ok (.getfield 7, 3) := by decide +kernel
theorem dX9_entry_41 : decode cX9_entry 41 = .ok (.sipush 384, 3) := by decide +kernel
theorem dX9_entry_44 : decode cX9_entry 44 = .ok (.bipush 6, 2) := by decide +kernel
theorem dX9_entry_46 : decode cX9_entry 46 = .ok (.iload_n 1, 1) := by decide +kernel
theorem dX9_entry_47 : decode cX9_entry 47 = .ok (.imul, 1) := by decide +kernel
theorem dX9_entry_48 : decode cX9_entry 48 = .ok (.iadd, 1) := by decide +kernel
theorem dX9_entry_49 : decode cX9_entry 49 = .ok (.iload_n 2, 1) := by decide +kernel
theorem dX9_entry_50 : decode cX9_entry 50 = .ok (.iadd, 1) := by decide +kernel
theorem dX9_entry_51 : decode cX9_entry 51 = .ok (.iaload, 1) := by decide +kernel
theorem dX9_entry_52 : decode cX9_entry 52 = .ok (.goto 8, 3) := by decide +kernel
theorem dX9_entry_55 : decode cX9_entry 55 = .ok (.aload_n 0, 1) := by decide +kernel
theorem dX9_entry_56 : decode cX9_entry 56 = .ok (.iconst 2, 1) := by decide +kernel
theorem dX9_entry_57 : decode cX9_entry 57 = .ok (.invokevirtual 99, 3) := by decide +kernel
theorem dX9_entry_60 : decode cX9_entry 60 = .ok (.ireturn, 1) := by decide +kernel
theorem dX9_number_0 : decode cX9_number 0 = .ok (.iload_n 1, 1) := by decide +kernel
theorem dX9_number_1 : decode cX9_number 1 = .ok (.bipush 12, 2) := by decide +kernel
theorem dX9_number_3 : decode cX9_number 3 = .ok (.if_icmp .ne 10, 3) := by decide +kernel
theorem dX9_number_6 : decode cX9_number 6 = .ok (.aload_n 0, 1) := by decide +kernel
theorem dX9_number_7 : decode cX9_number 7 = .ok (.invokevirtual 130, 3) := by decide +kernel
theorem dX9_number_10 : decode cX9_number 10 = .ok (.goto 25, 3) := by decide +kernel
theorem dX9_number_13 : decode cX9_number 13 = .ok (.iload_n 1, 1) := by decide +kernel
theorem dX9_number_14 : decode cX9_number 14 = .ok (.bipush 13, 2) := by decide +kernel
theorem dX9_number_16 : decode cX9_number 16 = .ok (.if_icmp .ne 13, 3) := by decide +kernel
theorem dX9_number_19 : decode cX9_number 19 = .ok (.aload_n 0, 1) := by decide +kernel
theorem dX9_number_20 : decode cX9_number 20 = .ok (.getfield 7, 3) := by decide +kernel
theorem dX9_number_23 : decode cX9_number 23 = .ok (.bipush 12, 2) := by decide +kernel
theorem dX9_number_25 : decode cX9_number 25 = .ok (.iaload, 1) := by decide +kernel
theorem dX9_number_26 : decode cX9_number 26 = .ok (.goto 9, 3) := by decide +kernel
theorem dX9_number_29 : decode cX9_number 29 = .ok (.aload_n 0, 1) := by decide +kernel
theorem dX9_number_30 : decode cX9_number 30 = .ok (.getfield 7, 3) := by decide +kernel
theorem dX9_number_33 : decode cX9_number 33 = .ok (.iload_n 1, 1) := by decide +kernel
theorem dX9_number_34 : decode cX9_number 34 = .ok (.iaload, 1) := by decide +kernel
theorem dX9_number_35 : decode cX9_number 35 = .ok (.ireturn, 1) := by decide +kernel
theorem dX9_value_0 : decode cX9_value 0 = .ok (.aload_n 0, 1) := by decide +kernel
theorem dX9_value_1 : decode cX9_value 1 = .ok (.iconst 0, 1) := by decide +kernel
theorem dX9_value_2 : decode cX9_value 2 = .ok (.putfield 29, 3) := by decide +kernel
theorem dX9_value_5 : decode cX9_value 5 = .ok (.iload_n 1, 1) := by decide +kernel
theorem dX9_value_6 : decode cX9_value 6 = .ok (.iconst 0, 1) := by decide +kernel
theorem dX9_value_7 : decode cX9_value 7 = .ok (.bipush 13, 2) := by decide +kernel
theorem dX9_value_9 : decode cX9_value 9 = .ok (.invokestatic 36, 3) := by decide +kernel
theorem dX9_value_12 : decode cX9_value 12 = .ok (.ifCond .eq 11, 3) := by decide +kernel
theorem dX9_value_15 : decode cX9_value 15 = .ok (.aload_n 0, 1) := by decide +kernel
theorem dX9_value_16 : decode cX9_value 16 = .ok (.iload_n 1, 1) := by decide +kernel
theorem dX9_value_17 : decode cX9_value 17 = .ok (.invokevirtual 133, 3) := by decide +kernel
theorem dX9_value_20 : decode cX9_value 20 = .ok (.goto 8, 3) := by decide +kernel
theorem dX9_value_23 : decode cX9_value 23 = .ok (.aload_n 0, 1) := by decide +kernel
theorem dX9_value_24 : decode cX9_value 24 = .ok (.iconst 1, 1) := by decide +kernel
theorem dX9_value_25 : decode cX9_value 25 = .ok (.invokevirtual 99, 3) := by decide +kernel
theorem dX9_value_28 : decode cX9_value 28 = .ok (.ireturn, 1) := by decide +kernel
theorem dX9_costOf_0 : decode cX9_costOf 0 = .ok (.aload_n 0, 1) := by decide +kernel
theorem dX9_costOf_1 : decode cX9_costOf 1 = .ok (.invokevirtual 136, 3) := by decide +kernel
theorem dX9_costOf_4 : decode cX9_costOf 4 = .ok (.aload_n 0, 1) := by decide +kernel
theorem dX9_costOf_5 : decode cX9_costOf 5 = .ok (.iload_n 1, 1) := by decide +kernel
theorem dX9_costOf_6 : decode cX9_costOf 6 = .ok (.iload_n 2, 1) := by decide +kernel
theorem dX9_costOf_7 : decode cX9_costOf 7 = .ok (.iload_n 3, 1) := by decide +kernel
theorem dX9_costOf_8 : decode cX9_costOf 8 = .ok (.ifCond .eq 7, 3) := by decide +kernel
theorem dX9_costOf_11 : decode cX9_costOf 11 = .ok (.iconst 0, 1) := by decide +kernel
theorem dX9_costOf_12 : decode cX9_costOf 12 = .ok (.goto 4, 3) := by decide +kernel
theorem dX9_costOf_15 : decode cX9_costOf 15 = .ok (.iconst (-1), 1) := by decide +kernel
theorem dX9_costOf_16 : decode cX9_costOf 16 = .ok (.invokevirtual 89, 3) := by decide +kernel
theorem dX9_costOf_19 : decode cX9_costOf 19 = .ok (.istore 4, 2) := by decide +kernel
theorem dX9_costOf_21 : decode cX9_costOf 21 = .ok (.aload_n 0, 1) := by decide +kernel
theorem dX9_costOf_22 : decode cX9_costOf 22 = .ok (.invokevirtual 139, 3) := by decide +kernel
theorem dX9_costOf_25 : decode cX9_costOf 25 = .ok (.iload 4, 2) := by decide +kernel
theorem dX9_costOf_27 : decode cX9_costOf 27 = .ok (.ireturn, 1) := by decide +kernel
theorem dX9_cost_0 : decode cX9_cost 0 = .ok (.aload_n 0, 1) := by decide +kernel
theorem dX9_cost_1 : decode cX9_cost 1 = .ok (.iconst 0, 1) := by decide +kernel
theorem dX9_cost_2 : decode cX9_cost 2 = .ok (.putfield 29, 3) := by decide +kernel
theorem dX9_cost_5 : decode cX9_cost 5 = .ok (.aload_n 0, 1) := by decide +kernel
theorem dX9_cost_6 : decode cX9_cost 6 = .ok (.iload_n 1, 1) := by decide +kernel
theorem dX9_cost_7 : decode cX9_cost 7 = .ok (.invokevirtual 105, 3) := by decide +kernel
theorem dX9_cost_10 : decode cX9_cost 10 = .ok (.ifCond .eq 20, 3) := by decide +kernel
theorem dX9_cost_13 : decode cX9_cost 13 = .ok (.iload_n 2, 1) := by decide +kernel
theorem dX9_cost_14 : decode cX9_cost 14 = .ok (.invokestatic 108, 3) := by decide +kernel
theorem dX9_cost_17 : decode cX9_cost 17 = .ok (.ifCond .eq 13, 3) := by decide +kernel
theorem dX9_cost_20 : decode cX9_cost 20 = .ok (.aload_n 0, 1) := by decide +kernel
theorem dX9_cost_21 : decode cX9_cost 21 = .ok (.iload_n 1, 1) := by decide +kernel
theorem dX9_cost_22 : decode cX9_cost 22 = .ok (.iload_n 2, 1) := by decide +kernel
theorem dX9_cost_23 : decode cX9_cost 23 = .ok (.iload_n 3, 1) := by decide +kernel
theorem dX9_cost_24 : decode cX9_cost 24 = .ok (.invokevirtual 142, 3) := by decide +kernel
theorem dX9_cost_27 : decode cX9_cost 27 = .ok (.goto 8, 3) := by decide +kernel
theorem dX9_cost_30 : decode cX9_cost 30 = .ok (.aload_n 0, 1) := by decide +kernel
theorem dX9_cost_31 : decode cX9_cost 31 = .ok (.iconst 1, 1) := by decide +kernel
theorem dX9_cost_32 : decode cX9_cost 32 = .ok (.invokevirtual 99, 3) := by decide +kernel
theorem dX9_cost_35 : decode cX9_cost 35 = .ok (.ireturn, 1) := by decide +kernel
theorem dX9_nextTorn_0 : decode cX9_nextTorn 0 = .ok (.aload_n 0, 1) := by decide +kernel
theorem dX9_nextTorn_1 : decode cX9_nextTorn 1 = .ok (.iconst 0, 1) := by decide +kernel
theorem dX9_nextTorn_2 : decode cX9_nextTorn 2 = .ok (.putfield 29, 3) := by decide +kernel
theorem dX9_nextTorn_5 : decode cX9_nextTorn 5 = .ok (.aload_n 0, 1) := by decide +kernel
theorem dX9_nextTorn_6 : decode cX9_nextTorn 6 = .ok (.getfield 7, 3) := by decide +kernel
theorem dX9_nextTorn_9 : decode cX9_nextTorn 9 = .ok (.iconst 3, 1) := by decide +kernel
theorem dX9_nextTorn_10 : decode cX9_nextTorn 10 = .ok (.iaload, 1) := by decide +kernel
theorem dX9_nextTorn_11 : decode cX9_nextTorn 11 = .ok (.aload_n 0, 1) := by decide +kernel
theorem dX9_nextTorn_12 : decode cX9_nextTorn 12 = .ok (.getfield 7, 3) := by decide +kernel
theorem dX9_nextTorn_15 : decode cX9_nextTorn 15 = .ok (.iconst 2, 1) := by decide +kernel
theorem dX9_nextTorn_16 : decode cX9_nextTorn 16 = .ok (.iaload, 1) := by decide +kernel
theorem dX9_nextTorn_17 : decode cX9_nextTorn 17 = .ok (.if_icmp .ne 15, 3) := by decide +kernel
theorem dX9_nextTorn_20 : decode cX9_nextTorn 20 = .ok (.aload_n 0, 1) := by decide +kernel
theorem dX9_nextTorn_21 : decode cX9_nextTorn 21 = .ok (.getfield 7, 3) := by decide +kernel
theorem dX9_nextTorn_24 : decode cX9_nextTorn 24 = .ok (.aload_n 0, 1) := by decide +kernel
theorem dX9_nextTorn_25 : decode cX9_nextTorn 25 = .ok (.invokevirtual 55, 3) := by decide +kernel
theorem dX9_nextTorn_28 : decode cX9_nextTorn 28 = .ok (.iaload, 1) := by decide +kernel
theorem dX9_nextTorn_29 : decode cX9_nextTorn 29 = .ok (.goto 4, 3) := by decide +kernel
theorem dX9_nextTorn_32 : decode cX9_nextTorn 32 = .ok (.iconst (-1), 1) := by decide +kernel
theorem dX9_nextTorn_33 : decode cX9_nextTorn 33 = .ok (.ireturn, 1) := by decide +kernel
theorem dX9_nextDropped_0 : decode cX9_nextDropped 0 = .ok (.aload_n 0, 1) := by decide +kernel
theorem dX9_nextDropped_1 : decode cX9_nextDropped 1 = .ok (.iconst 0, 1) := by decide +kernel
theorem dX9_nextDropped_2 : decode cX9_nextDropped 2 = .ok (.putfield 29, 3) := by decide +kernel
theorem dX9_nextDropped_5 : decode cX9_nextDropped 5 = .ok (.aload_n 0, 1) := by decide +kernel
theorem dX9_nextDropped_6 : decode cX9_nextDropped 6 = .ok (.iload_n 1, 1) := by decide +kernel
theorem dX9_nextDropped_7 : decode cX9_nextDropped 7 = .ok (.invokevirtual 105, 3) := by decide +kernel
theorem dX9_nextDropped_10 : decode cX9_nextDropped 10 = .ok (.ifCond .ne 9, 3) := by decide +kernel
theorem dX9_nextDropped_13 : decode cX9_nextDropped 13 = .ok (.aload_n 0, 1) := by decide +kernel
theorem dX9_nextDropped_14 : decode cX9_nextDropped 14 = .ok (.iconst 1, 1) := by decide +kernel
theorem dX9_nextDropped_15 : decode cX9_nextDropped 15 = .ok (.invokevirtual 99, 3) := by decide +kernel
theorem dX9_nextDropped_18 : decode cX9_nextDropped 18 = .ok (.ireturn, 1) := by decide +kernel
theorem dX9_nextDropped_19 : decode cX9_nextDropped 19 = .ok (.aload_n 0, 1) := by decide +kernel
theorem dX9_nextDropped_20 : decode cX9_nextDropped 20 = .ok (.iload_n 1, 1) := by decide +kernel
theorem dX9_nextDropped_21 : decode cX9_nextDropped 21 = .ok (.iconst (-1), 1) := by decide +kernel
theorem dX9_nextDropped_22 : decode cX9_nextDropped 22 = .ok (.invokevirtual 52, 3) := by decide +kernel
theorem dX9_nextDropped_25 : decode cX9_nextDropped 25 = .ok (.ifCond .lt 7, 3) := by decide +kernel
theorem dX9_nextDropped_28 : decode cX9_nextDropped 28 = .ok (.iconst (-1), 1) := by decide +kernel
theorem dX9_nextDropped_29 : decode cX9_nextDropped 29 = .ok (.goto 13, 3) := by decide +kernel
theorem dX9_nextDropped_32 : decode cX9_nextDropped 32 = .ok (.aload_n 0, 1) := by decide +kernel
theorem dX9_nextDropped_33 : decode cX9_nextDropped 33 = .ok (.getfield 7, 3) := by decide +kernel
theorem dX9_nextDropped_36 : decode cX9_nextDropped 36 = .ok (.aload_n 0, 1) := by decide +kernel
theorem dX9_nextDropped_37 : decode cX9_nextDropped 37 = .ok (.iload_n 1, 1) := by decide +kernel
theorem dX9_nextDropped_38 : decode cX9_nextDropped 38 = .ok (.invokevirtual 75, 3) := by decide +kernel
theorem dX9_nextDropped_41 : decode cX9_nextDropped 41 = .ok (.iaload, 1) := by decide +kernel
theorem dX9_nextDropped_42 : decode cX9_nextDropped 42 = .ok (.ireturn, 1) := by decide +kernel
theorem dX9_ticksToServe_0 : decode cX9_ticksToServe 0 = .ok (.aload_n 0, 1) := by decide +kernel
theorem dX9_ticksToServe_1 : decode cX9_ticksToServe 1 = .ok (.iconst 0, 1) := by decide +kernel
theorem dX9_ticksToServe_2 : decode cX9_ticksToServe 2 = .ok (.putfield 29, 3) := by decide +kernel
theorem dX9_ticksToServe_5 : decode cX9_ticksToServe 5 = .ok (.aload_n 0, 1) := by decide +kernel
theorem dX9_ticksToServe_6 : decode cX9_ticksToServe 6 = .ok (.invokevirtual 136, 3) := by decide +kernel
theorem dX9_ticksToServe_9 : decode cX9_ticksToServe 9 = .ok (.iconst 0, 1) := by decide +kernel
theorem dX9_ticksToServe_10 : decode cX9_ticksToServe 10 = .ok (.istore_n 1, 1) := by decide +kernel
theorem dX9_ticksToServe_11 : decode cX9_ticksToServe 11 = .ok (.aload_n 0, 1) := by decide +kernel
theorem dX9_ticksToServe_12 : decode cX9_ticksToServe 12 = .ok (.invokevirtual 130, 3) := by decide +kernel
theorem dX9_ticksToServe_15 : decode cX9_ticksToServe 15 = .ok (.ifCond .le 20, 3) := by decide +kernel
theorem dX9_ticksToServe_18 : decode cX9_ticksToServe 18 = .ok (.iload_n 1, 1) := by decide +kernel
theorem dX9_ticksToServe_19 : decode cX9_ticksToServe 19 = .ok (.bipush 6, 2) := by decide +kernel
theorem dX9_ticksToServe_21 : decode cX9_ticksToServe 21 = .ok (.if_icmp .ge 14, 3) := by decide +kernel
theorem dX9_ticksToServe_24 : decode cX9_ticksToServe 24 = .ok (.aload_n 0, 1) := by decide +kernel
theorem dX9_ticksToServe_25 : decode cX9_ticksToServe 25 = .ok (.invokevirtual 92, 3) := by decide +kernel
theorem dX9_ticksToServe_28 : decode cX9_ticksToServe 28 = .ok (.pop, 1) := by decide +kernel
theorem dX9_ticksToServe_29 : decode cX9_ticksToServe 29 = .ok (.iinc 1 1, 3) := by decide +kernel
theorem dX9_ticksToServe_32 : decode cX9_ticksToServe 32 = .ok (.goto (-21), 3) := by decide +kernel
theorem dX9_ticksToServe_35 : decode cX9_ticksToServe 35 = .ok (.aload_n 0, 1) := by decide +kernel
theorem dX9_ticksToServe_36 : decode cX9_ticksToServe 36 = .ok (.invokevirtual 139, 3) := by decide +kernel
theorem dX9_ticksToServe_39 : decode cX9_ticksToServe 39 = .ok (.iload_n 1, 1) := by decide +kernel
theorem dX9_ticksToServe_40 : decode cX9_ticksToServe 40 = .ok (.ireturn, 1) := by decide +kernel
theorem dX9_cheapest_0 : decode cX9_cheapest 0 = .ok (.aload_n 0, 1) := by decide +kernel
theorem dX9_cheapest_1 : decode cX9_cheapest 1 = .ok (.iconst 0, 1) := by decide +kernel
theorem dX9_cheapest_2 : decode cX9_cheapest 2 = .ok (.putfield 29, 3) := by decide +kernel
theorem dX9_cheapest_5 : decode cX9_cheapest 5 = .ok (.iload_n 1, 1) := by decide +kernel
theorem dX9_cheapest_6 : decode cX9_cheapest 6 = .ok (.invokestatic 108, 3) := by decide +kernel
theorem dX9_cheapest_9 : decode cX9_cheapest 9 = .ok (.ifCond .ne 9, 3) := by decide +kernel
theorem dX9_cheapest_12 : decode cX9_cheapest 12 = .ok (.aload_n 0, 1) := by decide +kernel
theorem dX9_cheapest_13 : decode cX9_cheapest 13 = .ok (.iconst 1, 1) := by decide +kernel
theorem dX9_cheapest_14 : decode cX9_cheapest 14 = .ok (.invokevirtual 99, 3) := by decide +kernel
theorem dX9_cheapest_17 : decode cX9_cheapest 17 = .ok (.ireturn, 1) := by decide +kernel
theorem dX9_cheapest_18 : decode cX9_cheapest 18 = .ok (.iconst 0, 1) := by decide +kernel
theorem dX9_cheapest_19 : decode cX9_cheapest 19 = .ok (.istore_n 3, 1) := by decide +kernel
theorem dX9_cheapest_20 : decode cX9_cheapest 20 = .ok (.aload_n 0, 1) := by decide +kernel
theorem dX9_cheapest_21 : decode cX9_cheapest 21 = .ok (.iconst 0, 1) := by decide +kernel
theorem dX9_cheapest_22 : decode cX9_cheapest 22 = .ok (.iload_n 1, 1) := by decide +kernel
theorem dX9_cheapest_23 : decode cX9_cheapest 23 = .ok (.iload_n 2, 1) := by decide +kernel
theorem dX9_cheapest_24 : decode cX9_cheapest 24 = .ok (.invokevirtual 142, 3) := by decide +kernel
theorem dX9_cheapest_27 : decode cX9_cheapest 27 = .ok (.istore 4, 2) := by decide +kernel
theorem dX9_cheapest_29 : decode cX9_cheapest 29 = .ok (.iconst 1, 1) := by decide +kernel
theorem dX9_cheapest_30 : decode cX9_cheapest 30 = .ok (.istore 5, 2) := by decide +kernel
theorem dX9_cheapest_32 : decode cX9_cheapest 32 = .ok (.iload 5, 2) := by decide +kernel
theorem dX9_cheapest_34 : decode cX9_cheapest 34 = .ok (.aload_n 0, 1) := by decide +kernel
theorem dX9_cheapest_35 : decode cX9_cheapest 35 = .ok (.getfield 7, 3) := by decide +kernel
theorem dX9_cheapest_38 : decode cX9_cheapest 38 = .ok (.iconst 0, 1) := by decide +kernel
theorem dX9_cheapest_39 : decode cX9_cheapest 39 = .ok (.iaload, 1) := by decide +kernel
theorem dX9_cheapest_40 : decode cX9_cheapest 40 = .ok (.if_icmp .ge 49, 3) := by decide +kernel
theorem dX9_cheapest_43 : decode cX9_cheapest 43 = .ok (.aload_n 0, 1) := by decide +kernel
theorem dX9_cheapest_44 : decode cX9_cheapest 44 = .ok (.iload 5, 2) := by decide +kernel
theorem dX9_cheapest_46 : decode cX9_cheapest 46 = .ok (.iload_n 1, 1) := by decide +kernel
theorem dX9_cheapest_47 : decode cX9_cheapest 47 = .ok (.iload_n 2, 1) := by decide +kernel
theorem dX9_cheapest_48 : decode cX9_cheapest 48 = .ok (.invokevirtual 142, 3) := by decide +kernel
theorem dX9_cheapest_51 : decode cX9_cheapest 51 = .ok (.istore 6, 2) := by decide +kernel
theorem dX9_cheapest_53 : decode cX9_cheapest 53 = .ok (.iload 6, 2) := by decide +kernel
theorem dX9_cheapest_55 : decode cX9_cheapest 55 = .ok (.iload 4, 2) := by decide +kernel
theorem dX9_cheapest_57 : decode cX9_cheapest 57 = .ok (.if_icmp .ge 8, 3) := by decide +kernel
theorem dX9_cheapest_60 : decode cX9_cheapest 60 = .ok (.iload 5, 2) := by decide +kernel
theorem dX9_cheapest_62 : decode cX9_cheapest 62 = .ok (.goto 4, 3) := by decide +kernel
theorem dX9_cheapest_65 : decode cX9_cheapest 65 = .ok (.iload_n 3, 1) := by decide +kernel
theorem dX9_cheapest_66 : decode cX9_cheapest 66 = .ok (.istore_n 3, 1) := by decide +kernel
theorem dX9_cheapest_67 : decode cX9_cheapest 67 = .ok (.iload 6, 2) := by decide +kernel
theorem dX9_cheapest_69 : decode cX9_cheapest 69 = .ok (.iload 4, 2) := by decide +kernel
theorem dX9_cheapest_71 : decode cX9_cheapest 71 = .ok (.if_icmp .ge 8, 3) := by decide +kernel
theorem dX9_cheapest_74 : decode cX9_cheapest 74 = .ok (.iload 6, 2) := by decide +kernel
theorem dX9_cheapest_76 : decode cX9_cheapest 76 = .ok (.goto 5, 3) := by decide +kernel
theorem dX9_cheapest_79 : decode cX9_cheapest 79 = .ok (.iload 4, 2) := by decide +kernel
theorem dX9_cheapest_81 : decode cX9_cheapest 81 = .ok (.istore 4, 2) := by decide +kernel
theorem dX9_cheapest_83 : decode cX9_cheapest 83 = .ok (.iinc 5 1, 3) := by decide +kernel
theorem dX9_cheapest_86 : decode cX9_cheapest 86 = .ok (.goto (-54), 3) := by decide +kernel
theorem dX9_cheapest_89 : decode cX9_cheapest 89 = .ok (.iload_n 3, 1) := by decide +kernel
theorem dX9_cheapest_90 : decode cX9_cheapest 90 = .ok (.ireturn, 1) := by decide +kernel
theorem dX9_hitRate_0 : decode cX9_hitRate 0 = .ok (.aload_n 0, 1) := by decide +kernel
theorem dX9_hitRate_1 : decode cX9_hitRate 1 = .ok (.iconst 0, 1) := by decide +kernel
theorem dX9_hitRate_2 : decode cX9_hitRate 2 = .ok (.putfield 29, 3) := by decide +kernel
theorem dX9_hitRate_5 : decode cX9_hitRate 5 = .ok (.aload_n 0, 1) := by decide +kernel
theorem dX9_hitRate_6 : decode cX9_hitRate 6 = .ok (.getfield 7, 3) := by decide +kernel
theorem dX9_hitRate_9 : decode cX9_hitRate 9 = .ok (.bipush 6, 2) := by decide +kernel
theorem dX9_hitRate_11 : decode cX9_hitRate 11 = .ok (.iaload, 1) := by decide +kernel
theorem dX9_hitRate_12 : decode cX9_hitRate 12 = .ok (.aload_n 0, 1) := by decide +kernel
theorem dX9_hitRate_13 : decode cX9_hitRate 13 = .ok (.getfield 7, 3) := by decide +kernel
theorem dX9_hitRate_16 : decode cX9_hitRate 16 = .ok (.bipush 7, 2) := by decide +kernel
theorem dX9_hitRate_18 : decode cX9_hitRate 18 = .ok (.iaload, 1) := by decide +kernel
theorem dX9_hitRate_19 : decode cX9_hitRate 19 = .ok (.iadd, 1) := by decide +kernel
theorem dX9_hitRate_20 : decode cX9_hitRate 20 = .ok (.istore_n 1, 1) := by decide +kernel
theorem dX9_hitRate_21 : decode cX9_hitRate 21 = .ok (.iload_n 1, 1) := by decide +kernel
theorem dX9_hitRate_22 : decode cX9_hitRate 22 = .ok (.ifCond .ne 7, 3) := by decide +kernel
theorem dX9_hitRate_25 : decode cX9_hitRate 25 = .ok (.dconst 0, 1) := by decide +kernel
theorem dX9_hitRate_26 : decode cX9_hitRate 26 = .ok (.goto 14, 3) := by decide +kernel
theorem dX9_hitRate_29 : decode cX9_hitRate 29 = .ok (.aload_n 0, 1) := by decide +kernel
theorem dX9_hitRate_30 : decode cX9_hitRate 30 = .ok (.getfield 7, 3) := by decide +kernel
theorem dX9_hitRate_33 : decode cX9_hitRate 33 = .ok (.bipush 6, 2) := by decide +kernel
theorem dX9_hitRate_35 : decode cX9_hitRate 35 = .ok (.iaload, 1) := by decide +kernel
theorem dX9_hitRate_36 : decode cX9_hitRate 36 = .ok (.i2d, 1) := by decide +kernel
theorem dX9_hitRate_37 : decode cX9_hitRate 37 = .ok (.iload_n 1, 1) := by decide +kernel
theorem dX9_hitRate_38 : decode cX9_hitRate 38 = .ok (.i2d, 1) := by decide +kernel
theorem dX9_hitRate_39 : decode cX9_hitRate 39 = .ok (.ddiv, 1) := by decide +kernel
theorem dX9_hitRate_40 : decode cX9_hitRate 40 = .ok (.dreturn, 1) := by decide +kernel
theorem dX9_append_0 : decode cX9_append 0 = .ok (.aload_n 0, 1) := by decide +kernel
theorem dX9_append_1 : decode cX9_append 1 = .ok (.iconst 0, 1) := by decide +kernel
theorem dX9_append_2 : decode cX9_append 2 = .ok (.putfield 29, 3) := by decide +kernel
theorem dX9_append_5 : decode cX9_append 5 = .ok (.iload_n 1, 1) := by decide +kernel
theorem dX9_append_6 : decode cX9_append 6 = .ok (.iconst 0, 1) := by decide +kernel
theorem dX9_append_7 : decode cX9_append 7 = .ok (.bipush 127, 2) := by decide +kernel
theorem dX9_append_9 : decode cX9_append 9 = .ok (.invokestatic 36, 3) := by decide +kernel
theorem dX9_append_12 : decode cX9_append 12 = .ok (.ifCond .ne 9, 3) := by decide +kernel
theorem dX9_append_15 : decode cX9_append 15 = .ok (.aload_n 0, 1) := by decide +kernel
theorem dX9_append_16 : decode cX9_append 16 = .ok (.iconst 1, 1) := by decide +kernel
theorem dX9_append_17 : decode cX9_append 17 = .ok (.invokevirtual 99, 3) := by decide +kernel
theorem dX9_append_20 : decode cX9_append 20 = .ok (.ireturn, 1) := by decide +kernel
theorem dX9_append_21 : decode cX9_append 21 = .ok (.aload_n 0, 1) := by decide +kernel
theorem dX9_append_22 : decode cX9_append 22 = .ok (.getfield 145, 3) := by decide +kernel
theorem dX9_append_25 : decode cX9_append 25 = .ok (.bipush 100, 2) := by decide +kernel
theorem dX9_append_27 : decode cX9_append 27 = .ok (.if_icmp .ne 9, 3) := by decide +kernel
theorem dX9_append_30 : decode cX9_append 30 = .ok (.aload_n 0, 1) := by decide +kernel
theorem dX9_append_31 : decode cX9_append 31 = .ok (.iconst 2, 1) := by decide +kernel
theorem dX9_append_32 : decode cX9_append 32 = .ok (.invokevirtual 99, 3) := by decide +kernel
theorem dX9_append_35 : decode cX9_append 35 = .ok (.ireturn, 1) := by decide +kernel
theorem dX9_append_36 : decode cX9_append 36 = .ok (.aload_n 0, 1) := by decide +kernel
theorem dX9_append_37 : decode cX9_append 37 = .ok (.getfield 19, 3) := by decide +kernel
theorem dX9_append_40 : decode cX9_append 40 = .ok (.aload_n 0, 1) := by decide +kernel
theorem dX9_append_41 : decode cX9_append 41 = .ok (.getfield 145, 3) := by decide +kernel
theorem dX9_append_44 : decode cX9_append 44 = .ok (.iload_n 1, 1) := by decide +kernel
theorem dX9_append_45 : decode cX9_append 45 = .ok (.iastore, 1) := by decide +kernel
theorem dX9_append_46 : decode cX9_append 46 = .ok (.aload_n 0, 1) := by decide +kernel
theorem dX9_append_47 : decode cX9_append 47 = .ok (.dup, 1) := by decide +kernel
theorem dX9_append_48 : decode cX9_append 48 = .ok (.getfield 145, 3) := by decide +kernel
theorem dX9_append_51 : decode cX9_append 51 = .ok (.iconst 1, 1) := by decide +kernel
theorem dX9_append_52 : decode cX9_append 52 = .ok (.iadd, 1) := by decide +kernel
theorem dX9_append_53 : decode cX9_append 53 = .ok (.putfield 145, 3) := by decide +kernel
theorem dX9_append_56 : decode cX9_append 56 = .ok (.aload_n 0, 1) := by decide +kernel
theorem dX9_append_57 : decode cX9_append 57 = .ok (.getfield 145, 3) := by decide +kernel
theorem dX9_append_60 : decode cX9_append 60 = .ok (.ireturn, 1) := by decide +kernel
theorem dX9_clearText_0 : decode cX9_clearText 0 = .ok (.aload_n 0, 1) := by decide +kernel
theorem dX9_clearText_1 : decode cX9_clearText 1 = .ok (.iconst 0, 1) := by decide +kernel
theorem dX9_clearText_2 : decode cX9_clearText 2 = .ok (.putfield 29, 3) := by decide +kernel
theorem dX9_clearText_5 : decode cX9_clearText 5 = .ok (.aload_n 0, 1) := by decide +kernel
theorem dX9_clearText_6 : decode cX9_clearText 6 = .ok (.getfield 145, 3) := by decide +kernel
theorem dX9_clearText_9 : decode cX9_clearText 9 = .ok (.istore_n 1, 1) := by decide +kernel
theorem dX9_clearText_10 : decode cX9_clearText 10 = .ok (.aload_n 0, 1) := by decide +kernel
theorem dX9_clearText_11 : decode cX9_clearText 11 = .ok (.iconst 0, 1) := by decide +kernel
theorem dX9_clearText_12 : decode cX9_clearText 12 = .ok (.putfield 145, 3) := by decide +kernel
theorem dX9_clearText_15 : decode cX9_clearText 15 = .ok (.iload_n 1, 1) := by decide +kernel
theorem dX9_clearText_16 : decode cX9_clearText 16 = .ok (.ireturn, 1) := by decide +kernel
theorem dX9_isDigit_0 : decode cX9_isDigit 0 = .ok (.aload_n 0, 1) := by decide +kernel
theorem dX9_isDigit_1 : decode cX9_isDigit 1 = .ok (.getfield 148, 3) := by decide +kernel
theorem dX9_isDigit_4 : decode cX9_isDigit 4 = .ok (.aload_n 0, 1) := by decide +kernel
theorem dX9_isDigit_5 : decode cX9_isDigit 5 = .ok (.getfield 145, 3) := by decide +kernel
theorem dX9_isDigit_8 : decode cX9_isDigit 8 = .ok (.if_icmp .ge 25, 3) := by decide +kernel
theorem dX9_isDigit_11 : decode cX9_isDigit 11 = .ok (.aload_n 0, 1) := by decide +kernel
theorem dX9_isDigit_12 : decode cX9_isDigit 12 = .ok (.getfield 19, 3) := by decide +kernel
theorem dX9_isDigit_15 : decode cX9_isDigit 15 = .ok (.aload_n 0, 1) := by decide +kernel
theorem dX9_isDigit_16 : decode cX9_isDigit 16 = .ok (.getfield 148, 3) := by decide +kernel
theorem dX9_isDigit_19 : decode cX9_isDigit 19 = .ok (.iaload, 1) := by decide +kernel
theorem dX9_isDigit_20 : decode cX9_isDigit 20 = .ok (.bipush 48, 2) := by decide +kernel
theorem dX9_isDigit_22 : decode cX9_isDigit 22 = .ok (.iload_n 1, 1) := by decide +kernel
theorem dX9_isDigit_23 : decode cX9_isDigit 23 = .ok (.invokestatic 36, 3) := by decide +kernel
theorem dX9_isDigit_26 : decode cX9_isDigit 26 = .ok (.ifCond .eq 7, 3) := by decide +kernel
theorem dX9_isDigit_29 : decode cX9_isDigit 29 = .ok (.iconst 1, 1) := by decide +kernel
theorem dX9_isDigit_30 : decode cX9_isDigit 30 = .ok (.goto 4, 3) := by decide +kernel
theorem dX9_isDigit_33 : decode cX9_isDigit 33 = .ok (.iconst 0, 1) := by decide +kernel
theorem dX9_isDigit_34 : decode cX9_isDigit 34 = .ok (.ireturn, 1) := by decide +kernel
theorem dX9_sign_0 : decode cX9_sign 0 = .ok (.aload_n 0, 1) := by decide +kernel
theorem dX9_sign_1 : decode cX9_sign 1 = .ok (.getfield 148, 3) := by decide +kernel
theorem dX9_sign_4 : decode cX9_sign 4 = .ok (.aload_n 0, 1) := by decide +kernel
theorem dX9_sign_5 : decode cX9_sign 5 = .ok (.getfield 145, 3) := by decide +kernel
theorem dX9_sign_8 : decode cX9_sign 8 = .ok (.if_icmp .ge 20, 3) := by decide +kernel
theorem dX9_sign_11 : decode cX9_sign 11 = .ok (.aload_n 0, 1) := by decide +kernel
theorem dX9_sign_12 : decode cX9_sign 12 = .ok (.getfield 19, 3) := by decide +kernel
theorem dX9_sign_15 : decode cX9_sign 15 = .ok (.aload_n 0, 1) := by decide +kernel
theorem dX9_sign_16 : decode cX9_sign 16 = .ok (.getfield 148, 3) := by decide +kernel
theorem dX9_sign_19 : decode cX9_sign 19 = .ok (.iaload, 1) := by decide +kernel
theorem dX9_sign_20 : decode cX9_sign 20 = .ok (.iload_n 1, 1) := by decide +kernel
theorem dX9_sign_21 : decode cX9_sign 21 = .ok (.if_icmp .ne 7, 3) := by decide +kernel
theorem dX9_sign_24 : decode cX9_sign 24 = .ok (.iconst 1, 1) := by decide +kernel
theorem dX9_sign_25 : decode cX9_sign 25 = .ok (.goto 4, 3) := by decide +kernel
theorem dX9_sign_28 : decode cX9_sign 28 = .ok (.iconst 0, 1) := by decide +kernel
theorem dX9_sign_29 : decode cX9_sign 29 = .ok (.istore_n 2, 1) := by decide +kernel
theorem dX9_sign_30 : decode cX9_sign 30 = .ok (.aload_n 0, 1) := by decide +kernel
theorem dX9_sign_31 : decode cX9_sign 31 = .ok (.dup, 1) := by decide +kernel
theorem dX9_sign_32 : decode cX9_sign 32 = .ok (.getfield 148, 3) := by decide +kernel
theorem dX9_sign_35 : decode cX9_sign 35 = .ok (.iload_n 2, 1) := by decide +kernel
theorem dX9_sign_36 : decode cX9_sign 36 = .ok (.ifCond .eq 7, 3) := by decide +kernel
theorem dX9_sign_39 : decode cX9_sign 39 = .ok (.iconst 1, 1) := by decide +kernel
theorem dX9_sign_40 : decode cX9_sign 40 = .ok (.goto 4, 3) := by decide +kernel
theorem dX9_sign_43 : decode cX9_sign 43 = .ok (.iconst 0, 1) := by decide +kernel
theorem dX9_sign_44 : decode cX9_sign 44 = .ok (.iadd, 1) := by decide +kernel
theorem dX9_sign_45 : decode cX9_sign 45 = .ok (.putfield 148, 3) := by decide +kernel
theorem dX9_sign_48 : decode cX9_sign 48 = .ok (.iload_n 2, 1) := by decide +kernel
theorem dX9_sign_49 : decode cX9_sign 49 = .ok (.ireturn, 1) := by decide +kernel
theorem dX9_numberInto_0 : decode cX9_numberInto 0 = .ok (.aload_n 0, 1) := by decide +kernel
theorem dX9_numberInto_1 : decode cX9_numberInto 1 = .ok (.getfield 148, 3) := by decide +kernel
theorem dX9_numberInto_4 : decode cX9_numberInto 4 = .ok (.istore 5, 2) := by decide +kernel
theorem dX9_numberInto_6 : decode cX9_numberInto 6 = .ok (.iconst 0, 1) := by decide +kernel
theorem dX9_numberInto_7 : decode cX9_numberInto 7 = .ok (.istore 6, 2) := by decide +kernel
theorem dX9_numberInto_9 : decode cX9_numberInto 9 = .ok (.aload_n 0, 1) := by decide +kernel
theorem dX9_numberInto_10 : decode cX9_numberInto 10 = .ok (.bipush 57, 2) := by decide +kernel
theorem dX9_numberInto_12 : decode cX9_numberInto 12 = .ok (.invokevirtual 151, 3) := by decide +kernel
theorem dX9_numberInto_15 : decode cX9_numberInto 15 = .ok (.ifCond .eq 47, 3) := by decide +kernel
theorem dX9_numberInto_18 : decode cX9_numberInto 18 = .ok (.aload_n 0, 1) := by decide +kernel
theorem dX9_numberInto_19 : decode cX9_numberInto 19 = .ok (.getfield 148, 3) := by decide +kernel
theorem dX9_numberInto_22 : decode cX9_numberInto 22 = .ok (.iload 5, 2) := by decide +kernel
theorem dX9_numberInto_24 : decode cX9_numberInto 24 = .ok (.iload_n 2, 1) := by decide +kernel
theorem dX9_numberInto_25 : decode cX9_numberInto 25 = .ok (.iadd, 1) := by decide +kernel
theorem dX9_numberInto_26 : decode cX9_numberInto 26 = .ok (.if_icmp .ge 36, 3) := by decide +kernel
theorem dX9_numberInto_29 : decode cX9_numberInto 29 = .ok (.bipush 10, 2) := by decide +kernel
theorem dX9_numberInto_31 : decode cX9_numberInto 31 = .ok (.iload 6, 2) := by decide +kernel
theorem dX9_numberInto_33 : decode cX9_numberInto 33 = .ok (.imul, 1) := by decide +kernel
theorem dX9_numberInto_34 : decode cX9_numberInto 34 = .ok (.aload_n 0, 1) := by decide +kernel
theorem dX9_numberInto_35 : decode cX9_numberInto 35 = .ok (.getfield 19, 3) := by decide +kernel
theorem dX9_numberInto_38 : decode cX9_numberInto 38 = .ok (.aload_n 0, 1) := by decide +kernel
theorem dX9_numberInto_39 : decode cX9_numberInto 39 = .ok (.getfield 148, 3) := by decide +kernel
theorem dX9_numberInto_42 : decode cX9_numberInto 42 = .ok (.iaload, 1) := by decide +kernel
theorem dX9_numberInto_43 : decode cX9_numberInto 43 = .ok (.iadd, 1) := by decide +kernel
theorem dX9_numberInto_44 : decode cX9_numberInto 44 = .ok (.bipush 48, 2) := by decide +kernel
theorem dX9_numberInto_46 : decode cX9_numberInto 46 = .ok (.isub, 1) := by decide +kernel
theorem dX9_numberInto_47 : decode cX9_numberInto 47 = .ok (.istore 6, 2) := by decide +kernel
theorem dX9_numberInto_49 : decode cX9_numberInto 49 = .ok (.aload_n 0, 1) := by decide +kernel
theorem dX9_numberInto_50 : decode cX9_numberInto 50 = .ok (.dup, 1) := by decide +kernel
theorem dX9_numberInto_51 : decode cX9_numberInto 51 = .ok (.getfield 148, 3) := by decide +kernel
theorem dX9_numberInto_54 : decode cX9_numberInto 54 = .ok (.iconst 1, 1) := by decide +kernel
theorem dX9_numberInto_55 : decode cX9_numberInto 55 = .ok (.iadd, 1) := by decide +kernel
theorem dX9_numberInto_56 : decode cX9_numberInto 56 = .ok (.putfield 148, 3) := by decide +kernel
theorem dX9_numberInto_59 : decode cX9_numberInto 59 = .ok (.goto (-50), 3) := by decide +kernel
theorem dX9_numberInto_62 : decode cX9_numberInto 62 = .ok (.aload_n 0, 1) := by decide +kernel
theorem dX9_numberInto_63 : decode cX9_numberInto 63 = .ok (.getfield 148, 3) := by decide +kernel
theorem dX9_numberInto_66 : decode cX9_numberInto 66 = .ok (.iload 5, 2) := by decide +kernel
theorem dX9_numberInto_68 : decode cX9_numberInto 68 = .ok (.if_icmp .eq 12, 3) := by decide +kernel
theorem dX9_numberInto_71 : decode cX9_numberInto 71 = .ok (.aload_n 0, 1) := by decide +kernel
theorem dX9_numberInto_72 : decode cX9_numberInto 72 = .ok (.bipush 57, 2) := by decide +kernel
theorem dX9_numberInto_74 : decode cX9_numberInto 74 = .ok (.invokevirtual 151, 3) := by decide +kernel
theorem dX9_numberInto_77 : decode cX9_numberInto 77 = .ok (.ifCond .eq 5, 3) := by decide +kernel
theorem dX9_numberInto_80 : decode cX9_numberInto 80 = .ok (.iconst 0, 1) := by decide +kernel
theorem dX9_numberInto_81 : decode cX9_numberInto 81 = .ok (.ireturn, 1) := by decide +kernel
theorem dX9_numberInto_82 : decode cX9_numberInto 82 = .ok (.iload 6, 2) := by decide +kernel
theorem dX9_numberInto_84 : decode cX9_numberInto 84 = .ok (.iload_n 3, 1) := by decide +kernel
theorem dX9_numberInto_85 : decode cX9_numberInto 85 = .ok (.iload 4, 2) := by decide +kernel
theorem dX9_numberInto_87 : decode cX9_numberInto 87 = .ok (.invokestatic 36, 3) := by decide +kernel
theorem dX9_numberInto_90 : decode cX9_numberInto 90 = .ok (.ifCond .ne 11, 3) := by decide +kernel
theorem dX9_numberInto_93 : decode cX9_numberInto 93 = .ok (.aload_n 0, 1) := by decide +kernel
theorem dX9_numberInto_94 : decode cX9_numberInto 94 = .ok (.iload 5, 2) := by decide +kernel
theorem dX9_numberInto_96 : decode cX9_numberInto 96 = .ok (.putfield 148, 3) := by decide +kernel
theorem dX9_numberInto_99 : decode cX9_numberInto 99 = .ok (.iconst 0, 1) := by decide +kernel
theorem dX9_numberInto_100 : decode cX9_numberInto 100 = .ok (.ireturn, 1) := by decide +kernel
theorem dX9_numberInto_101 : decode cX9_numberInto 101 = .ok (.aload_n 0, 1) := by decide +kernel
theorem dX9_numberInto_102 : decode cX9_numberInto 102 = .ok (.getfield 22, 3) := by decide +kernel
theorem dX9_numberInto_105 : decode cX9_numberInto 105 = .ok (.iload_n 1, 1) := by decide +kernel
theorem dX9_numberInto_106 : decode cX9_numberInto 106 = .ok (.iload 6, 2) := by decide +kernel
theorem dX9_numberInto_108 : decode cX9_numberInto 108 = .ok (.iastore, 1) := by decide +kernel
theorem dX9_numberInto_109 : decode cX9_numberInto 109 = .ok (.iconst 1, 1) := by decide +kernel
theorem dX9_numberInto_110 : decode cX9_numberInto 110 = .ok (.ireturn, 1) := by decide +kernel
theorem dX9_readOrder_0 : decode cX9_readOrder 0 = .ok (.aload_n 0, 1) := by decide +kernel
theorem dX9_readOrder_1 : decode cX9_readOrder 1 = .ok (.bipush 116, 2) := by decide +kernel
theorem dX9_readOrder_3 : decode cX9_readOrder 3 = .ok (.invokevirtual 154, 3) := by decide +kernel
theorem dX9_readOrder_6 : decode cX9_readOrder 6 = .ok (.ifCond .eq 37, 3) := by decide +kernel
theorem dX9_readOrder_9 : decode cX9_readOrder 9 = .ok (.aload_n 0, 1) := by decide +kernel
theorem dX9_readOrder_10 : decode cX9_readOrder 10 = .ok (.getfield 22, 3) := by decide +kernel
theorem dX9_readOrder_13 : decode cX9_readOrder 13 = .ok (.iconst 0, 1) := by decide +kernel
theorem dX9_readOrder_14 : decode cX9_readOrder 14 = .ok (.iconst 2, 1) := by decide +kernel
theorem dX9_readOrder_15 : decode cX9_readOrder 15 = .ok (.iastore, 1) := by decide +kernel
theorem dX9_readOrder_16 : decode cX9_readOrder 16 = .ok (.aload_n 0, 1) := by decide +kernel
theorem dX9_readOrder_17 : decode cX9_readOrder 17 = .ok (.iconst 3, 1) := by decide +kernel
theorem dX9_readOrder_18 : decode cX9_readOrder 18 = .ok (.iconst 2, 1) := by decide +kernel
theorem dX9_readOrder_19 : decode cX9_readOrder 19 = .ok (.iconst 1, 1) := by decide +kernel
theorem dX9_readOrder_20 : decode cX9_readOrder 20 = .ok (.bipush 50, 2) := by decide +kernel
theorem dX9_readOrder_22 : decode cX9_readOrder 22 = .ok (.invokevirtual 157, 3) := by decide +kernel
theorem dX9_readOrder_25 : decode cX9_readOrder 25 = .ok (.ifCond .eq 16, 3) := by decide +kernel
theorem dX9_readOrder_28 : decode cX9_readOrder 28 = .ok (.aload_n 0, 1) := by decide +kernel
theorem dX9_readOrder_29 : decode cX9_readOrder 29 = .ok (.bipush 59, 2) := by decide +kernel
theorem dX9_readOrder_31 : decode cX9_readOrder 31 = .ok (.invokevirtual 154, 3) := by decide +kernel
theorem dX9_readOrder_34 : decode cX9_readOrder 34 = .ok (.ifCond .eq 7, 3) := by decide +kernel
theorem dX9_readOrder_37 : decode cX9_readOrder 37 = .ok (.iconst 1, 1) := by decide +kernel
theorem dX9_readOrder_38 : decode cX9_readOrder 38 = .ok (.goto 4, 3) := by decide +kernel
theorem dX9_readOrder_41 : decode cX9_readOrder 41 = .ok (.iconst 0, 1) := by decide +kernel
theorem dX9_readOrder_42 : decode cX9_readOrder 42 = .ok (.ireturn, 1) := by decide +kernel
theorem dX9_readOrder_43 : decode cX9_readOrder 43 = .ok (.aload_n 0, 1) := by decide +kernel
theorem dX9_readOrder_44 : decode cX9_readOrder 44 = .ok (.getfield 22, 3) := by decide +kernel
theorem dX9_readOrder_47 : decode cX9_readOrder 47 = .ok (.iconst 0, 1) := by decide +kernel
theorem dX9_readOrder_48 : decode cX9_readOrder 48 = .ok (.aload_n 0, 1) := by decide +kernel
theorem dX9_readOrder_49 : decode cX9_readOrder 49 = .ok (.bipush 114, 2) := by decide +kernel
theorem dX9_readOrder_51 : decode cX9_readOrder 51 = .ok (.invokevirtual 154, 3) := by decide +kernel
theorem dX9_readOrder_54 : decode cX9_readOrder 54 = .ok (.ifCond .eq 7, 3) := by decide +kernel
theorem dX9_readOrder_57 : decode cX9_readOrder 57 = .ok (.iconst 0, 1) := by decide +kernel
theorem dX9_readOrder_58 : decode cX9_readOrder 58 = .ok (.goto 4, 3) := by decide +kernel
theorem dX9_readOrder_61 : decode cX9_readOrder 61 = .ok (.iconst 1, 1) := by decide +kernel
theorem dX9_readOrder_62 : decode cX9_readOrder 62 = .ok (.iastore, 1) := by decide +kernel
theorem dX9_readOrder_63 : decode cX9_readOrder 63 = .ok (.aload_n 0, 1) := by decide +kernel
theorem dX9_readOrder_64 : decode cX9_readOrder 64 = .ok (.getfield 22, 3) := by decide +kernel
theorem dX9_readOrder_67 : decode cX9_readOrder 67 = .ok (.iconst 3, 1) := by decide +kernel
theorem dX9_readOrder_68 : decode cX9_readOrder 68 = .ok (.iconst (-1), 1) := by decide +kernel
theorem dX9_readOrder_69 : decode cX9_readOrder 69 = .ok (.iastore, 1) := by decide +kernel
theorem dX9_readOrder_70 : decode cX9_readOrder 70 = .ok (.aload_n 0, 1) := by decide +kernel
theorem dX9_readOrder_71 : decode cX9_readOrder 71 = .ok (.getfield 22, 3) := by decide +kernel
theorem dX9_readOrder_74 : decode cX9_readOrder 74 = .ok (.iconst 0, 1) := by decide +kernel
theorem dX9_readOrder_75 : decode cX9_readOrder 75 = .ok (.iaload, 1) := by decide +kernel
theorem dX9_readOrder_76 : decode cX9_readOrder 76 = .ok (.iconst 1, 1) := by decide +kernel
theorem dX9_readOrder_77 : decode cX9_readOrder 77 = .ok (.if_icmp .ne 12, 3) := by decide +kernel
theorem dX9_readOrder_80 : decode cX9_readOrder 80 = .ok (.aload_n 0, 1) := by decide +kernel
theorem dX9_readOrder_81 : decode cX9_readOrder 81 = .ok (.bipush 119, 2) := by decide +kernel
theorem dX9_readOrder_83 : decode cX9_readOrder 83 = .ok (.invokevirtual 154, 3) := by decide +kernel
theorem dX9_readOrder_86 : decode cX9_readOrder 86 = .ok (.ifCond .eq 12, 3) := by decide +kernel
theorem dX9_readOrder_89 : decode cX9_readOrder 89 = .ok (.aload_n 0, 1) := by decide +kernel
theorem dX9_readOrder_90 : decode cX9_readOrder 90 = .ok (.bipush 53, 2) := by decide +kernel
theorem dX9_readOrder_92 : decode cX9_readOrder 92 = .ok (.invokevirtual 151, 3) := by decide +kernel
theorem dX9_readOrder_95 : decode cX9_readOrder 95 = .ok (.ifCond .ne 5, 3) := by decide +kernel
theorem dX9_readOrder_98 : decode cX9_readOrder 98 = .ok (.iconst 0, 1) := by decide +kernel
theorem dX9_readOrder_99 : decode cX9_readOrder 99 = .ok (.ireturn, 1) := by decide +kernel
theorem dX9_readOrder_100 : decode cX9_readOrder 100 = .ok (.aload_n 0, 1) := by decide +kernel
theorem dX9_readOrder_101 : decode cX9_readOrder 101 = .ok (.getfield 22, 3) := by decide +kernel
theorem dX9_readOrder_104 : decode cX9_readOrder 104 = .ok (.iconst 1, 1) := by decide +kernel
theorem dX9_readOrder_105 : decode cX9_readOrder 105 = .ok (.aload_n 0, 1) := by decide +kernel
theorem dX9_readOrder_106 : decode cX9_readOrder 106 = .ok (.getfield 19, 3) := by decide +kernel
theorem dX9_readOrder_109 : decode cX9_readOrder 109 = .ok (.aload_n 0, 1) := by decide +kernel
theorem dX9_readOrder_110 : decode cX9_readOrder 110 = .ok (.getfield 148, 3) := by decide +kernel
theorem dX9_readOrder_113 : decode cX9_readOrder 113 = .ok (.iaload, 1) := by decide +kernel
theorem dX9_readOrder_114 : decode cX9_readOrder 114 = .ok (.bipush 48, 2) := by decide +kernel
theorem dX9_readOrder_116 : decode cX9_readOrder 116 = .ok (.isub, 1) := by decide +kernel
theorem dX9_readOrder_117 : decode cX9_readOrder 117 = .ok (.iastore, 1) := by decide +kernel
theorem dX9_readOrder_118 : decode cX9_readOrder 118 = .ok (.aload_n 0, 1) := by decide +kernel
theorem dX9_readOrder_119 : decode cX9_readOrder 119 = .ok (.dup, 1) := by decide +kernel
theorem dX9_readOrder_120 : decode cX9_readOrder 120 = .ok (.getfield 148, 3) := by decide +kernel
theorem dX9_readOrder_123 : decode cX9_readOrder 123 = .ok (.iconst 1, 1) := by decide +kernel
theorem dX9_readOrder_124 : decode cX9_readOrder 124 = .ok (.iadd, 1) := by decide +kernel
theorem dX9_readOrder_125 : decode cX9_readOrder 125 = .ok (.putfield 148, 3) := by decide +kernel
theorem dX9_readOrder_128 : decode cX9_readOrder 128 = .ok (.aload_n 0, 1) := by decide +kernel
theorem dX9_readOrder_129 : decode cX9_readOrder 129 = .ok (.bipush 58, 2) := by decide +kernel
theorem dX9_readOrder_131 : decode cX9_readOrder 131 = .ok (.invokevirtual 154, 3) := by decide +kernel
theorem dX9_readOrder_134 : decode cX9_readOrder 134 = .ok (.ifCond .eq 15, 3) := by decide +kernel
theorem dX9_readOrder_137 : decode cX9_readOrder 137 = .ok (.aload_n 0, 1) := by decide +kernel
theorem dX9_readOrder_138 : decode cX9_readOrder 138 = .ok (.iconst 2, 1) := by decide +kernel
theorem dX9_readOrder_139 : decode cX9_readOrder 139 = .ok (.iconst 2, 1) := by decide +kernel
theorem dX9_readOrder_140 : decode cX9_readOrder 140 = .ok (.iconst 0, 1) := by decide +kernel
theorem dX9_readOrder_141 : decode cX9_readOrder 141 = .ok (.bipush 31, 2) := by decide +kernel
theorem dX9_readOrder_143 : decode cX9_readOrder 143 = .ok (.invokevirtual 157, 3) := by decide +kernel
theorem dX9_readOrder_146 : decode cX9_readOrder 146 = .ok (.ifCond .ne 5, 3) := by decide +kernel
theorem dX9_readOrder_149 : decode cX9_readOrder 149 = .ok (.iconst 0, 1) := by decide +kernel
theorem dX9_readOrder_150 : decode cX9_readOrder 150 = .ok (.ireturn, 1) := by decide +kernel
theorem dX9_readOrder_151 : decode cX9_readOrder 151 = .ok (.aload_n 0, 1) := by decide +kernel
theorem dX9_readOrder_152 : decode cX9_readOrder 152 = .ok (.getfield 22, 3) := by decide +kernel
theorem dX9_readOrder_155 : decode cX9_readOrder 155 = .ok (.iconst 0, 1) := by decide +kernel
theorem dX9_readOrder_156 : decode cX9_readOrder 156 = .ok (.iaload, 1) := by decide +kernel
theorem dX9_readOrder_157 : decode cX9_readOrder 157 = .ok (.ifCond .eq 25, 3) := by decide +kernel
theorem dX9_readOrder_160 : decode cX9_readOrder 160 = .ok (.aload_n 0, 1) := by decide +kernel
theorem dX9_readOrder_161 : decode cX9_readOrder 161 = .ok (.bipush 61, 2) := by decide +kernel
theorem dX9_readOrder_163 : decode cX9_readOrder 163 = .ok (.invokevirtual 154, 3) := by decide +kernel
theorem dX9_readOrder_166 : decode cX9_readOrder 166 = .ok (.ifCond .eq 29, 3) := by decide +kernel
theorem dX9_readOrder_169 : decode cX9_readOrder 169 = .ok (.aload_n 0, 1) := by decide +kernel
theorem dX9_readOrder_170 : decode cX9_readOrder 170 = .ok (.iconst 3, 1) := by decide +kernel
theorem dX9_readOrder_171 : decode cX9_readOrder 171 = .ok (.iconst 3, 1) := by decide +kernel
theorem dX9_readOrder_172 : decode cX9_readOrder 172 = .ok (.iconst 0, 1) := by decide +kernel
theorem dX9_readOrder_173 : decode cX9_readOrder 173 = .ok (.sipush 999, 3) := by decide +kernel
theorem dX9_readOrder_176 : decode cX9_readOrder 176 = .ok (.invokevirtual 157, 3) := by decide +kernel
theorem dX9_readOrder_179 : decode cX9_readOrder 179 = .ok (.ifCond .eq 16, 3) := by decide +kernel
theorem dX9_readOrder_182 : decode cX9_readOrder 182 = .ok (.aload_n 0, 1) := by decide +kernel
theorem dX9_readOrder_183 : decode cX9_readOrder 183 = .ok (.bipush 59, 2) := by decide +kernel
theorem dX9_readOrder_185 : decode cX9_readOrder 185 = .ok (.invokevirtual 154, 3) := by decide +kernel
theorem dX9_readOrder_188 : decode cX9_readOrder 188 = .ok (.ifCond .eq 7, 3) := by decide +kernel
theorem dX9_readOrder_191 : decode cX9_readOrder 191 = .ok (.iconst 1, 1) := by decide +kernel
theorem dX9_readOrder_192 : decode cX9_readOrder 192 = .ok (.goto 4, 3) := by decide +kernel
theorem dX9_readOrder_195 : decode cX9_readOrder 195 = .ok (.iconst 0, 1) := by decide +kernel
theorem dX9_readOrder_196 : decode cX9_readOrder 196 = .ok (.ireturn, 1) := by decide +kernel
theorem dX9_doOrder_0 : decode cX9_doOrder 0 = .ok (.aload_n 0, 1) := by decide +kernel
theorem dX9_doOrder_1 : decode cX9_doOrder 1 = .ok (.getfield 22, 3) := by decide +kernel
theorem dX9_doOrder_4 : decode cX9_doOrder 4 = .ok (.iconst 0, 1) := by decide +kernel
theorem dX9_doOrder_5 : decode cX9_doOrder 5 = .ok (.iaload, 1) := by decide +kernel
theorem dX9_doOrder_6 : decode cX9_doOrder 6 = .ok (.iconst 2, 1) := by decide +kernel
theorem dX9_doOrder_7 : decode cX9_doOrder 7 = .ok (.if_icmp .ne 48, 3) := by decide +kernel
theorem dX9_doOrder_10 : decode cX9_doOrder 10 = .ok (.aload_n 0, 1) := by decide +kernel
theorem dX9_doOrder_11 : decode cX9_doOrder 11 = .ok (.getfield 7, 3) := by decide +kernel
theorem dX9_doOrder_14 : decode cX9_doOrder 14 = .ok (.iconst 4, 1) := by decide +kernel
theorem dX9_doOrder_15 : decode cX9_doOrder 15 = .ok (.iaload, 1) := by decide +kernel
theorem dX9_doOrder_16 : decode cX9_doOrder 16 = .ok (.aload_n 0, 1) := by decide +kernel
theorem dX9_doOrder_17 : decode cX9_doOrder 17 = .ok (.getfield 22, 3) := by decide +kernel
theorem dX9_doOrder_20 : decode cX9_doOrder 20 = .ok (.iconst 3, 1) := by decide +kernel
theorem dX9_doOrder_21 : decode cX9_doOrder 21 = .ok (.iaload, 1) := by decide +kernel
theorem dX9_doOrder_22 : decode cX9_doOrder 22 = .ok (.iadd, 1) := by decide +kernel
theorem dX9_doOrder_23 : decode cX9_doOrder 23 = .ok (.ldc 114, 2) := by decide +kernel
theorem dX9_doOrder_25 : decode cX9_doOrder 25 = .ok (.if_icmp .gt 7, 3) := by decide +kernel
theorem dX9_doOrder_28 : decode cX9_doOrder 28 = .ok (.iconst 1, 1) := by decide +kernel
theorem dX9_doOrder_29 : decode cX9_doOrder 29 = .ok (.goto 4, 3) := by decide +kernel
theorem dX9_doOrder_32 : decode cX9_doOrder 32 = .ok (.iconst 0, 1) := by decide +kernel
theorem dX9_doOrder_33 : decode cX9_doOrder 33 = .ok (.istore_n 1, 1) := by decide +kernel
theorem dX9_doOrder_34 : decode cX9_doOrder 34 = .ok (.aload_n 0, 1) := by decide +kernel
theorem dX9_doOrder_35 : decode cX9_doOrder 35 = .ok (.iload_n 1, 1) := by decide +kernel
theorem dX9_doOrder_36 : decode cX9_doOrder 36 = .ok (.ifCond .eq 12, 3) := by decide +kernel
theorem dX9_doOrder_39 : decode cX9_doOrder 39 = .ok (.aload_n 0, 1) := by decide +kernel
theorem dX9_doOrder_40 : decode cX9_doOrder 40 = .ok (.getfield 22, 3) := by decide +kernel
theorem dX9_doOrder_43 : decode cX9_doOrder 43 = .ok (.iconst 3, 1) := by decide +kernel
theorem dX9_doOrder_44 : decode cX9_doOrder 44 = .ok (.iaload, 1) := by decide +kernel
theorem dX9_doOrder_45 : decode cX9_doOrder 45 = .ok (.goto 4, 3) := by decide +kernel
theorem dX9_doOrder_48 : decode cX9_doOrder 48 = .ok (.iconst 0, 1) := by decide +kernel
theorem dX9_doOrder_49 : decode cX9_doOrder 49 = .ok (.invokevirtual 115, 3) := by decide +kernel
theorem dX9_doOrder_52 : decode cX9_doOrder 52 = .ok (.pop, 1) := by decide +kernel
theorem dX9_doOrder_53 : decode cX9_doOrder 53 = .ok (.iload_n 1, 1) := by decide +kernel
theorem dX9_doOrder_54 : decode cX9_doOrder 54 = .ok (.ireturn, 1) := by decide +kernel
theorem dX9_doOrder_55 : decode cX9_doOrder 55 = .ok (.aload_n 0, 1) := by decide +kernel
theorem dX9_doOrder_56 : decode cX9_doOrder 56 = .ok (.aload_n 0, 1) := by decide +kernel
theorem dX9_doOrder_57 : decode cX9_doOrder 57 = .ok (.getfield 22, 3) := by decide +kernel
theorem dX9_doOrder_60 : decode cX9_doOrder 60 = .ok (.iconst 1, 1) := by decide +kernel
theorem dX9_doOrder_61 : decode cX9_doOrder 61 = .ok (.iaload, 1) := by decide +kernel
theorem dX9_doOrder_62 : decode cX9_doOrder 62 = .ok (.invokevirtual 105, 3) := by decide +kernel
theorem dX9_doOrder_65 : decode cX9_doOrder 65 = .ok (.ifCond .eq 20, 3) := by decide +kernel
theorem dX9_doOrder_68 : decode cX9_doOrder 68 = .ok (.aload_n 0, 1) := by decide +kernel
theorem dX9_doOrder_69 : decode cX9_doOrder 69 = .ok (.aload_n 0, 1) := by decide +kernel
theorem dX9_doOrder_70 : decode cX9_doOrder 70 = .ok (.getfield 22, 3) := by decide +kernel
theorem dX9_doOrder_73 : decode cX9_doOrder 73 = .ok (.iconst 1, 1) := by decide +kernel
theorem dX9_doOrder_74 : decode cX9_doOrder 74 = .ok (.iaload, 1) := by decide +kernel
theorem dX9_doOrder_75 : decode cX9_doOrder 75 = .ok (.invokevirtual 95, 3) := by decide +kernel
theorem dX9_doOrder_78 : decode cX9_doOrder 78 = .ok (.ifCond .ne 7, 3) := by decide +kernel
theorem dX9_doOrder_81 : decode cX9_doOrder 81 = .ok (.iconst 1, 1) := by decide +kernel
theorem dX9_doOrder_82 : decode cX9_doOrder 82 = .ok (.goto 4, 3) := by decide +kernel
theorem dX9_doOrder_85 : decode cX9_doOrder 85 = .ok (.iconst 0, 1) := by decide +kernel
theorem dX9_doOrder_86 : decode cX9_doOrder 86 = .ok (.istore_n 1, 1) := by decide +kernel
theorem dX9_doOrder_87 : decode cX9_doOrder 87 = .ok (.iload_n 1, 1) := by decide +kernel
theorem dX9_doOrder_88 : decode cX9_doOrder 88 = .ok (.ifCond .eq 26, 3) := by decide +kernel
theorem dX9_doOrder_91 : decode cX9_doOrder 91 = .ok (.aload_n 0, 1) := by decide +kernel
theorem dX9_doOrder_92 : decode cX9_doOrder 92 = .ok (.aload_n 0, 1) := by decide +kernel
theorem dX9_doOrder_93 : decode cX9_doOrder 93 = .ok (.getfield 22, 3) := by decide +kernel
theorem dX9_doOrder_96 : decode cX9_doOrder 96 = .ok (.iconst 1, 1) := by decide +kernel
theorem dX9_doOrder_97 : decode cX9_doOrder 97 = .ok (.iaload, 1) := by decide +kernel
theorem dX9_doOrder_98 : decode cX9_doOrder 98 = .ok (.aload_n 0, 1) := by decide +kernel
theorem dX9_doOrder_99 : decode cX9_doOrder 99 = .ok (.getfield 22, 3) := by decide +kernel
theorem dX9_doOrder_102 : decode cX9_doOrder 102 = .ok (.iconst 2, 1) := by decide +kernel
theorem dX9_doOrder_103 : decode cX9_doOrder 103 = .ok (.iaload, 1) := by decide +kernel
theorem dX9_doOrder_104 : decode cX9_doOrder 104 = .ok (.aload_n 0, 1) := by decide +kernel
theorem dX9_doOrder_105 : decode cX9_doOrder 105 = .ok (.getfield 22, 3) := by decide +kernel
theorem dX9_doOrder_108 : decode cX9_doOrder 108 = .ok (.iconst 3, 1) := by decide +kernel
theorem dX9_doOrder_109 : decode cX9_doOrder 109 = .ok (.iaload, 1) := by decide +kernel
theorem dX9_doOrder_110 : decode cX9_doOrder 110 = .ok (.invokevirtual 111, 3) := by decide +kernel
theorem dX9_doOrder_113 : decode cX9_doOrder 113 = .ok (.pop, 1) := by decide +kernel
theorem dX9_doOrder_114 : decode cX9_doOrder 114 = .ok (.iload_n 1, 1) := by decide +kernel
theorem dX9_doOrder_115 : decode cX9_doOrder 115 = .ok (.ireturn, 1) := by decide +kernel
theorem dX9_carryOut_0 : decode cX9_carryOut 0 = .ok (.aload_n 0, 1) := by decide +kernel
theorem dX9_carryOut_1 : decode cX9_carryOut 1 = .ok (.iconst 0, 1) := by decide +kernel
theorem dX9_carryOut_2 : decode cX9_carryOut 2 = .ok (.putfield 29, 3) := by decide +kernel
theorem dX9_carryOut_5 : decode cX9_carryOut 5 = .ok (.aload_n 0, 1) := by decide +kernel
theorem dX9_carryOut_6 : decode cX9_carryOut 6 = .ok (.iconst 0, 1) := by decide +kernel
theorem dX9_carryOut_7 : decode cX9_carryOut 7 = .ok (.putfield 148, 3) := by decide +kernel
theorem dX9_carryOut_10 : decode cX9_carryOut 10 = .ok (.iconst 1, 1) := by decide +kernel
theorem dX9_carryOut_11 : decode cX9_carryOut 11 = .ok (.istore_n 1, 1) := by decide +kernel
theorem dX9_carryOut_12 : decode cX9_carryOut 12 = .ok (.iload_n 1, 1) := by decide +kernel
theorem dX9_carryOut_13 : decode cX9_carryOut 13 = .ok (.ifCond .eq 22, 3) := by decide +kernel
theorem dX9_carryOut_16 : decode cX9_carryOut 16 = .ok (.aload_n 0, 1) := by decide +kernel
theorem dX9_carryOut_17 : decode cX9_carryOut 17 = .ok (.getfield 148, 3) := by decide +kernel
theorem dX9_carryOut_20 : decode cX9_carryOut 20 = .ok (.aload_n 0, 1) := by decide +kernel
theorem dX9_carryOut_21 : decode cX9_carryOut 21 = .ok (.getfield 145, 3) := by decide +kernel
theorem dX9_carryOut_24 : decode cX9_carryOut 24 = .ok (.if_icmp .ge 11, 3) := by decide +kernel
theorem dX9_carryOut_27 : decode cX9_carryOut 27 = .ok (.aload_n 0, 1) := by decide +kernel
theorem dX9_carryOut_28 : decode cX9_carryOut 28 = .ok (.invokevirtual 161, 3) := by decide +kernel
theorem dX9_carryOut_31 : decode cX9_carryOut 31 = .ok (.istore_n 1, 1) := by decide +kernel
theorem dX9_carryOut_32 : decode cX9_carryOut 32 = .ok (.goto (-20), 3) := by decide +kernel
theorem dX9_carryOut_35 : decode cX9_carryOut 35 = .ok (.iload_n 1, 1) := by decide +kernel
theorem dX9_carryOut_36 : decode cX9_carryOut 36 = .ok (.ifCond .ne 11, 3) := by decide +kernel
theorem dX9_carryOut_39 : decode cX9_carryOut 39 = .ok (.bipush (-10), 2) := by decide +kernel
theorem dX9_carryOut_41 : decode cX9_carryOut 41 = .ok (.aload_n 0, 1) := by decide +kernel
theorem dX9_carryOut_42 : decode cX9_carryOut 42 = .ok (.getfield 148, 3) := by decide +kernel
theorem dX9_carryOut_45 : decode cX9_carryOut 45 = .ok (.isub, 1) := by decide +kernel
theorem dX9_carryOut_46 : decode cX9_carryOut 46 = .ok (.ireturn, 1) := by decide +kernel
theorem dX9_carryOut_47 : decode cX9_carryOut 47 = .ok (.aload_n 0, 1) := by decide +kernel
theorem dX9_carryOut_48 : decode cX9_carryOut 48 = .ok (.invokevirtual 102, 3) := by decide +kernel
theorem dX9_carryOut_51 : decode cX9_carryOut 51 = .ok (.aload_n 0, 1) := by decide +kernel
theorem dX9_carryOut_52 : decode cX9_carryOut 52 = .ok (.iconst 0, 1) := by decide +kernel
theorem dX9_carryOut_53 : decode cX9_carryOut 53 = .ok (.putfield 148, 3) := by decide +kernel
theorem dX9_carryOut_56 : decode cX9_carryOut 56 = .ok (.iconst 0, 1) := by decide +kernel
theorem dX9_carryOut_57 : decode cX9_carryOut 57 = .ok (.istore_n 2, 1) := by decide +kernel
theorem dX9_carryOut_58 : decode cX9_carryOut 58 = .ok (.iload_n 1, 1) := by decide +kernel
theorem dX9_carryOut_59 : decode cX9_carryOut 59 = .ok (.ifCond .eq 39, 3) := by decide +kernel
theorem dX9_carryOut_62 : decode cX9_carryOut 62 = .ok (.aload_n 0, 1) := by decide +kernel
theorem dX9_carryOut_63 : decode cX9_carryOut 63 = .ok (.getfield 148, 3) := by decide +kernel
theorem dX9_carryOut_66 : decode cX9_carryOut 66 = .ok (.aload_n 0, 1) := by decide +kernel
theorem dX9_carryOut_67 : decode cX9_carryOut 67 = .ok (.getfield 145, 3) := by decide +kernel
theorem dX9_carryOut_70 : decode cX9_carryOut 70 = .ok (.if_icmp .ge 28, 3) := by decide +kernel
theorem dX9_carryOut_73 : decode cX9_carryOut 73 = .ok (.aload_n 0, 1) := by decide +kernel
theorem dX9_carryOut_74 : decode cX9_carryOut 74 = .ok (.invokevirtual 161, 3) := by decide +kernel
theorem dX9_carryOut_77 : decode cX9_carryOut 77 = .ok (.pop, 1) := by decide +kernel
theorem dX9_carryOut_78 : decode cX9_carryOut 78 = .ok (.aload_n 0, 1) := by decide +kernel
theorem dX9_carryOut_79 : decode cX9_carryOut 79 = .ok (.invokevirtual 165, 3) := by decide +kernel
theorem dX9_carryOut_82 : decode cX9_carryOut 82 = .ok (.istore_n 1, 1) := by decide +kernel
theorem dX9_carryOut_83 : decode cX9_carryOut 83 = .ok (.iload_n 2, 1) := by decide +kernel
theorem dX9_carryOut_84 : decode cX9_carryOut 84 = .ok (.iload_n 1, 1) := by decide +kernel
theorem dX9_carryOut_85 : decode cX9_carryOut 85 = .ok (.ifCond .eq 7, 3) := by decide +kernel
theorem dX9_carryOut_88 : decode cX9_carryOut 88 = .ok (.iconst 1, 1) := by decide +kernel
theorem dX9_carryOut_89 : decode cX9_carryOut 89 = .ok (.goto 4, 3) := by decide +kernel
theorem dX9_carryOut_92 : decode cX9_carryOut 92 = .ok (.iconst 0, 1) := by decide +kernel
theorem dX9_carryOut_93 : decode cX9_carryOut 93 = .ok (.iadd, 1) := by decide +kernel
theorem dX9_carryOut_94 : decode cX9_carryOut 94 = .ok (.istore_n 2, 1) := by decide +kernel
theorem dX9_carryOut_95 : decode cX9_carryOut 95 = .ok (.goto (-37), 3) := by decide +kernel
theorem dX9_carryOut_98 : decode cX9_carryOut 98 = .ok (.iload_n 2, 1) := by decide +kernel
theorem dX9_carryOut_99 : decode cX9_carryOut 99 = .ok (.ireturn, 1) := by decide +kernel
theorem dX9_undo_0 : decode cX9_undo 0 = .ok (.aload_n 0, 1) := by decide +kernel
theorem dX9_undo_1 : decode cX9_undo 1 = .ok (.iconst 0, 1) := by decide +kernel
theorem dX9_undo_2 : decode cX9_undo 2 = .ok (.putfield 29, 3) := by decide +kernel
theorem dX9_undo_5 : decode cX9_undo 5 = .ok (.aload_n 0, 1) := by decide +kernel
theorem dX9_undo_6 : decode cX9_undo 6 = .ok (.getfield 33, 3) := by decide +kernel
theorem dX9_undo_9 : decode cX9_undo 9 = .ok (.ifCond .ne 9, 3) := by decide +kernel
theorem dX9_undo_12 : decode cX9_undo 12 = .ok (.aload_n 0, 1) := by decide +kernel
theorem dX9_undo_13 : decode cX9_undo 13 = .ok (.iconst 1, 1) := by decide +kernel
theorem dX9_undo_14 : decode cX9_undo 14 = .ok (.invokevirtual 99, 3) := by decide +kernel
theorem dX9_undo_17 : decode cX9_undo 17 = .ok (.ireturn, 1) := by decide +kernel
theorem dX9_undo_18 : decode cX9_undo 18 = .ok (.aload_n 0, 1) := by decide +kernel
theorem dX9_undo_19 : decode cX9_undo 19 = .ok (.dup, 1) := by decide +kernel
theorem dX9_undo_20 : decode cX9_undo 20 = .ok (.getfield 33, 3) := by decide +kernel
theorem dX9_undo_23 : decode cX9_undo 23 = .ok (.iconst 1, 1) := by decide +kernel
theorem dX9_undo_24 : decode cX9_undo 24 = .ok (.isub, 1) := by decide +kernel
theorem dX9_undo_25 : decode cX9_undo 25 = .ok (.putfield 33, 3) := by decide +kernel
theorem dX9_undo_28 : decode cX9_undo 28 = .ok (.iconst 0, 1) := by decide +kernel
theorem dX9_undo_29 : decode cX9_undo 29 = .ok (.istore_n 1, 1) := by decide +kernel
theorem dX9_undo_30 : decode cX9_undo 30 = .ok (.iload_n 1, 1) := by decide +kernel
theorem dX9_undo_31 : decode cX9_undo 31 = .ok (.sipush 456, 3) := by decide +kernel
theorem dX9_undo_34 : decode cX9_undo 34 = .ok (.if_icmp .ge 30, 3) := by decide +kernel
theorem dX9_undo_37 : decode cX9_undo 37 = .ok (.aload_n 0, 1) := by decide +kernel
theorem dX9_undo_38 : decode cX9_undo 38 = .ok (.getfield 7, 3) := by decide +kernel
theorem dX9_undo_41 : decode cX9_undo 41 = .ok (.iload_n 1, 1) := by decide +kernel
theorem dX9_undo_42 : decode cX9_undo 42 = .ok (.aload_n 0, 1) := by decide +kernel
theorem dX9_undo_43 : decode cX9_undo 43 = .ok (.getfield 16, 3) := by decide +kernel
theorem dX9_undo_46 : decode cX9_undo 46 = .ok (.sipush 456, 3) := by decide +kernel
theorem dX9_undo_49 : decode cX9_undo 49 = .ok (.aload_n 0, 1) := by decide +kernel
theorem dX9_undo_50 : decode cX9_undo 50 = .ok (.getfield 33, 3) := by decide +kernel
theorem dX9_undo_53 : decode cX9_undo 53 = .ok (.imul, 1) := by decide +kernel
theorem dX9_undo_54 : decode cX9_undo 54 = .ok (.iload_n 1, 1) := by decide +kernel
theorem dX9_undo_55 : decode cX9_undo 55 = .ok (.iadd, 1) := by decide +kernel
theorem dX9_undo_56 : decode cX9_undo 56 = .ok (.iaload, 1) := by decide +kernel
theorem dX9_undo_57 : decode cX9_undo 57 = .ok (.iastore, 1) := by decide +kernel
theorem dX9_undo_58 : decode cX9_undo 58 = .ok (.iinc 1 1, 3) := by decide +kernel
theorem dX9_undo_61 : decode cX9_undo 61 = .ok (.goto (-31), 3) := by decide +kernel
theorem dX9_undo_64 : decode cX9_undo 64 = .ok (.aload_n 0, 1) := by decide +kernel
theorem dX9_undo_65 : decode cX9_undo 65 = .ok (.getfield 33, 3) := by decide +kernel
theorem dX9_undo_68 : decode cX9_undo 68 = .ok (.ireturn, 1) := by decide +kernel
theorem dX9_digest_0 : decode cX9_digest 0 = .ok (.aload_n 0, 1) := by decide +kernel
theorem dX9_digest_1 : decode cX9_digest 1 = .ok (.iconst 0, 1) := by decide +kernel
theorem dX9_digest_2 : decode cX9_digest 2 = .ok (.putfield 29, 3) := by decide +kernel
theorem dX9_digest_5 : decode cX9_digest 5 = .ok (.ldc2_w 168, 3) := by decide +kernel
theorem dX9_digest_8 : decode cX9_digest 8 = .ok (.aload_n 0, 1) := by decide +kernel
theorem dX9_digest_9 : decode cX9_digest 9 = .ok (.getfield 145, 3) := by decide +kernel
theorem dX9_digest_12 : decode cX9_digest 12 = .ok (.i2l, 1) := by decide +kernel
theorem dX9_digest_13 : decode cX9_digest 13 = .ok (.ladd, 1) := by decide +kernel
theorem dX9_digest_14 : decode cX9_digest 14 = .ok (.lstore_n 1, 1) := by decide +kernel
theorem dX9_digest_15 : decode cX9_digest 15 = .ok (.iconst 0, 1) := by decide +kernel
theorem dX9_digest_16 : decode cX9_digest 16 = .ok (.istore_n 3, 1) := by decide +kernel
theorem dX9_digest_17 : decode cX9_digest 17 = .ok (.iload_n 3, 1) := by decide +kernel
theorem dX9_digest_18 : decode cX9_digest 18 = .ok (.bipush 14, 2) := by decide +kernel
theorem dX9_digest_20 : decode cX9_digest 20 = .ok (.if_icmp .ge 22, 3) := by decide +kernel
theorem dX9_digest_23 : decode cX9_digest 23 = .ok (.ldc2_w 170, 3) := by decide +kernel
theorem dX9_digest_26 : decode cX9_digest 26 = .ok (.lload_n 1, 1) := by decide +kernel
theorem dX9_digest_27 : decode cX9_digest 27 = .ok (.lmul, 1) := by decide +kernel
theorem dX9_digest_28 : decode cX9_digest 28 = .ok (.aload_n 0, 1) := by decide +kernel
theorem dX9_digest_29 : decode cX9_digest 29 = .ok (.iload_n 3, 1) := by decide +kernel
theorem dX9_digest_30 : decode cX9_digest 30 = .ok (.invokevirtual 133, 3) := by decide +kernel
theorem dX9_digest_33 : decode cX9_digest 33 = .ok (.i2l, 1) := by decide +kernel
theorem dX9_digest_34 : decode cX9_digest 34 = .ok (.ladd, 1) := by decide +kernel
theorem dX9_digest_35 : decode cX9_digest 35 = .ok (.lstore_n 1, 1) := by decide +kernel
theorem dX9_digest_36 : decode cX9_digest 36 = .ok (.iinc 3 1, 3) := by decide +kernel
theorem dX9_digest_39 : decode cX9_digest 39 = .ok (.goto (-22), 3) := by decide +kernel
theorem dX9_digest_42 : decode cX9_digest 42 = .ok (.iconst 0, 1) := by decide +kernel
theorem dX9_digest_43 : decode cX9_digest 43 = .ok (.istore_n 3, 1) := by decide +kernel
theorem dX9_digest_44 : decode cX9_digest 44 = .ok (.iload_n 3, 1) := by decide +kernel
theorem dX9_digest_45 : decode cX9_digest 45 = .ok (.bipush 32, 2) := by decide +kernel
theorem dX9_digest_47 : decode cX9_digest 47 = .ok (.if_icmp .ge 83, 3) := by decide +kernel
theorem dX9_digest_50 : decode cX9_digest 50 = .ok (.iconst 0, 1) := by decide +kernel
theorem dX9_digest_51 : decode cX9_digest 51 = .ok (.istore 4, 2) := by decide +kernel
theorem dX9_digest_53 : decode cX9_digest 53 = .ok (.iload 4, 2) := by decide +kernel
theorem dX9_digest_55 : decode cX9_digest 55 = .ok (.bipush 8, 2) := by decide +kernel
theorem dX9_digest_57 : decode cX9_digest 57 = .ok (.if_icmp .ge 24, 3) := by decide +kernel
theorem dX9_digest_60 : decode cX9_digest 60 = .ok (.ldc2_w 170, 3) := by decide +kernel
theorem dX9_digest_63 : decode cX9_digest 63 = .ok (.lload_n 1, 1) := by decide +kernel
theorem dX9_digest_64 : decode cX9_digest 64 = .ok (.lmul, 1) := by decide +kernel
theorem dX9_digest_65 : decode cX9_digest 65 = .ok (.aload_n 0, 1) := by decide +kernel
theorem dX9_digest_66 : decode cX9_digest 66 = .ok (.iload_n 3, 1) := by decide +kernel
theorem dX9_digest_67 : decode cX9_digest 67 = .ok (.iload 4, 2) := by decide +kernel
theorem dX9_digest_69 : decode cX9_digest 69 = .ok (.invokevirtual 124, 3) := by decide +kernel
theorem dX9_digest_72 : decode cX9_digest 72 = .ok (.i2l, 1) := by decide +kernel
theorem dX9_digest_73 : decode cX9_digest 73 = .ok (.ladd, 1) := by decide +kernel
theorem dX9_digest_74 : decode cX9_digest 74 = .ok (.lstore_n 1, 1) := by decide +kernel
theorem dX9_digest_75 : decode cX9_digest 75 = .ok (.iinc 4 1, 3) := by decide +kernel
theorem dX9_digest_78 : decode cX9_digest 78 = .ok (.goto (-25), 3) := by decide +kernel
theorem dX9_digest_81 : decode cX9_digest 81 = .ok (.iconst 0, 1) := by decide +kernel
theorem dX9_digest_82 : decode cX9_digest 82 = .ok (.istore 4, 2) := by decide +kernel
theorem dX9_digest_84 : decode cX9_digest 84 = .ok (.iload 4, 2) := by decide +kernel
theorem dX9_digest_86 : decode cX9_digest 86 = .ok (.iconst 4, 1) := by decide +kernel
theorem dX9_digest_87 : decode cX9_digest 87 = .ok (.aload_n 0, 1) := by decide +kernel
theorem dX9_digest_88 : decode cX9_digest 88 = .ok (.getfield 7, 3) := by decide +kernel
theorem dX9_digest_91 : decode cX9_digest 91 = .ok (.iconst 0, 1) := by decide +kernel
theorem dX9_digest_92 : decode cX9_digest 92 = .ok (.iaload, 1) := by decide +kernel
theorem dX9_digest_93 : decode cX9_digest 93 = .ok (.imul, 1) := by decide +kernel
theorem dX9_digest_94 : decode cX9_digest 94 = .ok (.if_icmp .ge 30, 3) := by decide +kernel
theorem dX9_digest_97 : decode cX9_digest 97 = .ok (.ldc2_w 170, 3) := by decide +kernel
theorem dX9_digest_100 : decode cX9_digest 100 = .ok (.lload_n 1, 1) := by decide +kernel
theorem dX9_digest_101 : decode cX9_digest 101 = .ok (.lmul, 1) := by decide +kernel
theorem dX9_digest_102 : decode cX9_digest 102 = .ok (.aload_n 0, 1) := by decide +kernel
theorem dX9_digest_103 : decode cX9_digest 103 = .ok (.iload 4, 2) := by decide +kernel
theorem dX9_digest_105 : decode cX9_digest 105 = .ok (.iconst 4, 1) := by decide +kernel
theorem dX9_digest_106 : decode cX9_digest 106 = .ok (.idiv, 1) := by decide +kernel
theorem dX9_digest_107 : decode cX9_digest 107 = .ok (.iload_n 3, 1) := by decide +kernel
theorem dX9_digest_108 : decode cX9_digest 108 = .ok (.iload 4, 2) := by decide +kernel
theorem dX9_digest_110 : decode cX9_digest 110 = .ok (.iconst 4, 1) := by decide +kernel
theorem dX9_digest_111 : decode cX9_digest 111 = .ok (.irem, 1) := by decide +kernel
theorem dX9_digest_112 : decode cX9_digest 112 = .ok (.invokevirtual 121, 3) := by decide +kernel
theorem dX9_digest_115 : decode cX9_digest 115 = .ok (.i2l, 1) := by decide +kernel
theorem dX9_digest_116 : decode cX9_digest 116 = .ok (.ladd, 1) := by decide +kernel
theorem dX9_digest_117 : decode cX9_digest 117 = .ok (.lstore_n 1, 1) := by decide +kernel
theorem dX9_digest_118 : decode cX9_digest 118 = .ok (.iinc 4 1, 3) := by decide +kernel
theorem dX9_digest_121 : decode cX9_digest 121 = .ok (.goto (-37), 3) := by decide +kernel
theorem dX9_digest_124 : decode cX9_digest 124 = .ok (.iinc 3 1, 3) := by decide +kernel
theorem dX9_digest_127 : decode cX9_digest 127 = .ok (.goto (-83), 3) := by decide +kernel
theorem dX9_digest_130 : decode cX9_digest 130 = .ok (.iconst 0, 1) := by decide +kernel
theorem dX9_digest_131 : decode cX9_digest 131 = .ok (.istore_n 3, 1) := by decide +kernel
theorem dX9_digest_132 : decode cX9_digest 132 = .ok (.iload_n 3, 1) := by decide +kernel
theorem dX9_digest_133 : decode cX9_digest 133 = .ok (.iconst 3, 1) := by decide +kernel
theorem dX9_digest_134 : decode cX9_digest 134 = .ok (.aload_n 0, 1) := by decide +kernel
theorem dX9_digest_135 : decode cX9_digest 135 = .ok (.getfield 7, 3) := by decide +kernel
theorem dX9_digest_138 : decode cX9_digest 138 = .ok (.iconst 0, 1) := by decide +kernel
theorem dX9_digest_139 : decode cX9_digest 139 = .ok (.iaload, 1) := by decide +kernel
theorem dX9_digest_140 : decode cX9_digest 140 = .ok (.imul, 1) := by decide +kernel
theorem dX9_digest_141 : decode cX9_digest 141 = .ok (.if_icmp .ge 27, 3) := by decide +kernel
theorem dX9_digest_144 : decode cX9_digest 144 = .ok (.ldc2_w 170, 3) := by decide +kernel
theorem dX9_digest_147 : decode cX9_digest 147 = .ok (.lload_n 1, 1) := by decide +kernel
theorem dX9_digest_148 : decode cX9_digest 148 = .ok (.lmul, 1) := by decide +kernel
theorem dX9_digest_149 : decode cX9_digest 149 = .ok (.aload_n 0, 1) := by decide +kernel
theorem dX9_digest_150 : decode cX9_digest 150 = .ok (.iload_n 3, 1) := by decide +kernel
theorem dX9_digest_151 : decode cX9_digest 151 = .ok (.iconst 3, 1) := by decide +kernel
theorem dX9_digest_152 : decode cX9_digest 152 = .ok (.idiv, 1) := by decide +kernel
theorem dX9_digest_153 : decode cX9_digest 153 = .ok (.iload_n 3, 1) := by decide +kernel
theorem dX9_digest_154 : decode cX9_digest 154 = .ok (.iconst 3, 1) := by decide +kernel
theorem dX9_digest_155 : decode cX9_digest 155 = .ok (.irem, 1) := by decide +kernel
theorem dX9_digest_156 : decode cX9_digest 156 = .ok (.invokevirtual 127, 3) := by decide +kernel
theorem dX9_digest_159 : decode cX9_digest 159 = .ok (.i2l, 1) := by decide +kernel
theorem dX9_digest_160 : decode cX9_digest 160 = .ok (.ladd, 1) := by decide +kernel
theorem dX9_digest_161 : decode cX9_digest 161 = .ok (.lstore_n 1, 1) := by decide +kernel
theorem dX9_digest_162 : decode cX9_digest 162 = .ok (.iinc 3 1, 3) := by decide +kernel
theorem dX9_digest_165 : decode cX9_digest 165 = .ok (.goto (-33), 3) := by decide +kernel
theorem dX9_digest_168 : decode cX9_digest 168 = .ok (.iconst 0, 1) := by decide +kernel
theorem dX9_digest_169 : decode cX9_digest 169 = .ok (.istore_n 3, 1) := by decide +kernel
theorem dX9_digest_170 : decode cX9_digest 170 = .ok (.iload_n 3, 1) := by decide +kernel
theorem dX9_digest_171 : decode cX9_digest 171 = .ok (.bipush 6, 2) := by decide +kernel
theorem dX9_digest_173 : decode cX9_digest 173 = .ok (.aload_n 0, 1) := by decide +kernel
theorem dX9_digest_174 : decode cX9_digest 174 = .ok (.getfield 7, 3) := by decide +kernel
theorem dX9_digest_177 : decode cX9_digest 177 = .ok (.bipush 12, 2) := by decide +kernel
theorem dX9_digest_179 : decode cX9_digest 179 = .ok (.iaload, 1) := by decide +kernel
theorem dX9_digest_180 : decode cX9_digest 180 = .ok (.imul, 1) := by decide +kernel
theorem dX9_digest_181 : decode cX9_digest 181 = .ok (.if_icmp .ge 27, 3) := by decide +kernel
theorem dX9_digest_184 : decode cX9_digest 184 = .ok (.ldc2_w 170, 3) := by decide +kernel
theorem dX9_digest_187 : decode cX9_digest 187 = .ok (.lload_n 1, 1) := by decide +kernel
theorem dX9_digest_188 : decode cX9_digest 188 = .ok (.lmul, 1) := by decide +kernel
theorem dX9_digest_189 : decode cX9_digest 189 = .ok (.aload_n 0, 1) := by decide +kernel
theorem dX9_digest_190 : decode cX9_digest 190 = .ok (.getfield 7, 3) := by decide +kernel
theorem dX9_digest_193 : decode cX9_digest 193 = .ok (.sipush 384, 3) := by decide +kernel
theorem dX9_digest_196 : decode cX9_digest 196 = .ok (.iload_n 3, 1) := by decide +kernel
theorem dX9_digest_197 : decode cX9_digest 197 = .ok (.iadd, 1) := by decide +kernel
theorem dX9_digest_198 : decode cX9_digest 198 = .ok (.iaload, 1) := by decide +kernel
theorem dX9_digest_199 : decode cX9_digest 199 = .ok (.i2l, 1) := by decide +kernel
theorem dX9_digest_200 : decode cX9_digest 200 = .ok (.ladd, 1) := by decide +kernel
theorem dX9_digest_201 : decode cX9_digest 201 = .ok (.lstore_n 1, 1) := by decide +kernel
theorem dX9_digest_202 : decode cX9_digest 202 = .ok (.iinc 3 1, 3) := by decide +kernel
theorem dX9_digest_205 : decode cX9_digest 205 = .ok (.goto (-35), 3) := by decide +kernel
theorem dX9_digest_208 : decode cX9_digest 208 = .ok (.ldc2_w 170, 3) := by decide +kernel
theorem dX9_digest_211 : decode cX9_digest 211 = .ok (.lload_n 1, 1) := by decide +kernel
theorem dX9_digest_212 : decode cX9_digest 212 = .ok (.lmul, 1) := by decide +kernel
theorem dX9_digest_213 : decode cX9_digest 213 = .ok (.aload_n 0, 1) := by decide +kernel
theorem dX9_digest_214 : decode cX9_digest 214 = .ok (.invokevirtual 172, 3) := by decide +kernel
theorem dX9_digest_217 : decode cX9_digest 217 = .ok (.i2l, 1) := by decide +kernel
theorem dX9_digest_218 : decode cX9_digest 218 = .ok (.ladd, 1) := by decide +kernel
theorem dX9_digest_219 : decode cX9_digest 219 = .ok (.lstore_n 1, 1) := by decide +kernel
theorem dX9_digest_220 : decode cX9_digest 220 = .ok (.ldc2_w 170, 3) := by decide +kernel
theorem dX9_digest_223 : decode cX9_digest 223 = .ok (.lload_n 1, 1) := by decide +kernel
theorem dX9_digest_224 : decode cX9_digest 224 = .ok (.lmul, 1) := by decide +kernel
theorem dX9_digest_225 : decode cX9_digest 225 = .ok (.aload_n 0, 1) := by decide +kernel
theorem dX9_digest_226 : decode cX9_digest 226 = .ok (.getfield 33, 3) := by decide +kernel
theorem dX9_digest_229 : decode cX9_digest 229 = .ok (.i2l, 1) := by decide +kernel
theorem dX9_digest_230 : decode cX9_digest 230 = .ok (.ladd, 1) := by decide +kernel
theorem dX9_digest_231 : decode cX9_digest 231 = .ok (.lreturn, 1) := by decide +kernel
