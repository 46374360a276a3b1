theorem dL_cache_153 : decode cL_cache 153 = .ok (.iload_n 1, 1) := by decide +kernel
theorem dL_cache_154 : decode cL_cache 154 = .ok (.invokevirtual 28, 3) := by decide +kernel
theorem dL_cache_157 : decode cL_cache 157 = .ok (.iload_n 2, 1) := by decide +kernel
theorem dL_cache_158 : decode cL_cache 158 = .ok (.aload_n 0, 1) := by decide +kernel
theorem dL_cache_159 : decode cL_cache 159 = .ok (.iconst 1, 1) := by decide +kernel
theorem dL_cache_160 : decode cL_cache 160 = .ok (.invokevirtual 9, 3) := by decide +kernel
theorem dL_cache_163 : decode cL_cache 163 = .ok (.if_icmp .ne 8, 3) := by decide +kernel
theorem dL_cache_166 : decode cL_cache 166 = .ok (.iload 5, 2) := by decide +kernel
theorem dL_cache_168 : decode cL_cache 168 = .ok (.goto 4, 3) := by decide +kernel
theorem dL_cache_171 : decode cL_cache 171 = .ok (.iconst (-1), 1) := by decide +kernel
theorem dL_cache_172 : decode cL_cache 172 = .ok (.if_icmp .ne 7, 3) := by decide +kernel
theorem dL_cache_175 : decode cL_cache 175 = .ok (.iconst 1, 1) := by decide +kernel
theorem dL_cache_176 : decode cL_cache 176 = .ok (.goto 4, 3) := by decide +kernel
theorem dL_cache_179 : decode cL_cache 179 = .ok (.iconst 0, 1) := by decide +kernel
theorem dL_cache_180 : decode cL_cache 180 = .ok (.ireturn, 1) := by decide +kernel
theorem dL_sound_0 : decode cL_sound 0 = .ok (.iconst 1, 1) := by decide +kernel
theorem dL_sound_1 : decode cL_sound 1 = .ok (.istore_n 1, 1) := by decide +kernel
theorem dL_sound_2 : decode cL_sound 2 = .ok (.iconst 0, 1) := by decide +kernel
theorem dL_sound_3 : decode cL_sound 3 = .ok (.istore_n 2, 1) := by decide +kernel
theorem dL_sound_4 : decode cL_sound 4 = .ok (.iconst 0, 1) := by decide +kernel
theorem dL_sound_5 : decode cL_sound 5 = .ok (.istore_n 3, 1) := by decide +kernel
theorem dL_sound_6 : decode cL_sound 6 = .ok (.iload_n 3, 1) := by decide +kernel
theorem dL_sound_7 : decode cL_sound 7 = .ok (.bipush 9, 2) := by decide +kernel
theorem dL_sound_9 : decode cL_sound 9 = .ok (.if_icmp .ge 28, 3) := by decide +kernel
theorem dL_sound_12 : decode cL_sound 12 = .ok (.iload_n 1, 1) := by decide +kernel
theorem dL_sound_13 : decode cL_sound 13 = .ok (.ifCond .eq 24, 3) := by decide +kernel
theorem dL_sound_16 : decode cL_sound 16 = .ok (.aload_n 0, 1) := by decide +kernel
theorem dL_sound_17 : decode cL_sound 17 = .ok (.iload_n 3, 1) := by decide +kernel
theorem dL_sound_18 : decode cL_sound 18 = .ok (.invokestatic 31, 3) := by decide +kernel
theorem dL_sound_21 : decode cL_sound 21 = .ok (.istore_n 1, 1) := by decide +kernel
theorem dL_sound_22 : decode cL_sound 22 = .ok (.iload_n 2, 1) := by decide +kernel
theorem dL_sound_23 : decode cL_sound 23 = .ok (.aload_n 0, 1) := by decide +kernel
theorem dL_sound_24 : decode cL_sound 24 = .ok (.iload_n 3, 1) := by decide +kernel
theorem dL_sound_25 : decode cL_sound 25 = .ok (.iconst 4, 1) := by decide +kernel
theorem dL_sound_26 : decode cL_sound 26 = .ok (.invokevirtual 19, 3) := by decide +kernel
theorem dL_sound_29 : decode cL_sound 29 = .ok (.iadd, 1) := by decide +kernel
theorem dL_sound_30 : decode cL_sound 30 = .ok (.istore_n 2, 1) := by decide +kernel
theorem dL_sound_31 : decode cL_sound 31 = .ok (.iinc 3 1, 3) := by decide +kernel
theorem dL_sound_34 : decode cL_sound 34 = .ok (.goto (-28), 3) := by decide +kernel
theorem dL_sound_37 : decode cL_sound 37 = .ok (.iconst 0, 1) := by decide +kernel
theorem dL_sound_38 : decode cL_sound 38 = .ok (.istore_n 3, 1) := by decide +kernel
theorem dL_sound_39 : decode cL_sound 39 = .ok (.iload_n 3, 1) := by decide +kernel
theorem dL_sound_40 : decode cL_sound 40 = .ok (.aload_n 0, 1) := by decide +kernel
theorem dL_sound_41 : decode cL_sound 41 = .ok (.iconst 0, 1) := by decide +kernel
theorem dL_sound_42 : decode cL_sound 42 = .ok (.invokevirtual 9, 3) := by decide +kernel
theorem dL_sound_45 : decode cL_sound 45 = .ok (.if_icmp .ge 19, 3) := by decide +kernel
theorem dL_sound_48 : decode cL_sound 48 = .ok (.iload_n 1, 1) := by decide +kernel
theorem dL_sound_49 : decode cL_sound 49 = .ok (.ifCond .eq 15, 3) := by decide +kernel
theorem dL_sound_52 : decode cL_sound 52 = .ok (.aload_n 0, 1) := by decide +kernel
theorem dL_sound_53 : decode cL_sound 53 = .ok (.iload_n 3, 1) := by decide +kernel
theorem dL_sound_54 : decode cL_sound 54 = .ok (.invokestatic 34, 3) := by decide +kernel
theorem dL_sound_57 : decode cL_sound 57 = .ok (.istore_n 1, 1) := by decide +kernel
theorem dL_sound_58 : decode cL_sound 58 = .ok (.iinc 3 1, 3) := by decide +kernel
theorem dL_sound_61 : decode cL_sound 61 = .ok (.goto (-22), 3) := by decide +kernel
theorem dL_sound_64 : decode cL_sound 64 = .ok (.aload_n 0, 1) := by decide +kernel
theorem dL_sound_65 : decode cL_sound 65 = .ok (.invokevirtual 37, 3) := by decide +kernel
theorem dL_sound_68 : decode cL_sound 68 = .ok (.istore_n 3, 1) := by decide +kernel
theorem dL_sound_69 : decode cL_sound 69 = .ok (.iload_n 1, 1) := by decide +kernel
theorem dL_sound_70 : decode cL_sound 70 = .ok (.ifCond .eq 65, 3) := by decide +kernel
theorem dL_sound_73 : decode cL_sound 73 = .ok (.iload_n 2, 1) := by decide +kernel
theorem dL_sound_74 : decode cL_sound 74 = .ok (.aload_n 0, 1) := by decide +kernel
theorem dL_sound_75 : decode cL_sound 75 = .ok (.iconst 3, 1) := by decide +kernel
theorem dL_sound_76 : decode cL_sound 76 = .ok (.invokevirtual 9, 3) := by decide +kernel
theorem dL_sound_79 : decode cL_sound 79 = .ok (.if_icmp .ne 56, 3) := by decide +kernel
theorem dL_sound_82 : decode cL_sound 82 = .ok (.iload_n 2, 1) := by decide +kernel
theorem dL_sound_83 : decode cL_sound 83 = .ok (.aload_n 0, 1) := by decide +kernel
theorem dL_sound_84 : decode cL_sound 84 = .ok (.iconst 2, 1) := by decide +kernel
theorem dL_sound_85 : decode cL_sound 85 = .ok (.invokevirtual 9, 3) := by decide +kernel
theorem dL_sound_88 : decode cL_sound 88 = .ok (.if_icmp .gt 47, 3) := by decide +kernel
theorem dL_sound_91 : decode cL_sound 91 = .ok (.iload_n 3, 1) := by decide +kernel
theorem dL_sound_92 : decode cL_sound 92 = .ok (.ifCond .lt 7, 3) := by decide +kernel
theorem dL_sound_95 : decode cL_sound 95 = .ok (.iconst 1, 1) := by decide +kernel
theorem dL_sound_96 : decode cL_sound 96 = .ok (.goto 4, 3) := by decide +kernel
theorem dL_sound_99 : decode cL_sound 99 = .ok (.iconst 0, 1) := by decide +kernel
theorem dL_sound_100 : decode cL_sound 100 = .ok (.iload_n 2, 1) := by decide +kernel
theorem dL_sound_101 : decode cL_sound 101 = .ok (.aload_n 0, 1) := by decide +kernel
theorem dL_sound_102 : decode cL_sound 102 = .ok (.iconst 2, 1) := by decide +kernel
theorem dL_sound_103 : decode cL_sound 103 = .ok (.invokevirtual 9, 3) := by decide +kernel
theorem dL_sound_106 : decode cL_sound 106 = .ok (.if_icmp .ne 7, 3) := by decide +kernel
theorem dL_sound_109 : decode cL_sound 109 = .ok (.iconst 1, 1) := by decide +kernel
theorem dL_sound_110 : decode cL_sound 110 = .ok (.goto 4, 3) := by decide +kernel
theorem dL_sound_113 : decode cL_sound 113 = .ok (.iconst 0, 1) := by decide +kernel
theorem dL_sound_114 : decode cL_sound 114 = .ok (.if_icmp .ne 21, 3) := by decide +kernel
theorem dL_sound_117 : decode cL_sound 117 = .ok (.iload_n 3, 1) := by decide +kernel
theorem dL_sound_118 : decode cL_sound 118 = .ok (.ifCond .lt 13, 3) := by decide +kernel
theorem dL_sound_121 : decode cL_sound 121 = .ok (.aload_n 0, 1) := by decide +kernel
theorem dL_sound_122 : decode cL_sound 122 = .ok (.iload_n 3, 1) := by decide +kernel
theorem dL_sound_123 : decode cL_sound 123 = .ok (.iconst 4, 1) := by decide +kernel
theorem dL_sound_124 : decode cL_sound 124 = .ok (.invokevirtual 19, 3) := by decide +kernel
theorem dL_sound_127 : decode cL_sound 127 = .ok (.iconst 1, 1) := by decide +kernel
theorem dL_sound_128 : decode cL_sound 128 = .ok (.if_icmp .ne 7, 3) := by decide +kernel
theorem dL_sound_131 : decode cL_sound 131 = .ok (.iconst 1, 1) := by decide +kernel
theorem dL_sound_132 : decode cL_sound 132 = .ok (.goto 4, 3) := by decide +kernel
theorem dL_sound_135 : decode cL_sound 135 = .ok (.iconst 0, 1) := by decide +kernel
theorem dL_sound_136 : decode cL_sound 136 = .ok (.ireturn, 1) := by decide +kernel
theorem dL_refuses_0 : decode cL_refuses 0 = .ok (.iload_n 1, 1) := by decide +kernel
theorem dL_refuses_1 : decode cL_refuses 1 = .ok (.bipush 9, 2) := by decide +kernel
theorem dL_refuses_3 : decode cL_refuses 3 = .ok (.irem, 1) := by decide +kernel
theorem dL_refuses_4 : decode cL_refuses 4 = .ok (.istore_n 2, 1) := by decide +kernel
theorem dL_refuses_5 : decode cL_refuses 5 = .ok (.aload_n 0, 1) := by decide +kernel
theorem dL_refuses_6 : decode cL_refuses 6 = .ok (.invokevirtual 41, 3) := by decide +kernel
theorem dL_refuses_9 : decode cL_refuses 9 = .ok (.ifCond .lt 27, 3) := by decide +kernel
theorem dL_refuses_12 : decode cL_refuses 12 = .ok (.aload_n 0, 1) := by decide +kernel
theorem dL_refuses_13 : decode cL_refuses 13 = .ok (.bipush 116, 2) := by decide +kernel
theorem dL_refuses_15 : decode cL_refuses 15 = .ok (.invokevirtual 44, 3) := by decide +kernel
theorem dL_refuses_18 : decode cL_refuses 18 = .ok (.iconst 1, 1) := by decide +kernel
theorem dL_refuses_19 : decode cL_refuses 19 = .ok (.if_icmp .ne 17, 3) := by decide +kernel
theorem dL_refuses_22 : decode cL_refuses 22 = .ok (.aload_n 0, 1) := by decide +kernel
theorem dL_refuses_23 : decode cL_refuses 23 = .ok (.bipush 48, 2) := by decide +kernel
theorem dL_refuses_25 : decode cL_refuses 25 = .ok (.invokevirtual 44, 3) := by decide +kernel
theorem dL_refuses_28 : decode cL_refuses 28 = .ok (.iconst 2, 1) := by decide +kernel
theorem dL_refuses_29 : decode cL_refuses 29 = .ok (.if_icmp .ne 7, 3) := by decide +kernel
theorem dL_refuses_32 : decode cL_refuses 32 = .ok (.iconst 1, 1) := by decide +kernel
theorem dL_refuses_33 : decode cL_refuses 33 = .ok (.goto 4, 3) := by decide +kernel
theorem dL_refuses_36 : decode cL_refuses 36 = .ok (.iconst 0, 1) := by decide +kernel
theorem dL_refuses_37 : decode cL_refuses 37 = .ok (.istore_n 3, 1) := by decide +kernel
theorem dL_refuses_38 : decode cL_refuses 38 = .ok (.iconst 0, 1) := by decide +kernel
theorem dL_refuses_39 : decode cL_refuses 39 = .ok (.istore 4, 2) := by decide +kernel
theorem dL_refuses_41 : decode cL_refuses 41 = .ok (.iload 4, 2) := by decide +kernel
theorem dL_refuses_43 : decode cL_refuses 43 = .ok (.iload_n 2, 1) := by decide +kernel
theorem dL_refuses_44 : decode cL_refuses 44 = .ok (.if_icmp .ge 32, 3) := by decide +kernel
theorem dL_refuses_47 : decode cL_refuses 47 = .ok (.iload_n 3, 1) := by decide +kernel
theorem dL_refuses_48 : decode cL_refuses 48 = .ok (.ifCond .eq 28, 3) := by decide +kernel
theorem dL_refuses_51 : decode cL_refuses 51 = .ok (.aload_n 0, 1) := by decide +kernel
theorem dL_refuses_52 : decode cL_refuses 52 = .ok (.bipush 48, 2) := by decide +kernel
theorem dL_refuses_54 : decode cL_refuses 54 = .ok (.invokevirtual 44, 3) := by decide +kernel
theorem dL_refuses_57 : decode cL_refuses 57 = .ok (.iload 4, 2) := by decide +kernel
theorem dL_refuses_59 : decode cL_refuses 59 = .ok (.iconst 3, 1) := by decide +kernel
theorem dL_refuses_60 : decode cL_refuses 60 = .ok (.iadd, 1) := by decide +kernel
theorem dL_refuses_61 : decode cL_refuses 61 = .ok (.if_icmp .ne 7, 3) := by decide +kernel
theorem dL_refuses_64 : decode cL_refuses 64 = .ok (.iconst 1, 1) := by decide +kernel
theorem dL_refuses_65 : decode cL_refuses 65 = .ok (.goto 4, 3) := by decide +kernel
theorem dL_refuses_68 : decode cL_refuses 68 = .ok (.iconst 0, 1) := by decide +kernel
theorem dL_refuses_69 : decode cL_refuses 69 = .ok (.istore_n 3, 1) := by decide +kernel
theorem dL_refuses_70 : decode cL_refuses 70 = .ok (.iinc 4 1, 3) := by decide +kernel
theorem dL_refuses_73 : decode cL_refuses 73 = .ok (.goto (-32), 3) := by decide +kernel
theorem dL_refuses_76 : decode cL_refuses 76 = .ok (.aload_n 0, 1) := by decide +kernel
theorem dL_refuses_77 : decode cL_refuses 77 = .ok (.invokevirtual 47, 3) := by decide +kernel
theorem dL_refuses_80 : decode cL_refuses 80 = .ok (.lstore 4, 2) := by decide +kernel
theorem dL_refuses_82 : decode cL_refuses 82 = .ok (.iload_n 3, 1) := by decide +kernel
theorem dL_refuses_83 : decode cL_refuses 83 = .ok (.ifCond .eq 46, 3) := by decide +kernel
theorem dL_refuses_86 : decode cL_refuses 86 = .ok (.aload_n 0, 1) := by decide +kernel
theorem dL_refuses_87 : decode cL_refuses 87 = .ok (.invokevirtual 51, 3) := by decide +kernel
theorem dL_refuses_90 : decode cL_refuses 90 = .ok (.iload_n 2, 1) := by decide +kernel
theorem dL_refuses_91 : decode cL_refuses 91 = .ok (.iconst 2, 1) := by decide +kernel
theorem dL_refuses_92 : decode cL_refuses 92 = .ok (.if_icmp .ge 8, 3) := by decide +kernel
theorem dL_refuses_95 : decode cL_refuses 95 = .ok (.bipush (-11), 2) := by decide +kernel
theorem dL_refuses_97 : decode cL_refuses 97 = .ok (.goto 5, 3) := by decide +kernel
theorem dL_refuses_100 : decode cL_refuses 100 = .ok (.bipush (-13), 2) := by decide +kernel
theorem dL_refuses_102 : decode cL_refuses 102 = .ok (.if_icmp .ne 27, 3) := by decide +kernel
theorem dL_refuses_105 : decode cL_refuses 105 = .ok (.aload_n 0, 1) := by decide +kernel
theorem dL_refuses_106 : decode cL_refuses 106 = .ok (.invokevirtual 47, 3) := by decide +kernel
theorem dL_refuses_109 : decode cL_refuses 109 = .ok (.lload 4, 2) := by decide +kernel
theorem dL_refuses_111 : decode cL_refuses 111 = .ok (.lcmp, 1) := by decide +kernel
theorem dL_refuses_112 : decode cL_refuses 112 = .ok (.ifCond .ne 17, 3) := by decide +kernel
theorem dL_refuses_115 : decode cL_refuses 115 = .ok (.aload_n 0, 1) := by decide +kernel
theorem dL_refuses_116 : decode cL_refuses 116 = .ok (.invokevirtual 41, 3) := by decide +kernel
theorem dL_refuses_119 : decode cL_refuses 119 = .ok (.iconst 2, 1) := by decide +kernel
theorem dL_refuses_120 : decode cL_refuses 120 = .ok (.iload_n 2, 1) := by decide +kernel
theorem dL_refuses_121 : decode cL_refuses 121 = .ok (.iadd, 1) := by decide +kernel
theorem dL_refuses_122 : decode cL_refuses 122 = .ok (.if_icmp .ne 7, 3) := by decide +kernel
theorem dL_refuses_125 : decode cL_refuses 125 = .ok (.iconst 1, 1) := by decide +kernel
theorem dL_refuses_126 : decode cL_refuses 126 = .ok (.goto 4, 3) := by decide +kernel
theorem dL_refuses_129 : decode cL_refuses 129 = .ok (.iconst 0, 1) := by decide +kernel
theorem dL_refuses_130 : decode cL_refuses 130 = .ok (.ireturn, 1) := by decide +kernel
theorem dL_acts_0 : decode cL_acts 0 = .ok (.iload_n 1, 1) := by decide +kernel
theorem dL_acts_1 : decode cL_acts 1 = .ok (.iconst 3, 1) := by decide +kernel
theorem dL_acts_2 : decode cL_acts 2 = .ok (.ishr, 1) := by decide +kernel
theorem dL_acts_3 : decode cL_acts 3 = .ok (.aload_n 0, 1) := by decide +kernel
theorem dL_acts_4 : decode cL_acts 4 = .ok (.iconst 0, 1) := by decide +kernel
theorem dL_acts_5 : decode cL_acts 5 = .ok (.invokevirtual 9, 3) := by decide +kernel
theorem dL_acts_8 : decode cL_acts 8 = .ok (.irem, 1) := by decide +kernel
theorem dL_acts_9 : decode cL_acts 9 = .ok (.istore_n 2, 1) := by decide +kernel
theorem dL_acts_10 : decode cL_acts 10 = .ok (.iload_n 1, 1) := by decide +kernel
theorem dL_acts_11 : decode cL_acts 11 = .ok (.bipush 7, 2) := by decide +kernel
theorem dL_acts_13 : decode cL_acts 13 = .ok (.ishr, 1) := by decide +kernel
theorem dL_acts_14 : decode cL_acts 14 = .ok (.bipush 9, 2) := by decide +kernel
theorem dL_acts_16 : decode cL_acts 16 = .ok (.irem, 1) := by decide +kernel
theorem dL_acts_17 : decode cL_acts 17 = .ok (.istore_n 3, 1) := by decide +kernel
theorem dL_acts_18 : decode cL_acts 18 = .ok (.iload_n 1, 1) := by decide +kernel
theorem dL_acts_19 : decode cL_acts 19 = .ok (.bipush 7, 2) := by decide +kernel
theorem dL_acts_21 : decode cL_acts 21 = .ok (.iand, 1) := by decide +kernel
theorem dL_acts_22 : decode cL_acts 22 = .ok (.istore 4, 2) := by decide +kernel
theorem dL_acts_24 : decode cL_acts 24 = .ok (.aload_n 0, 1) := by decide +kernel
theorem dL_acts_25 : decode cL_acts 25 = .ok (.iload_n 2, 1) := by decide +kernel
theorem dL_acts_26 : decode cL_acts 26 = .ok (.iconst 0, 1) := by decide +kernel
theorem dL_acts_27 : decode cL_acts 27 = .ok (.invokevirtual 54, 3) := by decide +kernel
theorem dL_acts_30 : decode cL_acts 30 = .ok (.ifCond .ge 7, 3) := by decide +kernel
theorem dL_acts_33 : decode cL_acts 33 = .ok (.iconst 1, 1) := by decide +kernel
theorem dL_acts_34 : decode cL_acts 34 = .ok (.goto 4, 3) := by decide +kernel
theorem dL_acts_37 : decode cL_acts 37 = .ok (.iconst 0, 1) := by decide +kernel
theorem dL_acts_38 : decode cL_acts 38 = .ok (.istore 5, 2) := by decide +kernel
theorem dL_acts_40 : decode cL_acts 40 = .ok (.iload 4, 2) := by decide +kernel
theorem dL_acts_42 : decode cL_acts 42 = .ok (.iconst 3, 1) := by decide +kernel
theorem dL_acts_43 : decode cL_acts 43 = .ok (.if_icmp .ge 39, 3) := by decide +kernel
theorem dL_acts_46 : decode cL_acts 46 = .ok (.iload 5, 2) := by decide +kernel
theorem dL_acts_48 : decode cL_acts 48 = .ok (.ifCond .eq 34, 3) := by decide +kernel
theorem dL_acts_51 : decode cL_acts 51 = .ok (.aload_n 0, 1) := by decide +kernel
theorem dL_acts_52 : decode cL_acts 52 = .ok (.iload_n 2, 1) := by decide +kernel
theorem dL_acts_53 : decode cL_acts 53 = .ok (.iload_n 3, 1) := by decide +kernel
theorem dL_acts_54 : decode cL_acts 54 = .ok (.invokevirtual 57, 3) := by decide +kernel
theorem dL_acts_57 : decode cL_acts 57 = .ok (.aload_n 0, 1) := by decide +kernel
theorem dL_acts_58 : decode cL_acts 58 = .ok (.iload_n 2, 1) := by decide +kernel
theorem dL_acts_59 : decode cL_acts 59 = .ok (.iload_n 3, 1) := by decide +kernel
theorem dL_acts_60 : decode cL_acts 60 = .ok (.iconst 0, 1) := by decide +kernel
theorem dL_acts_61 : decode cL_acts 61 = .ok (.invokevirtual 15, 3) := by decide +kernel
theorem dL_acts_64 : decode cL_acts 64 = .ok (.ifCond .le 7, 3) := by decide +kernel
theorem dL_acts_67 : decode cL_acts 67 = .ok (.iconst 1, 1) := by decide +kernel
theorem dL_acts_68 : decode cL_acts 68 = .ok (.goto 4, 3) := by decide +kernel
theorem dL_acts_71 : decode cL_acts 71 = .ok (.iconst 0, 1) := by decide +kernel
theorem dL_acts_72 : decode cL_acts 72 = .ok (.if_icmp .ne 7, 3) := by decide +kernel
theorem dL_acts_75 : decode cL_acts 75 = .ok (.iconst 0, 1) := by decide +kernel
theorem dL_acts_76 : decode cL_acts 76 = .ok (.goto 5, 3) := by decide +kernel
theorem dL_acts_79 : decode cL_acts 79 = .ok (.bipush (-2), 2) := by decide +kernel
theorem dL_acts_81 : decode cL_acts 81 = .ok (.ireturn, 1) := by decide +kernel
theorem dL_acts_82 : decode cL_acts 82 = .ok (.iload 4, 2) := by decide +kernel
theorem dL_acts_84 : decode cL_acts 84 = .ok (.iconst 5, 1) := by decide +kernel
theorem dL_acts_85 : decode cL_acts 85 = .ok (.if_icmp .ge 48, 3) := by decide +kernel
theorem dL_acts_88 : decode cL_acts 88 = .ok (.iload 5, 2) := by decide +kernel
theorem dL_acts_90 : decode cL_acts 90 = .ok (.ifCond .eq 43, 3) := by decide +kernel
theorem dL_acts_93 : decode cL_acts 93 = .ok (.aload_n 0, 1) := by decide +kernel
theorem dL_acts_94 : decode cL_acts 94 = .ok (.iload_n 2, 1) := by decide +kernel
theorem dL_acts_95 : decode cL_acts 95 = .ok (.iload_n 3, 1) := by decide +kernel
theorem dL_acts_96 : decode cL_acts 96 = .ok (.iload_n 1, 1) := by decide +kernel
theorem dL_acts_97 : decode cL_acts 97 = .ok (.bipush 11, 2) := by decide +kernel
theorem dL_acts_99 : decode cL_acts 99 = .ok (.ishr, 1) := by decide +kernel
theorem dL_acts_100 : decode cL_acts 100 = .ok (.sipush 1000, 3) := by decide +kernel
theorem dL_acts_103 : decode cL_acts 103 = .ok (.irem, 1) := by decide +kernel
theorem dL_acts_104 : decode cL_acts 104 = .ok (.invokevirtual 60, 3) := by decide +kernel
theorem dL_acts_107 : decode cL_acts 107 = .ok (.aload_n 0, 1) := by decide +kernel
theorem dL_acts_108 : decode cL_acts 108 = .ok (.iload_n 2, 1) := by decide +kernel
theorem dL_acts_109 : decode cL_acts 109 = .ok (.iload_n 3, 1) := by decide +kernel
theorem dL_acts_110 : decode cL_acts 110 = .ok (.iconst 0, 1) := by decide +kernel
theorem dL_acts_111 : decode cL_acts 111 = .ok (.invokevirtual 15, 3) := by decide +kernel
theorem dL_acts_114 : decode cL_acts 114 = .ok (.iconst 2, 1) := by decide +kernel
theorem dL_acts_115 : decode cL_acts 115 = .ok (.if_icmp .ne 7, 3) := by decide +kernel
theorem dL_acts_118 : decode cL_acts 118 = .ok (.iconst 1, 1) := by decide +kernel
theorem dL_acts_119 : decode cL_acts 119 = .ok (.goto 4, 3) := by decide +kernel
theorem dL_acts_122 : decode cL_acts 122 = .ok (.iconst 0, 1) := by decide +kernel
theorem dL_acts_123 : decode cL_acts 123 = .ok (.if_icmp .ne 7, 3) := by decide +kernel
theorem dL_acts_126 : decode cL_acts 126 = .ok (.iconst 0, 1) := by decide +kernel
theorem dL_acts_127 : decode cL_acts 127 = .ok (.goto 5, 3) := by decide +kernel
theorem dL_acts_130 : decode cL_acts 130 = .ok (.bipush (-2), 2) := by decide +kernel
theorem dL_acts_132 : decode cL_acts 132 = .ok (.ireturn, 1) := by decide +kernel
theorem dL_acts_133 : decode cL_acts 133 = .ok (.iload 4, 2) := by decide +kernel
theorem dL_acts_135 : decode cL_acts 135 = .ok (.bipush 6, 2) := by decide +kernel
theorem dL_acts_137 : decode cL_acts 137 = .ok (.if_icmp .ne 52, 3) := by decide +kernel
theorem dL_acts_140 : decode cL_acts 140 = .ok (.aload_n 0, 1) := by decide +kernel
theorem dL_acts_141 : decode cL_acts 141 = .ok (.iload_n 2, 1) := by decide +kernel
theorem dL_acts_142 : decode cL_acts 142 = .ok (.iload_n 3, 1) := by decide +kernel
theorem dL_acts_143 : decode cL_acts 143 = .ok (.iconst 0, 1) := by decide +kernel
theorem dL_acts_144 : decode cL_acts 144 = .ok (.invokevirtual 15, 3) := by decide +kernel
theorem dL_acts_147 : decode cL_acts 147 = .ok (.ifCond .le 42, 3) := by decide +kernel
theorem dL_acts_150 : decode cL_acts 150 = .ok (.aload_n 0, 1) := by decide +kernel
theorem dL_acts_151 : decode cL_acts 151 = .ok (.iload_n 2, 1) := by decide +kernel
theorem dL_acts_152 : decode cL_acts 152 = .ok (.iload_n 3, 1) := by decide +kernel
theorem dL_acts_153 : decode cL_acts 153 = .ok (.iconst 0, 1) := by decide +kernel
theorem dL_acts_154 : decode cL_acts 154 = .ok (.invokevirtual 15, 3) := by decide +kernel
theorem dL_acts_157 : decode cL_acts 157 = .ok (.iconst 1, 1) := by decide +kernel
theorem dL_acts_158 : decode cL_acts 158 = .ok (.isub, 1) := by decide +kernel
theorem dL_acts_159 : decode cL_acts 159 = .ok (.istore 6, 2) := by decide +kernel
theorem dL_acts_161 : decode cL_acts 161 = .ok (.aload_n 0, 1) := by decide +kernel
theorem dL_acts_162 : decode cL_acts 162 = .ok (.iload_n 2, 1) := by decide +kernel
theorem dL_acts_163 : decode cL_acts 163 = .ok (.iload_n 3, 1) := by decide +kernel
theorem dL_acts_164 : decode cL_acts 164 = .ok (.invokevirtual 63, 3) := by decide +kernel
theorem dL_acts_167 : decode cL_acts 167 = .ok (.iload 6, 2) := by decide +kernel
theorem dL_acts_169 : decode cL_acts 169 = .ok (.if_icmp .ne 17, 3) := by decide +kernel
theorem dL_acts_172 : decode cL_acts 172 = .ok (.aload_n 0, 1) := by decide +kernel
theorem dL_acts_173 : decode cL_acts 173 = .ok (.iload_n 2, 1) := by decide +kernel
theorem dL_acts_174 : decode cL_acts 174 = .ok (.iload_n 3, 1) := by decide +kernel
theorem dL_acts_175 : decode cL_acts 175 = .ok (.iconst 0, 1) := by decide +kernel
theorem dL_acts_176 : decode cL_acts 176 = .ok (.invokevirtual 15, 3) := by decide +kernel
theorem dL_acts_179 : decode cL_acts 179 = .ok (.ifCond .ne 7, 3) := by decide +kernel
theorem dL_acts_182 : decode cL_acts 182 = .ok (.iconst 0, 1) := by decide +kernel
theorem dL_acts_183 : decode cL_acts 183 = .ok (.goto 5, 3) := by decide +kernel
theorem dL_acts_186 : decode cL_acts 186 = .ok (.bipush (-2), 2) := by decide +kernel
theorem dL_acts_188 : decode cL_acts 188 = .ok (.ireturn, 1) := by decide +kernel
theorem dL_acts_189 : decode cL_acts 189 = .ok (.iload 4, 2) := by decide +kernel
theorem dL_acts_191 : decode cL_acts 191 = .ok (.bipush 7, 2) := by decide +kernel
theorem dL_acts_193 : decode cL_acts 193 = .ok (.if_icmp .ne 76, 3) := by decide +kernel
theorem dL_acts_196 : decode cL_acts 196 = .ok (.aload_n 0, 1) := by decide +kernel
theorem dL_acts_197 : decode cL_acts 197 = .ok (.iload_n 3, 1) := by decide +kernel
theorem dL_acts_198 : decode cL_acts 198 = .ok (.iconst 4, 1) := by decide +kernel
theorem dL_acts_199 : decode cL_acts 199 = .ok (.invokevirtual 19, 3) := by decide +kernel
theorem dL_acts_202 : decode cL_acts 202 = .ok (.iconst 1, 1) := by decide +kernel
theorem dL_acts_203 : decode cL_acts 203 = .ok (.if_icmp .ne 66, 3) := by decide +kernel
theorem dL_acts_206 : decode cL_acts 206 = .ok (.aload_n 0, 1) := by decide +kernel
theorem dL_acts_207 : decode cL_acts 207 = .ok (.iload_n 3, 1) := by decide +kernel
theorem dL_acts_208 : decode cL_acts 208 = .ok (.iconst 3, 1) := by decide +kernel
theorem dL_acts_209 : decode cL_acts 209 = .ok (.invokevirtual 19, 3) := by decide +kernel
theorem dL_acts_212 : decode cL_acts 212 = .ok (.invokestatic 23, 3) := by decide +kernel
theorem dL_acts_215 : decode cL_acts 215 = .ok (.aload_n 0, 1) := by decide +kernel
theorem dL_acts_216 : decode cL_acts 216 = .ok (.iload_n 3, 1) := by decide +kernel
theorem dL_acts_217 : decode cL_acts 217 = .ok (.iconst 2, 1) := by decide +kernel
theorem dL_acts_218 : decode cL_acts 218 = .ok (.invokevirtual 19, 3) := by decide +kernel
theorem dL_acts_221 : decode cL_acts 221 = .ok (.ifCond .lt 7, 3) := by decide +kernel
theorem dL_acts_224 : decode cL_acts 224 = .ok (.iconst 1, 1) := by decide +kernel
theorem dL_acts_225 : decode cL_acts 225 = .ok (.goto 4, 3) := by decide +kernel
theorem dL_acts_228 : decode cL_acts 228 = .ok (.iconst 0, 1) := by decide +kernel
theorem dL_acts_229 : decode cL_acts 229 = .ok (.iadd, 1) := by decide +kernel
