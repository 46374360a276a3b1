theorem dX4_takeOver_49 : decode cX4_takeOver 49 = .ok (.invokevirtual 100, 3) := by decide +kernel
theorem dX4_takeOver_52 : decode cX4_takeOver 52 = .ok (.aload_n 0, 1) := by decide +kernel
theorem dX4_takeOver_53 : decode cX4_takeOver 53 = .ok (.getfield 35, 3) := by decide +kernel
theorem dX4_takeOver_56 : decode cX4_takeOver 56 = .ok (.aload_n 1, 1) := by decide +kernel
theorem dX4_takeOver_57 : decode cX4_takeOver 57 = .ok (.getfield 35, 3) := by decide +kernel
theorem dX4_takeOver_60 : decode cX4_takeOver 60 = .ok (.invokevirtual 103, 3) := by decide +kernel
theorem dX4_takeOver_63 : decode cX4_takeOver 63 = .ok (.aload_n 0, 1) := by decide +kernel
theorem dX4_takeOver_64 : decode cX4_takeOver 64 = .ok (.getfield 42, 3) := by decide +kernel
theorem dX4_takeOver_67 : decode cX4_takeOver 67 = .ok (.aload_n 1, 1) := by decide +kernel
theorem dX4_takeOver_68 : decode cX4_takeOver 68 = .ok (.getfield 42, 3) := by decide +kernel
theorem dX4_takeOver_71 : decode cX4_takeOver 71 = .ok (.invokevirtual 106, 3) := by decide +kernel
theorem dX4_takeOver_74 : decode cX4_takeOver 74 = .ok (.aload_n 0, 1) := by decide +kernel
theorem dX4_takeOver_75 : decode cX4_takeOver 75 = .ok (.aload_n 1, 1) := by decide +kernel
theorem dX4_takeOver_76 : decode cX4_takeOver 76 = .ok (.getfield 66, 3) := by decide +kernel
theorem dX4_takeOver_79 : decode cX4_takeOver 79 = .ok (.putfield 66, 3) := by decide +kernel
theorem dX4_takeOver_82 : decode cX4_takeOver 82 = .ok (.aload_n 0, 1) := by decide +kernel
theorem dX4_takeOver_83 : decode cX4_takeOver 83 = .ok (.aload_n 1, 1) := by decide +kernel
theorem dX4_takeOver_84 : decode cX4_takeOver 84 = .ok (.getfield 69, 3) := by decide +kernel
theorem dX4_takeOver_87 : decode cX4_takeOver 87 = .ok (.putfield 69, 3) := by decide +kernel
theorem dX4_takeOver_90 : decode cX4_takeOver 90 = .ok (.aload_n 0, 1) := by decide +kernel
theorem dX4_takeOver_91 : decode cX4_takeOver 91 = .ok (.aload_n 1, 1) := by decide +kernel
theorem dX4_takeOver_92 : decode cX4_takeOver 92 = .ok (.getfield 72, 3) := by decide +kernel
theorem dX4_takeOver_95 : decode cX4_takeOver 95 = .ok (.putfield 72, 3) := by decide +kernel
theorem dX4_takeOver_98 : decode cX4_takeOver 98 = .ok (.aload_n 0, 1) := by decide +kernel
theorem dX4_takeOver_99 : decode cX4_takeOver 99 = .ok (.aload_n 1, 1) := by decide +kernel
theorem dX4_takeOver_100 : decode cX4_takeOver 100 = .ok (.getfield 75, 3) := by decide +kernel
theorem dX4_takeOver_103 : decode cX4_takeOver 103 = .ok (.putfield 75, 3) := by decide +kernel
theorem dX4_takeOver_106 : decode cX4_takeOver 106 = .ok (.aload_n 0, 1) := by decide +kernel
theorem dX4_takeOver_107 : decode cX4_takeOver 107 = .ok (.aload_n 1, 1) := by decide +kernel
theorem dX4_takeOver_108 : decode cX4_takeOver 108 = .ok (.getfield 78, 3) := by decide +kernel
theorem dX4_takeOver_111 : decode cX4_takeOver 111 = .ok (.putfield 78, 3) := by decide +kernel
theorem dX4_takeOver_114 : decode cX4_takeOver 114 = .ok (.aload_n 0, 1) := by decide +kernel
theorem dX4_takeOver_115 : decode cX4_takeOver 115 = .ok (.aload_n 1, 1) := by decide +kernel
theorem dX4_takeOver_116 : decode cX4_takeOver 116 = .ok (.getfield 81, 3) := by decide +kernel
theorem dX4_takeOver_119 : decode cX4_takeOver 119 = .ok (.putfield 81, 3) := by decide +kernel
theorem dX4_takeOver_122 : decode cX4_takeOver 122 = .ok (.aload_n 0, 1) := by decide +kernel
theorem dX4_takeOver_123 : decode cX4_takeOver 123 = .ok (.aload_n 1, 1) := by decide +kernel
theorem dX4_takeOver_124 : decode cX4_takeOver 124 = .ok (.getfield 84, 3) := by decide +kernel
theorem dX4_takeOver_127 : decode cX4_takeOver 127 = .ok (.putfield 84, 3) := by decide +kernel
theorem dX4_takeOver_130 : decode cX4_takeOver 130 = .ok (.aload_n 0, 1) := by decide +kernel
theorem dX4_takeOver_131 : decode cX4_takeOver 131 = .ok (.aload_n 1, 1) := by decide +kernel
theorem dX4_takeOver_132 : decode cX4_takeOver 132 = .ok (.getfield 87, 3) := by decide +kernel
theorem dX4_takeOver_135 : decode cX4_takeOver 135 = .ok (.putfield 87, 3) := by decide +kernel
theorem dX4_takeOver_138 : decode cX4_takeOver 138 = .ok (.return_, 1) := by decide +kernel
theorem dX4_hasTimeFor_0 : decode cX4_hasTimeFor 0 = .ok (.iload_n 1, 1) := by decide +kernel
theorem dX4_hasTimeFor_1 : decode cX4_hasTimeFor 1 = .ok (.ldc 109, 2) := by decide +kernel
theorem dX4_hasTimeFor_3 : decode cX4_hasTimeFor 3 = .ok (.aload_n 0, 1) := by decide +kernel
theorem dX4_hasTimeFor_4 : decode cX4_hasTimeFor 4 = .ok (.getfield 72, 3) := by decide +kernel
theorem dX4_hasTimeFor_7 : decode cX4_hasTimeFor 7 = .ok (.isub, 1) := by decide +kernel
theorem dX4_hasTimeFor_8 : decode cX4_hasTimeFor 8 = .ok (.if_icmp .gt 7, 3) := by decide +kernel
theorem dX4_hasTimeFor_11 : decode cX4_hasTimeFor 11 = .ok (.iconst 1, 1) := by decide +kernel
theorem dX4_hasTimeFor_12 : decode cX4_hasTimeFor 12 = .ok (.goto 4, 3) := by decide +kernel
theorem dX4_hasTimeFor_15 : decode cX4_hasTimeFor 15 = .ok (.iconst 0, 1) := by decide +kernel
theorem dX4_hasTimeFor_16 : decode cX4_hasTimeFor 16 = .ok (.ireturn, 1) := by decide +kernel
theorem dX4_letPass_0 : decode cX4_letPass 0 = .ok (.aload_n 0, 1) := by decide +kernel
theorem dX4_letPass_1 : decode cX4_letPass 1 = .ok (.getfield 72, 3) := by decide +kernel
theorem dX4_letPass_4 : decode cX4_letPass 4 = .ok (.iload_n 1, 1) := by decide +kernel
theorem dX4_letPass_5 : decode cX4_letPass 5 = .ok (.iadd, 1) := by decide +kernel
theorem dX4_letPass_6 : decode cX4_letPass 6 = .ok (.istore_n 2, 1) := by decide +kernel
theorem dX4_letPass_7 : decode cX4_letPass 7 = .ok (.iconst 0, 1) := by decide +kernel
theorem dX4_letPass_8 : decode cX4_letPass 8 = .ok (.istore_n 3, 1) := by decide +kernel
theorem dX4_letPass_9 : decode cX4_letPass 9 = .ok (.iconst 0, 1) := by decide +kernel
theorem dX4_letPass_10 : decode cX4_letPass 10 = .ok (.istore 4, 2) := by decide +kernel
theorem dX4_letPass_12 : decode cX4_letPass 12 = .ok (.iload 4, 2) := by decide +kernel
theorem dX4_letPass_14 : decode cX4_letPass 14 = .ok (.iload_n 1, 1) := by decide +kernel
theorem dX4_letPass_15 : decode cX4_letPass 15 = .ok (.if_icmp .ge 26, 3) := by decide +kernel
theorem dX4_letPass_18 : decode cX4_letPass 18 = .ok (.aload_n 0, 1) := by decide +kernel
theorem dX4_letPass_19 : decode cX4_letPass 19 = .ok (.getfield 35, 3) := by decide +kernel
theorem dX4_letPass_22 : decode cX4_letPass 22 = .ok (.invokevirtual 110, 3) := by decide +kernel
theorem dX4_letPass_25 : decode cX4_letPass 25 = .ok (.ifCond .le 16, 3) := by decide +kernel
theorem dX4_letPass_28 : decode cX4_letPass 28 = .ok (.iload_n 3, 1) := by decide +kernel
theorem dX4_letPass_29 : decode cX4_letPass 29 = .ok (.aload_n 0, 1) := by decide +kernel
theorem dX4_letPass_30 : decode cX4_letPass 30 = .ok (.invokevirtual 113, 3) := by decide +kernel
theorem dX4_letPass_33 : decode cX4_letPass 33 = .ok (.iadd, 1) := by decide +kernel
theorem dX4_letPass_34 : decode cX4_letPass 34 = .ok (.istore_n 3, 1) := by decide +kernel
theorem dX4_letPass_35 : decode cX4_letPass 35 = .ok (.iinc 4 1, 3) := by decide +kernel
theorem dX4_letPass_38 : decode cX4_letPass 38 = .ok (.goto (-26), 3) := by decide +kernel
theorem dX4_letPass_41 : decode cX4_letPass 41 = .ok (.aload_n 0, 1) := by decide +kernel
theorem dX4_letPass_42 : decode cX4_letPass 42 = .ok (.iload_n 2, 1) := by decide +kernel
theorem dX4_letPass_43 : decode cX4_letPass 43 = .ok (.putfield 72, 3) := by decide +kernel
theorem dX4_letPass_46 : decode cX4_letPass 46 = .ok (.iload_n 3, 1) := by decide +kernel
theorem dX4_letPass_47 : decode cX4_letPass 47 = .ok (.ireturn, 1) := by decide +kernel
theorem dX4_tick_0 : decode cX4_tick 0 = .ok (.aload_n 0, 1) := by decide +kernel
theorem dX4_tick_1 : decode cX4_tick 1 = .ok (.getfield 66, 3) := by decide +kernel
theorem dX4_tick_4 : decode cX4_tick 4 = .ok (.ifCond .le 15, 3) := by decide +kernel
theorem dX4_tick_7 : decode cX4_tick 7 = .ok (.aload_n 0, 1) := by decide +kernel
theorem dX4_tick_8 : decode cX4_tick 8 = .ok (.getfield 72, 3) := by decide +kernel
theorem dX4_tick_11 : decode cX4_tick 11 = .ok (.aload_n 0, 1) := by decide +kernel
theorem dX4_tick_12 : decode cX4_tick 12 = .ok (.getfield 66, 3) := by decide +kernel
theorem dX4_tick_15 : decode cX4_tick 15 = .ok (.irem, 1) := by decide +kernel
theorem dX4_tick_16 : decode cX4_tick 16 = .ok (.goto 4, 3) := by decide +kernel
theorem dX4_tick_19 : decode cX4_tick 19 = .ok (.iconst 0, 1) := by decide +kernel
theorem dX4_tick_20 : decode cX4_tick 20 = .ok (.istore_n 1, 1) := by decide +kernel
theorem dX4_tick_21 : decode cX4_tick 21 = .ok (.iconst 0, 1) := by decide +kernel
theorem dX4_tick_22 : decode cX4_tick 22 = .ok (.istore_n 2, 1) := by decide +kernel
theorem dX4_tick_23 : decode cX4_tick 23 = .ok (.iconst 0, 1) := by decide +kernel
theorem dX4_tick_24 : decode cX4_tick 24 = .ok (.istore_n 3, 1) := by decide +kernel
theorem dX4_tick_25 : decode cX4_tick 25 = .ok (.iconst 0, 1) := by decide +kernel
theorem dX4_tick_26 : decode cX4_tick 26 = .ok (.istore 4, 2) := by decide +kernel
theorem dX4_tick_28 : decode cX4_tick 28 = .ok (.iload 4, 2) := by decide +kernel
theorem dX4_tick_30 : decode cX4_tick 30 = .ok (.aload_n 0, 1) := by decide +kernel
theorem dX4_tick_31 : decode cX4_tick 31 = .ok (.getfield 66, 3) := by decide +kernel
theorem dX4_tick_34 : decode cX4_tick 34 = .ok (.if_icmp .ge 150, 3) := by decide +kernel
theorem dX4_tick_37 : decode cX4_tick 37 = .ok (.iload_n 1, 1) := by decide +kernel
theorem dX4_tick_38 : decode cX4_tick 38 = .ok (.iload 4, 2) := by decide +kernel
theorem dX4_tick_40 : decode cX4_tick 40 = .ok (.iadd, 1) := by decide +kernel
theorem dX4_tick_41 : decode cX4_tick 41 = .ok (.aload_n 0, 1) := by decide +kernel
theorem dX4_tick_42 : decode cX4_tick 42 = .ok (.getfield 66, 3) := by decide +kernel
theorem dX4_tick_45 : decode cX4_tick 45 = .ok (.if_icmp .ge 10, 3) := by decide +kernel
theorem dX4_tick_48 : decode cX4_tick 48 = .ok (.iload_n 1, 1) := by decide +kernel
theorem dX4_tick_49 : decode cX4_tick 49 = .ok (.iload 4, 2) := by decide +kernel
theorem dX4_tick_51 : decode cX4_tick 51 = .ok (.iadd, 1) := by decide +kernel
theorem dX4_tick_52 : decode cX4_tick 52 = .ok (.goto 12, 3) := by decide +kernel
theorem dX4_tick_55 : decode cX4_tick 55 = .ok (.iload_n 1, 1) := by decide +kernel
theorem dX4_tick_56 : decode cX4_tick 56 = .ok (.iload 4, 2) := by decide +kernel
theorem dX4_tick_58 : decode cX4_tick 58 = .ok (.iadd, 1) := by decide +kernel
theorem dX4_tick_59 : decode cX4_tick 59 = .ok (.aload_n 0, 1) := by decide +kernel
theorem dX4_tick_60 : decode cX4_tick 60 = .ok (.getfield 66, 3) := by decide +kernel
theorem dX4_tick_63 : decode cX4_tick 63 = .ok (.isub, 1) := by decide +kernel
theorem dX4_tick_64 : decode cX4_tick 64 = .ok (.istore 5, 2) := by decide +kernel
theorem dX4_tick_66 : decode cX4_tick 66 = .ok (.aload_n 0, 1) := by decide +kernel
theorem dX4_tick_67 : decode cX4_tick 67 = .ok (.getfield 35, 3) := by decide +kernel
theorem dX4_tick_70 : decode cX4_tick 70 = .ok (.iload 5, 2) := by decide +kernel
theorem dX4_tick_72 : decode cX4_tick 72 = .ok (.invokevirtual 116, 3) := by decide +kernel
theorem dX4_tick_75 : decode cX4_tick 75 = .ok (.ifCond .ne 6, 3) := by decide +kernel
theorem dX4_tick_78 : decode cX4_tick 78 = .ok (.goto 100, 3) := by decide +kernel
theorem dX4_tick_81 : decode cX4_tick 81 = .ok (.aload_n 0, 1) := by decide +kernel
theorem dX4_tick_82 : decode cX4_tick 82 = .ok (.getfield 35, 3) := by decide +kernel
theorem dX4_tick_85 : decode cX4_tick 85 = .ok (.getfield 120, 3) := by decide +kernel
theorem dX4_tick_88 : decode cX4_tick 88 = .ok (.iload 5, 2) := by decide +kernel
theorem dX4_tick_90 : decode cX4_tick 90 = .ok (.iaload, 1) := by decide +kernel
theorem dX4_tick_91 : decode cX4_tick 91 = .ok (.istore 6, 2) := by decide +kernel
theorem dX4_tick_93 : decode cX4_tick 93 = .ok (.aload_n 0, 1) := by decide +kernel
theorem dX4_tick_94 : decode cX4_tick 94 = .ok (.iload 5, 2) := by decide +kernel
theorem dX4_tick_96 : decode cX4_tick 96 = .ok (.iload 6, 2) := by decide +kernel
theorem dX4_tick_98 : decode cX4_tick 98 = .ok (.aload_n 0, 1) := by decide +kernel
theorem dX4_tick_99 : decode cX4_tick 99 = .ok (.getfield 35, 3) := by decide +kernel
theorem dX4_tick_102 : decode cX4_tick 102 = .ok (.iload 5, 2) := by decide +kernel
theorem dX4_tick_104 : decode cX4_tick 104 = .ok (.invokevirtual 123, 3) := by decide +kernel
theorem dX4_tick_107 : decode cX4_tick 107 = .ok (.invokevirtual 126, 3) := by decide +kernel
theorem dX4_tick_110 : decode cX4_tick 110 = .ok (.istore 7, 2) := by decide +kernel
theorem dX4_tick_112 : decode cX4_tick 112 = .ok (.iload 7, 2) := by decide +kernel
theorem dX4_tick_114 : decode cX4_tick 114 = .ok (.ifCond .ne 39, 3) := by decide +kernel
theorem dX4_tick_117 : decode cX4_tick 117 = .ok (.iload_n 2, 1) := by decide +kernel
theorem dX4_tick_118 : decode cX4_tick 118 = .ok (.iload 6, 2) := by decide +kernel
theorem dX4_tick_120 : decode cX4_tick 120 = .ok (.ishr, 1) := by decide +kernel
theorem dX4_tick_121 : decode cX4_tick 121 = .ok (.iconst 1, 1) := by decide +kernel
theorem dX4_tick_122 : decode cX4_tick 122 = .ok (.iand, 1) := by decide +kernel
theorem dX4_tick_123 : decode cX4_tick 123 = .ok (.ifCond .eq 30, 3) := by decide +kernel
theorem dX4_tick_126 : decode cX4_tick 126 = .ok (.aload_n 0, 1) := by decide +kernel
theorem dX4_tick_127 : decode cX4_tick 127 = .ok (.getfield 35, 3) := by decide +kernel
theorem dX4_tick_130 : decode cX4_tick 130 = .ok (.getfield 130, 3) := by decide +kernel
theorem dX4_tick_133 : decode cX4_tick 133 = .ok (.iload 5, 2) := by decide +kernel
theorem dX4_tick_135 : decode cX4_tick 135 = .ok (.dup2, 1) := by decide +kernel
theorem dX4_tick_136 : decode cX4_tick 136 = .ok (.iaload, 1) := by decide +kernel
theorem dX4_tick_137 : decode cX4_tick 137 = .ok (.iconst 1, 1) := by decide +kernel
theorem dX4_tick_138 : decode cX4_tick 138 = .ok (.iadd, 1) := by decide +kernel
theorem dX4_tick_139 : decode cX4_tick 139 = .ok (.iastore, 1) := by decide +kernel
theorem dX4_tick_140 : decode cX4_tick 140 = .ok (.aload_n 0, 1) := by decide +kernel
theorem dX4_tick_141 : decode cX4_tick 141 = .ok (.dup, 1) := by decide +kernel
theorem dX4_tick_142 : decode cX4_tick 142 = .ok (.getfield 84, 3) := by decide +kernel
theorem dX4_tick_145 : decode cX4_tick 145 = .ok (.iconst 1, 1) := by decide +kernel
theorem dX4_tick_146 : decode cX4_tick 146 = .ok (.iadd, 1) := by decide +kernel
theorem dX4_tick_147 : decode cX4_tick 147 = .ok (.putfield 84, 3) := by decide +kernel
theorem dX4_tick_150 : decode cX4_tick 150 = .ok (.goto 28, 3) := by decide +kernel
theorem dX4_tick_153 : decode cX4_tick 153 = .ok (.iload 7, 2) := by decide +kernel
theorem dX4_tick_155 : decode cX4_tick 155 = .ok (.ifCond .ne 10, 3) := by decide +kernel
theorem dX4_tick_158 : decode cX4_tick 158 = .ok (.iload_n 2, 1) := by decide +kernel
theorem dX4_tick_159 : decode cX4_tick 159 = .ok (.iconst 1, 1) := by decide +kernel
theorem dX4_tick_160 : decode cX4_tick 160 = .ok (.iload 6, 2) := by decide +kernel
theorem dX4_tick_162 : decode cX4_tick 162 = .ok (.ishl, 1) := by decide +kernel
theorem dX4_tick_163 : decode cX4_tick 163 = .ok (.ior, 1) := by decide +kernel
theorem dX4_tick_164 : decode cX4_tick 164 = .ok (.istore_n 2, 1) := by decide +kernel
theorem dX4_tick_165 : decode cX4_tick 165 = .ok (.aload_n 0, 1) := by decide +kernel
theorem dX4_tick_166 : decode cX4_tick 166 = .ok (.iload 5, 2) := by decide +kernel
theorem dX4_tick_168 : decode cX4_tick 168 = .ok (.iload 6, 2) := by decide +kernel
theorem dX4_tick_170 : decode cX4_tick 170 = .ok (.iload 7, 2) := by decide +kernel
theorem dX4_tick_172 : decode cX4_tick 172 = .ok (.invokevirtual 133, 3) := by decide +kernel
theorem dX4_tick_175 : decode cX4_tick 175 = .ok (.iinc 3 1, 3) := by decide +kernel
theorem dX4_tick_178 : decode cX4_tick 178 = .ok (.iinc 4 1, 3) := by decide +kernel
theorem dX4_tick_181 : decode cX4_tick 181 = .ok (.goto (-153), 3) := by decide +kernel
theorem dX4_tick_184 : decode cX4_tick 184 = .ok (.aload_n 0, 1) := by decide +kernel
theorem dX4_tick_185 : decode cX4_tick 185 = .ok (.dup, 1) := by decide +kernel
theorem dX4_tick_186 : decode cX4_tick 186 = .ok (.getfield 72, 3) := by decide +kernel
theorem dX4_tick_189 : decode cX4_tick 189 = .ok (.iconst 1, 1) := by decide +kernel
theorem dX4_tick_190 : decode cX4_tick 190 = .ok (.iadd, 1) := by decide +kernel
theorem dX4_tick_191 : decode cX4_tick 191 = .ok (.putfield 72, 3) := by decide +kernel
theorem dX4_tick_194 : decode cX4_tick 194 = .ok (.iload_n 3, 1) := by decide +kernel
theorem dX4_tick_195 : decode cX4_tick 195 = .ok (.ireturn, 1) := by decide +kernel
theorem dX4_isHit_0 : decode cX4_isHit 0 = .ok (.aload_n 0, 1) := by decide +kernel
theorem dX4_isHit_1 : decode cX4_isHit 1 = .ok (.getfield 21, 3) := by decide +kernel
theorem dX4_isHit_4 : decode cX4_isHit 4 = .ok (.iload_n 1, 1) := by decide +kernel
theorem dX4_isHit_5 : decode cX4_isHit 5 = .ok (.iload_n 2, 1) := by decide +kernel
theorem dX4_isHit_6 : decode cX4_isHit 6 = .ok (.invokevirtual 137, 3) := by decide +kernel
theorem dX4_isHit_9 : decode cX4_isHit 9 = .ok (.istore 4, 2) := by decide +kernel
theorem dX4_isHit_11 : decode cX4_isHit 11 = .ok (.iload_n 3, 1) := by decide +kernel
theorem dX4_isHit_12 : decode cX4_isHit 12 = .ok (.ifCond .eq 17, 3) := by decide +kernel
theorem dX4_isHit_15 : decode cX4_isHit 15 = .ok (.iload 4, 2) := by decide +kernel
theorem dX4_isHit_17 : decode cX4_isHit 17 = .ok (.iconst 2, 1) := by decide +kernel
theorem dX4_isHit_18 : decode cX4_isHit 18 = .ok (.if_icmp .ne 7, 3) := by decide +kernel
theorem dX4_isHit_21 : decode cX4_isHit 21 = .ok (.iconst 1, 1) := by decide +kernel
theorem dX4_isHit_22 : decode cX4_isHit 22 = .ok (.goto 17, 3) := by decide +kernel
theorem dX4_isHit_25 : decode cX4_isHit 25 = .ok (.iconst 0, 1) := by decide +kernel
theorem dX4_isHit_26 : decode cX4_isHit 26 = .ok (.goto 13, 3) := by decide +kernel
theorem dX4_isHit_29 : decode cX4_isHit 29 = .ok (.iload 4, 2) := by decide +kernel
theorem dX4_isHit_31 : decode cX4_isHit 31 = .ok (.ifCond .eq 7, 3) := by decide +kernel
theorem dX4_isHit_34 : decode cX4_isHit 34 = .ok (.iconst 1, 1) := by decide +kernel
theorem dX4_isHit_35 : decode cX4_isHit 35 = .ok (.goto 4, 3) := by decide +kernel
theorem dX4_isHit_38 : decode cX4_isHit 38 = .ok (.iconst 0, 1) := by decide +kernel
theorem dX4_isHit_39 : decode cX4_isHit 39 = .ok (.ireturn, 1) := by decide +kernel
theorem dX4_costOf_0 : decode cX4_costOf 0 = .ok (.aload_n 0, 1) := by decide +kernel
theorem dX4_costOf_1 : decode cX4_costOf 1 = .ok (.iload_n 1, 1) := by decide +kernel
theorem dX4_costOf_2 : decode cX4_costOf 2 = .ok (.iload_n 2, 1) := by decide +kernel
theorem dX4_costOf_3 : decode cX4_costOf 3 = .ok (.iload_n 3, 1) := by decide +kernel
theorem dX4_costOf_4 : decode cX4_costOf 4 = .ok (.invokevirtual 126, 3) := by decide +kernel
theorem dX4_costOf_7 : decode cX4_costOf 7 = .ok (.ifCond .eq 5, 3) := by decide +kernel
theorem dX4_costOf_10 : decode cX4_costOf 10 = .ok (.iconst 0, 1) := by decide +kernel
theorem dX4_costOf_11 : decode cX4_costOf 11 = .ok (.ireturn, 1) := by decide +kernel
theorem dX4_costOf_12 : decode cX4_costOf 12 = .ok (.aload_n 0, 1) := by decide +kernel
theorem dX4_costOf_13 : decode cX4_costOf 13 = .ok (.getfield 28, 3) := by decide +kernel
theorem dX4_costOf_16 : decode cX4_costOf 16 = .ok (.iload_n 2, 1) := by decide +kernel
theorem dX4_costOf_17 : decode cX4_costOf 17 = .ok (.invokevirtual 141, 3) := by decide +kernel
theorem dX4_costOf_20 : decode cX4_costOf 20 = .ok (.ifCond .ne 23, 3) := by decide +kernel
theorem dX4_costOf_23 : decode cX4_costOf 23 = .ok (.aload_n 0, 1) := by decide +kernel
theorem dX4_costOf_24 : decode cX4_costOf 24 = .ok (.getfield 28, 3) := by decide +kernel
theorem dX4_costOf_27 : decode cX4_costOf 27 = .ok (.iload_n 2, 1) := by decide +kernel
theorem dX4_costOf_28 : decode cX4_costOf 28 = .ok (.invokevirtual 144, 3) := by decide +kernel
theorem dX4_costOf_31 : decode cX4_costOf 31 = .ok (.ifCond .eq 12, 3) := by decide +kernel
theorem dX4_costOf_34 : decode cX4_costOf 34 = .ok (.aload_n 0, 1) := by decide +kernel
theorem dX4_costOf_35 : decode cX4_costOf 35 = .ok (.getfield 66, 3) := by decide +kernel
theorem dX4_costOf_38 : decode cX4_costOf 38 = .ok (.iconst 1, 1) := by decide +kernel
theorem dX4_costOf_39 : decode cX4_costOf 39 = .ok (.isub, 1) := by decide +kernel
theorem dX4_costOf_40 : decode cX4_costOf 40 = .ok (.goto 4, 3) := by decide +kernel
theorem dX4_costOf_43 : decode cX4_costOf 43 = .ok (.iconst 1, 1) := by decide +kernel
theorem dX4_costOf_44 : decode cX4_costOf 44 = .ok (.istore 4, 2) := by decide +kernel
theorem dX4_costOf_46 : decode cX4_costOf 46 = .ok (.aload_n 0, 1) := by decide +kernel
theorem dX4_costOf_47 : decode cX4_costOf 47 = .ok (.getfield 21, 3) := by decide +kernel
theorem dX4_costOf_50 : decode cX4_costOf 50 = .ok (.iload_n 2, 1) := by decide +kernel
theorem dX4_costOf_51 : decode cX4_costOf 51 = .ok (.invokevirtual 147, 3) := by decide +kernel
theorem dX4_costOf_54 : decode cX4_costOf 54 = .ok (.iconst (-1), 1) := by decide +kernel
theorem dX4_costOf_55 : decode cX4_costOf 55 = .ok (.if_icmp .eq 6, 3) := by decide +kernel
theorem dX4_costOf_58 : decode cX4_costOf 58 = .ok (.iinc 4 2, 3) := by decide +kernel
theorem dX4_costOf_61 : decode cX4_costOf 61 = .ok (.iload_n 3, 1) := by decide +kernel
theorem dX4_costOf_62 : decode cX4_costOf 62 = .ok (.ifCond .eq 25, 3) := by decide +kernel
theorem dX4_costOf_65 : decode cX4_costOf 65 = .ok (.iload 4, 2) := by decide +kernel
theorem dX4_costOf_67 : decode cX4_costOf 67 = .ok (.aload_n 0, 1) := by decide +kernel
theorem dX4_costOf_68 : decode cX4_costOf 68 = .ok (.getfield 21, 3) := by decide +kernel
theorem dX4_costOf_71 : decode cX4_costOf 71 = .ok (.iload_n 2, 1) := by decide +kernel
theorem dX4_costOf_72 : decode cX4_costOf 72 = .ok (.invokevirtual 151, 3) := by decide +kernel
theorem dX4_costOf_75 : decode cX4_costOf 75 = .ok (.iconst 1, 1) := by decide +kernel
theorem dX4_costOf_76 : decode cX4_costOf 76 = .ok (.iload_n 1, 1) := by decide +kernel
theorem dX4_costOf_77 : decode cX4_costOf 77 = .ok (.ishl, 1) := by decide +kernel
theorem dX4_costOf_78 : decode cX4_costOf 78 = .ok (.iconst (-1), 1) := by decide +kernel
theorem dX4_costOf_79 : decode cX4_costOf 79 = .ok (.ixor, 1) := by decide +kernel
theorem dX4_costOf_80 : decode cX4_costOf 80 = .ok (.iand, 1) := by decide +kernel
theorem dX4_costOf_81 : decode cX4_costOf 81 = .ok (.invokestatic 154, 3) := by decide +kernel
theorem dX4_costOf_84 : decode cX4_costOf 84 = .ok (.iadd, 1) := by decide +kernel
theorem dX4_costOf_85 : decode cX4_costOf 85 = .ok (.istore 4, 2) := by decide +kernel
theorem dX4_costOf_87 : decode cX4_costOf 87 = .ok (.aload_n 0, 1) := by decide +kernel
theorem dX4_costOf_88 : decode cX4_costOf 88 = .ok (.getfield 21, 3) := by decide +kernel
theorem dX4_costOf_91 : decode cX4_costOf 91 = .ok (.iload_n 1, 1) := by decide +kernel
theorem dX4_costOf_92 : decode cX4_costOf 92 = .ok (.iload_n 2, 1) := by decide +kernel
theorem dX4_costOf_93 : decode cX4_costOf 93 = .ok (.invokevirtual 137, 3) := by decide +kernel
theorem dX4_costOf_96 : decode cX4_costOf 96 = .ok (.ifCond .ne 33, 3) := by decide +kernel
theorem dX4_costOf_99 : decode cX4_costOf 99 = .ok (.aload_n 0, 1) := by decide +kernel
theorem dX4_costOf_100 : decode cX4_costOf 100 = .ok (.iload_n 1, 1) := by decide +kernel
theorem dX4_costOf_101 : decode cX4_costOf 101 = .ok (.invokevirtual 159, 3) := by decide +kernel
theorem dX4_costOf_104 : decode cX4_costOf 104 = .ok (.istore 5, 2) := by decide +kernel
theorem dX4_costOf_106 : decode cX4_costOf 106 = .ok (.iload 5, 2) := by decide +kernel
theorem dX4_costOf_108 : decode cX4_costOf 108 = .ok (.iconst (-1), 1) := by decide +kernel
theorem dX4_costOf_109 : decode cX4_costOf 109 = .ok (.if_icmp .eq 20, 3) := by decide +kernel
theorem dX4_costOf_112 : decode cX4_costOf 112 = .ok (.aload_n 0, 1) := by decide +kernel
theorem dX4_costOf_113 : decode cX4_costOf 113 = .ok (.getfield 21, 3) := by decide +kernel
theorem dX4_costOf_116 : decode cX4_costOf 116 = .ok (.iload_n 1, 1) := by decide +kernel
theorem dX4_costOf_117 : decode cX4_costOf 117 = .ok (.iload 5, 2) := by decide +kernel
theorem dX4_costOf_119 : decode cX4_costOf 119 = .ok (.invokevirtual 137, 3) := by decide +kernel
theorem dX4_costOf_122 : decode cX4_costOf 122 = .ok (.iconst 2, 1) := by decide +kernel
theorem dX4_costOf_123 : decode cX4_costOf 123 = .ok (.if_icmp .ne 6, 3) := by decide +kernel
theorem dX4_costOf_126 : decode cX4_costOf 126 = .ok (.iinc 4 1, 3) := by decide +kernel
theorem dX4_costOf_129 : decode cX4_costOf 129 = .ok (.iload 4, 2) := by decide +kernel
theorem dX4_costOf_131 : decode cX4_costOf 131 = .ok (.ireturn, 1) := by decide +kernel
theorem dX4_serve_0 : decode cX4_serve 0 = .ok (.aload_n 0, 1) := by decide +kernel
theorem dX4_serve_1 : decode cX4_serve 1 = .ok (.getfield 35, 3) := by decide +kernel
theorem dX4_serve_4 : decode cX4_serve 4 = .ok (.iload_n 1, 1) := by decide +kernel
theorem dX4_serve_5 : decode cX4_serve 5 = .ok (.invokevirtual 123, 3) := by decide +kernel
theorem dX4_serve_8 : decode cX4_serve 8 = .ok (.istore 4, 2) := by decide +kernel
theorem dX4_serve_10 : decode cX4_serve 10 = .ok (.aload_n 0, 1) := by decide +kernel
theorem dX4_serve_11 : decode cX4_serve 11 = .ok (.iload_n 1, 1) := by decide +kernel
theorem dX4_serve_12 : decode cX4_serve 12 = .ok (.iload_n 2, 1) := by decide +kernel
theorem dX4_serve_13 : decode cX4_serve 13 = .ok (.iload 4, 2) := by decide +kernel
theorem dX4_serve_15 : decode cX4_serve 15 = .ok (.invokevirtual 162, 3) := by decide +kernel
theorem dX4_serve_18 : decode cX4_serve 18 = .ok (.istore 5, 2) := by decide +kernel
theorem dX4_serve_20 : decode cX4_serve 20 = .ok (.aload_n 0, 1) := by decide +kernel
theorem dX4_serve_21 : decode cX4_serve 21 = .ok (.dup, 1) := by decide +kernel
theorem dX4_serve_22 : decode cX4_serve 22 = .ok (.getfield 75, 3) := by decide +kernel
theorem dX4_serve_25 : decode cX4_serve 25 = .ok (.iload 5, 2) := by decide +kernel
theorem dX4_serve_27 : decode cX4_serve 27 = .ok (.iadd, 1) := by decide +kernel
theorem dX4_serve_28 : decode cX4_serve 28 = .ok (.putfield 75, 3) := by decide +kernel
theorem dX4_serve_31 : decode cX4_serve 31 = .ok (.iload_n 3, 1) := by decide +kernel
theorem dX4_serve_32 : decode cX4_serve 32 = .ok (.ifCond .eq 16, 3) := by decide +kernel
theorem dX4_serve_35 : decode cX4_serve 35 = .ok (.aload_n 0, 1) := by decide +kernel
theorem dX4_serve_36 : decode cX4_serve 36 = .ok (.dup, 1) := by decide +kernel
theorem dX4_serve_37 : decode cX4_serve 37 = .ok (.getfield 78, 3) := by decide +kernel
theorem dX4_serve_40 : decode cX4_serve 40 = .ok (.iconst 1, 1) := by decide +kernel
theorem dX4_serve_41 : decode cX4_serve 41 = .ok (.iadd, 1) := by decide +kernel
theorem dX4_serve_42 : decode cX4_serve 42 = .ok (.putfield 78, 3) := by decide +kernel
theorem dX4_serve_45 : decode cX4_serve 45 = .ok (.goto 21, 3) := by decide +kernel
theorem dX4_serve_48 : decode cX4_serve 48 = .ok (.aload_n 0, 1) := by decide +kernel
theorem dX4_serve_49 : decode cX4_serve 49 = .ok (.dup, 1) := by decide +kernel
theorem dX4_serve_50 : decode cX4_serve 50 = .ok (.getfield 81, 3) := by decide +kernel
theorem dX4_serve_53 : decode cX4_serve 53 = .ok (.iconst 1, 1) := by decide +kernel
theorem dX4_serve_54 : decode cX4_serve 54 = .ok (.iadd, 1) := by decide +kernel
theorem dX4_serve_55 : decode cX4_serve 55 = .ok (.putfield 81, 3) := by decide +kernel
theorem dX4_serve_58 : decode cX4_serve 58 = .ok (.aload_n 0, 1) := by decide +kernel
theorem dX4_serve_59 : decode cX4_serve 59 = .ok (.iload_n 1, 1) := by decide +kernel
theorem dX4_serve_60 : decode cX4_serve 60 = .ok (.iload_n 2, 1) := by decide +kernel
theorem dX4_serve_61 : decode cX4_serve 61 = .ok (.iload 4, 2) := by decide +kernel
theorem dX4_serve_63 : decode cX4_serve 63 = .ok (.invokevirtual 166, 3) := by decide +kernel
theorem dX4_serve_66 : decode cX4_serve 66 = .ok (.iload 4, 2) := by decide +kernel
theorem dX4_serve_68 : decode cX4_serve 68 = .ok (.ifCond .eq 36, 3) := by decide +kernel
theorem dX4_serve_71 : decode cX4_serve 71 = .ok (.aload_n 0, 1) := by decide +kernel
theorem dX4_serve_72 : decode cX4_serve 72 = .ok (.getfield 21, 3) := by decide +kernel
theorem dX4_serve_75 : decode cX4_serve 75 = .ok (.iload_n 1, 1) := by decide +kernel
theorem dX4_serve_76 : decode cX4_serve 76 = .ok (.iload_n 2, 1) := by decide +kernel
theorem dX4_serve_77 : decode cX4_serve 77 = .ok (.aload_n 0, 1) := by decide +kernel
theorem dX4_serve_78 : decode cX4_serve 78 = .ok (.getfield 35, 3) := by decide +kernel
theorem dX4_serve_81 : decode cX4_serve 81 = .ok (.getfield 169, 3) := by decide +kernel
theorem dX4_serve_84 : decode cX4_serve 84 = .ok (.iload_n 1, 1) := by decide +kernel
theorem dX4_serve_85 : decode cX4_serve 85 = .ok (.iaload, 1) := by decide +kernel
theorem dX4_serve_86 : decode cX4_serve 86 = .ok (.invokevirtual 172, 3) := by decide +kernel
theorem dX4_serve_89 : decode cX4_serve 89 = .ok (.aload_n 0, 1) := by decide +kernel
theorem dX4_serve_90 : decode cX4_serve 90 = .ok (.getfield 15, 3) := by decide +kernel
theorem dX4_serve_93 : decode cX4_serve 93 = .ok (.iload_n 2, 1) := by decide +kernel
theorem dX4_serve_94 : decode cX4_serve 94 = .ok (.aload_n 0, 1) := by decide +kernel
theorem dX4_serve_95 : decode cX4_serve 95 = .ok (.getfield 35, 3) := by decide +kernel
theorem dX4_serve_98 : decode cX4_serve 98 = .ok (.getfield 169, 3) := by decide +kernel
theorem dX4_serve_101 : decode cX4_serve 101 = .ok (.iload_n 1, 1) := by decide +kernel
theorem dX4_serve_102 : decode cX4_serve 102 = .ok (.iaload, 1) := by decide +kernel
theorem dX4_serve_103 : decode cX4_serve 103 = .ok (.iastore, 1) := by decide +kernel
theorem dX4_serve_104 : decode cX4_serve 104 = .ok (.aload_n 0, 1) := by decide +kernel
theorem dX4_serve_105 : decode cX4_serve 105 = .ok (.getfield 21, 3) := by decide +kernel
theorem dX4_serve_108 : decode cX4_serve 108 = .ok (.iload_n 1, 1) := by decide +kernel
theorem dX4_serve_109 : decode cX4_serve 109 = .ok (.iload_n 2, 1) := by decide +kernel
theorem dX4_serve_110 : decode cX4_serve 110 = .ok (.invokevirtual 176, 3) := by decide +kernel
theorem dX4_serve_113 : decode cX4_serve 113 = .ok (.aload_n 0, 1) := by decide +kernel
theorem dX4_serve_114 : decode cX4_serve 114 = .ok (.getfield 42, 3) := by decide +kernel
theorem dX4_serve_117 : decode cX4_serve 117 = .ok (.iload_n 1, 1) := by decide +kernel
theorem dX4_serve_118 : decode cX4_serve 118 = .ok (.iload_n 2, 1) := by decide +kernel
theorem dX4_serve_119 : decode cX4_serve 119 = .ok (.iload 4, 2) := by decide +kernel
theorem dX4_serve_121 : decode cX4_serve 121 = .ok (.ifCond .eq 7, 3) := by decide +kernel
theorem dX4_serve_124 : decode cX4_serve 124 = .ok (.iconst 1, 1) := by decide +kernel
theorem dX4_serve_125 : decode cX4_serve 125 = .ok (.goto 4, 3) := by decide +kernel
theorem dX4_serve_128 : decode cX4_serve 128 = .ok (.iconst 0, 1) := by decide +kernel
theorem dX4_serve_129 : decode cX4_serve 129 = .ok (.aload_n 0, 1) := by decide +kernel
theorem dX4_serve_130 : decode cX4_serve 130 = .ok (.getfield 21, 3) := by decide +kernel
theorem dX4_serve_133 : decode cX4_serve 133 = .ok (.iload_n 1, 1) := by decide +kernel
theorem dX4_serve_134 : decode cX4_serve 134 = .ok (.iload_n 2, 1) := by decide +kernel
theorem dX4_serve_135 : decode cX4_serve 135 = .ok (.invokevirtual 180, 3) := by decide +kernel
theorem dX4_serve_138 : decode cX4_serve 138 = .ok (.iload 5, 2) := by decide +kernel
theorem dX4_serve_140 : decode cX4_serve 140 = .ok (.aload_n 0, 1) := by decide +kernel
theorem dX4_serve_141 : decode cX4_serve 141 = .ok (.getfield 72, 3) := by decide +kernel
theorem dX4_serve_144 : decode cX4_serve 144 = .ok (.invokevirtual 183, 3) := by decide +kernel
theorem dX4_serve_147 : decode cX4_serve 147 = .ok (.aload_n 0, 1) := by decide +kernel
theorem dX4_serve_148 : decode cX4_serve 148 = .ok (.getfield 35, 3) := by decide +kernel
theorem dX4_serve_151 : decode cX4_serve 151 = .ok (.iload_n 1, 1) := by decide +kernel
theorem dX4_serve_152 : decode cX4_serve 152 = .ok (.invokevirtual 187, 3) := by decide +kernel
theorem dX4_serve_155 : decode cX4_serve 155 = .ok (.return_, 1) := by decide +kernel
theorem dX4_fetch_0 : decode cX4_fetch 0 = .ok (.aload_n 0, 1) := by decide +kernel
theorem dX4_fetch_1 : decode cX4_fetch 1 = .ok (.getfield 28, 3) := by decide +kernel
theorem dX4_fetch_4 : decode cX4_fetch 4 = .ok (.iload_n 2, 1) := by decide +kernel
theorem dX4_fetch_5 : decode cX4_fetch 5 = .ok (.invokevirtual 141, 3) := by decide +kernel
theorem dX4_fetch_8 : decode cX4_fetch 8 = .ok (.ifCond .ne 15, 3) := by decide +kernel
theorem dX4_fetch_11 : decode cX4_fetch 11 = .ok (.aload_n 0, 1) := by decide +kernel
theorem dX4_fetch_12 : decode cX4_fetch 12 = .ok (.invokevirtual 190, 3) := by decide +kernel
theorem dX4_fetch_15 : decode cX4_fetch 15 = .ok (.aload_n 0, 1) := by decide +kernel
theorem dX4_fetch_16 : decode cX4_fetch 16 = .ok (.getfield 28, 3) := by decide +kernel
theorem dX4_fetch_19 : decode cX4_fetch 19 = .ok (.iload_n 2, 1) := by decide +kernel
theorem dX4_fetch_20 : decode cX4_fetch 20 = .ok (.invokevirtual 193, 3) := by decide +kernel
theorem dX4_fetch_23 : decode cX4_fetch 23 = .ok (.aload_n 0, 1) := by decide +kernel
theorem dX4_fetch_24 : decode cX4_fetch 24 = .ok (.getfield 21, 3) := by decide +kernel
theorem dX4_fetch_27 : decode cX4_fetch 27 = .ok (.iload_n 2, 1) := by decide +kernel
theorem dX4_fetch_28 : decode cX4_fetch 28 = .ok (.invokevirtual 147, 3) := by decide +kernel
theorem dX4_fetch_31 : decode cX4_fetch 31 = .ok (.istore 4, 2) := by decide +kernel
theorem dX4_fetch_33 : decode cX4_fetch 33 = .ok (.iload 4, 2) := by decide +kernel
theorem dX4_fetch_35 : decode cX4_fetch 35 = .ok (.iconst (-1), 1) := by decide +kernel
theorem dX4_fetch_36 : decode cX4_fetch 36 = .ok (.if_icmp .eq 20, 3) := by decide +kernel
theorem dX4_fetch_39 : decode cX4_fetch 39 = .ok (.aload_n 0, 1) := by decide +kernel
theorem dX4_fetch_40 : decode cX4_fetch 40 = .ok (.iload 4, 2) := by decide +kernel
theorem dX4_fetch_42 : decode cX4_fetch 42 = .ok (.iload_n 2, 1) := by decide +kernel
theorem dX4_fetch_43 : decode cX4_fetch 43 = .ok (.invokevirtual 196, 3) := by decide +kernel
theorem dX4_fetch_46 : decode cX4_fetch 46 = .ok (.aload_n 0, 1) := by decide +kernel
theorem dX4_fetch_47 : decode cX4_fetch 47 = .ok (.getfield 21, 3) := by decide +kernel
theorem dX4_fetch_50 : decode cX4_fetch 50 = .ok (.iload 4, 2) := by decide +kernel
theorem dX4_fetch_52 : decode cX4_fetch 52 = .ok (.iload_n 2, 1) := by decide +kernel
theorem dX4_fetch_53 : decode cX4_fetch 53 = .ok (.invokevirtual 199, 3) := by decide +kernel
theorem dX4_fetch_56 : decode cX4_fetch 56 = .ok (.iload_n 3, 1) := by decide +kernel
theorem dX4_fetch_57 : decode cX4_fetch 57 = .ok (.ifCond .eq 12, 3) := by decide +kernel
theorem dX4_fetch_60 : decode cX4_fetch 60 = .ok (.aload_n 0, 1) := by decide +kernel
theorem dX4_fetch_61 : decode cX4_fetch 61 = .ok (.getfield 21, 3) := by decide +kernel
theorem dX4_fetch_64 : decode cX4_fetch 64 = .ok (.iload_n 1, 1) := by decide +kernel
theorem dX4_fetch_65 : decode cX4_fetch 65 = .ok (.iload_n 2, 1) := by decide +kernel
theorem dX4_fetch_66 : decode cX4_fetch 66 = .ok (.invokevirtual 202, 3) := by decide +kernel
theorem dX4_fetch_69 : decode cX4_fetch 69 = .ok (.aload_n 0, 1) := by decide +kernel
theorem dX4_fetch_70 : decode cX4_fetch 70 = .ok (.getfield 21, 3) := by decide +kernel
theorem dX4_fetch_73 : decode cX4_fetch 73 = .ok (.iload_n 1, 1) := by decide +kernel
theorem dX4_fetch_74 : decode cX4_fetch 74 = .ok (.iload_n 2, 1) := by decide +kernel
theorem dX4_fetch_75 : decode cX4_fetch 75 = .ok (.invokevirtual 137, 3) := by decide +kernel
theorem dX4_fetch_78 : decode cX4_fetch 78 = .ok (.ifCond .ne 50, 3) := by decide +kernel
theorem dX4_fetch_81 : decode cX4_fetch 81 = .ok (.aload_n 0, 1) := by decide +kernel
theorem dX4_fetch_82 : decode cX4_fetch 82 = .ok (.iload_n 1, 1) := by decide +kernel
theorem dX4_fetch_83 : decode cX4_fetch 83 = .ok (.invokevirtual 159, 3) := by decide +kernel
theorem dX4_fetch_86 : decode cX4_fetch 86 = .ok (.istore 5, 2) := by decide +kernel
theorem dX4_fetch_88 : decode cX4_fetch 88 = .ok (.iload 5, 2) := by decide +kernel
theorem dX4_fetch_90 : decode cX4_fetch 90 = .ok (.iconst (-1), 1) := by decide +kernel
theorem dX4_fetch_91 : decode cX4_fetch 91 = .ok (.if_icmp .eq 10, 3) := by decide +kernel
theorem dX4_fetch_94 : decode cX4_fetch 94 = .ok (.aload_n 0, 1) := by decide +kernel
theorem dX4_fetch_95 : decode cX4_fetch 95 = .ok (.iload_n 1, 1) := by decide +kernel
theorem dX4_fetch_96 : decode cX4_fetch 96 = .ok (.iload 5, 2) := by decide +kernel
theorem dX4_fetch_98 : decode cX4_fetch 98 = .ok (.invokevirtual 205, 3) := by decide +kernel
theorem dX4_fetch_101 : decode cX4_fetch 101 = .ok (.aload_n 0, 1) := by decide +kernel
theorem dX4_fetch_102 : decode cX4_fetch 102 = .ok (.getfield 21, 3) := by decide +kernel
theorem dX4_fetch_105 : decode cX4_fetch 105 = .ok (.iload_n 1, 1) := by decide +kernel
theorem dX4_fetch_106 : decode cX4_fetch 106 = .ok (.iload_n 2, 1) := by decide +kernel
theorem dX4_fetch_107 : decode cX4_fetch 107 = .ok (.aload_n 0, 1) := by decide +kernel
theorem dX4_fetch_108 : decode cX4_fetch 108 = .ok (.getfield 9, 3) := by decide +kernel
theorem dX4_fetch_111 : decode cX4_fetch 111 = .ok (.iload_n 2, 1) := by decide +kernel
theorem dX4_fetch_112 : decode cX4_fetch 112 = .ok (.iaload, 1) := by decide +kernel
theorem dX4_fetch_113 : decode cX4_fetch 113 = .ok (.aload_n 0, 1) := by decide +kernel
theorem dX4_fetch_114 : decode cX4_fetch 114 = .ok (.getfield 21, 3) := by decide +kernel
theorem dX4_fetch_117 : decode cX4_fetch 117 = .ok (.iload_n 1, 1) := by decide +kernel
theorem dX4_fetch_118 : decode cX4_fetch 118 = .ok (.aload_n 0, 1) := by decide +kernel
theorem dX4_fetch_119 : decode cX4_fetch 119 = .ok (.getfield 69, 3) := by decide +kernel
theorem dX4_fetch_122 : decode cX4_fetch 122 = .ok (.invokevirtual 208, 3) := by decide +kernel
theorem dX4_fetch_125 : decode cX4_fetch 125 = .ok (.invokevirtual 211, 3) := by decide +kernel
theorem dX4_fetch_128 : decode cX4_fetch 128 = .ok (.aload_n 0, 1) := by decide +kernel
theorem dX4_fetch_129 : decode cX4_fetch 129 = .ok (.getfield 28, 3) := by decide +kernel
theorem dX4_fetch_132 : decode cX4_fetch 132 = .ok (.iload_n 2, 1) := by decide +kernel
theorem dX4_fetch_133 : decode cX4_fetch 133 = .ok (.invokevirtual 214, 3) := by decide +kernel
theorem dX4_fetch_136 : decode cX4_fetch 136 = .ok (.return_, 1) := by decide +kernel
theorem dX4_makeRoomInDiary_0 : decode cX4_makeRoomInDiary 0 = .ok (.aload_n 0, 1) := by decide +kernel
theorem dX4_makeRoomInDiary_1 : decode cX4_makeRoomInDiary 1 = .ok (.getfield 28, 3) := by decide +kernel
theorem dX4_makeRoomInDiary_4 : decode cX4_makeRoomInDiary 4 = .ok (.invokevirtual 216, 3) := by decide +kernel
theorem dX4_makeRoomInDiary_7 : decode cX4_makeRoomInDiary 7 = .ok (.istore_n 1, 1) := by decide +kernel
theorem dX4_makeRoomInDiary_8 : decode cX4_makeRoomInDiary 8 = .ok (.iload_n 1, 1) := by decide +kernel
theorem dX4_makeRoomInDiary_9 : decode cX4_makeRoomInDiary 9 = .ok (.iconst (-1), 1) := by decide +kernel
theorem dX4_makeRoomInDiary_10 : decode cX4_makeRoomInDiary 10 = .ok (.if_icmp .eq 27, 3) := by decide +kernel
theorem dX4_makeRoomInDiary_13 : decode cX4_makeRoomInDiary 13 = .ok (.aload_n 0, 1) := by decide +kernel
theorem dX4_makeRoomInDiary_14 : decode cX4_makeRoomInDiary 14 = .ok (.getfield 28, 3) := by decide +kernel
theorem dX4_makeRoomInDiary_17 : decode cX4_makeRoomInDiary 17 = .ok (.iload_n 1, 1) := by decide +kernel
theorem dX4_makeRoomInDiary_18 : decode cX4_makeRoomInDiary 18 = .ok (.aload_n 0, 1) := by decide +kernel
theorem dX4_makeRoomInDiary_19 : decode cX4_makeRoomInDiary 19 = .ok (.getfield 21, 3) := by decide +kernel
theorem dX4_makeRoomInDiary_22 : decode cX4_makeRoomInDiary 22 = .ok (.iload_n 1, 1) := by decide +kernel
theorem dX4_makeRoomInDiary_23 : decode cX4_makeRoomInDiary 23 = .ok (.invokevirtual 219, 3) := by decide +kernel
theorem dX4_makeRoomInDiary_26 : decode cX4_makeRoomInDiary 26 = .ok (.ifCond .le 7, 3) := by decide +kernel
theorem dX4_makeRoomInDiary_29 : decode cX4_makeRoomInDiary 29 = .ok (.iconst 1, 1) := by decide +kernel
theorem dX4_makeRoomInDiary_30 : decode cX4_makeRoomInDiary 30 = .ok (.goto 4, 3) := by decide +kernel
theorem dX4_makeRoomInDiary_33 : decode cX4_makeRoomInDiary 33 = .ok (.iconst 0, 1) := by decide +kernel
theorem dX4_makeRoomInDiary_34 : decode cX4_makeRoomInDiary 34 = .ok (.invokevirtual 222, 3) := by decide +kernel
theorem dX4_makeRoomInDiary_37 : decode cX4_makeRoomInDiary 37 = .ok (.return_, 1) := by decide +kernel
theorem dX4_bringBack_0 : decode cX4_bringBack 0 = .ok (.aload_n 0, 1) := by decide +kernel
theorem dX4_bringBack_1 : decode cX4_bringBack 1 = .ok (.getfield 9, 3) := by decide +kernel
theorem dX4_bringBack_4 : decode cX4_bringBack 4 = .ok (.iload_n 2, 1) := by decide +kernel
theorem dX4_bringBack_5 : decode cX4_bringBack 5 = .ok (.aload_n 0, 1) := by decide +kernel
theorem dX4_bringBack_6 : decode cX4_bringBack 6 = .ok (.getfield 21, 3) := by decide +kernel
theorem dX4_bringBack_9 : decode cX4_bringBack 9 = .ok (.iload_n 1, 1) := by decide +kernel
theorem dX4_bringBack_10 : decode cX4_bringBack 10 = .ok (.iload_n 2, 1) := by decide +kernel
theorem dX4_bringBack_11 : decode cX4_bringBack 11 = .ok (.invokevirtual 180, 3) := by decide +kernel
theorem dX4_bringBack_14 : decode cX4_bringBack 14 = .ok (.iastore, 1) := by decide +kernel
theorem dX4_bringBack_15 : decode cX4_bringBack 15 = .ok (.aload_n 0, 1) := by decide +kernel
theorem dX4_bringBack_16 : decode cX4_bringBack 16 = .ok (.dup, 1) := by decide +kernel
theorem dX4_bringBack_17 : decode cX4_bringBack 17 = .ok (.getfield 87, 3) := by decide +kernel
theorem dX4_bringBack_20 : decode cX4_bringBack 20 = .ok (.iconst 1, 1) := by decide +kernel
theorem dX4_bringBack_21 : decode cX4_bringBack 21 = .ok (.iadd, 1) := by decide +kernel
theorem dX4_bringBack_22 : decode cX4_bringBack 22 = .ok (.putfield 87, 3) := by decide +kernel
theorem dX4_bringBack_25 : decode cX4_bringBack 25 = .ok (.return_, 1) := by decide +kernel
theorem dX4_throwAway_0 : decode cX4_throwAway 0 = .ok (.aload_n 0, 1) := by decide +kernel
theorem dX4_throwAway_1 : decode cX4_throwAway 1 = .ok (.getfield 21, 3) := by decide +kernel
theorem dX4_throwAway_4 : decode cX4_throwAway 4 = .ok (.iload_n 1, 1) := by decide +kernel
theorem dX4_throwAway_5 : decode cX4_throwAway 5 = .ok (.iload_n 2, 1) := by decide +kernel
theorem dX4_throwAway_6 : decode cX4_throwAway 6 = .ok (.invokevirtual 137, 3) := by decide +kernel
theorem dX4_throwAway_9 : decode cX4_throwAway 9 = .ok (.iconst 2, 1) := by decide +kernel
theorem dX4_throwAway_10 : decode cX4_throwAway 10 = .ok (.if_icmp .ne 9, 3) := by decide +kernel
theorem dX4_throwAway_13 : decode cX4_throwAway 13 = .ok (.aload_n 0, 1) := by decide +kernel
theorem dX4_throwAway_14 : decode cX4_throwAway 14 = .ok (.iload_n 1, 1) := by decide +kernel
theorem dX4_throwAway_15 : decode cX4_throwAway 15 = .ok (.iload_n 2, 1) := by decide +kernel
theorem dX4_throwAway_16 : decode cX4_throwAway 16 = .ok (.invokevirtual 196, 3) := by decide +kernel
theorem dX4_throwAway_19 : decode cX4_throwAway 19 = .ok (.aload_n 0, 1) := by decide +kernel
theorem dX4_throwAway_20 : decode cX4_throwAway 20 = .ok (.getfield 21, 3) := by decide +kernel
theorem dX4_throwAway_23 : decode cX4_throwAway 23 = .ok (.iload_n 1, 1) := by decide +kernel
theorem dX4_throwAway_24 : decode cX4_throwAway 24 = .ok (.iload_n 2, 1) := by decide +kernel
theorem dX4_throwAway_25 : decode cX4_throwAway 25 = .ok (.invokevirtual 226, 3) := by decide +kernel
theorem dX4_throwAway_28 : decode cX4_throwAway 28 = .ok (.return_, 1) := by decide +kernel
theorem dX4_lineToDrop_0 : decode cX4_lineToDrop 0 = .ok (.aload_n 0, 1) := by decide +kernel
theorem dX4_lineToDrop_1 : decode cX4_lineToDrop 1 = .ok (.getfield 21, 3) := by decide +kernel
theorem dX4_lineToDrop_4 : decode cX4_lineToDrop 4 = .ok (.iload_n 1, 1) := by decide +kernel
theorem dX4_lineToDrop_5 : decode cX4_lineToDrop 5 = .ok (.aload_n 0, 1) := by decide +kernel
theorem dX4_lineToDrop_6 : decode cX4_lineToDrop 6 = .ok (.getfield 69, 3) := by decide +kernel
theorem dX4_lineToDrop_9 : decode cX4_lineToDrop 9 = .ok (.invokevirtual 208, 3) := by decide +kernel
theorem dX4_lineToDrop_12 : decode cX4_lineToDrop 12 = .ok (.iconst (-1), 1) := by decide +kernel
theorem dX4_lineToDrop_13 : decode cX4_lineToDrop 13 = .ok (.if_icmp .eq 7, 3) := by decide +kernel
theorem dX4_lineToDrop_16 : decode cX4_lineToDrop 16 = .ok (.iconst (-1), 1) := by decide +kernel
theorem dX4_lineToDrop_17 : decode cX4_lineToDrop 17 = .ok (.goto 11, 3) := by decide +kernel
theorem dX4_lineToDrop_20 : decode cX4_lineToDrop 20 = .ok (.aload_n 0, 1) := by decide +kernel
theorem dX4_lineToDrop_21 : decode cX4_lineToDrop 21 = .ok (.getfield 21, 3) := by decide +kernel
theorem dX4_lineToDrop_24 : decode cX4_lineToDrop 24 = .ok (.iload_n 1, 1) := by decide +kernel
theorem dX4_lineToDrop_25 : decode cX4_lineToDrop 25 = .ok (.invokevirtual 229, 3) := by decide +kernel
theorem dX4_lineToDrop_28 : decode cX4_lineToDrop 28 = .ok (.ireturn, 1) := by decide +kernel
theorem dX4_lineFact_0 : decode cX4_lineFact 0 = .ok (.iload_n 2, 1) := by decide +kernel
theorem dX4_lineFact_1 : decode cX4_lineFact 1 = .ok (.tableswitch 140 0 6 #[43, 50, 57, 66, 75, 92, 116], 43) := by decide +kernel
theorem dX4_lineFact_44 : decode cX4_lineFact 44 = .ok (.aload_n 0, 1) := by decide +kernel
theorem dX4_lineFact_45 : decode cX4_lineFact 45 = .ok (.getfield 9, 3) := by decide +kernel
theorem dX4_lineFact_48 : decode cX4_lineFact 48 = .ok (.iload_n 1, 1) := by decide +kernel
theorem dX4_lineFact_49 : decode cX4_lineFact 49 = .ok (.iaload, 1) := by decide +kernel
theorem dX4_lineFact_50 : decode cX4_lineFact 50 = .ok (.ireturn, 1) := by decide +kernel
theorem dX4_lineFact_51 : decode cX4_lineFact 51 = .ok (.aload_n 0, 1) := by decide +kernel
theorem dX4_lineFact_52 : decode cX4_lineFact 52 = .ok (.getfield 15, 3) := by decide +kernel
theorem dX4_lineFact_55 : decode cX4_lineFact 55 = .ok (.iload_n 1, 1) := by decide +kernel
theorem dX4_lineFact_56 : decode cX4_lineFact 56 = .ok (.iaload, 1) := by decide +kernel
theorem dX4_lineFact_57 : decode cX4_lineFact 57 = .ok (.ireturn, 1) := by decide +kernel
theorem dX4_lineFact_58 : decode cX4_lineFact 58 = .ok (.aload_n 0, 1) := by decide +kernel
theorem dX4_lineFact_59 : decode cX4_lineFact 59 = .ok (.getfield 21, 3) := by decide +kernel
theorem dX4_lineFact_62 : decode cX4_lineFact 62 = .ok (.iload_n 1, 1) := by decide +kernel
theorem dX4_lineFact_63 : decode cX4_lineFact 63 = .ok (.invokevirtual 147, 3) := by decide +kernel
theorem dX4_lineFact_66 : decode cX4_lineFact 66 = .ok (.ireturn, 1) := by decide +kernel
theorem dX4_lineFact_67 : decode cX4_lineFact 67 = .ok (.aload_n 0, 1) := by decide +kernel
theorem dX4_lineFact_68 : decode cX4_lineFact 68 = .ok (.getfield 21, 3) := by decide +kernel
theorem dX4_lineFact_71 : decode cX4_lineFact 71 = .ok (.iload_n 1, 1) := by decide +kernel
theorem dX4_lineFact_72 : decode cX4_lineFact 72 = .ok (.invokevirtual 151, 3) := by decide +kernel
theorem dX4_lineFact_75 : decode cX4_lineFact 75 = .ok (.ireturn, 1) := by decide +kernel
theorem dX4_lineFact_76 : decode cX4_lineFact 76 = .ok (.aload_n 0, 1) := by decide +kernel
theorem dX4_lineFact_77 : decode cX4_lineFact 77 = .ok (.getfield 28, 3) := by decide +kernel
theorem dX4_lineFact_80 : decode cX4_lineFact 80 = .ok (.iload_n 1, 1) := by decide +kernel
theorem dX4_lineFact_81 : decode cX4_lineFact 81 = .ok (.invokevirtual 141, 3) := by decide +kernel
theorem dX4_lineFact_84 : decode cX4_lineFact 84 = .ok (.ifCond .eq 7, 3) := by decide +kernel
theorem dX4_lineFact_87 : decode cX4_lineFact 87 = .ok (.iconst 1, 1) := by decide +kernel
theorem dX4_lineFact_88 : decode cX4_lineFact 88 = .ok (.goto 4, 3) := by decide +kernel
theorem dX4_lineFact_91 : decode cX4_lineFact 91 = .ok (.iconst 0, 1) := by decide +kernel
theorem dX4_lineFact_92 : decode cX4_lineFact 92 = .ok (.ireturn, 1) := by decide +kernel
theorem dX4_lineFact_93 : decode cX4_lineFact 93 = .ok (.aload_n 0, 1) := by decide +kernel
theorem dX4_lineFact_94 : decode cX4_lineFact 94 = .ok (.getfield 28, 3) := by decide +kernel
theorem dX4_lineFact_97 : decode cX4_lineFact 97 = .ok (.iload_n 1, 1) := by decide +kernel
theorem dX4_lineFact_98 : decode cX4_lineFact 98 = .ok (.invokevirtual 141, 3) := by decide +kernel
theorem dX4_lineFact_101 : decode cX4_lineFact 101 = .ok (.ifCond .eq 14, 3) := by decide +kernel
theorem dX4_lineFact_104 : decode cX4_lineFact 104 = .ok (.aload_n 0, 1) := by decide +kernel
theorem dX4_lineFact_105 : decode cX4_lineFact 105 = .ok (.getfield 21, 3) := by decide +kernel
theorem dX4_lineFact_108 : decode cX4_lineFact 108 = .ok (.iload_n 1, 1) := by decide +kernel
theorem dX4_lineFact_109 : decode cX4_lineFact 109 = .ok (.invokevirtual 147, 3) := by decide +kernel
theorem dX4_lineFact_112 : decode cX4_lineFact 112 = .ok (.goto 4, 3) := by decide +kernel
theorem dX4_lineFact_115 : decode cX4_lineFact 115 = .ok (.iconst (-1), 1) := by decide +kernel
theorem dX4_lineFact_116 : decode cX4_lineFact 116 = .ok (.ireturn, 1) := by decide +kernel
theorem dX4_lineFact_117 : decode cX4_lineFact 117 = .ok (.aload_n 0, 1) := by decide +kernel
theorem dX4_lineFact_118 : decode cX4_lineFact 118 = .ok (.getfield 28, 3) := by decide +kernel
theorem dX4_lineFact_121 : decode cX4_lineFact 121 = .ok (.iload_n 1, 1) := by decide +kernel
theorem dX4_lineFact_122 : decode cX4_lineFact 122 = .ok (.invokevirtual 141, 3) := by decide +kernel
theorem dX4_lineFact_125 : decode cX4_lineFact 125 = .ok (.ifCond .eq 14, 3) := by decide +kernel
theorem dX4_lineFact_128 : decode cX4_lineFact 128 = .ok (.aload_n 0, 1) := by decide +kernel
theorem dX4_lineFact_129 : decode cX4_lineFact 129 = .ok (.getfield 21, 3) := by decide +kernel
theorem dX4_lineFact_132 : decode cX4_lineFact 132 = .ok (.iload_n 1, 1) := by decide +kernel
theorem dX4_lineFact_133 : decode cX4_lineFact 133 = .ok (.invokevirtual 151, 3) := by decide +kernel
theorem dX4_lineFact_136 : decode cX4_lineFact 136 = .ok (.goto 4, 3) := by decide +kernel
theorem dX4_lineFact_139 : decode cX4_lineFact 139 = .ok (.iconst (-1), 1) := by decide +kernel
theorem dX4_lineFact_140 : decode cX4_lineFact 140 = .ok (.ireturn, 1) := by decide +kernel
theorem dX4_lineFact_141 : decode cX4_lineFact 141 = .ok (.aload_n 0, 1) := by decide +kernel
theorem dX4_lineFact_142 : decode cX4_lineFact 142 = .ok (.getfield 28, 3) := by decide +kernel
theorem dX4_lineFact_145 : decode cX4_lineFact 145 = .ok (.iload_n 1, 1) := by decide +kernel
theorem dX4_lineFact_146 : decode cX4_lineFact 146 = .ok (.invokevirtual 144, 3) := by decide +kernel
theorem dX4_lineFact_149 : decode cX4_lineFact 149 = .ok (.ifCond .eq 7, 3) := by decide +kernel
theorem dX4_lineFact_152 : decode cX4_lineFact 152 = .ok (.iconst 1, 1) := by decide +kernel
theorem dX4_lineFact_153 : decode cX4_lineFact 153 = .ok (.goto 4, 3) := by decide +kernel
theorem dX4_lineFact_156 : decode cX4_lineFact 156 = .ok (.iconst 0, 1) := by decide +kernel
theorem dX4_lineFact_157 : decode cX4_lineFact 157 = .ok (.ireturn, 1) := by decide +kernel
theorem dX4_number_0 : decode cX4_number 0 = .ok (.iload_n 1, 1) := by decide +kernel
theorem dX4_number_1 : decode cX4_number 1 = .ok (.tableswitch 147 0 12 #[67, 72, 77, 85, 93, 98, 103, 108, 113, 118, 126, 134, 139], 67) := by decide +kernel
theorem dX4_number_68 : decode cX4_number 68 = .ok (.aload_n 0, 1) := by decide +kernel
theorem dX4_number_69 : decode cX4_number 69 = .ok (.getfield 66, 3) := by decide +kernel
theorem dX4_number_72 : decode cX4_number 72 = .ok (.ireturn, 1) := by decide +kernel
theorem dX4_number_73 : decode cX4_number 73 = .ok (.aload_n 0, 1) := by decide +kernel
theorem dX4_number_74 : decode cX4_number 74 = .ok (.getfield 69, 3) := by decide +kernel
theorem dX4_number_77 : decode cX4_number 77 = .ok (.ireturn, 1) := by decide +kernel
theorem dX4_number_78 : decode cX4_number 78 = .ok (.aload_n 0, 1) := by decide +kernel
theorem dX4_number_79 : decode cX4_number 79 = .ok (.getfield 28, 3) := by decide +kernel
theorem dX4_number_82 : decode cX4_number 82 = .ok (.getfield 232, 3) := by decide +kernel
theorem dX4_number_85 : decode cX4_number 85 = .ok (.ireturn, 1) := by decide +kernel
theorem dX4_number_86 : decode cX4_number 86 = .ok (.aload_n 0, 1) := by decide +kernel
theorem dX4_number_87 : decode cX4_number 87 = .ok (.getfield 28, 3) := by decide +kernel
theorem dX4_number_90 : decode cX4_number 90 = .ok (.getfield 235, 3) := by decide +kernel
theorem dX4_number_93 : decode cX4_number 93 = .ok (.ireturn, 1) := by decide +kernel
theorem dX4_number_94 : decode cX4_number 94 = .ok (.aload_n 0, 1) := by decide +kernel
theorem dX4_number_95 : decode cX4_number 95 = .ok (.getfield 72, 3) := by decide +kernel
theorem dX4_number_98 : decode cX4_number 98 = .ok (.ireturn, 1) := by decide +kernel
theorem dX4_number_99 : decode cX4_number 99 = .ok (.aload_n 0, 1) := by decide +kernel
theorem dX4_number_100 : decode cX4_number 100 = .ok (.getfield 75, 3) := by decide +kernel
theorem dX4_number_103 : decode cX4_number 103 = .ok (.ireturn, 1) := by decide +kernel
theorem dX4_number_104 : decode cX4_number 104 = .ok (.aload_n 0, 1) := by decide +kernel
theorem dX4_number_105 : decode cX4_number 105 = .ok (.getfield 78, 3) := by decide +kernel
theorem dX4_number_108 : decode cX4_number 108 = .ok (.ireturn, 1) := by decide +kernel
theorem dX4_number_109 : decode cX4_number 109 = .ok (.aload_n 0, 1) := by decide +kernel
theorem dX4_number_110 : decode cX4_number 110 = .ok (.getfield 81, 3) := by decide +kernel
theorem dX4_number_113 : decode cX4_number 113 = .ok (.ireturn, 1) := by decide +kernel
theorem dX4_number_114 : decode cX4_number 114 = .ok (.aload_n 0, 1) := by decide +kernel
theorem dX4_number_115 : decode cX4_number 115 = .ok (.getfield 84, 3) := by decide +kernel
theorem dX4_number_118 : decode cX4_number 118 = .ok (.ireturn, 1) := by decide +kernel
theorem dX4_number_119 : decode cX4_number 119 = .ok (.aload_n 0, 1) := by decide +kernel
theorem dX4_number_120 : decode cX4_number 120 = .ok (.getfield 28, 3) := by decide +kernel
theorem dX4_number_123 : decode cX4_number 123 = .ok (.getfield 238, 3) := by decide +kernel
theorem dX4_number_126 : decode cX4_number 126 = .ok (.ireturn, 1) := by decide +kernel
theorem dX4_number_127 : decode cX4_number 127 = .ok (.aload_n 0, 1) := by decide +kernel
theorem dX4_number_128 : decode cX4_number 128 = .ok (.getfield 28, 3) := by decide +kernel
theorem dX4_number_131 : decode cX4_number 131 = .ok (.getfield 241, 3) := by decide +kernel
theorem dX4_number_134 : decode cX4_number 134 = .ok (.ireturn, 1) := by decide +kernel
theorem dX4_number_135 : decode cX4_number 135 = .ok (.aload_n 0, 1) := by decide +kernel
theorem dX4_number_136 : decode cX4_number 136 = .ok (.getfield 87, 3) := by decide +kernel
theorem dX4_number_139 : decode cX4_number 139 = .ok (.ireturn, 1) := by decide +kernel
theorem dX4_number_140 : decode cX4_number 140 = .ok (.aload_n 0, 1) := by decide +kernel
theorem dX4_number_141 : decode cX4_number 141 = .ok (.getfield 35, 3) := by decide +kernel
theorem dX4_number_144 : decode cX4_number 144 = .ok (.invokevirtual 110, 3) := by decide +kernel
theorem dX4_number_147 : decode cX4_number 147 = .ok (.ireturn, 1) := by decide +kernel
theorem dX4_number_148 : decode cX4_number 148 = .ok (.aload_n 0, 1) := by decide +kernel
theorem dX4_number_149 : decode cX4_number 149 = .ok (.getfield 42, 3) := by decide +kernel
theorem dX4_number_152 : decode cX4_number 152 = .ok (.getfield 62, 3) := by decide +kernel
theorem dX4_number_155 : decode cX4_number 155 = .ok (.ireturn, 1) := by decide +kernel
theorem dX5_init_0 : decode cX5_init 0 = .ok (.aload_n 0, 1) := by decide +kernel
theorem dX5_init_1 : decode cX5_init 1 = .ok (.invokespecial 3, 3) := by decide +kernel
theorem dX5_init_4 : decode cX5_init 4 = .ok (.aload_n 0, 1) := by decide +kernel
theorem dX5_init_5 : decode cX5_init 5 = .ok (.bipush 34, 2) := by decide +kernel
theorem dX5_init_7 : decode cX5_init 7 = .ok (.newarray .int, 2) := by decide +kernel
theorem dX5_init_9 : decode cX5_init 9 = .ok (.putfield 9, 3) := by decide +kernel
theorem dX5_init_12 : decode cX5_init 12 = .ok (.aload_n 0, 1) := by decide +kernel
theorem dX5_init_13 : decode cX5_init 13 = .ok (.bipush 34, 2) := by decide +kernel
theorem dX5_init_15 : decode cX5_init 15 = .ok (.newarray .int, 2) := by decide +kernel
theorem dX5_init_17 : decode cX5_init 17 = .ok (.putfield 15, 3) := by decide +kernel
theorem dX5_init_20 : decode cX5_init 20 = .ok (.aload_n 0, 1) := by decide +kernel
theorem dX5_init_21 : decode cX5_init 21 = .ok (.bipush 34, 2) := by decide +kernel
theorem dX5_init_23 : decode cX5_init 23 = .ok (.newarray .int, 2) := by decide +kernel
theorem dX5_init_25 : decode cX5_init 25 = .ok (.putfield 18, 3) := by decide +kernel
theorem dX5_init_28 : decode cX5_init 28 = .ok (.aload_n 0, 1) := by decide +kernel
theorem dX5_init_29 : decode cX5_init 29 = .ok (.getstatic 21, 3) := by decide +kernel
theorem dX5_init_32 : decode cX5_init 32 = .ok (.putfield 27, 3) := by decide +kernel
theorem dX5_init_35 : decode cX5_init 35 = .ok (.return_, 1) := by decide +kernel
theorem dX5_isTicks_0 : decode cX5_isTicks 0 = .ok (.aload_n 0, 1) := by decide +kernel
theorem dX5_isTicks_1 : decode cX5_isTicks 1 = .ok (.getfield 9, 3) := by decide +kernel
theorem dX5_isTicks_4 : decode cX5_isTicks 4 = .ok (.iload_n 1, 1) := by decide +kernel
theorem dX5_isTicks_5 : decode cX5_isTicks 5 = .ok (.iaload, 1) := by decide +kernel
theorem dX5_isTicks_6 : decode cX5_isTicks 6 = .ok (.iconst (-1), 1) := by decide +kernel
theorem dX5_isTicks_7 : decode cX5_isTicks 7 = .ok (.if_icmp .ne 7, 3) := by decide +kernel
theorem dX5_isTicks_10 : decode cX5_isTicks 10 = .ok (.iconst 1, 1) := by decide +kernel
theorem dX5_isTicks_11 : decode cX5_isTicks 11 = .ok (.goto 4, 3) := by decide +kernel
theorem dX5_isTicks_14 : decode cX5_isTicks 14 = .ok (.iconst 0, 1) := by decide +kernel
theorem dX5_isTicks_15 : decode cX5_isTicks 15 = .ok (.ireturn, 1) := by decide +kernel
theorem dX5_readAll_0 : decode cX5_readAll 0 = .ok (.aload_n 0, 1) := by decide +kernel
theorem dX5_readAll_1 : decode cX5_readAll 1 = .ok (.iconst 0, 1) := by decide +kernel
theorem dX5_readAll_2 : decode cX5_readAll 2 = .ok (.putfield 30, 3) := by decide +kernel
theorem dX5_readAll_5 : decode cX5_readAll 5 = .ok (.aload_n 0, 1) := by decide +kernel
theorem dX5_readAll_6 : decode cX5_readAll 6 = .ok (.getstatic 21, 3) := by decide +kernel
theorem dX5_readAll_9 : decode cX5_readAll 9 = .ok (.putfield 27, 3) := by decide +kernel
theorem dX5_readAll_12 : decode cX5_readAll 12 = .ok (.iconst 0, 1) := by decide +kernel
theorem dX5_readAll_13 : decode cX5_readAll 13 = .ok (.istore_n 3, 1) := by decide +kernel
theorem dX5_readAll_14 : decode cX5_readAll 14 = .ok (.iload_n 3, 1) := by decide +kernel
theorem dX5_readAll_15 : decode cX5_readAll 15 = .ok (.iload_n 2, 1) := by decide +kernel
theorem dX5_readAll_16 : decode cX5_readAll 16 = .ok (.if_icmp .gt 47, 3) := by decide +kernel
theorem dX5_readAll_19 : decode cX5_readAll 19 = .ok (.iload_n 3, 1) := by decide +kernel
theorem dX5_readAll_20 : decode cX5_readAll 20 = .ok (.iload_n 2, 1) := by decide +kernel
theorem dX5_readAll_21 : decode cX5_readAll 21 = .ok (.if_icmp .ge 15, 3) := by decide +kernel
theorem dX5_readAll_24 : decode cX5_readAll 24 = .ok (.iload_n 3, 1) := by decide +kernel
theorem dX5_readAll_25 : decode cX5_readAll 25 = .ok (.aload_n 1, 1) := by decide +kernel
theorem dX5_readAll_26 : decode cX5_readAll 26 = .ok (.arraylength, 1) := by decide +kernel
theorem dX5_readAll_27 : decode cX5_readAll 27 = .ok (.if_icmp .ge 9, 3) := by decide +kernel
theorem dX5_readAll_30 : decode cX5_readAll 30 = .ok (.aload_n 1, 1) := by decide +kernel
theorem dX5_readAll_31 : decode cX5_readAll 31 = .ok (.iload_n 3, 1) := by decide +kernel
theorem dX5_readAll_32 : decode cX5_readAll 32 = .ok (.baload, 1) := by decide +kernel
theorem dX5_readAll_33 : decode cX5_readAll 33 = .ok (.goto 4, 3) := by decide +kernel
theorem dX5_readAll_36 : decode cX5_readAll 36 = .ok (.iconst (-1), 1) := by decide +kernel
theorem dX5_readAll_37 : decode cX5_readAll 37 = .ok (.istore 4, 2) := by decide +kernel
theorem dX5_readAll_39 : decode cX5_readAll 39 = .ok (.aload_n 0, 1) := by decide +kernel
theorem dX5_readAll_40 : decode cX5_readAll 40 = .ok (.iload 4, 2) := by decide +kernel
theorem dX5_readAll_42 : decode cX5_readAll 42 = .ok (.iload_n 3, 1) := by decide +kernel
theorem dX5_readAll_43 : decode cX5_readAll 43 = .ok (.invokevirtual 34, 3) := by decide +kernel
theorem dX5_readAll_46 : decode cX5_readAll 46 = .ok (.istore 5, 2) := by decide +kernel
theorem dX5_readAll_48 : decode cX5_readAll 48 = .ok (.iload 5, 2) := by decide +kernel
theorem dX5_readAll_50 : decode cX5_readAll 50 = .ok (.iconst (-1), 1) := by decide +kernel
theorem dX5_readAll_51 : decode cX5_readAll 51 = .ok (.if_icmp .eq 6, 3) := by decide +kernel
theorem dX5_readAll_54 : decode cX5_readAll 54 = .ok (.iload 5, 2) := by decide +kernel
theorem dX5_readAll_56 : decode cX5_readAll 56 = .ok (.ireturn, 1) := by decide +kernel
theorem dX5_readAll_57 : decode cX5_readAll 57 = .ok (.iinc 3 1, 3) := by decide +kernel
theorem dX5_readAll_60 : decode cX5_readAll 60 = .ok (.goto (-46), 3) := by decide +kernel
theorem dX5_readAll_63 : decode cX5_readAll 63 = .ok (.iconst (-1), 1) := by decide +kernel
theorem dX5_readAll_64 : decode cX5_readAll 64 = .ok (.ireturn, 1) := by decide +kernel
theorem dX5_take_0 : decode cX5_take 0 = .ok (.aload_n 0, 1) := by decide +kernel
theorem dX5_take_1 : decode cX5_take 1 = .ok (.getfield 27, 3) := by decide +kernel
theorem dX5_take_4 : decode cX5_take 4 = .ok (.getstatic 21, 3) := by decide +kernel
theorem dX5_take_7 : decode cX5_take 7 = .ok (.if_acmp .ne 17, 3) := by decide +kernel
theorem dX5_take_10 : decode cX5_take 10 = .ok (.aload_n 0, 1) := by decide +kernel
theorem dX5_take_11 : decode cX5_take 11 = .ok (.iload_n 1, 1) := by decide +kernel
theorem dX5_take_12 : decode cX5_take 12 = .ok (.invokevirtual 38, 3) := by decide +kernel
theorem dX5_take_15 : decode cX5_take 15 = .ok (.ifCond .eq 7, 3) := by decide +kernel
theorem dX5_take_18 : decode cX5_take 18 = .ok (.iconst (-1), 1) := by decide +kernel
theorem dX5_take_19 : decode cX5_take 19 = .ok (.goto 4, 3) := by decide +kernel
theorem dX5_take_22 : decode cX5_take 22 = .ok (.iload_n 2, 1) := by decide +kernel
theorem dX5_take_23 : decode cX5_take 23 = .ok (.ireturn, 1) := by decide +kernel
theorem dX5_take_24 : decode cX5_take 24 = .ok (.aload_n 0, 1) := by decide +kernel
theorem dX5_take_25 : decode cX5_take 25 = .ok (.getfield 27, 3) := by decide +kernel
theorem dX5_take_28 : decode cX5_take 28 = .ok (.getstatic 42, 3) := by decide +kernel
theorem dX5_take_31 : decode cX5_take 31 = .ok (.if_acmp .ne 17, 3) := by decide +kernel
theorem dX5_take_34 : decode cX5_take 34 = .ok (.aload_n 0, 1) := by decide +kernel
theorem dX5_take_35 : decode cX5_take 35 = .ok (.iload_n 1, 1) := by decide +kernel
theorem dX5_take_36 : decode cX5_take 36 = .ok (.invokevirtual 45, 3) := by decide +kernel
theorem dX5_take_39 : decode cX5_take 39 = .ok (.ifCond .eq 7, 3) := by decide +kernel
theorem dX5_take_42 : decode cX5_take 42 = .ok (.iconst (-1), 1) := by decide +kernel
theorem dX5_take_43 : decode cX5_take 43 = .ok (.goto 4, 3) := by decide +kernel
theorem dX5_take_46 : decode cX5_take 46 = .ok (.iload_n 2, 1) := by decide +kernel
theorem dX5_take_47 : decode cX5_take 47 = .ok (.ireturn, 1) := by decide +kernel
theorem dX5_take_48 : decode cX5_take 48 = .ok (.aload_n 0, 1) := by decide +kernel
theorem dX5_take_49 : decode cX5_take 49 = .ok (.getfield 27, 3) := by decide +kernel
theorem dX5_take_52 : decode cX5_take 52 = .ok (.getstatic 48, 3) := by decide +kernel
theorem dX5_take_55 : decode cX5_take 55 = .ok (.if_acmp .ne 17, 3) := by decide +kernel
theorem dX5_take_58 : decode cX5_take 58 = .ok (.aload_n 0, 1) := by decide +kernel
theorem dX5_take_59 : decode cX5_take 59 = .ok (.iload_n 1, 1) := by decide +kernel
theorem dX5_take_60 : decode cX5_take 60 = .ok (.invokevirtual 51, 3) := by decide +kernel
theorem dX5_take_63 : decode cX5_take 63 = .ok (.ifCond .eq 7, 3) := by decide +kernel
theorem dX5_take_66 : decode cX5_take 66 = .ok (.iconst (-1), 1) := by decide +kernel
theorem dX5_take_67 : decode cX5_take 67 = .ok (.goto 4, 3) := by decide +kernel
theorem dX5_take_70 : decode cX5_take 70 = .ok (.iload_n 2, 1) := by decide +kernel
theorem dX5_take_71 : decode cX5_take 71 = .ok (.ireturn, 1) := by decide +kernel
theorem dX5_take_72 : decode cX5_take 72 = .ok (.aload_n 0, 1) := by decide +kernel
theorem dX5_take_73 : decode cX5_take 73 = .ok (.iload_n 1, 1) := by decide +kernel
theorem dX5_take_74 : decode cX5_take 74 = .ok (.iload_n 2, 1) := by decide +kernel
theorem dX5_take_75 : decode cX5_take 75 = .ok (.invokevirtual 54, 3) := by decide +kernel
theorem dX5_take_78 : decode cX5_take 78 = .ok (.ireturn, 1) := by decide +kernel
theorem dX5_takeKind_0 : decode cX5_takeKind 0 = .ok (.iload_n 1, 1) := by decide +kernel
theorem dX5_takeKind_1 : decode cX5_takeKind 1 = .ok (.bipush 116, 2) := by decide +kernel
theorem dX5_takeKind_3 : decode cX5_takeKind 3 = .ok (.if_icmp .ne 17, 3) := by decide +kernel
theorem dX5_takeKind_6 : decode cX5_takeKind 6 = .ok (.aload_n 0, 1) := by decide +kernel
theorem dX5_takeKind_7 : decode cX5_takeKind 7 = .ok (.iconst (-1), 1) := by decide +kernel
theorem dX5_takeKind_8 : decode cX5_takeKind 8 = .ok (.putfield 57, 3) := by decide +kernel
theorem dX5_takeKind_11 : decode cX5_takeKind 11 = .ok (.aload_n 0, 1) := by decide +kernel
theorem dX5_takeKind_12 : decode cX5_takeKind 12 = .ok (.getstatic 60, 3) := by decide +kernel
theorem dX5_takeKind_15 : decode cX5_takeKind 15 = .ok (.invokevirtual 63, 3) := by decide +kernel
theorem dX5_takeKind_18 : decode cX5_takeKind 18 = .ok (.iconst 1, 1) := by decide +kernel
theorem dX5_takeKind_19 : decode cX5_takeKind 19 = .ok (.ireturn, 1) := by decide +kernel
theorem dX5_takeKind_20 : decode cX5_takeKind 20 = .ok (.iload_n 1, 1) := by decide +kernel
theorem dX5_takeKind_21 : decode cX5_takeKind 21 = .ok (.bipush 114, 2) := by decide +kernel
theorem dX5_takeKind_23 : decode cX5_takeKind 23 = .ok (.if_icmp .eq 9, 3) := by decide +kernel
theorem dX5_takeKind_26 : decode cX5_takeKind 26 = .ok (.iload_n 1, 1) := by decide +kernel
theorem dX5_takeKind_27 : decode cX5_takeKind 27 = .ok (.bipush 119, 2) := by decide +kernel
theorem dX5_takeKind_29 : decode cX5_takeKind 29 = .ok (.if_icmp .ne 27, 3) := by decide +kernel
theorem dX5_takeKind_32 : decode cX5_takeKind 32 = .ok (.aload_n 0, 1) := by decide +kernel
theorem dX5_takeKind_33 : decode cX5_takeKind 33 = .ok (.iload_n 1, 1) := by decide +kernel
theorem dX5_takeKind_34 : decode cX5_takeKind 34 = .ok (.bipush 119, 2) := by decide +kernel
theorem dX5_takeKind_36 : decode cX5_takeKind 36 = .ok (.if_icmp .ne 7, 3) := by decide +kernel
theorem dX5_takeKind_39 : decode cX5_takeKind 39 = .ok (.iconst 1, 1) := by decide +kernel
theorem dX5_takeKind_40 : decode cX5_takeKind 40 = .ok (.goto 4, 3) := by decide +kernel
theorem dX5_takeKind_43 : decode cX5_takeKind 43 = .ok (.iconst 0, 1) := by decide +kernel
theorem dX5_takeKind_44 : decode cX5_takeKind 44 = .ok (.putfield 67, 3) := by decide +kernel
theorem dX5_takeKind_47 : decode cX5_takeKind 47 = .ok (.aload_n 0, 1) := by decide +kernel
theorem dX5_takeKind_48 : decode cX5_takeKind 48 = .ok (.getstatic 42, 3) := by decide +kernel
theorem dX5_takeKind_51 : decode cX5_takeKind 51 = .ok (.putfield 27, 3) := by decide +kernel
theorem dX5_takeKind_54 : decode cX5_takeKind 54 = .ok (.iconst 1, 1) := by decide +kernel
theorem dX5_takeKind_55 : decode cX5_takeKind 55 = .ok (.ireturn, 1) := by decide +kernel
theorem dX5_takeKind_56 : decode cX5_takeKind 56 = .ok (.iload_n 1, 1) := by decide +kernel
theorem dX5_takeKind_57 : decode cX5_takeKind 57 = .ok (.iconst (-1), 1) := by decide +kernel
theorem dX5_takeKind_58 : decode cX5_takeKind 58 = .ok (.if_icmp .ne 7, 3) := by decide +kernel
theorem dX5_takeKind_61 : decode cX5_takeKind 61 = .ok (.iconst 1, 1) := by decide +kernel
theorem dX5_takeKind_62 : decode cX5_takeKind 62 = .ok (.goto 4, 3) := by decide +kernel
theorem dX5_takeKind_65 : decode cX5_takeKind 65 = .ok (.iconst 0, 1) := by decide +kernel
theorem dX5_takeKind_66 : decode cX5_takeKind 66 = .ok (.ireturn, 1) := by decide +kernel
theorem dX5_takeCache_0 : decode cX5_takeCache 0 = .ok (.iload_n 1, 1) := by decide +kernel
theorem dX5_takeCache_1 : decode cX5_takeCache 1 = .ok (.bipush 48, 2) := by decide +kernel
theorem dX5_takeCache_3 : decode cX5_takeCache 3 = .ok (.if_icmp .lt 9, 3) := by decide +kernel
theorem dX5_takeCache_6 : decode cX5_takeCache 6 = .ok (.iload_n 1, 1) := by decide +kernel
theorem dX5_takeCache_7 : decode cX5_takeCache 7 = .ok (.bipush 53, 2) := by decide +kernel
theorem dX5_takeCache_9 : decode cX5_takeCache 9 = .ok (.if_icmp .le 5, 3) := by decide +kernel
theorem dX5_takeCache_12 : decode cX5_takeCache 12 = .ok (.iconst 0, 1) := by decide +kernel
theorem dX5_takeCache_13 : decode cX5_takeCache 13 = .ok (.ireturn, 1) := by decide +kernel
theorem dX5_takeCache_14 : decode cX5_takeCache 14 = .ok (.aload_n 0, 1) := by decide +kernel
theorem dX5_takeCache_15 : decode cX5_takeCache 15 = .ok (.iload_n 1, 1) := by decide +kernel
theorem dX5_takeCache_16 : decode cX5_takeCache 16 = .ok (.bipush 48, 2) := by decide +kernel
theorem dX5_takeCache_18 : decode cX5_takeCache 18 = .ok (.isub, 1) := by decide +kernel
theorem dX5_takeCache_19 : decode cX5_takeCache 19 = .ok (.putfield 57, 3) := by decide +kernel
theorem dX5_takeCache_22 : decode cX5_takeCache 22 = .ok (.aload_n 0, 1) := by decide +kernel
theorem dX5_takeCache_23 : decode cX5_takeCache 23 = .ok (.getstatic 48, 3) := by decide +kernel
theorem dX5_takeCache_26 : decode cX5_takeCache 26 = .ok (.putfield 27, 3) := by decide +kernel
theorem dX5_takeCache_29 : decode cX5_takeCache 29 = .ok (.iconst 1, 1) := by decide +kernel
theorem dX5_takeCache_30 : decode cX5_takeCache 30 = .ok (.ireturn, 1) := by decide +kernel
theorem dX5_takeColon_0 : decode cX5_takeColon 0 = .ok (.iload_n 1, 1) := by decide +kernel
theorem dX5_takeColon_1 : decode cX5_takeColon 1 = .ok (.bipush 58, 2) := by decide +kernel
theorem dX5_takeColon_3 : decode cX5_takeColon 3 = .ok (.if_icmp .eq 5, 3) := by decide +kernel
theorem dX5_takeColon_6 : decode cX5_takeColon 6 = .ok (.iconst 0, 1) := by decide +kernel
theorem dX5_takeColon_7 : decode cX5_takeColon 7 = .ok (.ireturn, 1) := by decide +kernel
theorem dX5_takeColon_8 : decode cX5_takeColon 8 = .ok (.aload_n 0, 1) := by decide +kernel
theorem dX5_takeColon_9 : decode cX5_takeColon 9 = .ok (.getstatic 71, 3) := by decide +kernel
theorem dX5_takeColon_12 : decode cX5_takeColon 12 = .ok (.invokevirtual 63, 3) := by decide +kernel
theorem dX5_takeColon_15 : decode cX5_takeColon 15 = .ok (.iconst 1, 1) := by decide +kernel
theorem dX5_takeColon_16 : decode cX5_takeColon 16 = .ok (.ireturn, 1) := by decide +kernel
theorem dX5_startNumber_0 : decode cX5_startNumber 0 = .ok (.aload_n 0, 1) := by decide +kernel
theorem dX5_startNumber_1 : decode cX5_startNumber 1 = .ok (.aload_n 1, 1) := by decide +kernel
theorem dX5_startNumber_2 : decode cX5_startNumber 2 = .ok (.putfield 27, 3) := by decide +kernel
theorem dX5_startNumber_5 : decode cX5_startNumber 5 = .ok (.aload_n 0, 1) := by decide +kernel
theorem dX5_startNumber_6 : decode cX5_startNumber 6 = .ok (.iconst 0, 1) := by decide +kernel
theorem dX5_startNumber_7 : decode cX5_startNumber 7 = .ok (.putfield 74, 3) := by decide +kernel
theorem dX5_startNumber_10 : decode cX5_startNumber 10 = .ok (.aload_n 0, 1) := by decide +kernel
theorem dX5_startNumber_11 : decode cX5_startNumber 11 = .ok (.iconst 0, 1) := by decide +kernel
theorem dX5_startNumber_12 : decode cX5_startNumber 12 = .ok (.putfield 77, 3) := by decide +kernel
theorem dX5_startNumber_15 : decode cX5_startNumber 15 = .ok (.return_, 1) := by decide +kernel
theorem dX5_takeOfNumber_0 : decode cX5_takeOfNumber 0 = .ok (.iload_n 1, 1) := by decide +kernel
theorem dX5_takeOfNumber_1 : decode cX5_takeOfNumber 1 = .ok (.bipush 48, 2) := by decide +kernel
theorem dX5_takeOfNumber_3 : decode cX5_takeOfNumber 3 = .ok (.if_icmp .lt 19, 3) := by decide +kernel
theorem dX5_takeOfNumber_6 : decode cX5_takeOfNumber 6 = .ok (.iload_n 1, 1) := by decide +kernel
theorem dX5_takeOfNumber_7 : decode cX5_takeOfNumber 7 = .ok (.bipush 57, 2) := by decide +kernel
theorem dX5_takeOfNumber_9 : decode cX5_takeOfNumber 9 = .ok (.if_icmp .gt 13, 3) := by decide +kernel
theorem dX5_takeOfNumber_12 : decode cX5_takeOfNumber 12 = .ok (.aload_n 0, 1) := by decide +kernel
theorem dX5_takeOfNumber_13 : decode cX5_takeOfNumber 13 = .ok (.iload_n 1, 1) := by decide +kernel
theorem dX5_takeOfNumber_14 : decode cX5_takeOfNumber 14 = .ok (.bipush 48, 2) := by decide +kernel
theorem dX5_takeOfNumber_16 : decode cX5_takeOfNumber 16 = .ok (.isub, 1) := by decide +kernel
theorem dX5_takeOfNumber_17 : decode cX5_takeOfNumber 17 = .ok (.iload_n 2, 1) := by decide +kernel
theorem dX5_takeOfNumber_18 : decode cX5_takeOfNumber 18 = .ok (.invokevirtual 80, 3) := by decide +kernel
theorem dX5_takeOfNumber_21 : decode cX5_takeOfNumber 21 = .ok (.ireturn, 1) := by decide +kernel
theorem dX5_takeOfNumber_22 : decode cX5_takeOfNumber 22 = .ok (.aload_n 0, 1) := by decide +kernel
theorem dX5_takeOfNumber_23 : decode cX5_takeOfNumber 23 = .ok (.getfield 77, 3) := by decide +kernel
theorem dX5_takeOfNumber_26 : decode cX5_takeOfNumber 26 = .ok (.ifCond .ne 5, 3) := by decide +kernel
theorem dX5_takeOfNumber_29 : decode cX5_takeOfNumber 29 = .ok (.iload_n 2, 1) := by decide +kernel
theorem dX5_takeOfNumber_30 : decode cX5_takeOfNumber 30 = .ok (.ireturn, 1) := by decide +kernel
theorem dX5_takeOfNumber_31 : decode cX5_takeOfNumber 31 = .ok (.aload_n 0, 1) := by decide +kernel
theorem dX5_takeOfNumber_32 : decode cX5_takeOfNumber 32 = .ok (.getfield 74, 3) := by decide +kernel
theorem dX5_takeOfNumber_35 : decode cX5_takeOfNumber 35 = .ok (.aload_n 0, 1) := by decide +kernel
theorem dX5_takeOfNumber_36 : decode cX5_takeOfNumber 36 = .ok (.getfield 27, 3) := by decide +kernel
theorem dX5_takeOfNumber_39 : decode cX5_takeOfNumber 39 = .ok (.getfield 83, 3) := by decide +kernel
theorem dX5_takeOfNumber_42 : decode cX5_takeOfNumber 42 = .ok (.if_icmp .lt 17, 3) := by decide +kernel
theorem dX5_takeOfNumber_45 : decode cX5_takeOfNumber 45 = .ok (.aload_n 0, 1) := by decide +kernel
theorem dX5_takeOfNumber_46 : decode cX5_takeOfNumber 46 = .ok (.getfield 74, 3) := by decide +kernel
theorem dX5_takeOfNumber_49 : decode cX5_takeOfNumber 49 = .ok (.aload_n 0, 1) := by decide +kernel
theorem dX5_takeOfNumber_50 : decode cX5_takeOfNumber 50 = .ok (.getfield 27, 3) := by decide +kernel
theorem dX5_takeOfNumber_53 : decode cX5_takeOfNumber 53 = .ok (.getfield 86, 3) := by decide +kernel
theorem dX5_takeOfNumber_56 : decode cX5_takeOfNumber 56 = .ok (.if_icmp .le 8, 3) := by decide +kernel
theorem dX5_takeOfNumber_59 : decode cX5_takeOfNumber 59 = .ok (.aload_n 0, 1) := by decide +kernel
theorem dX5_takeOfNumber_60 : decode cX5_takeOfNumber 60 = .ok (.getfield 89, 3) := by decide +kernel
theorem dX5_takeOfNumber_63 : decode cX5_takeOfNumber 63 = .ok (.ireturn, 1) := by decide +kernel
theorem dX5_takeOfNumber_64 : decode cX5_takeOfNumber 64 = .ok (.aload_n 0, 1) := by decide +kernel
theorem dX5_takeOfNumber_65 : decode cX5_takeOfNumber 65 = .ok (.getfield 67, 3) := by decide +kernel
theorem dX5_takeOfNumber_68 : decode cX5_takeOfNumber 68 = .ok (.ifCond .eq 17, 3) := by decide +kernel
theorem dX5_takeOfNumber_71 : decode cX5_takeOfNumber 71 = .ok (.aload_n 0, 1) := by decide +kernel
theorem dX5_takeOfNumber_72 : decode cX5_takeOfNumber 72 = .ok (.getfield 27, 3) := by decide +kernel
theorem dX5_takeOfNumber_75 : decode cX5_takeOfNumber 75 = .ok (.getstatic 71, 3) := by decide +kernel
theorem dX5_takeOfNumber_78 : decode cX5_takeOfNumber 78 = .ok (.if_acmp .ne 7, 3) := by decide +kernel
theorem dX5_takeOfNumber_81 : decode cX5_takeOfNumber 81 = .ok (.iconst 1, 1) := by decide +kernel
theorem dX5_takeOfNumber_82 : decode cX5_takeOfNumber 82 = .ok (.goto 4, 3) := by decide +kernel
theorem dX5_takeOfNumber_85 : decode cX5_takeOfNumber 85 = .ok (.iconst 0, 1) := by decide +kernel
theorem dX5_takeOfNumber_86 : decode cX5_takeOfNumber 86 = .ok (.istore_n 3, 1) := by decide +kernel
theorem dX5_takeOfNumber_87 : decode cX5_takeOfNumber 87 = .ok (.iload_n 1, 1) := by decide +kernel
theorem dX5_takeOfNumber_88 : decode cX5_takeOfNumber 88 = .ok (.iload_n 3, 1) := by decide +kernel
theorem dX5_takeOfNumber_89 : decode cX5_takeOfNumber 89 = .ok (.ifCond .eq 8, 3) := by decide +kernel
theorem dX5_takeOfNumber_92 : decode cX5_takeOfNumber 92 = .ok (.bipush 61, 2) := by decide +kernel
theorem dX5_takeOfNumber_94 : decode cX5_takeOfNumber 94 = .ok (.goto 5, 3) := by decide +kernel
theorem dX5_takeOfNumber_97 : decode cX5_takeOfNumber 97 = .ok (.bipush 59, 2) := by decide +kernel
theorem dX5_takeOfNumber_99 : decode cX5_takeOfNumber 99 = .ok (.if_icmp .eq 5, 3) := by decide +kernel
theorem dX5_takeOfNumber_102 : decode cX5_takeOfNumber 102 = .ok (.iload_n 2, 1) := by decide +kernel
theorem dX5_takeOfNumber_103 : decode cX5_takeOfNumber 103 = .ok (.ireturn, 1) := by decide +kernel
theorem dX5_takeOfNumber_104 : decode cX5_takeOfNumber 104 = .ok (.aload_n 0, 1) := by decide +kernel
theorem dX5_takeOfNumber_105 : decode cX5_takeOfNumber 105 = .ok (.getfield 27, 3) := by decide +kernel
theorem dX5_takeOfNumber_108 : decode cX5_takeOfNumber 108 = .ok (.getstatic 71, 3) := by decide +kernel
theorem dX5_takeOfNumber_111 : decode cX5_takeOfNumber 111 = .ok (.if_acmp .ne 11, 3) := by decide +kernel
theorem dX5_takeOfNumber_114 : decode cX5_takeOfNumber 114 = .ok (.aload_n 0, 1) := by decide +kernel
theorem dX5_takeOfNumber_115 : decode cX5_takeOfNumber 115 = .ok (.aload_n 0, 1) := by decide +kernel
theorem dX5_takeOfNumber_116 : decode cX5_takeOfNumber 116 = .ok (.getfield 74, 3) := by decide +kernel
theorem dX5_takeOfNumber_119 : decode cX5_takeOfNumber 119 = .ok (.putfield 92, 3) := by decide +kernel
theorem dX5_takeOfNumber_122 : decode cX5_takeOfNumber 122 = .ok (.iload_n 3, 1) := by decide +kernel
theorem dX5_takeOfNumber_123 : decode cX5_takeOfNumber 123 = .ok (.ifCond .eq 13, 3) := by decide +kernel
theorem dX5_takeOfNumber_126 : decode cX5_takeOfNumber 126 = .ok (.aload_n 0, 1) := by decide +kernel
theorem dX5_takeOfNumber_127 : decode cX5_takeOfNumber 127 = .ok (.getstatic 95, 3) := by decide +kernel
theorem dX5_takeOfNumber_130 : decode cX5_takeOfNumber 130 = .ok (.invokevirtual 63, 3) := by decide +kernel
theorem dX5_takeOfNumber_133 : decode cX5_takeOfNumber 133 = .ok (.goto 7, 3) := by decide +kernel
theorem dX5_takeOfNumber_136 : decode cX5_takeOfNumber 136 = .ok (.aload_n 0, 1) := by decide +kernel
theorem dX5_takeOfNumber_137 : decode cX5_takeOfNumber 137 = .ok (.invokevirtual 98, 3) := by decide +kernel
theorem dX5_takeOfNumber_140 : decode cX5_takeOfNumber 140 = .ok (.iconst (-1), 1) := by decide +kernel
theorem dX5_takeOfNumber_141 : decode cX5_takeOfNumber 141 = .ok (.ireturn, 1) := by decide +kernel
theorem dX5_takeDigit_0 : decode cX5_takeDigit 0 = .ok (.aload_n 0, 1) := by decide +kernel
theorem dX5_takeDigit_1 : decode cX5_takeDigit 1 = .ok (.getfield 77, 3) := by decide +kernel
theorem dX5_takeDigit_4 : decode cX5_takeDigit 4 = .ok (.aload_n 0, 1) := by decide +kernel
theorem dX5_takeDigit_5 : decode cX5_takeDigit 5 = .ok (.getfield 27, 3) := by decide +kernel
theorem dX5_takeDigit_8 : decode cX5_takeDigit 8 = .ok (.getfield 101, 3) := by decide +kernel
theorem dX5_takeDigit_11 : decode cX5_takeDigit 11 = .ok (.if_icmp .ne 5, 3) := by decide +kernel
theorem dX5_takeDigit_14 : decode cX5_takeDigit 14 = .ok (.iload_n 2, 1) := by decide +kernel
theorem dX5_takeDigit_15 : decode cX5_takeDigit 15 = .ok (.ireturn, 1) := by decide +kernel
theorem dX5_takeDigit_16 : decode cX5_takeDigit 16 = .ok (.aload_n 0, 1) := by decide +kernel
theorem dX5_takeDigit_17 : decode cX5_takeDigit 17 = .ok (.getfield 77, 3) := by decide +kernel
theorem dX5_takeDigit_20 : decode cX5_takeDigit 20 = .ok (.ifCond .ne 8, 3) := by decide +kernel
theorem dX5_takeDigit_23 : decode cX5_takeDigit 23 = .ok (.aload_n 0, 1) := by decide +kernel
theorem dX5_takeDigit_24 : decode cX5_takeDigit 24 = .ok (.iload_n 2, 1) := by decide +kernel
theorem dX5_takeDigit_25 : decode cX5_takeDigit 25 = .ok (.putfield 89, 3) := by decide +kernel
theorem dX5_takeDigit_28 : decode cX5_takeDigit 28 = .ok (.aload_n 0, 1) := by decide +kernel
theorem dX5_takeDigit_29 : decode cX5_takeDigit 29 = .ok (.aload_n 0, 1) := by decide +kernel
theorem dX5_takeDigit_30 : decode cX5_takeDigit 30 = .ok (.getfield 74, 3) := by decide +kernel
theorem dX5_takeDigit_33 : decode cX5_takeDigit 33 = .ok (.bipush 10, 2) := by decide +kernel
theorem dX5_takeDigit_35 : decode cX5_takeDigit 35 = .ok (.imul, 1) := by decide +kernel
theorem dX5_takeDigit_36 : decode cX5_takeDigit 36 = .ok (.iload_n 1, 1) := by decide +kernel
theorem dX5_takeDigit_37 : decode cX5_takeDigit 37 = .ok (.iadd, 1) := by decide +kernel
theorem dX5_takeDigit_38 : decode cX5_takeDigit 38 = .ok (.putfield 74, 3) := by decide +kernel
theorem dX5_takeDigit_41 : decode cX5_takeDigit 41 = .ok (.aload_n 0, 1) := by decide +kernel
theorem dX5_takeDigit_42 : decode cX5_takeDigit 42 = .ok (.dup, 1) := by decide +kernel
theorem dX5_takeDigit_43 : decode cX5_takeDigit 43 = .ok (.getfield 77, 3) := by decide +kernel
theorem dX5_takeDigit_46 : decode cX5_takeDigit 46 = .ok (.iconst 1, 1) := by decide +kernel
