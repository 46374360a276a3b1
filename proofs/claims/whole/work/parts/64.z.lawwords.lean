/-! the words of the law are words of the tables, in pieces (by wip/tools/lawwords.py) -/
theorem wl_r1 : ∀ w ∈ wsL_law0_r1, w ∈ lw_tbl := fun w h => (goodIn_p wsL_law0_r1 [77, 80] (by decide +kernel) (by decide +kernel) w h).1
theorem wl_r2 : ∀ w ∈ wsL_law0_r2, w ∈ lw_tbl := fun w h => (goodIn_p wsL_law0_r2 [85] (by decide +kernel) (by decide +kernel) w h).1
theorem wl_r3 : ∀ w ∈ wsL_law0_r3, w ∈ lw_tbl := fun w h => (goodIn_p wsL_law0_r3 [91, 114, 146, 166] (by decide +kernel) (by decide +kernel) w h).1
theorem wl_r4 : ∀ w ∈ wsL_law0_r4, w ∈ lw_tbl := fun w h => (goodIn_p wsL_law0_r4 [232, 235, 239] (by decide +kernel) (by decide +kernel) w h).1
theorem wl_r5 : ∀ w ∈ wsL_law0_r5, w ∈ lw_tbl := fun w h => (goodIn_p wsL_law0_r5 [244, 249, 255, 272] (by decide +kernel) (by decide +kernel) w h).1
theorem wl_r6 : ∀ w ∈ wsL_law0_r6, w ∈ lw_tbl := fun w h => (goodIn_p wsL_law0_r6 [882, 887] (by decide +kernel) (by decide +kernel) w h).1
theorem wl_r7 : ∀ w ∈ wsL_law0_r7, w ∈ lw_tbl := fun w h => (goodIn_p wsL_law0_r7 [642, 645, 571, 575, 349] (by decide +kernel) (by decide +kernel) w h).1
theorem wl_r8 : ∀ w ∈ wsL_law0_r8, w ∈ lw_tbl := fun w h => (goodIn_p wsL_law0_r8 [356, 361, 366, 371] (by decide +kernel) (by decide +kernel) w h).1
theorem wl_r9 : ∀ w ∈ wsL_law0_r9, w ∈ lw_tbl := fun w h => (goodIn_p wsL_law0_r9 [923, 926, 930, 934, 919] (by decide +kernel) (by decide +kernel) w h).1
theorem wl_r10 : ∀ w ∈ wsL_law0_r10, w ∈ lw_tbl := fun w h => (goodIn_p wsL_law0_r10 [721, 724, 384, 743] (by decide +kernel) (by decide +kernel) w h).1
theorem wl_r11 : ∀ w ∈ wsL_law0_r11, w ∈ lw_tbl := fun w h => (goodIn_p wsL_law0_r11 [600, 392, 396, 938, 942, 945, 949] (by decide +kernel) (by decide +kernel) w h).1
theorem wl_r12 : ∀ w ∈ wsL_law0_r12, w ∈ lw_tbl := fun w h => (goodIn_p wsL_law0_r12 [953, 957, 961, 964, 767] (by decide +kernel) (by decide +kernel) w h).1
theorem wl_r13 : ∀ w ∈ wsL_law0_r13, w ∈ lw_tbl := fun w h => (goodIn_p wsL_law0_r13 [968, 774, 509, 972] (by decide +kernel) (by decide +kernel) w h).1
theorem wl_r14 : ∀ w ∈ wsL_law0_r14, w ∈ lw_tbl := fun w h => (goodIn_p wsL_law0_r14 [782, 588, 594, 376, 380] (by decide +kernel) (by decide +kernel) w h).1
theorem wl_r15 : ∀ w ∈ wsL_law0_r15, w ∈ lw_tbl := fun w h => (goodIn_p wsL_law0_r15 [388, 400, 404, 408, 412, 416] (by decide +kernel) (by decide +kernel) w h).1
theorem wl_r16 : ∀ w ∈ wsL_law0_r16, w ∈ lw_tbl := fun w h => (goodIn_p wsL_law0_r16 [420, 423, 430, 434, 438] (by decide +kernel) (by decide +kernel) w h).1
theorem wl_r17 : ∀ w ∈ wsL_law0_r17, w ∈ lw_tbl := fun w h => (goodIn_p wsL_law0_r17 [442, 446, 341, 451, 455, 459] (by decide +kernel) (by decide +kernel) w h).1
theorem wl_r18 : ∀ w ∈ wsL_law0_r18, w ∈ lw_tbl := fun w h => (goodIn_p wsL_law0_r18 [464, 468, 472, 476, 480, 484] (by decide +kernel) (by decide +kernel) w h).1
theorem wl_r19 : ∀ w ∈ wsL_law0_r19, w ∈ lw_tbl := fun w h => (goodIn_p wsL_law0_r19 [488, 492, 497, 501, 505] (by decide +kernel) (by decide +kernel) w h).1
theorem wl_r20 : ∀ w ∈ wsL_law0_r20, w ∈ lw_tbl := fun w h => (goodIn_p wsL_law0_r20 [976, 981, 985, 989, 993, 997] (by decide +kernel) (by decide +kernel) w h).1
theorem wl_r21 : ∀ w ∈ wsL_law0_r21, w ∈ lw_tbl := fun w h => (goodIn_p wsL_law0_r21 [1001, 1005, 1009, 1013, 1017, 1021] (by decide +kernel) (by decide +kernel) w h).1
theorem wl_r22 : ∀ w ∈ wsL_law0_r22, w ∈ lw_tbl := fun w h => (goodIn_p wsL_law0_r22 [1025, 1029, 1033, 789] (by decide +kernel) (by decide +kernel) w h).1
theorem wl_r23 : ∀ w ∈ wsL_law0_r23, w ∈ lw_tbl := fun w h => (goodIn_p wsL_law0_r23 [1037, 798, 1041, 1044] (by decide +kernel) (by decide +kernel) w h).1
theorem wl_r24 : ∀ w ∈ wsL_law0_r24, w ∈ lw_tbl := fun w h => (goodIn_p wsL_law0_r24 [808, 622, 626, 1048, 1052] (by decide +kernel) (by decide +kernel) w h).1
theorem wl_r25 : ∀ w ∈ wsL_law0_r25, w ∈ lw_tbl := fun w h => (goodIn_p wsL_law0_r25 [815, 618, 1056, 1060, 822, 630] (by decide +kernel) (by decide +kernel) w h).1
theorem wl_r26 : ∀ w ∈ wsL_law0_r26, w ∈ lw_tbl := fun w h => (goodIn_p wsL_law0_r26 [1064, 1068, 829, 634] (by decide +kernel) (by decide +kernel) w h).1
theorem wl_r27 : ∀ w ∈ wsL_law0_r27, w ∈ lw_tbl := fun w h => (goodIn_p wsL_law0_r27 [1072, 836, 610, 1076, 1080] (by decide +kernel) (by decide +kernel) w h).1
theorem wl_r28 : ∀ w ∈ wsL_law0_r28, w ∈ lw_tbl := fun w h => (goodIn_p wsL_law0_r28 [1084, 843, 1088, 1092, 1096] (by decide +kernel) (by decide +kernel) w h).1
theorem wl_r29 : ∀ w ∈ wsL_law0_r29, w ∈ lw_tbl := fun w h => (goodIn_p wsL_law0_r29 [1100, 337, 1104, 851] (by decide +kernel) (by decide +kernel) w h).1
theorem wl_r30 : ∀ w ∈ wsL_law0_r30, w ∈ lw_tbl := fun w h => (goodIn_p wsL_law0_r30 [1108, 345, 1112, 859, 1116] (by decide +kernel) (by decide +kernel) w h).1
theorem wl_r31 : ∀ w ∈ wsL_law0_r31, w ∈ lw_tbl := fun w h => (goodIn_p wsL_law0_r31 [513, 1120, 866, 1124] (by decide +kernel) (by decide +kernel) w h).1
theorem wl_r32 : ∀ w ∈ wsL_law0_r32, w ∈ lw_tbl := fun w h => (goodIn_p wsL_law0_r32 [517, 1128, 521, 525, 529] (by decide +kernel) (by decide +kernel) w h).1
theorem wl_r33 : ∀ w ∈ wsL_law0_r33, w ∈ lw_tbl := fun w h => (goodIn_p wsL_law0_r33 [533, 539, 545, 551] (by decide +kernel) (by decide +kernel) w h).1
theorem wl_r34 : ∀ w ∈ wsL_law0_r34, w ∈ lw_tbl := fun w h => (goodIn_p wsL_law0_r34 [557, 561, 567, 580, 584] (by decide +kernel) (by decide +kernel) w h).1
theorem wl_r35 : ∀ w ∈ wsL_law0_r35, w ∈ lw_tbl := fun w h => (goodIn_p wsL_law0_r35 [1132, 1136, 1140, 1144, 1148] (by decide +kernel) (by decide +kernel) w h).1
theorem wl_r36 : ∀ w ∈ wsL_law0_r36, w ∈ lw_tbl := fun w h => (goodIn_p wsL_law0_r36 [1152, 873, 877, 1156, 604] (by decide +kernel) (by decide +kernel) w h).1
theorem wl_r37 : ∀ w ∈ wsL_law0_r37, w ∈ lw_tbl := fun w h => (goodIn_p wsL_law0_r37 [614, 1160] (by decide +kernel) (by decide +kernel) w h).1
theorem wl_wsX80 : ∀ w ∈ wsX80, w ∈ lw_tbl := by decide +kernel
theorem wl_wsX90 : ∀ w ∈ wsX90, w ∈ lw_tbl := by decide +kernel
theorem wl_wsX40 : ∀ w ∈ wsX40, w ∈ lw_tbl := by decide +kernel
theorem wl_wsX20 : ∀ w ∈ wsX20, w ∈ lw_tbl := by decide +kernel
theorem wl_wsX50 : ∀ w ∈ wsX50, w ∈ lw_tbl := by decide +kernel
theorem wl_wsX00 : ∀ w ∈ wsX00, w ∈ lw_tbl := by decide +kernel
theorem wl_wsX10 : ∀ w ∈ wsX10, w ∈ lw_tbl := by decide +kernel
theorem wl_wsX70 : ∀ w ∈ wsX70, w ∈ lw_tbl := by decide +kernel
theorem wl_wsX30 : ∀ w ∈ wsX30, w ∈ lw_tbl := by decide +kernel
theorem wl_app {a b : List Cond} (ha : ∀ w ∈ a, w ∈ lw_tbl) (hb : ∀ w ∈ b, w ∈ lw_tbl) : ∀ w ∈ a ++ b, w ∈ lw_tbl := fun w h => (List.mem_append.mp h).elim (ha w) (hb w)
theorem wsL_law_in0 : ∀ w ∈ wsL_law0, w ∈ lw_tbl := wl_app (wl_app (wl_app (wl_app (wl_app (wl_app (wl_app (wl_app (wl_app (wl_app (wl_app wl_r1 (wl_app wl_r2 (wl_app wl_r3 (wl_app wl_r4 (wl_app wl_r5 (wl_app wl_r6 (wl_app wl_r7 (wl_app wl_r8 (wl_app wl_r9 (wl_app wl_r10 (wl_app wl_r11 (wl_app wl_r12 (wl_app wl_r13 (wl_app wl_r14 (wl_app wl_r15 (wl_app wl_r16 (wl_app wl_r17 (wl_app wl_r18 (wl_app wl_r19 (wl_app wl_r20 (wl_app wl_r21 (wl_app wl_r22 (wl_app wl_r23 (wl_app wl_r24 (wl_app wl_r25 (wl_app wl_r26 (wl_app wl_r27 (wl_app wl_r28 (wl_app wl_r29 (wl_app wl_r30 (wl_app wl_r31 (wl_app wl_r32 (wl_app wl_r33 (wl_app wl_r34 (wl_app wl_r35 (wl_app wl_r36 (wl_r37))))))))))))))))))))))))))))))))))))) wl_wsX80) wl_wsX90) wl_wsX40) wl_wsX20) wl_wsX50) wl_wsX00) wl_wsX10) wl_wsX70) wl_wsX30) (fun w h => absurd h List.not_mem_nil)
theorem wsL_law_x0 : ∀ w ∈ (vx_atS RX8 217 "java/lang/IllegalArgumentException" ["java/lang/RuntimeException", "java/lang/Exception"]).filter goodWord, w ∈ lw_tbl := by decide +kernel
theorem wsL_law_x1 : ∀ w ∈ (vx_atS RX8 210 "java/lang/IndexOutOfBoundsException" ["java/lang/RuntimeException", "java/lang/Exception"]).filter goodWord, w ∈ lw_tbl := by decide +kernel
theorem wsL_law_x2 : ∀ w ∈ (vx_atS RX8 222 "java/lang/IllegalStateException" ["java/lang/RuntimeException", "java/lang/Exception"]).filter goodWord, w ∈ lw_tbl := by decide +kernel
theorem wsL_law_in : ∀ w ∈ wsL_law, w ∈ lw_tbl := fun w h => (List.mem_append.mp h).elim (fun h => (List.mem_append.mp h).elim (fun h => (List.mem_append.mp h).elim (fun h => wsL_law_in0 w h) (fun h => wsL_law_x0 w h)) (fun h => wsL_law_x1 w h)) (fun h => wsL_law_x2 w h)
