set_option maxRecDepth 20000 in
theorem wsL_law_p1 : ∀ w ∈ wsL_law0_r1, w ∈ lw_tbl := fun w h => (goodIn_p wsL_law0_r1 [33, 36] rfl (by decide +kernel) w h).1
set_option maxRecDepth 20000 in
theorem wsL_law_p2 : ∀ w ∈ wsL_law0_r2, w ∈ lw_tbl := fun w h => (goodIn_p wsL_law0_r2 [41, 56] rfl (by decide +kernel) w h).1
set_option maxRecDepth 20000 in
theorem wsL_law_p3 : ∀ w ∈ wsL_law0_r3, w ∈ lw_tbl := fun w h => (goodIn_p wsL_law0_r3 [63, 119, 139, 749] rfl (by decide +kernel) w h).1
set_option maxRecDepth 20000 in
theorem wsL_law_p4 : ∀ w ∈ wsL_law0_r4, w ∈ lw_tbl := fun w h => (goodIn_p wsL_law0_r4 [280, 283] rfl (by decide +kernel) w h).1
set_option maxRecDepth 20000 in
theorem wsL_law_p5 : ∀ w ∈ wsL_law0_r5, w ∈ lw_tbl := fun w h => (goodIn_p wsL_law0_r5 [371, 798, 802, 806, 794] rfl (by decide +kernel) w h).1
set_option maxRecDepth 20000 in
theorem wsL_law_p6 : ∀ w ∈ wsL_law0_r6, w ∈ lw_tbl := fun w h => (goodIn_p wsL_law0_r6 [171, 810, 175, 179, 183, 187] rfl (by decide +kernel) w h).1
set_option maxRecDepth 20000 in
theorem wsL_law_p7 : ∀ w ∈ wsL_law0_r7, w ∈ lw_tbl := fun w h => (goodIn_p wsL_law0_r7 [814, 818, 822, 826, 829, 833, 836] rfl (by decide +kernel) w h).1
set_option maxRecDepth 20000 in
theorem wsL_law_p8 : ∀ w ∈ wsL_law0_r8, w ∈ lw_tbl := fun w h => (goodIn_p wsL_law0_r8 [378, 383, 387, 391] rfl (by decide +kernel) w h).1
set_option maxRecDepth 20000 in
theorem wsL_law_p9 : ∀ w ∈ wsL_law0_r9, w ∈ lw_tbl := fun w h => (goodIn_p wsL_law0_r9 [395, 399, 840, 843] rfl (by decide +kernel) w h).1
set_option maxRecDepth 20000 in
theorem wsL_law_p10 : ∀ w ∈ wsL_law0_r10, w ∈ lw_tbl := fun w h => (goodIn_p wsL_law0_r10 [406, 410, 414, 245, 418] rfl (by decide +kernel) w h).1
set_option maxRecDepth 20000 in
theorem wsL_law_p11 : ∀ w ∈ wsL_law0_r11, w ∈ lw_tbl := fun w h => (goodIn_p wsL_law0_r11 [234, 238, 230, 241, 422] rfl (by decide +kernel) w h).1
set_option maxRecDepth 20000 in
theorem wsL_law_p12 : ∀ w ∈ wsL_law0_r12, w ∈ lw_tbl := fun w h => (goodIn_p wsL_law0_r12 [426, 226, 430, 434, 438, 442] rfl (by decide +kernel) w h).1
set_option maxRecDepth 20000 in
theorem wsL_law_p13 : ∀ w ∈ wsL_law0_r13, w ∈ lw_tbl := fun w h => (goodIn_p wsL_law0_r13 [847, 851, 854, 857, 860, 863, 866] rfl (by decide +kernel) w h).1
set_option maxRecDepth 20000 in
theorem wsL_law_p14 : ∀ w ∈ wsL_law0_r14, w ∈ lw_tbl := fun w h => (goodIn_p wsL_law0_r14 [869, 872, 875, 878, 451, 455] rfl (by decide +kernel) w h).1
set_option maxRecDepth 20000 in
theorem wsL_law_p15 : ∀ w ∈ wsL_law0_r15, w ∈ lw_tbl := fun w h => (goodIn_p wsL_law0_r15 [476, 222, 882, 885, 889] rfl (by decide +kernel) w h).1
set_option maxRecDepth 20000 in
theorem wsL_law_p16 : ∀ w ∈ wsL_law0_r16, w ∈ lw_tbl := fun w h => (goodIn_p wsL_law0_r16 [483, 487, 893] rfl (by decide +kernel) w h).1
set_option maxRecDepth 20000 in
theorem wsL_law_p17 : ∀ w ∈ wsL_law0_r17, w ∈ lw_tbl := fun w h => (goodIn_p wsL_law0_r17 [500, 503, 195, 199, 203] rfl (by decide +kernel) w h).1
set_option maxRecDepth 20000 in
theorem wsL_law_p18 : ∀ w ∈ wsL_law0_r18, w ∈ lw_tbl := fun w h => (goodIn_p wsL_law0_r18 [898, 905, 512, 516] rfl (by decide +kernel) w h).1
set_option maxRecDepth 20000 in
theorem wsL_law_p19 : ∀ w ∈ wsL_law0_r19, w ∈ lw_tbl := fun w h => (goodIn_p wsL_law0_r19 [520, 909, 912, 527, 531] rfl (by decide +kernel) w h).1
set_option maxRecDepth 20000 in
theorem wsL_law_p20 : ∀ w ∈ wsL_law0_r20, w ∈ lw_tbl := fun w h => (goodIn_p wsL_law0_r20 [535, 916, 919, 922, 542, 546] rfl (by decide +kernel) w h).1
set_option maxRecDepth 20000 in
theorem wsL_law_p21 : ∀ w ∈ wsL_law0_r21, w ∈ lw_tbl := fun w h => (goodIn_p wsL_law0_r21 [926, 929, 553, 218, 249] rfl (by decide +kernel) w h).1
set_option maxRecDepth 20000 in
theorem wsL_law_p22 : ∀ w ∈ wsL_law0_r22, w ∈ lw_tbl := fun w h => (goodIn_p wsL_law0_r22 [933, 936, 939, 563, 567] rfl (by decide +kernel) w h).1
set_option maxRecDepth 20000 in
theorem wsL_law_p23 : ∀ w ∈ wsL_law0_r23, w ∈ lw_tbl := fun w h => (goodIn_p wsL_law0_r23 [943, 191, 210, 214, 947, 950] rfl (by decide +kernel) w h).1
set_option maxRecDepth 20000 in
theorem wsL_law_p24 : ∀ w ∈ wsL_law0_r24, w ∈ lw_tbl := fun w h => (goodIn_p wsL_law0_r24 [577, 581, 585, 954, 958] rfl (by decide +kernel) w h).1
set_option maxRecDepth 20000 in
theorem wsL_law_p25 : ∀ w ∈ wsL_law0_r25, w ∈ lw_tbl := fun w h => (goodIn_p wsL_law0_r25 [961, 592, 596, 600, 604, 608] rfl (by decide +kernel) w h).1
set_option maxRecDepth 20000 in
theorem wsL_law_p26 : ∀ w ∈ wsL_law0_r26, w ∈ lw_tbl := fun w h => (goodIn_p wsL_law0_r26 [611, 267, 616, 621, 625, 965] rfl (by decide +kernel) w h).1
set_option maxRecDepth 20000 in
theorem wsL_law_p27 : ∀ w ∈ wsL_law0_r27, w ∈ lw_tbl := fun w h => (goodIn_p wsL_law0_r27 [968, 972, 975, 978, 981, 984] rfl (by decide +kernel) w h).1
set_option maxRecDepth 20000 in
theorem wsL_law_p28 : ∀ w ∈ wsL_law0_r28, w ∈ lw_tbl := fun w h => (goodIn_p wsL_law0_r28 [632, 637, 988, 644, 992] rfl (by decide +kernel) w h).1
set_option maxRecDepth 20000 in
theorem wsL_law_p29 : ∀ w ∈ wsL_law0_r29, w ∈ lw_tbl := fun w h => (goodIn_p wsL_law0_r29 [652, 996, 659, 257] rfl (by decide +kernel) w h).1
set_option maxRecDepth 20000 in
theorem wsL_law_p30 : ∀ w ∈ wsL_law0_r30, w ∈ lw_tbl := fun w h => (goodIn_p wsL_law0_r30 [261, 663, 667, 673, 1000] rfl (by decide +kernel) w h).1
set_option maxRecDepth 20000 in
theorem wsL_law_p31 : ∀ w ∈ wsL_law0_r31, w ∈ lw_tbl := fun w h => (goodIn_p wsL_law0_r31 [1004, 253, 271, 1008, 681] rfl (by decide +kernel) w h).1
set_option maxRecDepth 20000 in
theorem wsL_law_p32 : ∀ w ∈ wsL_law0_r32, w ∈ lw_tbl := fun w h => (goodIn_p wsL_law0_r32 [1012, 689, 693, 1017] rfl (by decide +kernel) w h).1
set_option maxRecDepth 20000 in
theorem wsL_law_p33 : ∀ w ∈ wsL_law0_r33, w ∈ lw_tbl := fun w h => (goodIn_p wsL_law0_r33 [700, 1022, 707, 710, 716] rfl (by decide +kernel) w h).1
set_option maxRecDepth 20000 in
theorem wsL_law_p34 : ∀ w ∈ wsL_law0_r34, w ∈ lw_tbl := fun w h => (goodIn_p wsL_law0_r34 [1026, 1032, 723, 1036] rfl (by decide +kernel) w h).1
set_option maxRecDepth 20000 in
theorem wsL_law_p35 : ∀ w ∈ wsL_law0_r35, w ∈ lw_tbl := fun w h => (goodIn_p wsL_law0_r35 [732, 735, 1042, 743] rfl (by decide +kernel) w h).1
set_option maxRecDepth 20000 in
theorem wsL_law_p36 : ∀ w ∈ wsL_law0_r36, w ∈ lw_tbl := fun w h => (goodIn_p wsL_law0_r36 [1046] rfl (by decide +kernel) w h).1
theorem wsL_law_qwsX50 : ∀ w ∈ wsX50, w ∈ lw_tbl := by decide +kernel
theorem wsL_law_qwsX60 : ∀ w ∈ wsX60, w ∈ lw_tbl := by decide +kernel
theorem wsL_law_qwsX40 : ∀ w ∈ wsX40, w ∈ lw_tbl := by decide +kernel
theorem wsL_law_qwsX10 : ∀ w ∈ wsX10, w ∈ lw_tbl := by decide +kernel
theorem wsL_law_qwsX20 : ∀ w ∈ wsX20, w ∈ lw_tbl := by decide +kernel
theorem wsL_law_qwsX00 : ∀ w ∈ wsX00, w ∈ lw_tbl := by decide +kernel
theorem wsL_law_qwsX30 : ∀ w ∈ wsX30, w ∈ lw_tbl := by decide +kernel
theorem wsL_law_in0 : ∀ w ∈ wsL_law0, w ∈ lw_tbl := fun w h => (List.mem_append.mp h).elim (fun h => ((List.mem_append.mp h).elim (fun h => ((List.mem_append.mp h).elim (fun h => ((List.mem_append.mp h).elim (fun h => ((List.mem_append.mp h).elim (fun h => ((List.mem_append.mp h).elim (fun h => ((List.mem_append.mp h).elim (fun h => ((List.mem_append.mp h).elim (fun h => ((List.mem_append.mp h).elim (fun h => wsL_law_p1 w h) (fun h => (List.mem_append.mp h).elim (fun h => wsL_law_p2 w h) (fun h => (List.mem_append.mp h).elim (fun h => wsL_law_p3 w h) (fun h => (List.mem_append.mp h).elim (fun h => wsL_law_p4 w h) (fun h => (List.mem_append.mp h).elim (fun h => wsL_law_p5 w h) (fun h => (List.mem_append.mp h).elim (fun h => wsL_law_p6 w h) (fun h => (List.mem_append.mp h).elim (fun h => wsL_law_p7 w h) (fun h => (List.mem_append.mp h).elim (fun h => wsL_law_p8 w h) (fun h => (List.mem_append.mp h).elim (fun h => wsL_law_p9 w h) (fun h => (List.mem_append.mp h).elim (fun h => wsL_law_p10 w h) (fun h => (List.mem_append.mp h).elim (fun h => wsL_law_p11 w h) (fun h => (List.mem_append.mp h).elim (fun h => wsL_law_p12 w h) (fun h => (List.mem_append.mp h).elim (fun h => wsL_law_p13 w h) (fun h => (List.mem_append.mp h).elim (fun h => wsL_law_p14 w h) (fun h => (List.mem_append.mp h).elim (fun h => wsL_law_p15 w h) (fun h => (List.mem_append.mp h).elim (fun h => wsL_law_p16 w h) (fun h => (List.mem_append.mp h).elim (fun h => wsL_law_p17 w h) (fun h => (List.mem_append.mp h).elim (fun h => wsL_law_p18 w h) (fun h => (List.mem_append.mp h).elim (fun h => wsL_law_p19 w h) (fun h => (List.mem_append.mp h).elim (fun h => wsL_law_p20 w h) (fun h => (List.mem_append.mp h).elim (fun h => wsL_law_p21 w h) (fun h => (List.mem_append.mp h).elim (fun h => wsL_law_p22 w h) (fun h => (List.mem_append.mp h).elim (fun h => wsL_law_p23 w h) (fun h => (List.mem_append.mp h).elim (fun h => wsL_law_p24 w h) (fun h => (List.mem_append.mp h).elim (fun h => wsL_law_p25 w h) (fun h => (List.mem_append.mp h).elim (fun h => wsL_law_p26 w h) (fun h => (List.mem_append.mp h).elim (fun h => wsL_law_p27 w h) (fun h => (List.mem_append.mp h).elim (fun h => wsL_law_p28 w h) (fun h => (List.mem_append.mp h).elim (fun h => wsL_law_p29 w h) (fun h => (List.mem_append.mp h).elim (fun h => wsL_law_p30 w h) (fun h => (List.mem_append.mp h).elim (fun h => wsL_law_p31 w h) (fun h => (List.mem_append.mp h).elim (fun h => wsL_law_p32 w h) (fun h => (List.mem_append.mp h).elim (fun h => wsL_law_p33 w h) (fun h => (List.mem_append.mp h).elim (fun h => wsL_law_p34 w h) (fun h => (List.mem_append.mp h).elim (fun h => wsL_law_p35 w h) (fun h => wsL_law_p36 w h))))))))))))))))))))))))))))))))))))) (fun h => wsL_law_qwsX50 w h))) (fun h => wsL_law_qwsX60 w h))) (fun h => wsL_law_qwsX40 w h))) (fun h => wsL_law_qwsX10 w h))) (fun h => wsL_law_qwsX20 w h))) (fun h => wsL_law_qwsX00 w h))) (fun h => wsL_law_qwsX30 w h))) (fun h => nomatch h)
theorem wsL_law_x0 : ∀ w ∈ (vx_atS RX5 60 "java/lang/IllegalStateException" ["java/lang/RuntimeException", "java/lang/Exception"]).filter goodWord, w ∈ lw_tbl := by decide +kernel
theorem wsL_law_x1 : ∀ w ∈ (vx_atS RX5 105 "java/lang/IllegalArgumentException" ["java/lang/RuntimeException", "java/lang/Exception"]).filter goodWord, w ∈ lw_tbl := by decide +kernel
theorem wsL_law_x2 : ∀ w ∈ (vx_atS RX5 259 "java/lang/IndexOutOfBoundsException" ["java/lang/RuntimeException", "java/lang/Exception"]).filter goodWord, w ∈ lw_tbl := by decide +kernel
theorem wsL_law_in : ∀ w ∈ wsL_law, w ∈ lw_tbl := fun w h => (List.mem_append.mp h).elim (fun h => (List.mem_append.mp h).elim (fun h => (List.mem_append.mp h).elim (fun h => wsL_law_in0 w h) (fun h => wsL_law_x0 w h)) (fun h => wsL_law_x1 w h)) (fun h => wsL_law_x2 w h)
theorem inlX0 : ∀ w ∈ wsX00, w ∈ wsL_law := fun _ h => List.mem_append_left _ (List.mem_append_left _ (List.mem_append_left _ (List.mem_append_left _ (List.mem_append_left _ (List.mem_append_right _ h)))))
theorem inX0 : ∀ w ∈ wsX00, w ∈ lw_tbl := fun w h => wsL_law_in w (inlX0 w h)
theorem inlX1 : ∀ w ∈ wsX10, w ∈ wsL_law := fun _ h => List.mem_append_left _ (List.mem_append_left _ (List.mem_append_left _ (List.mem_append_left _ (List.mem_append_left _ (List.mem_append_left _ (List.mem_append_left _ (List.mem_append_right _ h)))))))
theorem inX1 : ∀ w ∈ wsX10, w ∈ lw_tbl := fun w h => wsL_law_in w (inlX1 w h)
theorem inlX2 : ∀ w ∈ wsX20, w ∈ wsL_law := fun _ h => List.mem_append_left _ (List.mem_append_left _ (List.mem_append_left _ (List.mem_append_left _ (List.mem_append_left _ (List.mem_append_left _ (List.mem_append_right _ h))))))
theorem inX2 : ∀ w ∈ wsX20, w ∈ lw_tbl := fun w h => wsL_law_in w (inlX2 w h)
theorem inlX3 : ∀ w ∈ wsX30, w ∈ wsL_law := fun _ h => List.mem_append_left _ (List.mem_append_left _ (List.mem_append_left _ (List.mem_append_left _ (List.mem_append_right _ h))))
theorem inX3 : ∀ w ∈ wsX30, w ∈ lw_tbl := fun w h => wsL_law_in w (inlX3 w h)
theorem inlX4 : ∀ w ∈ wsX40, w ∈ wsL_law := fun _ h => List.mem_append_left _ (List.mem_append_left _ (List.mem_append_left _ (List.mem_append_left _ (List.mem_append_left _ (List.mem_append_left _ (List.mem_append_left _ (List.mem_append_left _ (List.mem_append_right _ h))))))))
theorem inX4 : ∀ w ∈ wsX40, w ∈ lw_tbl := fun w h => wsL_law_in w (inlX4 w h)
theorem inlX5 : ∀ w ∈ wsX50, w ∈ wsL_law := fun _ h => List.mem_append_left _ (List.mem_append_left _ (List.mem_append_left _ (List.mem_append_left _ (List.mem_append_left _ (List.mem_append_left _ (List.mem_append_left _ (List.mem_append_left _ (List.mem_append_left _ (List.mem_append_left _ (List.mem_append_right _ h))))))))))
theorem inX5 : ∀ w ∈ wsX50, w ∈ lw_tbl := fun w h => wsL_law_in w (inlX5 w h)
theorem inlX6 : ∀ w ∈ wsX60, w ∈ wsL_law := fun _ h => List.mem_append_left _ (List.mem_append_left _ (List.mem_append_left _ (List.mem_append_left _ (List.mem_append_left _ (List.mem_append_left _ (List.mem_append_left _ (List.mem_append_left _ (List.mem_append_left _ (List.mem_append_right _ h)))))))))
theorem inX6 : ∀ w ∈ wsX60, w ∈ lw_tbl := fun w h => wsL_law_in w (inlX6 w h)
theorem inJ9 : ∀ w ∈ wsJ90, w ∈ lw_tbl := by decide +kernel
theorem inJ0 : ∀ w ∈ wsJ00, w ∈ lw_tbl := by decide +kernel
theorem inJ10 : ∀ w ∈ wsJ100, w ∈ lw_tbl := by decide +kernel

