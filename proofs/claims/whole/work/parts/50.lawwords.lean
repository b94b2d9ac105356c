theorem lw_NIL : GoodIn lw_tbl ([] : List Cond) := fun _ h => absurd h List.not_mem_nil
set_option maxRecDepth 20000 in
theorem lw_wsL_law_r1 : GoodIn lw_tbl wsL_law_r1 := goodIn_p wsL_law_r1 [77, 80] (by decide +kernel) (by decide +kernel)
set_option maxRecDepth 20000 in
theorem lw_wsL_law_r2 : GoodIn lw_tbl wsL_law_r2 := goodIn_p wsL_law_r2 [85] (by decide +kernel) (by decide +kernel)
set_option maxRecDepth 20000 in
theorem lw_wsL_law_r3 : GoodIn lw_tbl wsL_law_r3 := goodIn_p wsL_law_r3 [112, 117, 188] (by decide +kernel) (by decide +kernel)
set_option maxRecDepth 20000 in
theorem lw_wsL_law_r4 : GoodIn lw_tbl wsL_law_r4 := goodIn_p wsL_law_r4 [194] (by decide +kernel) (by decide +kernel)
set_option maxRecDepth 20000 in
theorem lw_wsL_law_r5 : GoodIn lw_tbl wsL_law_r5 := goodIn_p wsL_law_r5 [296, 312, 332] (by decide +kernel) (by decide +kernel)
set_option maxRecDepth 20000 in
theorem lw_wsL_law_r6 : GoodIn lw_tbl wsL_law_r6 := goodIn_p wsL_law_r6 [348, 352, 355, 771] (by decide +kernel) (by decide +kernel)
set_option maxRecDepth 20000 in
theorem lw_wsL_law_r7 : GoodIn lw_tbl wsL_law_r7 := goodIn_p wsL_law_r7 [776, 780] (by decide +kernel) (by decide +kernel)
set_option maxRecDepth 20000 in
theorem lw_wsL_law_r8 : GoodIn lw_tbl wsL_law_r8 := goodIn_p wsL_law_r8 [399, 402, 406, 882] (by decide +kernel) (by decide +kernel)
set_option maxRecDepth 20000 in
theorem lw_wsL_law_r9 : GoodIn lw_tbl wsL_law_r9 := goodIn_p wsL_law_r9 [885, 410, 414, 889, 418, 422] (by decide +kernel) (by decide +kernel)
set_option maxRecDepth 20000 in
theorem lw_wsL_law_r10 : GoodIn lw_tbl wsL_law_r10 := goodIn_p wsL_law_r10 [427, 431, 434, 438, 441] (by decide +kernel) (by decide +kernel)
set_option maxRecDepth 20000 in
theorem lw_wsL_law_r11 : GoodIn lw_tbl wsL_law_r11 := goodIn_p wsL_law_r11 [444, 448, 452, 456] (by decide +kernel) (by decide +kernel)
set_option maxRecDepth 20000 in
theorem lw_wsL_law_r12 : GoodIn lw_tbl wsL_law_r12 := goodIn_p wsL_law_r12 [460, 464, 468, 472, 476, 479] (by decide +kernel) (by decide +kernel)
set_option maxRecDepth 20000 in
theorem lw_wsL_law_r13 : GoodIn lw_tbl wsL_law_r13 := goodIn_p wsL_law_r13 [893, 897, 901, 905] (by decide +kernel) (by decide +kernel)
set_option maxRecDepth 20000 in
theorem lw_wsL_law_r14 : GoodIn lw_tbl wsL_law_r14 := goodIn_p wsL_law_r14 [909, 913, 917, 921, 487] (by decide +kernel) (by decide +kernel)
set_option maxRecDepth 20000 in
theorem lw_wsL_law_r15 : GoodIn lw_tbl wsL_law_r15 := goodIn_p wsL_law_r15 [491, 495, 499, 504, 509, 515] (by decide +kernel) (by decide +kernel)
set_option maxRecDepth 20000 in
theorem lw_wsL_law_r16 : GoodIn lw_tbl wsL_law_r16 := goodIn_p wsL_law_r16 [520, 524, 925, 929, 932] (by decide +kernel) (by decide +kernel)
set_option maxRecDepth 20000 in
theorem lw_wsL_law_r17 : GoodIn lw_tbl wsL_law_r17 := goodIn_p wsL_law_r17 [936, 940, 944, 947, 528, 532] (by decide +kernel) (by decide +kernel)
set_option maxRecDepth 20000 in
theorem lw_wsL_law_r18 : GoodIn lw_tbl wsL_law_r18 := goodIn_p wsL_law_r18 [536, 540, 545] (by decide +kernel) (by decide +kernel)
set_option maxRecDepth 20000 in
theorem lw_wsL_law_r19 : GoodIn lw_tbl wsL_law_r19 := goodIn_p wsL_law_r19 [549, 553, 572, 557, 561, 565] (by decide +kernel) (by decide +kernel)
set_option maxRecDepth 20000 in
theorem lw_wsL_law_r20 : GoodIn lw_tbl wsL_law_r20 := goodIn_p wsL_law_r20 [569, 576, 580, 584] (by decide +kernel) (by decide +kernel)
set_option maxRecDepth 20000 in
theorem lw_wsL_law_r21 : GoodIn lw_tbl wsL_law_r21 := goodIn_p wsL_law_r21 [590, 594, 598, 602, 606, 610] (by decide +kernel) (by decide +kernel)
set_option maxRecDepth 20000 in
theorem lw_wsL_law_r22 : GoodIn lw_tbl wsL_law_r22 := goodIn_p wsL_law_r22 [614, 618, 622, 626, 630, 634] (by decide +kernel) (by decide +kernel)
set_option maxRecDepth 20000 in
theorem lw_wsL_law_r23 : GoodIn lw_tbl wsL_law_r23 := goodIn_p wsL_law_r23 [638, 951, 955, 958, 962, 966] (by decide +kernel) (by decide +kernel)
set_option maxRecDepth 20000 in
theorem lw_wsL_law_r24 : GoodIn lw_tbl wsL_law_r24 := goodIn_p wsL_law_r24 [969, 973, 977, 981, 985, 989] (by decide +kernel) (by decide +kernel)
set_option maxRecDepth 20000 in
theorem lw_wsL_law_r25 : GoodIn lw_tbl wsL_law_r25 := goodIn_p wsL_law_r25 [993, 997, 1001, 1005, 1009, 642] (by decide +kernel) (by decide +kernel)
set_option maxRecDepth 20000 in
theorem lw_wsL_law_r26 : GoodIn lw_tbl wsL_law_r26 := goodIn_p wsL_law_r26 [646, 650, 1013, 1017, 1021] (by decide +kernel) (by decide +kernel)
set_option maxRecDepth 20000 in
theorem lw_wsL_law_r27 : GoodIn lw_tbl wsL_law_r27 := goodIn_p wsL_law_r27 [656, 1025, 660, 664, 1029, 668] (by decide +kernel) (by decide +kernel)
set_option maxRecDepth 20000 in
theorem lw_wsL_law_r28 : GoodIn lw_tbl wsL_law_r28 := goodIn_p wsL_law_r28 [672, 676, 1033, 680] (by decide +kernel) (by decide +kernel)
set_option maxRecDepth 20000 in
theorem lw_wsL_law_r29 : GoodIn lw_tbl wsL_law_r29 := goodIn_p wsL_law_r29 [685, 1037, 1041, 689] (by decide +kernel) (by decide +kernel)
set_option maxRecDepth 20000 in
theorem lw_wsL_law_r30 : GoodIn lw_tbl wsL_law_r30 := goodIn_p wsL_law_r30 [693, 697, 701, 1045, 1049, 706] (by decide +kernel) (by decide +kernel)
set_option maxRecDepth 20000 in
theorem lw_wsL_law_r31 : GoodIn lw_tbl wsL_law_r31 := goodIn_p wsL_law_r31 [1053, 711, 716, 720, 1057] (by decide +kernel) (by decide +kernel)
set_option maxRecDepth 20000 in
theorem lw_wsL_law_r32 : GoodIn lw_tbl wsL_law_r32 := goodIn_p wsL_law_r32 [1061, 1065, 725, 1069, 729, 1073] (by decide +kernel) (by decide +kernel)
set_option maxRecDepth 20000 in
theorem lw_wsL_law_r33 : GoodIn lw_tbl wsL_law_r33 := goodIn_p wsL_law_r33 [733, 1077, 737, 1081, 741, 745] (by decide +kernel) (by decide +kernel)
set_option maxRecDepth 20000 in
theorem lw_wsL_law_r34 : GoodIn lw_tbl wsL_law_r34 := goodIn_p wsL_law_r34 [1085, 1089, 749, 753, 757, 1093] (by decide +kernel) (by decide +kernel)
set_option maxRecDepth 20000 in
theorem lw_wsL_law_r35 : GoodIn lw_tbl wsL_law_r35 := goodIn_p wsL_law_r35 [762, 1097, 766, 1101] (by decide +kernel) (by decide +kernel)
set_option maxRecDepth 20000 in
theorem lw_wsX70 : GoodIn lw_tbl wsX70 := goodIn_p wsX70 [] (by decide +kernel) (by decide +kernel)
set_option maxRecDepth 20000 in
theorem lw_wsX80 : GoodIn lw_tbl wsX80 := goodIn_p wsX80 [] (by decide +kernel) (by decide +kernel)
set_option maxRecDepth 20000 in
theorem lw_wsX60 : GoodIn lw_tbl wsX60 := goodIn_p wsX60 [] (by decide +kernel) (by decide +kernel)
set_option maxRecDepth 20000 in
theorem lw_wsX30 : GoodIn lw_tbl wsX30 := goodIn_p wsX30 [] (by decide +kernel) (by decide +kernel)
set_option maxRecDepth 20000 in
theorem lw_wsX40 : GoodIn lw_tbl wsX40 := goodIn_p wsX40 [] (by decide +kernel) (by decide +kernel)
set_option maxRecDepth 20000 in
theorem lw_wsX50 : GoodIn lw_tbl wsX50 := goodIn_p wsX50 [] (by decide +kernel) (by decide +kernel)
set_option maxRecDepth 20000 in
theorem lw_wsX10 : GoodIn lw_tbl wsX10 := goodIn_p wsX10 [] (by decide +kernel) (by decide +kernel)
set_option maxRecDepth 20000 in
theorem lw_wsX20 : GoodIn lw_tbl wsX20 := goodIn_p wsX20 [] (by decide +kernel) (by decide +kernel)
set_option maxRecDepth 20000 in
theorem lw_wsX00 : GoodIn lw_tbl wsX00 := goodIn_p wsX00 [] (by decide +kernel) (by decide +kernel)
set_option maxRecDepth 20000 in
theorem wsL_law_in : ∀ w ∈ wsL_law, w ∈ lw_tbl := fun w h => ((goodIn_app (goodIn_app (goodIn_app (goodIn_app (goodIn_app (goodIn_app (goodIn_app (goodIn_app (goodIn_app (goodIn_app (goodIn_app lw_wsL_law_r1 (goodIn_app lw_wsL_law_r2 (goodIn_app lw_wsL_law_r3 (goodIn_app lw_wsL_law_r4 (goodIn_app lw_wsL_law_r5 (goodIn_app lw_wsL_law_r6 (goodIn_app lw_wsL_law_r7 (goodIn_app lw_wsL_law_r8 (goodIn_app lw_wsL_law_r9 (goodIn_app lw_wsL_law_r10 (goodIn_app lw_wsL_law_r11 (goodIn_app lw_wsL_law_r12 (goodIn_app lw_wsL_law_r13 (goodIn_app lw_wsL_law_r14 (goodIn_app lw_wsL_law_r15 (goodIn_app lw_wsL_law_r16 (goodIn_app lw_wsL_law_r17 (goodIn_app lw_wsL_law_r18 (goodIn_app lw_wsL_law_r19 (goodIn_app lw_wsL_law_r20 (goodIn_app lw_wsL_law_r21 (goodIn_app lw_wsL_law_r22 (goodIn_app lw_wsL_law_r23 (goodIn_app lw_wsL_law_r24 (goodIn_app lw_wsL_law_r25 (goodIn_app lw_wsL_law_r26 (goodIn_app lw_wsL_law_r27 (goodIn_app lw_wsL_law_r28 (goodIn_app lw_wsL_law_r29 (goodIn_app lw_wsL_law_r30 (goodIn_app lw_wsL_law_r31 (goodIn_app lw_wsL_law_r32 (goodIn_app lw_wsL_law_r33 (goodIn_app lw_wsL_law_r34 lw_wsL_law_r35)))))))))))))))))))))))))))))))))) lw_wsX70) lw_wsX80) lw_wsX60) lw_wsX30) lw_wsX40) lw_wsX50) lw_wsX10) lw_wsX20) lw_wsX00) lw_NIL) w h).1
theorem inlX0 : ∀ w ∈ wsX00, w ∈ wsL_law := fun _ h => List.mem_append_left _ (List.mem_append_right _ h)
theorem inX0 : ∀ w ∈ wsX00, w ∈ lw_tbl := fun w h => wsL_law_in w (inlX0 w h)
theorem inlX1 : ∀ w ∈ wsX10, w ∈ wsL_law := fun _ h => List.mem_append_left _ (List.mem_append_left _ (List.mem_append_left _ (List.mem_append_right _ h)))
theorem inX1 : ∀ w ∈ wsX10, w ∈ lw_tbl := fun w h => wsL_law_in w (inlX1 w h)
theorem inlX2 : ∀ w ∈ wsX20, w ∈ wsL_law := fun _ h => List.mem_append_left _ (List.mem_append_left _ (List.mem_append_right _ h))
theorem inX2 : ∀ w ∈ wsX20, w ∈ lw_tbl := fun w h => wsL_law_in w (inlX2 w h)
theorem inlX3 : ∀ w ∈ wsX30, w ∈ wsL_law := fun _ h => List.mem_append_left _ (List.mem_append_left _ (List.mem_append_left _ (List.mem_append_left _ (List.mem_append_left _ (List.mem_append_left _ (List.mem_append_right _ h))))))
theorem inX3 : ∀ w ∈ wsX30, w ∈ lw_tbl := fun w h => wsL_law_in w (inlX3 w h)
theorem inlX4 : ∀ w ∈ wsX40, w ∈ wsL_law := fun _ h => List.mem_append_left _ (List.mem_append_left _ (List.mem_append_left _ (List.mem_append_left _ (List.mem_append_left _ (List.mem_append_right _ h)))))
theorem inX4 : ∀ w ∈ wsX40, w ∈ lw_tbl := fun w h => wsL_law_in w (inlX4 w h)
theorem inlX5 : ∀ w ∈ wsX50, w ∈ wsL_law := fun _ h => List.mem_append_left _ (List.mem_append_left _ (List.mem_append_left _ (List.mem_append_left _ (List.mem_append_right _ h))))
theorem inX5 : ∀ w ∈ wsX50, w ∈ lw_tbl := fun w h => wsL_law_in w (inlX5 w h)
theorem inlX6 : ∀ w ∈ wsX60, w ∈ wsL_law := fun _ h => List.mem_append_left _ (List.mem_append_left _ (List.mem_append_left _ (List.mem_append_left _ (List.mem_append_left _ (List.mem_append_left _ (List.mem_append_left _ (List.mem_append_right _ h)))))))
theorem inX6 : ∀ w ∈ wsX60, w ∈ lw_tbl := fun w h => wsL_law_in w (inlX6 w h)
theorem inlX7 : ∀ w ∈ wsX70, w ∈ wsL_law := fun _ h => List.mem_append_left _ (List.mem_append_left _ (List.mem_append_left _ (List.mem_append_left _ (List.mem_append_left _ (List.mem_append_left _ (List.mem_append_left _ (List.mem_append_left _ (List.mem_append_left _ (List.mem_append_right _ h)))))))))
theorem inX7 : ∀ w ∈ wsX70, w ∈ lw_tbl := fun w h => wsL_law_in w (inlX7 w h)
theorem inlX8 : ∀ w ∈ wsX80, w ∈ wsL_law := fun _ h => List.mem_append_left _ (List.mem_append_left _ (List.mem_append_left _ (List.mem_append_left _ (List.mem_append_left _ (List.mem_append_left _ (List.mem_append_left _ (List.mem_append_left _ (List.mem_append_right _ h))))))))
theorem inX8 : ∀ w ∈ wsX80, w ∈ lw_tbl := fun w h => wsL_law_in w (inlX8 w h)
theorem inJ9 : ∀ w ∈ wsJ90, w ∈ lw_tbl := by decide +kernel
theorem inJ10 : ∀ w ∈ wsJ100, w ∈ lw_tbl := by decide +kernel
theorem inJ7 : ∀ w ∈ wsJ70, w ∈ lw_tbl := by decide +kernel
