/-! THE LAW: its words are among the tables' -/
set_option maxRecDepth 20000 in
set_option maxHeartbeats 4000000 in
theorem in_wsL_law_r1 : ∀ w ∈ wsL_law_r1, w ∈ lw_tbl := fun w h => (goodIn_p wsL_law_r1 [57, 60] (by decide +kernel) (by decide +kernel) w h).1
set_option maxRecDepth 20000 in
set_option maxHeartbeats 4000000 in
theorem in_wsL_law_r2 : ∀ w ∈ wsL_law_r2, w ∈ lw_tbl := fun w h => (goodIn_p wsL_law_r2 [65, 73] (by decide +kernel) (by decide +kernel) w h).1
set_option maxRecDepth 20000 in
set_option maxHeartbeats 4000000 in
theorem in_wsL_law_r3 : ∀ w ∈ wsL_law_r3, w ∈ lw_tbl := fun w h => (goodIn_p wsL_law_r3 [130, 602] (by decide +kernel) (by decide +kernel) w h).1
set_option maxRecDepth 20000 in
set_option maxHeartbeats 4000000 in
theorem in_wsL_law_r4 : ∀ w ∈ wsL_law_r4, w ∈ lw_tbl := fun w h => (goodIn_p wsL_law_r4 [187, 190, 193, 196, 200] (by decide +kernel) (by decide +kernel) w h).1
set_option maxRecDepth 20000 in
set_option maxHeartbeats 4000000 in
theorem in_wsL_law_r5 : ∀ w ∈ wsL_law_r5, w ∈ lw_tbl := fun w h => (goodIn_p wsL_law_r5 [204, 208, 212, 216, 220, 228] (by decide +kernel) (by decide +kernel) w h).1
set_option maxRecDepth 20000 in
set_option maxHeartbeats 4000000 in
theorem in_wsL_law_r6 : ∀ w ∈ wsL_law_r6, w ∈ lw_tbl := fun w h => (goodIn_p wsL_law_r6 [233, 237, 240, 280] (by decide +kernel) (by decide +kernel) w h).1
set_option maxRecDepth 20000 in
set_option maxHeartbeats 4000000 in
theorem in_wsL_law_r7 : ∀ w ∈ wsL_law_r7, w ∈ lw_tbl := fun w h => (goodIn_p wsL_law_r7 [283, 635, 638, 641, 645, 649] (by decide +kernel) (by decide +kernel) w h).1
set_option maxRecDepth 20000 in
set_option maxHeartbeats 4000000 in
theorem in_wsL_law_r8 : ∀ w ∈ wsL_law_r8, w ∈ lw_tbl := fun w h => (goodIn_p wsL_law_r8 [287, 293, 297, 301, 304] (by decide +kernel) (by decide +kernel) w h).1
set_option maxRecDepth 20000 in
set_option maxHeartbeats 4000000 in
theorem in_wsL_law_r9 : ∀ w ∈ wsL_law_r9, w ∈ lw_tbl := fun w h => (goodIn_p wsL_law_r9 [308, 312, 316, 319, 323, 327] (by decide +kernel) (by decide +kernel) w h).1
set_option maxRecDepth 20000 in
set_option maxHeartbeats 4000000 in
theorem in_wsL_law_r10 : ∀ w ∈ wsL_law_r10, w ∈ lw_tbl := fun w h => (goodIn_p wsL_law_r10 [331, 335, 339, 653, 657] (by decide +kernel) (by decide +kernel) w h).1
set_option maxRecDepth 20000 in
set_option maxHeartbeats 4000000 in
theorem in_wsL_law_r11 : ∀ w ∈ wsL_law_r11, w ∈ lw_tbl := fun w h => (goodIn_p wsL_law_r11 [661, 665, 669, 673, 677, 681] (by decide +kernel) (by decide +kernel) w h).1
set_option maxRecDepth 20000 in
set_option maxHeartbeats 4000000 in
theorem in_wsL_law_r12 : ∀ w ∈ wsL_law_r12, w ∈ lw_tbl := fun w h => (goodIn_p wsL_law_r12 [684, 688, 691, 695, 343] (by decide +kernel) (by decide +kernel) w h).1
set_option maxRecDepth 20000 in
set_option maxHeartbeats 4000000 in
theorem in_wsL_law_r13 : ∀ w ∈ wsL_law_r13, w ∈ lw_tbl := fun w h => (goodIn_p wsL_law_r13 [348, 352, 699, 703, 357] (by decide +kernel) (by decide +kernel) w h).1
set_option maxRecDepth 20000 in
set_option maxHeartbeats 4000000 in
theorem in_wsL_law_r14 : ∀ w ∈ wsL_law_r14, w ∈ lw_tbl := fun w h => (goodIn_p wsL_law_r14 [707, 711, 715, 365, 368, 719] (by decide +kernel) (by decide +kernel) w h).1
set_option maxRecDepth 20000 in
set_option maxHeartbeats 4000000 in
theorem in_wsL_law_r15 : ∀ w ∈ wsL_law_r15, w ∈ lw_tbl := fun w h => (goodIn_p wsL_law_r15 [722, 372, 726, 377, 730] (by decide +kernel) (by decide +kernel) w h).1
set_option maxRecDepth 20000 in
set_option maxHeartbeats 4000000 in
theorem in_wsL_law_r16 : ∀ w ∈ wsL_law_r16, w ∈ lw_tbl := fun w h => (goodIn_p wsL_law_r16 [382, 389, 734, 738, 393] (by decide +kernel) (by decide +kernel) w h).1
set_option maxRecDepth 20000 in
set_option maxHeartbeats 4000000 in
theorem in_wsL_law_r17 : ∀ w ∈ wsL_law_r17, w ∈ lw_tbl := fun w h => (goodIn_p wsL_law_r17 [397, 401, 405, 409, 416] (by decide +kernel) (by decide +kernel) w h).1
set_option maxRecDepth 20000 in
set_option maxHeartbeats 4000000 in
theorem in_wsL_law_r18 : ∀ w ∈ wsL_law_r18, w ∈ lw_tbl := fun w h => (goodIn_p wsL_law_r18 [413, 420, 742, 746, 750] (by decide +kernel) (by decide +kernel) w h).1
set_option maxRecDepth 20000 in
set_option maxHeartbeats 4000000 in
theorem in_wsL_law_r19 : ∀ w ∈ wsL_law_r19, w ∈ lw_tbl := fun w h => (goodIn_p wsL_law_r19 [753, 757, 761, 764, 424, 768, 428] (by decide +kernel) (by decide +kernel) w h).1
set_option maxRecDepth 20000 in
set_option maxHeartbeats 4000000 in
theorem in_wsL_law_r20 : ∀ w ∈ wsL_law_r20, w ∈ lw_tbl := fun w h => (goodIn_p wsL_law_r20 [431, 772, 775, 436, 439] (by decide +kernel) (by decide +kernel) w h).1
set_option maxRecDepth 20000 in
set_option maxHeartbeats 4000000 in
theorem in_wsL_law_r21 : ∀ w ∈ wsL_law_r21, w ∈ lw_tbl := fun w h => (goodIn_p wsL_law_r21 [779, 446, 449, 453, 457, 461] (by decide +kernel) (by decide +kernel) w h).1
set_option maxRecDepth 20000 in
set_option maxHeartbeats 4000000 in
theorem in_wsL_law_r22 : ∀ w ∈ wsL_law_r22, w ∈ lw_tbl := fun w h => (goodIn_p wsL_law_r22 [783, 787, 790, 794, 798, 465] (by decide +kernel) (by decide +kernel) w h).1
set_option maxRecDepth 20000 in
set_option maxHeartbeats 4000000 in
theorem in_wsL_law_r23 : ∀ w ∈ wsL_law_r23, w ∈ lw_tbl := fun w h => (goodIn_p wsL_law_r23 [469, 474, 511, 802, 806] (by decide +kernel) (by decide +kernel) w h).1
set_option maxRecDepth 20000 in
set_option maxHeartbeats 4000000 in
theorem in_wsL_law_r24 : ∀ w ∈ wsL_law_r24, w ∈ lw_tbl := fun w h => (goodIn_p wsL_law_r24 [810, 515, 519, 814, 818] (by decide +kernel) (by decide +kernel) w h).1
set_option maxRecDepth 20000 in
set_option maxHeartbeats 4000000 in
theorem in_wsL_law_r25 : ∀ w ∈ wsL_law_r25, w ∈ lw_tbl := fun w h => (goodIn_p wsL_law_r25 [525, 822, 529, 534, 538] (by decide +kernel) (by decide +kernel) w h).1
set_option maxRecDepth 20000 in
set_option maxHeartbeats 4000000 in
theorem in_wsL_law_r26 : ∀ w ∈ wsL_law_r26, w ∈ lw_tbl := fun w h => (goodIn_p wsL_law_r26 [826, 830, 542, 834, 547, 838] (by decide +kernel) (by decide +kernel) w h).1
set_option maxRecDepth 20000 in
set_option maxHeartbeats 4000000 in
theorem in_wsL_law_r27 : ∀ w ∈ wsL_law_r27, w ∈ lw_tbl := fun w h => (goodIn_p wsL_law_r27 [552, 842, 556, 560, 846, 564] (by decide +kernel) (by decide +kernel) w h).1
set_option maxRecDepth 20000 in
set_option maxHeartbeats 4000000 in
theorem in_wsL_law_r28 : ∀ w ∈ wsL_law_r28, w ∈ lw_tbl := fun w h => (goodIn_p wsL_law_r28 [850, 568, 572, 576] (by decide +kernel) (by decide +kernel) w h).1
set_option maxRecDepth 20000 in
set_option maxHeartbeats 4000000 in
theorem in_wsL_law_r29 : ∀ w ∈ wsL_law_r29, w ∈ lw_tbl := fun w h => (goodIn_p wsL_law_r29 [580, 584, 588, 593, 854, 858] (by decide +kernel) (by decide +kernel) w h).1
set_option maxRecDepth 20000 in
set_option maxHeartbeats 4000000 in
theorem in_wsL_law_r30 : ∀ w ∈ wsL_law_r30, w ∈ lw_tbl := fun w h => (goodIn_p wsL_law_r30 [862, 866, 870, 874, 597, 878] (by decide +kernel) (by decide +kernel) w h).1
set_option maxRecDepth 20000 in
set_option maxHeartbeats 4000000 in
theorem in_wsX40 : ∀ w ∈ wsX40, w ∈ lw_tbl := fun w h => (goodIn_p wsX40 [] (by decide +kernel) (by decide +kernel) w h).1
set_option maxRecDepth 20000 in
set_option maxHeartbeats 4000000 in
theorem in_wsX50 : ∀ w ∈ wsX50, w ∈ lw_tbl := fun w h => (goodIn_p wsX50 [] (by decide +kernel) (by decide +kernel) w h).1
set_option maxRecDepth 20000 in
set_option maxHeartbeats 4000000 in
theorem in_wsX20 : ∀ w ∈ wsX20, w ∈ lw_tbl := fun w h => (goodIn_p wsX20 [] (by decide +kernel) (by decide +kernel) w h).1
set_option maxRecDepth 20000 in
set_option maxHeartbeats 4000000 in
theorem in_wsX30 : ∀ w ∈ wsX30, w ∈ lw_tbl := fun w h => (goodIn_p wsX30 [] (by decide +kernel) (by decide +kernel) w h).1
set_option maxRecDepth 20000 in
set_option maxHeartbeats 4000000 in
theorem in_wsX00 : ∀ w ∈ wsX00, w ∈ lw_tbl := fun w h => (goodIn_p wsX00 [] (by decide +kernel) (by decide +kernel) w h).1
set_option maxRecDepth 20000 in
set_option maxHeartbeats 4000000 in
theorem in_wsX10 : ∀ w ∈ wsX10, w ∈ lw_tbl := fun w h => (goodIn_p wsX10 [] (by decide +kernel) (by decide +kernel) w h).1
