/-! THE LAW: its words are among the tables' -/
set_option maxRecDepth 20000 in
set_option maxHeartbeats 4000000 in
theorem in_wsL_law_r1 : ∀ w ∈ wsL_law_r1, w ∈ lw_tbl := fun w h => (goodIn_p wsL_law_r1 [20, 23] (by decide +kernel) (by decide +kernel) w h).1
set_option maxRecDepth 20000 in
set_option maxHeartbeats 4000000 in
theorem in_wsL_law_r2 : ∀ w ∈ wsL_law_r2, w ∈ lw_tbl := fun w h => (goodIn_p wsL_law_r2 [28, 36, 93] (by decide +kernel) (by decide +kernel) w h).1
set_option maxRecDepth 20000 in
set_option maxHeartbeats 4000000 in
theorem in_wsL_law_r3 : ∀ w ∈ wsL_law_r3, w ∈ lw_tbl := fun w h => (goodIn_p wsL_law_r3 [480, 337] (by decide +kernel) (by decide +kernel) w h).1
set_option maxRecDepth 20000 in
set_option maxHeartbeats 4000000 in
theorem in_wsL_law_r4 : ∀ w ∈ wsL_law_r4, w ∈ lw_tbl := fun w h => (goodIn_p wsL_law_r4 [341, 261, 345, 254, 292] (by decide +kernel) (by decide +kernel) w h).1
set_option maxRecDepth 20000 in
set_option maxHeartbeats 4000000 in
theorem in_wsL_law_r5 : ∀ w ∈ wsL_law_r5, w ∈ lw_tbl := fun w h => (goodIn_p wsL_law_r5 [349, 353, 364, 357, 361] (by decide +kernel) (by decide +kernel) w h).1
set_option maxRecDepth 20000 in
set_option maxHeartbeats 4000000 in
theorem in_wsL_law_r6 : ∀ w ∈ wsL_law_r6, w ∈ lw_tbl := fun w h => (goodIn_p wsL_law_r6 [368, 484, 452] (by decide +kernel) (by decide +kernel) w h).1
set_option maxRecDepth 20000 in
set_option maxHeartbeats 4000000 in
theorem in_wsL_law_r7 : ∀ w ∈ wsL_law_r7, w ∈ lw_tbl := fun w h => (goodIn_p wsL_law_r7 [326, 153, 150, 312, 280, 276] (by decide +kernel) (by decide +kernel) w h).1
set_option maxRecDepth 20000 in
set_option maxHeartbeats 4000000 in
theorem in_wsL_law_r8 : ∀ w ∈ wsL_law_r8, w ∈ lw_tbl := fun w h => (goodIn_p wsL_law_r8 [273, 284, 288, 333, 488] (by decide +kernel) (by decide +kernel) w h).1
set_option maxRecDepth 20000 in
set_option maxHeartbeats 4000000 in
theorem in_wsL_law_r9 : ∀ w ∈ wsL_law_r9, w ∈ lw_tbl := fun w h => (goodIn_p wsL_law_r9 [161, 492, 265, 376, 379] (by decide +kernel) (by decide +kernel) w h).1
set_option maxRecDepth 20000 in
set_option maxHeartbeats 4000000 in
theorem in_wsL_law_r10 : ∀ w ∈ wsL_law_r10, w ∈ lw_tbl := fun w h => (goodIn_p wsL_law_r10 [382, 386, 390, 258, 394] (by decide +kernel) (by decide +kernel) w h).1
set_option maxRecDepth 20000 in
set_option maxHeartbeats 4000000 in
theorem in_wsL_law_r11 : ∀ w ∈ wsL_law_r11, w ∈ lw_tbl := fun w h => (goodIn_p wsL_law_r11 [372, 173, 177, 475, 144] (by decide +kernel) (by decide +kernel) w h).1
set_option maxRecDepth 20000 in
set_option maxHeartbeats 4000000 in
theorem in_wsL_law_r12 : ∀ w ∈ wsL_law_r12, w ∈ lw_tbl := fun w h => (goodIn_p wsL_law_r12 [147, 157, 165, 169, 185] (by decide +kernel) (by decide +kernel) w h).1
set_option maxRecDepth 20000 in
set_option maxHeartbeats 4000000 in
theorem in_wsL_law_r13 : ∀ w ∈ wsL_law_r13, w ∈ lw_tbl := fun w h => (goodIn_p wsL_law_r13 [190, 194, 197, 237, 240] (by decide +kernel) (by decide +kernel) w h).1
set_option maxRecDepth 20000 in
set_option maxHeartbeats 4000000 in
theorem in_wsL_law_r14 : ∀ w ∈ wsL_law_r14, w ∈ lw_tbl := fun w h => (goodIn_p wsL_law_r14 [496, 500, 504, 511, 309] (by decide +kernel) (by decide +kernel) w h).1
set_option maxRecDepth 20000 in
set_option maxHeartbeats 4000000 in
theorem in_wsL_law_r15 : ∀ w ∈ wsL_law_r15, w ∈ lw_tbl := fun w h => (goodIn_p wsL_law_r15 [250, 269, 296, 316, 321] (by decide +kernel) (by decide +kernel) w h).1
set_option maxRecDepth 20000 in
set_option maxHeartbeats 4000000 in
theorem in_wsL_law_r16 : ∀ w ∈ wsL_law_r16, w ∈ lw_tbl := fun w h => (goodIn_p wsL_law_r16 [458, 463, 467, 448, 244] (by decide +kernel) (by decide +kernel) w h).1
set_option maxRecDepth 20000 in
set_option maxHeartbeats 4000000 in
theorem in_wsL_law_r17 : ∀ w ∈ wsL_law_r17, w ∈ lw_tbl := fun w h => (goodIn_p wsL_law_r17 [398, 402, 407, 444, 471] (by decide +kernel) (by decide +kernel) w h).1
set_option maxRecDepth 20000 in
set_option maxHeartbeats 4000000 in
theorem in_wsL_law_r18 : ∀ w ∈ wsL_law_r18, w ∈ lw_tbl := fun w h => (goodIn_p wsL_law_r18 [300] (by decide +kernel) (by decide +kernel) w h).1
set_option maxRecDepth 20000 in
set_option maxHeartbeats 4000000 in
theorem in_wsX40 : ∀ w ∈ wsX40, w ∈ lw_tbl := fun w h => (goodIn_p wsX40 [] (by decide +kernel) (by decide +kernel) w h).1
set_option maxRecDepth 20000 in
set_option maxHeartbeats 4000000 in
theorem in_wsX20 : ∀ w ∈ wsX20, w ∈ lw_tbl := fun w h => (goodIn_p wsX20 [] (by decide +kernel) (by decide +kernel) w h).1
set_option maxRecDepth 20000 in
set_option maxHeartbeats 4000000 in
theorem in_wsX30 : ∀ w ∈ wsX30, w ∈ lw_tbl := fun w h => (goodIn_p wsX30 [] (by decide +kernel) (by decide +kernel) w h).1
set_option maxRecDepth 20000 in
set_option maxHeartbeats 4000000 in
theorem in_wsX10 : ∀ w ∈ wsX10, w ∈ lw_tbl := fun w h => (goodIn_p wsX10 [] (by decide +kernel) (by decide +kernel) w h).1
set_option maxRecDepth 20000 in
set_option maxHeartbeats 4000000 in
theorem in_wsX00 : ∀ w ∈ wsX00, w ∈ lw_tbl := fun w h => (goodIn_p wsX00 [] (by decide +kernel) (by decide +kernel) w h).1
