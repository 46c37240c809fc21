/-! THE LAW: its loop, its start -/
theorem lI.S {D : va_G} {y : zY} {x n : Nat} {s : State} {H : Heap} {locs : List Loc} (h : lI D y x s n H locs) : va_S (fun q : Nat => s.heap.size ≤ q) s.heap H locs := by
  obtain ⟨d, was, tx, k, len, -, -, -, -, hS⟩ := h
  exact hS
theorem lI.next {D : va_G} {y : zY} {x n : Nat} {s : State} {H : Heap} {locs : List Loc} (h : lI D y x s n H locs) : lI D y x s (n + 1) H locs := by
  obtain ⟨d, was, tx, k, len, hJ, a⟩ := h
  exact ⟨d, was, tx, k, len, hJ.mono (Nat.le_succ n), a⟩
theorem len_in {n L : Nat} (hL : L ≤ 3584) (hn : n ≤ 512) (h : ¬ nI L - nI 7 < nI (7 * n)) : 7 * n + 7 ≤ L := by
  have e1 := nI_toInt (show L < 2147483648 by omega)
  have e2 := nI_toInt (show 7 * n < 2147483648 by omega)
  have e3 : (nI 7).toInt = 7 := by decide
  have e := sub_int (x := nI L) (z := nI 7) (by omega) (by omega)
  rw [Int32.lt_iff_toInt_lt, e, e1, e2, e3] at h
  omega
set_option maxRecDepth 100000 in
set_option maxHeartbeats 4000000 in
theorem law_loop {p : Program} {l : Launch} {e : Env} {s : State} {m : MethodId} {below : List Frame} {meth : Method} {c : Code} {b L x : Nat} {xs : Nat → Int32} {D : va_G} {y : zY} (hC : lwX p s m meth c b L x xs D y) {H : Heap} {locs : List Loc} {ls : Array Slot} (hI : lI D y x s 0 H locs) (hl : lv_has ls 4 [(3, .int (nI (7 * 0))), (2, .ref (x + 70)), (1, .ref x), (0, .ref b)]) : W p l e room_1 s m #[Value.ref b] below meth c H locs 76 13938 (lw_Z below #[Value.ref b] s) (F0 m 18 ls []) := by
  refine z_loopC (S := Nat) (nL := 4) (cN := fun n => 76 + 16 * n) (sN := fun n => 13938 + 112 * n) (fun n => 600 - n) (fun n => [(3, .int (nI (7 * n))), (2, .ref (x + 70)), (1, .ref x), (0, .ref b)]) (fun n H locs => lI D y x s n H locs ∧ n ≤ 512) 0 ⟨hI, by decide⟩ hl rfl rfl ?_
  clear hl hI
  rintro n H locs ls ⟨hI, hn5⟩ hl ih
  try dsimp only at hl ih ⊢
  obtain ⟨hx, hb, hret, hlocks, hF, hK, hX, hbl, hL, hxs, -⟩ := id hC
  have hS := hI.S
  refine lv_iload_n hx hb dL_law_18 rfl (lv_at hl 0 rfl) ?_
  refine lv_aload_n hx hb dL_law_19 rfl (lv_at hl 3 rfl) ?_
  refine va_slen hx hb hX hbl (Nat.not_le.mpr hbl) hS dL_law_20 ?_
  refine lv_bipush (v := nI 7) hx hb dL_law_21 (by decide) ?_
  refine lv_isub hx hb dL_law_23 ?_
  refine lv_icmp_gt (tgt := 1014) hx hb dL_law_24 (by decide) (fun c24 => ?_) (fun c24 => ?_)
  · refine va_forget hS.2.2 ?_
    refine W.widen (k := 600000) (n := 7302250) (by omega) (by omega) ?_
    refine lv_iconst (v := 1) hx hb dL_law_1014 (by decide) ?_
    exact lw_ret hx hb hret hlocks dL_law_1015
  · have hn : 7 * n + 7 ≤ L := len_in hL hn5 c24
    obtain ⟨v0, hv0⟩ : ∃ v, xs (7 * n) = v := ⟨_, rfl⟩
    refine lv_aload_n hx hb dL_law_27 rfl (lv_at hl 3 rfl) ?_
    refine lv_iload_n hx hb dL_law_28 rfl (lv_at hl 0 rfl) ?_
    refine s_ld hC hS (i := 7 * n) (by omega) hv0 dL_law_29 ?_
    refine lv_bipush (v := nI 31) hx hb dL_law_30 (by decide) ?_
    refine lv_iand hx hb dL_law_32 ?_
    have hnx : ∀ (H' : Heap) (locs' : List Loc) (ls' : Array Slot), lI D y x s (n + 1) H' locs' → lv_has ls' 4 [(3, .int (nI (7 * n + 7))), (2, .ref (x + 70)), (1, .ref x), (0, .ref b)] → W p l e room_1 s m #[Value.ref b] below meth c H' locs' (76 + 16 * (n + 1)) (13938 + 112 * (n + 1)) (lw_Z below #[Value.ref b] s) (F0 m 18 ls' []) := fun H' locs' ls' h1 h2 => ih (n + 1) H' locs' ls' (by omega) ⟨h1, by omega⟩ h2
    rcases sw_0_23 (v0 &&& nI 31) with c33 | c33 | c33 | c33 | c33 | c33 | c33 | c33 | c33 | c33 | c33 | c33 | c33 | c33 | c33 | c33 | c33 | c33 | c33 | c33 | c33 | c33 | c33 | c33 | ⟨k0, k1, k2, k3, k4, k5, k6, k7, k8, k9, k10, k11, k12, k13, k14, k15, k16, k17, k18, k19, k20, k21, k22, k23⟩
    · refine lv_tableIn (off := 111) (tgt := 144) hx hb dL_law_33 (by rw [c33]; decide) (by rw [c33]; decide) (by rw [c33]; rfl) (by decide) ?_
      exact L_crane hC hn hI hl hnx
    · refine lv_tableIn (off := 186) (tgt := 219) hx hb dL_law_33 (by rw [c33]; decide) (by rw [c33]; decide) (by rw [c33]; rfl) (by decide) ?_
      exact L_noise hC hn hI hl hnx
    · refine lv_tableIn (off := 219) (tgt := 252) hx hb dL_law_33 (by rw [c33]; decide) (by rw [c33]; decide) (by rw [c33]; rfl) (by decide) ?_
      exact L_craneOf hC hn hI hl hnx
    · refine lv_tableIn (off := 252) (tgt := 285) hx hb dL_law_33 (by rw [c33]; decide) (by rw [c33]; decide) (by rw [c33]; rfl) (by decide) ?_
      exact L_set hC hn hI hl hnx
    · refine lv_tableIn (off := 285) (tgt := 318) hx hb dL_law_33 (by rw [c33]; decide) (by rw [c33]; decide) (by rw [c33]; rfl) (by decide) ?_
      exact L_wind hC hn hI hl hnx
    · refine lv_tableIn (off := 318) (tgt := 351) hx hb dL_law_33 (by rw [c33]; decide) (by rw [c33]; decide) (by rw [c33]; rfl) (by decide) ?_
      exact L_allow hC hn hI hl hnx
    · refine lv_tableIn (off := 361) (tgt := 394) hx hb dL_law_33 (by rw [c33]; decide) (by rw [c33]; decide) (by rw [c33]; rfl) (by decide) ?_
      exact L_transfer hC hn hI hl hnx
    · refine lv_tableIn (off := 414) (tgt := 447) hx hb dL_law_33 (by rw [c33]; decide) (by rw [c33]; decide) (by rw [c33]; rfl) (by decide) ?_
      exact L_street hC hn hI hl hnx
    · refine lv_tableIn (off := 457) (tgt := 490) hx hb dL_law_33 (by rw [c33]; decide) (by rw [c33]; decide) (by rw [c33]; rfl) (by decide) ?_
      exact L_count hC hn hI hl hnx
    · refine lv_tableIn (off := 480) (tgt := 513) hx hb dL_law_33 (by rw [c33]; decide) (by rw [c33]; decide) (by rw [c33]; rfl) (by decide) ?_
      exact L_undo hC hn hI hl hnx
    · refine lv_tableIn (off := 493) (tgt := 526) hx hb dL_law_33 (by rw [c33]; decide) (by rw [c33]; decide) (by rw [c33]; rfl) (by decide) ?_
      exact L_covers hC hn hI hl hnx
    · refine lv_tableIn (off := 546) (tgt := 579) hx hb dL_law_33 (by rw [c33]; decide) (by rw [c33]; decide) (by rw [c33]; rfl) (by decide) ?_
      exact L_area hC hn hI hl hnx
    · refine lv_tableIn (off := 579) (tgt := 612) hx hb dL_law_33 (by rw [c33]; decide) (by rw [c33]; decide) (by rw [c33]; rfl) (by decide) ?_
      exact L_refusal hC hn hI hl hnx
    · refine lv_tableIn (off := 632) (tgt := 665) hx hb dL_law_33 (by rw [c33]; decide) (by rw [c33]; decide) (by rw [c33]; rfl) (by decide) ?_
      exact L_apply hC hn hI hl hnx
    · refine lv_tableIn (off := 685) (tgt := 718) hx hb dL_law_33 (by rw [c33]; decide) (by rw [c33]; decide) (by rw [c33]; rfl) (by decide) ?_
      exact L_withdraw hC hn hI hl hnx
    · refine lv_tableIn (off := 708) (tgt := 741) hx hb dL_law_33 (by rw [c33]; decide) (by rw [c33]; decide) (by rw [c33]; rfl) (by decide) ?_
      exact L_permit hC hn hI hl hnx
    · refine lv_tableIn (off := 741) (tgt := 774) hx hb dL_law_33 (by rw [c33]; decide) (by rw [c33]; decide) (by rw [c33]; rfl) (by decide) ?_
      exact L_inOrder hC hn hI hl hnx
    · refine lv_tableIn (off := 764) (tgt := 797) hx hb dL_law_33 (by rw [c33]; decide) (by rw [c33]; decide) (by rw [c33]; rfl) (by decide) ?_
      exact L_shares hC hn hI hl hnx
    · refine lv_tableIn (off := 797) (tgt := 830) hx hb dL_law_33 (by rw [c33]; decide) (by rw [c33]; decide) (by rw [c33]; rfl) (by decide) ?_
      exact L_inTheWay hC hn hI hl hnx
    · refine lv_tableIn (off := 850) (tgt := 883) hx hb dL_law_33 (by rw [c33]; decide) (by rw [c33]; decide) (by rw [c33]; rfl) (by decide) ?_
      exact L_firstFree hC hn hI hl hnx
    · refine lv_tableIn (off := 903) (tgt := 936) hx hb dL_law_33 (by rw [c33]; decide) (by rw [c33]; decide) (by rw [c33]; rfl) (by decide) ?_
      exact L_type hC hn hI hl hnx
    · refine lv_tableIn (off := 926) (tgt := 959) hx hb dL_law_33 (by rw [c33]; decide) (by rw [c33]; decide) (by rw [c33]; rfl) (by decide) ?_
      exact L_clearText hC hn hI hl hnx
    · refine lv_tableIn (off := 939) (tgt := 972) hx hb dL_law_33 (by rw [c33]; decide) (by rw [c33]; decide) (by rw [c33]; rfl) (by decide) ?_
      exact L_fault hC hn hI hl hnx
    · refine lv_tableIn (off := 962) (tgt := 995) hx hb dL_law_33 (by rw [c33]; decide) (by rw [c33]; decide) (by rw [c33]; rfl) (by decide) ?_
      exact L_enter hC hn hI hl hnx
    · refine lv_tableOut (tgt := 1008) hx hb dL_law_33 (swOut_0_23 k0 k1 k2 k3 k4 k5 k6 k7 k8 k9 k10 k11 k12 k13 k14 k15 k16 k17 k18 k19 k20 k21 k22 k23) (by decide) ?_
      refine lv_iinc (v := nI (7 * n + 7)) (lv' := [(3, .int (nI (7 * n + 7))), (2, .ref (x + 70)), (1, .ref x), (0, .ref b)]) hx hb dL_law_1008 hl (k := 0) rfl (in7 _) (by decide) rfl (fun ls hl => ?_)
      refine lv_goto (tgt := 18) hx hb dL_law_1011 (by decide) ?_
      refine W.widen (k := 76 + 16 * (n + 1)) (n := 13938 + 112 * (n + 1)) (by omega) (by omega) ?_
      exact hnx _ _ _ hI.next hl
set_option maxRecDepth 100000 in
set_option maxHeartbeats 4000000 in
/-- from the entry, for every script of at most 3584 ints, the law comes to its end with true -/
theorem whole_start {p : Program} {e : Env} {s : State} {m : MethodId} {below : List Frame} {meth : Method} {c : Code} (l : Launch) (hflags : l.flags = flags0) {b L : Nat} {xs : Nat → Int32} (hL : L ≤ 3584) (C0 : lw_At p s m meth c b L xs) : W p l e room_1 s m #[Value.ref b] below meth c s.heap [] 0 0 (lw_Z below #[Value.ref b] s) (entryFrame m ([Value.ref b] : List Value).toArray 4) := by
  obtain ⟨hx, hb, hret, hml, hown, hts, hX, hbl, hlocks, hgv⟩ := id C0
  obtain ⟨D, y, hK⟩ := zK_start hts
  have htsL : ∀ w ∈ wsL_law, w.before #[Value.ref b] s = true := fun w h => hts w (wsL_law_in w h)
  have hF : CallFix p m c cL_law 4 s #[Value.ref b] wsL_law RL := ⟨hx, hb, hml, hown, htsL⟩
  have hZ := zZ_start hts hgv
  obtain ⟨x, hxs⟩ : ∃ x, s.heap.size = x := ⟨_, rfl⟩
  have hC : lwX p s m meth c b L x xs D y := ⟨hx, hb, hret, hlocks, hF, hK, hX, hbl, hL, hxs, hZ⟩
  have hS : va_S (fun q : Nat => s.heap.size ≤ q) s.heap s.heap [] := va_S.rf
  have hl := lv_entry ([.ref b]) (n := 4) (Nat.le_of_ble_eq_true rfl)
  rw [lg_entry_eq]
  generalize (lg_sl ([.ref b]) ++ List.replicate (4 - (lg_sl ([.ref b])).length) Slot.unset).toArray = ls at hl ⊢
  have hl : lv_has ls 4 [(0, .ref b)] := hl
  have hown : s.vm.findClass RL = some m.cls := hown
  refine y_new (a := x) (C := RX4) (T := TX4) (N := 5) (ci := 4) (fs := [.null, .null, .null, .int 0, .null]) hx hb htsL inlX4 tyX4 tyX4_ok hown (hts (.classLink RL 7 RX4) (by decide +kernel)) (hts (.instantiable RX4 5) (by decide +kernel)) (hts (.initialized RX4) (by decide +kernel)) hK rfl (fun j hj => by rcases (show j = 0 ∨ j = 1 ∨ j = 2 ∨ j = 3 ∨ j = 4 by omega) with rfl | rfl | rfl | rfl | rfl <;> rfl) hxs (by decide) (by decide) dL_law_0 (fun H1 hz1 hk hV => ?_)
  have hS := hS.grow hz1 hk
  refine lv_dup hx hb dL_law_3 rfl ?_
  refine w_callI (b := x) (As := []) (rest := [.ref x]) hF hK (c_X4_init l D y x (x + 76) (fun _ => 0) (fun _ => 0) (fun _ => 0) (by omega)) (cwI 0 htsL gL_law_X4_init rfl rfl rfl (hts (.initialized RX4) (by decide +kernel)) (hts (.methodLink RL 9 yX4_init) (by decide +kernel)) (hts (.instanceMethod yX4_init) (by decide +kernel)) rfl (by decide +kernel) ⟨Nat.le_of_ble_eq_true rfl, Nat.le_of_ble_eq_true rfl⟩) ⟨z_one hV, by rw [hz1, hxs]⟩ hS (fun q h => by rw [hxs]; exact h.1) rfl hl.1 rfl (Nat.le_of_ble_eq_true rfl) dL_law_4 ⟨Nat.le_of_ble_eq_true rfl, Nat.le_of_ble_eq_true rfl⟩ (fun H2 locs2 hq hz2 hk2 hS => ?_)
  obtain ⟨hM0, hz3⟩ := hq
  have hO := hM0.xO
  clear hM0 hz2 hk2 hz1 hk hV
  refine lv_astore_n (lv' := [(1, .ref x), (0, .ref b)]) hx hb dL_law_7 rfl hl (by decide) rfl (fun ls hl => ?_)
  refine y_new (a := x + 70) (C := RX5) (T := TX5) (N := 9) (ci := 5) (fs := [.null, .null, .int 0, .null, .null, .int 0, .int 0, .int 0, .null]) hx hb htsL inlX5 tyX5 tyX5_ok hown (hts (.classLink RL 10 RX5) (by decide +kernel)) (hts (.instantiable RX5 9) (by decide +kernel)) (hts (.initialized RX5) (by decide +kernel)) hK rfl (fun j hj => by rcases (show j = 0 ∨ j = 1 ∨ j = 2 ∨ j = 3 ∨ j = 4 ∨ j = 5 ∨ j = 6 ∨ j = 7 ∨ j = 8 by omega) with rfl | rfl | rfl | rfl | rfl | rfl | rfl | rfl | rfl <;> rfl) hz3 (by decide) (by decide) dL_law_8 (fun H3 hz1 hk hV => ?_)
  have hS := hS.grow hz1 hk
  have hO := hO.keep (A := fun _ => False) (fun q h _ => hk q h) (fun _ _ _ h => h) (fun _ _ h => h)
  have hz4 : H3.size = x + 70 + 1 := by rw [hz1, hz3]
  clear hz1 hk hz3
  refine lv_dup hx hb dL_law_11 rfl ?_
  refine w_callI (b := x + 70) (As := []) (rest := [.ref (x + 70)]) hF hK (c_X5_init l D y (x + 70)) (cwI 0 htsL gL_law_X5_init rfl rfl rfl (hts (.initialized RX5) (by decide +kernel)) (hts (.methodLink RL 12 yX5_init) (by decide +kernel)) (hts (.instanceMethod yX5_init) (by decide +kernel)) rfl (by decide +kernel) ⟨Nat.le_of_ble_eq_true rfl, Nat.le_of_ble_eq_true rfl⟩) ⟨z_one hV, hz4⟩ hS (fun q h => by rw [hxs]; have h9 := h.1; omega) rfl hl.1 rfl (Nat.le_of_ble_eq_true rfl) dL_law_12 ⟨Nat.le_of_ble_eq_true rfl, Nat.le_of_ble_eq_true rfl⟩ (fun H4 locs4 hq hz2 hk2 hS => ?_)
  obtain ⟨hM, hz5⟩ := hq
  have hO := hO.keep hk2 (fun q h1 h2 => nblk (by omega)) (fun q h1 => nblk (by omega))
  clear hz2 hk2 hV hz4
  refine lv_astore_n (lv' := [(2, .ref (x + 70)), (1, .ref x), (0, .ref b)]) hx hb dL_law_15 rfl hl (by decide) rfl (fun ls hl => ?_)
  refine lv_iconst (v := nI 0) hx hb dL_law_16 (by decide) ?_
  refine lv_istore_n (lv' := [(3, .int (nI 0)), (2, .ref (x + 70)), (1, .ref x), (0, .ref b)]) hx hb dL_law_17 rfl hl (by decide) rfl (fun ls hl => ?_)
  exact law_loop hC ⟨iniD 120, fun _ => 0, fun _ => 0, 0, 0, ⟨ini_J, by decide, by decide, fun j hj => absurd hj (Nat.not_lt_zero j)⟩, ⟨_, _, _, _, _, _, _, _, hO, fun j hj => absurd hj (Nat.not_lt_zero j)⟩, ⟨_, _, _, _, hM⟩, by rw [hz5]; exact Nat.le_refl _, hS⟩ hl
