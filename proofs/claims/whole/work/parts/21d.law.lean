/-! THE LAW: its cases, 4 -/
set_option maxRecDepth 100000 in
set_option maxHeartbeats 4000000 in
theorem L_set {p : Program} {l : Launch} {e : Env} {s : State} {m : MethodId} {below : List Frame} {meth : Method} {c : Code} {b L x : Nat} {xs : Nat → Int32} {D : va_G} {y : zY} (hC : lwX p s m meth c b L x xs D y) {n : Nat} (hn : 7 * n + 7 ≤ L) {H : Heap} {locs : List Loc} {ls : Array Slot} (hI0 : lI D y x s n H locs) (hl : lv_has ls 4 [(3, .int (nI (7 * n))), (2, .ref (x + 70)), (1, .ref x), (0, .ref b)])
    (ih : ∀ (H' : Heap) (locs' : List Loc) (ls' : Array Slot), lI D y x s (n + 1) H' locs' → lv_has ls' 4 [(3, .int (nI (7 * n + 7))), (2, .ref (x + 70)), (1, .ref x), (0, .ref b)] → W p l e room_1 s m #[Value.ref b] below meth c H' locs' (76 + 16 * (n + 1)) (13938 + 112 * (n + 1)) (lw_Z below #[Value.ref b] s) (F0 m 18 ls' [])) : W p l e room_1 s m #[Value.ref b] below meth c H locs (76 + 16 * n) (13938 + 112 * n) (lw_Z below #[Value.ref b] s) (F0 m 285 ls []) := by
  obtain ⟨hx, hb, hret, hlocks, hF, hK, -, -, hL, hxs, -⟩ := id hC
  have hts := hF.2.2.2.2
  obtain ⟨d, was, tx, k, len, hJ, hCI, hMI, hbs, hS⟩ := hI0
  obtain ⟨ca, pa, pk, T, P, rot, ts, tn, hO, hH⟩ := id hCI
  obtain ⟨as, gt, pa9, rs, hM⟩ := id hMI
  have hn1 : n ≤ 511 := by omega
  have hJ1 := hJ.mono (Nat.le_succ n)
  obtain ⟨hZ, hk4, hl80, hW⟩ := id hJ
  have hr := hZ.1
  have hI := hr.1
  have hbd : x + 70 ≤ x + 76 := by omega
  obtain ⟨v1, hv1⟩ : ∃ v, xs (7 * n + 1) = v := ⟨_, rfl⟩
  obtain ⟨v2, hv2⟩ : ∃ v, xs (7 * n + 2) = v := ⟨_, rfl⟩
  refine lv_aload_n hx hb dL_law_285 rfl (lv_at hl 2 rfl) ?_
  refine lv_aload_n hx hb dL_law_286 rfl (lv_at hl 3 rfl) ?_
  refine lv_iload_n hx hb dL_law_287 rfl (lv_at hl 0 rfl) ?_
  refine lv_iconst (v := nI 1) hx hb dL_law_288 (by decide) ?_
  refine z_iadd hx hb dL_law_289 ?_
  refine s_ld hC hS (i := 7 * n + 1) (by omega) hv1 dL_law_290 ?_
  refine lv_aload_n hx hb dL_law_291 rfl (lv_at hl 3 rfl) ?_
  refine lv_iload_n hx hb dL_law_292 rfl (lv_at hl 0 rfl) ?_
  refine lv_iconst (v := nI 2) hx hb dL_law_293 (by decide) ?_
  refine z_iadd hx hb dL_law_294 ?_
  refine s_ld hC hS (i := 7 * n + 2) (by omega) hv2 dL_law_295 ?_
  by_cases hok : okSet v1 v2 = true
  · rcases okSet_c hok with ⟨rfl, hok⟩ | ⟨rfl, hok⟩ | ⟨rfl, hok⟩
    · obtain ⟨e1, e2, e3⟩ := ch_set0 hZ (by omega) (v := v2)
      have hZZ : zZ (xB x (x + 76)) s H := zZ_at hC (by omega) hS
      refine w_callVG (fun u U H9 h9 q9 => ⟨q9.1, q9.2.moved h9⟩) (As := [.int (nI 0), .int v2]) (rest := []) hF hK (c_X4_set_ok l D y x (x + 76) d ca pa pk T P k rot len ts tn tx 0 v2 (hr) (hk4) (hbd) (by decide) (hok)) (cwV 2 hts gL_law_X4_set rfl rfl rfl (by decide +kernel) ⟨Nat.le_of_ble_eq_true rfl, Nat.le_of_ble_eq_true rfl⟩) (cI.recv hK hCI) ⟨hO, hZZ⟩ hS (fun q h => by rw [hxs]; exact xB_hi (by omega) h) rfl hl.1 rfl (Nat.le_of_ble_eq_true rfl) dL_law_296 ⟨by show _ ≤ 600000; omega, by show _ ≤ 7302250; omega⟩ (fun H1 locsH1 hq hz1 hk hS => ?_)
      have hMI := hMI.keep hk (fun q h1 h2 => nB_m (by omega) h1 h2)
      have hbs := Nat.le_trans hbs hz1
      clear hO hCI hM
      have hO := hq.same (wf_I (hI.low 1 (by omega) v2).1 (rJ_upd hr (k := 1) (v := v2) (by omega) (by omega)).2 (Nat.le_refl _)).1 (fun i _ _ h4 => (e1 i h4).symm)
      clear hz1 hk
      obtain ⟨as, gt, pa9, rs, hM⟩ := hMI
      refine lv_aload_n hx hb dL_law_299 rfl (lv_at hl 1 rfl) ?_
      refine lv_aload_n hx hb dL_law_300 rfl (lv_at hl 3 rfl) ?_
      refine lv_iload_n hx hb dL_law_301 rfl (lv_at hl 0 rfl) ?_
      refine lv_iconst (v := nI 1) hx hb dL_law_302 (by decide) ?_
      refine z_iadd hx hb dL_law_303 ?_
      refine s_ld hC hS (i := 7 * n + 1) (by omega) hv1 dL_law_304 ?_
      refine lv_aload_n hx hb dL_law_305 rfl (lv_at hl 3 rfl) ?_
      refine lv_iload_n hx hb dL_law_306 rfl (lv_at hl 0 rfl) ?_
      refine lv_iconst (v := nI 2) hx hb dL_law_307 (by decide) ?_
      refine z_iadd hx hb dL_law_308 ?_
      refine s_ld hC hS (i := 7 * n + 2) (by omega) hv2 dL_law_309 ?_
      refine w_callV (As := [.int (nI 0), .int v2]) (rest := [.int (wfC (upd d (1 + 0) v2) (vn (upd d (1 + 0) v2)))]) hF hK (c_X5_set_0 l D y (x + 70) d was as tx gt k (nI len) pa9 rs v2 (hI) (hk4) (hok)) (cwV 2 hts gL_law_X5_set rfl rfl rfl (by decide +kernel) ⟨Nat.le_of_ble_eq_true rfl, Nat.le_of_ble_eq_true rfl⟩) (mI.recv hK (⟨as, gt, pa9, rs, hM⟩ : mI D y (x + 70) d was tx k len _)) hM hS (fun q h => by rw [hxs]; have h9 := h.1; omega) rfl hl.1 rfl (Nat.le_of_ble_eq_true rfl) dL_law_310 ⟨by show _ ≤ 600000; omega, by show _ ≤ 7302250; omega⟩ (fun H2 locsH2 hq hz1 hk hS => ?_)
      have hO := hO.keep hk (fun q h1 h2 => nblk (by omega)) (fun q h1 => nblk (by omega))
      have hbs := Nat.le_trans hbs hz1
      clear hM
      have hM := hq
      clear hz1 hk
      refine lv_icmp_eq (tgt := 1008) hx hb dL_law_313 (by decide) (fun _ => ?_) (fun q => absurd (show ((wfC (upd d (1 + 0) v2) (vn (upd d (1 + 0) v2))) : Int32) = (caC (upd d 1 v2) 30) from e2) q)
      refine lv_iinc (v := nI (7 * n + 7)) (lv' := [(3, .int (nI (7 * n + 7))), (2, .ref (x + 70)), (1, .ref x), (0, .ref b)]) hx hb dL_law_1008 hl (k := 0) rfl (in7 _) (by decide) rfl (fun ls hl => ?_)
      refine lv_goto (tgt := 18) hx hb dL_law_1011 (by decide) ?_
      refine W.widen (k := 76 + 16 * (n + 1)) (n := 13938 + 112 * (n + 1)) (by omega) (by omega) ?_
      exact ih _ _ _ ⟨caD (upd d 1 v2) 30, recW d was k, tx, recN k, len, (hJ.rem e3).mono (Nat.le_succ n), ⟨_, _, _, _, _, _, _, _, hO, hH.rem hk4 _ (fun i _ _ _ => rfl)⟩, ⟨_, _, _, _, hM⟩, hbs, hS⟩ (lv_sub hl [0, 1, 2, 3] rfl)
    · obtain ⟨e1, e2, e3⟩ := ch_set1 hZ (by omega) hok
      have hZZ : zZ (xB x (x + 76)) s H := zZ_at hC (by omega) hS
      refine w_callVG (fun u U H9 h9 q9 => ⟨q9.1, q9.2.moved h9⟩) (As := [.int (nI 1), .int v2]) (rest := []) hF hK (c_X4_set_ok l D y x (x + 76) d ca pa pk T P k rot len ts tn tx 1 v2 (hr) (hk4) (hbd) (by decide) (hok)) (cwV 2 hts gL_law_X4_set rfl rfl rfl (by decide +kernel) ⟨Nat.le_of_ble_eq_true rfl, Nat.le_of_ble_eq_true rfl⟩) (cI.recv hK hCI) ⟨hO, hZZ⟩ hS (fun q h => by rw [hxs]; exact xB_hi (by omega) h) rfl hl.1 rfl (Nat.le_of_ble_eq_true rfl) dL_law_296 ⟨by show _ ≤ 600000; omega, by show _ ≤ 7302250; omega⟩ (fun H1 locsH1 hq hz1 hk hS => ?_)
      have hMI := hMI.keep hk (fun q h1 h2 => nB_m (by omega) h1 h2)
      have hbs := Nat.le_trans hbs hz1
      clear hO hCI hM
      have hO := hq.same (wf_I (hI.low 2 (by omega) v2).1 (rJ_upd hr (k := 2) (v := v2) (by omega) (by omega)).2 (Nat.le_refl _)).1 (fun i _ _ h4 => (e1 i h4).symm)
      clear hz1 hk
      obtain ⟨as, gt, pa9, rs, hM⟩ := hMI
      refine lv_aload_n hx hb dL_law_299 rfl (lv_at hl 1 rfl) ?_
      refine lv_aload_n hx hb dL_law_300 rfl (lv_at hl 3 rfl) ?_
      refine lv_iload_n hx hb dL_law_301 rfl (lv_at hl 0 rfl) ?_
      refine lv_iconst (v := nI 1) hx hb dL_law_302 (by decide) ?_
      refine z_iadd hx hb dL_law_303 ?_
      refine s_ld hC hS (i := 7 * n + 1) (by omega) hv1 dL_law_304 ?_
      refine lv_aload_n hx hb dL_law_305 rfl (lv_at hl 3 rfl) ?_
      refine lv_iload_n hx hb dL_law_306 rfl (lv_at hl 0 rfl) ?_
      refine lv_iconst (v := nI 2) hx hb dL_law_307 (by decide) ?_
      refine z_iadd hx hb dL_law_308 ?_
      refine s_ld hC hS (i := 7 * n + 2) (by omega) hv2 dL_law_309 ?_
      refine w_callV (As := [.int (nI 1), .int v2]) (rest := [.int (wfC (upd d (1 + 1) v2) (vn (upd d (1 + 1) v2)))]) hF hK (c_X5_set_1 l D y (x + 70) d was as tx gt k (nI len) pa9 rs v2 (hI) (hk4) (hok)) (cwV 2 hts gL_law_X5_set rfl rfl rfl (by decide +kernel) ⟨Nat.le_of_ble_eq_true rfl, Nat.le_of_ble_eq_true rfl⟩) (mI.recv hK (⟨as, gt, pa9, rs, hM⟩ : mI D y (x + 70) d was tx k len _)) hM hS (fun q h => by rw [hxs]; have h9 := h.1; omega) rfl hl.1 rfl (Nat.le_of_ble_eq_true rfl) dL_law_310 ⟨by show _ ≤ 600000; omega, by show _ ≤ 7302250; omega⟩ (fun H2 locsH2 hq hz1 hk hS => ?_)
      have hO := hO.keep hk (fun q h1 h2 => nblk (by omega)) (fun q h1 => nblk (by omega))
      have hbs := Nat.le_trans hbs hz1
      clear hM
      have hM := hq
      clear hz1 hk
      refine lv_icmp_eq (tgt := 1008) hx hb dL_law_313 (by decide) (fun _ => ?_) (fun q => absurd (show ((wfC (upd d (1 + 1) v2) (vn (upd d (1 + 1) v2))) : Int32) = (saC (upd d 2 v2) 120) from e2) q)
      refine lv_iinc (v := nI (7 * n + 7)) (lv' := [(3, .int (nI (7 * n + 7))), (2, .ref (x + 70)), (1, .ref x), (0, .ref b)]) hx hb dL_law_1008 hl (k := 0) rfl (in7 _) (by decide) rfl (fun ls hl => ?_)
      refine lv_goto (tgt := 18) hx hb dL_law_1011 (by decide) ?_
      refine W.widen (k := 76 + 16 * (n + 1)) (n := 13938 + 112 * (n + 1)) (by omega) (by omega) ?_
      exact ih _ _ _ ⟨saD (upd d 2 v2) 120, recW d was k, tx, recN k, len, (hJ.rem e3).mono (Nat.le_succ n), ⟨_, _, _, _, _, _, _, _, hO, hH.rem hk4 _ (fun i _ _ _ => rfl)⟩, ⟨_, _, _, _, hM⟩, hbs, hS⟩ (lv_sub hl [0, 1, 2, 3] rfl)
    · obtain ⟨e1, e2, e3⟩ := ch_set2 hZ (by omega) (v := v2)
      have hZZ : zZ (xB x (x + 76)) s H := zZ_at hC (by omega) hS
      refine w_callVG (fun u U H9 h9 q9 => ⟨q9.1, q9.2.moved h9⟩) (As := [.int (nI 2), .int v2]) (rest := []) hF hK (c_X4_set_ok l D y x (x + 76) d ca pa pk T P k rot len ts tn tx 2 v2 (hr) (hk4) (hbd) (by decide) (hok)) (cwV 2 hts gL_law_X4_set rfl rfl rfl (by decide +kernel) ⟨Nat.le_of_ble_eq_true rfl, Nat.le_of_ble_eq_true rfl⟩) (cI.recv hK hCI) ⟨hO, hZZ⟩ hS (fun q h => by rw [hxs]; exact xB_hi (by omega) h) rfl hl.1 rfl (Nat.le_of_ble_eq_true rfl) dL_law_296 ⟨by show _ ≤ 600000; omega, by show _ ≤ 7302250; omega⟩ (fun H1 locsH1 hq hz1 hk hS => ?_)
      have hMI := hMI.keep hk (fun q h1 h2 => nB_m (by omega) h1 h2)
      have hbs := Nat.le_trans hbs hz1
      clear hO hCI hM
      have hO := hq.same (wf_I (hI.low 3 (by omega) v2).1 (rJ_upd hr (k := 3) (v := v2) (by omega) (by omega)).2 (Nat.le_refl _)).1 (fun i _ _ h4 => (e1 i h4).symm)
      clear hz1 hk
      obtain ⟨as, gt, pa9, rs, hM⟩ := hMI
      refine lv_aload_n hx hb dL_law_299 rfl (lv_at hl 1 rfl) ?_
      refine lv_aload_n hx hb dL_law_300 rfl (lv_at hl 3 rfl) ?_
      refine lv_iload_n hx hb dL_law_301 rfl (lv_at hl 0 rfl) ?_
      refine lv_iconst (v := nI 1) hx hb dL_law_302 (by decide) ?_
      refine z_iadd hx hb dL_law_303 ?_
      refine s_ld hC hS (i := 7 * n + 1) (by omega) hv1 dL_law_304 ?_
      refine lv_aload_n hx hb dL_law_305 rfl (lv_at hl 3 rfl) ?_
      refine lv_iload_n hx hb dL_law_306 rfl (lv_at hl 0 rfl) ?_
      refine lv_iconst (v := nI 2) hx hb dL_law_307 (by decide) ?_
      refine z_iadd hx hb dL_law_308 ?_
      refine s_ld hC hS (i := 7 * n + 2) (by omega) hv2 dL_law_309 ?_
      refine w_callV (As := [.int (nI 2), .int v2]) (rest := [.int (wfC (upd d (1 + 2) v2) (vn (upd d (1 + 2) v2)))]) hF hK (c_X5_set_2 l D y (x + 70) d was as tx gt k (nI len) pa9 rs v2 (hI) (hk4) (hok)) (cwV 2 hts gL_law_X5_set rfl rfl rfl (by decide +kernel) ⟨Nat.le_of_ble_eq_true rfl, Nat.le_of_ble_eq_true rfl⟩) (mI.recv hK (⟨as, gt, pa9, rs, hM⟩ : mI D y (x + 70) d was tx k len _)) hM hS (fun q h => by rw [hxs]; have h9 := h.1; omega) rfl hl.1 rfl (Nat.le_of_ble_eq_true rfl) dL_law_310 ⟨by show _ ≤ 600000; omega, by show _ ≤ 7302250; omega⟩ (fun H2 locsH2 hq hz1 hk hS => ?_)
      have hO := hO.keep hk (fun q h1 h2 => nblk (by omega)) (fun q h1 => nblk (by omega))
      have hbs := Nat.le_trans hbs hz1
      clear hM
      have hM := hq
      clear hz1 hk
      refine lv_icmp_eq (tgt := 1008) hx hb dL_law_313 (by decide) (fun _ => ?_) (fun q => absurd (show ((wfC (upd d (1 + 2) v2) (vn (upd d (1 + 2) v2))) : Int32) = (nI 0) from e2) q)
      refine lv_iinc (v := nI (7 * n + 7)) (lv' := [(3, .int (nI (7 * n + 7))), (2, .ref (x + 70)), (1, .ref x), (0, .ref b)]) hx hb dL_law_1008 hl (k := 0) rfl (in7 _) (by decide) rfl (fun ls hl => ?_)
      refine lv_goto (tgt := 18) hx hb dL_law_1011 (by decide) ?_
      refine W.widen (k := 76 + 16 * (n + 1)) (n := 13938 + 112 * (n + 1)) (by omega) (by omega) ?_
      exact ih _ _ _ ⟨upd d 3 v2, recW d was k, tx, recN k, len, (hJ.rem e3).mono (Nat.le_succ n), ⟨_, _, _, _, _, _, _, _, hO, hH.rem hk4 _ (fun i _ _ _ => rfl)⟩, ⟨_, _, _, _, hM⟩, hbs, hS⟩ (lv_sub hl [0, 1, 2, 3] rfl)
  · obtain ⟨tf, hR⟩ := hO.clR
    have hZZ : zZ (xB x (x + 76)) s H := zZ_at hC (by omega) hS
    refine z_callVG (fun u U H9 h9 q9 => ⟨q9.1, q9.2.moved h9⟩) (As := [.int v1, .int v2]) (rest := []) hF hK (c_X4_set_no l D y x (x + 76) d ca pa pk k len tf v1 v2 (hr) (hk4) (hl80) (by simpa using hok)) (cwV 2 hts gL_law_X4_set rfl rfl rfl (by decide +kernel) ⟨Nat.le_of_ble_eq_true rfl, Nat.le_of_ble_eq_true rfl⟩) (cI.recv hK hCI) ⟨hR, hZZ⟩ rfl hl.1 rfl (Nat.le_of_ble_eq_true rfl) dL_law_296 ⟨by show _ ≤ 600000; omega, by show _ ≤ 7302250; omega⟩ ?_
    refine lv_aload_n hx hb dL_law_299 rfl (lv_at hl 1 rfl) ?_
    refine lv_aload_n hx hb dL_law_300 rfl (lv_at hl 3 rfl) ?_
    refine lv_iload_n hx hb dL_law_301 rfl (lv_at hl 0 rfl) ?_
    refine lv_iconst (v := nI 1) hx hb dL_law_302 (by decide) ?_
    refine z_iadd hx hb dL_law_303 ?_
    refine s_ld hC hS (i := 7 * n + 1) (by omega) hv1 dL_law_304 ?_
    refine lv_aload_n hx hb dL_law_305 rfl (lv_at hl 3 rfl) ?_
    refine lv_iload_n hx hb dL_law_306 rfl (lv_at hl 0 rfl) ?_
    refine lv_iconst (v := nI 2) hx hb dL_law_307 (by decide) ?_
    refine z_iadd hx hb dL_law_308 ?_
    refine s_ld hC hS (i := 7 * n + 2) (by omega) hv2 dL_law_309 ?_
    refine w_callV (As := [.int v1, .int v2]) (rest := [.int (-1001)]) hF hK (c_X5_set_no l D y (x + 70) d was as tx gt k (nI len) pa9 rs v1 v2 (hI) (hk4) (by simpa using hok)) (cwV 2 hts gL_law_X5_set rfl rfl rfl (by decide +kernel) ⟨Nat.le_of_ble_eq_true rfl, Nat.le_of_ble_eq_true rfl⟩) (mI.recv hK (⟨as, gt, pa9, rs, hM⟩ : mI D y (x + 70) d was tx k len _)) hM hS (fun q h => by rw [hxs]; have h9 := h.1; omega) rfl hl.1 rfl (Nat.le_of_ble_eq_true rfl) dL_law_310 ⟨by show _ ≤ 600000; omega, by show _ ≤ 7302250; omega⟩ (fun H2 locsH2 hq hz1 hk hS => ?_)
    have hO := hO.keep hk (fun q h1 h2 => nblk (by omega)) (fun q h1 => nblk (by omega))
    have hbs := Nat.le_trans hbs hz1
    clear hM
    have hM := hq
    clear hz1 hk
    refine lv_icmp_eq (tgt := 1008) hx hb dL_law_313 (by decide) (fun _ => ?_) (fun q => absurd (show ((-1001) : Int32) = (-1001) from rfl) q)
    refine lv_iinc (v := nI (7 * n + 7)) (lv' := [(3, .int (nI (7 * n + 7))), (2, .ref (x + 70)), (1, .ref x), (0, .ref b)]) hx hb dL_law_1008 hl (k := 0) rfl (in7 _) (by decide) rfl (fun ls hl => ?_)
    refine lv_goto (tgt := 18) hx hb dL_law_1011 (by decide) ?_
    refine W.widen (k := 76 + 16 * (n + 1)) (n := 13938 + 112 * (n + 1)) (by omega) (by omega) ?_
    exact ih _ _ _ ⟨d, was, tx, k, len, hJ1, ⟨_, _, _, _, _, _, _, _, hO, hH⟩, ⟨_, _, _, _, hM⟩, hbs, hS⟩ (lv_sub hl [0, 1, 2, 3] rfl)
set_option maxRecDepth 100000 in
set_option maxHeartbeats 4000000 in
theorem L_transfer {p : Program} {l : Launch} {e : Env} {s : State} {m : MethodId} {below : List Frame} {meth : Method} {c : Code} {b L x : Nat} {xs : Nat → Int32} {D : va_G} {y : zY} (hC : lwX p s m meth c b L x xs D y) {n : Nat} (hn : 7 * n + 7 ≤ L) {H : Heap} {locs : List Loc} {ls : Array Slot} (hI0 : lI D y x s n H locs) (hl : lv_has ls 4 [(3, .int (nI (7 * n))), (2, .ref (x + 70)), (1, .ref x), (0, .ref b)])
    (ih : ∀ (H' : Heap) (locs' : List Loc) (ls' : Array Slot), lI D y x s (n + 1) H' locs' → lv_has ls' 4 [(3, .int (nI (7 * n + 7))), (2, .ref (x + 70)), (1, .ref x), (0, .ref b)] → W p l e room_1 s m #[Value.ref b] below meth c H' locs' (76 + 16 * (n + 1)) (13938 + 112 * (n + 1)) (lw_Z below #[Value.ref b] s) (F0 m 18 ls' [])) : W p l e room_1 s m #[Value.ref b] below meth c H locs (76 + 16 * n) (13938 + 112 * n) (lw_Z below #[Value.ref b] s) (F0 m 394 ls []) := by
  obtain ⟨hx, hb, hret, hlocks, hF, hK, -, -, hL, hxs, -⟩ := id hC
  have hts := hF.2.2.2.2
  obtain ⟨d, was, tx, k, len, hJ, hCI, hMI, hbs, hS⟩ := hI0
  obtain ⟨ca, pa, pk, T, P, rot, ts, tn, hO, hH⟩ := id hCI
  obtain ⟨as, gt, pa9, rs, hM⟩ := id hMI
  have hn1 : n ≤ 511 := by omega
  have hJ1 := hJ.mono (Nat.le_succ n)
  obtain ⟨hZ, hk4, hl80, hW⟩ := id hJ
  have hr := hZ.1
  have hI := hr.1
  have hbd : x + 70 ≤ x + 76 := by omega
  obtain ⟨v1, hv1⟩ : ∃ v, xs (7 * n + 1) = v := ⟨_, rfl⟩
  obtain ⟨v2, hv2⟩ : ∃ v, xs (7 * n + 2) = v := ⟨_, rfl⟩
  obtain ⟨v3, hv3⟩ : ∃ v, xs (7 * n + 3) = v := ⟨_, rfl⟩
  obtain ⟨v4, hv4⟩ : ∃ v, xs (7 * n + 4) = v := ⟨_, rfl⟩
  refine lv_aload_n hx hb dL_law_394 rfl (lv_at hl 2 rfl) ?_
  refine lv_aload_n hx hb dL_law_395 rfl (lv_at hl 3 rfl) ?_
  refine lv_iload_n hx hb dL_law_396 rfl (lv_at hl 0 rfl) ?_
  refine lv_iconst (v := nI 1) hx hb dL_law_397 (by decide) ?_
  refine z_iadd hx hb dL_law_398 ?_
  refine s_ld hC hS (i := 7 * n + 1) (by omega) hv1 dL_law_399 ?_
  refine lv_aload_n hx hb dL_law_400 rfl (lv_at hl 3 rfl) ?_
  refine lv_iload_n hx hb dL_law_401 rfl (lv_at hl 0 rfl) ?_
  refine lv_iconst (v := nI 2) hx hb dL_law_402 (by decide) ?_
  refine z_iadd hx hb dL_law_403 ?_
  refine s_ld hC hS (i := 7 * n + 2) (by omega) hv2 dL_law_404 ?_
  refine lv_aload_n hx hb dL_law_405 rfl (lv_at hl 3 rfl) ?_
  refine lv_iload_n hx hb dL_law_406 rfl (lv_at hl 0 rfl) ?_
  refine lv_iconst (v := nI 3) hx hb dL_law_407 (by decide) ?_
  refine z_iadd hx hb dL_law_408 ?_
  refine s_ld hC hS (i := 7 * n + 3) (by omega) hv3 dL_law_409 ?_
  refine lv_aload_n hx hb dL_law_410 rfl (lv_at hl 3 rfl) ?_
  refine lv_iload_n hx hb dL_law_411 rfl (lv_at hl 0 rfl) ?_
  refine lv_iconst (v := nI 4) hx hb dL_law_412 (by decide) ?_
  refine z_iadd hx hb dL_law_413 ?_
  refine s_ld hC hS (i := 7 * n + 4) (by omega) hv4 dL_law_414 ?_
  by_cases hok : okTr v1 v2 v3 v4 = true ∧ 0 ≤ freI d (cl v1) (cl v3) - v4
  · obtain ⟨i, j, u, hi, hj, hij, hu, rfl, rfl, rfl, hc⟩ := okTr_c hok.1
    have hf := hok.2
    rw [cl_nI (by omega), cl_nI (by omega)] at hf
    refine w_callV (As := [.int (nI i), .int (nI j), .int (nI u), .int v4]) (rest := []) hF hK (c_X4_transfer_ok l D y x (x + 76) d ca pa pk T P k rot len ts tn tx i j u v4 (hr) (hk4) (hbd) (hi) (hj) (hij) (hu) (hc) (hf)) (cwV 4 hts gL_law_X4_transfer rfl rfl rfl (by decide +kernel) ⟨Nat.le_of_ble_eq_true rfl, Nat.le_of_ble_eq_true rfl⟩) (cI.recv hK hCI) hO hS (fun q h => by rw [hxs]; exact xB_hi (by omega) h) rfl hl.1 rfl (Nat.le_of_ble_eq_true rfl) dL_law_415 ⟨by show _ ≤ 600000; omega, by show _ ≤ 7302250; omega⟩ (fun H1 locsH1 hq hz1 hk hS => ?_)
    have hMI := hMI.keep hk (fun q h1 h2 => nB_m (by omega) h1 h2)
    have hbs := Nat.le_trans hbs hz1
    clear hO hCI hM
    have hO := hq
    clear hz1 hk
    obtain ⟨as, gt, pa9, rs, hM⟩ := hMI
    refine lv_aload_n hx hb dL_law_418 rfl (lv_at hl 1 rfl) ?_
    refine lv_aload_n hx hb dL_law_419 rfl (lv_at hl 3 rfl) ?_
    refine lv_iload_n hx hb dL_law_420 rfl (lv_at hl 0 rfl) ?_
    refine lv_iconst (v := nI 1) hx hb dL_law_421 (by decide) ?_
    refine z_iadd hx hb dL_law_422 ?_
    refine s_ld hC hS (i := 7 * n + 1) (by omega) hv1 dL_law_423 ?_
    refine lv_aload_n hx hb dL_law_424 rfl (lv_at hl 3 rfl) ?_
    refine lv_iload_n hx hb dL_law_425 rfl (lv_at hl 0 rfl) ?_
    refine lv_iconst (v := nI 2) hx hb dL_law_426 (by decide) ?_
    refine z_iadd hx hb dL_law_427 ?_
    refine s_ld hC hS (i := 7 * n + 2) (by omega) hv2 dL_law_428 ?_
    refine lv_aload_n hx hb dL_law_429 rfl (lv_at hl 3 rfl) ?_
    refine lv_iload_n hx hb dL_law_430 rfl (lv_at hl 0 rfl) ?_
    refine lv_iconst (v := nI 3) hx hb dL_law_431 (by decide) ?_
    refine z_iadd hx hb dL_law_432 ?_
    refine s_ld hC hS (i := 7 * n + 3) (by omega) hv3 dL_law_433 ?_
    refine lv_aload_n hx hb dL_law_434 rfl (lv_at hl 3 rfl) ?_
    refine lv_iload_n hx hb dL_law_435 rfl (lv_at hl 0 rfl) ?_
    refine lv_iconst (v := nI 4) hx hb dL_law_436 (by decide) ?_
    refine z_iadd hx hb dL_law_437 ?_
    refine s_ld hC hS (i := 7 * n + 4) (by omega) hv4 dL_law_438 ?_
    refine w_callV (As := [.int (nI i), .int (nI j), .int (nI u), .int v4]) (rest := [.int (freI d i u - v4)]) hF hK (c_X5_transfer_ok l D y (x + 70) d was as tx gt k (nI len) pa9 rs i j u v4 (hI) (hk4) (hi) (hj) (hij) (hu) (hc) ((tr_iff hZ (by omega) hi hu hc).mp hf)) (cwV 4 hts gL_law_X5_transfer rfl rfl rfl (by decide +kernel) ⟨Nat.le_of_ble_eq_true rfl, Nat.le_of_ble_eq_true rfl⟩) (mI.recv hK (⟨as, gt, pa9, rs, hM⟩ : mI D y (x + 70) d was tx k len _)) hM hS (fun q h => by rw [hxs]; have h9 := h.1; omega) rfl hl.1 rfl (Nat.le_of_ble_eq_true rfl) dL_law_439 ⟨by show _ ≤ 600000; omega, by show _ ≤ 7302250; omega⟩ (fun H2 locsH2 hq hz1 hk hS => ?_)
    have hO := hO.keep hk (fun q h1 h2 => nblk (by omega)) (fun q h1 => nblk (by omega))
    have hbs := Nat.le_trans hbs hz1
    clear hM
    have hM := hq
    clear hz1 hk
    refine lv_icmp_eq (tgt := 1008) hx hb dL_law_442 (by decide) (fun _ => ?_) (fun q => absurd (show ((freI d i u - v4) : Int32) = (freI d i u - v4) from rfl) q)
    refine lv_iinc (v := nI (7 * n + 7)) (lv' := [(3, .int (nI (7 * n + 7))), (2, .ref (x + 70)), (1, .ref x), (0, .ref b)]) hx hb dL_law_1008 hl (k := 0) rfl (in7 _) (by decide) rfl (fun ls hl => ?_)
    refine lv_goto (tgt := 18) hx hb dL_law_1011 (by decide) ?_
    refine W.widen (k := 76 + 16 * (n + 1)) (n := 13938 + 112 * (n + 1)) (by omega) (by omega) ?_
    exact ih _ _ _ ⟨traD d i j u v4, recW d was k, tx, recN k, len, hJ1.rem (ch_transfer hZ (by omega) hi hj hij hu hc hf), ⟨_, _, _, _, _, _, _, _, hO, hH.rem hk4 _ (fun i _ _ _ => rfl)⟩, ⟨_, _, _, _, hM⟩, hbs, hS⟩ (lv_sub hl [0, 1, 2, 3] rfl)
  · have hok2 : ¬ (okTr v1 v2 v3 v4 = true ∧ v4 ≤ freI d (cl v1) (cl v3)) := fun q => by
      obtain ⟨i, j, u, hi, hj, hij, hu, e1, e2, e3, hc⟩ := okTr_c q.1
      refine hok ⟨q.1, ?_⟩
      have q2 := q.2
      rw [e1, e3, cl_nI (by omega), cl_nI (by omega)] at q2 ⊢
      exact (tr_iff hZ (by omega) hi hu hc).mpr q2
    obtain ⟨tf, hR⟩ := hO.clR
    refine z_callV (As := [.int v1, .int v2, .int v3, .int v4]) (rest := []) hF hK (c_X4_transfer_no l D y x (x + 76) d ca pa pk k len tf v1 v2 v3 v4 (hr) (hk4) (hl80) (hok)) (cwV 4 hts gL_law_X4_transfer rfl rfl rfl (by decide +kernel) ⟨Nat.le_of_ble_eq_true rfl, Nat.le_of_ble_eq_true rfl⟩) (cI.recv hK hCI) hR rfl hl.1 rfl (Nat.le_of_ble_eq_true rfl) dL_law_415 ⟨by show _ ≤ 600000; omega, by show _ ≤ 7302250; omega⟩ ?_
    refine lv_aload_n hx hb dL_law_418 rfl (lv_at hl 1 rfl) ?_
    refine lv_aload_n hx hb dL_law_419 rfl (lv_at hl 3 rfl) ?_
    refine lv_iload_n hx hb dL_law_420 rfl (lv_at hl 0 rfl) ?_
    refine lv_iconst (v := nI 1) hx hb dL_law_421 (by decide) ?_
    refine z_iadd hx hb dL_law_422 ?_
    refine s_ld hC hS (i := 7 * n + 1) (by omega) hv1 dL_law_423 ?_
    refine lv_aload_n hx hb dL_law_424 rfl (lv_at hl 3 rfl) ?_
    refine lv_iload_n hx hb dL_law_425 rfl (lv_at hl 0 rfl) ?_
    refine lv_iconst (v := nI 2) hx hb dL_law_426 (by decide) ?_
    refine z_iadd hx hb dL_law_427 ?_
    refine s_ld hC hS (i := 7 * n + 2) (by omega) hv2 dL_law_428 ?_
    refine lv_aload_n hx hb dL_law_429 rfl (lv_at hl 3 rfl) ?_
    refine lv_iload_n hx hb dL_law_430 rfl (lv_at hl 0 rfl) ?_
    refine lv_iconst (v := nI 3) hx hb dL_law_431 (by decide) ?_
    refine z_iadd hx hb dL_law_432 ?_
    refine s_ld hC hS (i := 7 * n + 3) (by omega) hv3 dL_law_433 ?_
    refine lv_aload_n hx hb dL_law_434 rfl (lv_at hl 3 rfl) ?_
    refine lv_iload_n hx hb dL_law_435 rfl (lv_at hl 0 rfl) ?_
    refine lv_iconst (v := nI 4) hx hb dL_law_436 (by decide) ?_
    refine z_iadd hx hb dL_law_437 ?_
    refine s_ld hC hS (i := 7 * n + 4) (by omega) hv4 dL_law_438 ?_
    refine w_callV (As := [.int v1, .int v2, .int v3, .int v4]) (rest := [.int (eIf (okTr v1 v2 v3 v4) (-1002))]) hF hK (c_X5_transfer_no l D y (x + 70) d was as tx gt k (nI len) pa9 rs v1 v2 v3 v4 (hI) (hk4) (hok2)) (cwV 4 hts gL_law_X5_transfer rfl rfl rfl (by decide +kernel) ⟨Nat.le_of_ble_eq_true rfl, Nat.le_of_ble_eq_true rfl⟩) (mI.recv hK (⟨as, gt, pa9, rs, hM⟩ : mI D y (x + 70) d was tx k len _)) hM hS (fun q h => by rw [hxs]; have h9 := h.1; omega) rfl hl.1 rfl (Nat.le_of_ble_eq_true rfl) dL_law_439 ⟨by show _ ≤ 600000; omega, by show _ ≤ 7302250; omega⟩ (fun H2 locsH2 hq hz1 hk hS => ?_)
    have hO := hO.keep hk (fun q h1 h2 => nblk (by omega)) (fun q h1 => nblk (by omega))
    have hbs := Nat.le_trans hbs hz1
    clear hM
    have hM := hq
    clear hz1 hk
    refine lv_icmp_eq (tgt := 1008) hx hb dL_law_442 (by decide) (fun _ => ?_) (fun q => absurd (show ((eIf (okTr v1 v2 v3 v4) (-1002)) : Int32) = (eIf (okTr v1 v2 v3 v4) (-1002)) from rfl) q)
    refine lv_iinc (v := nI (7 * n + 7)) (lv' := [(3, .int (nI (7 * n + 7))), (2, .ref (x + 70)), (1, .ref x), (0, .ref b)]) hx hb dL_law_1008 hl (k := 0) rfl (in7 _) (by decide) rfl (fun ls hl => ?_)
    refine lv_goto (tgt := 18) hx hb dL_law_1011 (by decide) ?_
    refine W.widen (k := 76 + 16 * (n + 1)) (n := 13938 + 112 * (n + 1)) (by omega) (by omega) ?_
    exact ih _ _ _ ⟨d, was, tx, k, len, hJ1, ⟨_, _, _, _, _, _, _, _, hO, hH⟩, ⟨_, _, _, _, hM⟩, hbs, hS⟩ (lv_sub hl [0, 1, 2, 3] rfl)
set_option maxRecDepth 100000 in
set_option maxHeartbeats 4000000 in
theorem L_undo {p : Program} {l : Launch} {e : Env} {s : State} {m : MethodId} {below : List Frame} {meth : Method} {c : Code} {b L x : Nat} {xs : Nat → Int32} {D : va_G} {y : zY} (hC : lwX p s m meth c b L x xs D y) {n : Nat} (hn : 7 * n + 7 ≤ L) {H : Heap} {locs : List Loc} {ls : Array Slot} (hI0 : lI D y x s n H locs) (hl : lv_has ls 4 [(3, .int (nI (7 * n))), (2, .ref (x + 70)), (1, .ref x), (0, .ref b)])
    (ih : ∀ (H' : Heap) (locs' : List Loc) (ls' : Array Slot), lI D y x s (n + 1) H' locs' → lv_has ls' 4 [(3, .int (nI (7 * n + 7))), (2, .ref (x + 70)), (1, .ref x), (0, .ref b)] → W p l e room_1 s m #[Value.ref b] below meth c H' locs' (76 + 16 * (n + 1)) (13938 + 112 * (n + 1)) (lw_Z below #[Value.ref b] s) (F0 m 18 ls' [])) : W p l e room_1 s m #[Value.ref b] below meth c H locs (76 + 16 * n) (13938 + 112 * n) (lw_Z below #[Value.ref b] s) (F0 m 513 ls []) := by
  obtain ⟨hx, hb, hret, hlocks, hF, hK, -, -, hL, hxs, -⟩ := id hC
  have hts := hF.2.2.2.2
  obtain ⟨d, was, tx, k, len, hJ, hCI, hMI, hbs, hS⟩ := hI0
  obtain ⟨ca, pa, pk, T, P, rot, ts, tn, hO, hH⟩ := id hCI
  obtain ⟨as, gt, pa9, rs, hM⟩ := id hMI
  have hn1 : n ≤ 511 := by omega
  have hJ1 := hJ.mono (Nat.le_succ n)
  obtain ⟨hZ, hk4, hl80, hW⟩ := id hJ
  have hr := hZ.1
  have hI := hr.1
  have hbd : x + 70 ≤ x + 76 := by omega
  refine lv_aload_n hx hb dL_law_513 rfl (lv_at hl 2 rfl) ?_
  cases k with
  | zero =>
    obtain ⟨tf, hR⟩ := hO.clR
    refine z_callV (As := []) (rest := []) hF hK (c_X4_undo_no l D y x (x + 76) d ca pa pk 0 len tf (hr) (hk4) (hl80) (rfl)) (cwV 0 hts gL_law_X4_undo rfl rfl rfl (by decide +kernel) ⟨Nat.le_of_ble_eq_true rfl, Nat.le_of_ble_eq_true rfl⟩) (cI.recv hK hCI) hR rfl hl.1 rfl (Nat.le_of_ble_eq_true rfl) dL_law_514 ⟨by show _ ≤ 600000; omega, by show _ ≤ 7302250; omega⟩ ?_
    refine lv_aload_n hx hb dL_law_517 rfl (lv_at hl 1 rfl) ?_
    refine w_callV (As := []) (rest := [.int (-1002)]) hF hK (c_X5_undo_no l D y (x + 70) d was as tx gt (nI len) pa9 rs ) (cwV 0 hts gL_law_X5_undo rfl rfl rfl (by decide +kernel) ⟨Nat.le_of_ble_eq_true rfl, Nat.le_of_ble_eq_true rfl⟩) (mI.recv hK (⟨as, gt, pa9, rs, hM⟩ : mI D y (x + 70) d was tx 0 len _)) hM hS (fun q h => by rw [hxs]; have h9 := h.1; omega) rfl hl.1 rfl (Nat.le_of_ble_eq_true rfl) dL_law_518 ⟨by show _ ≤ 600000; omega, by show _ ≤ 7302250; omega⟩ (fun H2 locsH2 hq hz1 hk hS => ?_)
    have hO := hO.keep hk (fun q h1 h2 => nblk (by omega)) (fun q h1 => nblk (by omega))
    have hbs := Nat.le_trans hbs hz1
    clear hM
    have hM := hq
    clear hz1 hk
    refine lv_icmp_eq (tgt := 1008) hx hb dL_law_521 (by decide) (fun _ => ?_) (fun q => absurd (show ((-1002) : Int32) = (-1002) from rfl) q)
    refine lv_iinc (v := nI (7 * n + 7)) (lv' := [(3, .int (nI (7 * n + 7))), (2, .ref (x + 70)), (1, .ref x), (0, .ref b)]) hx hb dL_law_1008 hl (k := 0) rfl (in7 _) (by decide) rfl (fun ls hl => ?_)
    refine lv_goto (tgt := 18) hx hb dL_law_1011 (by decide) ?_
    refine W.widen (k := 76 + 16 * (n + 1)) (n := 13938 + 112 * (n + 1)) (by omega) (by omega) ?_
    exact ih _ _ _ ⟨d, was, tx, 0, len, hJ1, ⟨_, _, _, _, _, _, _, _, hO, hH⟩, ⟨_, _, _, _, hM⟩, hbs, hS⟩ (lv_sub hl [0, 1, 2, 3] rfl)
  | succ k =>
    have hro := hH k (Nat.lt_succ_self k)
    have hzI := (hW k (Nat.lt_succ_self k)).1.1
    have hun : ∀ i, i < 1445 → undD d was k i = was (1445 * k + i) := fun i hi => by unfold undD cpN; rw [if_pos (by omega)]; rfl
    obtain ⟨h1, h2, h3⟩ := hzI.same (d' := (P ((k + rot) % 4)).1) (fun i a1 a2 a3 => hro i a1 a2 a3)
    have h4 := vn_cong (same_vL hzI (d' := (P ((k + rot) % 4)).1) (fun i a1 a2 a3 => hro i a1 a2 a3))
    have hzU : zJ n (undD d was k) := (hW k (Nat.lt_succ_self k)).same hun
    refine w_callV (As := []) (rest := []) hF hK (c_X4_undo_ok l D y x (x + 76) d ca pa pk T P k rot len ts tn tx (hr) (by omega) (hbd) (by omega) (by rw [h3]; exact hzI.nc8) (by rw [h2]; exact hzI.ng2) (by rw [h4]; exact (hW k (Nat.lt_succ_self k)).1.2.1)) (cwV 0 hts gL_law_X4_undo rfl rfl rfl (by decide +kernel) ⟨Nat.le_of_ble_eq_true rfl, Nat.le_of_ble_eq_true rfl⟩) (cI.recv hK hCI) hO hS (fun q h => by rw [hxs]; exact xB_hi (by omega) h) rfl hl.1 rfl (Nat.le_of_ble_eq_true rfl) dL_law_514 ⟨by show _ ≤ 600000; omega, by show _ ≤ 7302250; omega⟩ (fun H1 locsH1 hq hz1 hk hS => ?_)
    have hMI := hMI.keep hk (fun q h1 h2 => nB_m (by omega) h1 h2)
    have hbs := Nat.le_trans hbs hz1
    clear hO hCI hM
    have hO : xO D y (x + 76) x (undD d was k, (P ((k + rot) % 4)).2.1, (P ((k + rot) % 4)).2.2.1, (P ((k + rot) % 4)).2.2.2) T P k rot len ts tn tx H1 := xO.same (d := (P ((k + rot) % 4)).1) (show xO D y (x + 76) x ((P ((k + rot) % 4)).1, (P ((k + rot) % 4)).2.1, (P ((k + rot) % 4)).2.2.1, (P ((k + rot) % 4)).2.2.2) T P k rot len ts tn tx H1 from hq) h1 (fun i a1 a2 a3 => (hun i a1).trans (hro i a1 a2 a3).symm)
    clear hz1 hk
    obtain ⟨as, gt, pa9, rs, hM⟩ := hMI
    refine lv_aload_n hx hb dL_law_517 rfl (lv_at hl 1 rfl) ?_
    refine w_callV (As := []) (rest := [.int (nI k)]) hF hK (c_X5_undo_ok l D y (x + 70) d was as tx gt k (nI len) pa9 rs (by omega)) (cwV 0 hts gL_law_X5_undo rfl rfl rfl (by decide +kernel) ⟨Nat.le_of_ble_eq_true rfl, Nat.le_of_ble_eq_true rfl⟩) (mI.recv hK (⟨as, gt, pa9, rs, hM⟩ : mI D y (x + 70) d was tx (k + 1) len _)) hM hS (fun q h => by rw [hxs]; have h9 := h.1; omega) rfl hl.1 rfl (Nat.le_of_ble_eq_true rfl) dL_law_518 ⟨by show _ ≤ 600000; omega, by show _ ≤ 7302250; omega⟩ (fun H2 locsH2 hq hz1 hk hS => ?_)
    have hO := hO.keep hk (fun q h1 h2 => nblk (by omega)) (fun q h1 => nblk (by omega))
    have hbs := Nat.le_trans hbs hz1
    clear hM
    have hM := hq
    clear hz1 hk
    refine lv_icmp_eq (tgt := 1008) hx hb dL_law_521 (by decide) (fun _ => ?_) (fun q => absurd (show ((nI k) : Int32) = (nI k) from rfl) q)
    refine lv_iinc (v := nI (7 * n + 7)) (lv' := [(3, .int (nI (7 * n + 7))), (2, .ref (x + 70)), (1, .ref x), (0, .ref b)]) hx hb dL_law_1008 hl (k := 0) rfl (in7 _) (by decide) rfl (fun ls hl => ?_)
    refine lv_goto (tgt := 18) hx hb dL_law_1011 (by decide) ?_
    refine W.widen (k := 76 + 16 * (n + 1)) (n := 13938 + 112 * (n + 1)) (by omega) (by omega) ?_
    exact ih _ _ _ ⟨undD d was k, was, tx, k, len, ⟨hzU.mono (Nat.le_succ n), by omega, hl80, fun j hj => (hW j (by omega)).mono (Nat.le_succ n)⟩, ⟨_, _, _, _, _, _, _, _, hO, hH.pop⟩, ⟨_, _, _, _, hM⟩, hbs, hS⟩ (lv_sub hl [0, 1, 2, 3] rfl)
