/-! THE LAW: its cases, 1 -/
set_option maxRecDepth 100000 in
set_option maxHeartbeats 4000000 in
theorem L_craneOf {p : Program} {l : Launch} {e : Env} {s : State} {m : MethodId} {below : List Frame} {meth : Method} {c : Code} {b L x : Nat} {xs : Nat → Int32} {D : va_G} {y : zY} (hC : lwX p s m meth c b L x xs D y) {n : Nat} (hn : 7 * n + 7 ≤ L) {H : Heap} {locs : List Loc} {ls : Array Slot} (hI0 : lI D y x s n H locs) (hl : lv_has ls 4 [(3, .int (nI (7 * n))), (2, .ref (x + 70)), (1, .ref x), (0, .ref b)])
    (ih : ∀ (H' : Heap) (locs' : List Loc) (ls' : Array Slot), lI D y x s (n + 1) H' locs' → lv_has ls' 4 [(3, .int (nI (7 * n + 7))), (2, .ref (x + 70)), (1, .ref x), (0, .ref b)] → W p l e room_1 s m #[Value.ref b] below meth c H' locs' (76 + 16 * (n + 1)) (13938 + 112 * (n + 1)) (lw_Z below #[Value.ref b] s) (F0 m 18 ls' [])) : W p l e room_1 s m #[Value.ref b] below meth c H locs (76 + 16 * n) (13938 + 112 * n) (lw_Z below #[Value.ref b] s) (F0 m 252 ls []) := by
  obtain ⟨hx, hb, hret, hlocks, hF, hK, -, -, hL, hxs, -⟩ := id hC
  have hts := hF.2.2.2.2
  obtain ⟨d, was, tx, k, len, hJ, hCI, hMI, hbs, hS⟩ := hI0
  obtain ⟨ca, pa, pk, T, P, rot, ts, tn, hO, hH⟩ := id hCI
  obtain ⟨as, gt, pa9, rs, hM⟩ := id hMI
  have hn1 : n ≤ 511 := by omega
  have hJ1 := hJ.mono (Nat.le_succ n)
  obtain ⟨hZ, hk4, hl80, hW⟩ := id hJ
  have hr := hZ.1
  have hI := hr.1
  have hbd : x + 70 ≤ x + 76 := by omega
  obtain ⟨v1, hv1⟩ : ∃ v, xs (7 * n + 1) = v := ⟨_, rfl⟩
  obtain ⟨v2, hv2⟩ : ∃ v, xs (7 * n + 2) = v := ⟨_, rfl⟩
  refine lv_aload_n hx hb dL_law_252 rfl (lv_at hl 2 rfl) ?_
  refine lv_aload_n hx hb dL_law_253 rfl (lv_at hl 3 rfl) ?_
  refine lv_iload_n hx hb dL_law_254 rfl (lv_at hl 0 rfl) ?_
  refine lv_iconst (v := nI 1) hx hb dL_law_255 (by decide) ?_
  refine z_iadd hx hb dL_law_256 ?_
  refine s_ld hC hS (i := 7 * n + 1) (by omega) hv1 dL_law_257 ?_
  refine lv_aload_n hx hb dL_law_258 rfl (lv_at hl 3 rfl) ?_
  refine lv_iload_n hx hb dL_law_259 rfl (lv_at hl 0 rfl) ?_
  refine lv_iconst (v := nI 2) hx hb dL_law_260 (by decide) ?_
  refine z_iadd hx hb dL_law_261 ?_
  refine s_ld hC hS (i := 7 * n + 2) (by omega) hv2 dL_law_262 ?_
  obtain ⟨tf, hR⟩ := hO.clR
  refine z_callV (As := [.int v1, .int v2]) (rest := []) hF hK (c_X4_craneOf l D y x (x + 76) d ca pa pk k len tf v1 v2 (hr) (hk4) (hl80)) (cwV 2 hts gL_law_X4_craneOf rfl rfl rfl (by decide +kernel) ⟨Nat.le_of_ble_eq_true rfl, Nat.le_of_ble_eq_true rfl⟩) (cI.recv hK hCI) hR rfl hl.1 rfl (Nat.le_of_ble_eq_true rfl) dL_law_263 ⟨by show _ ≤ 600000; omega, by show _ ≤ 7302250; omega⟩ ?_
  refine lv_aload_n hx hb dL_law_266 rfl (lv_at hl 1 rfl) ?_
  refine lv_aload_n hx hb dL_law_267 rfl (lv_at hl 3 rfl) ?_
  refine lv_iload_n hx hb dL_law_268 rfl (lv_at hl 0 rfl) ?_
  refine lv_iconst (v := nI 1) hx hb dL_law_269 (by decide) ?_
  refine z_iadd hx hb dL_law_270 ?_
  refine s_ld hC hS (i := 7 * n + 1) (by omega) hv1 dL_law_271 ?_
  refine lv_aload_n hx hb dL_law_272 rfl (lv_at hl 3 rfl) ?_
  refine lv_iload_n hx hb dL_law_273 rfl (lv_at hl 0 rfl) ?_
  refine lv_iconst (v := nI 2) hx hb dL_law_274 (by decide) ?_
  refine z_iadd hx hb dL_law_275 ?_
  refine s_ld hC hS (i := 7 * n + 2) (by omega) hv2 dL_law_276 ?_
  refine z_callV (As := [.int v1, .int v2]) (rest := [.int (aCraneOf d v1 v2)]) hF hK (c_X5_craneOf l D y (x + 70) d v1 v2 (hI)) (cwV 2 hts gL_law_X5_craneOf rfl rfl rfl (by decide +kernel) ⟨Nat.le_of_ble_eq_true rfl, Nat.le_of_ble_eq_true rfl⟩) (mI.recv hK (⟨as, gt, pa9, rs, hM⟩ : mI D y (x + 70) d was tx k len _)) (zM_of hM) rfl hl.1 rfl (Nat.le_of_ble_eq_true rfl) dL_law_277 ⟨by show _ ≤ 600000; omega, by show _ ≤ 7302250; omega⟩ ?_
  refine lv_icmp_eq (tgt := 1008) hx hb dL_law_280 (by decide) (fun _ => ?_) (fun q => absurd (show (aCraneOf d v1 v2) = (aCraneOf d v1 v2) from rfl) q)
  refine lv_iinc (v := nI (7 * n + 7)) (lv' := [(3, .int (nI (7 * n + 7))), (2, .ref (x + 70)), (1, .ref x), (0, .ref b)]) hx hb dL_law_1008 hl (k := 0) rfl (in7 _) (by decide) rfl (fun ls hl => ?_)
  refine lv_goto (tgt := 18) hx hb dL_law_1011 (by decide) ?_
  refine W.widen (k := 76 + 16 * (n + 1)) (n := 13938 + 112 * (n + 1)) (by omega) (by omega) ?_
  exact ih _ _ _ ⟨d, was, tx, k, len, hJ1, ⟨_, _, _, _, _, _, _, _, hO, hH⟩, ⟨_, _, _, _, hM⟩, hbs, hS⟩ (lv_sub hl [0, 1, 2, 3] rfl)
set_option maxRecDepth 100000 in
set_option maxHeartbeats 4000000 in
theorem L_street {p : Program} {l : Launch} {e : Env} {s : State} {m : MethodId} {below : List Frame} {meth : Method} {c : Code} {b L x : Nat} {xs : Nat → Int32} {D : va_G} {y : zY} (hC : lwX p s m meth c b L x xs D y) {n : Nat} (hn : 7 * n + 7 ≤ L) {H : Heap} {locs : List Loc} {ls : Array Slot} (hI0 : lI D y x s n H locs) (hl : lv_has ls 4 [(3, .int (nI (7 * n))), (2, .ref (x + 70)), (1, .ref x), (0, .ref b)])
    (ih : ∀ (H' : Heap) (locs' : List Loc) (ls' : Array Slot), lI D y x s (n + 1) H' locs' → lv_has ls' 4 [(3, .int (nI (7 * n + 7))), (2, .ref (x + 70)), (1, .ref x), (0, .ref b)] → W p l e room_1 s m #[Value.ref b] below meth c H' locs' (76 + 16 * (n + 1)) (13938 + 112 * (n + 1)) (lw_Z below #[Value.ref b] s) (F0 m 18 ls' [])) : W p l e room_1 s m #[Value.ref b] below meth c H locs (76 + 16 * n) (13938 + 112 * n) (lw_Z below #[Value.ref b] s) (F0 m 447 ls []) := by
  obtain ⟨hx, hb, hret, hlocks, hF, hK, -, -, hL, hxs, -⟩ := id hC
  have hts := hF.2.2.2.2
  obtain ⟨d, was, tx, k, len, hJ, hCI, hMI, hbs, hS⟩ := hI0
  obtain ⟨ca, pa, pk, T, P, rot, ts, tn, hO, hH⟩ := id hCI
  obtain ⟨as, gt, pa9, rs, hM⟩ := id hMI
  have hn1 : n ≤ 511 := by omega
  have hJ1 := hJ.mono (Nat.le_succ n)
  obtain ⟨hZ, hk4, hl80, hW⟩ := id hJ
  have hr := hZ.1
  have hI := hr.1
  have hbd : x + 70 ≤ x + 76 := by omega
  obtain ⟨v1, hv1⟩ : ∃ v, xs (7 * n + 1) = v := ⟨_, rfl⟩
  obtain ⟨v2, hv2⟩ : ∃ v, xs (7 * n + 2) = v := ⟨_, rfl⟩
  obtain ⟨v3, hv3⟩ : ∃ v, xs (7 * n + 3) = v := ⟨_, rfl⟩
  refine lv_aload_n hx hb dL_law_447 rfl (lv_at hl 2 rfl) ?_
  refine lv_aload_n hx hb dL_law_448 rfl (lv_at hl 3 rfl) ?_
  refine lv_iload_n hx hb dL_law_449 rfl (lv_at hl 0 rfl) ?_
  refine lv_iconst (v := nI 1) hx hb dL_law_450 (by decide) ?_
  refine z_iadd hx hb dL_law_451 ?_
  refine s_ld hC hS (i := 7 * n + 1) (by omega) hv1 dL_law_452 ?_
  refine lv_aload_n hx hb dL_law_453 rfl (lv_at hl 3 rfl) ?_
  refine lv_iload_n hx hb dL_law_454 rfl (lv_at hl 0 rfl) ?_
  refine lv_iconst (v := nI 2) hx hb dL_law_455 (by decide) ?_
  refine z_iadd hx hb dL_law_456 ?_
  refine s_ld hC hS (i := 7 * n + 2) (by omega) hv2 dL_law_457 ?_
  refine lv_aload_n hx hb dL_law_458 rfl (lv_at hl 3 rfl) ?_
  refine lv_iload_n hx hb dL_law_459 rfl (lv_at hl 0 rfl) ?_
  refine lv_iconst (v := nI 3) hx hb dL_law_460 (by decide) ?_
  refine z_iadd hx hb dL_law_461 ?_
  refine s_ld hC hS (i := 7 * n + 3) (by omega) hv3 dL_law_462 ?_
  obtain ⟨tf, hR⟩ := hO.clR
  refine z_callV (As := [.int v1, .int v2, .int v3]) (rest := []) hF hK (c_X4_street l D y x (x + 76) d ca pa pk k len tf v1 v2 v3 (hr) (hk4) (hl80)) (cwV 3 hts gL_law_X4_street rfl rfl rfl (by decide +kernel) ⟨Nat.le_of_ble_eq_true rfl, Nat.le_of_ble_eq_true rfl⟩) (cI.recv hK hCI) hR rfl hl.1 rfl (Nat.le_of_ble_eq_true rfl) dL_law_463 ⟨by show _ ≤ 600000; omega, by show _ ≤ 7302250; omega⟩ ?_
  refine lv_aload_n hx hb dL_law_466 rfl (lv_at hl 1 rfl) ?_
  refine lv_aload_n hx hb dL_law_467 rfl (lv_at hl 3 rfl) ?_
  refine lv_iload_n hx hb dL_law_468 rfl (lv_at hl 0 rfl) ?_
  refine lv_iconst (v := nI 1) hx hb dL_law_469 (by decide) ?_
  refine z_iadd hx hb dL_law_470 ?_
  refine s_ld hC hS (i := 7 * n + 1) (by omega) hv1 dL_law_471 ?_
  refine lv_aload_n hx hb dL_law_472 rfl (lv_at hl 3 rfl) ?_
  refine lv_iload_n hx hb dL_law_473 rfl (lv_at hl 0 rfl) ?_
  refine lv_iconst (v := nI 2) hx hb dL_law_474 (by decide) ?_
  refine z_iadd hx hb dL_law_475 ?_
  refine s_ld hC hS (i := 7 * n + 2) (by omega) hv2 dL_law_476 ?_
  refine lv_aload_n hx hb dL_law_477 rfl (lv_at hl 3 rfl) ?_
  refine lv_iload_n hx hb dL_law_478 rfl (lv_at hl 0 rfl) ?_
  refine lv_iconst (v := nI 3) hx hb dL_law_479 (by decide) ?_
  refine z_iadd hx hb dL_law_480 ?_
  refine s_ld hC hS (i := 7 * n + 3) (by omega) hv3 dL_law_481 ?_
  refine z_callV (As := [.int v1, .int v2, .int v3]) (rest := [.int (aStreet d v1 v2 v3)]) hF hK (c_X5_street l D y (x + 70) d v1 v2 v3 (hI)) (cwV 3 hts gL_law_X5_street rfl rfl rfl (by decide +kernel) ⟨Nat.le_of_ble_eq_true rfl, Nat.le_of_ble_eq_true rfl⟩) (mI.recv hK (⟨as, gt, pa9, rs, hM⟩ : mI D y (x + 70) d was tx k len _)) (zM_of hM) rfl hl.1 rfl (Nat.le_of_ble_eq_true rfl) dL_law_482 ⟨by show _ ≤ 600000; omega, by show _ ≤ 7302250; omega⟩ ?_
  refine lv_icmp_eq (tgt := 1008) hx hb dL_law_485 (by decide) (fun _ => ?_) (fun q => absurd (show (aStreet d v1 v2 v3) = (aStreet d v1 v2 v3) from rfl) q)
  refine lv_iinc (v := nI (7 * n + 7)) (lv' := [(3, .int (nI (7 * n + 7))), (2, .ref (x + 70)), (1, .ref x), (0, .ref b)]) hx hb dL_law_1008 hl (k := 0) rfl (in7 _) (by decide) rfl (fun ls hl => ?_)
  refine lv_goto (tgt := 18) hx hb dL_law_1011 (by decide) ?_
  refine W.widen (k := 76 + 16 * (n + 1)) (n := 13938 + 112 * (n + 1)) (by omega) (by omega) ?_
  exact ih _ _ _ ⟨d, was, tx, k, len, hJ1, ⟨_, _, _, _, _, _, _, _, hO, hH⟩, ⟨_, _, _, _, hM⟩, hbs, hS⟩ (lv_sub hl [0, 1, 2, 3] rfl)
set_option maxRecDepth 100000 in
set_option maxHeartbeats 4000000 in
theorem L_count {p : Program} {l : Launch} {e : Env} {s : State} {m : MethodId} {below : List Frame} {meth : Method} {c : Code} {b L x : Nat} {xs : Nat → Int32} {D : va_G} {y : zY} (hC : lwX p s m meth c b L x xs D y) {n : Nat} (hn : 7 * n + 7 ≤ L) {H : Heap} {locs : List Loc} {ls : Array Slot} (hI0 : lI D y x s n H locs) (hl : lv_has ls 4 [(3, .int (nI (7 * n))), (2, .ref (x + 70)), (1, .ref x), (0, .ref b)])
    (ih : ∀ (H' : Heap) (locs' : List Loc) (ls' : Array Slot), lI D y x s (n + 1) H' locs' → lv_has ls' 4 [(3, .int (nI (7 * n + 7))), (2, .ref (x + 70)), (1, .ref x), (0, .ref b)] → W p l e room_1 s m #[Value.ref b] below meth c H' locs' (76 + 16 * (n + 1)) (13938 + 112 * (n + 1)) (lw_Z below #[Value.ref b] s) (F0 m 18 ls' [])) : W p l e room_1 s m #[Value.ref b] below meth c H locs (76 + 16 * n) (13938 + 112 * n) (lw_Z below #[Value.ref b] s) (F0 m 490 ls []) := by
  obtain ⟨hx, hb, hret, hlocks, hF, hK, -, -, hL, hxs, -⟩ := id hC
  have hts := hF.2.2.2.2
  obtain ⟨d, was, tx, k, len, hJ, hCI, hMI, hbs, hS⟩ := hI0
  obtain ⟨ca, pa, pk, T, P, rot, ts, tn, hO, hH⟩ := id hCI
  obtain ⟨as, gt, pa9, rs, hM⟩ := id hMI
  have hn1 : n ≤ 511 := by omega
  have hJ1 := hJ.mono (Nat.le_succ n)
  obtain ⟨hZ, hk4, hl80, hW⟩ := id hJ
  have hr := hZ.1
  have hI := hr.1
  have hbd : x + 70 ≤ x + 76 := by omega
  obtain ⟨v1, hv1⟩ : ∃ v, xs (7 * n + 1) = v := ⟨_, rfl⟩
  refine lv_aload_n hx hb dL_law_490 rfl (lv_at hl 2 rfl) ?_
  refine lv_aload_n hx hb dL_law_491 rfl (lv_at hl 3 rfl) ?_
  refine lv_iload_n hx hb dL_law_492 rfl (lv_at hl 0 rfl) ?_
  refine lv_iconst (v := nI 1) hx hb dL_law_493 (by decide) ?_
  refine z_iadd hx hb dL_law_494 ?_
  refine s_ld hC hS (i := 7 * n + 1) (by omega) hv1 dL_law_495 ?_
  obtain ⟨tf, hR⟩ := hO.clR
  refine z_callV (As := [.int v1]) (rest := []) hF hK (c_X4_count l D y x (x + 76) d ca pa pk k len tf v1 (hr) (hk4) (hl80)) (cwV 1 hts gL_law_X4_count rfl rfl rfl (by decide +kernel) ⟨Nat.le_of_ble_eq_true rfl, Nat.le_of_ble_eq_true rfl⟩) (cI.recv hK hCI) hR rfl hl.1 rfl (Nat.le_of_ble_eq_true rfl) dL_law_496 ⟨by show _ ≤ 600000; omega, by show _ ≤ 7302250; omega⟩ ?_
  refine lv_aload_n hx hb dL_law_499 rfl (lv_at hl 1 rfl) ?_
  refine lv_aload_n hx hb dL_law_500 rfl (lv_at hl 3 rfl) ?_
  refine lv_iload_n hx hb dL_law_501 rfl (lv_at hl 0 rfl) ?_
  refine lv_iconst (v := nI 1) hx hb dL_law_502 (by decide) ?_
  refine z_iadd hx hb dL_law_503 ?_
  refine s_ld hC hS (i := 7 * n + 1) (by omega) hv1 dL_law_504 ?_
  refine w_callV (As := [.int v1]) (rest := [.int (aCount d k len v1)]) hF hK (c_X5_count l D y (x + 70) d was as tx gt k pa9 rs len v1 (hI) (hk4) (hl80)) (cwV 1 hts gL_law_X5_count rfl rfl rfl (by decide +kernel) ⟨Nat.le_of_ble_eq_true rfl, Nat.le_of_ble_eq_true rfl⟩) (mI.recv hK (⟨as, gt, pa9, rs, hM⟩ : mI D y (x + 70) d was tx k len _)) hM hS (fun q h => by rw [hxs]; have h9 := h.1; omega) rfl hl.1 rfl (Nat.le_of_ble_eq_true rfl) dL_law_505 ⟨by show _ ≤ 600000; omega, by show _ ≤ 7302250; omega⟩ (fun H2 locsH2 hq hz1 hk hS => ?_)
  have hO := hO.keep hk (fun q h1 h2 => nblk (by omega)) (fun q h1 => nblk (by omega))
  have hbs := Nat.le_trans hbs hz1
  clear hM
  have hM := hq
  clear hz1 hk
  refine lv_icmp_eq (tgt := 1008) hx hb dL_law_508 (by decide) (fun _ => ?_) (fun q => absurd (show (aCount d k len v1) = (aCount d k len v1) from rfl) q)
  refine lv_iinc (v := nI (7 * n + 7)) (lv' := [(3, .int (nI (7 * n + 7))), (2, .ref (x + 70)), (1, .ref x), (0, .ref b)]) hx hb dL_law_1008 hl (k := 0) rfl (in7 _) (by decide) rfl (fun ls hl => ?_)
  refine lv_goto (tgt := 18) hx hb dL_law_1011 (by decide) ?_
  refine W.widen (k := 76 + 16 * (n + 1)) (n := 13938 + 112 * (n + 1)) (by omega) (by omega) ?_
  exact ih _ _ _ ⟨d, was, tx, k, len, hJ1, ⟨_, _, _, _, _, _, _, _, hO, hH⟩, ⟨_, _, _, _, hM⟩, hbs, hS⟩ (lv_sub hl [0, 1, 2, 3] rfl)
set_option maxRecDepth 100000 in
set_option maxHeartbeats 4000000 in
theorem L_covers {p : Program} {l : Launch} {e : Env} {s : State} {m : MethodId} {below : List Frame} {meth : Method} {c : Code} {b L x : Nat} {xs : Nat → Int32} {D : va_G} {y : zY} (hC : lwX p s m meth c b L x xs D y) {n : Nat} (hn : 7 * n + 7 ≤ L) {H : Heap} {locs : List Loc} {ls : Array Slot} (hI0 : lI D y x s n H locs) (hl : lv_has ls 4 [(3, .int (nI (7 * n))), (2, .ref (x + 70)), (1, .ref x), (0, .ref b)])
    (ih : ∀ (H' : Heap) (locs' : List Loc) (ls' : Array Slot), lI D y x s (n + 1) H' locs' → lv_has ls' 4 [(3, .int (nI (7 * n + 7))), (2, .ref (x + 70)), (1, .ref x), (0, .ref b)] → W p l e room_1 s m #[Value.ref b] below meth c H' locs' (76 + 16 * (n + 1)) (13938 + 112 * (n + 1)) (lw_Z below #[Value.ref b] s) (F0 m 18 ls' [])) : W p l e room_1 s m #[Value.ref b] below meth c H locs (76 + 16 * n) (13938 + 112 * n) (lw_Z below #[Value.ref b] s) (F0 m 526 ls []) := by
  obtain ⟨hx, hb, hret, hlocks, hF, hK, -, -, hL, hxs, -⟩ := id hC
  have hts := hF.2.2.2.2
  obtain ⟨d, was, tx, k, len, hJ, hCI, hMI, hbs, hS⟩ := hI0
  obtain ⟨ca, pa, pk, T, P, rot, ts, tn, hO, hH⟩ := id hCI
  obtain ⟨as, gt, pa9, rs, hM⟩ := id hMI
  have hn1 : n ≤ 511 := by omega
  have hJ1 := hJ.mono (Nat.le_succ n)
  obtain ⟨hZ, hk4, hl80, hW⟩ := id hJ
  have hr := hZ.1
  have hI := hr.1
  have hbd : x + 70 ≤ x + 76 := by omega
  obtain ⟨v1, hv1⟩ : ∃ v, xs (7 * n + 1) = v := ⟨_, rfl⟩
  obtain ⟨v2, hv2⟩ : ∃ v, xs (7 * n + 2) = v := ⟨_, rfl⟩
  obtain ⟨v3, hv3⟩ : ∃ v, xs (7 * n + 3) = v := ⟨_, rfl⟩
  obtain ⟨v4, hv4⟩ : ∃ v, xs (7 * n + 4) = v := ⟨_, rfl⟩
  refine lv_aload_n hx hb dL_law_526 rfl (lv_at hl 2 rfl) ?_
  refine lv_aload_n hx hb dL_law_527 rfl (lv_at hl 3 rfl) ?_
  refine lv_iload_n hx hb dL_law_528 rfl (lv_at hl 0 rfl) ?_
  refine lv_iconst (v := nI 1) hx hb dL_law_529 (by decide) ?_
  refine z_iadd hx hb dL_law_530 ?_
  refine s_ld hC hS (i := 7 * n + 1) (by omega) hv1 dL_law_531 ?_
  refine lv_aload_n hx hb dL_law_532 rfl (lv_at hl 3 rfl) ?_
  refine lv_iload_n hx hb dL_law_533 rfl (lv_at hl 0 rfl) ?_
  refine lv_iconst (v := nI 2) hx hb dL_law_534 (by decide) ?_
  refine z_iadd hx hb dL_law_535 ?_
  refine s_ld hC hS (i := 7 * n + 2) (by omega) hv2 dL_law_536 ?_
  refine lv_aload_n hx hb dL_law_537 rfl (lv_at hl 3 rfl) ?_
  refine lv_iload_n hx hb dL_law_538 rfl (lv_at hl 0 rfl) ?_
  refine lv_iconst (v := nI 3) hx hb dL_law_539 (by decide) ?_
  refine z_iadd hx hb dL_law_540 ?_
  refine s_ld hC hS (i := 7 * n + 3) (by omega) hv3 dL_law_541 ?_
  refine lv_aload_n hx hb dL_law_542 rfl (lv_at hl 3 rfl) ?_
  refine lv_iload_n hx hb dL_law_543 rfl (lv_at hl 0 rfl) ?_
  refine lv_iconst (v := nI 4) hx hb dL_law_544 (by decide) ?_
  refine z_iadd hx hb dL_law_545 ?_
  refine s_ld hC hS (i := 7 * n + 4) (by omega) hv4 dL_law_546 ?_
  obtain ⟨tf, hR⟩ := hO.clR
  refine z_callV (As := [.int v1, .int v2, .int v3, .int v4]) (rest := []) hF hK (c_X4_covers l D y x (x + 76) d ca pa pk k len tf v1 v2 v3 v4 (hr) (hk4) (hl80)) (cwV 4 hts gL_law_X4_covers rfl rfl rfl (by decide +kernel) ⟨Nat.le_of_ble_eq_true rfl, Nat.le_of_ble_eq_true rfl⟩) (cI.recv hK hCI) hR rfl hl.1 rfl (Nat.le_of_ble_eq_true rfl) dL_law_547 ⟨by show _ ≤ 600000; omega, by show _ ≤ 7302250; omega⟩ ?_
  refine lv_aload_n hx hb dL_law_550 rfl (lv_at hl 1 rfl) ?_
  refine lv_aload_n hx hb dL_law_551 rfl (lv_at hl 3 rfl) ?_
  refine lv_iload_n hx hb dL_law_552 rfl (lv_at hl 0 rfl) ?_
  refine lv_iconst (v := nI 1) hx hb dL_law_553 (by decide) ?_
  refine z_iadd hx hb dL_law_554 ?_
  refine s_ld hC hS (i := 7 * n + 1) (by omega) hv1 dL_law_555 ?_
  refine lv_aload_n hx hb dL_law_556 rfl (lv_at hl 3 rfl) ?_
  refine lv_iload_n hx hb dL_law_557 rfl (lv_at hl 0 rfl) ?_
  refine lv_iconst (v := nI 2) hx hb dL_law_558 (by decide) ?_
  refine z_iadd hx hb dL_law_559 ?_
  refine s_ld hC hS (i := 7 * n + 2) (by omega) hv2 dL_law_560 ?_
  refine lv_aload_n hx hb dL_law_561 rfl (lv_at hl 3 rfl) ?_
  refine lv_iload_n hx hb dL_law_562 rfl (lv_at hl 0 rfl) ?_
  refine lv_iconst (v := nI 3) hx hb dL_law_563 (by decide) ?_
  refine z_iadd hx hb dL_law_564 ?_
  refine s_ld hC hS (i := 7 * n + 3) (by omega) hv3 dL_law_565 ?_
  refine lv_aload_n hx hb dL_law_566 rfl (lv_at hl 3 rfl) ?_
  refine lv_iload_n hx hb dL_law_567 rfl (lv_at hl 0 rfl) ?_
  refine lv_iconst (v := nI 4) hx hb dL_law_568 (by decide) ?_
  refine z_iadd hx hb dL_law_569 ?_
  refine s_ld hC hS (i := 7 * n + 4) (by omega) hv4 dL_law_570 ?_
  refine z_callV (As := [.int v1, .int v2, .int v3, .int v4]) (rest := [.int (aCovers d v1 v2 v3 v4)]) hF hK (c_X5_covers l D y (x + 70) d v1 v2 v3 v4 (hI)) (cwV 4 hts gL_law_X5_covers rfl rfl rfl (by decide +kernel) ⟨Nat.le_of_ble_eq_true rfl, Nat.le_of_ble_eq_true rfl⟩) (mI.recv hK (⟨as, gt, pa9, rs, hM⟩ : mI D y (x + 70) d was tx k len _)) (zM_of hM) rfl hl.1 rfl (Nat.le_of_ble_eq_true rfl) dL_law_571 ⟨by show _ ≤ 600000; omega, by show _ ≤ 7302250; omega⟩ ?_
  refine lv_icmp_eq (tgt := 1008) hx hb dL_law_574 (by decide) (fun _ => ?_) (fun q => absurd (show (aCovers d v1 v2 v3 v4) = (aCovers d v1 v2 v3 v4) from rfl) q)
  refine lv_iinc (v := nI (7 * n + 7)) (lv' := [(3, .int (nI (7 * n + 7))), (2, .ref (x + 70)), (1, .ref x), (0, .ref b)]) hx hb dL_law_1008 hl (k := 0) rfl (in7 _) (by decide) rfl (fun ls hl => ?_)
  refine lv_goto (tgt := 18) hx hb dL_law_1011 (by decide) ?_
  refine W.widen (k := 76 + 16 * (n + 1)) (n := 13938 + 112 * (n + 1)) (by omega) (by omega) ?_
  exact ih _ _ _ ⟨d, was, tx, k, len, hJ1, ⟨_, _, _, _, _, _, _, _, hO, hH⟩, ⟨_, _, _, _, hM⟩, hbs, hS⟩ (lv_sub hl [0, 1, 2, 3] rfl)
set_option maxRecDepth 100000 in
set_option maxHeartbeats 4000000 in
theorem L_area {p : Program} {l : Launch} {e : Env} {s : State} {m : MethodId} {below : List Frame} {meth : Method} {c : Code} {b L x : Nat} {xs : Nat → Int32} {D : va_G} {y : zY} (hC : lwX p s m meth c b L x xs D y) {n : Nat} (hn : 7 * n + 7 ≤ L) {H : Heap} {locs : List Loc} {ls : Array Slot} (hI0 : lI D y x s n H locs) (hl : lv_has ls 4 [(3, .int (nI (7 * n))), (2, .ref (x + 70)), (1, .ref x), (0, .ref b)])
    (ih : ∀ (H' : Heap) (locs' : List Loc) (ls' : Array Slot), lI D y x s (n + 1) H' locs' → lv_has ls' 4 [(3, .int (nI (7 * n + 7))), (2, .ref (x + 70)), (1, .ref x), (0, .ref b)] → W p l e room_1 s m #[Value.ref b] below meth c H' locs' (76 + 16 * (n + 1)) (13938 + 112 * (n + 1)) (lw_Z below #[Value.ref b] s) (F0 m 18 ls' [])) : W p l e room_1 s m #[Value.ref b] below meth c H locs (76 + 16 * n) (13938 + 112 * n) (lw_Z below #[Value.ref b] s) (F0 m 579 ls []) := by
  obtain ⟨hx, hb, hret, hlocks, hF, hK, -, -, hL, hxs, -⟩ := id hC
  have hts := hF.2.2.2.2
  obtain ⟨d, was, tx, k, len, hJ, hCI, hMI, hbs, hS⟩ := hI0
  obtain ⟨ca, pa, pk, T, P, rot, ts, tn, hO, hH⟩ := id hCI
  obtain ⟨as, gt, pa9, rs, hM⟩ := id hMI
  have hn1 : n ≤ 511 := by omega
  have hJ1 := hJ.mono (Nat.le_succ n)
  obtain ⟨hZ, hk4, hl80, hW⟩ := id hJ
  have hr := hZ.1
  have hI := hr.1
  have hbd : x + 70 ≤ x + 76 := by omega
  obtain ⟨v1, hv1⟩ : ∃ v, xs (7 * n + 1) = v := ⟨_, rfl⟩
  obtain ⟨v2, hv2⟩ : ∃ v, xs (7 * n + 2) = v := ⟨_, rfl⟩
  refine lv_aload_n hx hb dL_law_579 rfl (lv_at hl 2 rfl) ?_
  refine lv_aload_n hx hb dL_law_580 rfl (lv_at hl 3 rfl) ?_
  refine lv_iload_n hx hb dL_law_581 rfl (lv_at hl 0 rfl) ?_
  refine lv_iconst (v := nI 1) hx hb dL_law_582 (by decide) ?_
  refine z_iadd hx hb dL_law_583 ?_
  refine s_ld hC hS (i := 7 * n + 1) (by omega) hv1 dL_law_584 ?_
  refine lv_aload_n hx hb dL_law_585 rfl (lv_at hl 3 rfl) ?_
  refine lv_iload_n hx hb dL_law_586 rfl (lv_at hl 0 rfl) ?_
  refine lv_iconst (v := nI 2) hx hb dL_law_587 (by decide) ?_
  refine z_iadd hx hb dL_law_588 ?_
  refine s_ld hC hS (i := 7 * n + 2) (by omega) hv2 dL_law_589 ?_
  obtain ⟨tf, hR⟩ := hO.clR
  refine z_callV (As := [.int v1, .int v2]) (rest := []) hF hK (c_X4_area l D y x (x + 76) d ca pa pk k len tf v1 v2 (hr) (hk4) (hl80)) (cwV 2 hts gL_law_X4_area rfl rfl rfl (by decide +kernel) ⟨Nat.le_of_ble_eq_true rfl, Nat.le_of_ble_eq_true rfl⟩) (cI.recv hK hCI) hR rfl hl.1 rfl (Nat.le_of_ble_eq_true rfl) dL_law_590 ⟨by show _ ≤ 600000; omega, by show _ ≤ 7302250; omega⟩ ?_
  refine lv_aload_n hx hb dL_law_593 rfl (lv_at hl 1 rfl) ?_
  refine lv_aload_n hx hb dL_law_594 rfl (lv_at hl 3 rfl) ?_
  refine lv_iload_n hx hb dL_law_595 rfl (lv_at hl 0 rfl) ?_
  refine lv_iconst (v := nI 1) hx hb dL_law_596 (by decide) ?_
  refine z_iadd hx hb dL_law_597 ?_
  refine s_ld hC hS (i := 7 * n + 1) (by omega) hv1 dL_law_598 ?_
  refine lv_aload_n hx hb dL_law_599 rfl (lv_at hl 3 rfl) ?_
  refine lv_iload_n hx hb dL_law_600 rfl (lv_at hl 0 rfl) ?_
  refine lv_iconst (v := nI 2) hx hb dL_law_601 (by decide) ?_
  refine z_iadd hx hb dL_law_602 ?_
  refine s_ld hC hS (i := 7 * n + 2) (by omega) hv2 dL_law_603 ?_
  refine z_callV (As := [.int v1, .int v2]) (rest := [.int (aArea d v1 v2)]) hF hK (c_X5_area l D y (x + 70) d v1 v2 (hI)) (cwV 2 hts gL_law_X5_area rfl rfl rfl (by decide +kernel) ⟨Nat.le_of_ble_eq_true rfl, Nat.le_of_ble_eq_true rfl⟩) (mI.recv hK (⟨as, gt, pa9, rs, hM⟩ : mI D y (x + 70) d was tx k len _)) (zM_of hM) rfl hl.1 rfl (Nat.le_of_ble_eq_true rfl) dL_law_604 ⟨by show _ ≤ 600000; omega, by show _ ≤ 7302250; omega⟩ ?_
  refine lv_icmp_eq (tgt := 1008) hx hb dL_law_607 (by decide) (fun _ => ?_) (fun q => absurd (show (aArea d v1 v2) = (aArea d v1 v2) from rfl) q)
  refine lv_iinc (v := nI (7 * n + 7)) (lv' := [(3, .int (nI (7 * n + 7))), (2, .ref (x + 70)), (1, .ref x), (0, .ref b)]) hx hb dL_law_1008 hl (k := 0) rfl (in7 _) (by decide) rfl (fun ls hl => ?_)
  refine lv_goto (tgt := 18) hx hb dL_law_1011 (by decide) ?_
  refine W.widen (k := 76 + 16 * (n + 1)) (n := 13938 + 112 * (n + 1)) (by omega) (by omega) ?_
  exact ih _ _ _ ⟨d, was, tx, k, len, hJ1, ⟨_, _, _, _, _, _, _, _, hO, hH⟩, ⟨_, _, _, _, hM⟩, hbs, hS⟩ (lv_sub hl [0, 1, 2, 3] rfl)
set_option maxRecDepth 100000 in
set_option maxHeartbeats 4000000 in
theorem L_refusal {p : Program} {l : Launch} {e : Env} {s : State} {m : MethodId} {below : List Frame} {meth : Method} {c : Code} {b L x : Nat} {xs : Nat → Int32} {D : va_G} {y : zY} (hC : lwX p s m meth c b L x xs D y) {n : Nat} (hn : 7 * n + 7 ≤ L) {H : Heap} {locs : List Loc} {ls : Array Slot} (hI0 : lI D y x s n H locs) (hl : lv_has ls 4 [(3, .int (nI (7 * n))), (2, .ref (x + 70)), (1, .ref x), (0, .ref b)])
    (ih : ∀ (H' : Heap) (locs' : List Loc) (ls' : Array Slot), lI D y x s (n + 1) H' locs' → lv_has ls' 4 [(3, .int (nI (7 * n + 7))), (2, .ref (x + 70)), (1, .ref x), (0, .ref b)] → W p l e room_1 s m #[Value.ref b] below meth c H' locs' (76 + 16 * (n + 1)) (13938 + 112 * (n + 1)) (lw_Z below #[Value.ref b] s) (F0 m 18 ls' [])) : W p l e room_1 s m #[Value.ref b] below meth c H locs (76 + 16 * n) (13938 + 112 * n) (lw_Z below #[Value.ref b] s) (F0 m 612 ls []) := by
  obtain ⟨hx, hb, hret, hlocks, hF, hK, -, -, hL, hxs, -⟩ := id hC
  have hts := hF.2.2.2.2
  obtain ⟨d, was, tx, k, len, hJ, hCI, hMI, hbs, hS⟩ := hI0
  obtain ⟨ca, pa, pk, T, P, rot, ts, tn, hO, hH⟩ := id hCI
  obtain ⟨as, gt, pa9, rs, hM⟩ := id hMI
  have hn1 : n ≤ 511 := by omega
  have hJ1 := hJ.mono (Nat.le_succ n)
  obtain ⟨hZ, hk4, hl80, hW⟩ := id hJ
  have hr := hZ.1
  have hI := hr.1
  have hbd : x + 70 ≤ x + 76 := by omega
  obtain ⟨v1, hv1⟩ : ∃ v, xs (7 * n + 1) = v := ⟨_, rfl⟩
  obtain ⟨v2, hv2⟩ : ∃ v, xs (7 * n + 2) = v := ⟨_, rfl⟩
  obtain ⟨v3, hv3⟩ : ∃ v, xs (7 * n + 3) = v := ⟨_, rfl⟩
  obtain ⟨v4, hv4⟩ : ∃ v, xs (7 * n + 4) = v := ⟨_, rfl⟩
  refine lv_aload_n hx hb dL_law_612 rfl (lv_at hl 2 rfl) ?_
  refine lv_aload_n hx hb dL_law_613 rfl (lv_at hl 3 rfl) ?_
  refine lv_iload_n hx hb dL_law_614 rfl (lv_at hl 0 rfl) ?_
  refine lv_iconst (v := nI 1) hx hb dL_law_615 (by decide) ?_
  refine z_iadd hx hb dL_law_616 ?_
  refine s_ld hC hS (i := 7 * n + 1) (by omega) hv1 dL_law_617 ?_
  refine lv_aload_n hx hb dL_law_618 rfl (lv_at hl 3 rfl) ?_
  refine lv_iload_n hx hb dL_law_619 rfl (lv_at hl 0 rfl) ?_
  refine lv_iconst (v := nI 2) hx hb dL_law_620 (by decide) ?_
  refine z_iadd hx hb dL_law_621 ?_
  refine s_ld hC hS (i := 7 * n + 2) (by omega) hv2 dL_law_622 ?_
  refine lv_aload_n hx hb dL_law_623 rfl (lv_at hl 3 rfl) ?_
  refine lv_iload_n hx hb dL_law_624 rfl (lv_at hl 0 rfl) ?_
  refine lv_iconst (v := nI 3) hx hb dL_law_625 (by decide) ?_
  refine z_iadd hx hb dL_law_626 ?_
  refine s_ld hC hS (i := 7 * n + 3) (by omega) hv3 dL_law_627 ?_
  refine lv_aload_n hx hb dL_law_628 rfl (lv_at hl 3 rfl) ?_
  refine lv_iload_n hx hb dL_law_629 rfl (lv_at hl 0 rfl) ?_
  refine lv_iconst (v := nI 4) hx hb dL_law_630 (by decide) ?_
  refine z_iadd hx hb dL_law_631 ?_
  refine s_ld hC hS (i := 7 * n + 4) (by omega) hv4 dL_law_632 ?_
  obtain ⟨tf, hR⟩ := hO.clR
  refine z_callV (As := [.int v1, .int v2, .int v3, .int v4]) (rest := []) hF hK (c_X4_refusal l D y x (x + 76) d ca pa pk k len tf v1 v2 v3 v4 (hr) (hk4) (hl80)) (cwV 4 hts gL_law_X4_refusal rfl rfl rfl (by decide +kernel) ⟨Nat.le_of_ble_eq_true rfl, Nat.le_of_ble_eq_true rfl⟩) (cI.recv hK hCI) hR rfl hl.1 rfl (Nat.le_of_ble_eq_true rfl) dL_law_633 ⟨by show _ ≤ 600000; omega, by show _ ≤ 7302250; omega⟩ ?_
  refine lv_aload_n hx hb dL_law_636 rfl (lv_at hl 1 rfl) ?_
  refine lv_aload_n hx hb dL_law_637 rfl (lv_at hl 3 rfl) ?_
  refine lv_iload_n hx hb dL_law_638 rfl (lv_at hl 0 rfl) ?_
  refine lv_iconst (v := nI 1) hx hb dL_law_639 (by decide) ?_
  refine z_iadd hx hb dL_law_640 ?_
  refine s_ld hC hS (i := 7 * n + 1) (by omega) hv1 dL_law_641 ?_
  refine lv_aload_n hx hb dL_law_642 rfl (lv_at hl 3 rfl) ?_
  refine lv_iload_n hx hb dL_law_643 rfl (lv_at hl 0 rfl) ?_
  refine lv_iconst (v := nI 2) hx hb dL_law_644 (by decide) ?_
  refine z_iadd hx hb dL_law_645 ?_
  refine s_ld hC hS (i := 7 * n + 2) (by omega) hv2 dL_law_646 ?_
  refine lv_aload_n hx hb dL_law_647 rfl (lv_at hl 3 rfl) ?_
  refine lv_iload_n hx hb dL_law_648 rfl (lv_at hl 0 rfl) ?_
  refine lv_iconst (v := nI 3) hx hb dL_law_649 (by decide) ?_
  refine z_iadd hx hb dL_law_650 ?_
  refine s_ld hC hS (i := 7 * n + 3) (by omega) hv3 dL_law_651 ?_
  refine lv_aload_n hx hb dL_law_652 rfl (lv_at hl 3 rfl) ?_
  refine lv_iload_n hx hb dL_law_653 rfl (lv_at hl 0 rfl) ?_
  refine lv_iconst (v := nI 4) hx hb dL_law_654 (by decide) ?_
  refine z_iadd hx hb dL_law_655 ?_
  refine s_ld hC hS (i := 7 * n + 4) (by omega) hv4 dL_law_656 ?_
  refine z_callV (As := [.int v1, .int v2, .int v3, .int v4]) (rest := [.int (aRefusal d v1 v2 v3 v4)]) hF hK (c_X5_refusal l D y (x + 70) d v1 v2 v3 v4 (hI)) (cwV 4 hts gL_law_X5_refusal rfl rfl rfl (by decide +kernel) ⟨Nat.le_of_ble_eq_true rfl, Nat.le_of_ble_eq_true rfl⟩) (mI.recv hK (⟨as, gt, pa9, rs, hM⟩ : mI D y (x + 70) d was tx k len _)) (zM_of hM) rfl hl.1 rfl (Nat.le_of_ble_eq_true rfl) dL_law_657 ⟨by show _ ≤ 600000; omega, by show _ ≤ 7302250; omega⟩ ?_
  refine lv_icmp_eq (tgt := 1008) hx hb dL_law_660 (by decide) (fun _ => ?_) (fun q => absurd (show (aRefusal d v1 v2 v3 v4) = (aRefusal d v1 v2 v3 v4) from rfl) q)
  refine lv_iinc (v := nI (7 * n + 7)) (lv' := [(3, .int (nI (7 * n + 7))), (2, .ref (x + 70)), (1, .ref x), (0, .ref b)]) hx hb dL_law_1008 hl (k := 0) rfl (in7 _) (by decide) rfl (fun ls hl => ?_)
  refine lv_goto (tgt := 18) hx hb dL_law_1011 (by decide) ?_
  refine W.widen (k := 76 + 16 * (n + 1)) (n := 13938 + 112 * (n + 1)) (by omega) (by omega) ?_
  exact ih _ _ _ ⟨d, was, tx, k, len, hJ1, ⟨_, _, _, _, _, _, _, _, hO, hH⟩, ⟨_, _, _, _, hM⟩, hbs, hS⟩ (lv_sub hl [0, 1, 2, 3] rfl)
