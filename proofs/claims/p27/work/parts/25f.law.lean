/-! THE LAW: a step, 3 -/
set_option maxRecDepth 100000 in
set_option maxHeartbeats 4000000 in
theorem L_c3 {p : Program} {l : Launch} {e : Env} {s : State} {m : MethodId} {below : List Frame} {meth : Method} {c : Code} {b L x : Nat} {xs : Nat → Int32} {D : va_G} {y : zY} (hC : lwX p s m meth c b L x xs D y) {u z : Nat} (hu : u < 32) (hz : z < 268435456) {H : Heap} {locs : List Loc} {ls : Array Slot} (hI0 : lI D y x s u u 4 H locs) (hl : lv_has ls 18 [(6, .int (nI 0)), (5, .int (nI z)), (3, .int (nI u)), (2, .int (nI 1)), (1, .ref x), (0, .ref b)])
    (ih : ∀ (H' : Heap) (locs' : List Loc) (ls' : Array Slot), lI D y x s (u + 1) (u + 1) 4 H' locs' → lv_has ls' 18 [(3, .int (nI u)), (2, .int (nI 1)), (1, .ref x), (0, .ref b)] → W p l e room_1 s m #[Value.ref b] below meth c H' locs' (78 + (u + 1)) (5330 + 7 * (u + 1)) (lw_Z below #[Value.ref b] s) (F0 m 716 ls' [])) : W p l e room_1 s m #[Value.ref b] below meth c H locs (78 + u) (5330 + 7 * u) (lw_Z below #[Value.ref b] s) (F0 m 441 ls []) := by
  obtain ⟨hx, hb, hret, hlocks, hF, hK, hXX, hbl, hL, hxs, -⟩ := id hC
  have hts := hF.2.2.2.2
  have hown : s.vm.findClass RL = some m.cls := hF.2.2.2.1
  obtain ⟨d, ca, pa, pk, T, P, k, rot, ts, tn, tx, hJ, hk4, hO, hbs, hS⟩ := hI0
  have hv24 := hJ.1.1.2.1
  have hG2 := hJ.1.1.1.ng2
  refine lv_aload_n hx hb dL_law_441 rfl (lv_at hl 4 rfl) ?_
  refine lv_iconst (v := (nI 1)) hx hb dL_law_442 (by decide) ?_
  obtain ⟨tf, hR⟩ := hO.clR
  refine z_callV (As := [.int (nI 1)]) (rest := []) hF hK (c_X4_count l D y x (x + 70) d ca pa pk k 0 tf (nI 1) (hJ.1.1) (hk4) (by decide)) (cwV 1 hts gL_law_X4_count rfl rfl rfl (by decide +kernel) ⟨Nat.le_of_ble_eq_true rfl, Nat.le_of_ble_eq_true rfl⟩) (xO.recv hK hO) hR rfl hl.1 rfl (Nat.le_of_ble_eq_true rfl) dL_law_443 ⟨by show _ ≤ 600000; omega, by show _ ≤ 7302250; omega⟩ ?_
  refine z_topi (z := (nI (vn d))) (cnt_1) ?_
  refine lv_istore (lv' := [(10, .int (nI (vn d))), (6, .int (nI 0)), (5, .int (nI z)), (3, .int (nI u)), (2, .int (nI 1)), (1, .ref x), (0, .ref b)]) hx hb dL_law_446 hl (by decide) rfl (fun ls hl => ?_)
  refine lv_iload hx hb dL_law_448 (lv_at hl 0 rfl) ?_
  refine n_if_eq (tgt := 481) hx hb (by omega) dL_law_450 (by decide) (fun c450 => ?_) (fun c450 => ?_)
  · refine lv_iconst (v := (nI 1)) hx hb dL_law_481 (by decide) ?_
    refine lv_goto (tgt := 486) hx hb dL_law_482 (by decide) ?_
    refine lv_istore_n (lv' := [(2, .int (nI 1)), (10, .int (nI (vn d))), (6, .int (nI 0)), (5, .int (nI z)), (3, .int (nI u)), (1, .ref x), (0, .ref b)]) hx hb dL_law_486 rfl hl (by decide) rfl (fun ls hl => ?_)
    refine lv_goto (tgt := 716) hx hb dL_law_487 (by decide) ?_
    refine W.widen (k := 78 + (u + 1)) (n := 5330 + 7 * (u + 1)) (by omega) (by omega) ?_
    exact ih _ _ _ ⟨_, _, _, _, _, _, _, _, _, _, _, hJ.mono (by omega) (by omega), hk4, hO, hbs, hS⟩ (lv_sub hl [4, 0, 5, 6] rfl)
  · refine lv_aload_n hx hb dL_law_453 rfl (lv_at hl 5 rfl) ?_
    refine lv_aload_n hx hb dL_law_454 rfl (lv_at hl 5 rfl) ?_
    refine lv_iload hx hb dL_law_455 (lv_at hl 2 rfl) ?_
    refine lv_iload hx hb dL_law_457 (lv_at hl 0 rfl) ?_
    refine z_irem hx hb (by omega) (by omega) (by omega) dL_law_459 ?_
    refine z_callV (As := [.int (nI (z % (vn d)))]) (rest := [.ref x]) hF hK (c_X4_inOrder l D y x (x + 70) d ca pa pk k 0 tf (nI (z % (vn d))) (hJ.1.1) (hk4) (by decide)) (cwV 1 hts gL_law_X4_inOrder rfl rfl rfl (by decide +kernel) ⟨Nat.le_of_ble_eq_true rfl, Nat.le_of_ble_eq_true rfl⟩) (xO.recv hK hO) hR rfl hl.1 rfl (Nat.le_of_ble_eq_true rfl) dL_law_460 ⟨by show _ ≤ 600000; omega, by show _ ≤ 7302250; omega⟩ ?_
    obtain ⟨p9, hp9, h49, e9⟩ := ord_ex (d := d) hv24 (Nat.mod_lt z (show 0 < vn d by omega))
    have hup := us_pos hJ.1.1.1 hJ.1.1.2.2.1 hJ.1.2.1.1 hp9
    refine z_topi (z := (nI p9)) (e9) ?_
    refine w_callV (As := [.int (nI p9)]) (rest := []) hF hK (c_X4_withdraw_ok l D y x (x + 70) d ca pa pk T P k rot 0 ts tn tx p9 (hJ.1.1) (hk4) (Nat.le_refl _) (hp9) (h49)) (cwV 1 hts gL_law_X4_withdraw rfl rfl rfl (by decide +kernel) ⟨Nat.le_of_ble_eq_true rfl, Nat.le_of_ble_eq_true rfl⟩) (xO.recv hK hO) hO hS (fun q h => by rw [hxs]; exact xB_hi (by omega) h) rfl hl.1 rfl (Nat.le_of_ble_eq_true rfl) dL_law_463 ⟨by show _ ≤ 600000; omega, by show _ ≤ 7302250; omega⟩ (fun H1 locs1 hq hz1 hk hS => ?_)
    obtain ⟨hJ, a2⟩ := s_wdr hJ (by omega) hp9 h49
    have hO := xO.conv hq hJ.1.1.1 (fun i _ h9 _ => (u_ne h9).symm)
    have hbs := Nat.le_trans hbs hz1
    have hk4 := recN_le hk4
    clear hq hz1 hk
    refine lv_if_le (tgt := 485) hx hb dL_law_466 (by decide) (fun c466 => ?_) (fun c466 => ?_)
    · exact absurd c466 hup
    · refine lv_aload_n hx hb dL_law_469 rfl (lv_at hl 5 rfl) ?_
      refine lv_iconst (v := (nI 1)) hx hb dL_law_470 (by decide) ?_
      obtain ⟨tf, hR⟩ := hO.clR
      refine z_callV (As := [.int (nI 1)]) (rest := []) hF hK (c_X4_count l D y x (x + 70) (wdrD d p9) ca pa pk (recN k) 0 tf (nI 1) (hJ.1.1) (hk4) (by decide)) (cwV 1 hts gL_law_X4_count rfl rfl rfl (by decide +kernel) ⟨Nat.le_of_ble_eq_true rfl, Nat.le_of_ble_eq_true rfl⟩) (xO.recv hK hO) hR rfl hl.1 rfl (Nat.le_of_ble_eq_true rfl) dL_law_471 ⟨by show _ ≤ 600000; omega, by show _ ≤ 7302250; omega⟩ ?_
      refine z_topi (z := (nI (vn (wdrD d p9)))) (cnt_1) ?_
      refine lv_iload hx hb dL_law_474 (lv_at hl 0 rfl) ?_
      refine lv_iconst (v := (nI 1)) hx hb dL_law_476 (by decide) ?_
      refine z_isub hx hb (by omega) dL_law_477 ?_
      refine z_ne (tgt := 485) hx hb (by omega) (by omega) dL_law_478 (by decide) (fun c478 => ?_) (fun c478 => ?_)
      · exact absurd (by omega) c478
      · refine lv_iconst (v := (nI 1)) hx hb dL_law_481 (by decide) ?_
        refine lv_goto (tgt := 486) hx hb dL_law_482 (by decide) ?_
        refine lv_istore_n (lv' := [(2, .int (nI 1)), (10, .int (nI (vn d))), (6, .int (nI 0)), (5, .int (nI z)), (3, .int (nI u)), (1, .ref x), (0, .ref b)]) hx hb dL_law_486 rfl hl (by decide) rfl (fun ls hl => ?_)
        refine lv_goto (tgt := 716) hx hb dL_law_487 (by decide) ?_
        refine W.widen (k := 78 + (u + 1)) (n := 5330 + 7 * (u + 1)) (by omega) (by omega) ?_
        exact ih _ _ _ ⟨_, _, _, _, _, _, _, _, _, _, _, hJ.mono (by omega) (by omega), hk4, hO, hbs, hS⟩ (lv_sub hl [4, 0, 5, 6] rfl)
