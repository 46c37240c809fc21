/-! THE LAW: a step, 4 -/
set_option maxRecDepth 100000 in
set_option maxHeartbeats 4000000 in
theorem L_c4 {p : Program} {l : Launch} {e : Env} {s : State} {m : MethodId} {below : List Frame} {meth : Method} {c : Code} {b L x : Nat} {xs : Nat → Int32} {D : va_G} {y : zY} (hC : lwX p s m meth c b L x xs D y) {u z : Nat} (hu : u < 32) (hz : z < 268435456) {H : Heap} {locs : List Loc} {ls : Array Slot} (hI0 : lI D y x s u u 4 H locs) (hl : lv_has ls 18 [(6, .int (nI 0)), (5, .int (nI z)), (3, .int (nI u)), (2, .int (nI 1)), (1, .ref x), (0, .ref b)])
    (ih : ∀ (H' : Heap) (locs' : List Loc) (ls' : Array Slot), lI D y x s (u + 1) (u + 1) 4 H' locs' → lv_has ls' 18 [(3, .int (nI u)), (2, .int (nI 1)), (1, .ref x), (0, .ref b)] → W p l e room_1 s m #[Value.ref b] below meth c H' locs' (78 + (u + 1)) (5330 + 7 * (u + 1)) (lw_Z below #[Value.ref b] s) (F0 m 716 ls' [])) : W p l e room_1 s m #[Value.ref b] below meth c H locs (78 + u) (5330 + 7 * u) (lw_Z below #[Value.ref b] s) (F0 m 490 ls []) := by
  obtain ⟨hx, hb, hret, hlocks, hF, hK, hXX, hbl, hL, hxs, -⟩ := id hC
  have hts := hF.2.2.2.2
  have hown : s.vm.findClass RL = some m.cls := hF.2.2.2.1
  obtain ⟨d, ca, pa, pk, T, P, k, rot, ts, tn, tx, hJ, hk4, hO, hbs, hS⟩ := hI0
  have hv24 := hJ.1.1.2.1
  have hG2 := hJ.1.1.1.ng2
  refine lv_aload_n hx hb dL_law_490 rfl (lv_at hl 4 rfl) ?_
  refine lv_iconst (v := (nI 4)) hx hb dL_law_491 (by decide) ?_
  obtain ⟨tf, hR⟩ := hO.clR
  refine z_callV (As := [.int (nI 4)]) (rest := []) hF hK (c_X4_count l D y x (x + 70) d ca pa pk k 0 tf (nI 4) (hJ.1.1) (hk4) (by decide)) (cwV 1 hts gL_law_X4_count rfl rfl rfl (by decide +kernel) ⟨Nat.le_of_ble_eq_true rfl, Nat.le_of_ble_eq_true rfl⟩) (xO.recv hK hO) hR rfl hl.1 rfl (Nat.le_of_ble_eq_true rfl) dL_law_492 ⟨by show _ ≤ 600000; omega, by show _ ≤ 7302250; omega⟩ ?_
  refine z_topi (z := (d 444)) (cnt_c4) ?_
  refine lv_istore (lv' := [(11, .int (d 444)), (6, .int (nI 0)), (5, .int (nI z)), (3, .int (nI u)), (2, .int (nI 1)), (1, .ref x), (0, .ref b)]) hx hb dL_law_495 hl (by decide) rfl (fun ls hl => ?_)
  refine lv_aload_n hx hb dL_law_497 rfl (lv_at hl 5 rfl) ?_
  refine lv_iload hx hb dL_law_498 (lv_at hl 2 rfl) ?_
  refine lv_iconst (v := (nI 4)) hx hb dL_law_500 (by decide) ?_
  refine z_irem hx hb (by omega) (by omega) (by omega) dL_law_501 ?_
  refine lv_iconst (v := (nI 1)) hx hb dL_law_502 (by decide) ?_
  refine lv_iload hx hb dL_law_503 (lv_at hl 2 rfl) ?_
  refine lv_iconst (v := (nI 4)) hx hb dL_law_505 (by decide) ?_
  refine z_idiv hx hb (by omega) (by omega) (by omega) dL_law_506 ?_
  refine lv_bipush (v := (nI 9)) hx hb dL_law_507 (by decide) ?_
  refine z_irem hx hb (by omega) (by omega) (by omega) dL_law_509 ?_
  refine z_iadd hx hb dL_law_510 ?_
  refine w_callV (As := [.int (nI (z % 4)), .int (nI (1 + ((z / 4) % 9)))]) (rest := []) hF hK (c_X4_noise_ok l D y x (x + 70) d ca pa pk T P k rot 0 ts tn tx (z % 4) (nI (1 + ((z / 4) % 9))) (hJ.1.1) (hk4) (Nat.le_refl _) (by rw [hJ.2.2.2.2]; omega) (inB_of (by omega) (by omega) (by decide))) (cwV 2 hts gL_law_X4_noise rfl rfl rfl (by decide +kernel) ⟨Nat.le_of_ble_eq_true rfl, Nat.le_of_ble_eq_true rfl⟩) (xO.recv hK hO) hO hS (fun q h => by rw [hxs]; exact xB_hi (by omega) h) rfl hl.1 rfl (Nat.le_of_ble_eq_true rfl) dL_law_511 ⟨by show _ ≤ 600000; omega, by show _ ≤ 7302250; omega⟩ (fun H1 locs1 hq hz1 hk hS => ?_)
  obtain ⟨a1, hJ, a3⟩ := s_noise hJ (by omega) (i := z % 4) (by omega) (v := nI (1 + z / 4 % 9)) (inB_of (by omega) (by omega) (by decide))
  have hO := xO.conv hq hJ.1.1.1 (fun i _ _ h => a1 i h)
  have hbs := Nat.le_trans hbs hz1
  have hk4 := recN_le hk4
  clear hq hz1 hk
  refine lv_aload_n hx hb dL_law_514 rfl (lv_at hl 5 rfl) ?_
  refine lv_iconst (v := (nI 4)) hx hb dL_law_515 (by decide) ?_
  obtain ⟨tf, hR⟩ := hO.clR
  refine z_callV (As := [.int (nI 4)]) (rest := [.int (wfC (upd d (4 + 6 * (z % 4) + 5) (nI (1 + ((z / 4) % 9)))) (vn (upd d (4 + 6 * (z % 4) + 5) (nI (1 + ((z / 4) % 9))))))]) hF hK (c_X4_count l D y x (x + 70) (saD (upd d (4 + 6 * (z % 4) + 5) (nI (1 + z / 4 % 9))) 120) ca pa pk (recN k) 0 tf (nI 4) (hJ.1.1) (hk4) (by decide)) (cwV 1 hts gL_law_X4_count rfl rfl rfl (by decide +kernel) ⟨Nat.le_of_ble_eq_true rfl, Nat.le_of_ble_eq_true rfl⟩) (xO.recv hK hO) hR rfl hl.1 rfl (Nat.le_of_ble_eq_true rfl) dL_law_516 ⟨by show _ ≤ 600000; omega, by show _ ≤ 7302250; omega⟩ ?_
  refine z_topi (z := (saD (upd d (4 + 6 * (z % 4) + 5) (nI (1 + z / 4 % 9))) 120 444)) (cnt_c4) ?_
  refine lv_iload hx hb dL_law_519 (lv_at hl 0 rfl) ?_
  refine lv_isub hx hb dL_law_521 ?_
  refine lv_icmp_ne (tgt := 529) hx hb dL_law_522 (by decide) (fun c522 => ?_) (fun c522 => ?_)
  · exact absurd a3.symm c522
  · refine lv_iconst (v := (nI 1)) hx hb dL_law_525 (by decide) ?_
    refine lv_goto (tgt := 530) hx hb dL_law_526 (by decide) ?_
    refine lv_istore_n (lv' := [(2, .int (nI 1)), (11, .int (d 444)), (6, .int (nI 0)), (5, .int (nI z)), (3, .int (nI u)), (1, .ref x), (0, .ref b)]) hx hb dL_law_530 rfl hl (by decide) rfl (fun ls hl => ?_)
    refine lv_goto (tgt := 716) hx hb dL_law_531 (by decide) ?_
    refine W.widen (k := 78 + (u + 1)) (n := 5330 + 7 * (u + 1)) (by omega) (by omega) ?_
    exact ih _ _ _ ⟨_, _, _, _, _, _, _, _, _, _, _, hJ.mono (by omega) (by omega), hk4, hO, hbs, hS⟩ (lv_sub hl [4, 0, 5, 6] rfl)
