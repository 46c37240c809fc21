/-! THE LAW: a step, 5 -/
set_option maxRecDepth 100000 in
set_option maxHeartbeats 4000000 in
theorem L_c5 {p : Program} {l : Launch} {e : Env} {s : State} {m : MethodId} {below : List Frame} {meth : Method} {c : Code} {b L x : Nat} {xs : Nat → Int32} {D : va_G} {y : zY} (hC : lwX p s m meth c b L x xs D y) {u z : Nat} (hu : u < 32) (hz : z < 268435456) {H : Heap} {locs : List Loc} {ls : Array Slot} (hI0 : lI D y x s u u 4 H locs) (hl : lv_has ls 18 [(6, .int (nI 0)), (5, .int (nI z)), (3, .int (nI u)), (2, .int (nI 1)), (1, .ref x), (0, .ref b)])
    (ih : ∀ (H' : Heap) (locs' : List Loc) (ls' : Array Slot), lI D y x s (u + 1) (u + 1) 4 H' locs' → lv_has ls' 18 [(3, .int (nI u)), (2, .int (nI 1)), (1, .ref x), (0, .ref b)] → W p l e room_1 s m #[Value.ref b] below meth c H' locs' (78 + (u + 1)) (5330 + 7 * (u + 1)) (lw_Z below #[Value.ref b] s) (F0 m 716 ls' [])) : W p l e room_1 s m #[Value.ref b] below meth c H locs (78 + u) (5330 + 7 * u) (lw_Z below #[Value.ref b] s) (F0 m 534 ls []) := by
  obtain ⟨hx, hb, hret, hlocks, hF, hK, hXX, hbl, hL, hxs, -⟩ := id hC
  have hts := hF.2.2.2.2
  have hown : s.vm.findClass RL = some m.cls := hF.2.2.2.1
  obtain ⟨d, ca, pa, pk, T, P, k, rot, ts, tn, tx, hJ, hk4, hO, hbs, hS⟩ := hI0
  have hv24 := hJ.1.1.2.1
  have hG2 := hJ.1.1.1.ng2
  refine lv_iload hx hb dL_law_534 (lv_at hl 1 rfl) ?_
  refine lv_iconst (v := (nI 4)) hx hb dL_law_536 (by decide) ?_
  refine z_idiv hx hb (by omega) (by omega) (by omega) dL_law_537 ?_
  refine lv_bipush (v := (nI 10)) hx hb dL_law_538 (by decide) ?_
  refine z_irem hx hb (by omega) (by omega) (by omega) dL_law_540 ?_
  obtain ⟨f, ef, hf10⟩ : ∃ f, z / 4 % 10 = f ∧ f < 10 := ⟨_, rfl, by omega⟩
  refine z_topi (z := (nI f)) (by rw [ef]) ?_
  refine lv_istore (lv' := [(12, .int (nI f)), (6, .int (nI 0)), (5, .int (nI z)), (3, .int (nI u)), (2, .int (nI 1)), (1, .ref x), (0, .ref b)]) hx hb dL_law_541 hl (by decide) rfl (fun ls hl => ?_)
  refine lv_bipush (v := (nI 10)) hx hb dL_law_543 (by decide) ?_
  refine lv_iload hx hb dL_law_545 (lv_at hl 0 rfl) ?_
  refine z_imul hx hb dL_law_547 ?_
  refine lv_iload hx hb dL_law_548 (lv_at hl 0 rfl) ?_
  refine z_iadd hx hb dL_law_550 ?_
  refine lv_iload hx hb dL_law_551 (lv_at hl 2 rfl) ?_
  refine lv_bipush (v := (nI 64)) hx hb dL_law_553 (by decide) ?_
  refine z_idiv hx hb (by omega) (by omega) (by omega) dL_law_555 ?_
  refine lv_bipush (v := (nI 10)) hx hb dL_law_556 (by decide) ?_
  refine lv_iload hx hb dL_law_558 (lv_at hl 0 rfl) ?_
  refine z_isub hx hb (by omega) dL_law_560 ?_
  refine z_irem hx hb (by omega) (by omega) (by omega) dL_law_561 ?_
  refine z_iadd hx hb dL_law_562 ?_
  obtain ⟨h9, eh, hq1, hq2, hq3⟩ : ∃ h9, 10 * f + f + z / 64 % (10 - f) = h9 ∧ h9 < 100 ∧ h9 / 10 = f ∧ f ≤ h9 % 10 := by
    have h0 := Nat.mod_lt (z / 64) (show 0 < 10 - f by omega)
    exact ⟨_, rfl, by omega, by omega, by omega⟩
  refine z_topi (z := (nI h9)) (by rw [eh]) ?_
  refine lv_istore (lv' := [(13, .int (nI h9)), (12, .int (nI f)), (6, .int (nI 0)), (5, .int (nI z)), (3, .int (nI u)), (2, .int (nI 1)), (1, .ref x), (0, .ref b)]) hx hb dL_law_563 hl (by decide) rfl (fun ls hl => ?_)
  refine lv_iconst (v := (nI 1)) hx hb dL_law_565 (by decide) ?_
  refine lv_iload hx hb dL_law_566 (lv_at hl 3 rfl) ?_
  refine lv_sipush (v := (nI 1024)) hx hb dL_law_568 (by decide) ?_
  refine z_idiv hx hb (by omega) (by omega) (by omega) dL_law_571 ?_
  refine lv_sipush (v := (nI 255)) hx hb dL_law_572 (by decide) ?_
  refine z_irem hx hb (by omega) (by omega) (by omega) dL_law_575 ?_
  refine z_iadd hx hb dL_law_576 ?_
  obtain ⟨w9, ew, hw1, hw2⟩ : ∃ w9, 1 + z / 1024 % 255 = w9 ∧ 1 ≤ w9 ∧ w9 ≤ 255 := ⟨_, rfl, by omega, by omega⟩
  refine z_topi (z := (nI w9)) (by rw [ew]) ?_
  refine lv_istore (lv' := [(14, .int (nI w9)), (13, .int (nI h9)), (12, .int (nI f)), (6, .int (nI 0)), (5, .int (nI z)), (3, .int (nI u)), (2, .int (nI 1)), (1, .ref x), (0, .ref b)]) hx hb dL_law_577 hl (by decide) rfl (fun ls hl => ?_)
  refine lv_iload hx hb dL_law_579 (lv_at hl 4 rfl) ?_
  refine lv_ldc (v := 262144) hx hb hown (hts (.constant RL 78 (262144)) (List.mem_of_getElem? (i := 4) rfl)) dL_law_581 ?_
  refine z_topi (z := nI 262144) rfl ?_
  refine z_idiv hx hb (by omega) (by omega) (by omega) dL_law_583 ?_
  refine lv_iconst (v := (nI 4)) hx hb dL_law_584 (by decide) ?_
  refine z_irem hx hb (by omega) (by omega) (by omega) dL_law_585 ?_
  obtain ⟨m9, em, hm4⟩ : ∃ m9, z / 262144 % 4 = m9 ∧ m9 < 4 := ⟨_, rfl, by omega⟩
  have hm9 : m9 < 30 := by omega
  have hpn := pl_y hm9 hq1 (show h9 / 10 ≤ h9 % 10 by omega) hw1 hw2
  have hz4 : z % 4 < nC d := by rw [hJ.2.2.2.2]; omega
  have hap := apl_y (inB_c hJ.1.1.1 hz4) hpn
  refine z_topi (z := (nI m9)) (by rw [em]) ?_
  refine lv_istore (lv' := [(15, .int (nI m9)), (14, .int (nI w9)), (13, .int (nI h9)), (12, .int (nI f)), (6, .int (nI 0)), (5, .int (nI z)), (3, .int (nI u)), (2, .int (nI 1)), (1, .ref x), (0, .ref b)]) hx hb dL_law_586 hl (by decide) rfl (fun ls hl => ?_)
  refine lv_aload_n hx hb dL_law_588 rfl (lv_at hl 8 rfl) ?_
  refine lv_iload hx hb dL_law_589 (lv_at hl 5 rfl) ?_
  refine lv_iconst (v := (nI 4)) hx hb dL_law_591 (by decide) ?_
  refine z_irem hx hb (by omega) (by omega) (by omega) dL_law_592 ?_
  refine lv_iload hx hb dL_law_593 (lv_at hl 0 rfl) ?_
  refine lv_iload hx hb dL_law_595 (lv_at hl 2 rfl) ?_
  refine lv_iload hx hb dL_law_597 (lv_at hl 1 rfl) ?_
  obtain ⟨tf, hR⟩ := hO.clR
  refine z_callV (As := [.int (nI (z % 4)), .int (nI m9), .int (nI h9), .int (nI w9)]) (rest := []) hF hK (c_X4_refusal l D y x (x + 70) d ca pa pk k 0 tf (nI (z % 4)) (nI m9) (nI h9) (nI w9) (hJ.1.1) (hk4) (by decide)) (cwV 4 hts gL_law_X4_refusal rfl rfl rfl (by decide +kernel) ⟨Nat.le_of_ble_eq_true rfl, Nat.le_of_ble_eq_true rfl⟩) (xO.recv hK hO) hR rfl hl.1 rfl (Nat.le_of_ble_eq_true rfl) dL_law_599 ⟨by show _ ≤ 600000; omega, by show _ ≤ 7302250; omega⟩ ?_
  refine z_topi (z := (rfsI d (z % 4) m9 (nI h9) (nI w9))) (aRf hap (by omega) (by omega)) ?_
  refine lv_istore (lv' := [(16, .int (rfsI d (z % 4) m9 (nI h9) (nI w9))), (15, .int (nI m9)), (14, .int (nI w9)), (13, .int (nI h9)), (12, .int (nI f)), (6, .int (nI 0)), (5, .int (nI z)), (3, .int (nI u)), (2, .int (nI 1)), (1, .ref x), (0, .ref b)]) hx hb dL_law_602 hl (by decide) rfl (fun ls hl => ?_)
  rcases three (rfsI d (z % 4) m9 (nI h9) (nI w9)) (romB d) with ⟨hr0, hrm⟩ | ⟨hr0, hrm⟩ | hr0
  · refine lv_aload_n hx hb dL_law_604 rfl (lv_at hl 9 rfl) ?_
    refine lv_iload hx hb dL_law_605 (lv_at hl 6 rfl) ?_
    refine lv_iconst (v := (nI 4)) hx hb dL_law_607 (by decide) ?_
    refine z_irem hx hb (by omega) (by omega) (by omega) dL_law_608 ?_
    refine lv_iload hx hb dL_law_609 (lv_at hl 1 rfl) ?_
    refine lv_iload hx hb dL_law_611 (lv_at hl 3 rfl) ?_
    refine lv_iload hx hb dL_law_613 (lv_at hl 2 rfl) ?_
    refine w_callV (As := [.int (nI (z % 4)), .int (nI m9), .int (nI h9), .int (nI w9)]) (rest := []) hF hK (c_X4_apply_ok l D y x (x + 70) d ca pa pk T P k rot 0 ts tn tx (z % 4) m9 (nI h9) (nI w9) (hJ.1.1) (hk4) (Nat.le_refl _) (by rw [hJ.2.2.2.2]; omega) (hpn) (hm9) (hr0) (hrm)) (cwV 4 hts gL_law_X4_apply rfl rfl rfl (by decide +kernel) ⟨Nat.le_of_ble_eq_true rfl, Nat.le_of_ble_eq_true rfl⟩) (xO.recv hK hO) ⟨hO, hbs⟩ hS (fun q h => by rw [hxs]; exact xB_hi (by omega) h) rfl hl.1 rfl (Nat.le_of_ble_eq_true rfl) dL_law_615 ⟨by show _ ≤ 600000; omega, by show _ ≤ 7302250; omega⟩ (fun H1 locs1 hq hz1 hk hS => ?_)
    obtain ⟨q9, hq⟩ := hq
    have hG9 := hJ.2.2.2.1
    obtain ⟨hJ, a2, a3⟩ := s_gra hJ (by omega) (i := z % 4) (m := m9) (hh := nI h9) (sw := nI w9) (by omega) hm9 hpn hrm hr0
    have hO := xO.conv hq hJ.1.1.1 (fun i _ _ _ => rfl)
    have hbs := Nat.le_trans hbs hz1
    have hk4 := recN_le hk4
    clear hq hz1 hk
    refine lv_istore (lv' := [(17, .int (nI (nG d))), (16, .int (rfsI d (z % 4) m9 (nI h9) (nI w9))), (15, .int (nI m9)), (14, .int (nI w9)), (13, .int (nI h9)), (12, .int (nI f)), (6, .int (nI 0)), (5, .int (nI z)), (3, .int (nI u)), (2, .int (nI 1)), (1, .ref x), (0, .ref b)]) hx hb dL_law_618 hl (by decide) rfl (fun ls hl => ?_)
    refine lv_iload hx hb dL_law_620 (lv_at hl 1 rfl) ?_
    refine lv_if_le (tgt := 641) hx hb dL_law_622 (by decide) (fun c622 => ?_) (fun c622 => ?_)
    · refine lv_iload hx hb dL_law_641 (lv_at hl 0 rfl) ?_
      refine lv_sipush (v := (-1003)) hx hb dL_law_643 (by decide) ?_
      refine lv_icmp_ne (tgt := 667) hx hb dL_law_646 (by decide) (fun c646 => ?_) (fun c646 => ?_)
      · refine lv_iload hx hb dL_law_667 (lv_at hl 0 rfl) ?_
        refine lv_aload_n hx hb dL_law_669 rfl (lv_at hl 10 rfl) ?_
        refine lv_iconst (v := (nI 2)) hx hb dL_law_670 (by decide) ?_
        obtain ⟨tf, hR⟩ := hO.clR
        refine z_callV (As := [.int (nI 2)]) (rest := [.int (nI (nG d))]) hF hK (c_X4_count l D y x (x + 70) (graD d (z % 4) m9 (nI h9) (nI w9)) ca (va_up pa (nG d) q9) (va_up pk (nG d) (ca (z % 4))) (recN k) 0 tf (nI 2) (hJ.1.1) (hk4) (by decide)) (cwV 1 hts gL_law_X4_count rfl rfl rfl (by decide +kernel) ⟨Nat.le_of_ble_eq_true rfl, Nat.le_of_ble_eq_true rfl⟩) (xO.recv hK hO) hR rfl hl.1 rfl (Nat.le_of_ble_eq_true rfl) dL_law_671 ⟨by show _ ≤ 600000; omega, by show _ ≤ 7302250; omega⟩ ?_
        refine z_topi (z := (nI (nG d + 1))) ((cnt_G hJ.1.1.1).trans (by rw [a2])) ?_
        refine lv_iconst (v := (nI 1)) hx hb dL_law_674 (by decide) ?_
        refine z_isub hx hb (by omega) dL_law_675 ?_
        refine z_ne (tgt := 714) hx hb (by omega) (by omega) dL_law_676 (by decide) (fun c676 => ?_) (fun c676 => ?_)
        · exact absurd (by omega) c676
        · refine lv_aload_n hx hb dL_law_679 rfl (lv_at hl 10 rfl) ?_
          refine lv_iload hx hb dL_law_680 (lv_at hl 7 rfl) ?_
          refine lv_iconst (v := (nI 4)) hx hb dL_law_682 (by decide) ?_
          refine z_irem hx hb (by omega) (by omega) (by omega) dL_law_683 ?_
          refine lv_iload hx hb dL_law_684 (lv_at hl 2 rfl) ?_
          refine lv_iload hx hb dL_law_686 (lv_at hl 4 rfl) ?_
          refine lv_sipush (v := (nI 255)) hx hb dL_law_688 (by decide) ?_
          refine z_callV (As := [.int (nI (z % 4)), .int (nI m9), .int (nI h9), .int (nI 255)]) (rest := []) hF hK (c_X4_inTheWay l D y x (x + 70) (graD d (z % 4) m9 (nI h9) (nI w9)) ca (va_up pa (nG d) q9) (va_up pk (nG d) (ca (z % 4))) (recN k) 0 tf (nI (z % 4)) (nI m9) (nI h9) (nI 255) (hJ.1.1) (hk4) (by decide)) (cwV 4 hts gL_law_X4_inTheWay rfl rfl rfl (by decide +kernel) ⟨Nat.le_of_ble_eq_true rfl, Nat.le_of_ble_eq_true rfl⟩) (xO.recv hK hO) hR rfl hl.1 rfl (Nat.le_of_ble_eq_true rfl) dL_law_691 ⟨by show _ ≤ 600000; omega, by show _ ≤ 7302250; omega⟩ ?_
          refine lv_iload hx hb dL_law_694 (lv_at hl 0 rfl) ?_
          refine lv_icmp_eq (tgt := 714) hx hb dL_law_696 (by decide) (fun c696 => ?_) (fun c696 => ?_)
          · exact absurd c696 (itw_ne hJ.1.1.1 (by rw [a2]; omega) a3 (apl_y (inB_c hJ.1.1.1 (by rw [hJ.2.2.2.2]; omega)) (pl_y hm9 hq1 (by omega) (by decide) (by decide))) (by omega))
          · refine lv_aload_n hx hb dL_law_699 rfl (lv_at hl 10 rfl) ?_
            refine lv_bipush (v := (nI 6)) hx hb dL_law_700 (by decide) ?_
            refine z_callV (As := [.int (nI 6)]) (rest := []) hF hK (c_X4_count l D y x (x + 70) (graD d (z % 4) m9 (nI h9) (nI w9)) ca (va_up pa (nG d) q9) (va_up pk (nG d) (ca (z % 4))) (recN k) 0 tf (nI 6) (hJ.1.1) (hk4) (by decide)) (cwV 1 hts gL_law_X4_count rfl rfl rfl (by decide +kernel) ⟨Nat.le_of_ble_eq_true rfl, Nat.le_of_ble_eq_true rfl⟩) (xO.recv hK hO) hR rfl hl.1 rfl (Nat.le_of_ble_eq_true rfl) dL_law_702 ⟨by show _ ≤ 600000; omega, by show _ ≤ 7302250; omega⟩ ?_
            refine z_topi (z := (nI 0)) (cnt_c6.trans hJ.2.1.2.1.tog) ?_
            refine lv_iload hx hb dL_law_705 (lv_at hl 6 rfl) ?_
            refine z_ne (tgt := 714) hx hb (by omega) (by omega) dL_law_707 (by decide) (fun c707 => ?_) (fun c707 => ?_)
            · exact absurd rfl c707
            · refine lv_iconst (v := (nI 1)) hx hb dL_law_710 (by decide) ?_
              refine lv_goto (tgt := 715) hx hb dL_law_711 (by decide) ?_
              refine lv_istore_n (lv' := [(2, .int (nI 1)), (17, .int (nI (nG d))), (16, .int (rfsI d (z % 4) m9 (nI h9) (nI w9))), (15, .int (nI m9)), (14, .int (nI w9)), (13, .int (nI h9)), (12, .int (nI f)), (6, .int (nI 0)), (5, .int (nI z)), (3, .int (nI u)), (1, .ref x), (0, .ref b)]) hx hb dL_law_715 rfl hl (by decide) rfl (fun ls hl => ?_)
              refine W.widen (k := 78 + (u + 1)) (n := 5330 + 7 * (u + 1)) (by omega) (by omega) ?_
              exact ih _ _ _ ⟨_, _, _, _, _, _, _, _, _, _, _, hJ.mono (by omega) (by omega), hk4, hO, hbs, hS⟩ (lv_sub hl [9, 0, 10, 11] rfl)
      · exact absurd c646 (nI_m3 (by omega))
    · exact absurd (by rw [hr0]; decide) c622
  · refine lv_aload_n hx hb dL_law_604 rfl (lv_at hl 9 rfl) ?_
    refine lv_iload hx hb dL_law_605 (lv_at hl 6 rfl) ?_
    refine lv_iconst (v := (nI 4)) hx hb dL_law_607 (by decide) ?_
    refine z_irem hx hb (by omega) (by omega) (by omega) dL_law_608 ?_
    refine lv_iload hx hb dL_law_609 (lv_at hl 1 rfl) ?_
    refine lv_iload hx hb dL_law_611 (lv_at hl 3 rfl) ?_
    refine lv_iload hx hb dL_law_613 (lv_at hl 2 rfl) ?_
    refine z_callV (As := [.int (nI (z % 4)), .int (nI m9), .int (nI h9), .int (nI w9)]) (rest := []) hF hK (c_X4_apply_no l D y x (x + 70) d ca pa pk k 0 tf (nI (z % 4)) (nI m9) (nI h9) (nI w9) (hJ.1.1) (hk4) (by decide) (ap_no (by omega) (by omega) (Or.inr hrm))) (cwV 4 hts gL_law_X4_apply rfl rfl rfl (by decide +kernel) ⟨Nat.le_of_ble_eq_true rfl, Nat.le_of_ble_eq_true rfl⟩) (xO.recv hK hO) hR rfl hl.1 rfl (Nat.le_of_ble_eq_true rfl) dL_law_615 ⟨by show _ ≤ 600000; omega, by show _ ≤ 7302250; omega⟩ ?_
    refine z_topi (z := (-1003)) (ap_full hap (by omega) (by omega) hr0) ?_
    refine lv_istore (lv' := [(17, .int (-1003)), (16, .int (rfsI d (z % 4) m9 (nI h9) (nI w9))), (15, .int (nI m9)), (14, .int (nI w9)), (13, .int (nI h9)), (12, .int (nI f)), (6, .int (nI 0)), (5, .int (nI z)), (3, .int (nI u)), (2, .int (nI 1)), (1, .ref x), (0, .ref b)]) hx hb dL_law_618 hl (by decide) rfl (fun ls hl => ?_)
    refine lv_iload hx hb dL_law_620 (lv_at hl 1 rfl) ?_
    refine lv_if_le (tgt := 641) hx hb dL_law_622 (by decide) (fun c622 => ?_) (fun c622 => ?_)
    · refine lv_iload hx hb dL_law_641 (lv_at hl 0 rfl) ?_
      refine lv_sipush (v := (-1003)) hx hb dL_law_643 (by decide) ?_
      refine lv_icmp_ne (tgt := 667) hx hb dL_law_646 (by decide) (fun c646 => ?_) (fun c646 => ?_)
      · exact absurd rfl c646
      · refine lv_aload_n hx hb dL_law_649 rfl (lv_at hl 10 rfl) ?_
        refine lv_iconst (v := (nI 1)) hx hb dL_law_650 (by decide) ?_
        refine z_callV (As := [.int (nI 1)]) (rest := []) hF hK (c_X4_count l D y x (x + 70) d ca pa pk k 0 tf (nI 1) (hJ.1.1) (hk4) (by decide)) (cwV 1 hts gL_law_X4_count rfl rfl rfl (by decide +kernel) ⟨Nat.le_of_ble_eq_true rfl, Nat.le_of_ble_eq_true rfl⟩) (xO.recv hK hO) hR rfl hl.1 rfl (Nat.le_of_ble_eq_true rfl) dL_law_651 ⟨by show _ ≤ 600000; omega, by show _ ≤ 7302250; omega⟩ ?_
        refine z_topi (z := (nI (vn d))) (cnt_1) ?_
        refine lv_bipush (v := (nI 24)) hx hb dL_law_654 (by decide) ?_
        refine z_ne (tgt := 663) hx hb (by omega) (by omega) dL_law_656 (by decide) (fun c656 => ?_) (fun c656 => ?_)
        · exact absurd (rom_24 hJ (by omega) hrm) c656
        · refine lv_iconst (v := (nI 1)) hx hb dL_law_659 (by decide) ?_
          refine lv_goto (tgt := 715) hx hb dL_law_660 (by decide) ?_
          refine lv_istore_n (lv' := [(2, .int (nI 1)), (17, .int (-1003)), (16, .int (rfsI d (z % 4) m9 (nI h9) (nI w9))), (15, .int (nI m9)), (14, .int (nI w9)), (13, .int (nI h9)), (12, .int (nI f)), (6, .int (nI 0)), (5, .int (nI z)), (3, .int (nI u)), (1, .ref x), (0, .ref b)]) hx hb dL_law_715 rfl hl (by decide) rfl (fun ls hl => ?_)
          refine W.widen (k := 78 + (u + 1)) (n := 5330 + 7 * (u + 1)) (by omega) (by omega) ?_
          exact ih _ _ _ ⟨_, _, _, _, _, _, _, _, _, _, _, hJ.mono (by omega) (by omega), hk4, hO, hbs, hS⟩ (lv_sub hl [9, 0, 10, 11] rfl)
    · exact absurd (by rw [hr0]; decide) c622
  · refine lv_aload_n hx hb dL_law_604 rfl (lv_at hl 9 rfl) ?_
    refine lv_iload hx hb dL_law_605 (lv_at hl 6 rfl) ?_
    refine lv_iconst (v := (nI 4)) hx hb dL_law_607 (by decide) ?_
    refine z_irem hx hb (by omega) (by omega) (by omega) dL_law_608 ?_
    refine lv_iload hx hb dL_law_609 (lv_at hl 1 rfl) ?_
    refine lv_iload hx hb dL_law_611 (lv_at hl 3 rfl) ?_
    refine lv_iload hx hb dL_law_613 (lv_at hl 2 rfl) ?_
    refine z_callV (As := [.int (nI (z % 4)), .int (nI m9), .int (nI h9), .int (nI w9)]) (rest := []) hF hK (c_X4_apply_no l D y x (x + 70) d ca pa pk k 0 tf (nI (z % 4)) (nI m9) (nI h9) (nI w9) (hJ.1.1) (hk4) (by decide) (ap_no (by omega) (by omega) (Or.inl hr0))) (cwV 4 hts gL_law_X4_apply rfl rfl rfl (by decide +kernel) ⟨Nat.le_of_ble_eq_true rfl, Nat.le_of_ble_eq_true rfl⟩) (xO.recv hK hO) hR rfl hl.1 rfl (Nat.le_of_ble_eq_true rfl) dL_law_615 ⟨by show _ ≤ 600000; omega, by show _ ≤ 7302250; omega⟩ ?_
    refine z_topi (z := (-1002)) (ap_ref hap (by omega) (by omega) hr0) ?_
    refine lv_istore (lv' := [(17, .int (-1002)), (16, .int (rfsI d (z % 4) m9 (nI h9) (nI w9))), (15, .int (nI m9)), (14, .int (nI w9)), (13, .int (nI h9)), (12, .int (nI f)), (6, .int (nI 0)), (5, .int (nI z)), (3, .int (nI u)), (2, .int (nI 1)), (1, .ref x), (0, .ref b)]) hx hb dL_law_618 hl (by decide) rfl (fun ls hl => ?_)
    refine lv_iload hx hb dL_law_620 (lv_at hl 1 rfl) ?_
    refine lv_if_le (tgt := 641) hx hb dL_law_622 (by decide) (fun c622 => ?_) (fun c622 => ?_)
    · exact absurd (rfs_le c622) hr0
    · refine lv_iload hx hb dL_law_625 (lv_at hl 0 rfl) ?_
      refine lv_sipush (v := (-1002)) hx hb dL_law_627 (by decide) ?_
      refine lv_icmp_ne (tgt := 637) hx hb dL_law_630 (by decide) (fun c630 => ?_) (fun c630 => ?_)
      · exact absurd rfl c630
      · refine lv_iconst (v := (nI 1)) hx hb dL_law_633 (by decide) ?_
        refine lv_goto (tgt := 715) hx hb dL_law_634 (by decide) ?_
        refine lv_istore_n (lv' := [(2, .int (nI 1)), (17, .int (-1002)), (16, .int (rfsI d (z % 4) m9 (nI h9) (nI w9))), (15, .int (nI m9)), (14, .int (nI w9)), (13, .int (nI h9)), (12, .int (nI f)), (6, .int (nI 0)), (5, .int (nI z)), (3, .int (nI u)), (1, .ref x), (0, .ref b)]) hx hb dL_law_715 rfl hl (by decide) rfl (fun ls hl => ?_)
        refine W.widen (k := 78 + (u + 1)) (n := 5330 + 7 * (u + 1)) (by omega) (by omega) ?_
        exact ih _ _ _ ⟨_, _, _, _, _, _, _, _, _, _, _, hJ.mono (by omega) (by omega), hk4, hO, hbs, hS⟩ (lv_sub hl [9, 0, 10, 11] rfl)
