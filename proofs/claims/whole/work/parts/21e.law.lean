/-! THE LAW: its cases, 5 -/
set_option maxRecDepth 100000 in
set_option maxHeartbeats 4000000 in
theorem L_apply {p : Program} {l : Launch} {e : Env} {s : State} {m : MethodId} {below : List Frame} {meth : Method} {c : Code} {b L x : Nat} {xs : Nat → Int32} {D : va_G} {y : zY} (hC : lwX p s m meth c b L x xs D y) {n : Nat} (hn : 7 * n + 7 ≤ L) {H : Heap} {locs : List Loc} {ls : Array Slot} (hI0 : lI D y x s n H locs) (hl : lv_has ls 4 [(3, .int (nI (7 * n))), (2, .ref (x + 70)), (1, .ref x), (0, .ref b)])
    (ih : ∀ (H' : Heap) (locs' : List Loc) (ls' : Array Slot), lI D y x s (n + 1) H' locs' → lv_has ls' 4 [(3, .int (nI (7 * n + 7))), (2, .ref (x + 70)), (1, .ref x), (0, .ref b)] → W p l e room_1 s m #[Value.ref b] below meth c H' locs' (76 + 16 * (n + 1)) (13938 + 112 * (n + 1)) (lw_Z below #[Value.ref b] s) (F0 m 18 ls' [])) : W p l e room_1 s m #[Value.ref b] below meth c H locs (76 + 16 * n) (13938 + 112 * n) (lw_Z below #[Value.ref b] s) (F0 m 665 ls []) := by
  obtain ⟨hx, hb, hret, hlocks, hF, hK, -, -, hL, hxs, -⟩ := id hC
  have hts := hF.2.2.2.2
  obtain ⟨d, was, tx, k, len, hJ, hCI, hMI, hbs, hS⟩ := hI0
  obtain ⟨ca, pa, pk, T, P, rot, ts, tn, hO, hH⟩ := id hCI
  obtain ⟨as, gt, pa9, rs, hM⟩ := id hMI
  have hn1 : n ≤ 511 := by omega
  have hJ1 := hJ.mono (Nat.le_succ n)
  obtain ⟨hZ, hk4, hl80, hW⟩ := id hJ
  have hr := hZ.1
  have hI := hr.1
  have hbd : x + 70 ≤ x + 76 := by omega
  obtain ⟨v1, hv1⟩ : ∃ v, xs (7 * n + 1) = v := ⟨_, rfl⟩
  obtain ⟨v2, hv2⟩ : ∃ v, xs (7 * n + 2) = v := ⟨_, rfl⟩
  obtain ⟨v3, hv3⟩ : ∃ v, xs (7 * n + 3) = v := ⟨_, rfl⟩
  obtain ⟨v4, hv4⟩ : ∃ v, xs (7 * n + 4) = v := ⟨_, rfl⟩
  refine lv_aload_n hx hb dL_law_665 rfl (lv_at hl 2 rfl) ?_
  refine lv_aload_n hx hb dL_law_666 rfl (lv_at hl 3 rfl) ?_
  refine lv_iload_n hx hb dL_law_667 rfl (lv_at hl 0 rfl) ?_
  refine lv_iconst (v := nI 1) hx hb dL_law_668 (by decide) ?_
  refine z_iadd hx hb dL_law_669 ?_
  refine s_ld hC hS (i := 7 * n + 1) (by omega) hv1 dL_law_670 ?_
  refine lv_aload_n hx hb dL_law_671 rfl (lv_at hl 3 rfl) ?_
  refine lv_iload_n hx hb dL_law_672 rfl (lv_at hl 0 rfl) ?_
  refine lv_iconst (v := nI 2) hx hb dL_law_673 (by decide) ?_
  refine z_iadd hx hb dL_law_674 ?_
  refine s_ld hC hS (i := 7 * n + 2) (by omega) hv2 dL_law_675 ?_
  refine lv_aload_n hx hb dL_law_676 rfl (lv_at hl 3 rfl) ?_
  refine lv_iload_n hx hb dL_law_677 rfl (lv_at hl 0 rfl) ?_
  refine lv_iconst (v := nI 3) hx hb dL_law_678 (by decide) ?_
  refine z_iadd hx hb dL_law_679 ?_
  refine s_ld hC hS (i := 7 * n + 3) (by omega) hv3 dL_law_680 ?_
  refine lv_aload_n hx hb dL_law_681 rfl (lv_at hl 3 rfl) ?_
  refine lv_iload_n hx hb dL_law_682 rfl (lv_at hl 0 rfl) ?_
  refine lv_iconst (v := nI 4) hx hb dL_law_683 (by decide) ?_
  refine z_iadd hx hb dL_law_684 ?_
  refine s_ld hC hS (i := 7 * n + 4) (by omega) hv4 dL_law_685 ?_
  by_cases hok : aplB d v1 v2 v3 v4 = true ∧ rfsI d (cl v1) (cl v2) v3 v4 = nI 0 ∧ romB d = true
  · have h8 := hI.nc8
    obtain ⟨⟨j, hj, rfl⟩, ⟨u, hu, rfl⟩⟩ := apl_nat hI hok.1
    have hpn := (apl_2 hok.1).2
    have hr0 := hok.2.1
    rw [cl_nI (by omega), cl_nI (by omega)] at hr0
    have hful : fulB d = false := by have := rom_ful hr; rw [hok.2.2] at this; simpa using this.symm
    refine w_callV (As := [.int (nI j), .int (nI u), .int v3, .int v4]) (rest := []) hF hK (c_X4_apply_ok l D y x (x + 76) d ca pa pk T P k rot len ts tn tx j u v3 v4 (hr) (hk4) (hbd) (hj) (hpn) (by omega) (hr0) (hok.2.2)) (cwV 4 hts gL_law_X4_apply rfl rfl rfl (by decide +kernel) ⟨Nat.le_of_ble_eq_true rfl, Nat.le_of_ble_eq_true rfl⟩) (cI.recv hK hCI) ⟨hO, hbs⟩ hS (fun q h => by rw [hxs]; exact xB_hi (by omega) h) rfl hl.1 rfl (Nat.le_of_ble_eq_true rfl) dL_law_686 ⟨by show _ ≤ 600000; omega, by show _ ≤ 7302250; omega⟩ (fun H1 locsH1 hq hz1 hk hS => ?_)
    have hMI := hMI.keep hk (fun q h1 h2 => nB_m (by omega) h1 h2)
    have hbs := Nat.le_trans hbs hz1
    clear hO hCI hM
    obtain ⟨q9, hO⟩ := hq
    clear hz1 hk
    obtain ⟨as, gt, pa9, rs, hM⟩ := hMI
    refine lv_aload_n hx hb dL_law_689 rfl (lv_at hl 1 rfl) ?_
    refine lv_aload_n hx hb dL_law_690 rfl (lv_at hl 3 rfl) ?_
    refine lv_iload_n hx hb dL_law_691 rfl (lv_at hl 0 rfl) ?_
    refine lv_iconst (v := nI 1) hx hb dL_law_692 (by decide) ?_
    refine z_iadd hx hb dL_law_693 ?_
    refine s_ld hC hS (i := 7 * n + 1) (by omega) hv1 dL_law_694 ?_
    refine lv_aload_n hx hb dL_law_695 rfl (lv_at hl 3 rfl) ?_
    refine lv_iload_n hx hb dL_law_696 rfl (lv_at hl 0 rfl) ?_
    refine lv_iconst (v := nI 2) hx hb dL_law_697 (by decide) ?_
    refine z_iadd hx hb dL_law_698 ?_
    refine s_ld hC hS (i := 7 * n + 2) (by omega) hv2 dL_law_699 ?_
    refine lv_aload_n hx hb dL_law_700 rfl (lv_at hl 3 rfl) ?_
    refine lv_iload_n hx hb dL_law_701 rfl (lv_at hl 0 rfl) ?_
    refine lv_iconst (v := nI 3) hx hb dL_law_702 (by decide) ?_
    refine z_iadd hx hb dL_law_703 ?_
    refine s_ld hC hS (i := 7 * n + 3) (by omega) hv3 dL_law_704 ?_
    refine lv_aload_n hx hb dL_law_705 rfl (lv_at hl 3 rfl) ?_
    refine lv_iload_n hx hb dL_law_706 rfl (lv_at hl 0 rfl) ?_
    refine lv_iconst (v := nI 4) hx hb dL_law_707 (by decide) ?_
    refine z_iadd hx hb dL_law_708 ?_
    refine s_ld hC hS (i := 7 * n + 4) (by omega) hv4 dL_law_709 ?_
    refine w_callV (As := [.int (nI j), .int (nI u), .int v3, .int v4]) (rest := [.int (nI (nG d))]) hF hK (c_X5_apply_ok l D y (x + 70) d was as tx gt k (nI len) pa9 rs j u v3 v4 (hI) (hk4) (hok.1) (hj) (by omega) (hr0) (hful) ((rom_2 hok.2.2).2)) (cwV 4 hts gL_law_X5_apply rfl rfl rfl (by decide +kernel) ⟨Nat.le_of_ble_eq_true rfl, Nat.le_of_ble_eq_true rfl⟩) (mI.recv hK (⟨as, gt, pa9, rs, hM⟩ : mI D y (x + 70) d was tx k len _)) hM hS (fun q h => by rw [hxs]; have h9 := h.1; omega) rfl hl.1 rfl (Nat.le_of_ble_eq_true rfl) dL_law_710 ⟨by show _ ≤ 600000; omega, by show _ ≤ 7302250; omega⟩ (fun H2 locsH2 hq hz1 hk hS => ?_)
    have hO := hO.keep hk (fun q h1 h2 => nblk (by omega)) (fun q h1 => nblk (by omega))
    have hbs := Nat.le_trans hbs hz1
    clear hM
    have hM := hq
    clear hz1 hk
    refine lv_icmp_eq (tgt := 1008) hx hb dL_law_713 (by decide) (fun _ => ?_) (fun q => absurd (show ((nI (nG d)) : Int32) = (nI (nG d)) from rfl) q)
    refine lv_iinc (v := nI (7 * n + 7)) (lv' := [(3, .int (nI (7 * n + 7))), (2, .ref (x + 70)), (1, .ref x), (0, .ref b)]) hx hb dL_law_1008 hl (k := 0) rfl (in7 _) (by decide) rfl (fun ls hl => ?_)
    refine lv_goto (tgt := 18) hx hb dL_law_1011 (by decide) ?_
    refine W.widen (k := 76 + 16 * (n + 1)) (n := 13938 + 112 * (n + 1)) (by omega) (by omega) ?_
    exact ih _ _ _ ⟨graD d j u v3 v4, recW d was k, tx, recN k, len, (hJ.rem (ch_gra hZ (by omega) hj (by omega) hpn hok.2.2 hr0)).mono (Nat.le_succ n), ⟨_, _, _, _, _, _, _, _, hO, hH.rem hk4 _ (fun i _ _ _ => rfl)⟩, ⟨_, _, _, _, hM⟩, hbs, hS⟩ (lv_sub hl [0, 1, 2, 3] rfl)
  · obtain ⟨tf, hR⟩ := hO.clR
    refine z_callV (As := [.int v1, .int v2, .int v3, .int v4]) (rest := []) hF hK (c_X4_apply_no l D y x (x + 76) d ca pa pk k len tf v1 v2 v3 v4 (hr) (hk4) (hl80) (hok)) (cwV 4 hts gL_law_X4_apply rfl rfl rfl (by decide +kernel) ⟨Nat.le_of_ble_eq_true rfl, Nat.le_of_ble_eq_true rfl⟩) (cI.recv hK hCI) hR rfl hl.1 rfl (Nat.le_of_ble_eq_true rfl) dL_law_686 ⟨by show _ ≤ 600000; omega, by show _ ≤ 7302250; omega⟩ ?_
    refine lv_aload_n hx hb dL_law_689 rfl (lv_at hl 1 rfl) ?_
    refine lv_aload_n hx hb dL_law_690 rfl (lv_at hl 3 rfl) ?_
    refine lv_iload_n hx hb dL_law_691 rfl (lv_at hl 0 rfl) ?_
    refine lv_iconst (v := nI 1) hx hb dL_law_692 (by decide) ?_
    refine z_iadd hx hb dL_law_693 ?_
    refine s_ld hC hS (i := 7 * n + 1) (by omega) hv1 dL_law_694 ?_
    refine lv_aload_n hx hb dL_law_695 rfl (lv_at hl 3 rfl) ?_
    refine lv_iload_n hx hb dL_law_696 rfl (lv_at hl 0 rfl) ?_
    refine lv_iconst (v := nI 2) hx hb dL_law_697 (by decide) ?_
    refine z_iadd hx hb dL_law_698 ?_
    refine s_ld hC hS (i := 7 * n + 2) (by omega) hv2 dL_law_699 ?_
    refine lv_aload_n hx hb dL_law_700 rfl (lv_at hl 3 rfl) ?_
    refine lv_iload_n hx hb dL_law_701 rfl (lv_at hl 0 rfl) ?_
    refine lv_iconst (v := nI 3) hx hb dL_law_702 (by decide) ?_
    refine z_iadd hx hb dL_law_703 ?_
    refine s_ld hC hS (i := 7 * n + 3) (by omega) hv3 dL_law_704 ?_
    refine lv_aload_n hx hb dL_law_705 rfl (lv_at hl 3 rfl) ?_
    refine lv_iload_n hx hb dL_law_706 rfl (lv_at hl 0 rfl) ?_
    refine lv_iconst (v := nI 4) hx hb dL_law_707 (by decide) ?_
    refine z_iadd hx hb dL_law_708 ?_
    refine s_ld hC hS (i := 7 * n + 4) (by omega) hv4 dL_law_709 ?_
    refine w_callV (As := [.int v1, .int v2, .int v3, .int v4]) (rest := [.int (eApply d v1 v2 v3 v4)]) hF hK (c_X5_apply_no l D y (x + 70) d was as tx gt k (nI len) pa9 rs v1 v2 v3 v4 (hI) (hk4) (fun q => hok ⟨q.1, q.2.1, by rw [rom_ful hr, q.2.2]; rfl⟩)) (cwV 4 hts gL_law_X5_apply rfl rfl rfl (by decide +kernel) ⟨Nat.le_of_ble_eq_true rfl, Nat.le_of_ble_eq_true rfl⟩) (mI.recv hK (⟨as, gt, pa9, rs, hM⟩ : mI D y (x + 70) d was tx k len _)) hM hS (fun q h => by rw [hxs]; have h9 := h.1; omega) rfl hl.1 rfl (Nat.le_of_ble_eq_true rfl) dL_law_710 ⟨by show _ ≤ 600000; omega, by show _ ≤ 7302250; omega⟩ (fun H2 locsH2 hq hz1 hk hS => ?_)
    have hO := hO.keep hk (fun q h1 h2 => nblk (by omega)) (fun q h1 => nblk (by omega))
    have hbs := Nat.le_trans hbs hz1
    clear hM
    have hM := hq
    clear hz1 hk
    refine lv_icmp_eq (tgt := 1008) hx hb dL_law_713 (by decide) (fun _ => ?_) (fun q => absurd (show ((eApply d v1 v2 v3 v4) : Int32) = (eApply d v1 v2 v3 v4) from rfl) q)
    refine lv_iinc (v := nI (7 * n + 7)) (lv' := [(3, .int (nI (7 * n + 7))), (2, .ref (x + 70)), (1, .ref x), (0, .ref b)]) hx hb dL_law_1008 hl (k := 0) rfl (in7 _) (by decide) rfl (fun ls hl => ?_)
    refine lv_goto (tgt := 18) hx hb dL_law_1011 (by decide) ?_
    refine W.widen (k := 76 + 16 * (n + 1)) (n := 13938 + 112 * (n + 1)) (by omega) (by omega) ?_
    exact ih _ _ _ ⟨d, was, tx, k, len, hJ1, ⟨_, _, _, _, _, _, _, _, hO, hH⟩, ⟨_, _, _, _, hM⟩, hbs, hS⟩ (lv_sub hl [0, 1, 2, 3] rfl)
set_option maxRecDepth 100000 in
set_option maxHeartbeats 4000000 in
theorem L_withdraw {p : Program} {l : Launch} {e : Env} {s : State} {m : MethodId} {below : List Frame} {meth : Method} {c : Code} {b L x : Nat} {xs : Nat → Int32} {D : va_G} {y : zY} (hC : lwX p s m meth c b L x xs D y) {n : Nat} (hn : 7 * n + 7 ≤ L) {H : Heap} {locs : List Loc} {ls : Array Slot} (hI0 : lI D y x s n H locs) (hl : lv_has ls 4 [(3, .int (nI (7 * n))), (2, .ref (x + 70)), (1, .ref x), (0, .ref b)])
    (ih : ∀ (H' : Heap) (locs' : List Loc) (ls' : Array Slot), lI D y x s (n + 1) H' locs' → lv_has ls' 4 [(3, .int (nI (7 * n + 7))), (2, .ref (x + 70)), (1, .ref x), (0, .ref b)] → W p l e room_1 s m #[Value.ref b] below meth c H' locs' (76 + 16 * (n + 1)) (13938 + 112 * (n + 1)) (lw_Z below #[Value.ref b] s) (F0 m 18 ls' [])) : W p l e room_1 s m #[Value.ref b] below meth c H locs (76 + 16 * n) (13938 + 112 * n) (lw_Z below #[Value.ref b] s) (F0 m 718 ls []) := by
  obtain ⟨hx, hb, hret, hlocks, hF, hK, -, -, hL, hxs, -⟩ := id hC
  have hts := hF.2.2.2.2
  obtain ⟨d, was, tx, k, len, hJ, hCI, hMI, hbs, hS⟩ := hI0
  obtain ⟨ca, pa, pk, T, P, rot, ts, tn, hO, hH⟩ := id hCI
  obtain ⟨as, gt, pa9, rs, hM⟩ := id hMI
  have hn1 : n ≤ 511 := by omega
  have hJ1 := hJ.mono (Nat.le_succ n)
  obtain ⟨hZ, hk4, hl80, hW⟩ := id hJ
  have hr := hZ.1
  have hI := hr.1
  have hbd : x + 70 ≤ x + 76 := by omega
  obtain ⟨v1, hv1⟩ : ∃ v, xs (7 * n + 1) = v := ⟨_, rfl⟩
  refine lv_aload_n hx hb dL_law_718 rfl (lv_at hl 2 rfl) ?_
  refine lv_aload_n hx hb dL_law_719 rfl (lv_at hl 3 rfl) ?_
  refine lv_iload_n hx hb dL_law_720 rfl (lv_at hl 0 rfl) ?_
  refine lv_iconst (v := nI 1) hx hb dL_law_721 (by decide) ?_
  refine z_iadd hx hb dL_law_722 ?_
  refine s_ld hC hS (i := 7 * n + 1) (by omega) hv1 dL_law_723 ?_
  by_cases hok : inB v1 (nI 0) (d 442 - nI 1) = true ∧ pm d (cl v1) 4 = nI 1
  · have hG2 := hI.ng2
    obtain ⟨j, hj, rfl⟩ := in_ng hI hok.1
    have h4 := hok.2
    rw [cl_nI (by omega)] at h4
    refine w_callV (As := [.int (nI j)]) (rest := []) hF hK (c_X4_withdraw_ok l D y x (x + 76) d ca pa pk T P k rot len ts tn tx j (hr) (hk4) (hbd) (hj) (h4)) (cwV 1 hts gL_law_X4_withdraw rfl rfl rfl (by decide +kernel) ⟨Nat.le_of_ble_eq_true rfl, Nat.le_of_ble_eq_true rfl⟩) (cI.recv hK hCI) hO hS (fun q h => by rw [hxs]; exact xB_hi (by omega) h) rfl hl.1 rfl (Nat.le_of_ble_eq_true rfl) dL_law_724 ⟨by show _ ≤ 600000; omega, by show _ ≤ 7302250; omega⟩ (fun H1 locsH1 hq hz1 hk hS => ?_)
    have hMI := hMI.keep hk (fun q h1 h2 => nB_m (by omega) h1 h2)
    have hbs := Nat.le_trans hbs hz1
    clear hO hCI hM
    have hO := hq.same (hI.upd4 j (nI 2)).1 (fun i _ h3 _ => show wdrD d j i = upd d (445 + 5 * j + 4) (nI 2) i from pk_un h3)
    clear hz1 hk
    obtain ⟨as, gt, pa9, rs, hM⟩ := hMI
    refine lv_aload_n hx hb dL_law_727 rfl (lv_at hl 1 rfl) ?_
    refine lv_aload_n hx hb dL_law_728 rfl (lv_at hl 3 rfl) ?_
    refine lv_iload_n hx hb dL_law_729 rfl (lv_at hl 0 rfl) ?_
    refine lv_iconst (v := nI 1) hx hb dL_law_730 (by decide) ?_
    refine z_iadd hx hb dL_law_731 ?_
    refine s_ld hC hS (i := 7 * n + 1) (by omega) hv1 dL_law_732 ?_
    refine w_callV (As := [.int (nI j)]) (rest := [.int (usI d j)]) hF hK (c_X5_withdraw_ok l D y (x + 70) d was as tx gt k (nI len) pa9 rs j (hI) (hk4) (hj) (h4)) (cwV 1 hts gL_law_X5_withdraw rfl rfl rfl (by decide +kernel) ⟨Nat.le_of_ble_eq_true rfl, Nat.le_of_ble_eq_true rfl⟩) (mI.recv hK (⟨as, gt, pa9, rs, hM⟩ : mI D y (x + 70) d was tx k len _)) hM hS (fun q h => by rw [hxs]; have h9 := h.1; omega) rfl hl.1 rfl (Nat.le_of_ble_eq_true rfl) dL_law_733 ⟨by show _ ≤ 600000; omega, by show _ ≤ 7302250; omega⟩ (fun H2 locsH2 hq hz1 hk hS => ?_)
    have hO := hO.keep hk (fun q h1 h2 => nblk (by omega)) (fun q h1 => nblk (by omega))
    have hbs := Nat.le_trans hbs hz1
    clear hM
    have hM := hq
    clear hz1 hk
    refine lv_icmp_eq (tgt := 1008) hx hb dL_law_736 (by decide) (fun _ => ?_) (fun q => absurd (show ((usI d j) : Int32) = (usI d j) from rfl) q)
    refine lv_iinc (v := nI (7 * n + 7)) (lv' := [(3, .int (nI (7 * n + 7))), (2, .ref (x + 70)), (1, .ref x), (0, .ref b)]) hx hb dL_law_1008 hl (k := 0) rfl (in7 _) (by decide) rfl (fun ls hl => ?_)
    refine lv_goto (tgt := 18) hx hb dL_law_1011 (by decide) ?_
    refine W.widen (k := 76 + 16 * (n + 1)) (n := 13938 + 112 * (n + 1)) (by omega) (by omega) ?_
    exact ih _ _ _ ⟨wdrD d j, recW d was k, tx, recN k, len, (hJ.rem (ch_withdraw hZ (by omega) hj h4)).mono (Nat.le_succ n), ⟨_, _, _, _, _, _, _, _, hO, hH.rem hk4 _ (fun i _ _ _ => rfl)⟩, ⟨_, _, _, _, hM⟩, hbs, hS⟩ (lv_sub hl [0, 1, 2, 3] rfl)
  · obtain ⟨tf, hR⟩ := hO.clR
    refine z_callV (As := [.int v1]) (rest := []) hF hK (c_X4_withdraw_no l D y x (x + 76) d ca pa pk k len tf v1 (hr) (hk4) (hl80) (hok)) (cwV 1 hts gL_law_X4_withdraw rfl rfl rfl (by decide +kernel) ⟨Nat.le_of_ble_eq_true rfl, Nat.le_of_ble_eq_true rfl⟩) (cI.recv hK hCI) hR rfl hl.1 rfl (Nat.le_of_ble_eq_true rfl) dL_law_724 ⟨by show _ ≤ 600000; omega, by show _ ≤ 7302250; omega⟩ ?_
    refine lv_aload_n hx hb dL_law_727 rfl (lv_at hl 1 rfl) ?_
    refine lv_aload_n hx hb dL_law_728 rfl (lv_at hl 3 rfl) ?_
    refine lv_iload_n hx hb dL_law_729 rfl (lv_at hl 0 rfl) ?_
    refine lv_iconst (v := nI 1) hx hb dL_law_730 (by decide) ?_
    refine z_iadd hx hb dL_law_731 ?_
    refine s_ld hC hS (i := 7 * n + 1) (by omega) hv1 dL_law_732 ?_
    refine w_callV (As := [.int v1]) (rest := [.int (eIf (inB v1 (nI 0) (d 442 - nI 1)) (-1002))]) hF hK (c_X5_withdraw_no l D y (x + 70) d was as tx gt k (nI len) pa9 rs v1 (hI) (hk4) (hok)) (cwV 1 hts gL_law_X5_withdraw rfl rfl rfl (by decide +kernel) ⟨Nat.le_of_ble_eq_true rfl, Nat.le_of_ble_eq_true rfl⟩) (mI.recv hK (⟨as, gt, pa9, rs, hM⟩ : mI D y (x + 70) d was tx k len _)) hM hS (fun q h => by rw [hxs]; have h9 := h.1; omega) rfl hl.1 rfl (Nat.le_of_ble_eq_true rfl) dL_law_733 ⟨by show _ ≤ 600000; omega, by show _ ≤ 7302250; omega⟩ (fun H2 locsH2 hq hz1 hk hS => ?_)
    have hO := hO.keep hk (fun q h1 h2 => nblk (by omega)) (fun q h1 => nblk (by omega))
    have hbs := Nat.le_trans hbs hz1
    clear hM
    have hM := hq
    clear hz1 hk
    refine lv_icmp_eq (tgt := 1008) hx hb dL_law_736 (by decide) (fun _ => ?_) (fun q => absurd (show ((eIf (inB v1 (nI 0) (d 442 - nI 1)) (-1002)) : Int32) = (eIf (inB v1 (nI 0) (d 442 - nI 1)) (-1002)) from rfl) q)
    refine lv_iinc (v := nI (7 * n + 7)) (lv' := [(3, .int (nI (7 * n + 7))), (2, .ref (x + 70)), (1, .ref x), (0, .ref b)]) hx hb dL_law_1008 hl (k := 0) rfl (in7 _) (by decide) rfl (fun ls hl => ?_)
    refine lv_goto (tgt := 18) hx hb dL_law_1011 (by decide) ?_
    refine W.widen (k := 76 + 16 * (n + 1)) (n := 13938 + 112 * (n + 1)) (by omega) (by omega) ?_
    exact ih _ _ _ ⟨d, was, tx, k, len, hJ1, ⟨_, _, _, _, _, _, _, _, hO, hH⟩, ⟨_, _, _, _, hM⟩, hbs, hS⟩ (lv_sub hl [0, 1, 2, 3] rfl)
set_option maxRecDepth 100000 in
set_option maxHeartbeats 4000000 in
theorem L_type {p : Program} {l : Launch} {e : Env} {s : State} {m : MethodId} {below : List Frame} {meth : Method} {c : Code} {b L x : Nat} {xs : Nat → Int32} {D : va_G} {y : zY} (hC : lwX p s m meth c b L x xs D y) {n : Nat} (hn : 7 * n + 7 ≤ L) {H : Heap} {locs : List Loc} {ls : Array Slot} (hI0 : lI D y x s n H locs) (hl : lv_has ls 4 [(3, .int (nI (7 * n))), (2, .ref (x + 70)), (1, .ref x), (0, .ref b)])
    (ih : ∀ (H' : Heap) (locs' : List Loc) (ls' : Array Slot), lI D y x s (n + 1) H' locs' → lv_has ls' 4 [(3, .int (nI (7 * n + 7))), (2, .ref (x + 70)), (1, .ref x), (0, .ref b)] → W p l e room_1 s m #[Value.ref b] below meth c H' locs' (76 + 16 * (n + 1)) (13938 + 112 * (n + 1)) (lw_Z below #[Value.ref b] s) (F0 m 18 ls' [])) : W p l e room_1 s m #[Value.ref b] below meth c H locs (76 + 16 * n) (13938 + 112 * n) (lw_Z below #[Value.ref b] s) (F0 m 936 ls []) := by
  obtain ⟨hx, hb, hret, hlocks, hF, hK, -, -, hL, hxs, -⟩ := id hC
  have hts := hF.2.2.2.2
  obtain ⟨d, was, tx, k, len, hJ, hCI, hMI, hbs, hS⟩ := hI0
  obtain ⟨ca, pa, pk, T, P, rot, ts, tn, hO, hH⟩ := id hCI
  obtain ⟨as, gt, pa9, rs, hM⟩ := id hMI
  have hn1 : n ≤ 511 := by omega
  have hJ1 := hJ.mono (Nat.le_succ n)
  obtain ⟨hZ, hk4, hl80, hW⟩ := id hJ
  have hr := hZ.1
  have hI := hr.1
  have hbd : x + 70 ≤ x + 76 := by omega
  obtain ⟨v1, hv1⟩ : ∃ v, xs (7 * n + 1) = v := ⟨_, rfl⟩
  refine lv_aload_n hx hb dL_law_936 rfl (lv_at hl 2 rfl) ?_
  refine lv_aload_n hx hb dL_law_937 rfl (lv_at hl 3 rfl) ?_
  refine lv_iload_n hx hb dL_law_938 rfl (lv_at hl 0 rfl) ?_
  refine lv_iconst (v := nI 1) hx hb dL_law_939 (by decide) ?_
  refine z_iadd hx hb dL_law_940 ?_
  refine s_ld hC hS (i := 7 * n + 1) (by omega) hv1 dL_law_941 ?_
  by_cases hok : inB v1 (nI 32) (nI 126) = true ∧ len < 80
  · refine w_callV (As := [.int v1]) (rest := []) hF hK (c_X4_type_ok l D y x (x + 76) d ca pa pk T P k rot len ts tn tx v1 (hr) (hk4) (hbd) (hok.1) (hok.2)) (cwV 1 hts gL_law_X4_type rfl rfl rfl (by decide +kernel) ⟨Nat.le_of_ble_eq_true rfl, Nat.le_of_ble_eq_true rfl⟩) (cI.recv hK hCI) hO hS (fun q h => by rw [hxs]; exact xB_hi (by omega) h) rfl hl.1 rfl (Nat.le_of_ble_eq_true rfl) dL_law_942 ⟨by show _ ≤ 600000; omega, by show _ ≤ 7302250; omega⟩ (fun H1 locsH1 hq hz1 hk hS => ?_)
    have hMI := hMI.keep hk (fun q h1 h2 => nB_m (by omega) h1 h2)
    have hbs := Nat.le_trans hbs hz1
    clear hO hCI hM
    have hO := hq
    clear hz1 hk
    obtain ⟨as, gt, pa9, rs, hM⟩ := hMI
    refine lv_aload_n hx hb dL_law_945 rfl (lv_at hl 1 rfl) ?_
    refine lv_aload_n hx hb dL_law_946 rfl (lv_at hl 3 rfl) ?_
    refine lv_iload_n hx hb dL_law_947 rfl (lv_at hl 0 rfl) ?_
    refine lv_iconst (v := nI 1) hx hb dL_law_948 (by decide) ?_
    refine z_iadd hx hb dL_law_949 ?_
    refine s_ld hC hS (i := 7 * n + 1) (by omega) hv1 dL_law_950 ?_
    refine w_callV (As := [.int v1]) (rest := [.int (nI (len + 1))]) hF hK (c_X5_type_ok l D y (x + 70) d was as tx gt k pa9 rs len v1 (hok.1) (hok.2)) (cwV 1 hts gL_law_X5_type rfl rfl rfl (by decide +kernel) ⟨Nat.le_of_ble_eq_true rfl, Nat.le_of_ble_eq_true rfl⟩) (mI.recv hK (⟨as, gt, pa9, rs, hM⟩ : mI D y (x + 70) d was tx k len _)) hM hS (fun q h => by rw [hxs]; have h9 := h.1; omega) rfl hl.1 rfl (Nat.le_of_ble_eq_true rfl) dL_law_951 ⟨by show _ ≤ 600000; omega, by show _ ≤ 7302250; omega⟩ (fun H2 locsH2 hq hz1 hk hS => ?_)
    have hO := hO.keep hk (fun q h1 h2 => nblk (by omega)) (fun q h1 => nblk (by omega))
    have hbs := Nat.le_trans hbs hz1
    clear hM
    have hM := hq
    clear hz1 hk
    refine lv_icmp_eq (tgt := 1008) hx hb dL_law_954 (by decide) (fun _ => ?_) (fun q => absurd (show ((nI (len + 1)) : Int32) = (nI (len + 1)) from rfl) q)
    refine lv_iinc (v := nI (7 * n + 7)) (lv' := [(3, .int (nI (7 * n + 7))), (2, .ref (x + 70)), (1, .ref x), (0, .ref b)]) hx hb dL_law_1008 hl (k := 0) rfl (in7 _) (by decide) rfl (fun ls hl => ?_)
    refine lv_goto (tgt := 18) hx hb dL_law_1011 (by decide) ?_
    refine W.widen (k := 76 + 16 * (n + 1)) (n := 13938 + 112 * (n + 1)) (by omega) (by omega) ?_
    exact ih _ _ _ ⟨d, was, upd tx len (chI v1), k, (len + 1), ⟨hJ1.1, hk4, by omega, hJ1.2.2.2⟩, ⟨_, _, _, _, _, _, _, _, hO, hH⟩, ⟨_, _, _, _, hM⟩, hbs, hS⟩ (lv_sub hl [0, 1, 2, 3] rfl)
  · obtain ⟨tf, hR⟩ := hO.clR
    refine z_callV (As := [.int v1]) (rest := []) hF hK (c_X4_type_no l D y x (x + 76) d ca pa pk k len tf v1 (hr) (hk4) (hl80) (hok)) (cwV 1 hts gL_law_X4_type rfl rfl rfl (by decide +kernel) ⟨Nat.le_of_ble_eq_true rfl, Nat.le_of_ble_eq_true rfl⟩) (cI.recv hK hCI) hR rfl hl.1 rfl (Nat.le_of_ble_eq_true rfl) dL_law_942 ⟨by show _ ≤ 600000; omega, by show _ ≤ 7302250; omega⟩ ?_
    refine lv_aload_n hx hb dL_law_945 rfl (lv_at hl 1 rfl) ?_
    refine lv_aload_n hx hb dL_law_946 rfl (lv_at hl 3 rfl) ?_
    refine lv_iload_n hx hb dL_law_947 rfl (lv_at hl 0 rfl) ?_
    refine lv_iconst (v := nI 1) hx hb dL_law_948 (by decide) ?_
    refine z_iadd hx hb dL_law_949 ?_
    refine s_ld hC hS (i := 7 * n + 1) (by omega) hv1 dL_law_950 ?_
    refine w_callV (As := [.int v1]) (rest := [.int (eIf (inB v1 (nI 32) (nI 126)) (-1003))]) hF hK (c_X5_type_no l D y (x + 70) d was as tx gt k pa9 rs len v1 (hok) (hl80)) (cwV 1 hts gL_law_X5_type rfl rfl rfl (by decide +kernel) ⟨Nat.le_of_ble_eq_true rfl, Nat.le_of_ble_eq_true rfl⟩) (mI.recv hK (⟨as, gt, pa9, rs, hM⟩ : mI D y (x + 70) d was tx k len _)) hM hS (fun q h => by rw [hxs]; have h9 := h.1; omega) rfl hl.1 rfl (Nat.le_of_ble_eq_true rfl) dL_law_951 ⟨by show _ ≤ 600000; omega, by show _ ≤ 7302250; omega⟩ (fun H2 locsH2 hq hz1 hk hS => ?_)
    have hO := hO.keep hk (fun q h1 h2 => nblk (by omega)) (fun q h1 => nblk (by omega))
    have hbs := Nat.le_trans hbs hz1
    clear hM
    have hM := hq
    clear hz1 hk
    refine lv_icmp_eq (tgt := 1008) hx hb dL_law_954 (by decide) (fun _ => ?_) (fun q => absurd (show ((eIf (inB v1 (nI 32) (nI 126)) (-1003)) : Int32) = (eIf (inB v1 (nI 32) (nI 126)) (-1003)) from rfl) q)
    refine lv_iinc (v := nI (7 * n + 7)) (lv' := [(3, .int (nI (7 * n + 7))), (2, .ref (x + 70)), (1, .ref x), (0, .ref b)]) hx hb dL_law_1008 hl (k := 0) rfl (in7 _) (by decide) rfl (fun ls hl => ?_)
    refine lv_goto (tgt := 18) hx hb dL_law_1011 (by decide) ?_
    refine W.widen (k := 76 + 16 * (n + 1)) (n := 13938 + 112 * (n + 1)) (by omega) (by omega) ?_
    exact ih _ _ _ ⟨d, was, tx, k, len, hJ1, ⟨_, _, _, _, _, _, _, _, hO, hH⟩, ⟨_, _, _, _, hM⟩, hbs, hS⟩ (lv_sub hl [0, 1, 2, 3] rfl)
set_option maxRecDepth 100000 in
set_option maxHeartbeats 4000000 in
theorem L_clearText {p : Program} {l : Launch} {e : Env} {s : State} {m : MethodId} {below : List Frame} {meth : Method} {c : Code} {b L x : Nat} {xs : Nat → Int32} {D : va_G} {y : zY} (hC : lwX p s m meth c b L x xs D y) {n : Nat} (hn : 7 * n + 7 ≤ L) {H : Heap} {locs : List Loc} {ls : Array Slot} (hI0 : lI D y x s n H locs) (hl : lv_has ls 4 [(3, .int (nI (7 * n))), (2, .ref (x + 70)), (1, .ref x), (0, .ref b)])
    (ih : ∀ (H' : Heap) (locs' : List Loc) (ls' : Array Slot), lI D y x s (n + 1) H' locs' → lv_has ls' 4 [(3, .int (nI (7 * n + 7))), (2, .ref (x + 70)), (1, .ref x), (0, .ref b)] → W p l e room_1 s m #[Value.ref b] below meth c H' locs' (76 + 16 * (n + 1)) (13938 + 112 * (n + 1)) (lw_Z below #[Value.ref b] s) (F0 m 18 ls' [])) : W p l e room_1 s m #[Value.ref b] below meth c H locs (76 + 16 * n) (13938 + 112 * n) (lw_Z below #[Value.ref b] s) (F0 m 959 ls []) := by
  obtain ⟨hx, hb, hret, hlocks, hF, hK, -, -, hL, hxs, -⟩ := id hC
  have hts := hF.2.2.2.2
  obtain ⟨d, was, tx, k, len, hJ, hCI, hMI, hbs, hS⟩ := hI0
  obtain ⟨ca, pa, pk, T, P, rot, ts, tn, hO, hH⟩ := id hCI
  obtain ⟨as, gt, pa9, rs, hM⟩ := id hMI
  have hn1 : n ≤ 511 := by omega
  have hJ1 := hJ.mono (Nat.le_succ n)
  obtain ⟨hZ, hk4, hl80, hW⟩ := id hJ
  have hr := hZ.1
  have hI := hr.1
  have hbd : x + 70 ≤ x + 76 := by omega
  refine lv_aload_n hx hb dL_law_959 rfl (lv_at hl 2 rfl) ?_
  refine w_callV (As := []) (rest := []) hF hK (c_X4_clearText l D y x (x + 76) d ca pa pk T P k rot len ts tn tx (hr) (hk4) (hbd) (hl80)) (cwV 0 hts gL_law_X4_clearText rfl rfl rfl (by decide +kernel) ⟨Nat.le_of_ble_eq_true rfl, Nat.le_of_ble_eq_true rfl⟩) (cI.recv hK hCI) hO hS (fun q h => by rw [hxs]; exact xB_hi (by omega) h) rfl hl.1 rfl (Nat.le_of_ble_eq_true rfl) dL_law_960 ⟨by show _ ≤ 600000; omega, by show _ ≤ 7302250; omega⟩ (fun H1 locsH1 hq hz1 hk hS => ?_)
  have hMI := hMI.keep hk (fun q h1 h2 => nB_m (by omega) h1 h2)
  have hbs := Nat.le_trans hbs hz1
  clear hO hCI hM
  have hO := hq
  clear hz1 hk
  obtain ⟨as, gt, pa9, rs, hM⟩ := hMI
  refine lv_aload_n hx hb dL_law_963 rfl (lv_at hl 1 rfl) ?_
  refine w_callV (As := []) (rest := [.int (nI len)]) hF hK (c_X5_clearText l D y (x + 70) d was as tx gt k pa9 rs len ) (cwV 0 hts gL_law_X5_clearText rfl rfl rfl (by decide +kernel) ⟨Nat.le_of_ble_eq_true rfl, Nat.le_of_ble_eq_true rfl⟩) (mI.recv hK (⟨as, gt, pa9, rs, hM⟩ : mI D y (x + 70) d was tx k len _)) hM hS (fun q h => by rw [hxs]; have h9 := h.1; omega) rfl hl.1 rfl (Nat.le_of_ble_eq_true rfl) dL_law_964 ⟨by show _ ≤ 600000; omega, by show _ ≤ 7302250; omega⟩ (fun H2 locsH2 hq hz1 hk hS => ?_)
  have hO := hO.keep hk (fun q h1 h2 => nblk (by omega)) (fun q h1 => nblk (by omega))
  have hbs := Nat.le_trans hbs hz1
  clear hM
  have hM := hq
  clear hz1 hk
  refine lv_icmp_eq (tgt := 1008) hx hb dL_law_967 (by decide) (fun _ => ?_) (fun q => absurd (show ((nI len) : Int32) = (nI len) from rfl) q)
  refine lv_iinc (v := nI (7 * n + 7)) (lv' := [(3, .int (nI (7 * n + 7))), (2, .ref (x + 70)), (1, .ref x), (0, .ref b)]) hx hb dL_law_1008 hl (k := 0) rfl (in7 _) (by decide) rfl (fun ls hl => ?_)
  refine lv_goto (tgt := 18) hx hb dL_law_1011 (by decide) ?_
  refine W.widen (k := 76 + 16 * (n + 1)) (n := 13938 + 112 * (n + 1)) (by omega) (by omega) ?_
  exact ih _ _ _ ⟨d, was, tx, k, 0, ⟨hJ1.1, hk4, by omega, hJ1.2.2.2⟩, ⟨_, _, _, _, _, _, _, _, hO, hH⟩, ⟨_, _, _, _, hM⟩, hbs, hS⟩ (lv_sub hl [0, 1, 2, 3] rfl)
set_option maxRecDepth 100000 in
set_option maxHeartbeats 4000000 in
theorem L_fault {p : Program} {l : Launch} {e : Env} {s : State} {m : MethodId} {below : List Frame} {meth : Method} {c : Code} {b L x : Nat} {xs : Nat → Int32} {D : va_G} {y : zY} (hC : lwX p s m meth c b L x xs D y) {n : Nat} (hn : 7 * n + 7 ≤ L) {H : Heap} {locs : List Loc} {ls : Array Slot} (hI0 : lI D y x s n H locs) (hl : lv_has ls 4 [(3, .int (nI (7 * n))), (2, .ref (x + 70)), (1, .ref x), (0, .ref b)])
    (ih : ∀ (H' : Heap) (locs' : List Loc) (ls' : Array Slot), lI D y x s (n + 1) H' locs' → lv_has ls' 4 [(3, .int (nI (7 * n + 7))), (2, .ref (x + 70)), (1, .ref x), (0, .ref b)] → W p l e room_1 s m #[Value.ref b] below meth c H' locs' (76 + 16 * (n + 1)) (13938 + 112 * (n + 1)) (lw_Z below #[Value.ref b] s) (F0 m 18 ls' [])) : W p l e room_1 s m #[Value.ref b] below meth c H locs (76 + 16 * n) (13938 + 112 * n) (lw_Z below #[Value.ref b] s) (F0 m 972 ls []) := by
  obtain ⟨hx, hb, hret, hlocks, hF, hK, -, -, hL, hxs, -⟩ := id hC
  have hts := hF.2.2.2.2
  obtain ⟨d, was, tx, k, len, hJ, hCI, hMI, hbs, hS⟩ := hI0
  obtain ⟨ca, pa, pk, T, P, rot, ts, tn, hO, hH⟩ := id hCI
  obtain ⟨as, gt, pa9, rs, hM⟩ := id hMI
  have hn1 : n ≤ 511 := by omega
  have hJ1 := hJ.mono (Nat.le_succ n)
  obtain ⟨hZ, hk4, hl80, hW⟩ := id hJ
  have hr := hZ.1
  have hI := hr.1
  have hbd : x + 70 ≤ x + 76 := by omega
  obtain ⟨v1, hv1⟩ : ∃ v, xs (7 * n + 1) = v := ⟨_, rfl⟩
  refine lv_aload_n hx hb dL_law_972 rfl (lv_at hl 2 rfl) ?_
  refine lv_aload_n hx hb dL_law_973 rfl (lv_at hl 3 rfl) ?_
  refine lv_iload_n hx hb dL_law_974 rfl (lv_at hl 0 rfl) ?_
  refine lv_iconst (v := nI 1) hx hb dL_law_975 (by decide) ?_
  refine z_iadd hx hb dL_law_976 ?_
  refine s_ld hC hS (i := 7 * n + 1) (by omega) hv1 dL_law_977 ?_
  by_cases hok : inB v1 (nI 0) (nI 1) = true
  · refine w_callV (As := [.int v1]) (rest := []) hF hK (c_X4_fault_ok l D y x (x + 76) d ca pa pk T P k rot len ts tn tx v1 (hr) (hk4) (hbd) (hl80) (hok)) (cwV 1 hts gL_law_X4_fault rfl rfl rfl (by decide +kernel) ⟨Nat.le_of_ble_eq_true rfl, Nat.le_of_ble_eq_true rfl⟩) (cI.recv hK hCI) ⟨hO, hbs⟩ hS (fun q h => by rw [hxs]; exact xB_hi (by omega) h) rfl hl.1 rfl (Nat.le_of_ble_eq_true rfl) dL_law_978 ⟨by show _ ≤ 600000; omega, by show _ ≤ 7302250; omega⟩ (fun H1 locsH1 hq hz1 hk hS => ?_)
    have hMI := hMI.keep hk (fun q h1 h2 => nB_m (by omega) h1 h2)
    have hbs := Nat.le_trans hbs hz1
    clear hO hCI hM
    obtain ⟨c1, p1, k1, t9, n9, hO⟩ := hq
    clear hz1 hk
    obtain ⟨as, gt, pa9, rs, hM⟩ := hMI
    refine lv_aload_n hx hb dL_law_981 rfl (lv_at hl 1 rfl) ?_
    refine lv_aload_n hx hb dL_law_982 rfl (lv_at hl 3 rfl) ?_
    refine lv_iload_n hx hb dL_law_983 rfl (lv_at hl 0 rfl) ?_
    refine lv_iconst (v := nI 1) hx hb dL_law_984 (by decide) ?_
    refine z_iadd hx hb dL_law_985 ?_
    refine s_ld hC hS (i := 7 * n + 1) (by omega) hv1 dL_law_986 ?_
    refine w_callV (As := [.int v1]) (rest := [.int (aFault d tx len v1)]) hF hK (c_X5_fault l D y (x + 70) d was as tx gt k pa9 rs len v1 (hI) (hl80)) (cwV 1 hts gL_law_X5_fault rfl rfl rfl (by decide +kernel) ⟨Nat.le_of_ble_eq_true rfl, Nat.le_of_ble_eq_true rfl⟩) (mI.recv hK (⟨as, gt, pa9, rs, hM⟩ : mI D y (x + 70) d was tx k len _)) hM hS (fun q h => by rw [hxs]; have h9 := h.1; omega) rfl hl.1 rfl (Nat.le_of_ble_eq_true rfl) dL_law_987 ⟨by show _ ≤ 600000; omega, by show _ ≤ 7302250; omega⟩ (fun H2 locsH2 hq hz1 hk hS => ?_)
    have hO := hO.keep hk (fun q h1 h2 => nblk (by omega)) (fun q h1 => nblk (by omega))
    have hbs := Nat.le_trans hbs hz1
    clear hM
    obtain ⟨as, gt, pa9, rs, hM⟩ := hq
    clear hz1 hk
    refine lv_icmp_eq (tgt := 1008) hx hb dL_law_990 (by decide) (fun _ => ?_) (fun q => absurd (show ((aFault d tx len v1) : Int32) = (aFault d tx len v1) from rfl) q)
    refine lv_iinc (v := nI (7 * n + 7)) (lv' := [(3, .int (nI (7 * n + 7))), (2, .ref (x + 70)), (1, .ref x), (0, .ref b)]) hx hb dL_law_1008 hl (k := 0) rfl (in7 _) (by decide) rfl (fun ls hl => ?_)
    refine lv_goto (tgt := 18) hx hb dL_law_1011 (by decide) ?_
    refine W.widen (k := 76 + 16 * (n + 1)) (n := 13938 + 112 * (n + 1)) (by omega) (by omega) ?_
    exact ih _ _ _ ⟨d, was, tx, k, len, hJ1, ⟨_, _, _, _, _, _, _, _, hO, hH⟩, ⟨_, _, _, _, hM⟩, hbs, hS⟩ (lv_sub hl [0, 1, 2, 3] rfl)
  · obtain ⟨tf, hR⟩ := hO.clR
    refine z_callV (As := [.int v1]) (rest := []) hF hK (c_X4_fault_no l D y x (x + 76) d ca pa pk k len tf v1 (hr) (hk4) (hl80) (by simpa using hok)) (cwV 1 hts gL_law_X4_fault rfl rfl rfl (by decide +kernel) ⟨Nat.le_of_ble_eq_true rfl, Nat.le_of_ble_eq_true rfl⟩) (cI.recv hK hCI) hR rfl hl.1 rfl (Nat.le_of_ble_eq_true rfl) dL_law_978 ⟨by show _ ≤ 600000; omega, by show _ ≤ 7302250; omega⟩ ?_
    refine lv_aload_n hx hb dL_law_981 rfl (lv_at hl 1 rfl) ?_
    refine lv_aload_n hx hb dL_law_982 rfl (lv_at hl 3 rfl) ?_
    refine lv_iload_n hx hb dL_law_983 rfl (lv_at hl 0 rfl) ?_
    refine lv_iconst (v := nI 1) hx hb dL_law_984 (by decide) ?_
    refine z_iadd hx hb dL_law_985 ?_
    refine s_ld hC hS (i := 7 * n + 1) (by omega) hv1 dL_law_986 ?_
    refine w_callV (As := [.int v1]) (rest := [.int (-1001)]) hF hK (c_X5_fault l D y (x + 70) d was as tx gt k pa9 rs len v1 (hI) (hl80)) (cwV 1 hts gL_law_X5_fault rfl rfl rfl (by decide +kernel) ⟨Nat.le_of_ble_eq_true rfl, Nat.le_of_ble_eq_true rfl⟩) (mI.recv hK (⟨as, gt, pa9, rs, hM⟩ : mI D y (x + 70) d was tx k len _)) hM hS (fun q h => by rw [hxs]; have h9 := h.1; omega) rfl hl.1 rfl (Nat.le_of_ble_eq_true rfl) dL_law_987 ⟨by show _ ≤ 600000; omega, by show _ ≤ 7302250; omega⟩ (fun H2 locsH2 hq hz1 hk hS => ?_)
    have hO := hO.keep hk (fun q h1 h2 => nblk (by omega)) (fun q h1 => nblk (by omega))
    have hbs := Nat.le_trans hbs hz1
    clear hM
    obtain ⟨as, gt, pa9, rs, hM⟩ := hq
    clear hz1 hk
    refine lv_icmp_eq (tgt := 1008) hx hb dL_law_990 (by decide) (fun _ => ?_) (fun q => absurd (show ((-1001) : Int32) = (aFault d tx len v1) from by unfold aFault; rw [if_neg hok]) q)
    refine lv_iinc (v := nI (7 * n + 7)) (lv' := [(3, .int (nI (7 * n + 7))), (2, .ref (x + 70)), (1, .ref x), (0, .ref b)]) hx hb dL_law_1008 hl (k := 0) rfl (in7 _) (by decide) rfl (fun ls hl => ?_)
    refine lv_goto (tgt := 18) hx hb dL_law_1011 (by decide) ?_
    refine W.widen (k := 76 + 16 * (n + 1)) (n := 13938 + 112 * (n + 1)) (by omega) (by omega) ?_
    exact ih _ _ _ ⟨d, was, tx, k, len, hJ1, ⟨_, _, _, _, _, _, _, _, hO, hH⟩, ⟨_, _, _, _, hM⟩, hbs, hS⟩ (lv_sub hl [0, 1, 2, 3] rfl)
set_option maxRecDepth 100000 in
set_option maxHeartbeats 4000000 in
theorem L_enter {p : Program} {l : Launch} {e : Env} {s : State} {m : MethodId} {below : List Frame} {meth : Method} {c : Code} {b L x : Nat} {xs : Nat → Int32} {D : va_G} {y : zY} (hC : lwX p s m meth c b L x xs D y) {n : Nat} (hn : 7 * n + 7 ≤ L) {H : Heap} {locs : List Loc} {ls : Array Slot} (hI0 : lI D y x s n H locs) (hl : lv_has ls 4 [(3, .int (nI (7 * n))), (2, .ref (x + 70)), (1, .ref x), (0, .ref b)])
    (ih : ∀ (H' : Heap) (locs' : List Loc) (ls' : Array Slot), lI D y x s (n + 1) H' locs' → lv_has ls' 4 [(3, .int (nI (7 * n + 7))), (2, .ref (x + 70)), (1, .ref x), (0, .ref b)] → W p l e room_1 s m #[Value.ref b] below meth c H' locs' (76 + 16 * (n + 1)) (13938 + 112 * (n + 1)) (lw_Z below #[Value.ref b] s) (F0 m 18 ls' [])) : W p l e room_1 s m #[Value.ref b] below meth c H locs (76 + 16 * n) (13938 + 112 * n) (lw_Z below #[Value.ref b] s) (F0 m 995 ls []) := by
  obtain ⟨hx, hb, hret, hlocks, hF, hK, -, -, hL, hxs, -⟩ := id hC
  have hts := hF.2.2.2.2
  obtain ⟨d, was, tx, k, len, hJ, hCI, hMI, hbs, hS⟩ := hI0
  obtain ⟨ca, pa, pk, T, P, rot, ts, tn, hO, hH⟩ := id hCI
  obtain ⟨as, gt, pa9, rs, hM⟩ := id hMI
  have hn1 : n ≤ 511 := by omega
  have hJ1 := hJ.mono (Nat.le_succ n)
  obtain ⟨hZ, hk4, hl80, hW⟩ := id hJ
  have hr := hZ.1
  have hI := hr.1
  have hbd : x + 70 ≤ x + 76 := by omega
  refine lv_aload_n hx hb dL_law_995 rfl (lv_at hl 2 rfl) ?_
  by_cases hok : fPl d tx len = (-1004)
  · refine w_callV (As := []) (rest := []) hF hK (c_X4_enter_ok l D y x (x + 76) d ca pa pk T P k rot len ts tn tx (hr) (hk4) (hbd) (hl80) (hok)) (cwV 0 hts gL_law_X4_enter rfl rfl rfl (by decide +kernel) ⟨Nat.le_of_ble_eq_true rfl, Nat.le_of_ble_eq_true rfl⟩) (cI.recv hK hCI) ⟨hO, hbs⟩ hS (fun q h => by rw [hxs]; exact xB_hi (by omega) h) rfl hl.1 rfl (Nat.le_of_ble_eq_true rfl) dL_law_996 ⟨by show _ ≤ 600000; omega, by show _ ≤ 7302250; omega⟩ (fun H1 locsH1 hq hz1 hk hS => ?_)
    have hMI := hMI.keep hk (fun q h1 h2 => nB_m (by omega) h1 h2)
    have hbs := Nat.le_trans hbs hz1
    clear hO hCI hM
    obtain ⟨c1, p1, k1, t9, n9, hO⟩ := hq
    clear hz1 hk
    obtain ⟨as, gt, pa9, rs, hM⟩ := hMI
    refine lv_aload_n hx hb dL_law_999 rfl (lv_at hl 1 rfl) ?_
    refine w_callV (As := []) (rest := [.int (nI (fN d tx len))]) hF hK (c_X5_enter_ok l D y (x + 70) d was as tx gt k pa9 rs len (hI) (hk4) (hl80) (hok)) (cwV 0 hts gL_law_X5_enter rfl rfl rfl (by decide +kernel) ⟨Nat.le_of_ble_eq_true rfl, Nat.le_of_ble_eq_true rfl⟩) (mI.recv hK (⟨as, gt, pa9, rs, hM⟩ : mI D y (x + 70) d was tx k len _)) hM hS (fun q h => by rw [hxs]; have h9 := h.1; omega) rfl hl.1 rfl (Nat.le_of_ble_eq_true rfl) dL_law_1000 ⟨by show _ ≤ 600000; omega, by show _ ≤ 7302250; omega⟩ (fun H2 locsH2 hq hz1 hk hS => ?_)
    have hO := hO.keep hk (fun q h1 h2 => nblk (by omega)) (fun q h1 => nblk (by omega))
    have hbs := Nat.le_trans hbs hz1
    clear hM
    obtain ⟨as, gt, pa9, rs, hM⟩ := hq
    clear hz1 hk
    refine lv_icmp_eq (tgt := 1008) hx hb dL_law_1003 (by decide) (fun _ => ?_) (fun q => absurd (show ((nI (fN d tx len)) : Int32) = (nI (fN d tx len)) from rfl) q)
    refine lv_iinc (v := nI (7 * n + 7)) (lv' := [(3, .int (nI (7 * n + 7))), (2, .ref (x + 70)), (1, .ref x), (0, .ref b)]) hx hb dL_law_1008 hl (k := 0) rfl (in7 _) (by decide) rfl (fun ls hl => ?_)
    refine lv_goto (tgt := 18) hx hb dL_law_1011 (by decide) ?_
    refine W.widen (k := 76 + 16 * (n + 1)) (n := 13938 + 112 * (n + 1)) (by omega) (by omega) ?_
    exact ih _ _ _ ⟨fD d tx len (fN d tx len), recW d was k, tx, recN k, len, (hJ.rem (fD_Z hZ (by omega) fall)).mono (Nat.le_succ n), ⟨_, _, _, _, _, _, _, _, hO, hH.rem hk4 _ (fun i _ _ _ => rfl)⟩, ⟨_, _, _, _, hM⟩, hbs, hS⟩ (lv_sub hl [0, 1, 2, 3] rfl)
  · refine w_callV (As := []) (rest := []) hF hK (c_X4_enter_no l D y x (x + 76) d ca pa pk T P k rot len ts tn tx (hr) (hk4) (hbd) (hl80) (hok)) (cwV 0 hts gL_law_X4_enter rfl rfl rfl (by decide +kernel) ⟨Nat.le_of_ble_eq_true rfl, Nat.le_of_ble_eq_true rfl⟩) (cI.recv hK hCI) ⟨hO, hbs⟩ hS (fun q h => by rw [hxs]; exact xB_hi (by omega) h) rfl hl.1 rfl (Nat.le_of_ble_eq_true rfl) dL_law_996 ⟨by show _ ≤ 600000; omega, by show _ ≤ 7302250; omega⟩ (fun H1 locsH1 hq hz1 hk hS => ?_)
    have hMI := hMI.keep hk (fun q h1 h2 => nB_m (by omega) h1 h2)
    have hbs := Nat.le_trans hbs hz1
    clear hO hCI hM
    obtain ⟨c1, p1, k1, t9, n9, hO⟩ := hq
    clear hz1 hk
    obtain ⟨as, gt, pa9, rs, hM⟩ := hMI
    refine lv_aload_n hx hb dL_law_999 rfl (lv_at hl 1 rfl) ?_
    refine w_callV (As := []) (rest := [.int (-1002)]) hF hK (c_X5_enter_no l D y (x + 70) d was as tx gt k pa9 rs len (hI) (hl80) (hok)) (cwV 0 hts gL_law_X5_enter rfl rfl rfl (by decide +kernel) ⟨Nat.le_of_ble_eq_true rfl, Nat.le_of_ble_eq_true rfl⟩) (mI.recv hK (⟨as, gt, pa9, rs, hM⟩ : mI D y (x + 70) d was tx k len _)) hM hS (fun q h => by rw [hxs]; have h9 := h.1; omega) rfl hl.1 rfl (Nat.le_of_ble_eq_true rfl) dL_law_1000 ⟨by show _ ≤ 600000; omega, by show _ ≤ 7302250; omega⟩ (fun H2 locsH2 hq hz1 hk hS => ?_)
    have hO := hO.keep hk (fun q h1 h2 => nblk (by omega)) (fun q h1 => nblk (by omega))
    have hbs := Nat.le_trans hbs hz1
    clear hM
    obtain ⟨as, gt, pa9, rs, hM⟩ := hq
    clear hz1 hk
    refine lv_icmp_eq (tgt := 1008) hx hb dL_law_1003 (by decide) (fun _ => ?_) (fun q => absurd (show ((-1002) : Int32) = (-1002) from rfl) q)
    refine lv_iinc (v := nI (7 * n + 7)) (lv' := [(3, .int (nI (7 * n + 7))), (2, .ref (x + 70)), (1, .ref x), (0, .ref b)]) hx hb dL_law_1008 hl (k := 0) rfl (in7 _) (by decide) rfl (fun ls hl => ?_)
    refine lv_goto (tgt := 18) hx hb dL_law_1011 (by decide) ?_
    refine W.widen (k := 76 + 16 * (n + 1)) (n := 13938 + 112 * (n + 1)) (by omega) (by omega) ?_
    exact ih _ _ _ ⟨d, was, tx, k, len, hJ1, ⟨_, _, _, _, _, _, _, _, hO, hH⟩, ⟨_, _, _, _, hM⟩, hbs, hS⟩ (lv_sub hl [0, 1, 2, 3] rfl)
