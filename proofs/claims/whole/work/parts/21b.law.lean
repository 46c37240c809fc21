/-! THE LAW: its cases, 2 -/
set_option maxRecDepth 100000 in
set_option maxHeartbeats 4000000 in
theorem L_permit {p : Program} {l : Launch} {e : Env} {s : State} {m : MethodId} {below : List Frame} {meth : Method} {c : Code} {b L x : Nat} {xs : Nat → Int32} {D : va_G} {y : zY} (hC : lwX p s m meth c b L x xs D y) {n : Nat} (hn : 7 * n + 7 ≤ L) {H : Heap} {locs : List Loc} {ls : Array Slot} (hI0 : lI D y x s n H locs) (hl : lv_has ls 4 [(3, .int (nI (7 * n))), (2, .ref (x + 70)), (1, .ref x), (0, .ref b)])
    (ih : ∀ (H' : Heap) (locs' : List Loc) (ls' : Array Slot), lI D y x s (n + 1) H' locs' → lv_has ls' 4 [(3, .int (nI (7 * n + 7))), (2, .ref (x + 70)), (1, .ref x), (0, .ref b)] → W p l e room_1 s m #[Value.ref b] below meth c H' locs' (76 + 16 * (n + 1)) (13938 + 112 * (n + 1)) (lw_Z below #[Value.ref b] s) (F0 m 18 ls' [])) : W p l e room_1 s m #[Value.ref b] below meth c H locs (76 + 16 * n) (13938 + 112 * n) (lw_Z below #[Value.ref b] s) (F0 m 741 ls []) := by
  obtain ⟨hx, hb, hret, hlocks, hF, hK, -, -, hL, hxs, -⟩ := id hC
  have hts := hF.2.2.2.2
  obtain ⟨d, was, tx, k, len, hJ, hCI, hMI, hbs, hS⟩ := hI0
  obtain ⟨ca, pa, pk, T, P, rot, ts, tn, hO, hH⟩ := id hCI
  obtain ⟨as, gt, pa9, rs, hM⟩ := id hMI
  have hn1 : n ≤ 511 := by omega
  have hJ1 := hJ.mono (Nat.le_succ n)
  obtain ⟨hZ, hk4, hl80, hW⟩ := id hJ
  have hr := hZ.1
  have hI := hr.1
  have hbd : x + 70 ≤ x + 76 := by omega
  obtain ⟨v1, hv1⟩ : ∃ v, xs (7 * n + 1) = v := ⟨_, rfl⟩
  obtain ⟨v2, hv2⟩ : ∃ v, xs (7 * n + 2) = v := ⟨_, rfl⟩
  refine lv_aload_n hx hb dL_law_741 rfl (lv_at hl 2 rfl) ?_
  refine lv_aload_n hx hb dL_law_742 rfl (lv_at hl 3 rfl) ?_
  refine lv_iload_n hx hb dL_law_743 rfl (lv_at hl 0 rfl) ?_
  refine lv_iconst (v := nI 1) hx hb dL_law_744 (by decide) ?_
  refine z_iadd hx hb dL_law_745 ?_
  refine s_ld hC hS (i := 7 * n + 1) (by omega) hv1 dL_law_746 ?_
  refine lv_aload_n hx hb dL_law_747 rfl (lv_at hl 3 rfl) ?_
  refine lv_iload_n hx hb dL_law_748 rfl (lv_at hl 0 rfl) ?_
  refine lv_iconst (v := nI 2) hx hb dL_law_749 (by decide) ?_
  refine z_iadd hx hb dL_law_750 ?_
  refine s_ld hC hS (i := 7 * n + 2) (by omega) hv2 dL_law_751 ?_
  obtain ⟨tf, hR⟩ := hO.clR
  refine z_callV (As := [.int v1, .int v2]) (rest := []) hF hK (c_X4_permit l D y x (x + 76) d ca pa pk k len tf v1 v2 (hr) (hk4) (hl80)) (cwV 2 hts gL_law_X4_permit rfl rfl rfl (by decide +kernel) ⟨Nat.le_of_ble_eq_true rfl, Nat.le_of_ble_eq_true rfl⟩) (cI.recv hK hCI) hR rfl hl.1 rfl (Nat.le_of_ble_eq_true rfl) dL_law_752 ⟨by show _ ≤ 600000; omega, by show _ ≤ 7302250; omega⟩ ?_
  refine lv_aload_n hx hb dL_law_755 rfl (lv_at hl 1 rfl) ?_
  refine lv_aload_n hx hb dL_law_756 rfl (lv_at hl 3 rfl) ?_
  refine lv_iload_n hx hb dL_law_757 rfl (lv_at hl 0 rfl) ?_
  refine lv_iconst (v := nI 1) hx hb dL_law_758 (by decide) ?_
  refine z_iadd hx hb dL_law_759 ?_
  refine s_ld hC hS (i := 7 * n + 1) (by omega) hv1 dL_law_760 ?_
  refine lv_aload_n hx hb dL_law_761 rfl (lv_at hl 3 rfl) ?_
  refine lv_iload_n hx hb dL_law_762 rfl (lv_at hl 0 rfl) ?_
  refine lv_iconst (v := nI 2) hx hb dL_law_763 (by decide) ?_
  refine z_iadd hx hb dL_law_764 ?_
  refine s_ld hC hS (i := 7 * n + 2) (by omega) hv2 dL_law_765 ?_
  refine z_callV (As := [.int v1, .int v2]) (rest := [.int (aPermit d v1 v2)]) hF hK (c_X5_permit l D y (x + 70) d v1 v2 (hI)) (cwV 2 hts gL_law_X5_permit rfl rfl rfl (by decide +kernel) ⟨Nat.le_of_ble_eq_true rfl, Nat.le_of_ble_eq_true rfl⟩) (mI.recv hK (⟨as, gt, pa9, rs, hM⟩ : mI D y (x + 70) d was tx k len _)) (zM_of hM) rfl hl.1 rfl (Nat.le_of_ble_eq_true rfl) dL_law_766 ⟨by show _ ≤ 600000; omega, by show _ ≤ 7302250; omega⟩ ?_
  refine lv_icmp_eq (tgt := 1008) hx hb dL_law_769 (by decide) (fun _ => ?_) (fun q => absurd (show (aPermit d v1 v2) = (aPermit d v1 v2) from rfl) q)
  refine lv_iinc (v := nI (7 * n + 7)) (lv' := [(3, .int (nI (7 * n + 7))), (2, .ref (x + 70)), (1, .ref x), (0, .ref b)]) hx hb dL_law_1008 hl (k := 0) rfl (in7 _) (by decide) rfl (fun ls hl => ?_)
  refine lv_goto (tgt := 18) hx hb dL_law_1011 (by decide) ?_
  refine W.widen (k := 76 + 16 * (n + 1)) (n := 13938 + 112 * (n + 1)) (by omega) (by omega) ?_
  exact ih _ _ _ ⟨d, was, tx, k, len, hJ1, ⟨_, _, _, _, _, _, _, _, hO, hH⟩, ⟨_, _, _, _, hM⟩, hbs, hS⟩ (lv_sub hl [0, 1, 2, 3] rfl)
set_option maxRecDepth 100000 in
set_option maxHeartbeats 4000000 in
theorem L_inOrder {p : Program} {l : Launch} {e : Env} {s : State} {m : MethodId} {below : List Frame} {meth : Method} {c : Code} {b L x : Nat} {xs : Nat → Int32} {D : va_G} {y : zY} (hC : lwX p s m meth c b L x xs D y) {n : Nat} (hn : 7 * n + 7 ≤ L) {H : Heap} {locs : List Loc} {ls : Array Slot} (hI0 : lI D y x s n H locs) (hl : lv_has ls 4 [(3, .int (nI (7 * n))), (2, .ref (x + 70)), (1, .ref x), (0, .ref b)])
    (ih : ∀ (H' : Heap) (locs' : List Loc) (ls' : Array Slot), lI D y x s (n + 1) H' locs' → lv_has ls' 4 [(3, .int (nI (7 * n + 7))), (2, .ref (x + 70)), (1, .ref x), (0, .ref b)] → W p l e room_1 s m #[Value.ref b] below meth c H' locs' (76 + 16 * (n + 1)) (13938 + 112 * (n + 1)) (lw_Z below #[Value.ref b] s) (F0 m 18 ls' [])) : W p l e room_1 s m #[Value.ref b] below meth c H locs (76 + 16 * n) (13938 + 112 * n) (lw_Z below #[Value.ref b] s) (F0 m 774 ls []) := by
  obtain ⟨hx, hb, hret, hlocks, hF, hK, -, -, hL, hxs, -⟩ := id hC
  have hts := hF.2.2.2.2
  obtain ⟨d, was, tx, k, len, hJ, hCI, hMI, hbs, hS⟩ := hI0
  obtain ⟨ca, pa, pk, T, P, rot, ts, tn, hO, hH⟩ := id hCI
  obtain ⟨as, gt, pa9, rs, hM⟩ := id hMI
  have hn1 : n ≤ 511 := by omega
  have hJ1 := hJ.mono (Nat.le_succ n)
  obtain ⟨hZ, hk4, hl80, hW⟩ := id hJ
  have hr := hZ.1
  have hI := hr.1
  have hbd : x + 70 ≤ x + 76 := by omega
  obtain ⟨v1, hv1⟩ : ∃ v, xs (7 * n + 1) = v := ⟨_, rfl⟩
  refine lv_aload_n hx hb dL_law_774 rfl (lv_at hl 2 rfl) ?_
  refine lv_aload_n hx hb dL_law_775 rfl (lv_at hl 3 rfl) ?_
  refine lv_iload_n hx hb dL_law_776 rfl (lv_at hl 0 rfl) ?_
  refine lv_iconst (v := nI 1) hx hb dL_law_777 (by decide) ?_
  refine z_iadd hx hb dL_law_778 ?_
  refine s_ld hC hS (i := 7 * n + 1) (by omega) hv1 dL_law_779 ?_
  obtain ⟨tf, hR⟩ := hO.clR
  refine z_callV (As := [.int v1]) (rest := []) hF hK (c_X4_inOrder l D y x (x + 76) d ca pa pk k len tf v1 (hr) (hk4) (hl80)) (cwV 1 hts gL_law_X4_inOrder rfl rfl rfl (by decide +kernel) ⟨Nat.le_of_ble_eq_true rfl, Nat.le_of_ble_eq_true rfl⟩) (cI.recv hK hCI) hR rfl hl.1 rfl (Nat.le_of_ble_eq_true rfl) dL_law_780 ⟨by show _ ≤ 600000; omega, by show _ ≤ 7302250; omega⟩ ?_
  refine lv_aload_n hx hb dL_law_783 rfl (lv_at hl 1 rfl) ?_
  refine lv_aload_n hx hb dL_law_784 rfl (lv_at hl 3 rfl) ?_
  refine lv_iload_n hx hb dL_law_785 rfl (lv_at hl 0 rfl) ?_
  refine lv_iconst (v := nI 1) hx hb dL_law_786 (by decide) ?_
  refine z_iadd hx hb dL_law_787 ?_
  refine s_ld hC hS (i := 7 * n + 1) (by omega) hv1 dL_law_788 ?_
  refine z_callV (As := [.int v1]) (rest := [.int (aInOrder d v1)]) hF hK (c_X5_inOrder l D y (x + 70) d v1 (hI)) (cwV 1 hts gL_law_X5_inOrder rfl rfl rfl (by decide +kernel) ⟨Nat.le_of_ble_eq_true rfl, Nat.le_of_ble_eq_true rfl⟩) (mI.recv hK (⟨as, gt, pa9, rs, hM⟩ : mI D y (x + 70) d was tx k len _)) (zM_of hM) rfl hl.1 rfl (Nat.le_of_ble_eq_true rfl) dL_law_789 ⟨by show _ ≤ 600000; omega, by show _ ≤ 7302250; omega⟩ ?_
  refine lv_icmp_eq (tgt := 1008) hx hb dL_law_792 (by decide) (fun _ => ?_) (fun q => absurd (show (aInOrder d v1) = (aInOrder d v1) from rfl) q)
  refine lv_iinc (v := nI (7 * n + 7)) (lv' := [(3, .int (nI (7 * n + 7))), (2, .ref (x + 70)), (1, .ref x), (0, .ref b)]) hx hb dL_law_1008 hl (k := 0) rfl (in7 _) (by decide) rfl (fun ls hl => ?_)
  refine lv_goto (tgt := 18) hx hb dL_law_1011 (by decide) ?_
  refine W.widen (k := 76 + 16 * (n + 1)) (n := 13938 + 112 * (n + 1)) (by omega) (by omega) ?_
  exact ih _ _ _ ⟨d, was, tx, k, len, hJ1, ⟨_, _, _, _, _, _, _, _, hO, hH⟩, ⟨_, _, _, _, hM⟩, hbs, hS⟩ (lv_sub hl [0, 1, 2, 3] rfl)
set_option maxRecDepth 100000 in
set_option maxHeartbeats 4000000 in
theorem L_shares {p : Program} {l : Launch} {e : Env} {s : State} {m : MethodId} {below : List Frame} {meth : Method} {c : Code} {b L x : Nat} {xs : Nat → Int32} {D : va_G} {y : zY} (hC : lwX p s m meth c b L x xs D y) {n : Nat} (hn : 7 * n + 7 ≤ L) {H : Heap} {locs : List Loc} {ls : Array Slot} (hI0 : lI D y x s n H locs) (hl : lv_has ls 4 [(3, .int (nI (7 * n))), (2, .ref (x + 70)), (1, .ref x), (0, .ref b)])
    (ih : ∀ (H' : Heap) (locs' : List Loc) (ls' : Array Slot), lI D y x s (n + 1) H' locs' → lv_has ls' 4 [(3, .int (nI (7 * n + 7))), (2, .ref (x + 70)), (1, .ref x), (0, .ref b)] → W p l e room_1 s m #[Value.ref b] below meth c H' locs' (76 + 16 * (n + 1)) (13938 + 112 * (n + 1)) (lw_Z below #[Value.ref b] s) (F0 m 18 ls' [])) : W p l e room_1 s m #[Value.ref b] below meth c H locs (76 + 16 * n) (13938 + 112 * n) (lw_Z below #[Value.ref b] s) (F0 m 797 ls []) := by
  obtain ⟨hx, hb, hret, hlocks, hF, hK, -, -, hL, hxs, -⟩ := id hC
  have hts := hF.2.2.2.2
  obtain ⟨d, was, tx, k, len, hJ, hCI, hMI, hbs, hS⟩ := hI0
  obtain ⟨ca, pa, pk, T, P, rot, ts, tn, hO, hH⟩ := id hCI
  obtain ⟨as, gt, pa9, rs, hM⟩ := id hMI
  have hn1 : n ≤ 511 := by omega
  have hJ1 := hJ.mono (Nat.le_succ n)
  obtain ⟨hZ, hk4, hl80, hW⟩ := id hJ
  have hr := hZ.1
  have hI := hr.1
  have hbd : x + 70 ≤ x + 76 := by omega
  obtain ⟨v1, hv1⟩ : ∃ v, xs (7 * n + 1) = v := ⟨_, rfl⟩
  obtain ⟨v2, hv2⟩ : ∃ v, xs (7 * n + 2) = v := ⟨_, rfl⟩
  refine lv_aload_n hx hb dL_law_797 rfl (lv_at hl 2 rfl) ?_
  refine lv_aload_n hx hb dL_law_798 rfl (lv_at hl 3 rfl) ?_
  refine lv_iload_n hx hb dL_law_799 rfl (lv_at hl 0 rfl) ?_
  refine lv_iconst (v := nI 1) hx hb dL_law_800 (by decide) ?_
  refine z_iadd hx hb dL_law_801 ?_
  refine s_ld hC hS (i := 7 * n + 1) (by omega) hv1 dL_law_802 ?_
  refine lv_aload_n hx hb dL_law_803 rfl (lv_at hl 3 rfl) ?_
  refine lv_iload_n hx hb dL_law_804 rfl (lv_at hl 0 rfl) ?_
  refine lv_iconst (v := nI 2) hx hb dL_law_805 (by decide) ?_
  refine z_iadd hx hb dL_law_806 ?_
  refine s_ld hC hS (i := 7 * n + 2) (by omega) hv2 dL_law_807 ?_
  obtain ⟨tf, hR⟩ := hO.clR
  refine z_callV (As := [.int v1, .int v2]) (rest := []) hF hK (c_X4_shares l D y x (x + 76) d ca pa pk k len tf v1 v2 (hr) (hk4) (hl80)) (cwV 2 hts gL_law_X4_shares rfl rfl rfl (by decide +kernel) ⟨Nat.le_of_ble_eq_true rfl, Nat.le_of_ble_eq_true rfl⟩) (cI.recv hK hCI) hR rfl hl.1 rfl (Nat.le_of_ble_eq_true rfl) dL_law_808 ⟨by show _ ≤ 600000; omega, by show _ ≤ 7302250; omega⟩ ?_
  refine lv_aload_n hx hb dL_law_811 rfl (lv_at hl 1 rfl) ?_
  refine lv_aload_n hx hb dL_law_812 rfl (lv_at hl 3 rfl) ?_
  refine lv_iload_n hx hb dL_law_813 rfl (lv_at hl 0 rfl) ?_
  refine lv_iconst (v := nI 1) hx hb dL_law_814 (by decide) ?_
  refine z_iadd hx hb dL_law_815 ?_
  refine s_ld hC hS (i := 7 * n + 1) (by omega) hv1 dL_law_816 ?_
  refine lv_aload_n hx hb dL_law_817 rfl (lv_at hl 3 rfl) ?_
  refine lv_iload_n hx hb dL_law_818 rfl (lv_at hl 0 rfl) ?_
  refine lv_iconst (v := nI 2) hx hb dL_law_819 (by decide) ?_
  refine z_iadd hx hb dL_law_820 ?_
  refine s_ld hC hS (i := 7 * n + 2) (by omega) hv2 dL_law_821 ?_
  refine z_callV (As := [.int v1, .int v2]) (rest := [.int (aShares d v1 v2)]) hF hK (c_X5_shares l D y (x + 70) d v1 v2 (hI)) (cwV 2 hts gL_law_X5_shares rfl rfl rfl (by decide +kernel) ⟨Nat.le_of_ble_eq_true rfl, Nat.le_of_ble_eq_true rfl⟩) (mI.recv hK (⟨as, gt, pa9, rs, hM⟩ : mI D y (x + 70) d was tx k len _)) (zM_of hM) rfl hl.1 rfl (Nat.le_of_ble_eq_true rfl) dL_law_822 ⟨by show _ ≤ 600000; omega, by show _ ≤ 7302250; omega⟩ ?_
  refine lv_icmp_eq (tgt := 1008) hx hb dL_law_825 (by decide) (fun _ => ?_) (fun q => absurd (show (aShares d v1 v2) = (aShares d v1 v2) from rfl) q)
  refine lv_iinc (v := nI (7 * n + 7)) (lv' := [(3, .int (nI (7 * n + 7))), (2, .ref (x + 70)), (1, .ref x), (0, .ref b)]) hx hb dL_law_1008 hl (k := 0) rfl (in7 _) (by decide) rfl (fun ls hl => ?_)
  refine lv_goto (tgt := 18) hx hb dL_law_1011 (by decide) ?_
  refine W.widen (k := 76 + 16 * (n + 1)) (n := 13938 + 112 * (n + 1)) (by omega) (by omega) ?_
  exact ih _ _ _ ⟨d, was, tx, k, len, hJ1, ⟨_, _, _, _, _, _, _, _, hO, hH⟩, ⟨_, _, _, _, hM⟩, hbs, hS⟩ (lv_sub hl [0, 1, 2, 3] rfl)
set_option maxRecDepth 100000 in
set_option maxHeartbeats 4000000 in
theorem L_inTheWay {p : Program} {l : Launch} {e : Env} {s : State} {m : MethodId} {below : List Frame} {meth : Method} {c : Code} {b L x : Nat} {xs : Nat → Int32} {D : va_G} {y : zY} (hC : lwX p s m meth c b L x xs D y) {n : Nat} (hn : 7 * n + 7 ≤ L) {H : Heap} {locs : List Loc} {ls : Array Slot} (hI0 : lI D y x s n H locs) (hl : lv_has ls 4 [(3, .int (nI (7 * n))), (2, .ref (x + 70)), (1, .ref x), (0, .ref b)])
    (ih : ∀ (H' : Heap) (locs' : List Loc) (ls' : Array Slot), lI D y x s (n + 1) H' locs' → lv_has ls' 4 [(3, .int (nI (7 * n + 7))), (2, .ref (x + 70)), (1, .ref x), (0, .ref b)] → W p l e room_1 s m #[Value.ref b] below meth c H' locs' (76 + 16 * (n + 1)) (13938 + 112 * (n + 1)) (lw_Z below #[Value.ref b] s) (F0 m 18 ls' [])) : W p l e room_1 s m #[Value.ref b] below meth c H locs (76 + 16 * n) (13938 + 112 * n) (lw_Z below #[Value.ref b] s) (F0 m 830 ls []) := by
  obtain ⟨hx, hb, hret, hlocks, hF, hK, -, -, hL, hxs, -⟩ := id hC
  have hts := hF.2.2.2.2
  obtain ⟨d, was, tx, k, len, hJ, hCI, hMI, hbs, hS⟩ := hI0
  obtain ⟨ca, pa, pk, T, P, rot, ts, tn, hO, hH⟩ := id hCI
  obtain ⟨as, gt, pa9, rs, hM⟩ := id hMI
  have hn1 : n ≤ 511 := by omega
  have hJ1 := hJ.mono (Nat.le_succ n)
  obtain ⟨hZ, hk4, hl80, hW⟩ := id hJ
  have hr := hZ.1
  have hI := hr.1
  have hbd : x + 70 ≤ x + 76 := by omega
  obtain ⟨v1, hv1⟩ : ∃ v, xs (7 * n + 1) = v := ⟨_, rfl⟩
  obtain ⟨v2, hv2⟩ : ∃ v, xs (7 * n + 2) = v := ⟨_, rfl⟩
  obtain ⟨v3, hv3⟩ : ∃ v, xs (7 * n + 3) = v := ⟨_, rfl⟩
  obtain ⟨v4, hv4⟩ : ∃ v, xs (7 * n + 4) = v := ⟨_, rfl⟩
  refine lv_aload_n hx hb dL_law_830 rfl (lv_at hl 2 rfl) ?_
  refine lv_aload_n hx hb dL_law_831 rfl (lv_at hl 3 rfl) ?_
  refine lv_iload_n hx hb dL_law_832 rfl (lv_at hl 0 rfl) ?_
  refine lv_iconst (v := nI 1) hx hb dL_law_833 (by decide) ?_
  refine z_iadd hx hb dL_law_834 ?_
  refine s_ld hC hS (i := 7 * n + 1) (by omega) hv1 dL_law_835 ?_
  refine lv_aload_n hx hb dL_law_836 rfl (lv_at hl 3 rfl) ?_
  refine lv_iload_n hx hb dL_law_837 rfl (lv_at hl 0 rfl) ?_
  refine lv_iconst (v := nI 2) hx hb dL_law_838 (by decide) ?_
  refine z_iadd hx hb dL_law_839 ?_
  refine s_ld hC hS (i := 7 * n + 2) (by omega) hv2 dL_law_840 ?_
  refine lv_aload_n hx hb dL_law_841 rfl (lv_at hl 3 rfl) ?_
  refine lv_iload_n hx hb dL_law_842 rfl (lv_at hl 0 rfl) ?_
  refine lv_iconst (v := nI 3) hx hb dL_law_843 (by decide) ?_
  refine z_iadd hx hb dL_law_844 ?_
  refine s_ld hC hS (i := 7 * n + 3) (by omega) hv3 dL_law_845 ?_
  refine lv_aload_n hx hb dL_law_846 rfl (lv_at hl 3 rfl) ?_
  refine lv_iload_n hx hb dL_law_847 rfl (lv_at hl 0 rfl) ?_
  refine lv_iconst (v := nI 4) hx hb dL_law_848 (by decide) ?_
  refine z_iadd hx hb dL_law_849 ?_
  refine s_ld hC hS (i := 7 * n + 4) (by omega) hv4 dL_law_850 ?_
  obtain ⟨tf, hR⟩ := hO.clR
  refine z_callV (As := [.int v1, .int v2, .int v3, .int v4]) (rest := []) hF hK (c_X4_inTheWay l D y x (x + 76) d ca pa pk k len tf v1 v2 v3 v4 (hr) (hk4) (hl80)) (cwV 4 hts gL_law_X4_inTheWay rfl rfl rfl (by decide +kernel) ⟨Nat.le_of_ble_eq_true rfl, Nat.le_of_ble_eq_true rfl⟩) (cI.recv hK hCI) hR rfl hl.1 rfl (Nat.le_of_ble_eq_true rfl) dL_law_851 ⟨by show _ ≤ 600000; omega, by show _ ≤ 7302250; omega⟩ ?_
  refine lv_aload_n hx hb dL_law_854 rfl (lv_at hl 1 rfl) ?_
  refine lv_aload_n hx hb dL_law_855 rfl (lv_at hl 3 rfl) ?_
  refine lv_iload_n hx hb dL_law_856 rfl (lv_at hl 0 rfl) ?_
  refine lv_iconst (v := nI 1) hx hb dL_law_857 (by decide) ?_
  refine z_iadd hx hb dL_law_858 ?_
  refine s_ld hC hS (i := 7 * n + 1) (by omega) hv1 dL_law_859 ?_
  refine lv_aload_n hx hb dL_law_860 rfl (lv_at hl 3 rfl) ?_
  refine lv_iload_n hx hb dL_law_861 rfl (lv_at hl 0 rfl) ?_
  refine lv_iconst (v := nI 2) hx hb dL_law_862 (by decide) ?_
  refine z_iadd hx hb dL_law_863 ?_
  refine s_ld hC hS (i := 7 * n + 2) (by omega) hv2 dL_law_864 ?_
  refine lv_aload_n hx hb dL_law_865 rfl (lv_at hl 3 rfl) ?_
  refine lv_iload_n hx hb dL_law_866 rfl (lv_at hl 0 rfl) ?_
  refine lv_iconst (v := nI 3) hx hb dL_law_867 (by decide) ?_
  refine z_iadd hx hb dL_law_868 ?_
  refine s_ld hC hS (i := 7 * n + 3) (by omega) hv3 dL_law_869 ?_
  refine lv_aload_n hx hb dL_law_870 rfl (lv_at hl 3 rfl) ?_
  refine lv_iload_n hx hb dL_law_871 rfl (lv_at hl 0 rfl) ?_
  refine lv_iconst (v := nI 4) hx hb dL_law_872 (by decide) ?_
  refine z_iadd hx hb dL_law_873 ?_
  refine s_ld hC hS (i := 7 * n + 4) (by omega) hv4 dL_law_874 ?_
  refine z_callV (As := [.int v1, .int v2, .int v3, .int v4]) (rest := [.int (aInTheWay d v1 v2 v3 v4)]) hF hK (c_X5_inTheWay l D y (x + 70) d v1 v2 v3 v4 (hI)) (cwV 4 hts gL_law_X5_inTheWay rfl rfl rfl (by decide +kernel) ⟨Nat.le_of_ble_eq_true rfl, Nat.le_of_ble_eq_true rfl⟩) (mI.recv hK (⟨as, gt, pa9, rs, hM⟩ : mI D y (x + 70) d was tx k len _)) (zM_of hM) rfl hl.1 rfl (Nat.le_of_ble_eq_true rfl) dL_law_875 ⟨by show _ ≤ 600000; omega, by show _ ≤ 7302250; omega⟩ ?_
  refine lv_icmp_eq (tgt := 1008) hx hb dL_law_878 (by decide) (fun _ => ?_) (fun q => absurd (show (aInTheWay d v1 v2 v3 v4) = (aInTheWay d v1 v2 v3 v4) from rfl) q)
  refine lv_iinc (v := nI (7 * n + 7)) (lv' := [(3, .int (nI (7 * n + 7))), (2, .ref (x + 70)), (1, .ref x), (0, .ref b)]) hx hb dL_law_1008 hl (k := 0) rfl (in7 _) (by decide) rfl (fun ls hl => ?_)
  refine lv_goto (tgt := 18) hx hb dL_law_1011 (by decide) ?_
  refine W.widen (k := 76 + 16 * (n + 1)) (n := 13938 + 112 * (n + 1)) (by omega) (by omega) ?_
  exact ih _ _ _ ⟨d, was, tx, k, len, hJ1, ⟨_, _, _, _, _, _, _, _, hO, hH⟩, ⟨_, _, _, _, hM⟩, hbs, hS⟩ (lv_sub hl [0, 1, 2, 3] rfl)
set_option maxRecDepth 100000 in
set_option maxHeartbeats 4000000 in
theorem L_firstFree {p : Program} {l : Launch} {e : Env} {s : State} {m : MethodId} {below : List Frame} {meth : Method} {c : Code} {b L x : Nat} {xs : Nat → Int32} {D : va_G} {y : zY} (hC : lwX p s m meth c b L x xs D y) {n : Nat} (hn : 7 * n + 7 ≤ L) {H : Heap} {locs : List Loc} {ls : Array Slot} (hI0 : lI D y x s n H locs) (hl : lv_has ls 4 [(3, .int (nI (7 * n))), (2, .ref (x + 70)), (1, .ref x), (0, .ref b)])
    (ih : ∀ (H' : Heap) (locs' : List Loc) (ls' : Array Slot), lI D y x s (n + 1) H' locs' → lv_has ls' 4 [(3, .int (nI (7 * n + 7))), (2, .ref (x + 70)), (1, .ref x), (0, .ref b)] → W p l e room_1 s m #[Value.ref b] below meth c H' locs' (76 + 16 * (n + 1)) (13938 + 112 * (n + 1)) (lw_Z below #[Value.ref b] s) (F0 m 18 ls' [])) : W p l e room_1 s m #[Value.ref b] below meth c H locs (76 + 16 * n) (13938 + 112 * n) (lw_Z below #[Value.ref b] s) (F0 m 883 ls []) := by
  obtain ⟨hx, hb, hret, hlocks, hF, hK, -, -, hL, hxs, -⟩ := id hC
  have hts := hF.2.2.2.2
  obtain ⟨d, was, tx, k, len, hJ, hCI, hMI, hbs, hS⟩ := hI0
  obtain ⟨ca, pa, pk, T, P, rot, ts, tn, hO, hH⟩ := id hCI
  obtain ⟨as, gt, pa9, rs, hM⟩ := id hMI
  have hn1 : n ≤ 511 := by omega
  have hJ1 := hJ.mono (Nat.le_succ n)
  obtain ⟨hZ, hk4, hl80, hW⟩ := id hJ
  have hr := hZ.1
  have hI := hr.1
  have hbd : x + 70 ≤ x + 76 := by omega
  obtain ⟨v1, hv1⟩ : ∃ v, xs (7 * n + 1) = v := ⟨_, rfl⟩
  obtain ⟨v2, hv2⟩ : ∃ v, xs (7 * n + 2) = v := ⟨_, rfl⟩
  obtain ⟨v3, hv3⟩ : ∃ v, xs (7 * n + 3) = v := ⟨_, rfl⟩
  obtain ⟨v4, hv4⟩ : ∃ v, xs (7 * n + 4) = v := ⟨_, rfl⟩
  refine lv_aload_n hx hb dL_law_883 rfl (lv_at hl 2 rfl) ?_
  refine lv_aload_n hx hb dL_law_884 rfl (lv_at hl 3 rfl) ?_
  refine lv_iload_n hx hb dL_law_885 rfl (lv_at hl 0 rfl) ?_
  refine lv_iconst (v := nI 1) hx hb dL_law_886 (by decide) ?_
  refine z_iadd hx hb dL_law_887 ?_
  refine s_ld hC hS (i := 7 * n + 1) (by omega) hv1 dL_law_888 ?_
  refine lv_aload_n hx hb dL_law_889 rfl (lv_at hl 3 rfl) ?_
  refine lv_iload_n hx hb dL_law_890 rfl (lv_at hl 0 rfl) ?_
  refine lv_iconst (v := nI 2) hx hb dL_law_891 (by decide) ?_
  refine z_iadd hx hb dL_law_892 ?_
  refine s_ld hC hS (i := 7 * n + 2) (by omega) hv2 dL_law_893 ?_
  refine lv_aload_n hx hb dL_law_894 rfl (lv_at hl 3 rfl) ?_
  refine lv_iload_n hx hb dL_law_895 rfl (lv_at hl 0 rfl) ?_
  refine lv_iconst (v := nI 3) hx hb dL_law_896 (by decide) ?_
  refine z_iadd hx hb dL_law_897 ?_
  refine s_ld hC hS (i := 7 * n + 3) (by omega) hv3 dL_law_898 ?_
  refine lv_aload_n hx hb dL_law_899 rfl (lv_at hl 3 rfl) ?_
  refine lv_iload_n hx hb dL_law_900 rfl (lv_at hl 0 rfl) ?_
  refine lv_iconst (v := nI 4) hx hb dL_law_901 (by decide) ?_
  refine z_iadd hx hb dL_law_902 ?_
  refine s_ld hC hS (i := 7 * n + 4) (by omega) hv4 dL_law_903 ?_
  obtain ⟨tf, hR⟩ := hO.clR
  refine z_callV (As := [.int v1, .int v2, .int v3, .int v4]) (rest := []) hF hK (c_X4_firstFree l D y x (x + 76) d ca pa pk k len tf v1 v2 v3 v4 (hr) (hk4) (hl80)) (cwV 4 hts gL_law_X4_firstFree rfl rfl rfl (by decide +kernel) ⟨Nat.le_of_ble_eq_true rfl, Nat.le_of_ble_eq_true rfl⟩) (cI.recv hK hCI) hR rfl hl.1 rfl (Nat.le_of_ble_eq_true rfl) dL_law_904 ⟨by show _ ≤ 600000; omega, by show _ ≤ 7302250; omega⟩ ?_
  refine lv_aload_n hx hb dL_law_907 rfl (lv_at hl 1 rfl) ?_
  refine lv_aload_n hx hb dL_law_908 rfl (lv_at hl 3 rfl) ?_
  refine lv_iload_n hx hb dL_law_909 rfl (lv_at hl 0 rfl) ?_
  refine lv_iconst (v := nI 1) hx hb dL_law_910 (by decide) ?_
  refine z_iadd hx hb dL_law_911 ?_
  refine s_ld hC hS (i := 7 * n + 1) (by omega) hv1 dL_law_912 ?_
  refine lv_aload_n hx hb dL_law_913 rfl (lv_at hl 3 rfl) ?_
  refine lv_iload_n hx hb dL_law_914 rfl (lv_at hl 0 rfl) ?_
  refine lv_iconst (v := nI 2) hx hb dL_law_915 (by decide) ?_
  refine z_iadd hx hb dL_law_916 ?_
  refine s_ld hC hS (i := 7 * n + 2) (by omega) hv2 dL_law_917 ?_
  refine lv_aload_n hx hb dL_law_918 rfl (lv_at hl 3 rfl) ?_
  refine lv_iload_n hx hb dL_law_919 rfl (lv_at hl 0 rfl) ?_
  refine lv_iconst (v := nI 3) hx hb dL_law_920 (by decide) ?_
  refine z_iadd hx hb dL_law_921 ?_
  refine s_ld hC hS (i := 7 * n + 3) (by omega) hv3 dL_law_922 ?_
  refine lv_aload_n hx hb dL_law_923 rfl (lv_at hl 3 rfl) ?_
  refine lv_iload_n hx hb dL_law_924 rfl (lv_at hl 0 rfl) ?_
  refine lv_iconst (v := nI 4) hx hb dL_law_925 (by decide) ?_
  refine z_iadd hx hb dL_law_926 ?_
  refine s_ld hC hS (i := 7 * n + 4) (by omega) hv4 dL_law_927 ?_
  refine z_callV (As := [.int v1, .int v2, .int v3, .int v4]) (rest := [.int (aFirstFree d v1 v2 v3 v4)]) hF hK (c_X5_firstFree l D y (x + 70) d v1 v2 v3 v4 (hI)) (cwV 4 hts gL_law_X5_firstFree rfl rfl rfl (by decide +kernel) ⟨Nat.le_of_ble_eq_true rfl, Nat.le_of_ble_eq_true rfl⟩) (mI.recv hK (⟨as, gt, pa9, rs, hM⟩ : mI D y (x + 70) d was tx k len _)) (zM_of hM) rfl hl.1 rfl (Nat.le_of_ble_eq_true rfl) dL_law_928 ⟨by show _ ≤ 600000; omega, by show _ ≤ 7302250; omega⟩ ?_
  refine lv_icmp_eq (tgt := 1008) hx hb dL_law_931 (by decide) (fun _ => ?_) (fun q => absurd (show (aFirstFree d v1 v2 v3 v4) = (aFirstFree d v1 v2 v3 v4) from rfl) q)
  refine lv_iinc (v := nI (7 * n + 7)) (lv' := [(3, .int (nI (7 * n + 7))), (2, .ref (x + 70)), (1, .ref x), (0, .ref b)]) hx hb dL_law_1008 hl (k := 0) rfl (in7 _) (by decide) rfl (fun ls hl => ?_)
  refine lv_goto (tgt := 18) hx hb dL_law_1011 (by decide) ?_
  refine W.widen (k := 76 + 16 * (n + 1)) (n := 13938 + 112 * (n + 1)) (by omega) (by omega) ?_
  exact ih _ _ _ ⟨d, was, tx, k, len, hJ1, ⟨_, _, _, _, _, _, _, _, hO, hH⟩, ⟨_, _, _, _, hM⟩, hbs, hS⟩ (lv_sub hl [0, 1, 2, 3] rfl)
