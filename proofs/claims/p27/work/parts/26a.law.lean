/-! THE LAW: behind each step; its end -/
set_option maxRecDepth 100000 in
set_option maxHeartbeats 4000000 in
theorem L_716 {p : Program} {l : Launch} {e : Env} {s : State} {m : MethodId} {below : List Frame} {meth : Method} {c : Code} {b L x : Nat} {xs : Nat → Int32} {D : va_G} {y : zY} (hC : lwX p s m meth c b L x xs D y) {u : Nat} (hu : u < 32) {H : Heap} {locs : List Loc} {ls : Array Slot} (hI0 : lI D y x s (u + 1) (u + 1) 4 H locs) (hl : lv_has ls 18 [(3, .int (nI u)), (2, .int (nI 1)), (1, .ref x), (0, .ref b)])
    (ih : ∀ (H' : Heap) (locs' : List Loc) (ls' : Array Slot), lI D y x s (u + 1) (u + 1) 4 H' locs' → lv_has ls' 18 [(3, .int (nI (u + 1))), (2, .int (nI 1)), (1, .ref x), (0, .ref b)] → W p l e room_1 s m #[Value.ref b] below meth c H' locs' (78 + (u + 1)) (5330 + 7 * (u + 1)) (lw_Z below #[Value.ref b] s) (F0 m 127 ls' [])) : W p l e room_1 s m #[Value.ref b] below meth c H locs (78 + (u + 1)) (5330 + 7 * (u + 1)) (lw_Z below #[Value.ref b] s) (F0 m 716 ls []) := by
  obtain ⟨hx, hb, hret, hlocks, hF, hK, hXX, hbl, hL, hxs, -⟩ := id hC
  have hts := hF.2.2.2.2
  have hown : s.vm.findClass RL = some m.cls := hF.2.2.2.1
  obtain ⟨d, ca, pa, pk, T, P, k, rot, ts, tn, tx, hJ, hk4, hO, hbs, hS⟩ := hI0
  have hv24 := hJ.1.1.2.1
  have hG2 := hJ.1.1.1.ng2
  refine lv_iload_n hx hb dL_law_716 rfl (lv_at hl 1 rfl) ?_
  refine n_if_eq (tgt := 740) hx hb (by omega) dL_law_717 (by decide) (fun c => absurd c (by decide)) (fun _ => ?_)
  refine lv_aload_n hx hb dL_law_720 rfl (lv_at hl 2 rfl) ?_
  obtain ⟨tf, hR⟩ := hO.clR
  refine z_callS (As := [.ref x]) (rest := []) hF hK (c_L_holds l D y x (x + 70) d ca pa pk k 0 tf (u + 1) (hJ.1) (by omega) (hJ.2.1) (hk4) (by decide)) (va_cwS 1 hts gL_law_L_holds rfl rfl rfl (by decide +kernel) ⟨Nat.le_of_ble_eq_true rfl, Nat.le_of_ble_eq_true rfl⟩) hR rfl hl.1 rfl (Nat.le_of_ble_eq_true rfl) dL_law_721 ⟨by show _ ≤ 600000; omega, by show _ ≤ 7302250; omega⟩ ?_
  refine z_ifeq (tgt := 740) hx hb dL_law_724 (by decide) (fun c724 => ?_) (fun c724 => ?_)
  · exact absurd c724 (by decide)
  · refine lv_aload_n hx hb dL_law_727 rfl (lv_at hl 2 rfl) ?_
    refine lv_bipush (v := (nI 6)) hx hb dL_law_728 (by decide) ?_
    refine z_callV (As := [.int (nI 6)]) (rest := []) hF hK (c_X4_count l D y x (x + 70) d ca pa pk k 0 tf (nI 6) (hJ.1.1) (hk4) (by decide)) (cwV 1 hts gL_law_X4_count rfl rfl rfl (by decide +kernel) ⟨Nat.le_of_ble_eq_true rfl, Nat.le_of_ble_eq_true rfl⟩) (xO.recv hK hO) hR rfl hl.1 rfl (Nat.le_of_ble_eq_true rfl) dL_law_730 ⟨by show _ ≤ 600000; omega, by show _ ≤ 7302250; omega⟩ ?_
    refine z_topi (z := (nI 0)) (cnt_c6.trans hJ.2.1.2.1.tog) ?_
    refine n_if_ne (tgt := 740) hx hb (by omega) dL_law_733 (by decide) (fun c => absurd c (by decide)) (fun _ => ?_)
    refine lv_iconst (v := (nI 1)) hx hb dL_law_736 (by decide) ?_
    refine lv_goto (tgt := 741) hx hb dL_law_737 (by decide) ?_
    refine lv_istore_n (lv' := [(2, .int (nI 1)), (3, .int (nI u)), (1, .ref x), (0, .ref b)]) hx hb dL_law_741 rfl hl (by decide) rfl (fun ls hl => ?_)
    refine lv_iinc (v := (nI (u + 1))) (lv' := [(3, .int (nI (u + 1))), (2, .int (nI 1)), (1, .ref x), (0, .ref b)]) hx hb dL_law_742 hl (k := 1) rfl (in1 _) (by decide) rfl (fun ls hl => ?_)
    refine lv_goto (tgt := 127) hx hb dL_law_745 (by decide) ?_
    exact ih _ _ _ ⟨_, _, _, _, _, _, _, _, _, _, _, hJ, hk4, hO, hbs, hS⟩ (lv_sub hl [0, 1, 2, 3] rfl)
set_option maxRecDepth 100000 in
set_option maxHeartbeats 4000000 in
theorem L_end {p : Program} {l : Launch} {e : Env} {s : State} {m : MethodId} {below : List Frame} {meth : Method} {c : Code} {b L x : Nat} {xs : Nat → Int32} {D : va_G} {y : zY} (hC : lwX p s m meth c b L x xs D y) {H : Heap} {locs : List Loc} {ls : Array Slot} (hI0 : lI D y x s 32 32 4 H locs) (hl : lv_has ls 18 [(3, .int (nI 32)), (2, .int (nI 1)), (1, .ref x), (0, .ref b)]) : W p l e room_1 s m #[Value.ref b] below meth c H locs (78 + 32) (5330 + 7 * 32) (lw_Z below #[Value.ref b] s) (F0 m 748 ls []) := by
  obtain ⟨hx, hb, hret, hlocks, hF, hK, hXX, hbl, hL, hxs, -⟩ := id hC
  have hts := hF.2.2.2.2
  have hown : s.vm.findClass RL = some m.cls := hF.2.2.2.1
  obtain ⟨d, ca, pa, pk, T, P, k, rot, ts, tn, tx, hJ, hk4, hO, hbs, hS⟩ := hI0
  have hv24 := hJ.1.1.2.1
  have hG2 := hJ.1.1.1.ng2
  refine lv_aload_n hx hb dL_law_748 rfl (lv_at hl 2 rfl) ?_
  refine lv_iconst (v := (nI 2)) hx hb dL_law_749 (by decide) ?_
  obtain ⟨tf, hR⟩ := hO.clR
  refine z_callV (As := [.int (nI 2)]) (rest := []) hF hK (c_X4_count l D y x (x + 70) d ca pa pk k 0 tf (nI 2) (hJ.1.1) (hk4) (by decide)) (cwV 1 hts gL_law_X4_count rfl rfl rfl (by decide +kernel) ⟨Nat.le_of_ble_eq_true rfl, Nat.le_of_ble_eq_true rfl⟩) (xO.recv hK hO) hR rfl hl.1 rfl (Nat.le_of_ble_eq_true rfl) dL_law_750 ⟨by show _ ≤ 600000; omega, by show _ ≤ 7302250; omega⟩ ?_
  refine z_topi (z := (nI (nG d))) (cnt_G hJ.1.1.1) ?_
  refine lv_istore_n (lv' := [(3, .int (nI (nG d))), (2, .int (nI 1)), (1, .ref x), (0, .ref b)]) hx hb dL_law_753 rfl hl (by decide) rfl (fun ls hl => ?_)
  refine lv_aload_n hx hb dL_law_754 rfl (lv_at hl 2 rfl) ?_
  refine lv_bipush (v := (nI 7)) hx hb dL_law_755 (by decide) ?_
  refine z_callV (As := [.int (nI 7)]) (rest := []) hF hK (c_X4_count l D y x (x + 70) d ca pa pk k 0 tf (nI 7) (hJ.1.1) (hk4) (by decide)) (cwV 1 hts gL_law_X4_count rfl rfl rfl (by decide +kernel) ⟨Nat.le_of_ble_eq_true rfl, Nat.le_of_ble_eq_true rfl⟩) (xO.recv hK hO) hR rfl hl.1 rfl (Nat.le_of_ble_eq_true rfl) dL_law_757 ⟨by show _ ≤ 600000; omega, by show _ ≤ 7302250; omega⟩ ?_
  refine z_topi (z := (nI k)) (cnt_c7) ?_
  refine lv_istore (lv' := [(4, .int (nI k)), (3, .int (nI (nG d))), (2, .int (nI 1)), (1, .ref x), (0, .ref b)]) hx hb dL_law_760 hl (by decide) rfl (fun ls hl => ?_)
  refine lv_iload_n hx hb dL_law_762 rfl (lv_at hl 2 rfl) ?_
  refine n_if_eq (tgt := 815) hx hb (by omega) dL_law_763 (by decide) (fun c => absurd c (by decide)) (fun _ => ?_)
  refine lv_aload_n hx hb dL_law_766 rfl (lv_at hl 3 rfl) ?_
  refine lv_iconst (v := (nI 0)) hx hb dL_law_767 (by decide) ?_
  refine lv_bipush (v := (nI 50)) hx hb dL_law_768 (by decide) ?_
  have hZZ : zZ (xB x (x + 70)) s H := zZ_at hC (by omega) hS
  refine w_callVG (fun u U H9 h9 q9 => ⟨q9.1, q9.2.moved h9⟩) (As := [.int (nI 0), .int (nI 50)]) (rest := []) hF hK (c_X4_set_ok l D y x (x + 70) d ca pa pk T P k rot 0 ts tn tx 0 (nI 50) (hJ.1.1) (hk4) (Nat.le_refl _) (by decide) (by decide)) (cwV 2 hts gL_law_X4_set rfl rfl rfl (by decide +kernel) ⟨Nat.le_of_ble_eq_true rfl, Nat.le_of_ble_eq_true rfl⟩) (xO.recv hK hO) ⟨hO, hZZ⟩ hS (fun q h => by rw [hxs]; exact xB_hi (by omega) h) rfl hl.1 rfl (Nat.le_of_ble_eq_true rfl) dL_law_770 ⟨by show _ ≤ 600000; omega, by show _ ≤ 7302250; omega⟩ (fun H1 locs1 hq hz1 hk hS => ?_)
  have hJ0 := hJ
  obtain ⟨a1, a2, hJ⟩ := s_set hJ (by omega) (v := nI 50)
  have hO := xO.conv hq hJ.1.1.1 (fun i _ _ h => a1 i h)
  have hbs := Nat.le_trans hbs hz1
  have hk5 := recN_le hk4
  clear hq hz1 hk
  refine lv_if_lt (tgt := 815) hx hb dL_law_773 (by decide) (fun c773 => ?_) (fun c773 => ?_)
  · exact absurd c773 (Int32.not_lt.mpr a2)
  · refine lv_aload_n hx hb dL_law_776 rfl (lv_at hl 3 rfl) ?_
    obtain ⟨tf, hR⟩ := hO.clR
    refine z_callS (As := [.ref x]) (rest := []) hF hK (c_L_holds l D y x (x + 70) (caD (upd d 1 (nI 50)) 30) ca pa pk (recN k) 0 tf 32 (hJ.1) (by omega) (hJ.2.1) (hk5) (by decide)) (va_cwS 1 hts gL_law_L_holds rfl rfl rfl (by decide +kernel) ⟨Nat.le_of_ble_eq_true rfl, Nat.le_of_ble_eq_true rfl⟩) hR rfl hl.1 rfl (Nat.le_of_ble_eq_true rfl) dL_law_777 ⟨by show _ ≤ 600000; omega, by show _ ≤ 7302250; omega⟩ ?_
    refine z_ifeq (tgt := 815) hx hb dL_law_780 (by decide) (fun c780 => ?_) (fun c780 => ?_)
    · exact absurd c780 (by decide)
    · obtain ⟨j9, ej, hj1, hj2⟩ := rec_s hk4
      have hj4 : j9 ≤ 4 := by omega
      have hPj := rem_at (P := P) (rot := rot) (N := (d, ca, pa, pk)) ej
      rw [ej] at hO
      refine lv_aload_n hx hb dL_law_783 rfl (lv_at hl 3 rfl) ?_
      refine w_callV (As := []) (rest := []) hF hK (c_X4_undo_ok l D y x (x + 70) (caD (upd d 1 (nI 50)) 30) ca pa pk T (remP P k rot (d, ca, pa, pk)) j9 (remR k rot) 0 ts tn tx (hJ.1.1) (hj4) (Nat.le_refl _) (by omega) (by rw [hPj]; exact hJ0.1.1.1.nc8) (by rw [hPj]; exact hJ0.1.1.1.ng2) (by rw [hPj]; exact hJ0.1.1.2.1)) (cwV 0 hts gL_law_X4_undo rfl rfl rfl (by decide +kernel) ⟨Nat.le_of_ble_eq_true rfl, Nat.le_of_ble_eq_true rfl⟩) (xO.recv hK hO) hO hS (fun q h => by rw [hxs]; exact xB_hi (by omega) h) rfl hl.1 rfl (Nat.le_of_ble_eq_true rfl) dL_law_784 ⟨by show _ ≤ 600000; omega, by show _ ≤ 7302250; omega⟩ (fun H2 locs2 hq hz1 hk hS => ?_)
      rw [hPj] at hq
      have hO := hq
      have hJ := hJ0
      have hbs := Nat.le_trans hbs hz1
      have hk4 := hj4
      clear hq hz1 hk
      refine lv_iload hx hb dL_law_787 (lv_at hl 0 rfl) ?_
      refine lv_iconst (v := (nI 4)) hx hb dL_law_789 (by decide) ?_
      refine z_ge (tgt := 798) hx hb (by omega) (by omega) dL_law_790 (by decide) (fun c790 => ?_) (fun c790 => ?_)
      · refine lv_iconst (v := (nI 3)) hx hb dL_law_798 (by decide) ?_
        refine z_ne (tgt := 815) hx hb (by omega) (by omega) dL_law_799 (by decide) (fun c799 => ?_) (fun c799 => ?_)
        · first | exact absurd (hj1 (by omega)) c799 | exact absurd (hj2 (by omega)) c799
        · refine lv_aload_n hx hb dL_law_802 rfl (lv_at hl 3 rfl) ?_
          refine lv_iconst (v := (nI 2)) hx hb dL_law_803 (by decide) ?_
          obtain ⟨tf, hR⟩ := hO.clR
          refine z_callV (As := [.int (nI 2)]) (rest := []) hF hK (c_X4_count l D y x (x + 70) d ca pa pk j9 0 tf (nI 2) (hJ.1.1) (hk4) (by decide)) (cwV 1 hts gL_law_X4_count rfl rfl rfl (by decide +kernel) ⟨Nat.le_of_ble_eq_true rfl, Nat.le_of_ble_eq_true rfl⟩) (xO.recv hK hO) hR rfl hl.1 rfl (Nat.le_of_ble_eq_true rfl) dL_law_804 ⟨by show _ ≤ 600000; omega, by show _ ≤ 7302250; omega⟩ ?_
          refine z_topi (z := (nI (nG d))) (cnt_G hJ.1.1.1) ?_
          refine lv_iload_n hx hb dL_law_807 rfl (lv_at hl 1 rfl) ?_
          refine z_ne (tgt := 815) hx hb (by omega) (by omega) dL_law_808 (by decide) (fun c808 => ?_) (fun c808 => ?_)
          · exact absurd rfl c808
          · refine lv_iconst (v := (nI 1)) hx hb dL_law_811 (by decide) ?_
            refine lv_goto (tgt := 816) hx hb dL_law_812 (by decide) ?_
            refine lv_istore_n (lv' := [(2, .int (nI 1)), (4, .int (nI k)), (3, .int (nI (nG d))), (1, .ref x), (0, .ref b)]) hx hb dL_law_816 rfl hl (by decide) rfl (fun ls hl => ?_)
            refine lv_iload_n hx hb dL_law_817 rfl (lv_at hl 0 rfl) ?_
            refine n_if_eq (tgt := 832) hx hb (by omega) dL_law_818 (by decide) (fun c => absurd c (by decide)) (fun _ => ?_)
            refine lv_aload_n hx hb dL_law_821 rfl (lv_at hl 3 rfl) ?_
            refine z_callS (As := [.ref x]) (rest := []) hF hK (c_L_holds l D y x (x + 70) d ca pa pk j9 0 tf 32 (hJ.1) (by omega) (hJ.2.1) (hk4) (by decide)) (va_cwS 1 hts gL_law_L_holds rfl rfl rfl (by decide +kernel) ⟨Nat.le_of_ble_eq_true rfl, Nat.le_of_ble_eq_true rfl⟩) hR rfl hl.1 rfl (Nat.le_of_ble_eq_true rfl) dL_law_822 ⟨by show _ ≤ 600000; omega, by show _ ≤ 7302250; omega⟩ ?_
            refine z_ifeq (tgt := 832) hx hb dL_law_825 (by decide) (fun c825 => ?_) (fun c825 => ?_)
            · exact absurd c825 (by decide)
            · refine lv_iconst (v := (nI 1)) hx hb dL_law_828 (by decide) ?_
              refine lv_goto (tgt := 833) hx hb dL_law_829 (by decide) ?_
              refine va_forget hS.2.2 ?_
              refine W.widen (k := 600000) (n := 7302250) (by omega) (by omega) ?_
              refine z_topi (z := 1) rfl ?_
              exact lw_ret hx hb hret hlocks dL_law_833
      · refine lv_iload hx hb dL_law_793 (lv_at hl 0 rfl) ?_
        refine lv_goto (tgt := 799) hx hb dL_law_795 (by decide) ?_
        refine z_ne (tgt := 815) hx hb (by omega) (by omega) dL_law_799 (by decide) (fun c799 => ?_) (fun c799 => ?_)
        · first | exact absurd (hj1 (by omega)) c799 | exact absurd (hj2 (by omega)) c799
        · refine lv_aload_n hx hb dL_law_802 rfl (lv_at hl 3 rfl) ?_
          refine lv_iconst (v := (nI 2)) hx hb dL_law_803 (by decide) ?_
          obtain ⟨tf, hR⟩ := hO.clR
          refine z_callV (As := [.int (nI 2)]) (rest := []) hF hK (c_X4_count l D y x (x + 70) d ca pa pk j9 0 tf (nI 2) (hJ.1.1) (hk4) (by decide)) (cwV 1 hts gL_law_X4_count rfl rfl rfl (by decide +kernel) ⟨Nat.le_of_ble_eq_true rfl, Nat.le_of_ble_eq_true rfl⟩) (xO.recv hK hO) hR rfl hl.1 rfl (Nat.le_of_ble_eq_true rfl) dL_law_804 ⟨by show _ ≤ 600000; omega, by show _ ≤ 7302250; omega⟩ ?_
          refine z_topi (z := (nI (nG d))) (cnt_G hJ.1.1.1) ?_
          refine lv_iload_n hx hb dL_law_807 rfl (lv_at hl 1 rfl) ?_
          refine z_ne (tgt := 815) hx hb (by omega) (by omega) dL_law_808 (by decide) (fun c808 => ?_) (fun c808 => ?_)
          · exact absurd rfl c808
          · refine lv_iconst (v := (nI 1)) hx hb dL_law_811 (by decide) ?_
            refine lv_goto (tgt := 816) hx hb dL_law_812 (by decide) ?_
            refine lv_istore_n (lv' := [(2, .int (nI 1)), (4, .int (nI k)), (3, .int (nI (nG d))), (1, .ref x), (0, .ref b)]) hx hb dL_law_816 rfl hl (by decide) rfl (fun ls hl => ?_)
            refine lv_iload_n hx hb dL_law_817 rfl (lv_at hl 0 rfl) ?_
            refine n_if_eq (tgt := 832) hx hb (by omega) dL_law_818 (by decide) (fun c => absurd c (by decide)) (fun _ => ?_)
            refine lv_aload_n hx hb dL_law_821 rfl (lv_at hl 3 rfl) ?_
            refine z_callS (As := [.ref x]) (rest := []) hF hK (c_L_holds l D y x (x + 70) d ca pa pk j9 0 tf 32 (hJ.1) (by omega) (hJ.2.1) (hk4) (by decide)) (va_cwS 1 hts gL_law_L_holds rfl rfl rfl (by decide +kernel) ⟨Nat.le_of_ble_eq_true rfl, Nat.le_of_ble_eq_true rfl⟩) hR rfl hl.1 rfl (Nat.le_of_ble_eq_true rfl) dL_law_822 ⟨by show _ ≤ 600000; omega, by show _ ≤ 7302250; omega⟩ ?_
            refine z_ifeq (tgt := 832) hx hb dL_law_825 (by decide) (fun c825 => ?_) (fun c825 => ?_)
            · exact absurd c825 (by decide)
            · refine lv_iconst (v := (nI 1)) hx hb dL_law_828 (by decide) ?_
              refine lv_goto (tgt := 833) hx hb dL_law_829 (by decide) ?_
              refine va_forget hS.2.2 ?_
              refine W.widen (k := 600000) (n := 7302250) (by omega) (by omega) ?_
              refine z_topi (z := 1) rfl ?_
              exact lw_ret hx hb hret hlocks dL_law_833
