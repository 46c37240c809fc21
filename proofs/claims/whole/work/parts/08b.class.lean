/-! THE CLASS: sites: reading -/
theorem i_c_X2_craneAt_in_X2 : ∀ w ∈ wsX20, w ∈ wsX2_craneAt := fun w h => (List.mem_cons_of_mem _ (List.mem_append_right _ h))
set_option maxRecDepth 100000 in
set_option maxHeartbeats 4000000 in
theorem c_X2_craneAt_in (l : Launch) (D : va_G) (y : zY) (bd : Nat) (a : Nat) (d : Nat → Int32) (ca : Nat → Nat) (pa : Nat → Nat) (pk : Nat → Nat) (c : Nat) (hI : zI d) (hv24 : vn d ≤ 24) (hc : c < nC d) : Met l yX2_craneAt wsX2_craneAt ({ frames := 0, cells := 0, slots := 0, locals := 0 }) (zP [.ref a, .int (nI c)] (fun H => sD D y bd a d ca pa pk H) D y) (zQ (some (.ref (ca c)))) 0 0 nofree := by
  refine z_body (cc := cX2_craneAt) (maxL := 3) (ret := (some (.object "CranePermits$Crane"))) (la := [(0, .ref a), (1, .int (nI c))]) (by decide) rfl (Nat.le_of_ble_eq_true rfl) rfl ?_
  intro pg ev s mm below meth c0 ls hx hb hr hF hlocks hΦ hK hl _
  have hts := hF.2.2.2.2
  have hown : s.vm.findClass RX2 = some mm.cls := hF.2.2.2.1
  have hG2 := hI.ng2
  have hC8 := hI.nc8
  have hS0 := hΦ
  obtain ⟨cs, ns, se, wi, al, re, gi, ps, ss, vs, hP, hR, hC, hE, hT⟩ := hS0
  refine lv_iload_n hx hb dX2_craneAt_0 rfl (lv_at hl 1 rfl) ?_
  refine n_if_lt (tgt := 25) hx hb (by omega) dX2_craneAt_1 (by decide) ?_
  refine lv_iload_n hx hb dX2_craneAt_4 rfl (lv_at hl 1 rfl) ?_
  refine lv_aload_n hx hb dX2_craneAt_5 rfl (lv_at hl 0 rfl) ?_
  refine z_get (fs := [.ref (a + 1), .int (nI (nC d)), .ref (a + 2), .ref (a + 3), .ref (a + 4), .ref (a + 5), .ref (a + 6), .ref (a + 7), .ref (a + 8), .int (nI (nG d)), .ref (a + 9), .ref (a + 10), .int (nI (vn d))]) (ref := "CranePermits$Site") (C := RX2) (T := TX2) (N := 13) (ci := 2) (v := .int (nI (nC d))) hx hb hts i_c_X2_craneAt_in_X2 hown hK (hP 0 _ rfl) 1 (by decide) rfl (hts (.fieldLink RX2 17 "CranePermits$Site" "craneCount" "I") (List.mem_of_getElem? (i := 1) rfl)) rfl rfl dX2_craneAt_6 ?_
  refine z_ge (tgt := 25) hx hb (by omega) (by omega) dX2_craneAt_9 (by decide) (fun c9 => ?_) (fun c9 => ?_)
  · exact absurd c9 (by omega)
  · refine lv_iload_n hx hb dX2_craneAt_12 rfl (lv_at hl 1 rfl) ?_
    refine lv_aload_n hx hb dX2_craneAt_13 rfl (lv_at hl 0 rfl) ?_
    refine z_get (fs := [.ref (a + 1), .int (nI (nC d)), .ref (a + 2), .ref (a + 3), .ref (a + 4), .ref (a + 5), .ref (a + 6), .ref (a + 7), .ref (a + 8), .int (nI (nG d)), .ref (a + 9), .ref (a + 10), .int (nI (vn d))]) (ref := "CranePermits$Site") (C := RX2) (T := TX2) (N := 13) (ci := 2) (v := .ref (a + 1)) hx hb hts i_c_X2_craneAt_in_X2 hown hK (hP 0 _ rfl) 0 (by decide) rfl (hts (.fieldLink RX2 11 "CranePermits$Site" "cranes" "[LCranePermits$Crane;") (List.mem_of_getElem? (i := 2) rfl)) rfl rfl dX2_craneAt_14 ?_
    refine z_alen 3 hx hb hK rfl (hP 1 _ rfl) rfl dX2_craneAt_17 ?_
    refine z_ge (tgt := 25) hx hb (by omega) (by omega) dX2_craneAt_18 (by decide) (fun c18 => ?_) (fun c18 => ?_)
    · exact absurd c18 (by omega)
    · refine lv_iconst (v := (nI 1)) hx hb dX2_craneAt_21 (by decide) ?_
      refine lv_goto (tgt := 26) hx hb dX2_craneAt_22 (by decide) ?_
      refine lv_istore_n (lv' := [(2, .int (nI 1)), (0, .ref a), (1, .int (nI c))]) hx hb dX2_craneAt_26 rfl hl (by decide) rfl (fun ls hl => ?_)
      refine lv_iload_n hx hb dX2_craneAt_27 rfl (lv_at hl 0 rfl) ?_
      refine n_if_eq (tgt := 40) hx hb (by omega) dX2_craneAt_28 (by decide) (fun c => absurd c (by decide)) (fun _ => ?_)
      refine lv_aload_n hx hb dX2_craneAt_31 rfl (lv_at hl 1 rfl) ?_
      refine z_get (fs := [.ref (a + 1), .int (nI (nC d)), .ref (a + 2), .ref (a + 3), .ref (a + 4), .ref (a + 5), .ref (a + 6), .ref (a + 7), .ref (a + 8), .int (nI (nG d)), .ref (a + 9), .ref (a + 10), .int (nI (vn d))]) (ref := "CranePermits$Site") (C := RX2) (T := TX2) (N := 13) (ci := 2) (v := .ref (a + 1)) hx hb hts i_c_X2_craneAt_in_X2 hown hK (hP 0 _ rfl) 0 (by decide) rfl (hts (.fieldLink RX2 11 "CranePermits$Site" "cranes" "[LCranePermits$Crane;") (List.mem_of_getElem? (i := 2) rfl)) rfl rfl dX2_craneAt_32 ?_
      refine lv_iload_n hx hb dX2_craneAt_35 rfl (lv_at hl 2 rfl) ?_
      refine z_aald (k := 3) (f := cs) (r := (ca c)) hx hb hK rfl (hP 1 _ rfl) (by omega) (by decide) (hR.1 c (by omega)) dX2_craneAt_36 ?_
      refine lv_goto (tgt := 41) hx hb dX2_craneAt_37 (by decide) ?_
      exact z_reta (r := some (ca c)) hx hb hr hlocks rfl (rfl) dX2_craneAt_41
theorem i_c_X2_permitAt_in_X2 : ∀ w ∈ wsX20, w ∈ wsX2_permitAt := fun w h => (List.mem_cons_of_mem _ (List.mem_append_right _ h))
set_option maxRecDepth 100000 in
set_option maxHeartbeats 4000000 in
theorem c_X2_permitAt_in (l : Launch) (D : va_G) (y : zY) (bd : Nat) (a : Nat) (d : Nat → Int32) (ca : Nat → Nat) (pa : Nat → Nat) (pk : Nat → Nat) (c : Nat) (hI : zI d) (hv24 : vn d ≤ 24) (hc : c < nG d) : Met l yX2_permitAt wsX2_permitAt ({ frames := 0, cells := 0, slots := 0, locals := 0 }) (zP [.ref a, .int (nI c)] (fun H => sD D y bd a d ca pa pk H) D y) (zQ (some (.ref (pa c)))) 0 0 nofree := by
  refine z_body (cc := cX2_permitAt) (maxL := 3) (ret := (some (.object "CranePermits$Permit"))) (la := [(0, .ref a), (1, .int (nI c))]) (by decide) rfl (Nat.le_of_ble_eq_true rfl) rfl ?_
  intro pg ev s mm below meth c0 ls hx hb hr hF hlocks hΦ hK hl _
  have hts := hF.2.2.2.2
  have hown : s.vm.findClass RX2 = some mm.cls := hF.2.2.2.1
  have hG2 := hI.ng2
  have hC8 := hI.nc8
  have hS0 := hΦ
  obtain ⟨cs, ns, se, wi, al, re, gi, ps, ss, vs, hP, hR, hC, hE, hT⟩ := hS0
  refine lv_iload_n hx hb dX2_permitAt_0 rfl (lv_at hl 1 rfl) ?_
  refine n_if_lt (tgt := 25) hx hb (by omega) dX2_permitAt_1 (by decide) ?_
  refine lv_iload_n hx hb dX2_permitAt_4 rfl (lv_at hl 1 rfl) ?_
  refine lv_aload_n hx hb dX2_permitAt_5 rfl (lv_at hl 0 rfl) ?_
  refine z_get (fs := [.ref (a + 1), .int (nI (nC d)), .ref (a + 2), .ref (a + 3), .ref (a + 4), .ref (a + 5), .ref (a + 6), .ref (a + 7), .ref (a + 8), .int (nI (nG d)), .ref (a + 9), .ref (a + 10), .int (nI (vn d))]) (ref := "CranePermits$Site") (C := RX2) (T := TX2) (N := 13) (ci := 2) (v := .int (nI (nG d))) hx hb hts i_c_X2_permitAt_in_X2 hown hK (hP 0 _ rfl) 9 (by decide) rfl (hts (.fieldLink RX2 46 "CranePermits$Site" "permitCount" "I") (List.mem_of_getElem? (i := 1) rfl)) rfl rfl dX2_permitAt_6 ?_
  refine z_ge (tgt := 25) hx hb (by omega) (by omega) dX2_permitAt_9 (by decide) (fun c9 => ?_) (fun c9 => ?_)
  · exact absurd c9 (by omega)
  · refine lv_iload_n hx hb dX2_permitAt_12 rfl (lv_at hl 1 rfl) ?_
    refine lv_aload_n hx hb dX2_permitAt_13 rfl (lv_at hl 0 rfl) ?_
    refine z_get (fs := [.ref (a + 1), .int (nI (nC d)), .ref (a + 2), .ref (a + 3), .ref (a + 4), .ref (a + 5), .ref (a + 6), .ref (a + 7), .ref (a + 8), .int (nI (nG d)), .ref (a + 9), .ref (a + 10), .int (nI (vn d))]) (ref := "CranePermits$Site") (C := RX2) (T := TX2) (N := 13) (ci := 2) (v := .ref (a + 8)) hx hb hts i_c_X2_permitAt_in_X2 hown hK (hP 0 _ rfl) 8 (by decide) rfl (hts (.fieldLink RX2 42 "CranePermits$Site" "permits" "[LCranePermits$Permit;") (List.mem_of_getElem? (i := 2) rfl)) rfl rfl dX2_permitAt_14 ?_
    refine z_alen 4 hx hb hK rfl (hP 8 _ rfl) rfl dX2_permitAt_17 ?_
    refine z_ge (tgt := 25) hx hb (by omega) (by omega) dX2_permitAt_18 (by decide) (fun c18 => ?_) (fun c18 => ?_)
    · exact absurd c18 (by omega)
    · refine lv_iconst (v := (nI 1)) hx hb dX2_permitAt_21 (by decide) ?_
      refine lv_goto (tgt := 26) hx hb dX2_permitAt_22 (by decide) ?_
      refine lv_istore_n (lv' := [(2, .int (nI 1)), (0, .ref a), (1, .int (nI c))]) hx hb dX2_permitAt_26 rfl hl (by decide) rfl (fun ls hl => ?_)
      refine lv_iload_n hx hb dX2_permitAt_27 rfl (lv_at hl 0 rfl) ?_
      refine n_if_eq (tgt := 40) hx hb (by omega) dX2_permitAt_28 (by decide) (fun c => absurd c (by decide)) (fun _ => ?_)
      refine lv_aload_n hx hb dX2_permitAt_31 rfl (lv_at hl 1 rfl) ?_
      refine z_get (fs := [.ref (a + 1), .int (nI (nC d)), .ref (a + 2), .ref (a + 3), .ref (a + 4), .ref (a + 5), .ref (a + 6), .ref (a + 7), .ref (a + 8), .int (nI (nG d)), .ref (a + 9), .ref (a + 10), .int (nI (vn d))]) (ref := "CranePermits$Site") (C := RX2) (T := TX2) (N := 13) (ci := 2) (v := .ref (a + 8)) hx hb hts i_c_X2_permitAt_in_X2 hown hK (hP 0 _ rfl) 8 (by decide) rfl (hts (.fieldLink RX2 42 "CranePermits$Site" "permits" "[LCranePermits$Permit;") (List.mem_of_getElem? (i := 2) rfl)) rfl rfl dX2_permitAt_32 ?_
      refine lv_iload_n hx hb dX2_permitAt_35 rfl (lv_at hl 2 rfl) ?_
      refine z_aald (k := 4) (f := ps) (r := (pa c)) hx hb hK rfl (hP 8 _ rfl) (by omega) (by decide) (hR.2.2.2.2.2.2.2.1 c (by omega)) dX2_permitAt_36 ?_
      refine lv_goto (tgt := 41) hx hb dX2_permitAt_37 (by decide) ?_
      exact z_reta (r := some (pa c)) hx hb hr hlocks rfl (rfl) dX2_permitAt_41
theorem i_c_X2_validAt_in_X2 : ∀ w ∈ wsX20, w ∈ wsX2_validAt := fun w h => (List.mem_cons_of_mem _ (List.mem_append_right _ h))
set_option maxRecDepth 100000 in
set_option maxHeartbeats 4000000 in
theorem c_X2_validAt_in (l : Launch) (D : va_G) (y : zY) (bd : Nat) (a : Nat) (d : Nat → Int32) (ca : Nat → Nat) (pa : Nat → Nat) (pk : Nat → Nat) (c : Nat) (hI : zI d) (hv24 : vn d ≤ 24) (hc : c < vn d) : Met l yX2_validAt wsX2_validAt ({ frames := 0, cells := 0, slots := 0, locals := 0 }) (zP [.ref a, .int (nI c)] (fun H => sD D y bd a d ca pa pk H) D y) (zQ (some (.ref (pa (vx d c))))) 0 0 nofree := by
  refine z_body (cc := cX2_validAt) (maxL := 3) (ret := (some (.object "CranePermits$Permit"))) (la := [(0, .ref a), (1, .int (nI c))]) (by decide) rfl (Nat.le_of_ble_eq_true rfl) rfl ?_
  intro pg ev s mm below meth c0 ls hx hb hr hF hlocks hΦ hK hl _
  have hts := hF.2.2.2.2
  have hown : s.vm.findClass RX2 = some mm.cls := hF.2.2.2.1
  have hG2 := hI.ng2
  have hC8 := hI.nc8
  have hS0 := hΦ
  obtain ⟨cs, ns, se, wi, al, re, gi, ps, ss, vs, hP, hR, hC, hE, hT⟩ := hS0
  refine lv_iload_n hx hb dX2_validAt_0 rfl (lv_at hl 1 rfl) ?_
  refine n_if_lt (tgt := 25) hx hb (by omega) dX2_validAt_1 (by decide) ?_
  refine lv_iload_n hx hb dX2_validAt_4 rfl (lv_at hl 1 rfl) ?_
  refine lv_aload_n hx hb dX2_validAt_5 rfl (lv_at hl 0 rfl) ?_
  refine z_get (fs := [.ref (a + 1), .int (nI (nC d)), .ref (a + 2), .ref (a + 3), .ref (a + 4), .ref (a + 5), .ref (a + 6), .ref (a + 7), .ref (a + 8), .int (nI (nG d)), .ref (a + 9), .ref (a + 10), .int (nI (vn d))]) (ref := "CranePermits$Site") (C := RX2) (T := TX2) (N := 13) (ci := 2) (v := .int (nI (vn d))) hx hb hts i_c_X2_validAt_in_X2 hown hK (hP 0 _ rfl) 12 (by decide) rfl (hts (.fieldLink RX2 55 "CranePermits$Site" "validCount" "I") (List.mem_of_getElem? (i := 1) rfl)) rfl rfl dX2_validAt_6 ?_
  refine z_ge (tgt := 25) hx hb (by omega) (by omega) dX2_validAt_9 (by decide) (fun c9 => ?_) (fun c9 => ?_)
  · exact absurd c9 (by omega)
  · refine lv_iload_n hx hb dX2_validAt_12 rfl (lv_at hl 1 rfl) ?_
    refine lv_aload_n hx hb dX2_validAt_13 rfl (lv_at hl 0 rfl) ?_
    refine z_get (fs := [.ref (a + 1), .int (nI (nC d)), .ref (a + 2), .ref (a + 3), .ref (a + 4), .ref (a + 5), .ref (a + 6), .ref (a + 7), .ref (a + 8), .int (nI (nG d)), .ref (a + 9), .ref (a + 10), .int (nI (vn d))]) (ref := "CranePermits$Site") (C := RX2) (T := TX2) (N := 13) (ci := 2) (v := .ref (a + 10)) hx hb hts i_c_X2_validAt_in_X2 hown hK (hP 0 _ rfl) 11 (by decide) rfl (hts (.fieldLink RX2 52 "CranePermits$Site" "valid" "[LCranePermits$Permit;") (List.mem_of_getElem? (i := 2) rfl)) rfl rfl dX2_validAt_14 ?_
    refine z_alen 4 hx hb hK rfl (hP 10 _ rfl) rfl dX2_validAt_17 ?_
    refine z_ge (tgt := 25) hx hb (by omega) (by omega) dX2_validAt_18 (by decide) (fun c18 => ?_) (fun c18 => ?_)
    · exact absurd c18 (by omega)
    · refine lv_iconst (v := (nI 1)) hx hb dX2_validAt_21 (by decide) ?_
      refine lv_goto (tgt := 26) hx hb dX2_validAt_22 (by decide) ?_
      refine lv_istore_n (lv' := [(2, .int (nI 1)), (0, .ref a), (1, .int (nI c))]) hx hb dX2_validAt_26 rfl hl (by decide) rfl (fun ls hl => ?_)
      refine lv_iload_n hx hb dX2_validAt_27 rfl (lv_at hl 0 rfl) ?_
      refine n_if_eq (tgt := 40) hx hb (by omega) dX2_validAt_28 (by decide) (fun c => absurd c (by decide)) (fun _ => ?_)
      refine lv_aload_n hx hb dX2_validAt_31 rfl (lv_at hl 1 rfl) ?_
      refine z_get (fs := [.ref (a + 1), .int (nI (nC d)), .ref (a + 2), .ref (a + 3), .ref (a + 4), .ref (a + 5), .ref (a + 6), .ref (a + 7), .ref (a + 8), .int (nI (nG d)), .ref (a + 9), .ref (a + 10), .int (nI (vn d))]) (ref := "CranePermits$Site") (C := RX2) (T := TX2) (N := 13) (ci := 2) (v := .ref (a + 10)) hx hb hts i_c_X2_validAt_in_X2 hown hK (hP 0 _ rfl) 11 (by decide) rfl (hts (.fieldLink RX2 52 "CranePermits$Site" "valid" "[LCranePermits$Permit;") (List.mem_of_getElem? (i := 2) rfl)) rfl rfl dX2_validAt_32 ?_
      refine lv_iload_n hx hb dX2_validAt_35 rfl (lv_at hl 2 rfl) ?_
      refine z_aald (k := 4) (f := vs) (r := (pa (vx d c))) hx hb hK rfl (hP 10 _ rfl) (by omega) (by decide) (hR.2.2.2.2.2.2.2.2.2 c (by omega)) dX2_validAt_36 ?_
      refine lv_goto (tgt := 41) hx hb dX2_validAt_37 (by decide) ?_
      exact z_reta (r := some (pa (vx d c))) hx hb hr hlocks rfl (rfl) dX2_validAt_41
theorem i_c_X2_craneAt_out_X2 : ∀ w ∈ wsX20, w ∈ wsX2_craneAt := fun w h => (List.mem_cons_of_mem _ (List.mem_append_right _ h))
set_option maxRecDepth 100000 in
set_option maxHeartbeats 4000000 in
theorem c_X2_craneAt_out (l : Launch) (D : va_G) (y : zY) (bd : Nat) (a : Nat) (d : Nat → Int32) (ca : Nat → Nat) (pa : Nat → Nat) (pk : Nat → Nat) (c : Int32) (hI : zI d) (hv24 : vn d ≤ 24) (hno : inB c (nI 0) (d 0 - nI 1) = false) : Met l yX2_craneAt wsX2_craneAt ({ frames := 0, cells := 0, slots := 0, locals := 0 }) (zP [.ref a, .int c] (fun H => sD D y bd a d ca pa pk H) D y) (zQ (some (.null))) 0 0 nofree := by
  refine z_body (cc := cX2_craneAt) (maxL := 3) (ret := (some (.object "CranePermits$Crane"))) (la := [(0, .ref a), (1, .int c)]) (by decide) rfl (Nat.le_of_ble_eq_true rfl) rfl ?_
  intro pg ev s mm below meth c0 ls hx hb hr hF hlocks hΦ hK hl _
  have hts := hF.2.2.2.2
  have hown : s.vm.findClass RX2 = some mm.cls := hF.2.2.2.1
  have hG2 := hI.ng2
  have hC8 := hI.nc8
  have hS0 := hΦ
  obtain ⟨cs, ns, se, wi, al, re, gi, ps, ss, vs, hP, hR, hC, hE, hT⟩ := hS0
  refine lv_iload_n hx hb dX2_craneAt_0 rfl (lv_at hl 1 rfl) ?_
  refine lv_if_lt (tgt := 25) hx hb dX2_craneAt_1 (by decide) (fun c1 => ?_) (fun c1 => ?_)
  · refine lv_iconst (v := (nI 0)) hx hb dX2_craneAt_25 (by decide) ?_
    refine lv_istore_n (lv' := [(2, .int (nI 0)), (0, .ref a), (1, .int c)]) hx hb dX2_craneAt_26 rfl hl (by decide) rfl (fun ls hl => ?_)
    refine lv_iload_n hx hb dX2_craneAt_27 rfl (lv_at hl 0 rfl) ?_
    refine n_if_eq (tgt := 40) hx hb (by omega) dX2_craneAt_28 (by decide) (fun _ => ?_) (fun c => absurd c (by decide))
    refine lv_null hx hb dX2_craneAt_40 ?_
    exact z_reta (r := none) hx hb hr hlocks rfl (rfl) dX2_craneAt_41
  · refine lv_iload_n hx hb dX2_craneAt_4 rfl (lv_at hl 1 rfl) ?_
    refine lv_aload_n hx hb dX2_craneAt_5 rfl (lv_at hl 0 rfl) ?_
    refine z_get (fs := [.ref (a + 1), .int (nI (nC d)), .ref (a + 2), .ref (a + 3), .ref (a + 4), .ref (a + 5), .ref (a + 6), .ref (a + 7), .ref (a + 8), .int (nI (nG d)), .ref (a + 9), .ref (a + 10), .int (nI (vn d))]) (ref := "CranePermits$Site") (C := RX2) (T := TX2) (N := 13) (ci := 2) (v := .int (nI (nC d))) hx hb hts i_c_X2_craneAt_out_X2 hown hK (hP 0 _ rfl) 1 (by decide) rfl (hts (.fieldLink RX2 17 "CranePermits$Site" "craneCount" "I") (List.mem_of_getElem? (i := 1) rfl)) rfl rfl dX2_craneAt_6 ?_
    refine lv_icmp_ge (tgt := 25) hx hb dX2_craneAt_9 (by decide) (fun c9 => ?_) (fun c9 => ?_)
    · refine lv_iconst (v := (nI 0)) hx hb dX2_craneAt_25 (by decide) ?_
      refine lv_istore_n (lv' := [(2, .int (nI 0)), (0, .ref a), (1, .int c)]) hx hb dX2_craneAt_26 rfl hl (by decide) rfl (fun ls hl => ?_)
      refine lv_iload_n hx hb dX2_craneAt_27 rfl (lv_at hl 0 rfl) ?_
      refine n_if_eq (tgt := 40) hx hb (by omega) dX2_craneAt_28 (by decide) (fun _ => ?_) (fun c => absurd c (by decide))
      refine lv_null hx hb dX2_craneAt_40 ?_
      exact z_reta (r := none) hx hb hr hlocks rfl (rfl) dX2_craneAt_41
    · exact (out_c hI hno c1 c9).elim
theorem i_c_X2_permitAt_out_X2 : ∀ w ∈ wsX20, w ∈ wsX2_permitAt := fun w h => (List.mem_cons_of_mem _ (List.mem_append_right _ h))
set_option maxRecDepth 100000 in
set_option maxHeartbeats 4000000 in
theorem c_X2_permitAt_out (l : Launch) (D : va_G) (y : zY) (bd : Nat) (a : Nat) (d : Nat → Int32) (ca : Nat → Nat) (pa : Nat → Nat) (pk : Nat → Nat) (c : Int32) (hI : zI d) (hv24 : vn d ≤ 24) (hno : inB c (nI 0) (d 442 - nI 1) = false) : Met l yX2_permitAt wsX2_permitAt ({ frames := 0, cells := 0, slots := 0, locals := 0 }) (zP [.ref a, .int c] (fun H => sD D y bd a d ca pa pk H) D y) (zQ (some (.null))) 0 0 nofree := by
  refine z_body (cc := cX2_permitAt) (maxL := 3) (ret := (some (.object "CranePermits$Permit"))) (la := [(0, .ref a), (1, .int c)]) (by decide) rfl (Nat.le_of_ble_eq_true rfl) rfl ?_
  intro pg ev s mm below meth c0 ls hx hb hr hF hlocks hΦ hK hl _
  have hts := hF.2.2.2.2
  have hown : s.vm.findClass RX2 = some mm.cls := hF.2.2.2.1
  have hG2 := hI.ng2
  have hC8 := hI.nc8
  have hS0 := hΦ
  obtain ⟨cs, ns, se, wi, al, re, gi, ps, ss, vs, hP, hR, hC, hE, hT⟩ := hS0
  refine lv_iload_n hx hb dX2_permitAt_0 rfl (lv_at hl 1 rfl) ?_
  refine lv_if_lt (tgt := 25) hx hb dX2_permitAt_1 (by decide) (fun c1 => ?_) (fun c1 => ?_)
  · refine lv_iconst (v := (nI 0)) hx hb dX2_permitAt_25 (by decide) ?_
    refine lv_istore_n (lv' := [(2, .int (nI 0)), (0, .ref a), (1, .int c)]) hx hb dX2_permitAt_26 rfl hl (by decide) rfl (fun ls hl => ?_)
    refine lv_iload_n hx hb dX2_permitAt_27 rfl (lv_at hl 0 rfl) ?_
    refine n_if_eq (tgt := 40) hx hb (by omega) dX2_permitAt_28 (by decide) (fun _ => ?_) (fun c => absurd c (by decide))
    refine lv_null hx hb dX2_permitAt_40 ?_
    exact z_reta (r := none) hx hb hr hlocks rfl (rfl) dX2_permitAt_41
  · refine lv_iload_n hx hb dX2_permitAt_4 rfl (lv_at hl 1 rfl) ?_
    refine lv_aload_n hx hb dX2_permitAt_5 rfl (lv_at hl 0 rfl) ?_
    refine z_get (fs := [.ref (a + 1), .int (nI (nC d)), .ref (a + 2), .ref (a + 3), .ref (a + 4), .ref (a + 5), .ref (a + 6), .ref (a + 7), .ref (a + 8), .int (nI (nG d)), .ref (a + 9), .ref (a + 10), .int (nI (vn d))]) (ref := "CranePermits$Site") (C := RX2) (T := TX2) (N := 13) (ci := 2) (v := .int (nI (nG d))) hx hb hts i_c_X2_permitAt_out_X2 hown hK (hP 0 _ rfl) 9 (by decide) rfl (hts (.fieldLink RX2 46 "CranePermits$Site" "permitCount" "I") (List.mem_of_getElem? (i := 1) rfl)) rfl rfl dX2_permitAt_6 ?_
    refine lv_icmp_ge (tgt := 25) hx hb dX2_permitAt_9 (by decide) (fun c9 => ?_) (fun c9 => ?_)
    · refine lv_iconst (v := (nI 0)) hx hb dX2_permitAt_25 (by decide) ?_
      refine lv_istore_n (lv' := [(2, .int (nI 0)), (0, .ref a), (1, .int c)]) hx hb dX2_permitAt_26 rfl hl (by decide) rfl (fun ls hl => ?_)
      refine lv_iload_n hx hb dX2_permitAt_27 rfl (lv_at hl 0 rfl) ?_
      refine n_if_eq (tgt := 40) hx hb (by omega) dX2_permitAt_28 (by decide) (fun _ => ?_) (fun c => absurd c (by decide))
      refine lv_null hx hb dX2_permitAt_40 ?_
      exact z_reta (r := none) hx hb hr hlocks rfl (rfl) dX2_permitAt_41
    · exact (out_g hI hno c1 c9).elim
theorem i_c_X2_hasCraneIn_X2 : ∀ w ∈ wsX20, w ∈ wsX2_hasCraneIn := fun w h => (List.mem_cons_of_mem _ (List.mem_append_left _ (List.mem_append_right _ h)))
theorem i_c_X2_hasCraneIn_X0 : ∀ w ∈ wsX00, w ∈ wsX2_hasCraneIn := fun w h => (List.mem_cons_of_mem _ (List.mem_append_right _ h))
set_option maxRecDepth 100000 in
set_option maxHeartbeats 4000000 in
theorem c_X2_hasCraneIn (l : Launch) (D : va_G) (y : zY) (bd : Nat) (a : Nat) (d : Nat → Int32) (ca : Nat → Nat) (pa : Nat → Nat) (pk : Nat → Nat) (x : Int32) (z : Int32) (hI : zI d) (hv24 : vn d ≤ 24) : Met l yX2_hasCraneIn wsX2_hasCraneIn ({ frames := 1, cells := 0, slots := 0, locals := 22 }) (zP [.ref a, .int x, .int z] (fun H => sD D y bd a d ca pa pk H) D y) (zQ (some (.int (bI (hasC d x z))))) 0 0 nofree := by
  refine z_body (cc := cX2_hasCraneIn) (maxL := 5) (ret := (some .boolean)) (la := [(0, .ref a), (1, .int x), (2, .int z)]) (by decide) rfl (Nat.le_of_ble_eq_true rfl) rfl ?_
  intro pg ev s mm below meth c0 ls hx hb hr hF hlocks hΦ hK hl _
  have hts := hF.2.2.2.2
  have hown : s.vm.findClass RX2 = some mm.cls := hF.2.2.2.1
  have hG2 := hI.ng2
  have hC8 := hI.nc8
  have hS0 := hΦ
  obtain ⟨cs, ns, se, wi, al, re, gi, ps, ss, vs, hP, hR, hC, hE, hT⟩ := hS0
  refine lv_iconst (v := (nI 0)) hx hb dX2_hasCraneIn_0 (by decide) ?_
  refine lv_istore_n (lv' := [(3, .int (nI 0)), (0, .ref a), (1, .int x), (2, .int z)]) hx hb dX2_hasCraneIn_1 rfl hl (by decide) rfl (fun ls hl => ?_)
  refine z_loop (S := Nat) (nL := 5) (fun (i : Nat) => nC d - i) (fun (i : Nat) => [(3, .int (nI i)), (0, .ref a), (1, .int x), (2, .int z)]) (fun (i : Nat) => i ≤ nC d ∧ ∀ j, j < i → hasP d x z j = false) 0 (⟨Nat.zero_le _, fun j hj => absurd hj (Nat.not_lt_zero j)⟩) (lv_sub hl [0, 1, 2, 3] rfl) ?_
  clear hl
  rintro i ls hI_2 hl ih_2
  obtain ⟨hi, hall⟩ := hI_2
  refine lv_iload_n hx hb dX2_hasCraneIn_2 rfl (lv_at hl 0 rfl) ?_
  refine lv_aload_n hx hb dX2_hasCraneIn_3 rfl (lv_at hl 1 rfl) ?_
  refine z_get (fs := [.ref (a + 1), .int (nI (nC d)), .ref (a + 2), .ref (a + 3), .ref (a + 4), .ref (a + 5), .ref (a + 6), .ref (a + 7), .ref (a + 8), .int (nI (nG d)), .ref (a + 9), .ref (a + 10), .int (nI (vn d))]) (ref := "CranePermits$Site") (C := RX2) (T := TX2) (N := 13) (ci := 2) (v := .int (nI (nC d))) hx hb hts i_c_X2_hasCraneIn_X2 hown hK (hP 0 _ rfl) 1 (by decide) rfl (hts (.fieldLink RX2 17 "CranePermits$Site" "craneCount" "I") (List.mem_of_getElem? (i := 1) rfl)) rfl rfl dX2_hasCraneIn_4 ?_
  refine z_ge (tgt := 48) hx hb (by omega) (by omega) dX2_hasCraneIn_7 (by decide) (fun c7 => ?_) (fun c7 => ?_)
  · refine lv_iconst (v := (nI 0)) hx hb dX2_hasCraneIn_48 (by decide) ?_
    exact z_retz hx hb hr hlocks rfl (bI_ff (any_f (fun j hj => hall j (by omega)))) dX2_hasCraneIn_49
  · refine lv_aload_n hx hb dX2_hasCraneIn_10 rfl (lv_at hl 1 rfl) ?_
    refine lv_iload_n hx hb dX2_hasCraneIn_11 rfl (lv_at hl 0 rfl) ?_
    refine z_callV (As := [.int (nI i)]) (rest := []) hF hK (c_X2_craneAt_in l D y bd a d ca pa pk i (hI) (hv24) (by omega)) (cwV 1 hts gX2_hasCraneIn_X2_craneAt rfl rfl rfl (by decide +kernel) ⟨Nat.le_of_ble_eq_true rfl, Nat.le_of_ble_eq_true rfl⟩) (z_recv (q := (RX2, TX2, 13)) hK (hP 0 _ rfl) rfl) hΦ rfl hl.1 rfl (Nat.le_of_ble_eq_true rfl) dX2_hasCraneIn_12 ⟨Nat.zero_le _, Nat.zero_le _⟩ ?_
    refine lv_astore (lv' := [(4, .ref (ca i)), (3, .int (nI i)), (0, .ref a), (1, .int x), (2, .int z)]) hx hb dX2_hasCraneIn_15 hl (by decide) rfl (fun ls hl => ?_)
    refine lv_aload hx hb dX2_hasCraneIn_17 (lv_at hl 0 rfl) ?_
    refine lv_ifnull hx hb dX2_hasCraneIn_19 ?_
    refine lv_aload hx hb dX2_hasCraneIn_22 (lv_at hl 0 rfl) ?_
    refine z_get (fs := [.int (nI i), .int (gr d i 0), .int (gr d i 1), .int (gr d i 2), .int (gr d i 3), .int (gr d i 4), .ref ((ca i) + 1)]) (ref := "CranePermits$Crane") (C := RX0) (T := TX0) (N := 7) (ci := 0) (v := .int (gr d i 0)) hx hb hts i_c_X2_hasCraneIn_X0 hown hK (hC i (by omega)).2.1 1 (by decide) rfl (hts (.fieldLink RX2 74 "CranePermits$Crane" "x" "I") (List.mem_of_getElem? (i := 2) rfl)) rfl rfl dX2_hasCraneIn_24 ?_
    refine lv_iload_n hx hb dX2_hasCraneIn_27 rfl (lv_at hl 3 rfl) ?_
    refine lv_icmp_ne (tgt := 42) hx hb dX2_hasCraneIn_28 (by decide) (fun c28 => ?_) (fun c28 => ?_)
    · refine lv_iinc (v := (nI (i + 1))) (lv' := [(3, .int (nI (i + 1))), (4, .ref (ca i)), (0, .ref a), (1, .int x), (2, .int z)]) hx hb dX2_hasCraneIn_42 hl (k := 1) rfl (in1 _) (by decide) rfl (fun ls hl => ?_)
      refine lv_goto (tgt := 2) hx hb dX2_hasCraneIn_45 (by decide) ?_
      exact ih_2 (i + 1) _ (by omega) (by refine ⟨by omega, lt_sc hall ?_⟩; unfold hasP; first | (rw [decide_eq_false c28]; rfl) | (rw [decide_eq_false c37]; exact Bool.and_false _)) (lv_sub hl [0, 2, 3, 4] rfl)
    · refine lv_aload hx hb dX2_hasCraneIn_31 (lv_at hl 0 rfl) ?_
      refine z_get (fs := [.int (nI i), .int (gr d i 0), .int (gr d i 1), .int (gr d i 2), .int (gr d i 3), .int (gr d i 4), .ref ((ca i) + 1)]) (ref := "CranePermits$Crane") (C := RX0) (T := TX0) (N := 7) (ci := 0) (v := .int (gr d i 1)) hx hb hts i_c_X2_hasCraneIn_X0 hown hK (hC i (by omega)).2.1 2 (by decide) rfl (hts (.fieldLink RX2 77 "CranePermits$Crane" "y" "I") (List.mem_of_getElem? (i := 3) rfl)) rfl rfl dX2_hasCraneIn_33 ?_
      refine lv_iload_n hx hb dX2_hasCraneIn_36 rfl (lv_at hl 4 rfl) ?_
      refine lv_icmp_ne (tgt := 42) hx hb dX2_hasCraneIn_37 (by decide) (fun c37 => ?_) (fun c37 => ?_)
      · refine lv_iinc (v := (nI (i + 1))) (lv' := [(3, .int (nI (i + 1))), (4, .ref (ca i)), (0, .ref a), (1, .int x), (2, .int z)]) hx hb dX2_hasCraneIn_42 hl (k := 1) rfl (in1 _) (by decide) rfl (fun ls hl => ?_)
        refine lv_goto (tgt := 2) hx hb dX2_hasCraneIn_45 (by decide) ?_
        exact ih_2 (i + 1) _ (by omega) (by refine ⟨by omega, lt_sc hall ?_⟩; unfold hasP; first | (rw [decide_eq_false c28]; rfl) | (rw [decide_eq_false c37]; exact Bool.and_false _)) (lv_sub hl [0, 2, 3, 4] rfl)
      · refine lv_iconst (v := (nI 1)) hx hb dX2_hasCraneIn_40 (by decide) ?_
        exact z_retz hx hb hr hlocks rfl (bI_tt (any_t (i := i) (by omega) (show hasP d x z i = true by unfold hasP; rw [decide_eq_true c28, decide_eq_true c37]; rfl))) dX2_hasCraneIn_41
theorem i_c_X2_stopWindOf_X2 : ∀ w ∈ wsX20, w ∈ wsX2_stopWindOf := fun w h => (List.mem_cons_of_mem _ (List.mem_append_left _ (List.mem_append_right _ h)))
theorem i_c_X2_stopWindOf_X0 : ∀ w ∈ wsX00, w ∈ wsX2_stopWindOf := fun w h => (List.mem_cons_of_mem _ (List.mem_append_right _ h))
set_option maxRecDepth 100000 in
set_option maxHeartbeats 4000000 in
theorem c_X2_stopWindOf (l : Launch) (D : va_G) (y : zY) (bd : Nat) (a : Nat) (d : Nat → Int32) (ca : Nat → Nat) (pa : Nat → Nat) (pk : Nat → Nat) (cr : Nat) (c : Nat) (hI : zI d) (hv24 : vn d ≤ 24) : Met l yX2_stopWindOf wsX2_stopWindOf ({ frames := 1, cells := 0, slots := 0, locals := 21 }) (zP [.ref a, .ref cr] (fun H => sD D y bd a d ca pa pk H ∧ crA D y cr c d H) D y) (zQ (some (.int (d 1 - gr d c 3 / nI 2)))) 0 0 nofree := by
  refine z_body (cc := cX2_stopWindOf) (maxL := 2) (ret := (some .int)) (la := [(0, .ref a), (1, .ref cr)]) (by decide) rfl (Nat.le_of_ble_eq_true rfl) rfl ?_
  intro pg ev s mm below meth c0 ls hx hb hr hF hlocks hΦ hK hl _
  have hts := hF.2.2.2.2
  have hown : s.vm.findClass RX2 = some mm.cls := hF.2.2.2.1
  have hG2 := hI.ng2
  have hC8 := hI.nc8
  have hS0 := hΦ.1
  obtain ⟨cs, ns, se, wi, al, re, gi, ps, ss, vs, hP, hR, hC, hE, hT⟩ := hS0
  refine lv_aload_n hx hb dX2_stopWindOf_0 rfl (lv_at hl 0 rfl) ?_
  refine z_get (fs := [.ref (a + 1), .int (nI (nC d)), .ref (a + 2), .ref (a + 3), .ref (a + 4), .ref (a + 5), .ref (a + 6), .ref (a + 7), .ref (a + 8), .int (nI (nG d)), .ref (a + 9), .ref (a + 10), .int (nI (vn d))]) (ref := "CranePermits$Site") (C := RX2) (T := TX2) (N := 13) (ci := 2) (v := .ref (a + 3)) hx hb hts i_c_X2_stopWindOf_X2 hown hK (hP 0 _ rfl) 3 (by decide) rfl (hts (.fieldLink RX2 25 "CranePermits$Site" "settings" "[I") (List.mem_of_getElem? (i := 1) rfl)) rfl rfl dX2_stopWindOf_1 ?_
  refine lv_iconst (v := (nI 0)) hx hb dX2_stopWindOf_4 (by decide) ?_
  refine z_callN (As := [.ref (a + 3), .int (nI 0)]) (rest := []) hF hK (c_X4_at l D y (a + 3) 3 se 0 (by omega) (by decide)) ⟨va_cnB 2 hts gX2_stopWindOf_X4_at_n84 rfl rfl rfl hK.2.2.2.1 (hts (.initialized RX4) (List.mem_of_getElem? (i := 4) rfl)) (by decide +kernel) ⟨Nat.le_of_ble_eq_true rfl, Nat.le_of_ble_eq_true rfl⟩, (hts (.static yX4_at) (List.mem_of_getElem? (i := 3) rfl)), trivial⟩ (hP 3 _ rfl) rfl hl.1 rfl (Nat.le_of_ble_eq_true rfl) dX2_stopWindOf_5 ⟨Nat.zero_le _, Nat.zero_le _⟩ ?_
  refine z_topi (z := (d 1)) (hR.2.2.1 0 (by omega)) ?_
  refine lv_aload_n hx hb dX2_stopWindOf_8 rfl (lv_at hl 1 rfl) ?_
  refine z_get (fs := [.int (nI c), .int (gr d c 0), .int (gr d c 1), .int (gr d c 2), .int (gr d c 3), .int (gr d c 4), .ref (cr + 1)]) (ref := "CranePermits$Crane") (C := RX0) (T := TX0) (N := 7) (ci := 0) (v := .int (gr d c 3)) hx hb hts i_c_X2_stopWindOf_X0 hown hK hΦ.2.1 4 (by decide) rfl (hts (.fieldLink RX2 88 "CranePermits$Crane" "height" "I") (List.mem_of_getElem? (i := 2) rfl)) rfl rfl dX2_stopWindOf_9 ?_
  refine lv_iconst (v := (nI 2)) hx hb dX2_stopWindOf_12 (by decide) ?_
  refine lv_idiv hx hb dX2_stopWindOf_13 (by decide) ?_
  refine lv_isub hx hb dX2_stopWindOf_14 ?_
  exact z_reti hx hb hr hlocks rfl (rfl) dX2_stopWindOf_15
theorem i_c_X2_mustStop_X2 : ∀ w ∈ wsX20, w ∈ wsX2_mustStop := fun w h => (List.mem_cons_of_mem _ (List.mem_append_left _ (List.mem_append_right _ h)))
set_option maxRecDepth 100000 in
set_option maxHeartbeats 4000000 in
theorem c_X2_mustStop (l : Launch) (D : va_G) (y : zY) (bd : Nat) (a : Nat) (d : Nat → Int32) (ca : Nat → Nat) (pa : Nat → Nat) (pk : Nat → Nat) (cr : Nat) (c : Nat) (n : Nat) (hI : zI d) (hv24 : vn d ≤ 24) (hn : n < 30) : Met l yX2_mustStop wsX2_mustStop ({ frames := 2, cells := 0, slots := 0, locals := 42 }) (zP [.ref a, .ref cr, .int (nI n)] (fun H => sD D y bd a d ca pa pk H ∧ crA D y cr c d H) D y) (zQ (some (.int (bI (stpB d c n))))) 0 0 nofree := by
  refine z_body (cc := cX2_mustStop) (maxL := 3) (ret := (some .boolean)) (la := [(0, .ref a), (1, .ref cr), (2, .int (nI n))]) (by decide) rfl (Nat.le_of_ble_eq_true rfl) rfl ?_
  intro pg ev s mm below meth c0 ls hx hb hr hF hlocks hΦ hK hl _
  have hts := hF.2.2.2.2
  have hown : s.vm.findClass RX2 = some mm.cls := hF.2.2.2.1
  have hG2 := hI.ng2
  have hC8 := hI.nc8
  have hS0 := hΦ.1
  obtain ⟨cs, ns, se, wi, al, re, gi, ps, ss, vs, hP, hR, hC, hE, hT⟩ := hS0
  refine lv_aload_n hx hb dX2_mustStop_0 rfl (lv_at hl 0 rfl) ?_
  refine z_get (fs := [.ref (a + 1), .int (nI (nC d)), .ref (a + 2), .ref (a + 3), .ref (a + 4), .ref (a + 5), .ref (a + 6), .ref (a + 7), .ref (a + 8), .int (nI (nG d)), .ref (a + 9), .ref (a + 10), .int (nI (vn d))]) (ref := "CranePermits$Site") (C := RX2) (T := TX2) (N := 13) (ci := 2) (v := .ref (a + 4)) hx hb hts i_c_X2_mustStop_X2 hown hK (hP 0 _ rfl) 4 (by decide) rfl (hts (.fieldLink RX2 28 "CranePermits$Site" "winds" "[I") (List.mem_of_getElem? (i := 1) rfl)) rfl rfl dX2_mustStop_1 ?_
  refine lv_iload_n hx hb dX2_mustStop_4 rfl (lv_at hl 2 rfl) ?_
  refine z_callN (As := [.ref (a + 4), .int (nI n)]) (rest := []) hF hK (c_X4_at l D y (a + 4) 30 wi n (by omega) (by decide)) ⟨va_cnB 2 hts gX2_mustStop_X4_at_n84 rfl rfl rfl hK.2.2.2.1 (hts (.initialized RX4) (List.mem_of_getElem? (i := 3) rfl)) (by decide +kernel) ⟨Nat.le_of_ble_eq_true rfl, Nat.le_of_ble_eq_true rfl⟩, (hts (.static yX4_at) (List.mem_of_getElem? (i := 2) rfl)), trivial⟩ (hP 4 _ rfl) rfl hl.1 rfl (Nat.le_of_ble_eq_true rfl) dX2_mustStop_5 ⟨Nat.zero_le _, Nat.zero_le _⟩ ?_
  refine z_topi (z := (d (52 + n))) (hR.2.2.2.1 n (by omega)) ?_
  refine lv_aload_n hx hb dX2_mustStop_8 rfl (lv_at hl 0 rfl) ?_
  refine lv_aload_n hx hb dX2_mustStop_9 rfl (lv_at hl 1 rfl) ?_
  refine z_callV (As := [.ref cr]) (rest := [.int (d (52 + n))]) hF hK (c_X2_stopWindOf l D y bd a d ca pa pk cr c (hI) (hv24)) (cwV 1 hts gX2_mustStop_X2_stopWindOf rfl rfl rfl (by decide +kernel) ⟨Nat.le_of_ble_eq_true rfl, Nat.le_of_ble_eq_true rfl⟩) (z_recv (q := (RX2, TX2, 13)) hK (hP 0 _ rfl) rfl) ⟨hΦ.1, hΦ.2⟩ rfl hl.1 rfl (Nat.le_of_ble_eq_true rfl) dX2_mustStop_10 ⟨Nat.zero_le _, Nat.zero_le _⟩ ?_
  refine lv_icmp_lt (tgt := 20) hx hb dX2_mustStop_13 (by decide) (fun c13 => ?_) (fun c13 => ?_)
  · refine lv_iconst (v := (nI 0)) hx hb dX2_mustStop_20 (by decide) ?_
    exact z_retz hx hb hr hlocks rfl (bI_ff (by first | (simp only [stpB, c13, if_true, if_false, eq_self, decide_true, decide_false, Bool.and_true, Bool.true_and, Bool.and_false, Bool.false_and, Bool.or_true, Bool.true_or, Bool.or_false, Bool.false_or, Bool.not_true, Bool.not_false, not_true_eq_false, not_false_eq_true, and_true, true_and, and_false, false_and, gt_iff_lt, ge_iff_le, ne_eq, Bool.false_eq_true]; done) | (simp [stpB, c13]; done) | (simp_all [stpB, c13]; done))) dX2_mustStop_21
  · refine lv_iconst (v := (nI 1)) hx hb dX2_mustStop_16 (by decide) ?_
    refine lv_goto (tgt := 21) hx hb dX2_mustStop_17 (by decide) ?_
    exact z_retz hx hb hr hlocks rfl (bI_tt (by first | (simp only [stpB, c13, if_true, if_false, eq_self, decide_true, decide_false, Bool.and_true, Bool.true_and, Bool.and_false, Bool.false_and, Bool.or_true, Bool.true_or, Bool.or_false, Bool.false_or, Bool.not_true, Bool.not_false, not_true_eq_false, not_false_eq_true, and_true, true_and, and_false, false_and, gt_iff_lt, ge_iff_le, ne_eq, Bool.false_eq_true]; done) | (simp [stpB, c13]; done) | (simp_all [stpB, c13]; done))) dX2_mustStop_21
theorem i_c_X2_allowanceOf_X2 : ∀ w ∈ wsX20, w ∈ wsX2_allowanceOf := fun w h => (List.mem_cons_of_mem _ (List.mem_append_right _ h))
set_option maxRecDepth 100000 in
set_option maxHeartbeats 4000000 in
theorem c_X2_allowanceOf (l : Launch) (D : va_G) (y : zY) (bd : Nat) (a : Nat) (d : Nat → Int32) (ca : Nat → Nat) (pa : Nat → Nat) (pk : Nat → Nat) (st : Nat) (n : Nat) (hI : zI d) (hv24 : vn d ≤ 24) (hst : st < 4) (hn : n < 30) : Met l yX2_allowanceOf wsX2_allowanceOf ({ frames := 1, cells := 0, slots := 0, locals := 21 }) (zP [.ref a, .int (nI st), .int (nI n)] (fun H => sD D y bd a d ca pa pk H) D y) (zQ (some (.int (alwI d st n)))) 0 0 nofree := by
  refine z_body (cc := cX2_allowanceOf) (maxL := 4) (ret := (some .int)) (la := [(0, .ref a), (1, .int (nI st)), (2, .int (nI n))]) (by decide) rfl (Nat.le_of_ble_eq_true rfl) rfl ?_
  intro pg ev s mm below meth c0 ls hx hb hr hF hlocks hΦ hK hl _
  have hts := hF.2.2.2.2
  have hown : s.vm.findClass RX2 = some mm.cls := hF.2.2.2.1
  have hG2 := hI.ng2
  have hC8 := hI.nc8
  have hS0 := hΦ
  obtain ⟨cs, ns, se, wi, al, re, gi, ps, ss, vs, hP, hR, hC, hE, hT⟩ := hS0
  refine lv_aload_n hx hb dX2_allowanceOf_0 rfl (lv_at hl 0 rfl) ?_
  refine z_get (fs := [.ref (a + 1), .int (nI (nC d)), .ref (a + 2), .ref (a + 3), .ref (a + 4), .ref (a + 5), .ref (a + 6), .ref (a + 7), .ref (a + 8), .int (nI (nG d)), .ref (a + 9), .ref (a + 10), .int (nI (vn d))]) (ref := "CranePermits$Site") (C := RX2) (T := TX2) (N := 13) (ci := 2) (v := .ref (a + 5)) hx hb hts i_c_X2_allowanceOf_X2 hown hK (hP 0 _ rfl) 5 (by decide) rfl (hts (.fieldLink RX2 31 "CranePermits$Site" "allowances" "[I") (List.mem_of_getElem? (i := 1) rfl)) rfl rfl dX2_allowanceOf_1 ?_
  refine lv_iload_n hx hb dX2_allowanceOf_4 rfl (lv_at hl 1 rfl) ?_
  refine lv_iload_n hx hb dX2_allowanceOf_5 rfl (lv_at hl 2 rfl) ?_
  refine z_callN (As := [.int (nI st), .int (nI n)]) (rest := [.ref (a + 5)]) hF hK (c_X4_streetNight l D y st n ) ⟨va_cnB 2 hts gX2_allowanceOf_X4_streetNight_n95 rfl rfl rfl hK.2.2.2.2.1 (hts (.initialized RX4) (List.mem_of_getElem? (i := 4) rfl)) (by decide +kernel) ⟨Nat.le_of_ble_eq_true rfl, Nat.le_of_ble_eq_true rfl⟩, (hts (.static yX4_streetNight) (List.mem_of_getElem? (i := 3) rfl)), trivial⟩ trivial rfl hl.1 rfl (Nat.le_of_ble_eq_true rfl) dX2_allowanceOf_6 ⟨Nat.zero_le _, Nat.zero_le _⟩ ?_
  refine z_callN (As := [.ref (a + 5), .int (nI (30 * st + n))]) (rest := []) hF hK (c_X4_at l D y (a + 5) 120 al (30 * st + n) (by omega) (by decide)) ⟨va_cnB 2 hts gX2_allowanceOf_X4_at_n84 rfl rfl rfl hK.2.2.2.1 (hts (.initialized RX4) (List.mem_of_getElem? (i := 4) rfl)) (by decide +kernel) ⟨Nat.le_of_ble_eq_true rfl, Nat.le_of_ble_eq_true rfl⟩, (hts (.static yX4_at) (List.mem_of_getElem? (i := 6) rfl)), trivial⟩ (hP 5 _ rfl) rfl hl.1 rfl (Nat.le_of_ble_eq_true rfl) dX2_allowanceOf_9 ⟨Nat.zero_le _, Nat.zero_le _⟩ ?_
  refine z_topi (z := (d (82 + (30 * st + n)))) (hR.2.2.2.2.1 (30 * st + n) (by omega)) ?_
  refine lv_istore_n (lv' := [(3, .int (d (82 + (30 * st + n)))), (0, .ref a), (1, .int (nI st)), (2, .int (nI n))]) hx hb dX2_allowanceOf_12 rfl hl (by decide) rfl (fun ls hl => ?_)
  refine lv_iload_n hx hb dX2_allowanceOf_13 rfl (lv_at hl 0 rfl) ?_
  refine lv_iconst (v := (-1)) hx hb dX2_allowanceOf_14 (by decide) ?_
  refine lv_icmp_ne (tgt := 29) hx hb dX2_allowanceOf_15 (by decide) (fun c15 => ?_) (fun c15 => ?_)
  · refine lv_iload_n hx hb dX2_allowanceOf_29 rfl (lv_at hl 0 rfl) ?_
    exact z_reti hx hb hr hlocks rfl (by unfold alwI; (first | rw [if_pos c15] | rw [if_neg c15] | rw [if_neg (bf c15)] | skip); try rfl) dX2_allowanceOf_30
  · refine lv_aload_n hx hb dX2_allowanceOf_18 rfl (lv_at hl 1 rfl) ?_
    refine z_get (fs := [.ref (a + 1), .int (nI (nC d)), .ref (a + 2), .ref (a + 3), .ref (a + 4), .ref (a + 5), .ref (a + 6), .ref (a + 7), .ref (a + 8), .int (nI (nG d)), .ref (a + 9), .ref (a + 10), .int (nI (vn d))]) (ref := "CranePermits$Site") (C := RX2) (T := TX2) (N := 13) (ci := 2) (v := .ref (a + 3)) hx hb hts i_c_X2_allowanceOf_X2 hown hK (hP 0 _ rfl) 3 (by decide) rfl (hts (.fieldLink RX2 25 "CranePermits$Site" "settings" "[I") (List.mem_of_getElem? (i := 2) rfl)) rfl rfl dX2_allowanceOf_19 ?_
    refine lv_iconst (v := (nI 1)) hx hb dX2_allowanceOf_22 (by decide) ?_
    refine z_callN (As := [.ref (a + 3), .int (nI 1)]) (rest := []) hF hK (c_X4_at l D y (a + 3) 3 se 1 (by omega) (by decide)) ⟨va_cnB 2 hts gX2_allowanceOf_X4_at_n84 rfl rfl rfl hK.2.2.2.1 (hts (.initialized RX4) (List.mem_of_getElem? (i := 4) rfl)) (by decide +kernel) ⟨Nat.le_of_ble_eq_true rfl, Nat.le_of_ble_eq_true rfl⟩, (hts (.static yX4_at) (List.mem_of_getElem? (i := 6) rfl)), trivial⟩ (hP 3 _ rfl) rfl hl.1 rfl (Nat.le_of_ble_eq_true rfl) dX2_allowanceOf_23 ⟨Nat.zero_le _, Nat.zero_le _⟩ ?_
    refine z_topi (z := (d 2)) (hR.2.2.1 1 (by omega)) ?_
    refine lv_goto (tgt := 30) hx hb dX2_allowanceOf_26 (by decide) ?_
    exact z_reti hx hb hr hlocks rfl (by unfold alwI; (first | rw [if_pos c15] | rw [if_neg c15] | rw [if_neg (bf c15)] | skip); try rfl) dX2_allowanceOf_30
theorem i_c_X2_creditsOf_X2 : ∀ w ∈ wsX20, w ∈ wsX2_creditsOf := fun w h => (List.mem_cons_of_mem _ (List.mem_append_right _ h))
set_option maxRecDepth 100000 in
set_option maxHeartbeats 4000000 in
theorem c_X2_creditsOf (l : Launch) (D : va_G) (y : zY) (bd : Nat) (a : Nat) (d : Nat → Int32) (ca : Nat → Nat) (pa : Nat → Nat) (pk : Nat → Nat) (st : Nat) (n : Nat) (hI : zI d) (hv24 : vn d ≤ 24) (hst : st < 4) (hn : n < 30) : Met l yX2_creditsOf wsX2_creditsOf ({ frames := 2, cells := 0, slots := 0, locals := 44 }) (zP [.ref a, .int (nI st), .int (nI n)] (fun H => sD D y bd a d ca pa pk H) D y) (zQ (some (.int (creI d st n)))) 0 0 nofree := by
  refine z_body (cc := cX2_creditsOf) (maxL := 4) (ret := (some .int)) (la := [(0, .ref a), (1, .int (nI st)), (2, .int (nI n))]) (by decide) rfl (Nat.le_of_ble_eq_true rfl) rfl ?_
  intro pg ev s mm below meth c0 ls hx hb hr hF hlocks hΦ hK hl _
  have hts := hF.2.2.2.2
  have hown : s.vm.findClass RX2 = some mm.cls := hF.2.2.2.1
  have hG2 := hI.ng2
  have hC8 := hI.nc8
  have hS0 := hΦ
  obtain ⟨cs, ns, se, wi, al, re, gi, ps, ss, vs, hP, hR, hC, hE, hT⟩ := hS0
  refine lv_iload_n hx hb dX2_creditsOf_0 rfl (lv_at hl 1 rfl) ?_
  refine lv_iload_n hx hb dX2_creditsOf_1 rfl (lv_at hl 2 rfl) ?_
  refine z_callN (As := [.int (nI st), .int (nI n)]) (rest := []) hF hK (c_X4_streetNight l D y st n ) ⟨va_cnB 2 hts gX2_creditsOf_X4_streetNight_n95 rfl rfl rfl hK.2.2.2.2.1 (hts (.initialized RX4) (List.mem_of_getElem? (i := 4) rfl)) (by decide +kernel) ⟨Nat.le_of_ble_eq_true rfl, Nat.le_of_ble_eq_true rfl⟩, (hts (.static yX4_streetNight) (List.mem_of_getElem? (i := 3) rfl)), trivial⟩ trivial rfl hl.1 rfl (Nat.le_of_ble_eq_true rfl) dX2_creditsOf_2 ⟨Nat.zero_le _, Nat.zero_le _⟩ ?_
  refine lv_istore_n (lv' := [(3, .int (nI (30 * st + n))), (0, .ref a), (1, .int (nI st)), (2, .int (nI n))]) hx hb dX2_creditsOf_5 rfl hl (by decide) rfl (fun ls hl => ?_)
  refine lv_aload_n hx hb dX2_creditsOf_6 rfl (lv_at hl 1 rfl) ?_
  refine lv_iload_n hx hb dX2_creditsOf_7 rfl (lv_at hl 2 rfl) ?_
  refine lv_iload_n hx hb dX2_creditsOf_8 rfl (lv_at hl 3 rfl) ?_
  refine z_callV (As := [.int (nI st), .int (nI n)]) (rest := []) hF hK (c_X2_allowanceOf l D y bd a d ca pa pk st n (hI) (hv24) (by omega) (by omega)) (cwV 2 hts gX2_creditsOf_X2_allowanceOf rfl rfl rfl (by decide +kernel) ⟨Nat.le_of_ble_eq_true rfl, Nat.le_of_ble_eq_true rfl⟩) (z_recv (q := (RX2, TX2, 13)) hK (hP 0 _ rfl) rfl) hΦ rfl hl.1 rfl (Nat.le_of_ble_eq_true rfl) dX2_creditsOf_9 ⟨Nat.zero_le _, Nat.zero_le _⟩ ?_
  refine lv_aload_n hx hb dX2_creditsOf_12 rfl (lv_at hl 1 rfl) ?_
  refine z_get (fs := [.ref (a + 1), .int (nI (nC d)), .ref (a + 2), .ref (a + 3), .ref (a + 4), .ref (a + 5), .ref (a + 6), .ref (a + 7), .ref (a + 8), .int (nI (nG d)), .ref (a + 9), .ref (a + 10), .int (nI (vn d))]) (ref := "CranePermits$Site") (C := RX2) (T := TX2) (N := 13) (ci := 2) (v := .ref (a + 6)) hx hb hts i_c_X2_creditsOf_X2 hown hK (hP 0 _ rfl) 6 (by decide) rfl (hts (.fieldLink RX2 34 "CranePermits$Site" "received" "[I") (List.mem_of_getElem? (i := 1) rfl)) rfl rfl dX2_creditsOf_13 ?_
  refine lv_iload_n hx hb dX2_creditsOf_16 rfl (lv_at hl 0 rfl) ?_
  refine z_callN (As := [.ref (a + 6), .int (nI (30 * st + n))]) (rest := [.int (alwI d st n)]) hF hK (c_X4_at l D y (a + 6) 120 re (30 * st + n) (by omega) (by decide)) ⟨va_cnB 2 hts gX2_creditsOf_X4_at_n84 rfl rfl rfl hK.2.2.2.1 (hts (.initialized RX4) (List.mem_of_getElem? (i := 4) rfl)) (by decide +kernel) ⟨Nat.le_of_ble_eq_true rfl, Nat.le_of_ble_eq_true rfl⟩, (hts (.static yX4_at) (List.mem_of_getElem? (i := 13) rfl)), trivial⟩ (hP 6 _ rfl) rfl hl.1 rfl (Nat.le_of_ble_eq_true rfl) dX2_creditsOf_17 ⟨Nat.zero_le _, Nat.zero_le _⟩ ?_
  refine z_topi (z := (d (202 + (30 * st + n)))) (hR.2.2.2.2.2.1 (30 * st + n) (by omega)) ?_
  refine lv_iadd hx hb dX2_creditsOf_20 ?_
  refine lv_aload_n hx hb dX2_creditsOf_21 rfl (lv_at hl 1 rfl) ?_
  refine z_get (fs := [.ref (a + 1), .int (nI (nC d)), .ref (a + 2), .ref (a + 3), .ref (a + 4), .ref (a + 5), .ref (a + 6), .ref (a + 7), .ref (a + 8), .int (nI (nG d)), .ref (a + 9), .ref (a + 10), .int (nI (vn d))]) (ref := "CranePermits$Site") (C := RX2) (T := TX2) (N := 13) (ci := 2) (v := .ref (a + 7)) hx hb hts i_c_X2_creditsOf_X2 hown hK (hP 0 _ rfl) 7 (by decide) rfl (hts (.fieldLink RX2 37 "CranePermits$Site" "given" "[I") (List.mem_of_getElem? (i := 2) rfl)) rfl rfl dX2_creditsOf_22 ?_
  refine lv_iload_n hx hb dX2_creditsOf_25 rfl (lv_at hl 0 rfl) ?_
  refine z_callN (As := [.ref (a + 7), .int (nI (30 * st + n))]) (rest := [.int ((alwI d st n) + (d (202 + (30 * st + n))))]) hF hK (c_X4_at l D y (a + 7) 120 gi (30 * st + n) (by omega) (by decide)) ⟨va_cnB 2 hts gX2_creditsOf_X4_at_n84 rfl rfl rfl hK.2.2.2.1 (hts (.initialized RX4) (List.mem_of_getElem? (i := 4) rfl)) (by decide +kernel) ⟨Nat.le_of_ble_eq_true rfl, Nat.le_of_ble_eq_true rfl⟩, (hts (.static yX4_at) (List.mem_of_getElem? (i := 13) rfl)), trivial⟩ (hP 7 _ rfl) rfl hl.1 rfl (Nat.le_of_ble_eq_true rfl) dX2_creditsOf_26 ⟨Nat.zero_le _, Nat.zero_le _⟩ ?_
  refine z_topi (z := (d (322 + (30 * st + n)))) (hR.2.2.2.2.2.2.1 (30 * st + n) (by omega)) ?_
  refine lv_isub hx hb dX2_creditsOf_29 ?_
  exact z_reti hx hb hr hlocks rfl (rfl) dX2_creditsOf_30
theorem i_c_X2_useOf_X2 : ∀ w ∈ wsX20, w ∈ wsX2_useOf := fun w h => (List.mem_cons_of_mem _ (List.mem_append_left _ (List.mem_append_right _ h)))
theorem i_c_X2_useOf_X0 : ∀ w ∈ wsX00, w ∈ wsX2_useOf := fun w h => (List.mem_cons_of_mem _ (List.mem_append_right _ h))
set_option maxRecDepth 100000 in
set_option maxHeartbeats 4000000 in
theorem c_X2_useOf (l : Launch) (D : va_G) (y : zY) (bd : Nat) (a : Nat) (d : Nat → Int32) (ca : Nat → Nat) (pa : Nat → Nat) (pk : Nat → Nat) (cr : Nat) (c : Nat) (h : Int32) (hI : zI d) (hv24 : vn d ≤ 24) (hc : c < nC d) : Met l yX2_useOf wsX2_useOf ({ frames := 1, cells := 0, slots := 0, locals := 21 }) (zP [.ref a, .ref cr, .int h] (fun H => sD D y bd a d ca pa pk H ∧ crA D y cr c d H) D y) (zQ (some (.int (hrsI h * gr d c 5)))) 0 0 nofree := by
  refine z_body (cc := cX2_useOf) (maxL := 3) (ret := (some .int)) (la := [(0, .ref a), (1, .ref cr), (2, .int h)]) (by decide) rfl (Nat.le_of_ble_eq_true rfl) rfl ?_
  intro pg ev s mm below meth c0 ls hx hb hr hF hlocks hΦ hK hl _
  have hts := hF.2.2.2.2
  have hown : s.vm.findClass RX2 = some mm.cls := hF.2.2.2.1
  have hG2 := hI.ng2
  have hC8 := hI.nc8
  have hS0 := hΦ.1
  obtain ⟨cs, ns, se, wi, al, re, gi, ps, ss, vs, hP, hR, hC, hE, hT⟩ := hS0
  refine lv_iload_n hx hb dX2_useOf_0 rfl (lv_at hl 2 rfl) ?_
  refine lv_bipush (v := (nI 10)) hx hb dX2_useOf_1 (by decide) ?_
  refine lv_irem hx hb dX2_useOf_3 (by decide) ?_
  refine lv_iload_n hx hb dX2_useOf_4 rfl (lv_at hl 2 rfl) ?_
  refine lv_bipush (v := (nI 10)) hx hb dX2_useOf_5 (by decide) ?_
  refine lv_idiv hx hb dX2_useOf_7 (by decide) ?_
  refine lv_isub hx hb dX2_useOf_8 ?_
  refine lv_iconst (v := (nI 1)) hx hb dX2_useOf_9 (by decide) ?_
  refine lv_iadd hx hb dX2_useOf_10 ?_
  refine lv_aload_n hx hb dX2_useOf_11 rfl (lv_at hl 0 rfl) ?_
  refine z_get (fs := [.ref (a + 1), .int (nI (nC d)), .ref (a + 2), .ref (a + 3), .ref (a + 4), .ref (a + 5), .ref (a + 6), .ref (a + 7), .ref (a + 8), .int (nI (nG d)), .ref (a + 9), .ref (a + 10), .int (nI (vn d))]) (ref := "CranePermits$Site") (C := RX2) (T := TX2) (N := 13) (ci := 2) (v := .ref (a + 2)) hx hb hts i_c_X2_useOf_X2 hown hK (hP 0 _ rfl) 2 (by decide) rfl (hts (.fieldLink RX2 21 "CranePermits$Site" "noises" "[I") (List.mem_of_getElem? (i := 1) rfl)) rfl rfl dX2_useOf_12 ?_
  refine lv_aload_n hx hb dX2_useOf_15 rfl (lv_at hl 1 rfl) ?_
  refine z_get (fs := [.int (nI c), .int (gr d c 0), .int (gr d c 1), .int (gr d c 2), .int (gr d c 3), .int (gr d c 4), .ref (cr + 1)]) (ref := "CranePermits$Crane") (C := RX0) (T := TX0) (N := 7) (ci := 0) (v := .int (nI c)) hx hb hts i_c_X2_useOf_X0 hown hK hΦ.2.1 0 (by decide) rfl (hts (.fieldLink RX2 102 "CranePermits$Crane" "number" "I") (List.mem_of_getElem? (i := 2) rfl)) rfl rfl dX2_useOf_16 ?_
  refine z_callN (As := [.ref (a + 2), .int (nI c)]) (rest := [.int (((h - h / (nI 10) * (nI 10)) - (h / (nI 10))) + (nI 1))]) hF hK (c_X4_at l D y (a + 2) 8 ns c (by omega) (by decide)) ⟨va_cnB 2 hts gX2_useOf_X4_at_n84 rfl rfl rfl hK.2.2.2.1 (hts (.initialized RX4) (List.mem_of_getElem? (i := 4) rfl)) (by decide +kernel) ⟨Nat.le_of_ble_eq_true rfl, Nat.le_of_ble_eq_true rfl⟩, (hts (.static yX4_at) (List.mem_of_getElem? (i := 3) rfl)), trivial⟩ (hP 2 _ rfl) rfl hl.1 rfl (Nat.le_of_ble_eq_true rfl) dX2_useOf_19 ⟨Nat.zero_le _, Nat.zero_le _⟩ ?_
  refine z_topi (z := (gr d c 5)) (hR.2.1 c (by omega)) ?_
  refine lv_imul hx hb dX2_useOf_22 ?_
  exact z_reti hx hb hr hlocks rfl (rfl) dX2_useOf_23
theorem i_c_X2_usedOf_X2 : ∀ w ∈ wsX20, w ∈ wsX2_usedOf := fun w h => (List.mem_cons_of_mem _ (List.mem_append_left _ (List.mem_append_left _ (List.mem_append_right _ h))))
theorem i_c_X2_usedOf_X1 : ∀ w ∈ wsX10, w ∈ wsX2_usedOf := fun w h => (List.mem_cons_of_mem _ (List.mem_append_left _ (List.mem_append_right _ h)))
set_option maxRecDepth 100000 in
set_option maxHeartbeats 4000000 in
theorem c_X2_usedOf (l : Launch) (D : va_G) (y : zY) (bd : Nat) (a : Nat) (d : Nat → Int32) (ca : Nat → Nat) (pa : Nat → Nat) (pk : Nat → Nat) (st : Int32) (n : Int32) (hI : zI d) (hv24 : vn d ≤ 24) : Met l yX2_usedOf wsX2_usedOf ({ frames := 2, cells := 0, slots := 0, locals := 43 }) (zP [.ref a, .int st, .int n] (fun H => sD D y bd a d ca pa pk H) D y) (zQ (some (.int (usedI d st n)))) 0 0 nofree := by
  refine z_body (cc := cX2_usedOf) (maxL := 6) (ret := (some .int)) (la := [(0, .ref a), (1, .int st), (2, .int n)]) (by decide) rfl (Nat.le_of_ble_eq_true rfl) rfl ?_
  intro pg ev s mm below meth c0 ls hx hb hr hF hlocks hΦ hK hl _
  have hts := hF.2.2.2.2
  have hown : s.vm.findClass RX2 = some mm.cls := hF.2.2.2.1
  have hG2 := hI.ng2
  have hC8 := hI.nc8
  have hS0 := hΦ
  obtain ⟨cs, ns, se, wi, al, re, gi, ps, ss, vs, hP, hR, hC, hE, hT⟩ := hS0
  refine lv_iconst (v := (nI 0)) hx hb dX2_usedOf_0 (by decide) ?_
  refine lv_istore_n (lv' := [(3, .int (nI 0)), (0, .ref a), (1, .int st), (2, .int n)]) hx hb dX2_usedOf_1 rfl hl (by decide) rfl (fun ls hl => ?_)
  refine lv_iconst (v := (nI 0)) hx hb dX2_usedOf_2 (by decide) ?_
  refine lv_istore (lv' := [(4, .int (nI 0)), (3, .int (nI 0)), (0, .ref a), (1, .int st), (2, .int n)]) hx hb dX2_usedOf_3 hl (by decide) rfl (fun ls hl => ?_)
  have hl := lv_repl (l' := [(4, .int (nI 0)), (3, .int (sumN (usvF d st n) 0)), (0, .ref a), (1, .int st), (2, .int n)]) hl 1 rfl (congrArg Value.int (show (nI 0) = (sumN (usvF d st n) 0) from rfl)) rfl
  refine z_loop (S := Nat) (nL := 6) (fun (i : Nat) => vn d - i) (fun (i : Nat) => [(4, .int (nI i)), (3, .int (sumN (usvF d st n) i)), (0, .ref a), (1, .int st), (2, .int n)]) (fun (i : Nat) => i ≤ vn d) 0 (by omega) (lv_sub hl [0, 1, 2, 3, 4] rfl) ?_
  clear hl
  rintro i ls hI_5 hl ih_5
  have hi := hI_5
  refine lv_iload hx hb dX2_usedOf_5 (lv_at hl 0 rfl) ?_
  refine lv_aload_n hx hb dX2_usedOf_7 rfl (lv_at hl 2 rfl) ?_
  refine z_get (fs := [.ref (a + 1), .int (nI (nC d)), .ref (a + 2), .ref (a + 3), .ref (a + 4), .ref (a + 5), .ref (a + 6), .ref (a + 7), .ref (a + 8), .int (nI (nG d)), .ref (a + 9), .ref (a + 10), .int (nI (vn d))]) (ref := "CranePermits$Site") (C := RX2) (T := TX2) (N := 13) (ci := 2) (v := .int (nI (vn d))) hx hb hts i_c_X2_usedOf_X2 hown hK (hP 0 _ rfl) 12 (by decide) rfl (hts (.fieldLink RX2 55 "CranePermits$Site" "validCount" "I") (List.mem_of_getElem? (i := 1) rfl)) rfl rfl dX2_usedOf_8 ?_
  refine z_ge (tgt := 60) hx hb (by omega) (by omega) dX2_usedOf_11 (by decide) (fun c11 => ?_) (fun c11 => ?_)
  · refine lv_iload_n hx hb dX2_usedOf_60 rfl (lv_at hl 1 rfl) ?_
    exact z_reti hx hb hr hlocks rfl (by rw [show i = vn d by omega]; exact used_v d st n) dX2_usedOf_61
  · refine lv_aload_n hx hb dX2_usedOf_14 rfl (lv_at hl 2 rfl) ?_
    refine lv_iload hx hb dX2_usedOf_15 (lv_at hl 0 rfl) ?_
    refine z_callV (As := [.int (nI i)]) (rest := []) hF hK (c_X2_validAt_in l D y bd a d ca pa pk i (hI) (hv24) (by omega)) (cwV 1 hts gX2_usedOf_X2_validAt rfl rfl rfl (by decide +kernel) ⟨Nat.le_of_ble_eq_true rfl, Nat.le_of_ble_eq_true rfl⟩) (z_recv (q := (RX2, TX2, 13)) hK (hP 0 _ rfl) rfl) hΦ rfl hl.1 rfl (Nat.le_of_ble_eq_true rfl) dX2_usedOf_17 ⟨Nat.zero_le _, Nat.zero_le _⟩ ?_
    refine lv_astore (lv' := [(5, .ref (pa (vx d i))), (4, .int (nI i)), (3, .int (sumN (usvF d st n) i)), (0, .ref a), (1, .int st), (2, .int n)]) hx hb dX2_usedOf_20 hl (by decide) rfl (fun ls hl => ?_)
    refine lv_aload hx hb dX2_usedOf_22 (lv_at hl 0 rfl) ?_
    refine lv_ifnull hx hb dX2_usedOf_24 ?_
    refine lv_aload hx hb dX2_usedOf_27 (lv_at hl 0 rfl) ?_
    refine lv_iload_n hx hb dX2_usedOf_29 rfl (lv_at hl 4 rfl) ?_
    refine lv_iload_n hx hb dX2_usedOf_30 rfl (lv_at hl 5 rfl) ?_
    refine z_callV (As := [.int st, .int n]) (rest := []) hF hK (c_X1_isOf l D y (pa (vx d i)) (vx d i) (pk (vx d i)) d st n ) (cwV 2 hts gX2_usedOf_X1_isOf rfl rfl rfl (by decide +kernel) ⟨Nat.le_of_ble_eq_true rfl, Nat.le_of_ble_eq_true rfl⟩) (z_recv (q := (RX1, TX1, 7)) hK (hE (vx d i) (vx_in (by omega)).1).2.2.1 rfl) (hE (vx d i) (vx_in (by omega)).1).2.2 rfl hl.1 rfl (Nat.le_of_ble_eq_true rfl) dX2_usedOf_31 ⟨Nat.zero_le _, Nat.zero_le _⟩ ?_
    refine z_ifeq (tgt := 54) hx hb dX2_usedOf_34 (by decide) (fun c34 => ?_) (fun c34 => ?_)
    · refine lv_iinc (v := (nI (i + 1))) (lv' := [(4, .int (nI (i + 1))), (5, .ref (pa (vx d i))), (3, .int (sumN (usvF d st n) i)), (0, .ref a), (1, .int st), (2, .int n)]) hx hb dX2_usedOf_54 hl (k := 1) rfl (in1 _) (by decide) rfl (fun ls hl => ?_)
      refine lv_goto (tgt := 5) hx hb dX2_usedOf_57 (by decide) ?_
      have hl := lv_repl (l' := [(4, .int (nI (i + 1))), (5, .ref (pa (vx d i))), (3, .int (sumN (usvF d st n) (i + 1))), (0, .ref a), (1, .int st), (2, .int n)]) hl 2 rfl (congrArg Value.int (show (sumN (usvF d st n) i) = (sumN (usvF d st n) (i + 1)) from by rw [sumN_s, usvF]; first | (rw [if_pos c34]; rfl) | (rw [if_neg (bf c34)]; exact (add_z _).symm))) rfl
      exact ih_5 (i + 1) _ (by omega) (by omega) (lv_sub hl [0, 2, 3, 4, 5] rfl)
    · refine lv_iload_n hx hb dX2_usedOf_37 rfl (lv_at hl 2 rfl) ?_
      refine lv_aload_n hx hb dX2_usedOf_38 rfl (lv_at hl 3 rfl) ?_
      refine lv_aload hx hb dX2_usedOf_39 (lv_at hl 0 rfl) ?_
      refine z_get (fs := [.int (nI (vx d i)), .ref (pk (vx d i)), .int (pm d (vx d i) 1), .int (pm d (vx d i) 2), .int (pm d (vx d i) 2 / nI 10), .int (pm d (vx d i) 2 - pm d (vx d i) 2 / nI 10 * nI 10), .int (pm d (vx d i) 3)]) (ref := "CranePermits$Permit") (C := RX1) (T := TX1) (N := 7) (ci := 1) (v := .ref (pk (vx d i))) hx hb hts i_c_X2_usedOf_X1 hown hK (hE (vx d i) (vx_in (by omega)).1).2.2.1 1 (by decide) rfl (hts (.fieldLink RX2 113 "CranePermits$Permit" "crane" "LCranePermits$Crane;") (List.mem_of_getElem? (i := 2) rfl)) rfl rfl dX2_usedOf_41 ?_
      refine lv_aload hx hb dX2_usedOf_44 (lv_at hl 0 rfl) ?_
      refine z_get (fs := [.int (nI (vx d i)), .ref (pk (vx d i)), .int (pm d (vx d i) 1), .int (pm d (vx d i) 2), .int (pm d (vx d i) 2 / nI 10), .int (pm d (vx d i) 2 - pm d (vx d i) 2 / nI 10 * nI 10), .int (pm d (vx d i) 3)]) (ref := "CranePermits$Permit") (C := RX1) (T := TX1) (N := 7) (ci := 1) (v := .int (pm d (vx d i) 2)) hx hb hts i_c_X2_usedOf_X1 hown hK (hE (vx d i) (vx_in (by omega)).1).2.2.1 3 (by decide) rfl (hts (.fieldLink RX2 117 "CranePermits$Permit" "hours" "I") (List.mem_of_getElem? (i := 3) rfl)) rfl rfl dX2_usedOf_46 ?_
      refine z_callV (As := [.ref (pk (vx d i)), .int (pm d (vx d i) 2)]) (rest := [.int (sumN (usvF d st n) i)]) hF hK (c_X2_useOf l D y bd a d ca pa pk (pk (vx d i)) (pC d (vx d i)) (pm d (vx d i) 2) (hI) (hv24) (hI.pcn (vx_in (by omega)).1)) (cwV 2 hts gX2_usedOf_X2_useOf rfl rfl rfl (by decide +kernel) ⟨Nat.le_of_ble_eq_true rfl, Nat.le_of_ble_eq_true rfl⟩) (z_recv (q := (RX2, TX2, 13)) hK (hP 0 _ rfl) rfl) ⟨hΦ, (hE (vx d i) (vx_in (by omega)).1).2.2.2⟩ rfl hl.1 rfl (Nat.le_of_ble_eq_true rfl) dX2_usedOf_49 ⟨Nat.zero_le _, Nat.zero_le _⟩ ?_
      refine lv_iadd hx hb dX2_usedOf_52 ?_
      refine lv_istore_n (lv' := [(3, .int ((sumN (usvF d st n) i) + (hrsI (pm d (vx d i) 2) * gr d (pC d (vx d i)) 5))), (5, .ref (pa (vx d i))), (4, .int (nI i)), (0, .ref a), (1, .int st), (2, .int n)]) hx hb dX2_usedOf_53 rfl hl (by decide) rfl (fun ls hl => ?_)
      refine lv_iinc (v := (nI (i + 1))) (lv' := [(4, .int (nI (i + 1))), (3, .int ((sumN (usvF d st n) i) + (hrsI (pm d (vx d i) 2) * gr d (pC d (vx d i)) 5))), (5, .ref (pa (vx d i))), (0, .ref a), (1, .int st), (2, .int n)]) hx hb dX2_usedOf_54 hl (k := 2) rfl (in1 _) (by decide) rfl (fun ls hl => ?_)
      refine lv_goto (tgt := 5) hx hb dX2_usedOf_57 (by decide) ?_
      have hl := lv_repl (l' := [(4, .int (nI (i + 1))), (3, .int (sumN (usvF d st n) (i + 1))), (5, .ref (pa (vx d i))), (0, .ref a), (1, .int st), (2, .int n)]) hl 1 rfl (congrArg Value.int (show ((sumN (usvF d st n) i) + (hrsI (pm d (vx d i) 2) * gr d (pC d (vx d i)) 5)) = (sumN (usvF d st n) (i + 1)) from by rw [sumN_s, usvF]; first | (rw [if_pos c34]; rfl) | (rw [if_neg (bf c34)]; exact (add_z _).symm))) rfl
      exact ih_5 (i + 1) _ (by omega) (by omega) (lv_sub hl [0, 1, 3, 4, 5] rfl)
set_option maxRecDepth 100000 in
set_option maxHeartbeats 4000000 in
theorem c_X2_freeOf (l : Launch) (D : va_G) (y : zY) (bd : Nat) (a : Nat) (d : Nat → Int32) (ca : Nat → Nat) (pa : Nat → Nat) (pk : Nat → Nat) (st : Nat) (n : Nat) (hI : zI d) (hv24 : vn d ≤ 24) (hst : st < 4) (hn : n < 30) : Met l yX2_freeOf wsX2_freeOf ({ frames := 3, cells := 0, slots := 0, locals := 68 }) (zP [.ref a, .int (nI st), .int (nI n)] (fun H => sD D y bd a d ca pa pk H) D y) (zQ (some (.int (freI d st n)))) 0 0 nofree := by
  refine z_body (cc := cX2_freeOf) (maxL := 3) (ret := (some .int)) (la := [(0, .ref a), (1, .int (nI st)), (2, .int (nI n))]) (by decide) rfl (Nat.le_of_ble_eq_true rfl) rfl ?_
  intro pg ev s mm below meth c0 ls hx hb hr hF hlocks hΦ hK hl _
  have hts := hF.2.2.2.2
  have hown : s.vm.findClass RX2 = some mm.cls := hF.2.2.2.1
  have hG2 := hI.ng2
  have hC8 := hI.nc8
  have hS0 := hΦ
  obtain ⟨cs, ns, se, wi, al, re, gi, ps, ss, vs, hP, hR, hC, hE, hT⟩ := hS0
  refine lv_aload_n hx hb dX2_freeOf_0 rfl (lv_at hl 0 rfl) ?_
  refine lv_iload_n hx hb dX2_freeOf_1 rfl (lv_at hl 1 rfl) ?_
  refine lv_iload_n hx hb dX2_freeOf_2 rfl (lv_at hl 2 rfl) ?_
  refine z_callV (As := [.int (nI st), .int (nI n)]) (rest := []) hF hK (c_X2_creditsOf l D y bd a d ca pa pk st n (hI) (hv24) (by omega) (by omega)) (cwV 2 hts gX2_freeOf_X2_creditsOf rfl rfl rfl (by decide +kernel) ⟨Nat.le_of_ble_eq_true rfl, Nat.le_of_ble_eq_true rfl⟩) (z_recv (q := (RX2, TX2, 13)) hK (hP 0 _ rfl) rfl) hΦ rfl hl.1 rfl (Nat.le_of_ble_eq_true rfl) dX2_freeOf_3 ⟨Nat.zero_le _, Nat.zero_le _⟩ ?_
  refine lv_aload_n hx hb dX2_freeOf_6 rfl (lv_at hl 0 rfl) ?_
  refine lv_iload_n hx hb dX2_freeOf_7 rfl (lv_at hl 1 rfl) ?_
  refine lv_iload_n hx hb dX2_freeOf_8 rfl (lv_at hl 2 rfl) ?_
  refine z_callV (As := [.int (nI st), .int (nI n)]) (rest := [.int (creI d st n)]) hF hK (c_X2_usedOf l D y bd a d ca pa pk (nI st) (nI n) (hI) (hv24)) (cwV 2 hts gX2_freeOf_X2_usedOf rfl rfl rfl (by decide +kernel) ⟨Nat.le_of_ble_eq_true rfl, Nat.le_of_ble_eq_true rfl⟩) (z_recv (q := (RX2, TX2, 13)) hK (hP 0 _ rfl) rfl) hΦ rfl hl.1 rfl (Nat.le_of_ble_eq_true rfl) dX2_freeOf_9 ⟨Nat.zero_le _, Nat.zero_le _⟩ ?_
  refine lv_isub hx hb dX2_freeOf_12 ?_
  exact z_reti hx hb hr hlocks rfl (rfl) dX2_freeOf_13
theorem i_c_X2_usedByAll_X2 : ∀ w ∈ wsX20, w ∈ wsX2_usedByAll := fun w h => (List.mem_cons_of_mem _ (List.mem_append_left _ (List.mem_append_left _ (List.mem_append_right _ h))))
theorem i_c_X2_usedByAll_X1 : ∀ w ∈ wsX10, w ∈ wsX2_usedByAll := fun w h => (List.mem_cons_of_mem _ (List.mem_append_left _ (List.mem_append_right _ h)))
set_option maxRecDepth 100000 in
set_option maxHeartbeats 4000000 in
theorem c_X2_usedByAll (l : Launch) (D : va_G) (y : zY) (bd : Nat) (a : Nat) (d : Nat → Int32) (ca : Nat → Nat) (pa : Nat → Nat) (pk : Nat → Nat) (hI : zI d) (hv24 : vn d ≤ 24) : Met l yX2_usedByAll wsX2_usedByAll ({ frames := 2, cells := 0, slots := 0, locals := 43 }) (zP [.ref a] (fun H => sD D y bd a d ca pa pk H) D y) (zQ (some (.int (togI d false)))) 0 0 nofree := by
  refine z_body (cc := cX2_usedByAll) (maxL := 4) (ret := (some .int)) (la := [(0, .ref a)]) (by decide) rfl (Nat.le_of_ble_eq_true rfl) rfl ?_
  intro pg ev s mm below meth c0 ls hx hb hr hF hlocks hΦ hK hl _
  have hts := hF.2.2.2.2
  have hown : s.vm.findClass RX2 = some mm.cls := hF.2.2.2.1
  have hG2 := hI.ng2
  have hC8 := hI.nc8
  have hS0 := hΦ
  obtain ⟨cs, ns, se, wi, al, re, gi, ps, ss, vs, hP, hR, hC, hE, hT⟩ := hS0
  refine lv_iconst (v := (nI 0)) hx hb dX2_usedByAll_0 (by decide) ?_
  refine lv_istore_n (lv' := [(1, .int (nI 0)), (0, .ref a)]) hx hb dX2_usedByAll_1 rfl hl (by decide) rfl (fun ls hl => ?_)
  refine lv_iconst (v := (nI 0)) hx hb dX2_usedByAll_2 (by decide) ?_
  refine lv_istore_n (lv' := [(2, .int (nI 0)), (1, .int (nI 0)), (0, .ref a)]) hx hb dX2_usedByAll_3 rfl hl (by decide) rfl (fun ls hl => ?_)
  have hl := lv_repl (l' := [(2, .int (nI 0)), (1, .int (sumN (fun j => usI d (vx d j)) 0)), (0, .ref a)]) hl 1 rfl (congrArg Value.int (show (nI 0) = (sumN (fun j => usI d (vx d j)) 0) from rfl)) rfl
  refine z_loop (S := Nat) (nL := 4) (fun (i : Nat) => vn d - i) (fun (i : Nat) => [(2, .int (nI i)), (1, .int (sumN (fun j => usI d (vx d j)) i)), (0, .ref a)]) (fun (i : Nat) => i ≤ vn d) 0 (by omega) (lv_sub hl [0, 1, 2] rfl) ?_
  clear hl
  rintro i ls hI_4 hl ih_4
  have hi := hI_4
  refine lv_iload_n hx hb dX2_usedByAll_4 rfl (lv_at hl 0 rfl) ?_
  refine lv_aload_n hx hb dX2_usedByAll_5 rfl (lv_at hl 2 rfl) ?_
  refine z_get (fs := [.ref (a + 1), .int (nI (nC d)), .ref (a + 2), .ref (a + 3), .ref (a + 4), .ref (a + 5), .ref (a + 6), .ref (a + 7), .ref (a + 8), .int (nI (nG d)), .ref (a + 9), .ref (a + 10), .int (nI (vn d))]) (ref := "CranePermits$Site") (C := RX2) (T := TX2) (N := 13) (ci := 2) (v := .int (nI (vn d))) hx hb hts i_c_X2_usedByAll_X2 hown hK (hP 0 _ rfl) 12 (by decide) rfl (hts (.fieldLink RX2 55 "CranePermits$Site" "validCount" "I") (List.mem_of_getElem? (i := 1) rfl)) rfl rfl dX2_usedByAll_6 ?_
  refine z_ge (tgt := 43) hx hb (by omega) (by omega) dX2_usedByAll_9 (by decide) (fun c9 => ?_) (fun c9 => ?_)
  · refine lv_iload_n hx hb dX2_usedByAll_43 rfl (lv_at hl 1 rfl) ?_
    exact z_reti hx hb hr hlocks rfl (by rw [show i = vn d by omega]; exact tog_v d) dX2_usedByAll_44
  · refine lv_aload_n hx hb dX2_usedByAll_12 rfl (lv_at hl 2 rfl) ?_
    refine lv_iload_n hx hb dX2_usedByAll_13 rfl (lv_at hl 0 rfl) ?_
    refine z_callV (As := [.int (nI i)]) (rest := []) hF hK (c_X2_validAt_in l D y bd a d ca pa pk i (hI) (hv24) (by omega)) (cwV 1 hts gX2_usedByAll_X2_validAt rfl rfl rfl (by decide +kernel) ⟨Nat.le_of_ble_eq_true rfl, Nat.le_of_ble_eq_true rfl⟩) (z_recv (q := (RX2, TX2, 13)) hK (hP 0 _ rfl) rfl) hΦ rfl hl.1 rfl (Nat.le_of_ble_eq_true rfl) dX2_usedByAll_14 ⟨Nat.zero_le _, Nat.zero_le _⟩ ?_
    refine lv_astore_n (lv' := [(3, .ref (pa (vx d i))), (2, .int (nI i)), (1, .int (sumN (fun j => usI d (vx d j)) i)), (0, .ref a)]) hx hb dX2_usedByAll_17 rfl hl (by decide) rfl (fun ls hl => ?_)
    refine lv_aload_n hx hb dX2_usedByAll_18 rfl (lv_at hl 0 rfl) ?_
    refine lv_ifnull hx hb dX2_usedByAll_19 ?_
    refine lv_iload_n hx hb dX2_usedByAll_22 rfl (lv_at hl 2 rfl) ?_
    refine lv_aload_n hx hb dX2_usedByAll_23 rfl (lv_at hl 3 rfl) ?_
    refine lv_aload_n hx hb dX2_usedByAll_24 rfl (lv_at hl 0 rfl) ?_
    refine z_get (fs := [.int (nI (vx d i)), .ref (pk (vx d i)), .int (pm d (vx d i) 1), .int (pm d (vx d i) 2), .int (pm d (vx d i) 2 / nI 10), .int (pm d (vx d i) 2 - pm d (vx d i) 2 / nI 10 * nI 10), .int (pm d (vx d i) 3)]) (ref := "CranePermits$Permit") (C := RX1) (T := TX1) (N := 7) (ci := 1) (v := .ref (pk (vx d i))) hx hb hts i_c_X2_usedByAll_X1 hown hK (hE (vx d i) (vx_in (by omega)).1).2.2.1 1 (by decide) rfl (hts (.fieldLink RX2 113 "CranePermits$Permit" "crane" "LCranePermits$Crane;") (List.mem_of_getElem? (i := 2) rfl)) rfl rfl dX2_usedByAll_25 ?_
    refine lv_aload_n hx hb dX2_usedByAll_28 rfl (lv_at hl 0 rfl) ?_
    refine z_get (fs := [.int (nI (vx d i)), .ref (pk (vx d i)), .int (pm d (vx d i) 1), .int (pm d (vx d i) 2), .int (pm d (vx d i) 2 / nI 10), .int (pm d (vx d i) 2 - pm d (vx d i) 2 / nI 10 * nI 10), .int (pm d (vx d i) 3)]) (ref := "CranePermits$Permit") (C := RX1) (T := TX1) (N := 7) (ci := 1) (v := .int (pm d (vx d i) 2)) hx hb hts i_c_X2_usedByAll_X1 hown hK (hE (vx d i) (vx_in (by omega)).1).2.2.1 3 (by decide) rfl (hts (.fieldLink RX2 117 "CranePermits$Permit" "hours" "I") (List.mem_of_getElem? (i := 3) rfl)) rfl rfl dX2_usedByAll_29 ?_
    refine z_callV (As := [.ref (pk (vx d i)), .int (pm d (vx d i) 2)]) (rest := [.int (sumN (fun j => usI d (vx d j)) i)]) hF hK (c_X2_useOf l D y bd a d ca pa pk (pk (vx d i)) (pC d (vx d i)) (pm d (vx d i) 2) (hI) (hv24) (hI.pcn (vx_in (by omega)).1)) (cwV 2 hts gX2_usedByAll_X2_useOf rfl rfl rfl (by decide +kernel) ⟨Nat.le_of_ble_eq_true rfl, Nat.le_of_ble_eq_true rfl⟩) (z_recv (q := (RX2, TX2, 13)) hK (hP 0 _ rfl) rfl) ⟨hΦ, (hE (vx d i) (vx_in (by omega)).1).2.2.2⟩ rfl hl.1 rfl (Nat.le_of_ble_eq_true rfl) dX2_usedByAll_32 ⟨Nat.zero_le _, Nat.zero_le _⟩ ?_
    refine lv_iadd hx hb dX2_usedByAll_35 ?_
    refine lv_istore_n (lv' := [(1, .int ((sumN (fun j => usI d (vx d j)) i) + (hrsI (pm d (vx d i) 2) * gr d (pC d (vx d i)) 5))), (3, .ref (pa (vx d i))), (2, .int (nI i)), (0, .ref a)]) hx hb dX2_usedByAll_36 rfl hl (by decide) rfl (fun ls hl => ?_)
    refine lv_iinc (v := (nI (i + 1))) (lv' := [(2, .int (nI (i + 1))), (1, .int ((sumN (fun j => usI d (vx d j)) i) + (hrsI (pm d (vx d i) 2) * gr d (pC d (vx d i)) 5))), (3, .ref (pa (vx d i))), (0, .ref a)]) hx hb dX2_usedByAll_37 hl (k := 2) rfl (in1 _) (by decide) rfl (fun ls hl => ?_)
    refine lv_goto (tgt := 4) hx hb dX2_usedByAll_40 (by decide) ?_
    have hl := lv_repl (l' := [(2, .int (nI (i + 1))), (1, .int (sumN (fun j => usI d (vx d j)) (i + 1))), (3, .ref (pa (vx d i))), (0, .ref a)]) hl 1 rfl (congrArg Value.int (show ((sumN (fun j => usI d (vx d j)) i) + (hrsI (pm d (vx d i) 2) * gr d (pC d (vx d i)) 5)) = (sumN (fun j => usI d (vx d j)) (i + 1)) from rfl)) rfl
    exact ih_4 (i + 1) _ (by omega) (by omega) (lv_sub hl [0, 1, 3] rfl)
theorem i_c_X2_validOfCrane_X2 : ∀ w ∈ wsX20, w ∈ wsX2_validOfCrane := fun w h => (List.mem_cons_of_mem _ (List.mem_append_left _ (List.mem_append_left _ (List.mem_append_right _ h))))
set_option maxRecDepth 100000 in
set_option maxHeartbeats 4000000 in
theorem c_X2_validOfCrane (l : Launch) (D : va_G) (y : zY) (bd : Nat) (a : Nat) (d : Nat → Int32) (ca : Nat → Nat) (pa : Nat → Nat) (pk : Nat → Nat) (cr : Nat) (c : Nat) (hI : zI d) (hv24 : vn d ≤ 24) (hc : c < 8) : Met l yX2_validOfCrane wsX2_validOfCrane ({ frames := 1, cells := 0, slots := 0, locals := 22 }) (zP [.ref a, .ref cr] (fun H => sD D y bd a d ca pa pk H ∧ crA D y cr c d H) D y) (zQ (some (.int (vldI d (nI c))))) 0 0 nofree := by
  refine z_body (cc := cX2_validOfCrane) (maxL := 5) (ret := (some .int)) (la := [(0, .ref a), (1, .ref cr)]) (by decide) rfl (Nat.le_of_ble_eq_true rfl) rfl ?_
  intro pg ev s mm below meth c0 ls hx hb hr hF hlocks hΦ hK hl _
  have hts := hF.2.2.2.2
  have hown : s.vm.findClass RX2 = some mm.cls := hF.2.2.2.1
  have hG2 := hI.ng2
  have hC8 := hI.nc8
  have hS0 := hΦ.1
  obtain ⟨cs, ns, se, wi, al, re, gi, ps, ss, vs, hP, hR, hC, hE, hT⟩ := hS0
  refine lv_iconst (v := (nI 0)) hx hb dX2_validOfCrane_0 (by decide) ?_
  refine lv_istore_n (lv' := [(2, .int (nI 0)), (0, .ref a), (1, .ref cr)]) hx hb dX2_validOfCrane_1 rfl hl (by decide) rfl (fun ls hl => ?_)
  refine lv_iconst (v := (nI 0)) hx hb dX2_validOfCrane_2 (by decide) ?_
  refine lv_istore_n (lv' := [(3, .int (nI 0)), (2, .int (nI 0)), (0, .ref a), (1, .ref cr)]) hx hb dX2_validOfCrane_3 rfl hl (by decide) rfl (fun ls hl => ?_)
  have hl := lv_repl (l' := [(3, .int (nI 0)), (2, .int (sumN (vocF d c) 0)), (0, .ref a), (1, .ref cr)]) hl 1 rfl (congrArg Value.int (show (nI 0) = (sumN (vocF d c) 0) from rfl)) rfl
  refine z_loop (S := Nat) (nL := 5) (fun (i : Nat) => vn d - i) (fun (i : Nat) => [(3, .int (nI i)), (2, .int (sumN (vocF d c) i)), (0, .ref a), (1, .ref cr)]) (fun (i : Nat) => i ≤ vn d) 0 (by omega) (lv_sub hl [0, 1, 2, 3] rfl) ?_
  clear hl
  rintro i ls hI_4 hl ih_4
  have hi := hI_4
  refine lv_iload_n hx hb dX2_validOfCrane_4 rfl (lv_at hl 0 rfl) ?_
  refine lv_aload_n hx hb dX2_validOfCrane_5 rfl (lv_at hl 2 rfl) ?_
  refine z_get (fs := [.ref (a + 1), .int (nI (nC d)), .ref (a + 2), .ref (a + 3), .ref (a + 4), .ref (a + 5), .ref (a + 6), .ref (a + 7), .ref (a + 8), .int (nI (nG d)), .ref (a + 9), .ref (a + 10), .int (nI (vn d))]) (ref := "CranePermits$Site") (C := RX2) (T := TX2) (N := 13) (ci := 2) (v := .int (nI (vn d))) hx hb hts i_c_X2_validOfCrane_X2 hown hK (hP 0 _ rfl) 12 (by decide) rfl (hts (.fieldLink RX2 55 "CranePermits$Site" "validCount" "I") (List.mem_of_getElem? (i := 1) rfl)) rfl rfl dX2_validOfCrane_6 ?_
  refine z_ge (tgt := 42) hx hb (by omega) (by omega) dX2_validOfCrane_9 (by decide) (fun c9 => ?_) (fun c9 => ?_)
  · refine lv_iload_n hx hb dX2_validOfCrane_42 rfl (lv_at hl 1 rfl) ?_
    exact z_reti hx hb hr hlocks rfl (by rw [show i = vn d by omega]; exact voc_v hI hc) dX2_validOfCrane_43
  · refine lv_aload_n hx hb dX2_validOfCrane_12 rfl (lv_at hl 2 rfl) ?_
    refine lv_iload_n hx hb dX2_validOfCrane_13 rfl (lv_at hl 0 rfl) ?_
    refine z_callV (As := [.int (nI i)]) (rest := []) hF hK (c_X2_validAt_in l D y bd a d ca pa pk i (hI) (hv24) (by omega)) (cwV 1 hts gX2_validOfCrane_X2_validAt rfl rfl rfl (by decide +kernel) ⟨Nat.le_of_ble_eq_true rfl, Nat.le_of_ble_eq_true rfl⟩) (z_recv (q := (RX2, TX2, 13)) hK (hP 0 _ rfl) rfl) hΦ.1 rfl hl.1 rfl (Nat.le_of_ble_eq_true rfl) dX2_validOfCrane_14 ⟨Nat.zero_le _, Nat.zero_le _⟩ ?_
    refine lv_astore (lv' := [(4, .ref (pa (vx d i))), (3, .int (nI i)), (2, .int (sumN (vocF d c) i)), (0, .ref a), (1, .ref cr)]) hx hb dX2_validOfCrane_17 hl (by decide) rfl (fun ls hl => ?_)
    refine lv_aload hx hb dX2_validOfCrane_19 (lv_at hl 0 rfl) ?_
    refine lv_ifnull hx hb dX2_validOfCrane_21 ?_
    refine lv_aload hx hb dX2_validOfCrane_24 (lv_at hl 0 rfl) ?_
    refine lv_aload_n hx hb dX2_validOfCrane_26 rfl (lv_at hl 4 rfl) ?_
    refine z_callV (As := [.ref cr]) (rest := []) hF hK (c_X1_isFor l D y (pa (vx d i)) (vx d i) (pk (vx d i)) d cr c (hI.pc8 (vx_in (by omega)).1) (by omega)) (cwV 1 hts gX2_validOfCrane_X1_isFor rfl rfl rfl (by decide +kernel) ⟨Nat.le_of_ble_eq_true rfl, Nat.le_of_ble_eq_true rfl⟩) (z_recv (q := (RX1, TX1, 7)) hK (hE (vx d i) (vx_in (by omega)).1).2.2.1 rfl) ⟨(hE (vx d i) (vx_in (by omega)).1).2.2, hΦ.2⟩ rfl hl.1 rfl (Nat.le_of_ble_eq_true rfl) dX2_validOfCrane_27 ⟨Nat.zero_le _, Nat.zero_le _⟩ ?_
    refine z_ifeq (tgt := 36) hx hb dX2_validOfCrane_30 (by decide) (fun c30 => ?_) (fun c30 => ?_)
    · refine lv_iinc (v := (nI (i + 1))) (lv' := [(3, .int (nI (i + 1))), (4, .ref (pa (vx d i))), (2, .int (sumN (vocF d c) i)), (0, .ref a), (1, .ref cr)]) hx hb dX2_validOfCrane_36 hl (k := 1) rfl (in1 _) (by decide) rfl (fun ls hl => ?_)
      refine lv_goto (tgt := 4) hx hb dX2_validOfCrane_39 (by decide) ?_
      have hl := lv_repl (l' := [(3, .int (nI (i + 1))), (4, .ref (pa (vx d i))), (2, .int (sumN (vocF d c) (i + 1))), (0, .ref a), (1, .ref cr)]) hl 2 rfl (congrArg Value.int (show (sumN (vocF d c) i) = (sumN (vocF d c) (i + 1)) from by rw [sumN_s, vocF]; first | (rw [if_pos (of_decide_eq_true c30)]; rfl) | (rw [if_neg (of_decide_eq_false c30)]; exact (add_z _).symm))) rfl
      exact ih_4 (i + 1) _ (by omega) (by omega) (lv_sub hl [0, 2, 3, 4] rfl)
    · refine lv_iinc (v := ((sumN (vocF d c) i) + 1)) (lv' := [(2, .int ((sumN (vocF d c) i) + 1)), (4, .ref (pa (vx d i))), (3, .int (nI i)), (0, .ref a), (1, .ref cr)]) hx hb dX2_validOfCrane_33 hl (k := 2) rfl (rfl) (by decide) rfl (fun ls hl => ?_)
      refine lv_iinc (v := (nI (i + 1))) (lv' := [(3, .int (nI (i + 1))), (2, .int ((sumN (vocF d c) i) + 1)), (4, .ref (pa (vx d i))), (0, .ref a), (1, .ref cr)]) hx hb dX2_validOfCrane_36 hl (k := 2) rfl (in1 _) (by decide) rfl (fun ls hl => ?_)
      refine lv_goto (tgt := 4) hx hb dX2_validOfCrane_39 (by decide) ?_
      have hl := lv_repl (l' := [(3, .int (nI (i + 1))), (2, .int (sumN (vocF d c) (i + 1))), (4, .ref (pa (vx d i))), (0, .ref a), (1, .ref cr)]) hl 1 rfl (congrArg Value.int (show ((sumN (vocF d c) i) + 1) = (sumN (vocF d c) (i + 1)) from by rw [sumN_s, vocF]; first | (rw [if_pos (of_decide_eq_true c30)]; rfl) | (rw [if_neg (of_decide_eq_false c30)]; exact (add_z _).symm))) rfl
      exact ih_4 (i + 1) _ (by omega) (by omega) (lv_sub hl [0, 1, 3, 4] rfl)
theorem i_c_X2_validOfStreet_X2 : ∀ w ∈ wsX20, w ∈ wsX2_validOfStreet := fun w h => (List.mem_cons_of_mem _ (List.mem_append_left _ (List.mem_append_left _ (List.mem_append_right _ h))))
set_option maxRecDepth 100000 in
set_option maxHeartbeats 4000000 in
theorem c_X2_validOfStreet (l : Launch) (D : va_G) (y : zY) (bd : Nat) (a : Nat) (d : Nat → Int32) (ca : Nat → Nat) (pa : Nat → Nat) (pk : Nat → Nat) (st : Int32) (n : Int32) (hI : zI d) (hv24 : vn d ≤ 24) : Met l yX2_validOfStreet wsX2_validOfStreet ({ frames := 1, cells := 0, slots := 0, locals := 22 }) (zP [.ref a, .int st, .int n] (fun H => sD D y bd a d ca pa pk H) D y) (zQ (some (.int (vofI d st n)))) 0 0 nofree := by
  refine z_body (cc := cX2_validOfStreet) (maxL := 6) (ret := (some .int)) (la := [(0, .ref a), (1, .int st), (2, .int n)]) (by decide) rfl (Nat.le_of_ble_eq_true rfl) rfl ?_
  intro pg ev s mm below meth c0 ls hx hb hr hF hlocks hΦ hK hl _
  have hts := hF.2.2.2.2
  have hown : s.vm.findClass RX2 = some mm.cls := hF.2.2.2.1
  have hG2 := hI.ng2
  have hC8 := hI.nc8
  have hS0 := hΦ
  obtain ⟨cs, ns, se, wi, al, re, gi, ps, ss, vs, hP, hR, hC, hE, hT⟩ := hS0
  refine lv_iconst (v := (nI 0)) hx hb dX2_validOfStreet_0 (by decide) ?_
  refine lv_istore_n (lv' := [(3, .int (nI 0)), (0, .ref a), (1, .int st), (2, .int n)]) hx hb dX2_validOfStreet_1 rfl hl (by decide) rfl (fun ls hl => ?_)
  refine lv_iconst (v := (nI 0)) hx hb dX2_validOfStreet_2 (by decide) ?_
  refine lv_istore (lv' := [(4, .int (nI 0)), (3, .int (nI 0)), (0, .ref a), (1, .int st), (2, .int n)]) hx hb dX2_validOfStreet_3 hl (by decide) rfl (fun ls hl => ?_)
  have hl := lv_repl (l' := [(4, .int (nI 0)), (3, .int (sumN (vosF d st n) 0)), (0, .ref a), (1, .int st), (2, .int n)]) hl 1 rfl (congrArg Value.int (show (nI 0) = (sumN (vosF d st n) 0) from rfl)) rfl
  refine z_loop (S := Nat) (nL := 6) (fun (i : Nat) => vn d - i) (fun (i : Nat) => [(4, .int (nI i)), (3, .int (sumN (vosF d st n) i)), (0, .ref a), (1, .int st), (2, .int n)]) (fun (i : Nat) => i ≤ vn d) 0 (by omega) (lv_sub hl [0, 1, 2, 3, 4] rfl) ?_
  clear hl
  rintro i ls hI_5 hl ih_5
  have hi := hI_5
  refine lv_iload hx hb dX2_validOfStreet_5 (lv_at hl 0 rfl) ?_
  refine lv_aload_n hx hb dX2_validOfStreet_7 rfl (lv_at hl 2 rfl) ?_
  refine z_get (fs := [.ref (a + 1), .int (nI (nC d)), .ref (a + 2), .ref (a + 3), .ref (a + 4), .ref (a + 5), .ref (a + 6), .ref (a + 7), .ref (a + 8), .int (nI (nG d)), .ref (a + 9), .ref (a + 10), .int (nI (vn d))]) (ref := "CranePermits$Site") (C := RX2) (T := TX2) (N := 13) (ci := 2) (v := .int (nI (vn d))) hx hb hts i_c_X2_validOfStreet_X2 hown hK (hP 0 _ rfl) 12 (by decide) rfl (hts (.fieldLink RX2 55 "CranePermits$Site" "validCount" "I") (List.mem_of_getElem? (i := 1) rfl)) rfl rfl dX2_validOfStreet_8 ?_
  refine z_ge (tgt := 46) hx hb (by omega) (by omega) dX2_validOfStreet_11 (by decide) (fun c11 => ?_) (fun c11 => ?_)
  · refine lv_iload_n hx hb dX2_validOfStreet_46 rfl (lv_at hl 1 rfl) ?_
    exact z_reti hx hb hr hlocks rfl (by rw [show i = vn d by omega]; exact vos_v d st n) dX2_validOfStreet_47
  · refine lv_aload_n hx hb dX2_validOfStreet_14 rfl (lv_at hl 2 rfl) ?_
    refine lv_iload hx hb dX2_validOfStreet_15 (lv_at hl 0 rfl) ?_
    refine z_callV (As := [.int (nI i)]) (rest := []) hF hK (c_X2_validAt_in l D y bd a d ca pa pk i (hI) (hv24) (by omega)) (cwV 1 hts gX2_validOfStreet_X2_validAt rfl rfl rfl (by decide +kernel) ⟨Nat.le_of_ble_eq_true rfl, Nat.le_of_ble_eq_true rfl⟩) (z_recv (q := (RX2, TX2, 13)) hK (hP 0 _ rfl) rfl) hΦ rfl hl.1 rfl (Nat.le_of_ble_eq_true rfl) dX2_validOfStreet_17 ⟨Nat.zero_le _, Nat.zero_le _⟩ ?_
    refine lv_astore (lv' := [(5, .ref (pa (vx d i))), (4, .int (nI i)), (3, .int (sumN (vosF d st n) i)), (0, .ref a), (1, .int st), (2, .int n)]) hx hb dX2_validOfStreet_20 hl (by decide) rfl (fun ls hl => ?_)
    refine lv_aload hx hb dX2_validOfStreet_22 (lv_at hl 0 rfl) ?_
    refine lv_ifnull hx hb dX2_validOfStreet_24 ?_
    refine lv_aload hx hb dX2_validOfStreet_27 (lv_at hl 0 rfl) ?_
    refine lv_iload_n hx hb dX2_validOfStreet_29 rfl (lv_at hl 4 rfl) ?_
    refine lv_iload_n hx hb dX2_validOfStreet_30 rfl (lv_at hl 5 rfl) ?_
    refine z_callV (As := [.int st, .int n]) (rest := []) hF hK (c_X1_isOf l D y (pa (vx d i)) (vx d i) (pk (vx d i)) d st n ) (cwV 2 hts gX2_validOfStreet_X1_isOf rfl rfl rfl (by decide +kernel) ⟨Nat.le_of_ble_eq_true rfl, Nat.le_of_ble_eq_true rfl⟩) (z_recv (q := (RX1, TX1, 7)) hK (hE (vx d i) (vx_in (by omega)).1).2.2.1 rfl) (hE (vx d i) (vx_in (by omega)).1).2.2 rfl hl.1 rfl (Nat.le_of_ble_eq_true rfl) dX2_validOfStreet_31 ⟨Nat.zero_le _, Nat.zero_le _⟩ ?_
    refine z_ifeq (tgt := 40) hx hb dX2_validOfStreet_34 (by decide) (fun c34 => ?_) (fun c34 => ?_)
    · refine lv_iinc (v := (nI (i + 1))) (lv' := [(4, .int (nI (i + 1))), (5, .ref (pa (vx d i))), (3, .int (sumN (vosF d st n) i)), (0, .ref a), (1, .int st), (2, .int n)]) hx hb dX2_validOfStreet_40 hl (k := 1) rfl (in1 _) (by decide) rfl (fun ls hl => ?_)
      refine lv_goto (tgt := 5) hx hb dX2_validOfStreet_43 (by decide) ?_
      have hl := lv_repl (l' := [(4, .int (nI (i + 1))), (5, .ref (pa (vx d i))), (3, .int (sumN (vosF d st n) (i + 1))), (0, .ref a), (1, .int st), (2, .int n)]) hl 2 rfl (congrArg Value.int (show (sumN (vosF d st n) i) = (sumN (vosF d st n) (i + 1)) from by rw [sumN_s, vosF]; first | (rw [if_pos c34]; rfl) | (rw [if_neg (bf c34)]; exact (add_z _).symm))) rfl
      exact ih_5 (i + 1) _ (by omega) (by omega) (lv_sub hl [0, 2, 3, 4, 5] rfl)
    · refine lv_iinc (v := ((sumN (vosF d st n) i) + 1)) (lv' := [(3, .int ((sumN (vosF d st n) i) + 1)), (5, .ref (pa (vx d i))), (4, .int (nI i)), (0, .ref a), (1, .int st), (2, .int n)]) hx hb dX2_validOfStreet_37 hl (k := 2) rfl (rfl) (by decide) rfl (fun ls hl => ?_)
      refine lv_iinc (v := (nI (i + 1))) (lv' := [(4, .int (nI (i + 1))), (3, .int ((sumN (vosF d st n) i) + 1)), (5, .ref (pa (vx d i))), (0, .ref a), (1, .int st), (2, .int n)]) hx hb dX2_validOfStreet_40 hl (k := 2) rfl (in1 _) (by decide) rfl (fun ls hl => ?_)
      refine lv_goto (tgt := 5) hx hb dX2_validOfStreet_43 (by decide) ?_
      have hl := lv_repl (l' := [(4, .int (nI (i + 1))), (3, .int (sumN (vosF d st n) (i + 1))), (5, .ref (pa (vx d i))), (0, .ref a), (1, .int st), (2, .int n)]) hl 1 rfl (congrArg Value.int (show ((sumN (vosF d st n) i) + 1) = (sumN (vosF d st n) (i + 1)) from by rw [sumN_s, vosF]; first | (rw [if_pos c34]; rfl) | (rw [if_neg (bf c34)]; exact (add_z _).symm))) rfl
      exact ih_5 (i + 1) _ (by omega) (by omega) (lv_sub hl [0, 1, 3, 4, 5] rfl)
theorem i_c_X2_validAhead_X2 : ∀ w ∈ wsX20, w ∈ wsX2_validAhead := fun w h => (List.mem_cons_of_mem _ (List.mem_append_left _ (List.mem_append_right _ h)))
set_option maxRecDepth 100000 in
set_option maxHeartbeats 4000000 in
theorem c_X2_validAhead (l : Launch) (D : va_G) (y : zY) (bd : Nat) (a : Nat) (d : Nat → Int32) (ca : Nat → Nat) (pa : Nat → Nat) (pk : Nat → Nat) (q : Nat) (p : Nat) (cq : Nat) (hI : zI d) (hv24 : vn d ≤ 24) (hp : p < 200) : Met l yX2_validAhead wsX2_validAhead ({ frames := 1, cells := 0, slots := 0, locals := 22 }) (zP [.ref a, .ref q] (fun H => sD D y bd a d ca pa pk H ∧ peA D y q p cq d H) D y) (zQ (some (.int (sumN (vahF d p) (vn d))))) 0 0 nofree := by
  refine z_body (cc := cX2_validAhead) (maxL := 5) (ret := (some .int)) (la := [(0, .ref a), (1, .ref q)]) (by decide) rfl (Nat.le_of_ble_eq_true rfl) rfl ?_
  intro pg ev s mm below meth c0 ls hx hb hr hF hlocks hΦ hK hl _
  have hts := hF.2.2.2.2
  have hown : s.vm.findClass RX2 = some mm.cls := hF.2.2.2.1
  have hG2 := hI.ng2
  have hC8 := hI.nc8
  have hS0 := hΦ.1
  obtain ⟨cs, ns, se, wi, al, re, gi, ps, ss, vs, hP, hR, hC, hE, hT⟩ := hS0
  refine lv_iconst (v := (nI 0)) hx hb dX2_validAhead_0 (by decide) ?_
  refine lv_istore_n (lv' := [(2, .int (nI 0)), (0, .ref a), (1, .ref q)]) hx hb dX2_validAhead_1 rfl hl (by decide) rfl (fun ls hl => ?_)
  refine lv_iconst (v := (nI 0)) hx hb dX2_validAhead_2 (by decide) ?_
  refine lv_istore_n (lv' := [(3, .int (nI 0)), (2, .int (nI 0)), (0, .ref a), (1, .ref q)]) hx hb dX2_validAhead_3 rfl hl (by decide) rfl (fun ls hl => ?_)
  have hl := lv_repl (l' := [(3, .int (nI 0)), (2, .int (sumN (vahF d p) 0)), (0, .ref a), (1, .ref q)]) hl 1 rfl (congrArg Value.int (show (nI 0) = (sumN (vahF d p) 0) from rfl)) rfl
  refine z_loop (S := Nat) (nL := 5) (fun (i : Nat) => vn d - i) (fun (i : Nat) => [(3, .int (nI i)), (2, .int (sumN (vahF d p) i)), (0, .ref a), (1, .ref q)]) (fun (i : Nat) => i ≤ vn d) 0 (by omega) (lv_sub hl [0, 1, 2, 3] rfl) ?_
  clear hl
  rintro i ls hI_4 hl ih_4
  have hi := hI_4
  refine lv_iload_n hx hb dX2_validAhead_4 rfl (lv_at hl 0 rfl) ?_
  refine lv_aload_n hx hb dX2_validAhead_5 rfl (lv_at hl 2 rfl) ?_
  refine z_get (fs := [.ref (a + 1), .int (nI (nC d)), .ref (a + 2), .ref (a + 3), .ref (a + 4), .ref (a + 5), .ref (a + 6), .ref (a + 7), .ref (a + 8), .int (nI (nG d)), .ref (a + 9), .ref (a + 10), .int (nI (vn d))]) (ref := "CranePermits$Site") (C := RX2) (T := TX2) (N := 13) (ci := 2) (v := .int (nI (vn d))) hx hb hts i_c_X2_validAhead_X2 hown hK (hP 0 _ rfl) 12 (by decide) rfl (hts (.fieldLink RX2 55 "CranePermits$Site" "validCount" "I") (List.mem_of_getElem? (i := 1) rfl)) rfl rfl dX2_validAhead_6 ?_
  refine z_ge (tgt := 42) hx hb (by omega) (by omega) dX2_validAhead_9 (by decide) (fun c9 => ?_) (fun c9 => ?_)
  · refine lv_iload_n hx hb dX2_validAhead_42 rfl (lv_at hl 1 rfl) ?_
    exact z_reti hx hb hr hlocks rfl (by rw [show i = vn d by omega]) dX2_validAhead_43
  · refine lv_aload_n hx hb dX2_validAhead_12 rfl (lv_at hl 2 rfl) ?_
    refine lv_iload_n hx hb dX2_validAhead_13 rfl (lv_at hl 0 rfl) ?_
    refine z_callV (As := [.int (nI i)]) (rest := []) hF hK (c_X2_validAt_in l D y bd a d ca pa pk i (hI) (hv24) (by omega)) (cwV 1 hts gX2_validAhead_X2_validAt rfl rfl rfl (by decide +kernel) ⟨Nat.le_of_ble_eq_true rfl, Nat.le_of_ble_eq_true rfl⟩) (z_recv (q := (RX2, TX2, 13)) hK (hP 0 _ rfl) rfl) hΦ.1 rfl hl.1 rfl (Nat.le_of_ble_eq_true rfl) dX2_validAhead_14 ⟨Nat.zero_le _, Nat.zero_le _⟩ ?_
    refine lv_astore (lv' := [(4, .ref (pa (vx d i))), (3, .int (nI i)), (2, .int (sumN (vahF d p) i)), (0, .ref a), (1, .ref q)]) hx hb dX2_validAhead_17 hl (by decide) rfl (fun ls hl => ?_)
    refine lv_aload hx hb dX2_validAhead_19 (lv_at hl 0 rfl) ?_
    refine lv_ifnull hx hb dX2_validAhead_21 ?_
    refine lv_aload hx hb dX2_validAhead_24 (lv_at hl 0 rfl) ?_
    refine lv_aload_n hx hb dX2_validAhead_26 rfl (lv_at hl 4 rfl) ?_
    refine z_callV (As := [.ref q]) (rest := []) hF hK (c_X1_isAheadOf l D y (pa (vx d i)) (vx d i) (pk (vx d i)) d q p cq (Nat.lt_of_lt_of_le (vx_in (by omega)).1 hG2) (by omega)) (cwV 1 hts gX2_validAhead_X1_isAheadOf rfl rfl rfl (by decide +kernel) ⟨Nat.le_of_ble_eq_true rfl, Nat.le_of_ble_eq_true rfl⟩) (z_recv (q := (RX1, TX1, 7)) hK (hE (vx d i) (vx_in (by omega)).1).2.2.1 rfl) ⟨(hE (vx d i) (vx_in (by omega)).1).2.2, hΦ.2⟩ rfl hl.1 rfl (Nat.le_of_ble_eq_true rfl) dX2_validAhead_27 ⟨Nat.zero_le _, Nat.zero_le _⟩ ?_
    refine z_ifeq (tgt := 36) hx hb dX2_validAhead_30 (by decide) (fun c30 => ?_) (fun c30 => ?_)
    · refine lv_iinc (v := (nI (i + 1))) (lv' := [(3, .int (nI (i + 1))), (4, .ref (pa (vx d i))), (2, .int (sumN (vahF d p) i)), (0, .ref a), (1, .ref q)]) hx hb dX2_validAhead_36 hl (k := 1) rfl (in1 _) (by decide) rfl (fun ls hl => ?_)
      refine lv_goto (tgt := 4) hx hb dX2_validAhead_39 (by decide) ?_
      have hl := lv_repl (l' := [(3, .int (nI (i + 1))), (4, .ref (pa (vx d i))), (2, .int (sumN (vahF d p) (i + 1))), (0, .ref a), (1, .ref q)]) hl 2 rfl (congrArg Value.int (show (sumN (vahF d p) i) = (sumN (vahF d p) (i + 1)) from by rw [sumN_s, vahF]; first | (rw [if_pos c30]; rfl) | (rw [if_neg (bf c30)]; exact (add_z _).symm))) rfl
      exact ih_4 (i + 1) _ (by omega) (by omega) (lv_sub hl [0, 2, 3, 4] rfl)
    · refine lv_iinc (v := ((sumN (vahF d p) i) + 1)) (lv' := [(2, .int ((sumN (vahF d p) i) + 1)), (4, .ref (pa (vx d i))), (3, .int (nI i)), (0, .ref a), (1, .ref q)]) hx hb dX2_validAhead_33 hl (k := 2) rfl (rfl) (by decide) rfl (fun ls hl => ?_)
      refine lv_iinc (v := (nI (i + 1))) (lv' := [(3, .int (nI (i + 1))), (2, .int ((sumN (vahF d p) i) + 1)), (4, .ref (pa (vx d i))), (0, .ref a), (1, .ref q)]) hx hb dX2_validAhead_36 hl (k := 2) rfl (in1 _) (by decide) rfl (fun ls hl => ?_)
      refine lv_goto (tgt := 4) hx hb dX2_validAhead_39 (by decide) ?_
      have hl := lv_repl (l' := [(3, .int (nI (i + 1))), (2, .int (sumN (vahF d p) (i + 1))), (4, .ref (pa (vx d i))), (0, .ref a), (1, .ref q)]) hl 1 rfl (congrArg Value.int (show ((sumN (vahF d p) i) + 1) = (sumN (vahF d p) (i + 1)) from by rw [sumN_s, vahF]; first | (rw [if_pos c30]; rfl) | (rw [if_neg (bf c30)]; exact (add_z _).symm))) rfl
      exact ih_4 (i + 1) _ (by omega) (by omega) (lv_sub hl [0, 1, 3, 4] rfl)
theorem i_c_X2_permitsWith_X2 : ∀ w ∈ wsX20, w ∈ wsX2_permitsWith := fun w h => (List.mem_cons_of_mem _ (List.mem_append_right _ h))
set_option maxRecDepth 100000 in
set_option maxHeartbeats 4000000 in
theorem c_X2_permitsWith (l : Launch) (D : va_G) (y : zY) (bd : Nat) (a : Nat) (d : Nat → Int32) (ca : Nat → Nat) (pa : Nat → Nat) (pk : Nat → Nat) (v : Int32) (hI : zI d) (hv24 : vn d ≤ 24) : Met l yX2_permitsWith wsX2_permitsWith ({ frames := 1, cells := 0, slots := 0, locals := 21 }) (zP [.ref a, .int v] (fun H => sD D y bd a d ca pa pk H) D y) (zQ (some (.int (sumN (cntF d v) (nG d))))) 0 0 nofree := by
  refine z_body (cc := cX2_permitsWith) (maxL := 4) (ret := (some .int)) (la := [(0, .ref a), (1, .int v)]) (by decide) rfl (Nat.le_of_ble_eq_true rfl) rfl ?_
  intro pg ev s mm below meth c0 ls hx hb hr hF hlocks hΦ hK hl _
  have hts := hF.2.2.2.2
  have hown : s.vm.findClass RX2 = some mm.cls := hF.2.2.2.1
  have hG2 := hI.ng2
  have hC8 := hI.nc8
  have hS0 := hΦ
  obtain ⟨cs, ns, se, wi, al, re, gi, ps, ss, vs, hP, hR, hC, hE, hT⟩ := hS0
  refine lv_iconst (v := (nI 0)) hx hb dX2_permitsWith_0 (by decide) ?_
  refine lv_istore_n (lv' := [(2, .int (nI 0)), (0, .ref a), (1, .int v)]) hx hb dX2_permitsWith_1 rfl hl (by decide) rfl (fun ls hl => ?_)
  refine lv_iconst (v := (nI 0)) hx hb dX2_permitsWith_2 (by decide) ?_
  refine lv_istore_n (lv' := [(3, .int (nI 0)), (2, .int (nI 0)), (0, .ref a), (1, .int v)]) hx hb dX2_permitsWith_3 rfl hl (by decide) rfl (fun ls hl => ?_)
  have hl := lv_repl (l' := [(3, .int (nI 0)), (2, .int (sumN (cntF d v) 0)), (0, .ref a), (1, .int v)]) hl 1 rfl (congrArg Value.int (show (nI 0) = (sumN (cntF d v) 0) from rfl)) rfl
  refine z_loop (S := Nat) (nL := 4) (fun (i : Nat) => nG d - i) (fun (i : Nat) => [(3, .int (nI i)), (2, .int (sumN (cntF d v) i)), (0, .ref a), (1, .int v)]) (fun (i : Nat) => i ≤ nG d) 0 (by omega) (lv_sub hl [0, 1, 2, 3] rfl) ?_
  clear hl
  rintro i ls hI_4 hl ih_4
  have hi := hI_4
  refine lv_iload_n hx hb dX2_permitsWith_4 rfl (lv_at hl 0 rfl) ?_
  refine lv_aload_n hx hb dX2_permitsWith_5 rfl (lv_at hl 2 rfl) ?_
  refine z_get (fs := [.ref (a + 1), .int (nI (nC d)), .ref (a + 2), .ref (a + 3), .ref (a + 4), .ref (a + 5), .ref (a + 6), .ref (a + 7), .ref (a + 8), .int (nI (nG d)), .ref (a + 9), .ref (a + 10), .int (nI (vn d))]) (ref := "CranePermits$Site") (C := RX2) (T := TX2) (N := 13) (ci := 2) (v := .int (nI (nG d))) hx hb hts i_c_X2_permitsWith_X2 hown hK (hP 0 _ rfl) 9 (by decide) rfl (hts (.fieldLink RX2 46 "CranePermits$Site" "permitCount" "I") (List.mem_of_getElem? (i := 1) rfl)) rfl rfl dX2_permitsWith_6 ?_
  refine z_ge (tgt := 33) hx hb (by omega) (by omega) dX2_permitsWith_9 (by decide) (fun c9 => ?_) (fun c9 => ?_)
  · refine lv_iload_n hx hb dX2_permitsWith_33 rfl (lv_at hl 1 rfl) ?_
    exact z_reti hx hb hr hlocks rfl (by rw [show i = nG d by omega]) dX2_permitsWith_34
  · refine lv_aload_n hx hb dX2_permitsWith_12 rfl (lv_at hl 2 rfl) ?_
    refine z_get (fs := [.ref (a + 1), .int (nI (nC d)), .ref (a + 2), .ref (a + 3), .ref (a + 4), .ref (a + 5), .ref (a + 6), .ref (a + 7), .ref (a + 8), .int (nI (nG d)), .ref (a + 9), .ref (a + 10), .int (nI (vn d))]) (ref := "CranePermits$Site") (C := RX2) (T := TX2) (N := 13) (ci := 2) (v := .ref (a + 9)) hx hb hts i_c_X2_permitsWith_X2 hown hK (hP 0 _ rfl) 10 (by decide) rfl (hts (.fieldLink RX2 49 "CranePermits$Site" "states" "[I") (List.mem_of_getElem? (i := 2) rfl)) rfl rfl dX2_permitsWith_13 ?_
    refine lv_iload_n hx hb dX2_permitsWith_16 rfl (lv_at hl 0 rfl) ?_
    refine z_callN (As := [.ref (a + 9), .int (nI i)]) (rest := []) hF hK (c_X4_at l D y (a + 9) 200 ss i (by omega) (by decide)) ⟨va_cnB 2 hts gX2_permitsWith_X4_at_n84 rfl rfl rfl hK.2.2.2.1 (hts (.initialized RX4) (List.mem_of_getElem? (i := 4) rfl)) (by decide +kernel) ⟨Nat.le_of_ble_eq_true rfl, Nat.le_of_ble_eq_true rfl⟩, (hts (.static yX4_at) (List.mem_of_getElem? (i := 3) rfl)), trivial⟩ (hP 9 _ rfl) rfl hl.1 rfl (Nat.le_of_ble_eq_true rfl) dX2_permitsWith_17 ⟨Nat.zero_le _, Nat.zero_le _⟩ ?_
    refine z_topi (z := (pm d i 4)) (hR.2.2.2.2.2.2.2.2.1 i (by omega)) ?_
    refine lv_iload_n hx hb dX2_permitsWith_20 rfl (lv_at hl 3 rfl) ?_
    refine lv_icmp_ne (tgt := 27) hx hb dX2_permitsWith_21 (by decide) (fun c21 => ?_) (fun c21 => ?_)
    · refine lv_iinc (v := (nI (i + 1))) (lv' := [(3, .int (nI (i + 1))), (2, .int (sumN (cntF d v) i)), (0, .ref a), (1, .int v)]) hx hb dX2_permitsWith_27 hl (k := 0) rfl (in1 _) (by decide) rfl (fun ls hl => ?_)
      refine lv_goto (tgt := 4) hx hb dX2_permitsWith_30 (by decide) ?_
      have hl := lv_repl (l' := [(3, .int (nI (i + 1))), (2, .int (sumN (cntF d v) (i + 1))), (0, .ref a), (1, .int v)]) hl 1 rfl (congrArg Value.int (show (sumN (cntF d v) i) = (sumN (cntF d v) (i + 1)) from by rw [sumN_s, cntF]; first | (rw [if_pos c21]; rfl) | (rw [if_neg c21]; exact (add_z _).symm))) rfl
      exact ih_4 (i + 1) _ (by omega) (by omega) (lv_sub hl [0, 1, 2, 3] rfl)
    · refine lv_iinc (v := ((sumN (cntF d v) i) + 1)) (lv' := [(2, .int ((sumN (cntF d v) i) + 1)), (3, .int (nI i)), (0, .ref a), (1, .int v)]) hx hb dX2_permitsWith_24 hl (k := 1) rfl (rfl) (by decide) rfl (fun ls hl => ?_)
      refine lv_iinc (v := (nI (i + 1))) (lv' := [(3, .int (nI (i + 1))), (2, .int ((sumN (cntF d v) i) + 1)), (0, .ref a), (1, .int v)]) hx hb dX2_permitsWith_27 hl (k := 1) rfl (in1 _) (by decide) rfl (fun ls hl => ?_)
      refine lv_goto (tgt := 4) hx hb dX2_permitsWith_30 (by decide) ?_
      have hl := lv_repl (l' := [(3, .int (nI (i + 1))), (2, .int (sumN (cntF d v) (i + 1))), (0, .ref a), (1, .int v)]) hl 1 rfl (congrArg Value.int (show ((sumN (cntF d v) i) + 1) = (sumN (cntF d v) (i + 1)) from by rw [sumN_s, cntF]; first | (rw [if_pos c21]; rfl) | (rw [if_neg c21]; exact (add_z _).symm))) rfl
      exact ih_4 (i + 1) _ (by omega) (by omega) (lv_sub hl [0, 1, 2, 3] rfl)
theorem i_c_X2_shareAir_X0 : ∀ w ∈ wsX00, w ∈ wsX2_shareAir := fun w h => (List.mem_cons_of_mem _ (List.mem_append_left _ (List.mem_append_left _ (List.mem_append_right _ h))))
theorem i_c_X2_shareAir_X1 : ∀ w ∈ wsX10, w ∈ wsX2_shareAir := fun w h => (List.mem_cons_of_mem _ (List.mem_append_left _ (List.mem_append_right _ h)))
theorem i_c_X2_shareAir_X2 : ∀ w ∈ wsX20, w ∈ wsX2_shareAir := fun w h => (List.mem_cons_of_mem _ (List.mem_append_right _ h))
set_option maxRecDepth 100000 in
set_option maxHeartbeats 4000000 in
theorem c_X2_shareAir (l : Launch) (D : va_G) (y : zY) (bd : Nat) (a : Nat) (d : Nat → Int32) (ca : Nat → Nat) (pa : Nat → Nat) (pk : Nat → Nat) (cr : Nat) (c : Nat) (q : Nat) (p : Nat) (cq : Nat) (n : Int32) (h : Int32) (sw : Int32) (hI : zI d) (hv24 : vn d ≤ 24) (hc : c < 8) (hp : p < nG d) (hsw : swW sw) (hsp : swW (pm d p 3)) : Met l yX2_shareAir wsX2_shareAir ({ frames := 1, cells := 0, slots := 0, locals := 27 }) (zP [.ref a, .ref cr, .int n, .int h, .int sw, .ref q] (fun H => sD D y bd a d ca pa pk H ∧ crA D y cr c d H ∧ peA D y q p cq d H) D y) (zQ (some (.int (bI (airB d c n h sw p))))) 0 0 nofree := by
  refine z_body (cc := cX2_shareAir) (maxL := 8) (ret := (some .boolean)) (la := [(0, .ref a), (1, .ref cr), (2, .int n), (3, .int h), (4, .int sw), (5, .ref q)]) (by decide) rfl (Nat.le_of_ble_eq_true rfl) rfl ?_
  intro pg ev s mm below meth c0 ls hx hb hr hF hlocks hΦ hK hl _
  have hts := hF.2.2.2.2
  have hown : s.vm.findClass RX2 = some mm.cls := hF.2.2.2.1
  have hG2 := hI.ng2
  have hC8 := hI.nc8
  have hS0 := hΦ.1
  obtain ⟨cs, ns, se, wi, al, re, gi, ps, ss, vs, hP, hR, hC, hE, hT⟩ := hS0
  refine lv_aload hx hb dX2_shareAir_0 (lv_at hl 5 rfl) ?_
  refine lv_aload_n hx hb dX2_shareAir_2 rfl (lv_at hl 1 rfl) ?_
  refine z_callV (As := [.ref cr]) (rest := []) hF hK (c_X1_isFor l D y q p cq d cr c (hI.pc8 hp) (by omega)) (cwV 1 hts gX2_shareAir_X1_isFor rfl rfl rfl (by decide +kernel) ⟨Nat.le_of_ble_eq_true rfl, Nat.le_of_ble_eq_true rfl⟩) (z_recv (q := (RX1, TX1, 7)) hK hΦ.2.2.1 rfl) ⟨hΦ.2.2, hΦ.2.1⟩ rfl hl.1 rfl (Nat.le_of_ble_eq_true rfl) dX2_shareAir_3 ⟨Nat.zero_le _, Nat.zero_le _⟩ ?_
  refine z_ifne (tgt := 19) hx hb dX2_shareAir_6 (by decide) (fun c6 => ?_) (fun c6 => ?_)
  · refine lv_iconst (v := (nI 0)) hx hb dX2_shareAir_19 (by decide) ?_
    exact z_retz hx hb hr hlocks rfl (bI_ff (by unfold airB; first | (rw [decide_eq_true (Eq.symm (of_decide_eq_true c6))]; rfl) | (rw [air_met c16]; exact Bool.and_false _))) dX2_shareAir_20
  · refine lv_aload hx hb dX2_shareAir_9 (lv_at hl 5 rfl) ?_
    refine lv_iload_n hx hb dX2_shareAir_11 rfl (lv_at hl 2 rfl) ?_
    refine lv_iload_n hx hb dX2_shareAir_12 rfl (lv_at hl 3 rfl) ?_
    refine z_callV (As := [.int n, .int h]) (rest := []) hF hK (c_X1_meets l D y q p cq d n h ) (cwV 2 hts gX2_shareAir_X1_meets rfl rfl rfl (by decide +kernel) ⟨Nat.le_of_ble_eq_true rfl, Nat.le_of_ble_eq_true rfl⟩) (z_recv (q := (RX1, TX1, 7)) hK hΦ.2.2.1 rfl) hΦ.2.2 rfl hl.1 rfl (Nat.le_of_ble_eq_true rfl) dX2_shareAir_13 ⟨Nat.zero_le _, Nat.zero_le _⟩ ?_
    refine z_ifne (tgt := 21) hx hb dX2_shareAir_16 (by decide) (fun c16 => ?_) (fun c16 => ?_)
    · refine lv_aload_n hx hb dX2_shareAir_21 rfl (lv_at hl 1 rfl) ?_
      refine z_get (fs := [.int (nI c), .int (gr d c 0), .int (gr d c 1), .int (gr d c 2), .int (gr d c 3), .int (gr d c 4), .ref (cr + 1)]) (ref := "CranePermits$Crane") (C := RX0) (T := TX0) (N := 7) (ci := 0) (v := .int (gr d c 3)) hx hb hts i_c_X2_shareAir_X0 hown hK hΦ.2.1.1 4 (by decide) rfl (hts (.fieldLink RX2 88 "CranePermits$Crane" "height" "I") (List.mem_of_getElem? (i := 1) rfl)) rfl rfl dX2_shareAir_22 ?_
      refine lv_aload hx hb dX2_shareAir_25 (lv_at hl 5 rfl) ?_
      refine z_get (fs := [.int (nI p), .ref cq, .int (pm d p 1), .int (pm d p 2), .int (pm d p 2 / nI 10), .int (pm d p 2 - pm d p 2 / nI 10 * nI 10), .int (pm d p 3)]) (ref := "CranePermits$Permit") (C := RX1) (T := TX1) (N := 7) (ci := 1) (v := .ref cq) hx hb hts i_c_X2_shareAir_X1 hown hK hΦ.2.2.1 1 (by decide) rfl (hts (.fieldLink RX2 113 "CranePermits$Permit" "crane" "LCranePermits$Crane;") (List.mem_of_getElem? (i := 2) rfl)) rfl rfl dX2_shareAir_27 ?_
      refine z_get (fs := [.int (nI (pC d p)), .int (gr d (pC d p) 0), .int (gr d (pC d p) 1), .int (gr d (pC d p) 2), .int (gr d (pC d p) 3), .int (gr d (pC d p) 4), .ref (cq + 1)]) (ref := "CranePermits$Crane") (C := RX0) (T := TX0) (N := 7) (ci := 0) (v := .int (gr d (pC d p) 3)) hx hb hts i_c_X2_shareAir_X0 hown hK hΦ.2.2.2.1 4 (by decide) rfl (hts (.fieldLink RX2 88 "CranePermits$Crane" "height" "I") (List.mem_of_getElem? (i := 1) rfl)) rfl rfl dX2_shareAir_30 ?_
      refine lv_isub hx hb dX2_shareAir_33 ?_
      refine z_abs hF (hts (.methodLink RX2 141 Lib.Math.abs.name) (by decide +kernel)) (hts (.static Lib.Math.abs.name) (by decide +kernel)) (hts (.initialized "java/lang/Math") (by decide +kernel)) (hts (.code Lib.Math.abs.name Lib.Math.abs.code 1 (some .int)) (by decide +kernel)) hl.1 (by decide) (by decide) ⟨Nat.zero_le _, Nat.zero_le _⟩ dX2_shareAir_34 ?_
      refine lv_istore (lv' := [(6, .int (if 0 ≤ ((gr d c 3) - (gr d (pC d p) 3)) then ((gr d c 3) - (gr d (pC d p) 3)) else 0 - ((gr d c 3) - (gr d (pC d p) 3)))), (0, .ref a), (1, .ref cr), (2, .int n), (3, .int h), (4, .int sw), (5, .ref q)]) hx hb dX2_shareAir_37 hl (by decide) rfl (fun ls hl => ?_)
      refine lv_iload hx hb dX2_shareAir_39 (lv_at hl 0 rfl) ?_
      refine lv_aload_n hx hb dX2_shareAir_41 rfl (lv_at hl 1 rfl) ?_
      refine z_get (fs := [.ref (a + 1), .int (nI (nC d)), .ref (a + 2), .ref (a + 3), .ref (a + 4), .ref (a + 5), .ref (a + 6), .ref (a + 7), .ref (a + 8), .int (nI (nG d)), .ref (a + 9), .ref (a + 10), .int (nI (vn d))]) (ref := "CranePermits$Site") (C := RX2) (T := TX2) (N := 13) (ci := 2) (v := .ref (a + 3)) hx hb hts i_c_X2_shareAir_X2 hown hK (hP 0 _ rfl) 3 (by decide) rfl (hts (.fieldLink RX2 25 "CranePermits$Site" "settings" "[I") (List.mem_of_getElem? (i := 7) rfl)) rfl rfl dX2_shareAir_42 ?_
      refine lv_iconst (v := (nI 2)) hx hb dX2_shareAir_45 (by decide) ?_
      refine z_callN (As := [.ref (a + 3), .int (nI 2)]) (rest := [.int (if 0 ≤ ((gr d c 3) - (gr d (pC d p) 3)) then ((gr d c 3) - (gr d (pC d p) 3)) else 0 - ((gr d c 3) - (gr d (pC d p) 3)))]) hF hK (c_X4_at l D y (a + 3) 3 se 2 (by omega) (by decide)) ⟨va_cnB 2 hts gX2_shareAir_X4_at_n84 rfl rfl rfl hK.2.2.2.1 (hts (.initialized RX4) (List.mem_of_getElem? (i := 24) rfl)) (by decide +kernel) ⟨Nat.le_of_ble_eq_true rfl, Nat.le_of_ble_eq_true rfl⟩, (hts (.static yX4_at) (List.mem_of_getElem? (i := 23) rfl)), trivial⟩ (hP 3 _ rfl) rfl hl.1 rfl (Nat.le_of_ble_eq_true rfl) dX2_shareAir_46 ⟨Nat.zero_le _, Nat.zero_le _⟩ ?_
      refine z_topi (z := (d 3)) (hR.2.2.1 2 (by omega)) ?_
      refine lv_icmp_lt (tgt := 54) hx hb dX2_shareAir_49 (by decide) (fun c49 => ?_) (fun c49 => ?_)
      · refine lv_iconst (v := (nI 0)) hx hb dX2_shareAir_54 (by decide) ?_
        refine lv_istore (lv' := [(7, .int (nI 0)), (6, .int (if 0 ≤ ((gr d c 3) - (gr d (pC d p) 3)) then ((gr d c 3) - (gr d (pC d p) 3)) else 0 - ((gr d c 3) - (gr d (pC d p) 3)))), (0, .ref a), (1, .ref cr), (2, .int n), (3, .int h), (4, .int sw), (5, .ref q)]) hx hb dX2_shareAir_55 hl (by decide) rfl (fun ls hl => ?_)
        refine z_loop (S := Nat) (nL := 8) (fun (i : Nat) => 4 - i) (fun (i : Nat) => [(7, .int (nI i)), (0, .ref a), (1, .ref cr), (2, .int n), (3, .int h), (4, .int sw), (5, .ref q)]) (fun (i : Nat) => i ≤ 4 ∧ ∀ j, j < i → airS (eiF d c) sw j 8 &&& airS (eiF d (pC d p)) (pm d p 3) j 8 = 0) 0 (⟨Nat.zero_le _, fun j hj => absurd hj (Nat.not_lt_zero j)⟩) (lv_sub hl [0, 2, 3, 4, 5, 6, 7] rfl) ?_
        clear hl
        rintro i ls hI_57 hl ih_57
        obtain ⟨hi, hall⟩ := hI_57
        refine lv_iload hx hb dX2_shareAir_57 (lv_at hl 0 rfl) ?_
        refine lv_iconst (v := (nI 4)) hx hb dX2_shareAir_59 (by decide) ?_
        refine z_ge (tgt := 100) hx hb (by omega) (by omega) dX2_shareAir_60 (by decide) (fun c60 => ?_) (fun c60 => ?_)
        · refine lv_iconst (v := (nI 0)) hx hb dX2_shareAir_100 (by decide) ?_
          exact z_retz hx hb hr hlocks rfl (bI_ff (by unfold airB; rw [am_no hsw hsp (fun j hj => hall j (by omega))]; simp)) dX2_shareAir_101
        · refine lv_aload_n hx hb dX2_shareAir_63 rfl (lv_at hl 2 rfl) ?_
          refine lv_iload hx hb dX2_shareAir_64 (lv_at hl 5 rfl) ?_
          refine lv_iload hx hb dX2_shareAir_66 (lv_at hl 0 rfl) ?_
          refine z_callV (As := [.int sw, .int (nI i)]) (rest := []) hF hK (c_X0_airOf l D y cr c d sw i (by omega)) (cwV 2 hts gX2_shareAir_X0_airOf rfl rfl rfl (by decide +kernel) ⟨Nat.le_of_ble_eq_true rfl, Nat.le_of_ble_eq_true rfl⟩) (z_recv (q := (RX0, TX0, 7)) hK hΦ.2.1.1 rfl) hΦ.2.1 rfl hl.1 rfl (Nat.le_of_ble_eq_true rfl) dX2_shareAir_68 ⟨Nat.zero_le _, Nat.zero_le _⟩ ?_
          refine lv_aload hx hb dX2_shareAir_71 (lv_at hl 6 rfl) ?_
          refine z_get (fs := [.int (nI p), .ref cq, .int (pm d p 1), .int (pm d p 2), .int (pm d p 2 / nI 10), .int (pm d p 2 - pm d p 2 / nI 10 * nI 10), .int (pm d p 3)]) (ref := "CranePermits$Permit") (C := RX1) (T := TX1) (N := 7) (ci := 1) (v := .ref cq) hx hb hts i_c_X2_shareAir_X1 hown hK hΦ.2.2.1 1 (by decide) rfl (hts (.fieldLink RX2 113 "CranePermits$Permit" "crane" "LCranePermits$Crane;") (List.mem_of_getElem? (i := 2) rfl)) rfl rfl dX2_shareAir_73 ?_
          refine lv_aload hx hb dX2_shareAir_76 (lv_at hl 6 rfl) ?_
          refine z_get (fs := [.int (nI p), .ref cq, .int (pm d p 1), .int (pm d p 2), .int (pm d p 2 / nI 10), .int (pm d p 2 - pm d p 2 / nI 10 * nI 10), .int (pm d p 3)]) (ref := "CranePermits$Permit") (C := RX1) (T := TX1) (N := 7) (ci := 1) (v := .int (pm d p 3)) hx hb hts i_c_X2_shareAir_X1 hown hK hΦ.2.2.1 6 (by decide) rfl (hts (.fieldLink RX2 151 "CranePermits$Permit" "swing" "I") (List.mem_of_getElem? (i := 8) rfl)) rfl rfl dX2_shareAir_78 ?_
          refine lv_iload hx hb dX2_shareAir_81 (lv_at hl 0 rfl) ?_
          refine z_callV (As := [.int (pm d p 3), .int (nI i)]) (rest := [.long (airS (eiF d c) sw i 8)]) hF hK (c_X0_airOf l D y cq (pC d p) d (pm d p 3) i (by omega)) (cwV 2 hts gX2_shareAir_X0_airOf rfl rfl rfl (by decide +kernel) ⟨Nat.le_of_ble_eq_true rfl, Nat.le_of_ble_eq_true rfl⟩) (z_recv (q := (RX0, TX0, 7)) hK hΦ.2.2.2.1 rfl) hΦ.2.2.2 rfl hl.1 rfl (Nat.le_of_ble_eq_true rfl) dX2_shareAir_83 ⟨Nat.zero_le _, Nat.zero_le _⟩ ?_
          refine lv_land hx hb dX2_shareAir_86 ?_
          refine lv_lconst (v := 0) hx hb dX2_shareAir_87 (by decide) ?_
          refine W.lcmp hx hb dX2_shareAir_88 ?_
          refine lv_if_eq (tgt := 94) hx hb dX2_shareAir_89 (by decide) (fun c89 => ?_) (fun c89 => ?_)
          · refine lv_iinc (v := (nI (i + 1))) (lv' := [(7, .int (nI (i + 1))), (0, .ref a), (1, .ref cr), (2, .int n), (3, .int h), (4, .int sw), (5, .ref q)]) hx hb dX2_shareAir_94 hl (k := 0) rfl (in1 _) (by decide) rfl (fun ls hl => ?_)
            refine lv_goto (tgt := 57) hx hb dX2_shareAir_97 (by decide) ?_
            exact ih_57 (i + 1) _ (by omega) (⟨by omega, lt_s hall (lcmp_0 c89)⟩) (lv_sub hl [0, 1, 2, 3, 4, 5, 6] rfl)
          · refine lv_iconst (v := (nI 1)) hx hb dX2_shareAir_92 (by decide) ?_
            exact z_retz hx hb hr hlocks rfl (bI_tt (air_yes c6 c16 c49 (am_yes hsw hsp (by omega) (lcmp_n c89)))) dX2_shareAir_93
      · refine lv_iconst (v := (nI 0)) hx hb dX2_shareAir_52 (by decide) ?_
        exact z_retz hx hb hr hlocks rfl (bI_ff (by unfold airB; rw [decide_eq_true (abs_le c49)]; simp)) dX2_shareAir_53
    · refine lv_iconst (v := (nI 0)) hx hb dX2_shareAir_19 (by decide) ?_
      exact z_retz hx hb hr hlocks rfl (bI_ff (by unfold airB; first | (rw [decide_eq_true (Eq.symm (of_decide_eq_true c6))]; rfl) | (rw [air_met c16]; exact Bool.and_false _))) dX2_shareAir_20
theorem i_c_X2_lowestSharing_X2 : ∀ w ∈ wsX20, w ∈ wsX2_lowestSharing := fun w h => (List.mem_cons_of_mem _ (List.mem_append_left _ (List.mem_append_left _ (List.mem_append_right _ h))))
theorem i_c_X2_lowestSharing_X1 : ∀ w ∈ wsX10, w ∈ wsX2_lowestSharing := fun w h => (List.mem_cons_of_mem _ (List.mem_append_left _ (List.mem_append_right _ h)))
set_option maxRecDepth 100000 in
set_option maxHeartbeats 4000000 in
theorem c_X2_lowestSharing (l : Launch) (D : va_G) (y : zY) (bd : Nat) (a : Nat) (d : Nat → Int32) (ca : Nat → Nat) (pa : Nat → Nat) (pk : Nat → Nat) (cr : Nat) (c : Nat) (n : Int32) (h : Int32) (sw : Int32) (hI : zI d) (hv24 : vn d ≤ 24) (hc : c < nC d) (hsw : swW sw) (hS : ∀ p, p < nG d → swW (pm d p 3)) : Met l yX2_lowestSharing wsX2_lowestSharing ({ frames := 2, cells := 0, slots := 0, locals := 54 }) (zP [.ref a, .ref cr, .int n, .int h, .int sw] (fun H => sD D y bd a d ca pa pk H ∧ crA D y cr c d H) D y) (zQ (some (.int (oI (fiaO d c n h sw))))) 0 0 nofree := by
  refine z_body (cc := cX2_lowestSharing) (maxL := 7) (ret := (some .int)) (la := [(0, .ref a), (1, .ref cr), (2, .int n), (3, .int h), (4, .int sw)]) (by decide) rfl (Nat.le_of_ble_eq_true rfl) rfl ?_
  intro pg ev s mm below meth c0 ls hx hb hr hF hlocks hΦ hK hl _
  have hts := hF.2.2.2.2
  have hown : s.vm.findClass RX2 = some mm.cls := hF.2.2.2.1
  have hG2 := hI.ng2
  have hC8 := hI.nc8
  have hS0 := hΦ.1
  obtain ⟨cs, ns, se, wi, al, re, gi, ps, ss, vs, hP, hR, hC, hE, hT⟩ := hS0
  refine lv_iconst (v := (nI 0)) hx hb dX2_lowestSharing_0 (by decide) ?_
  refine lv_istore (lv' := [(5, .int (nI 0)), (0, .ref a), (1, .ref cr), (2, .int n), (3, .int h), (4, .int sw)]) hx hb dX2_lowestSharing_1 hl (by decide) rfl (fun ls hl => ?_)
  refine z_loop (S := Nat) (nL := 7) (fun (i : Nat) => vn d - i) (fun (i : Nat) => [(5, .int (nI i)), (0, .ref a), (1, .ref cr), (2, .int n), (3, .int h), (4, .int sw)]) (fun (i : Nat) => i ≤ vn d ∧ ∀ j, j < i → airB d c n h sw (vx d j) = false) 0 (⟨Nat.zero_le _, fun j hj => absurd hj (Nat.not_lt_zero j)⟩) (lv_sub hl [0, 1, 2, 3, 4, 5] rfl) ?_
  clear hl
  rintro i ls hI_3 hl ih_3
  obtain ⟨hi, hall⟩ := hI_3
  refine lv_iload hx hb dX2_lowestSharing_3 (lv_at hl 0 rfl) ?_
  refine lv_aload_n hx hb dX2_lowestSharing_5 rfl (lv_at hl 1 rfl) ?_
  refine z_get (fs := [.ref (a + 1), .int (nI (nC d)), .ref (a + 2), .ref (a + 3), .ref (a + 4), .ref (a + 5), .ref (a + 6), .ref (a + 7), .ref (a + 8), .int (nI (nG d)), .ref (a + 9), .ref (a + 10), .int (nI (vn d))]) (ref := "CranePermits$Site") (C := RX2) (T := TX2) (N := 13) (ci := 2) (v := .int (nI (vn d))) hx hb hts i_c_X2_lowestSharing_X2 hown hK (hP 0 _ rfl) 12 (by decide) rfl (hts (.fieldLink RX2 55 "CranePermits$Site" "validCount" "I") (List.mem_of_getElem? (i := 1) rfl)) rfl rfl dX2_lowestSharing_6 ?_
  refine z_ge (tgt := 51) hx hb (by omega) (by omega) dX2_lowestSharing_9 (by decide) (fun c9 => ?_) (fun c9 => ?_)
  · refine lv_iconst (v := (-1)) hx hb dX2_lowestSharing_51 (by decide) ?_
    exact z_reti hx hb hr hlocks rfl (by unfold fiaO; rw [find_v_n (g := fiaP d c n h sw) (f := fun p => airB d c n h sw p) (fun _ => rfl) (fun j hj => hall j (by omega))]; rfl) dX2_lowestSharing_52
  · refine lv_aload_n hx hb dX2_lowestSharing_12 rfl (lv_at hl 1 rfl) ?_
    refine lv_iload hx hb dX2_lowestSharing_13 (lv_at hl 0 rfl) ?_
    refine z_callV (As := [.int (nI i)]) (rest := []) hF hK (c_X2_validAt_in l D y bd a d ca pa pk i (hI) (hv24) (by omega)) (cwV 1 hts gX2_lowestSharing_X2_validAt rfl rfl rfl (by decide +kernel) ⟨Nat.le_of_ble_eq_true rfl, Nat.le_of_ble_eq_true rfl⟩) (z_recv (q := (RX2, TX2, 13)) hK (hP 0 _ rfl) rfl) hΦ.1 rfl hl.1 rfl (Nat.le_of_ble_eq_true rfl) dX2_lowestSharing_15 ⟨Nat.zero_le _, Nat.zero_le _⟩ ?_
    refine lv_astore (lv' := [(6, .ref (pa (vx d i))), (5, .int (nI i)), (0, .ref a), (1, .ref cr), (2, .int n), (3, .int h), (4, .int sw)]) hx hb dX2_lowestSharing_18 hl (by decide) rfl (fun ls hl => ?_)
    refine lv_aload hx hb dX2_lowestSharing_20 (lv_at hl 0 rfl) ?_
    refine lv_ifnull hx hb dX2_lowestSharing_22 ?_
    refine lv_aload_n hx hb dX2_lowestSharing_25 rfl (lv_at hl 2 rfl) ?_
    refine lv_aload_n hx hb dX2_lowestSharing_26 rfl (lv_at hl 3 rfl) ?_
    refine lv_iload_n hx hb dX2_lowestSharing_27 rfl (lv_at hl 4 rfl) ?_
    refine lv_iload_n hx hb dX2_lowestSharing_28 rfl (lv_at hl 5 rfl) ?_
    refine lv_iload hx hb dX2_lowestSharing_29 (lv_at hl 6 rfl) ?_
    refine lv_aload hx hb dX2_lowestSharing_31 (lv_at hl 0 rfl) ?_
    refine z_callV (As := [.ref cr, .int n, .int h, .int sw, .ref (pa (vx d i))]) (rest := []) hF hK (c_X2_shareAir l D y bd a d ca pa pk cr c (pa (vx d i)) (vx d i) (pk (vx d i)) n h sw (hI) (hv24) (by omega) ((vx_in (by omega)).1) (by assumption) (hS _ (vx_in (by omega)).1)) (cwV 5 hts gX2_lowestSharing_X2_shareAir rfl rfl rfl (by decide +kernel) ⟨Nat.le_of_ble_eq_true rfl, Nat.le_of_ble_eq_true rfl⟩) (z_recv (q := (RX2, TX2, 13)) hK (hP 0 _ rfl) rfl) ⟨hΦ.1, hΦ.2, (hE (vx d i) (vx_in (by omega)).1).2.2⟩ rfl hl.1 rfl (Nat.le_of_ble_eq_true rfl) dX2_lowestSharing_33 ⟨Nat.zero_le _, Nat.zero_le _⟩ ?_
    refine z_ifeq (tgt := 45) hx hb dX2_lowestSharing_36 (by decide) (fun c36 => ?_) (fun c36 => ?_)
    · refine lv_iinc (v := (nI (i + 1))) (lv' := [(5, .int (nI (i + 1))), (6, .ref (pa (vx d i))), (0, .ref a), (1, .ref cr), (2, .int n), (3, .int h), (4, .int sw)]) hx hb dX2_lowestSharing_45 hl (k := 1) rfl (in1 _) (by decide) rfl (fun ls hl => ?_)
      refine lv_goto (tgt := 3) hx hb dX2_lowestSharing_48 (by decide) ?_
      exact ih_3 (i + 1) _ (by omega) (⟨by omega, lt_sc hall c36⟩) (lv_sub hl [0, 2, 3, 4, 5, 6] rfl)
    · refine lv_aload hx hb dX2_lowestSharing_39 (lv_at hl 0 rfl) ?_
      refine z_get (fs := [.int (nI (vx d i)), .ref (pk (vx d i)), .int (pm d (vx d i) 1), .int (pm d (vx d i) 2), .int (pm d (vx d i) 2 / nI 10), .int (pm d (vx d i) 2 - pm d (vx d i) 2 / nI 10 * nI 10), .int (pm d (vx d i) 3)]) (ref := "CranePermits$Permit") (C := RX1) (T := TX1) (N := 7) (ci := 1) (v := .int (nI (vx d i))) hx hb hts i_c_X2_lowestSharing_X1 hown hK (hE (vx d i) (vx_in (by omega)).1).2.2.1 0 (by decide) rfl (hts (.fieldLink RX2 158 "CranePermits$Permit" "number" "I") (List.mem_of_getElem? (i := 2) rfl)) rfl rfl dX2_lowestSharing_41 ?_
      exact z_reti hx hb hr hlocks rfl (by unfold fiaO; rw [find_v_s (g := fiaP d c n h sw) (f := fun p => airB d c n h sw p) (fun _ => rfl) (by omega) hall c36]; rfl) dX2_lowestSharing_44
theorem i_c_X2_isBusy_X2 : ∀ w ∈ wsX20, w ∈ wsX2_isBusy := fun w h => (List.mem_cons_of_mem _ (List.mem_append_left _ (List.mem_append_left _ (List.mem_append_right _ h))))
set_option maxRecDepth 100000 in
set_option maxHeartbeats 4000000 in
theorem c_X2_isBusy (l : Launch) (D : va_G) (y : zY) (bd : Nat) (a : Nat) (d : Nat → Int32) (ca : Nat → Nat) (pa : Nat → Nat) (pk : Nat → Nat) (cr : Nat) (c : Nat) (n : Int32) (h : Int32) (hI : zI d) (hv24 : vn d ≤ 24) (hc : c < 8) : Met l yX2_isBusy wsX2_isBusy ({ frames := 1, cells := 0, slots := 0, locals := 24 }) (zP [.ref a, .ref cr, .int n, .int h] (fun H => sD D y bd a d ca pa pk H ∧ crA D y cr c d H) D y) (zQ (some (.int (bI ((List.range (nG d)).any (ownB d c n h)))))) 0 0 nofree := by
  refine z_body (cc := cX2_isBusy) (maxL := 6) (ret := (some .boolean)) (la := [(0, .ref a), (1, .ref cr), (2, .int n), (3, .int h)]) (by decide) rfl (Nat.le_of_ble_eq_true rfl) rfl ?_
  intro pg ev s mm below meth c0 ls hx hb hr hF hlocks hΦ hK hl _
  have hts := hF.2.2.2.2
  have hown : s.vm.findClass RX2 = some mm.cls := hF.2.2.2.1
  have hG2 := hI.ng2
  have hC8 := hI.nc8
  have hS0 := hΦ.1
  obtain ⟨cs, ns, se, wi, al, re, gi, ps, ss, vs, hP, hR, hC, hE, hT⟩ := hS0
  refine lv_iconst (v := (nI 0)) hx hb dX2_isBusy_0 (by decide) ?_
  refine lv_istore (lv' := [(4, .int (nI 0)), (0, .ref a), (1, .ref cr), (2, .int n), (3, .int h)]) hx hb dX2_isBusy_1 hl (by decide) rfl (fun ls hl => ?_)
  refine z_loop (S := Nat) (nL := 6) (fun (i : Nat) => vn d - i) (fun (i : Nat) => [(4, .int (nI i)), (0, .ref a), (1, .ref cr), (2, .int n), (3, .int h)]) (fun (i : Nat) => i ≤ vn d ∧ ∀ j, j < i → bsyB d c n h (vx d j) = false) 0 (⟨Nat.zero_le _, fun j hj => absurd hj (Nat.not_lt_zero j)⟩) (lv_sub hl [0, 1, 2, 3, 4] rfl) ?_
  clear hl
  rintro i ls hI_3 hl ih_3
  obtain ⟨hi, hall⟩ := hI_3
  refine lv_iload hx hb dX2_isBusy_3 (lv_at hl 0 rfl) ?_
  refine lv_aload_n hx hb dX2_isBusy_5 rfl (lv_at hl 1 rfl) ?_
  refine z_get (fs := [.ref (a + 1), .int (nI (nC d)), .ref (a + 2), .ref (a + 3), .ref (a + 4), .ref (a + 5), .ref (a + 6), .ref (a + 7), .ref (a + 8), .int (nI (nG d)), .ref (a + 9), .ref (a + 10), .int (nI (vn d))]) (ref := "CranePermits$Site") (C := RX2) (T := TX2) (N := 13) (ci := 2) (v := .int (nI (vn d))) hx hb hts i_c_X2_isBusy_X2 hown hK (hP 0 _ rfl) 12 (by decide) rfl (hts (.fieldLink RX2 55 "CranePermits$Site" "validCount" "I") (List.mem_of_getElem? (i := 1) rfl)) rfl rfl dX2_isBusy_6 ?_
  refine z_ge (tgt := 52) hx hb (by omega) (by omega) dX2_isBusy_9 (by decide) (fun c9 => ?_) (fun c9 => ?_)
  · refine lv_iconst (v := (nI 0)) hx hb dX2_isBusy_52 (by decide) ?_
    exact z_retz hx hb hr hlocks rfl (bI_ff (bsy_f hI hc (fun j hj => hall j (by omega)))) dX2_isBusy_53
  · refine lv_aload_n hx hb dX2_isBusy_12 rfl (lv_at hl 1 rfl) ?_
    refine lv_iload hx hb dX2_isBusy_13 (lv_at hl 0 rfl) ?_
    refine z_callV (As := [.int (nI i)]) (rest := []) hF hK (c_X2_validAt_in l D y bd a d ca pa pk i (hI) (hv24) (by omega)) (cwV 1 hts gX2_isBusy_X2_validAt rfl rfl rfl (by decide +kernel) ⟨Nat.le_of_ble_eq_true rfl, Nat.le_of_ble_eq_true rfl⟩) (z_recv (q := (RX2, TX2, 13)) hK (hP 0 _ rfl) rfl) hΦ.1 rfl hl.1 rfl (Nat.le_of_ble_eq_true rfl) dX2_isBusy_15 ⟨Nat.zero_le _, Nat.zero_le _⟩ ?_
    refine lv_astore (lv' := [(5, .ref (pa (vx d i))), (4, .int (nI i)), (0, .ref a), (1, .ref cr), (2, .int n), (3, .int h)]) hx hb dX2_isBusy_18 hl (by decide) rfl (fun ls hl => ?_)
    refine lv_aload hx hb dX2_isBusy_20 (lv_at hl 0 rfl) ?_
    refine lv_ifnull hx hb dX2_isBusy_22 ?_
    refine lv_aload hx hb dX2_isBusy_25 (lv_at hl 0 rfl) ?_
    refine lv_aload_n hx hb dX2_isBusy_27 rfl (lv_at hl 3 rfl) ?_
    refine z_callV (As := [.ref cr]) (rest := []) hF hK (c_X1_isFor l D y (pa (vx d i)) (vx d i) (pk (vx d i)) d cr c (hI.pc8 (vx_in (by omega)).1) (by omega)) (cwV 1 hts gX2_isBusy_X1_isFor rfl rfl rfl (by decide +kernel) ⟨Nat.le_of_ble_eq_true rfl, Nat.le_of_ble_eq_true rfl⟩) (z_recv (q := (RX1, TX1, 7)) hK (hE (vx d i) (vx_in (by omega)).1).2.2.1 rfl) ⟨(hE (vx d i) (vx_in (by omega)).1).2.2, hΦ.2⟩ rfl hl.1 rfl (Nat.le_of_ble_eq_true rfl) dX2_isBusy_28 ⟨Nat.zero_le _, Nat.zero_le _⟩ ?_
    refine z_ifeq (tgt := 46) hx hb dX2_isBusy_31 (by decide) (fun c31 => ?_) (fun c31 => ?_)
    · refine lv_iinc (v := (nI (i + 1))) (lv' := [(4, .int (nI (i + 1))), (5, .ref (pa (vx d i))), (0, .ref a), (1, .ref cr), (2, .int n), (3, .int h)]) hx hb dX2_isBusy_46 hl (k := 1) rfl (in1 _) (by decide) rfl (fun ls hl => ?_)
      refine lv_goto (tgt := 3) hx hb dX2_isBusy_49 (by decide) ?_
      exact ih_3 (i + 1) _ (by omega) (⟨by omega, lt_sc hall (by unfold bsyB; first | (rw [c31]; rfl) | (rw [c41]; exact Bool.and_false _))⟩) (lv_sub hl [0, 2, 3, 4, 5] rfl)
    · refine lv_aload hx hb dX2_isBusy_34 (lv_at hl 0 rfl) ?_
      refine lv_iload_n hx hb dX2_isBusy_36 rfl (lv_at hl 4 rfl) ?_
      refine lv_iload_n hx hb dX2_isBusy_37 rfl (lv_at hl 5 rfl) ?_
      refine z_callV (As := [.int n, .int h]) (rest := []) hF hK (c_X1_meets l D y (pa (vx d i)) (vx d i) (pk (vx d i)) d n h ) (cwV 2 hts gX2_isBusy_X1_meets rfl rfl rfl (by decide +kernel) ⟨Nat.le_of_ble_eq_true rfl, Nat.le_of_ble_eq_true rfl⟩) (z_recv (q := (RX1, TX1, 7)) hK (hE (vx d i) (vx_in (by omega)).1).2.2.1 rfl) (hE (vx d i) (vx_in (by omega)).1).2.2 rfl hl.1 rfl (Nat.le_of_ble_eq_true rfl) dX2_isBusy_38 ⟨Nat.zero_le _, Nat.zero_le _⟩ ?_
      refine z_ifeq (tgt := 46) hx hb dX2_isBusy_41 (by decide) (fun c41 => ?_) (fun c41 => ?_)
      · refine lv_iinc (v := (nI (i + 1))) (lv' := [(4, .int (nI (i + 1))), (5, .ref (pa (vx d i))), (0, .ref a), (1, .ref cr), (2, .int n), (3, .int h)]) hx hb dX2_isBusy_46 hl (k := 1) rfl (in1 _) (by decide) rfl (fun ls hl => ?_)
        refine lv_goto (tgt := 3) hx hb dX2_isBusy_49 (by decide) ?_
        exact ih_3 (i + 1) _ (by omega) (⟨by omega, lt_sc hall (by unfold bsyB; first | (rw [c31]; rfl) | (rw [c41]; exact Bool.and_false _))⟩) (lv_sub hl [0, 2, 3, 4, 5] rfl)
      · refine lv_iconst (v := (nI 1)) hx hb dX2_isBusy_44 (by decide) ?_
        exact z_retz hx hb hr hlocks rfl (bI_tt (bsy_t hI hc (by omega) (show bsyB d c n h (vx d i) = true by unfold bsyB; rw [c31, c41]; rfl))) dX2_isBusy_45
theorem i_c_X2_refusalOf_X0 : ∀ w ∈ wsX00, w ∈ wsX2_refusalOf := fun w h => (List.mem_cons_of_mem _ (List.mem_append_left _ (List.mem_append_left _ (List.mem_append_right _ h))))
set_option maxRecDepth 100000 in
set_option maxHeartbeats 4000000 in
theorem c_X2_refusalOf (l : Launch) (D : va_G) (y : zY) (bd : Nat) (a : Nat) (d : Nat → Int32) (ca : Nat → Nat) (pa : Nat → Nat) (pk : Nat → Nat) (cr : Nat) (c : Nat) (n : Nat) (h : Int32) (sw : Int32) (hI : zI d) (hv24 : vn d ≤ 24) (hc : c < nC d) (hn : n < 30) (hsw : swW sw) (hS : ∀ p, p < nG d → swW (pm d p 3)) : Met l yX2_refusalOf wsX2_refusalOf ({ frames := 3, cells := 0, slots := 0, locals := 80 }) (zP [.ref a, .ref cr, .int (nI n), .int h, .int sw] (fun H => sD D y bd a d ca pa pk H ∧ crA D y cr c d H) D y) (zQ (some (.int (rfsI d c n h sw)))) 0 0 nofree := by
  refine z_body (cc := cX2_refusalOf) (maxL := 6) (ret := (some .int)) (la := [(0, .ref a), (1, .ref cr), (2, .int (nI n)), (3, .int h), (4, .int sw)]) (by decide) rfl (Nat.le_of_ble_eq_true rfl) rfl ?_
  intro pg ev s mm below meth c0 ls hx hb hr hF hlocks hΦ hK hl _
  have hts := hF.2.2.2.2
  have hown : s.vm.findClass RX2 = some mm.cls := hF.2.2.2.1
  have hG2 := hI.ng2
  have hC8 := hI.nc8
  have hS0 := hΦ.1
  obtain ⟨cs, ns, se, wi, al, re, gi, ps, ss, vs, hP, hR, hC, hE, hT⟩ := hS0
  have hs4 := hI.sc4 hc
  refine lv_aload_n hx hb dX2_refusalOf_0 rfl (lv_at hl 0 rfl) ?_
  refine lv_aload_n hx hb dX2_refusalOf_1 rfl (lv_at hl 1 rfl) ?_
  refine lv_iload_n hx hb dX2_refusalOf_2 rfl (lv_at hl 2 rfl) ?_
  refine lv_iload_n hx hb dX2_refusalOf_3 rfl (lv_at hl 3 rfl) ?_
  refine z_callV (As := [.ref cr, .int (nI n), .int h]) (rest := []) hF hK (c_X2_isBusy l D y bd a d ca pa pk cr c (nI n) h (hI) (hv24) (by omega)) (cwV 3 hts gX2_refusalOf_X2_isBusy rfl rfl rfl (by decide +kernel) ⟨Nat.le_of_ble_eq_true rfl, Nat.le_of_ble_eq_true rfl⟩) (z_recv (q := (RX2, TX2, 13)) hK (hP 0 _ rfl) rfl) ⟨hΦ.1, hΦ.2⟩ rfl hl.1 rfl (Nat.le_of_ble_eq_true rfl) dX2_refusalOf_4 ⟨Nat.zero_le _, Nat.zero_le _⟩ ?_
  refine z_ifeq (tgt := 12) hx hb dX2_refusalOf_7 (by decide) (fun c7 => ?_) (fun c7 => ?_)
  · refine lv_aload_n hx hb dX2_refusalOf_12 rfl (lv_at hl 0 rfl) ?_
    refine lv_aload_n hx hb dX2_refusalOf_13 rfl (lv_at hl 1 rfl) ?_
    refine lv_iload_n hx hb dX2_refusalOf_14 rfl (lv_at hl 2 rfl) ?_
    refine z_callV (As := [.ref cr, .int (nI n)]) (rest := []) hF hK (c_X2_mustStop l D y bd a d ca pa pk cr c n (hI) (hv24) (by omega)) (cwV 2 hts gX2_refusalOf_X2_mustStop rfl rfl rfl (by decide +kernel) ⟨Nat.le_of_ble_eq_true rfl, Nat.le_of_ble_eq_true rfl⟩) (z_recv (q := (RX2, TX2, 13)) hK (hP 0 _ rfl) rfl) ⟨hΦ.1, hΦ.2⟩ rfl hl.1 rfl (Nat.le_of_ble_eq_true rfl) dX2_refusalOf_15 ⟨Nat.zero_le _, Nat.zero_le _⟩ ?_
    refine z_ifeq (tgt := 23) hx hb dX2_refusalOf_18 (by decide) (fun c18 => ?_) (fun c18 => ?_)
    · refine lv_aload_n hx hb dX2_refusalOf_23 rfl (lv_at hl 0 rfl) ?_
      refine lv_aload_n hx hb dX2_refusalOf_24 rfl (lv_at hl 1 rfl) ?_
      refine lv_iload_n hx hb dX2_refusalOf_25 rfl (lv_at hl 2 rfl) ?_
      refine lv_iload_n hx hb dX2_refusalOf_26 rfl (lv_at hl 3 rfl) ?_
      refine lv_iload hx hb dX2_refusalOf_27 (lv_at hl 4 rfl) ?_
      refine z_callV (As := [.ref cr, .int (nI n), .int h, .int sw]) (rest := []) hF hK (c_X2_lowestSharing l D y bd a d ca pa pk cr c (nI n) h sw (hI) (hv24) (by omega) (hsw) (hS)) (cwV 4 hts gX2_refusalOf_X2_lowestSharing rfl rfl rfl (by decide +kernel) ⟨Nat.le_of_ble_eq_true rfl, Nat.le_of_ble_eq_true rfl⟩) (z_recv (q := (RX2, TX2, 13)) hK (hP 0 _ rfl) rfl) ⟨hΦ.1, hΦ.2⟩ rfl hl.1 rfl (Nat.le_of_ble_eq_true rfl) dX2_refusalOf_29 ⟨Nat.zero_le _, Nat.zero_le _⟩ ?_
      refine lv_iconst (v := (-1)) hx hb dX2_refusalOf_32 (by decide) ?_
      refine lv_icmp_eq (tgt := 38) hx hb dX2_refusalOf_33 (by decide) (fun c33 => ?_) (fun c33 => ?_)
      · refine lv_aload_n hx hb dX2_refusalOf_38 rfl (lv_at hl 0 rfl) ?_
        refine lv_aload_n hx hb dX2_refusalOf_39 rfl (lv_at hl 1 rfl) ?_
        refine z_get (fs := [.int (nI c), .int (gr d c 0), .int (gr d c 1), .int (gr d c 2), .int (gr d c 3), .int (gr d c 4), .ref (cr + 1)]) (ref := "CranePermits$Crane") (C := RX0) (T := TX0) (N := 7) (ci := 0) (v := .int (gr d c 4)) hx hb hts i_c_X2_refusalOf_X0 hown hK hΦ.2.1 5 (by decide) rfl (hts (.fieldLink RX2 174 "CranePermits$Crane" "street" "I") (List.mem_of_getElem? (i := 1) rfl)) rfl rfl dX2_refusalOf_40 ?_
        refine z_topi (z := (nI (sC d c))) (hI.sc hc) ?_
        refine lv_iload_n hx hb dX2_refusalOf_43 rfl (lv_at hl 2 rfl) ?_
        refine z_callV (As := [.int (nI (sC d c)), .int (nI n)]) (rest := []) hF hK (c_X2_usedOf l D y bd a d ca pa pk (nI (sC d c)) (nI n) (hI) (hv24)) (cwV 2 hts gX2_refusalOf_X2_usedOf rfl rfl rfl (by decide +kernel) ⟨Nat.le_of_ble_eq_true rfl, Nat.le_of_ble_eq_true rfl⟩) (z_recv (q := (RX2, TX2, 13)) hK (hP 0 _ rfl) rfl) hΦ.1 rfl hl.1 rfl (Nat.le_of_ble_eq_true rfl) dX2_refusalOf_44 ⟨Nat.zero_le _, Nat.zero_le _⟩ ?_
        refine lv_aload_n hx hb dX2_refusalOf_47 rfl (lv_at hl 0 rfl) ?_
        refine lv_aload_n hx hb dX2_refusalOf_48 rfl (lv_at hl 1 rfl) ?_
        refine lv_iload_n hx hb dX2_refusalOf_49 rfl (lv_at hl 3 rfl) ?_
        refine z_callV (As := [.ref cr, .int h]) (rest := [.int (usedI d (nI (sC d c)) (nI n))]) hF hK (c_X2_useOf l D y bd a d ca pa pk cr c h (hI) (hv24) (by omega)) (cwV 2 hts gX2_refusalOf_X2_useOf rfl rfl rfl (by decide +kernel) ⟨Nat.le_of_ble_eq_true rfl, Nat.le_of_ble_eq_true rfl⟩) (z_recv (q := (RX2, TX2, 13)) hK (hP 0 _ rfl) rfl) ⟨hΦ.1, hΦ.2⟩ rfl hl.1 rfl (Nat.le_of_ble_eq_true rfl) dX2_refusalOf_50 ⟨Nat.zero_le _, Nat.zero_le _⟩ ?_
        refine lv_iadd hx hb dX2_refusalOf_53 ?_
        refine lv_istore (lv' := [(5, .int ((usedI d (nI (sC d c)) (nI n)) + (hrsI h * gr d c 5))), (0, .ref a), (1, .ref cr), (2, .int (nI n)), (3, .int h), (4, .int sw)]) hx hb dX2_refusalOf_54 hl (by decide) rfl (fun ls hl => ?_)
        refine lv_iload hx hb dX2_refusalOf_56 (lv_at hl 0 rfl) ?_
        refine lv_aload_n hx hb dX2_refusalOf_58 rfl (lv_at hl 1 rfl) ?_
        refine lv_aload_n hx hb dX2_refusalOf_59 rfl (lv_at hl 2 rfl) ?_
        refine z_get (fs := [.int (nI c), .int (gr d c 0), .int (gr d c 1), .int (gr d c 2), .int (gr d c 3), .int (gr d c 4), .ref (cr + 1)]) (ref := "CranePermits$Crane") (C := RX0) (T := TX0) (N := 7) (ci := 0) (v := .int (gr d c 4)) hx hb hts i_c_X2_refusalOf_X0 hown hK hΦ.2.1 5 (by decide) rfl (hts (.fieldLink RX2 174 "CranePermits$Crane" "street" "I") (List.mem_of_getElem? (i := 1) rfl)) rfl rfl dX2_refusalOf_60 ?_
        refine z_topi (z := (nI (sC d c))) (hI.sc hc) ?_
        refine lv_iload_n hx hb dX2_refusalOf_63 rfl (lv_at hl 3 rfl) ?_
        refine z_callV (As := [.int (nI (sC d c)), .int (nI n)]) (rest := [.int ((usedI d (nI (sC d c)) (nI n)) + (hrsI h * gr d c 5))]) hF hK (c_X2_creditsOf l D y bd a d ca pa pk (sC d c) n (hI) (hv24) (by omega) (by omega)) (cwV 2 hts gX2_refusalOf_X2_creditsOf rfl rfl rfl (by decide +kernel) ⟨Nat.le_of_ble_eq_true rfl, Nat.le_of_ble_eq_true rfl⟩) (z_recv (q := (RX2, TX2, 13)) hK (hP 0 _ rfl) rfl) hΦ.1 rfl hl.1 rfl (Nat.le_of_ble_eq_true rfl) dX2_refusalOf_64 ⟨Nat.zero_le _, Nat.zero_le _⟩ ?_
        refine lv_icmp_le (tgt := 74) hx hb dX2_refusalOf_67 (by decide) (fun c67 => ?_) (fun c67 => ?_)
        · refine lv_iconst (v := (nI 0)) hx hb dX2_refusalOf_74 (by decide) ?_
          exact z_reti hx hb hr hlocks rfl (by unfold rfsI; rw [if_neg (bf c7), if_neg (bf c18), if_pos c33]; first | (rw [if_pos c67]; done) | (rw [if_neg c67]; done)) dX2_refusalOf_75
        · refine lv_iconst (v := (nI 4)) hx hb dX2_refusalOf_70 (by decide) ?_
          refine lv_goto (tgt := 75) hx hb dX2_refusalOf_71 (by decide) ?_
          exact z_reti hx hb hr hlocks rfl (by unfold rfsI; rw [if_neg (bf c7), if_neg (bf c18), if_pos c33]; first | (rw [if_pos c67]; done) | (rw [if_neg c67]; done)) dX2_refusalOf_75
      · refine lv_iconst (v := (nI 3)) hx hb dX2_refusalOf_36 (by decide) ?_
        exact z_reti hx hb hr hlocks rfl (by unfold rfsI; rw [if_neg (bf c7), if_neg (bf c18), if_neg c33]) dX2_refusalOf_37
    · refine lv_iconst (v := (nI 2)) hx hb dX2_refusalOf_21 (by decide) ?_
      exact z_reti hx hb hr hlocks rfl (by unfold rfsI; rw [if_neg (bf c7), if_pos c18]) dX2_refusalOf_22
  · refine lv_iconst (v := (nI 1)) hx hb dX2_refusalOf_10 (by decide) ?_
    exact z_reti hx hb hr hlocks rfl (by unfold rfsI; rw [if_pos c7]) dX2_refusalOf_11
theorem i_c_X2_hasRoom_X2 : ∀ w ∈ wsX20, w ∈ wsX2_hasRoom := fun w h => (List.mem_cons_of_mem _ (List.mem_append_right _ h))
set_option maxRecDepth 100000 in
set_option maxHeartbeats 4000000 in
theorem c_X2_hasRoom (l : Launch) (D : va_G) (y : zY) (bd : Nat) (a : Nat) (d : Nat → Int32) (ca : Nat → Nat) (pa : Nat → Nat) (pk : Nat → Nat) (hI : zI d) (hv24 : vn d ≤ 24) : Met l yX2_hasRoom wsX2_hasRoom ({ frames := 0, cells := 0, slots := 0, locals := 0 }) (zP [.ref a] (fun H => sD D y bd a d ca pa pk H) D y) (zQ (some (.int (bI (romB d))))) 0 0 nofree := by
  refine z_body (cc := cX2_hasRoom) (maxL := 1) (ret := (some .boolean)) (la := [(0, .ref a)]) (by decide) rfl (Nat.le_of_ble_eq_true rfl) rfl ?_
  intro pg ev s mm below meth c0 ls hx hb hr hF hlocks hΦ hK hl _
  have hts := hF.2.2.2.2
  have hown : s.vm.findClass RX2 = some mm.cls := hF.2.2.2.1
  have hG2 := hI.ng2
  have hC8 := hI.nc8
  have hS0 := hΦ
  obtain ⟨cs, ns, se, wi, al, re, gi, ps, ss, vs, hP, hR, hC, hE, hT⟩ := hS0
  refine lv_aload_n hx hb dX2_hasRoom_0 rfl (lv_at hl 0 rfl) ?_
  refine z_get (fs := [.ref (a + 1), .int (nI (nC d)), .ref (a + 2), .ref (a + 3), .ref (a + 4), .ref (a + 5), .ref (a + 6), .ref (a + 7), .ref (a + 8), .int (nI (nG d)), .ref (a + 9), .ref (a + 10), .int (nI (vn d))]) (ref := "CranePermits$Site") (C := RX2) (T := TX2) (N := 13) (ci := 2) (v := .int (nI (vn d))) hx hb hts i_c_X2_hasRoom_X2 hown hK (hP 0 _ rfl) 12 (by decide) rfl (hts (.fieldLink RX2 55 "CranePermits$Site" "validCount" "I") (List.mem_of_getElem? (i := 1) rfl)) rfl rfl dX2_hasRoom_1 ?_
  refine lv_bipush (v := (nI 24)) hx hb dX2_hasRoom_4 (by decide) ?_
  refine z_ge (tgt := 23) hx hb (by omega) (by omega) dX2_hasRoom_6 (by decide) (fun c6 => ?_) (fun c6 => ?_)
  · refine lv_iconst (v := (nI 0)) hx hb dX2_hasRoom_23 (by decide) ?_
    exact z_retz hx hb hr hlocks rfl (bI_ff (by unfold romB; first | (rw [decide_eq_false (Nat.not_lt.mpr c6)]; rfl) | (rw [decide_eq_false (Nat.not_lt.mpr c16)]; exact Bool.and_false _))) dX2_hasRoom_24
  · refine lv_aload_n hx hb dX2_hasRoom_9 rfl (lv_at hl 0 rfl) ?_
    refine z_get (fs := [.ref (a + 1), .int (nI (nC d)), .ref (a + 2), .ref (a + 3), .ref (a + 4), .ref (a + 5), .ref (a + 6), .ref (a + 7), .ref (a + 8), .int (nI (nG d)), .ref (a + 9), .ref (a + 10), .int (nI (vn d))]) (ref := "CranePermits$Site") (C := RX2) (T := TX2) (N := 13) (ci := 2) (v := .int (nI (nG d))) hx hb hts i_c_X2_hasRoom_X2 hown hK (hP 0 _ rfl) 9 (by decide) rfl (hts (.fieldLink RX2 46 "CranePermits$Site" "permitCount" "I") (List.mem_of_getElem? (i := 2) rfl)) rfl rfl dX2_hasRoom_10 ?_
    refine lv_sipush (v := (nI 200)) hx hb dX2_hasRoom_13 (by decide) ?_
    refine z_ge (tgt := 23) hx hb (by omega) (by omega) dX2_hasRoom_16 (by decide) (fun c16 => ?_) (fun c16 => ?_)
    · refine lv_iconst (v := (nI 0)) hx hb dX2_hasRoom_23 (by decide) ?_
      exact z_retz hx hb hr hlocks rfl (bI_ff (by unfold romB; first | (rw [decide_eq_false (Nat.not_lt.mpr c6)]; rfl) | (rw [decide_eq_false (Nat.not_lt.mpr c16)]; exact Bool.and_false _))) dX2_hasRoom_24
    · refine lv_iconst (v := (nI 1)) hx hb dX2_hasRoom_19 (by decide) ?_
      refine lv_goto (tgt := 24) hx hb dX2_hasRoom_20 (by decide) ?_
      exact z_retz hx hb hr hlocks rfl (bI_tt (by unfold romB; rw [decide_eq_true c6, decide_eq_true c16]; rfl)) dX2_hasRoom_24
