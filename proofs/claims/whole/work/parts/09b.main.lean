/-! THE CLASS: area -/
set_option maxRecDepth 100000 in
set_option maxHeartbeats 4000000 in
theorem c_J13_bitCount_95d88 (l : Launch) (D : va_G) (y : zY) (v : Int64)  : Met l yJ13_bitCount_95d88 wsJ13_bitCount_95d88 ({ frames := 0, cells := 0, slots := 0, locals := 0 }) (zP [.long v] zT0 D y) (zQ (some (.int (pcL v)))) 0 0 nofree := by
  refine z_body (cc := cJ13_bitCount_95d88) (maxL := 2) (ret := (some .int)) (la := [(0, .long v)]) (by decide) rfl (Nat.le_of_ble_eq_true rfl) rfl ?_
  intro pg ev s mm below meth c0 ls hx hb hr hF hlocks hΦ hK hl _
  have hts := hF.2.2.2.2
  have hown : s.vm.findClass RJ13 = some mm.cls := hF.2.2.2.1
  refine lv_lload_n hx hb dJ13_bitCount_95d88_0 rfl (lv_at hl 0 rfl) ?_
  refine lv_lload_n hx hb dJ13_bitCount_95d88_1 rfl (lv_at hl 0 rfl) ?_
  refine lv_iconst (v := (nI 1)) hx hb dJ13_bitCount_95d88_2 (by decide) ?_
  refine lv_lushr (v := (v.toUInt64 >>> ((nI 1).toInt64.toUInt64 &&& Int64.toUInt64 63)).toInt64) hx hb dJ13_bitCount_95d88_3 rfl ?_
  refine lv_ldc2 (v := (6148914691236517205)) hx hb hown (hts (.constantLong RJ13 314 (6148914691236517205)) (List.mem_of_getElem? (i := 1) rfl)) dJ13_bitCount_95d88_4 ?_
  refine lv_land hx hb dJ13_bitCount_95d88_7 ?_
  refine lv_lsub hx hb dJ13_bitCount_95d88_8 ?_
  refine lv_lstore_n (lv' := [(0, .long (v - (((v.toUInt64 >>> ((nI 1).toInt64.toUInt64 &&& Int64.toUInt64 63)).toInt64) &&& (6148914691236517205))))]) hx hb dJ13_bitCount_95d88_9 rfl hl (by decide) rfl (fun ls hl => ?_)
  have hl := lv_repl (l' := [(0, .long (q1 v))]) hl 0 rfl (rfl) rfl
  refine lv_lload_n hx hb dJ13_bitCount_95d88_10 rfl (lv_at hl 0 rfl) ?_
  refine lv_ldc2 (v := (3689348814741910323)) hx hb hown (hts (.constantLong RJ13 316 (3689348814741910323)) (List.mem_of_getElem? (i := 2) rfl)) dJ13_bitCount_95d88_11 ?_
  refine lv_land hx hb dJ13_bitCount_95d88_14 ?_
  refine lv_lload_n hx hb dJ13_bitCount_95d88_15 rfl (lv_at hl 0 rfl) ?_
  refine lv_iconst (v := (nI 2)) hx hb dJ13_bitCount_95d88_16 (by decide) ?_
  refine lv_lushr (v := ((q1 v).toUInt64 >>> ((nI 2).toInt64.toUInt64 &&& Int64.toUInt64 63)).toInt64) hx hb dJ13_bitCount_95d88_17 rfl ?_
  refine lv_ldc2 (v := (3689348814741910323)) hx hb hown (hts (.constantLong RJ13 316 (3689348814741910323)) (List.mem_of_getElem? (i := 2) rfl)) dJ13_bitCount_95d88_18 ?_
  refine lv_land hx hb dJ13_bitCount_95d88_21 ?_
  refine lv_ladd hx hb dJ13_bitCount_95d88_22 ?_
  refine lv_lstore_n (lv' := [(0, .long (((q1 v) &&& (3689348814741910323)) + ((((q1 v).toUInt64 >>> ((nI 2).toInt64.toUInt64 &&& Int64.toUInt64 63)).toInt64) &&& (3689348814741910323))))]) hx hb dJ13_bitCount_95d88_23 rfl hl (by decide) rfl (fun ls hl => ?_)
  have hl := lv_repl (l' := [(0, .long (q2 v))]) hl 0 rfl (rfl) rfl
  refine lv_lload_n hx hb dJ13_bitCount_95d88_24 rfl (lv_at hl 0 rfl) ?_
  refine lv_lload_n hx hb dJ13_bitCount_95d88_25 rfl (lv_at hl 0 rfl) ?_
  refine lv_iconst (v := (nI 4)) hx hb dJ13_bitCount_95d88_26 (by decide) ?_
  refine lv_lushr (v := ((q2 v).toUInt64 >>> ((nI 4).toInt64.toUInt64 &&& Int64.toUInt64 63)).toInt64) hx hb dJ13_bitCount_95d88_27 rfl ?_
  refine lv_ladd hx hb dJ13_bitCount_95d88_28 ?_
  refine lv_ldc2 (v := (1085102592571150095)) hx hb hown (hts (.constantLong RJ13 318 (1085102592571150095)) (List.mem_of_getElem? (i := 3) rfl)) dJ13_bitCount_95d88_29 ?_
  refine lv_land hx hb dJ13_bitCount_95d88_32 ?_
  refine lv_lstore_n (lv' := [(0, .long (((q2 v) + (((q2 v).toUInt64 >>> ((nI 4).toInt64.toUInt64 &&& Int64.toUInt64 63)).toInt64)) &&& (1085102592571150095)))]) hx hb dJ13_bitCount_95d88_33 rfl hl (by decide) rfl (fun ls hl => ?_)
  have hl := lv_repl (l' := [(0, .long (q3 v))]) hl 0 rfl (rfl) rfl
  refine lv_lload_n hx hb dJ13_bitCount_95d88_34 rfl (lv_at hl 0 rfl) ?_
  refine lv_lload_n hx hb dJ13_bitCount_95d88_35 rfl (lv_at hl 0 rfl) ?_
  refine lv_bipush (v := (nI 8)) hx hb dJ13_bitCount_95d88_36 (by decide) ?_
  refine lv_lushr (v := ((q3 v).toUInt64 >>> ((nI 8).toInt64.toUInt64 &&& Int64.toUInt64 63)).toInt64) hx hb dJ13_bitCount_95d88_38 rfl ?_
  refine lv_ladd hx hb dJ13_bitCount_95d88_39 ?_
  refine lv_lstore_n (lv' := [(0, .long ((q3 v) + (((q3 v).toUInt64 >>> ((nI 8).toInt64.toUInt64 &&& Int64.toUInt64 63)).toInt64)))]) hx hb dJ13_bitCount_95d88_40 rfl hl (by decide) rfl (fun ls hl => ?_)
  have hl := lv_repl (l' := [(0, .long (q4 v))]) hl 0 rfl (rfl) rfl
  refine lv_lload_n hx hb dJ13_bitCount_95d88_41 rfl (lv_at hl 0 rfl) ?_
  refine lv_lload_n hx hb dJ13_bitCount_95d88_42 rfl (lv_at hl 0 rfl) ?_
  refine lv_bipush (v := (nI 16)) hx hb dJ13_bitCount_95d88_43 (by decide) ?_
  refine lv_lushr (v := ((q4 v).toUInt64 >>> ((nI 16).toInt64.toUInt64 &&& Int64.toUInt64 63)).toInt64) hx hb dJ13_bitCount_95d88_45 rfl ?_
  refine lv_ladd hx hb dJ13_bitCount_95d88_46 ?_
  refine lv_lstore_n (lv' := [(0, .long ((q4 v) + (((q4 v).toUInt64 >>> ((nI 16).toInt64.toUInt64 &&& Int64.toUInt64 63)).toInt64)))]) hx hb dJ13_bitCount_95d88_47 rfl hl (by decide) rfl (fun ls hl => ?_)
  have hl := lv_repl (l' := [(0, .long (q5 v))]) hl 0 rfl (rfl) rfl
  refine lv_lload_n hx hb dJ13_bitCount_95d88_48 rfl (lv_at hl 0 rfl) ?_
  refine lv_lload_n hx hb dJ13_bitCount_95d88_49 rfl (lv_at hl 0 rfl) ?_
  refine lv_bipush (v := (nI 32)) hx hb dJ13_bitCount_95d88_50 (by decide) ?_
  refine lv_lushr (v := ((q5 v).toUInt64 >>> ((nI 32).toInt64.toUInt64 &&& Int64.toUInt64 63)).toInt64) hx hb dJ13_bitCount_95d88_52 rfl ?_
  refine lv_ladd hx hb dJ13_bitCount_95d88_53 ?_
  refine lv_lstore_n (lv' := [(0, .long ((q5 v) + (((q5 v).toUInt64 >>> ((nI 32).toInt64.toUInt64 &&& Int64.toUInt64 63)).toInt64)))]) hx hb dJ13_bitCount_95d88_54 rfl hl (by decide) rfl (fun ls hl => ?_)
  have hl := lv_repl (l' := [(0, .long (q6 v))]) hl 0 rfl (rfl) rfl
  refine lv_lload_n hx hb dJ13_bitCount_95d88_55 rfl (lv_at hl 0 rfl) ?_
  refine lv_l2i (v := (q6 v).toInt32) hx hb dJ13_bitCount_95d88_56 rfl ?_
  refine lv_bipush (v := (nI 127)) hx hb dJ13_bitCount_95d88_57 (by decide) ?_
  refine lv_iand hx hb dJ13_bitCount_95d88_59 ?_
  exact z_reti hx hb hr hlocks rfl (pop_e v) dJ13_bitCount_95d88_60
theorem i_c_X4_area_X4 : ∀ w ∈ wsX40, w ∈ wsX4_area := fun w h => (List.mem_cons_of_mem _ (List.mem_append_left _ (List.mem_append_left _ (List.mem_append_right _ h))))
set_option maxRecDepth 100000 in
set_option maxHeartbeats 4000000 in
theorem c_X4_area (l : Launch) (D : va_G) (y : zY) (x : Nat) (bd : Nat) (d : Nat → Int32) (ca : Nat → Nat) (pa : Nat → Nat) (pk : Nat → Nat) (k : Nat) (len : Nat) (tf : Nat → Int32) (c : Int32) (sw : Int32) (hJ : rJ d) (hk4 : k ≤ 4) (hl80 : len ≤ 80) : Met l yX4_area wsX4_area ({ frames := 2, cells := 0, slots := 0, locals := 42 }) (zP [.ref x, .int c, .int sw] (fun H => clR D y x bd d ca pa pk k len tf H) D y) (zQ (some (.int (aArea d c sw)))) 0 0 nofree := by
  refine z_body (cc := cX4_area) (maxL := 6) (ret := (some .int)) (la := [(0, .ref x), (1, .int c), (2, .int sw)]) (by decide) rfl (Nat.le_of_ble_eq_true rfl) rfl ?_
  intro pg ev s mm below meth c0 ls hx hb hr hF hlocks hΦ hK hl _
  have hts := hF.2.2.2.2
  have hown : s.vm.findClass RX4 = some mm.cls := hF.2.2.2.1
  have hI := hJ.1
  have hv24 := hJ.2.1
  have hpl := hJ.2.2.1
  have hS := hpl.w
  have hG2 := hI.ng2
  have hC8 := hI.nc8
  have hS0 := hΦ.2.2
  obtain ⟨cs, ns, se, wi, al, re, gi, ps, ss, vs, hP, hR, hC, hE, hT⟩ := hS0
  refine lv_aload_n hx hb dX4_area_0 rfl (lv_at hl 0 rfl) ?_
  refine z_get (fs := [.ref (x + 1), .ref (x + 12), .ref (x + 23), .int (nI k), .ref (x + 24)]) (ref := "CranePermits") (C := RX4) (T := TX4) (N := 5) (ci := 4) (v := .ref (x + 1)) hx hb hts i_c_X4_area_X4 hown hK hΦ.1 0 (by decide) rfl (hts (.fieldLink RX4 10 "CranePermits" "now" "LCranePermits$Site;") (List.mem_of_getElem? (i := 1) rfl)) rfl rfl dX4_area_1 ?_
  refine lv_iload_n hx hb dX4_area_4 rfl (lv_at hl 1 rfl) ?_
  rcases Bool.eq_false_or_eq_true (inB c (nI 0) (d 0 - nI 1)) with c5 | c5
  · obtain ⟨j, hj, rfl⟩ := in_nc hI c5
    have ej : cl (nI j) = j := cl_nI (by omega)
    refine z_callV (As := [.int (nI j)]) (rest := []) hF hK (c_X2_craneAt_in l D y bd (x + 1) d ca pa pk j (hI) (hv24) (by omega)) (cwV 1 hts gX4_area_X2_craneAt rfl rfl rfl (by decide +kernel) ⟨Nat.le_of_ble_eq_true rfl, Nat.le_of_ble_eq_true rfl⟩) (z_recv (q := (RX2, TX2, 13)) hK (hP 0 _ rfl) rfl) hΦ.2.2 rfl hl.1 rfl (Nat.le_of_ble_eq_true rfl) dX4_area_5 ⟨Nat.zero_le _, Nat.zero_le _⟩ ?_
    refine lv_astore_n (lv' := [(3, .ref (ca j)), (0, .ref x), (1, .int (nI j)), (2, .int sw)]) hx hb dX4_area_8 rfl hl (by decide) rfl (fun ls hl => ?_)
    refine lv_aload_n hx hb dX4_area_9 rfl (lv_at hl 0 rfl) ?_
    refine lv_ifnull hx hb dX4_area_10 ?_
    refine lv_iload_n hx hb dX4_area_13 rfl (lv_at hl 3 rfl) ?_
    refine z_callS (As := [.int sw]) (rest := []) hF hK (c_X4_isSwing l D y sw ) (va_cwS 1 hts gX4_area_X4_isSwing rfl rfl rfl (by decide +kernel) ⟨Nat.le_of_ble_eq_true rfl, Nat.le_of_ble_eq_true rfl⟩) trivial rfl hl.1 rfl (Nat.le_of_ble_eq_true rfl) dX4_area_14 ⟨Nat.zero_le _, Nat.zero_le _⟩ ?_
    refine z_ifne (tgt := 24) hx hb dX4_area_17 (by decide) (fun c17 => ?_) (fun c17 => ?_)
    · refine lv_iconst (v := (nI 0)) hx hb dX4_area_24 (by decide) ?_
      refine lv_istore (lv' := [(4, .int (nI 0)), (3, .ref (ca j)), (0, .ref x), (1, .int (nI j)), (2, .int sw)]) hx hb dX4_area_25 hl (by decide) rfl (fun ls hl => ?_)
      refine lv_iconst (v := (nI 0)) hx hb dX4_area_27 (by decide) ?_
      refine lv_istore (lv' := [(5, .int (nI 0)), (4, .int (nI 0)), (3, .ref (ca j)), (0, .ref x), (1, .int (nI j)), (2, .int sw)]) hx hb dX4_area_28 hl (by decide) rfl (fun ls hl => ?_)
      have hl := lv_repl (l' := [(5, .int (nI 0)), (4, .int (sumN (areF d j sw) (64 * 0))), (3, .ref (ca j)), (0, .ref x), (1, .int (nI j)), (2, .int sw)]) hl 1 rfl (congrArg Value.int (show (nI 0) = (sumN (areF d j sw) (64 * 0)) from rfl)) rfl
      refine z_loop (S := Nat) (nL := 6) (fun (i : Nat) => 4 - i) (fun (i : Nat) => [(5, .int (nI i)), (4, .int (sumN (areF d j sw) (64 * i))), (0, .ref x), (1, .int (nI j)), (2, .int sw), (3, .ref (ca j))]) (fun (i : Nat) => i ≤ 4) 0 (by omega) (lv_sub hl [0, 1, 3, 4, 5, 2] rfl) ?_
      clear hl
      rintro i ls hI_30 hl ih_30
      have hi := hI_30
      refine lv_iload hx hb dX4_area_30 (lv_at hl 0 rfl) ?_
      refine lv_iconst (v := (nI 4)) hx hb dX4_area_32 (by decide) ?_
      refine z_ge (tgt := 57) hx hb (by omega) (by omega) dX4_area_33 (by decide) (fun c33 => ?_) (fun c33 => ?_)
      · refine lv_iload hx hb dX4_area_57 (lv_at hl 1 rfl) ?_
        exact z_reti hx hb hr hlocks rfl (by unfold aArea; rw [if_pos c5, if_pos c17, ej, show i = 4 by omega]) dX4_area_59
      · refine lv_iload hx hb dX4_area_36 (lv_at hl 1 rfl) ?_
        refine lv_aload_n hx hb dX4_area_38 rfl (lv_at hl 5 rfl) ?_
        refine lv_iload_n hx hb dX4_area_39 rfl (lv_at hl 4 rfl) ?_
        refine lv_iload hx hb dX4_area_40 (lv_at hl 0 rfl) ?_
        refine z_callV (As := [.int sw, .int (nI i)]) (rest := [.int (sumN (areF d j sw) (64 * i))]) hF hK (c_X0_airOf l D y (ca j) j d sw i (by omega)) (cwV 2 hts gX4_area_X0_airOf rfl rfl rfl (by decide +kernel) ⟨Nat.le_of_ble_eq_true rfl, Nat.le_of_ble_eq_true rfl⟩) (z_recv (q := (RX0, TX0, 7)) hK (hC j (by omega)).2.1 rfl) (hC j (by omega)).2 rfl hl.1 rfl (Nat.le_of_ble_eq_true rfl) dX4_area_42 ⟨Nat.zero_le _, Nat.zero_le _⟩ ?_
        refine z_callS (As := [.long (airS (eiF d j) sw i 8)]) (rest := [.int (sumN (areF d j sw) (64 * i))]) hF hK (c_J13_bitCount_95d88 l D y (airS (eiF d j) sw i 8) ) (va_cwS 1 hts gX4_area_J13_bitCount_95d88 rfl rfl rfl (by decide +kernel) ⟨Nat.le_of_ble_eq_true rfl, Nat.le_of_ble_eq_true rfl⟩) trivial rfl hl.1 rfl (Nat.le_of_ble_eq_true rfl) dX4_area_45 ⟨Nat.zero_le _, Nat.zero_le _⟩ ?_
        refine lv_iadd hx hb dX4_area_48 ?_
        refine lv_istore (lv' := [(4, .int ((sumN (areF d j sw) (64 * i)) + (pcL (airS (eiF d j) sw i 8)))), (5, .int (nI i)), (0, .ref x), (1, .int (nI j)), (2, .int sw), (3, .ref (ca j))]) hx hb dX4_area_49 hl (by decide) rfl (fun ls hl => ?_)
        refine lv_iinc (v := (nI (i + 1))) (lv' := [(5, .int (nI (i + 1))), (4, .int ((sumN (areF d j sw) (64 * i)) + (pcL (airS (eiF d j) sw i 8)))), (0, .ref x), (1, .int (nI j)), (2, .int sw), (3, .ref (ca j))]) hx hb dX4_area_51 hl (k := 1) rfl (in1 _) (by decide) rfl (fun ls hl => ?_)
        refine lv_goto (tgt := 30) hx hb dX4_area_54 (by decide) ?_
        have hl := lv_repl (l' := [(5, .int (nI (i + 1))), (4, .int (sumN (areF d j sw) (64 * (i + 1)))), (0, .ref x), (1, .int (nI j)), (2, .int sw), (3, .ref (ca j))]) hl 1 rfl (congrArg Value.int (show ((sumN (areF d j sw) (64 * i)) + (pcL (airS (eiF d j) sw i 8))) = (sumN (areF d j sw) (64 * (i + 1))) from (are_s (sw_of c17) (by omega)).symm)) rfl
        exact ih_30 (i + 1) _ (by omega) (by omega) (lv_sub hl [0, 1, 2, 3, 4, 5] rfl)
    · refine lv_sipush (v := (-1001)) hx hb dX4_area_20 (by decide) ?_
      exact z_reti hx hb hr hlocks rfl (by unfold aArea; first | (rw [if_neg (bf c5)]; done) | (rw [if_pos c5, if_neg (bf c17)]; done)) dX4_area_23
  · refine z_callV (As := [.int c]) (rest := []) hF hK (c_X2_craneAt_out l D y bd (x + 1) d ca pa pk c (hI) (hv24) (c5)) (cwV 1 hts gX4_area_X2_craneAt rfl rfl rfl (by decide +kernel) ⟨Nat.le_of_ble_eq_true rfl, Nat.le_of_ble_eq_true rfl⟩) (z_recv (q := (RX2, TX2, 13)) hK (hP 0 _ rfl) rfl) hΦ.2.2 rfl hl.1 rfl (Nat.le_of_ble_eq_true rfl) dX4_area_5 ⟨Nat.zero_le _, Nat.zero_le _⟩ ?_
    refine lv_astore_nN (lv' := [(3, .null), (0, .ref x), (1, .int c), (2, .int sw)]) hx hb dX4_area_8 rfl hl (by decide) rfl (fun ls hl => ?_)
    refine lv_aload_nN hx hb dX4_area_9 rfl (lv_at hl 0 rfl) ?_
    refine lv_ifnullN (tgt := 20) hx hb dX4_area_10 (by decide) ?_
    refine lv_sipush (v := (-1001)) hx hb dX4_area_20 (by decide) ?_
    exact z_reti hx hb hr hlocks rfl (by unfold aArea; first | (rw [if_neg (bf c5)]; done) | (rw [if_pos c5, if_neg (bf c17)]; done)) dX4_area_23
