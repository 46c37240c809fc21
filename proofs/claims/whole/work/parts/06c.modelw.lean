/-! THE REFERENCE: texts -/
theorem i_c_X5_readsForm_ok_X5 : ∀ w ∈ wsX50, w ∈ wsX5_readsForm := fun w h => (List.mem_cons_of_mem _ (List.mem_append_right _ h))
set_option maxRecDepth 100000 in
set_option maxHeartbeats 4000000 in
theorem c_X5_readsForm_ok (l : Launch) (D : va_G) (y : zY) (m : Nat) (d : Nat → Int32) (was : Nat → Int32) (as : Nat → Int32) (tx : Nat → Int32) (gt : Nat → Int32) (k : Nat) (rs : Int32) (len : Nat) (a : Nat) (hlen : len ≤ 80) (ha : a ≤ len) (hok : fmB tx len a = true) : Met l yX5_readsForm wsX5_readsForm ({ frames := 2, cells := 0, slots := 0, locals := 45 }) (zP [.ref m] (va_P D vwCl (mWs y m d was as tx gt (nI k) (nI len) (nI a) rs)) D y) (zW (some (.int (bI true))) (va_P D vwCl (mWs y m d was as tx (upd (upd (upd (upd (upd gt 0 (V0 tx len a)) 1 (V1 tx len a)) 2 (V2 tx len a)) 3 (V3 tx len a)) 4 (V4 tx len a)) (nI k) (nI len) (nI (nxA tx len a)) rs)) (blk m 6)) 0 0 (blk m 6) := by
  refine z_body (cc := cX5_readsForm) (maxL := 1) (ret := (some .boolean)) (la := [(0, .ref m)]) (by decide) rfl (Nat.le_of_ble_eq_true rfl) rfl ?_
  intro pg ev s mm below meth c0 ls hx hb hr hF hlocks hΦ hK hl _
  have hts := hF.2.2.2.2
  have hown : s.vm.findClass RX5 = some mm.cls := hF.2.2.2.1
  have hP : va_P D vwCl (mWs y m d was as tx gt (nI k) (nI len) (nI a) rs) s.heap := hΦ
  have hS : va_S (blk m 6) s.heap s.heap [] := va_S.rf
  obtain ⟨q0, q1, q2, q3, q4⟩ : F0B tx len a = true ∧ F1B tx len a = true ∧ F2B tx len a = true ∧ F3B tx len a = true ∧ F4B tx len a = true := by
    unfold fmB at hok
    simp only [Bool.and_eq_true] at hok
    exact hok
  unfold F0B at q0; unfold F1B at q1; unfold F2B at q2; unfold F3B at q3; unfold F4B at q4
  simp only [Bool.and_eq_true, Bool.not_eq_true', decide_eq_false_iff_not] at q0 q1 q2 q3 q4
  refine lv_aload_n hx hb dX5_readsForm_0 rfl (lv_at hl 0 rfl) ?_
  refine z_get (fs := [.ref (m + 1), .ref (m + 2), .int (nI k), .ref (m + 3), .ref (m + 4), .int (nI len), .int (nI a), .int rs, .ref (m + 5)]) (ref := "CranePermitsModel") (C := RX5) (T := TX5) (N := 9) (ci := 5) (v := .ref (m + 5)) hx hb hts i_c_X5_readsForm_ok_X5 hown hK (hP 0 _ rfl) 8 (by decide) rfl (hts (.fieldLink RX5 23 "CranePermitsModel" "got" "[I") (List.mem_of_getElem? (i := 1) rfl)) rfl rfl dX5_readsForm_1 ?_
  refine lv_iconst (v := (nI 0)) hx hb dX5_readsForm_4 (by decide) ?_
  refine lv_aload_n hx hb dX5_readsForm_5 rfl (lv_at hl 0 rfl) ?_
  refine lv_iconst (v := (nI 1)) hx hb dX5_readsForm_6 (by decide) ?_
  refine w_callV (As := [.int (nI 1)]) (rest := [.int (nI 0), .ref (m + 5)]) hF hK (c_X5_number l D y m d was as tx gt k rs len a 1 (by omega) (ha) (by omega)) (cwV 1 hts gX5_readsForm_X5_number rfl rfl rfl (by decide +kernel) ⟨Nat.le_of_ble_eq_true rfl, Nat.le_of_ble_eq_true rfl⟩) (z_recv (q := (RX5, TX5, 9)) hK (hP 0 _ rfl) rfl) hP hS (fun q h => h) rfl hl.1 rfl (Nat.le_of_ble_eq_true rfl) dX5_readsForm_7 ⟨Nat.zero_le _, Nat.zero_le _⟩ (fun H1 locs1 hP hz hk hS => ?_)
  have hP : va_P D vwCl (mWs y m d was as tx gt (nI k) (nI len) (nI (a + numJ tx len a 1)) rs) H1 := hP
  clear hz hk
  refine y_iast (a := (m + 5)) (f := gt) (i := 0) hx hb hK (hP 5 _ rfl) (by omega) (by decide) dX5_readsForm_10 (fun H2 hU hV => ?_)
  have hS := hS.upd (x := 0) hU (blk_in (by omega) (by omega))
  have hP : va_P D vwCl (mWs y m d was as tx (upd gt 0 (numR tx len a 1)) (nI k) (nI len) (nI (a + numJ tx len a 1)) rs) H2 := hP.upd (q0 := 5) mWs_D rfl hU hV
  clear hU hV
  refine lv_aload_n hx hb dX5_readsForm_11 rfl (lv_at hl 0 rfl) ?_
  refine z_get (fs := [.ref (m + 1), .ref (m + 2), .int (nI k), .ref (m + 3), .ref (m + 4), .int (nI len), .int (nI (a + numJ tx len a 1)), .int rs, .ref (m + 5)]) (ref := "CranePermitsModel") (C := RX5) (T := TX5) (N := 9) (ci := 5) (v := .ref (m + 5)) hx hb hts i_c_X5_readsForm_ok_X5 hown hK (hP 0 _ rfl) 8 (by decide) rfl (hts (.fieldLink RX5 23 "CranePermitsModel" "got" "[I") (List.mem_of_getElem? (i := 1) rfl)) rfl rfl dX5_readsForm_12 ?_
  refine lv_iconst (v := (nI 1)) hx hb dX5_readsForm_15 (by decide) ?_
  refine lv_aload_n hx hb dX5_readsForm_16 rfl (lv_at hl 0 rfl) ?_
  refine z_get (fs := [.ref (m + 1), .ref (m + 2), .int (nI k), .ref (m + 3), .ref (m + 4), .int (nI len), .int (nI (a + numJ tx len a 1)), .int rs, .ref (m + 5)]) (ref := "CranePermitsModel") (C := RX5) (T := TX5) (N := 9) (ci := 5) (v := .ref (m + 5)) hx hb hts i_c_X5_readsForm_ok_X5 hown hK (hP 0 _ rfl) 8 (by decide) rfl (hts (.fieldLink RX5 23 "CranePermitsModel" "got" "[I") (List.mem_of_getElem? (i := 1) rfl)) rfl rfl dX5_readsForm_17 ?_
  refine lv_iconst (v := (nI 0)) hx hb dX5_readsForm_20 (by decide) ?_
  refine z_iald (f := (upd gt 0 (numR tx len a 1))) hx hb hK (hP 5 _ rfl) (by omega) (by decide) dX5_readsForm_21 ?_
  refine z_topi (z := V0 tx len a) (pk_us) ?_
  refine lv_if_lt (tgt := 42) hx hb dX5_readsForm_22 (by decide) (fun c22 => ?_) (fun c22 => ?_)
  · first | exact absurd c22 q0.1 | exact absurd q0.2 (bf c31)
  · have hP : va_P D vwCl (mWs y m d was as tx (upd gt 0 (numR tx len a 1)) (nI k) (nI len) (nI (A1 tx len a)) rs) H2 := hP
    refine lv_aload_n hx hb dX5_readsForm_25 rfl (lv_at hl 0 rfl) ?_
    refine lv_bipush (v := (nI 110)) hx hb dX5_readsForm_26 (by decide) ?_
    refine w_callV (As := [.int (nI 110)]) (rest := [.int (nI 1), .ref (m + 5)]) hF hK (c_X5_passes l D y m d was as tx (upd gt 0 (numR tx len a 1)) k rs len (A1 tx len a) (nI 110) (by omega) (num_end_le ha)) (cwV 1 hts gX5_readsForm_X5_passes rfl rfl rfl (by decide +kernel) ⟨Nat.le_of_ble_eq_true rfl, Nat.le_of_ble_eq_true rfl⟩) (z_recv (q := (RX5, TX5, 9)) hK (hP 0 _ rfl) rfl) hP hS (fun q h => h) rfl hl.1 rfl (Nat.le_of_ble_eq_true rfl) dX5_readsForm_28 ⟨Nat.zero_le _, Nat.zero_le _⟩ (fun H3 locs1 hP hz hk hS => ?_)
    have hP : va_P D vwCl (mWs y m d was as tx (upd gt 0 (numR tx len a 1)) (nI k) (nI len) (nI (atP tx len (A1 tx len a) (nI 110))) rs) H3 := hP
    clear hz hk
    refine z_ifeq (tgt := 42) hx hb dX5_readsForm_31 (by decide) (fun c31 => ?_) (fun c31 => ?_)
    · first | exact absurd c22 q0.1 | exact absurd q0.2 (bf c31)
    · have hP : va_P D vwCl (mWs y m d was as tx (upd gt 0 (numR tx len a 1)) (nI k) (nI len) (nI (A1 tx len a + 1)) rs) H3 := by
        have e9 : atP tx len (A1 tx len a) (nI 110) = A1 tx len a + 1 := if_pos c31
        have hP9 : va_P D vwCl (mWs y m d was as tx (upd gt 0 (numR tx len a 1)) (nI k) (nI len) (nI (atP tx len (A1 tx len a) (nI 110))) rs) H3 := hP
        rw [e9] at hP9
        exact hP9
      refine lv_aload_n hx hb dX5_readsForm_34 rfl (lv_at hl 0 rfl) ?_
      refine lv_iconst (v := (nI 2)) hx hb dX5_readsForm_35 (by decide) ?_
      refine w_callV (As := [.int (nI 2)]) (rest := [.int (nI 1), .ref (m + 5)]) hF hK (c_X5_number l D y m d was as tx (upd gt 0 (numR tx len a 1)) k rs len (A1 tx len a + 1) 2 (by omega) (pas_lt c31) (by omega)) (cwV 1 hts gX5_readsForm_X5_number rfl rfl rfl (by decide +kernel) ⟨Nat.le_of_ble_eq_true rfl, Nat.le_of_ble_eq_true rfl⟩) (z_recv (q := (RX5, TX5, 9)) hK (hP 0 _ rfl) rfl) hP hS (fun q h => h) rfl hl.1 rfl (Nat.le_of_ble_eq_true rfl) dX5_readsForm_36 ⟨Nat.zero_le _, Nat.zero_le _⟩ (fun H4 locs1 hP hz hk hS => ?_)
      have hP : va_P D vwCl (mWs y m d was as tx (upd gt 0 (numR tx len a 1)) (nI k) (nI len) (nI ((A1 tx len a + 1) + numJ tx len (A1 tx len a + 1) 2)) rs) H4 := hP
      clear hz hk
      refine lv_goto (tgt := 43) hx hb dX5_readsForm_39 (by decide) ?_
      refine y_iast (a := (m + 5)) (f := (upd gt 0 (numR tx len a 1))) (i := 1) hx hb hK (hP 5 _ rfl) (by omega) (by decide) dX5_readsForm_43 (fun H5 hU hV => ?_)
      have hS := hS.upd (x := 1) hU (blk_in (by omega) (by omega))
      have hP : va_P D vwCl (mWs y m d was as tx (upd (upd gt 0 (numR tx len a 1)) 1 (numR tx len (A1 tx len a + 1) 2)) (nI k) (nI len) (nI ((A1 tx len a + 1) + numJ tx len (A1 tx len a + 1) 2)) rs) H5 := hP.upd (q0 := 5) mWs_D rfl hU hV
      clear hU hV
      refine lv_aload_n hx hb dX5_readsForm_44 rfl (lv_at hl 0 rfl) ?_
      refine z_get (fs := [.ref (m + 1), .ref (m + 2), .int (nI k), .ref (m + 3), .ref (m + 4), .int (nI len), .int (nI ((A1 tx len a + 1) + numJ tx len (A1 tx len a + 1) 2)), .int rs, .ref (m + 5)]) (ref := "CranePermitsModel") (C := RX5) (T := TX5) (N := 9) (ci := 5) (v := .ref (m + 5)) hx hb hts i_c_X5_readsForm_ok_X5 hown hK (hP 0 _ rfl) 8 (by decide) rfl (hts (.fieldLink RX5 23 "CranePermitsModel" "got" "[I") (List.mem_of_getElem? (i := 1) rfl)) rfl rfl dX5_readsForm_45 ?_
      refine lv_iconst (v := (nI 2)) hx hb dX5_readsForm_48 (by decide) ?_
      refine lv_aload_n hx hb dX5_readsForm_49 rfl (lv_at hl 0 rfl) ?_
      refine z_get (fs := [.ref (m + 1), .ref (m + 2), .int (nI k), .ref (m + 3), .ref (m + 4), .int (nI len), .int (nI ((A1 tx len a + 1) + numJ tx len (A1 tx len a + 1) 2)), .int rs, .ref (m + 5)]) (ref := "CranePermitsModel") (C := RX5) (T := TX5) (N := 9) (ci := 5) (v := .ref (m + 5)) hx hb hts i_c_X5_readsForm_ok_X5 hown hK (hP 0 _ rfl) 8 (by decide) rfl (hts (.fieldLink RX5 23 "CranePermitsModel" "got" "[I") (List.mem_of_getElem? (i := 1) rfl)) rfl rfl dX5_readsForm_50 ?_
      refine lv_iconst (v := (nI 1)) hx hb dX5_readsForm_53 (by decide) ?_
      refine z_iald (f := (upd (upd gt 0 (numR tx len a 1)) 1 (numR tx len (A1 tx len a + 1) 2))) hx hb hK (hP 5 _ rfl) (by omega) (by decide) dX5_readsForm_54 ?_
      refine z_topi (z := V1 tx len a) (pk_us) ?_
      refine lv_if_lt (tgt := 75) hx hb dX5_readsForm_55 (by decide) (fun c55 => ?_) (fun c55 => ?_)
      · first | exact absurd c55 q1.1 | exact absurd q1.2 (bf c64)
      · have hP : va_P D vwCl (mWs y m d was as tx (upd (upd gt 0 (numR tx len a 1)) 1 (numR tx len (A1 tx len a + 1) 2)) (nI k) (nI len) (nI (A2 tx len a)) rs) H5 := hP
        refine lv_aload_n hx hb dX5_readsForm_58 rfl (lv_at hl 0 rfl) ?_
        refine lv_bipush (v := (nI 104)) hx hb dX5_readsForm_59 (by decide) ?_
        refine w_callV (As := [.int (nI 104)]) (rest := [.int (nI 2), .ref (m + 5)]) hF hK (c_X5_passes l D y m d was as tx (upd (upd gt 0 (numR tx len a 1)) 1 (numR tx len (A1 tx len a + 1) 2)) k rs len (A2 tx len a) (nI 104) (by omega) (num_end_le (pas_lt c31))) (cwV 1 hts gX5_readsForm_X5_passes rfl rfl rfl (by decide +kernel) ⟨Nat.le_of_ble_eq_true rfl, Nat.le_of_ble_eq_true rfl⟩) (z_recv (q := (RX5, TX5, 9)) hK (hP 0 _ rfl) rfl) hP hS (fun q h => h) rfl hl.1 rfl (Nat.le_of_ble_eq_true rfl) dX5_readsForm_61 ⟨Nat.zero_le _, Nat.zero_le _⟩ (fun H6 locs1 hP hz hk hS => ?_)
        have hP : va_P D vwCl (mWs y m d was as tx (upd (upd gt 0 (numR tx len a 1)) 1 (numR tx len (A1 tx len a + 1) 2)) (nI k) (nI len) (nI (atP tx len (A2 tx len a) (nI 104))) rs) H6 := hP
        clear hz hk
        refine z_ifeq (tgt := 75) hx hb dX5_readsForm_64 (by decide) (fun c64 => ?_) (fun c64 => ?_)
        · first | exact absurd c55 q1.1 | exact absurd q1.2 (bf c64)
        · have hP : va_P D vwCl (mWs y m d was as tx (upd (upd gt 0 (numR tx len a 1)) 1 (numR tx len (A1 tx len a + 1) 2)) (nI k) (nI len) (nI (A2 tx len a + 1)) rs) H6 := by
            have e9 : atP tx len (A2 tx len a) (nI 104) = A2 tx len a + 1 := if_pos c64
            have hP9 : va_P D vwCl (mWs y m d was as tx (upd (upd gt 0 (numR tx len a 1)) 1 (numR tx len (A1 tx len a + 1) 2)) (nI k) (nI len) (nI (atP tx len (A2 tx len a) (nI 104))) rs) H6 := hP
            rw [e9] at hP9
            exact hP9
          refine lv_aload_n hx hb dX5_readsForm_67 rfl (lv_at hl 0 rfl) ?_
          refine lv_iconst (v := (nI 1)) hx hb dX5_readsForm_68 (by decide) ?_
          refine w_callV (As := [.int (nI 1)]) (rest := [.int (nI 2), .ref (m + 5)]) hF hK (c_X5_number l D y m d was as tx (upd (upd gt 0 (numR tx len a 1)) 1 (numR tx len (A1 tx len a + 1) 2)) k rs len (A2 tx len a + 1) 1 (by omega) (pas_lt c64) (by omega)) (cwV 1 hts gX5_readsForm_X5_number rfl rfl rfl (by decide +kernel) ⟨Nat.le_of_ble_eq_true rfl, Nat.le_of_ble_eq_true rfl⟩) (z_recv (q := (RX5, TX5, 9)) hK (hP 0 _ rfl) rfl) hP hS (fun q h => h) rfl hl.1 rfl (Nat.le_of_ble_eq_true rfl) dX5_readsForm_69 ⟨Nat.zero_le _, Nat.zero_le _⟩ (fun H7 locs1 hP hz hk hS => ?_)
          have hP : va_P D vwCl (mWs y m d was as tx (upd (upd gt 0 (numR tx len a 1)) 1 (numR tx len (A1 tx len a + 1) 2)) (nI k) (nI len) (nI ((A2 tx len a + 1) + numJ tx len (A2 tx len a + 1) 1)) rs) H7 := hP
          clear hz hk
          refine lv_goto (tgt := 76) hx hb dX5_readsForm_72 (by decide) ?_
          refine y_iast (a := (m + 5)) (f := (upd (upd gt 0 (numR tx len a 1)) 1 (numR tx len (A1 tx len a + 1) 2))) (i := 2) hx hb hK (hP 5 _ rfl) (by omega) (by decide) dX5_readsForm_76 (fun H8 hU hV => ?_)
          have hS := hS.upd (x := 2) hU (blk_in (by omega) (by omega))
          have hP : va_P D vwCl (mWs y m d was as tx (upd (upd (upd gt 0 (numR tx len a 1)) 1 (numR tx len (A1 tx len a + 1) 2)) 2 (numR tx len (A2 tx len a + 1) 1)) (nI k) (nI len) (nI ((A2 tx len a + 1) + numJ tx len (A2 tx len a + 1) 1)) rs) H8 := hP.upd (q0 := 5) mWs_D rfl hU hV
          clear hU hV
          refine lv_aload_n hx hb dX5_readsForm_77 rfl (lv_at hl 0 rfl) ?_
          refine z_get (fs := [.ref (m + 1), .ref (m + 2), .int (nI k), .ref (m + 3), .ref (m + 4), .int (nI len), .int (nI ((A2 tx len a + 1) + numJ tx len (A2 tx len a + 1) 1)), .int rs, .ref (m + 5)]) (ref := "CranePermitsModel") (C := RX5) (T := TX5) (N := 9) (ci := 5) (v := .ref (m + 5)) hx hb hts i_c_X5_readsForm_ok_X5 hown hK (hP 0 _ rfl) 8 (by decide) rfl (hts (.fieldLink RX5 23 "CranePermitsModel" "got" "[I") (List.mem_of_getElem? (i := 1) rfl)) rfl rfl dX5_readsForm_78 ?_
          refine lv_iconst (v := (nI 3)) hx hb dX5_readsForm_81 (by decide) ?_
          refine lv_aload_n hx hb dX5_readsForm_82 rfl (lv_at hl 0 rfl) ?_
          refine z_get (fs := [.ref (m + 1), .ref (m + 2), .int (nI k), .ref (m + 3), .ref (m + 4), .int (nI len), .int (nI ((A2 tx len a + 1) + numJ tx len (A2 tx len a + 1) 1)), .int rs, .ref (m + 5)]) (ref := "CranePermitsModel") (C := RX5) (T := TX5) (N := 9) (ci := 5) (v := .ref (m + 5)) hx hb hts i_c_X5_readsForm_ok_X5 hown hK (hP 0 _ rfl) 8 (by decide) rfl (hts (.fieldLink RX5 23 "CranePermitsModel" "got" "[I") (List.mem_of_getElem? (i := 1) rfl)) rfl rfl dX5_readsForm_83 ?_
          refine lv_iconst (v := (nI 2)) hx hb dX5_readsForm_86 (by decide) ?_
          refine z_iald (f := (upd (upd (upd gt 0 (numR tx len a 1)) 1 (numR tx len (A1 tx len a + 1) 2)) 2 (numR tx len (A2 tx len a + 1) 1))) hx hb hK (hP 5 _ rfl) (by omega) (by decide) dX5_readsForm_87 ?_
          refine z_topi (z := V2 tx len a) (pk_us) ?_
          refine lv_if_lt (tgt := 108) hx hb dX5_readsForm_88 (by decide) (fun c88 => ?_) (fun c88 => ?_)
          · first | exact absurd c88 q2.1 | exact absurd q2.2 (bf c97)
          · have hP : va_P D vwCl (mWs y m d was as tx (upd (upd (upd gt 0 (numR tx len a 1)) 1 (numR tx len (A1 tx len a + 1) 2)) 2 (numR tx len (A2 tx len a + 1) 1)) (nI k) (nI len) (nI (A3 tx len a)) rs) H8 := hP
            refine lv_aload_n hx hb dX5_readsForm_91 rfl (lv_at hl 0 rfl) ?_
            refine lv_bipush (v := (nI 45)) hx hb dX5_readsForm_92 (by decide) ?_
            refine w_callV (As := [.int (nI 45)]) (rest := [.int (nI 3), .ref (m + 5)]) hF hK (c_X5_passes l D y m d was as tx (upd (upd (upd gt 0 (numR tx len a 1)) 1 (numR tx len (A1 tx len a + 1) 2)) 2 (numR tx len (A2 tx len a + 1) 1)) k rs len (A3 tx len a) (nI 45) (by omega) (num_end_le (pas_lt c64))) (cwV 1 hts gX5_readsForm_X5_passes rfl rfl rfl (by decide +kernel) ⟨Nat.le_of_ble_eq_true rfl, Nat.le_of_ble_eq_true rfl⟩) (z_recv (q := (RX5, TX5, 9)) hK (hP 0 _ rfl) rfl) hP hS (fun q h => h) rfl hl.1 rfl (Nat.le_of_ble_eq_true rfl) dX5_readsForm_94 ⟨Nat.zero_le _, Nat.zero_le _⟩ (fun H9 locs1 hP hz hk hS => ?_)
            have hP : va_P D vwCl (mWs y m d was as tx (upd (upd (upd gt 0 (numR tx len a 1)) 1 (numR tx len (A1 tx len a + 1) 2)) 2 (numR tx len (A2 tx len a + 1) 1)) (nI k) (nI len) (nI (atP tx len (A3 tx len a) (nI 45))) rs) H9 := hP
            clear hz hk
            refine z_ifeq (tgt := 108) hx hb dX5_readsForm_97 (by decide) (fun c97 => ?_) (fun c97 => ?_)
            · first | exact absurd c88 q2.1 | exact absurd q2.2 (bf c97)
            · have hP : va_P D vwCl (mWs y m d was as tx (upd (upd (upd gt 0 (numR tx len a 1)) 1 (numR tx len (A1 tx len a + 1) 2)) 2 (numR tx len (A2 tx len a + 1) 1)) (nI k) (nI len) (nI (A3 tx len a + 1)) rs) H9 := by
                have e9 : atP tx len (A3 tx len a) (nI 45) = A3 tx len a + 1 := if_pos c97
                have hP9 : va_P D vwCl (mWs y m d was as tx (upd (upd (upd gt 0 (numR tx len a 1)) 1 (numR tx len (A1 tx len a + 1) 2)) 2 (numR tx len (A2 tx len a + 1) 1)) (nI k) (nI len) (nI (atP tx len (A3 tx len a) (nI 45))) rs) H9 := hP
                rw [e9] at hP9
                exact hP9
              refine lv_aload_n hx hb dX5_readsForm_100 rfl (lv_at hl 0 rfl) ?_
              refine lv_iconst (v := (nI 1)) hx hb dX5_readsForm_101 (by decide) ?_
              refine w_callV (As := [.int (nI 1)]) (rest := [.int (nI 3), .ref (m + 5)]) hF hK (c_X5_number l D y m d was as tx (upd (upd (upd gt 0 (numR tx len a 1)) 1 (numR tx len (A1 tx len a + 1) 2)) 2 (numR tx len (A2 tx len a + 1) 1)) k rs len (A3 tx len a + 1) 1 (by omega) (pas_lt c97) (by omega)) (cwV 1 hts gX5_readsForm_X5_number rfl rfl rfl (by decide +kernel) ⟨Nat.le_of_ble_eq_true rfl, Nat.le_of_ble_eq_true rfl⟩) (z_recv (q := (RX5, TX5, 9)) hK (hP 0 _ rfl) rfl) hP hS (fun q h => h) rfl hl.1 rfl (Nat.le_of_ble_eq_true rfl) dX5_readsForm_102 ⟨Nat.zero_le _, Nat.zero_le _⟩ (fun H10 locs1 hP hz hk hS => ?_)
              have hP : va_P D vwCl (mWs y m d was as tx (upd (upd (upd gt 0 (numR tx len a 1)) 1 (numR tx len (A1 tx len a + 1) 2)) 2 (numR tx len (A2 tx len a + 1) 1)) (nI k) (nI len) (nI ((A3 tx len a + 1) + numJ tx len (A3 tx len a + 1) 1)) rs) H10 := hP
              clear hz hk
              refine lv_goto (tgt := 109) hx hb dX5_readsForm_105 (by decide) ?_
              refine y_iast (a := (m + 5)) (f := (upd (upd (upd gt 0 (numR tx len a 1)) 1 (numR tx len (A1 tx len a + 1) 2)) 2 (numR tx len (A2 tx len a + 1) 1))) (i := 3) hx hb hK (hP 5 _ rfl) (by omega) (by decide) dX5_readsForm_109 (fun H11 hU hV => ?_)
              have hS := hS.upd (x := 3) hU (blk_in (by omega) (by omega))
              have hP : va_P D vwCl (mWs y m d was as tx (upd (upd (upd (upd gt 0 (numR tx len a 1)) 1 (numR tx len (A1 tx len a + 1) 2)) 2 (numR tx len (A2 tx len a + 1) 1)) 3 (numR tx len (A3 tx len a + 1) 1)) (nI k) (nI len) (nI ((A3 tx len a + 1) + numJ tx len (A3 tx len a + 1) 1)) rs) H11 := hP.upd (q0 := 5) mWs_D rfl hU hV
              clear hU hV
              refine lv_aload_n hx hb dX5_readsForm_110 rfl (lv_at hl 0 rfl) ?_
              refine z_get (fs := [.ref (m + 1), .ref (m + 2), .int (nI k), .ref (m + 3), .ref (m + 4), .int (nI len), .int (nI ((A3 tx len a + 1) + numJ tx len (A3 tx len a + 1) 1)), .int rs, .ref (m + 5)]) (ref := "CranePermitsModel") (C := RX5) (T := TX5) (N := 9) (ci := 5) (v := .ref (m + 5)) hx hb hts i_c_X5_readsForm_ok_X5 hown hK (hP 0 _ rfl) 8 (by decide) rfl (hts (.fieldLink RX5 23 "CranePermitsModel" "got" "[I") (List.mem_of_getElem? (i := 1) rfl)) rfl rfl dX5_readsForm_111 ?_
              refine lv_iconst (v := (nI 4)) hx hb dX5_readsForm_114 (by decide) ?_
              refine lv_aload_n hx hb dX5_readsForm_115 rfl (lv_at hl 0 rfl) ?_
              refine z_get (fs := [.ref (m + 1), .ref (m + 2), .int (nI k), .ref (m + 3), .ref (m + 4), .int (nI len), .int (nI ((A3 tx len a + 1) + numJ tx len (A3 tx len a + 1) 1)), .int rs, .ref (m + 5)]) (ref := "CranePermitsModel") (C := RX5) (T := TX5) (N := 9) (ci := 5) (v := .ref (m + 5)) hx hb hts i_c_X5_readsForm_ok_X5 hown hK (hP 0 _ rfl) 8 (by decide) rfl (hts (.fieldLink RX5 23 "CranePermitsModel" "got" "[I") (List.mem_of_getElem? (i := 1) rfl)) rfl rfl dX5_readsForm_116 ?_
              refine lv_iconst (v := (nI 3)) hx hb dX5_readsForm_119 (by decide) ?_
              refine z_iald (f := (upd (upd (upd (upd gt 0 (numR tx len a 1)) 1 (numR tx len (A1 tx len a + 1) 2)) 2 (numR tx len (A2 tx len a + 1) 1)) 3 (numR tx len (A3 tx len a + 1) 1))) hx hb hK (hP 5 _ rfl) (by omega) (by decide) dX5_readsForm_120 ?_
              refine z_topi (z := V3 tx len a) (pk_us) ?_
              refine lv_if_lt (tgt := 141) hx hb dX5_readsForm_121 (by decide) (fun c121 => ?_) (fun c121 => ?_)
              · first | exact absurd c121 q3.1 | exact absurd q3.2 (bf c130)
              · have hP : va_P D vwCl (mWs y m d was as tx (upd (upd (upd (upd gt 0 (numR tx len a 1)) 1 (numR tx len (A1 tx len a + 1) 2)) 2 (numR tx len (A2 tx len a + 1) 1)) 3 (numR tx len (A3 tx len a + 1) 1)) (nI k) (nI len) (nI (A4 tx len a)) rs) H11 := hP
                refine lv_aload_n hx hb dX5_readsForm_124 rfl (lv_at hl 0 rfl) ?_
                refine lv_bipush (v := (nI 115)) hx hb dX5_readsForm_125 (by decide) ?_
                refine w_callV (As := [.int (nI 115)]) (rest := [.int (nI 4), .ref (m + 5)]) hF hK (c_X5_passes l D y m d was as tx (upd (upd (upd (upd gt 0 (numR tx len a 1)) 1 (numR tx len (A1 tx len a + 1) 2)) 2 (numR tx len (A2 tx len a + 1) 1)) 3 (numR tx len (A3 tx len a + 1) 1)) k rs len (A4 tx len a) (nI 115) (by omega) (num_end_le (pas_lt c97))) (cwV 1 hts gX5_readsForm_X5_passes rfl rfl rfl (by decide +kernel) ⟨Nat.le_of_ble_eq_true rfl, Nat.le_of_ble_eq_true rfl⟩) (z_recv (q := (RX5, TX5, 9)) hK (hP 0 _ rfl) rfl) hP hS (fun q h => h) rfl hl.1 rfl (Nat.le_of_ble_eq_true rfl) dX5_readsForm_127 ⟨Nat.zero_le _, Nat.zero_le _⟩ (fun H12 locs1 hP hz hk hS => ?_)
                have hP : va_P D vwCl (mWs y m d was as tx (upd (upd (upd (upd gt 0 (numR tx len a 1)) 1 (numR tx len (A1 tx len a + 1) 2)) 2 (numR tx len (A2 tx len a + 1) 1)) 3 (numR tx len (A3 tx len a + 1) 1)) (nI k) (nI len) (nI (atP tx len (A4 tx len a) (nI 115))) rs) H12 := hP
                clear hz hk
                refine z_ifeq (tgt := 141) hx hb dX5_readsForm_130 (by decide) (fun c130 => ?_) (fun c130 => ?_)
                · first | exact absurd c121 q3.1 | exact absurd q3.2 (bf c130)
                · have hP : va_P D vwCl (mWs y m d was as tx (upd (upd (upd (upd gt 0 (numR tx len a 1)) 1 (numR tx len (A1 tx len a + 1) 2)) 2 (numR tx len (A2 tx len a + 1) 1)) 3 (numR tx len (A3 tx len a + 1) 1)) (nI k) (nI len) (nI (A4 tx len a + 1)) rs) H12 := by
                    have e9 : atP tx len (A4 tx len a) (nI 115) = A4 tx len a + 1 := if_pos c130
                    have hP9 : va_P D vwCl (mWs y m d was as tx (upd (upd (upd (upd gt 0 (numR tx len a 1)) 1 (numR tx len (A1 tx len a + 1) 2)) 2 (numR tx len (A2 tx len a + 1) 1)) 3 (numR tx len (A3 tx len a + 1) 1)) (nI k) (nI len) (nI (atP tx len (A4 tx len a) (nI 115))) rs) H12 := hP
                    rw [e9] at hP9
                    exact hP9
                  refine lv_aload_n hx hb dX5_readsForm_133 rfl (lv_at hl 0 rfl) ?_
                  refine lv_iconst (v := (nI 3)) hx hb dX5_readsForm_134 (by decide) ?_
                  refine w_callV (As := [.int (nI 3)]) (rest := [.int (nI 4), .ref (m + 5)]) hF hK (c_X5_number l D y m d was as tx (upd (upd (upd (upd gt 0 (numR tx len a 1)) 1 (numR tx len (A1 tx len a + 1) 2)) 2 (numR tx len (A2 tx len a + 1) 1)) 3 (numR tx len (A3 tx len a + 1) 1)) k rs len (A4 tx len a + 1) 3 (by omega) (pas_lt c130) (by omega)) (cwV 1 hts gX5_readsForm_X5_number rfl rfl rfl (by decide +kernel) ⟨Nat.le_of_ble_eq_true rfl, Nat.le_of_ble_eq_true rfl⟩) (z_recv (q := (RX5, TX5, 9)) hK (hP 0 _ rfl) rfl) hP hS (fun q h => h) rfl hl.1 rfl (Nat.le_of_ble_eq_true rfl) dX5_readsForm_135 ⟨Nat.zero_le _, Nat.zero_le _⟩ (fun H13 locs1 hP hz hk hS => ?_)
                  have hP : va_P D vwCl (mWs y m d was as tx (upd (upd (upd (upd gt 0 (numR tx len a 1)) 1 (numR tx len (A1 tx len a + 1) 2)) 2 (numR tx len (A2 tx len a + 1) 1)) 3 (numR tx len (A3 tx len a + 1) 1)) (nI k) (nI len) (nI ((A4 tx len a + 1) + numJ tx len (A4 tx len a + 1) 3)) rs) H13 := hP
                  clear hz hk
                  refine lv_goto (tgt := 142) hx hb dX5_readsForm_138 (by decide) ?_
                  refine y_iast (a := (m + 5)) (f := (upd (upd (upd (upd gt 0 (numR tx len a 1)) 1 (numR tx len (A1 tx len a + 1) 2)) 2 (numR tx len (A2 tx len a + 1) 1)) 3 (numR tx len (A3 tx len a + 1) 1))) (i := 4) hx hb hK (hP 5 _ rfl) (by omega) (by decide) dX5_readsForm_142 (fun H14 hU hV => ?_)
                  have hS := hS.upd (x := 4) hU (blk_in (by omega) (by omega))
                  have hP : va_P D vwCl (mWs y m d was as tx (upd (upd (upd (upd (upd gt 0 (numR tx len a 1)) 1 (numR tx len (A1 tx len a + 1) 2)) 2 (numR tx len (A2 tx len a + 1) 1)) 3 (numR tx len (A3 tx len a + 1) 1)) 4 (numR tx len (A4 tx len a + 1) 3)) (nI k) (nI len) (nI ((A4 tx len a + 1) + numJ tx len (A4 tx len a + 1) 3)) rs) H14 := hP.upd (q0 := 5) mWs_D rfl hU hV
                  clear hU hV
                  refine lv_aload_n hx hb dX5_readsForm_143 rfl (lv_at hl 0 rfl) ?_
                  refine z_get (fs := [.ref (m + 1), .ref (m + 2), .int (nI k), .ref (m + 3), .ref (m + 4), .int (nI len), .int (nI ((A4 tx len a + 1) + numJ tx len (A4 tx len a + 1) 3)), .int rs, .ref (m + 5)]) (ref := "CranePermitsModel") (C := RX5) (T := TX5) (N := 9) (ci := 5) (v := .ref (m + 5)) hx hb hts i_c_X5_readsForm_ok_X5 hown hK (hP 0 _ rfl) 8 (by decide) rfl (hts (.fieldLink RX5 23 "CranePermitsModel" "got" "[I") (List.mem_of_getElem? (i := 1) rfl)) rfl rfl dX5_readsForm_144 ?_
                  refine lv_iconst (v := (nI 4)) hx hb dX5_readsForm_147 (by decide) ?_
                  refine z_iald (f := (upd (upd (upd (upd (upd gt 0 (numR tx len a 1)) 1 (numR tx len (A1 tx len a + 1) 2)) 2 (numR tx len (A2 tx len a + 1) 1)) 3 (numR tx len (A3 tx len a + 1) 1)) 4 (numR tx len (A4 tx len a + 1) 3))) hx hb hK (hP 5 _ rfl) (by omega) (by decide) dX5_readsForm_148 ?_
                  refine z_topi (z := V4 tx len a) (pk_us) ?_
                  refine lv_if_lt (tgt := 165) hx hb dX5_readsForm_149 (by decide) (fun c149 => ?_) (fun c149 => ?_)
                  · first | exact absurd c149 q4.1 | exact absurd q4.2 (bf c158)
                  · have hP : va_P D vwCl (mWs y m d was as tx (upd (upd (upd (upd (upd gt 0 (numR tx len a 1)) 1 (numR tx len (A1 tx len a + 1) 2)) 2 (numR tx len (A2 tx len a + 1) 1)) 3 (numR tx len (A3 tx len a + 1) 1)) 4 (numR tx len (A4 tx len a + 1) 3)) (nI k) (nI len) (nI (A5 tx len a)) rs) H14 := hP
                    refine lv_aload_n hx hb dX5_readsForm_152 rfl (lv_at hl 0 rfl) ?_
                    refine lv_bipush (v := (nI 59)) hx hb dX5_readsForm_153 (by decide) ?_
                    refine w_callV (As := [.int (nI 59)]) (rest := []) hF hK (c_X5_passes l D y m d was as tx (upd (upd (upd (upd (upd gt 0 (numR tx len a 1)) 1 (numR tx len (A1 tx len a + 1) 2)) 2 (numR tx len (A2 tx len a + 1) 1)) 3 (numR tx len (A3 tx len a + 1) 1)) 4 (numR tx len (A4 tx len a + 1) 3)) k rs len (A5 tx len a) (nI 59) (by omega) (num_end_le (pas_lt c130))) (cwV 1 hts gX5_readsForm_X5_passes rfl rfl rfl (by decide +kernel) ⟨Nat.le_of_ble_eq_true rfl, Nat.le_of_ble_eq_true rfl⟩) (z_recv (q := (RX5, TX5, 9)) hK (hP 0 _ rfl) rfl) hP hS (fun q h => h) rfl hl.1 rfl (Nat.le_of_ble_eq_true rfl) dX5_readsForm_155 ⟨Nat.zero_le _, Nat.zero_le _⟩ (fun H15 locs1 hP hz hk hS => ?_)
                    have hP : va_P D vwCl (mWs y m d was as tx (upd (upd (upd (upd (upd gt 0 (numR tx len a 1)) 1 (numR tx len (A1 tx len a + 1) 2)) 2 (numR tx len (A2 tx len a + 1) 1)) 3 (numR tx len (A3 tx len a + 1) 1)) 4 (numR tx len (A4 tx len a + 1) 3)) (nI k) (nI len) (nI (atP tx len (A5 tx len a) (nI 59))) rs) H15 := hP
                    clear hz hk
                    refine z_ifeq (tgt := 165) hx hb dX5_readsForm_158 (by decide) (fun c158 => ?_) (fun c158 => ?_)
                    · first | exact absurd c149 q4.1 | exact absurd q4.2 (bf c158)
                    · have hP : va_P D vwCl (mWs y m d was as tx (upd (upd (upd (upd (upd gt 0 (numR tx len a 1)) 1 (numR tx len (A1 tx len a + 1) 2)) 2 (numR tx len (A2 tx len a + 1) 1)) 3 (numR tx len (A3 tx len a + 1) 1)) 4 (numR tx len (A4 tx len a + 1) 3)) (nI k) (nI len) (nI (A5 tx len a + 1)) rs) H15 := by
                        have e9 : atP tx len (A5 tx len a) (nI 59) = A5 tx len a + 1 := if_pos c158
                        have hP9 : va_P D vwCl (mWs y m d was as tx (upd (upd (upd (upd (upd gt 0 (numR tx len a 1)) 1 (numR tx len (A1 tx len a + 1) 2)) 2 (numR tx len (A2 tx len a + 1) 1)) 3 (numR tx len (A3 tx len a + 1) 1)) 4 (numR tx len (A4 tx len a + 1) 3)) (nI k) (nI len) (nI (atP tx len (A5 tx len a) (nI 59))) rs) H15 := hP
                        rw [e9] at hP9
                        exact hP9
                      refine lv_iconst (v := (nI 1)) hx hb dX5_readsForm_161 (by decide) ?_
                      refine lv_goto (tgt := 166) hx hb dX5_readsForm_162 (by decide) ?_
                      exact w_retz hx hb hr hlocks hS (hP) (bI_tt (rfl)) dX5_readsForm_166
theorem i_c_X5_readsForm_no_X5 : ∀ w ∈ wsX50, w ∈ wsX5_readsForm := fun w h => (List.mem_cons_of_mem _ (List.mem_append_right _ h))
set_option maxRecDepth 100000 in
set_option maxHeartbeats 4000000 in
theorem c_X5_readsForm_no (l : Launch) (D : va_G) (y : zY) (m : Nat) (d : Nat → Int32) (was : Nat → Int32) (as : Nat → Int32) (tx : Nat → Int32) (gt : Nat → Int32) (k : Nat) (rs : Int32) (len : Nat) (a : Nat) (hlen : len ≤ 80) (ha : a ≤ len) (hno : fmB tx len a = false) : Met l yX5_readsForm wsX5_readsForm ({ frames := 2, cells := 0, slots := 0, locals := 45 }) (zP [.ref m] (va_P D vwCl (mWs y m d was as tx gt (nI k) (nI len) (nI a) rs)) D y) (zW (some (.int (bI false))) (fun H => ∃ (gt' : Nat → Int32) (pa' : Int32), va_P D vwCl (mWs y m d was as tx gt' (nI k) (nI len) pa' rs) H) (blk m 6)) 0 0 (blk m 6) := by
  refine z_body (cc := cX5_readsForm) (maxL := 1) (ret := (some .boolean)) (la := [(0, .ref m)]) (by decide) rfl (Nat.le_of_ble_eq_true rfl) rfl ?_
  intro pg ev s mm below meth c0 ls hx hb hr hF hlocks hΦ hK hl _
  have hts := hF.2.2.2.2
  have hown : s.vm.findClass RX5 = some mm.cls := hF.2.2.2.1
  have hP : va_P D vwCl (mWs y m d was as tx gt (nI k) (nI len) (nI a) rs) s.heap := hΦ
  have hS : va_S (blk m 6) s.heap s.heap [] := va_S.rf
  refine lv_aload_n hx hb dX5_readsForm_0 rfl (lv_at hl 0 rfl) ?_
  refine z_get (fs := [.ref (m + 1), .ref (m + 2), .int (nI k), .ref (m + 3), .ref (m + 4), .int (nI len), .int (nI a), .int rs, .ref (m + 5)]) (ref := "CranePermitsModel") (C := RX5) (T := TX5) (N := 9) (ci := 5) (v := .ref (m + 5)) hx hb hts i_c_X5_readsForm_no_X5 hown hK (hP 0 _ rfl) 8 (by decide) rfl (hts (.fieldLink RX5 23 "CranePermitsModel" "got" "[I") (List.mem_of_getElem? (i := 1) rfl)) rfl rfl dX5_readsForm_1 ?_
  refine lv_iconst (v := (nI 0)) hx hb dX5_readsForm_4 (by decide) ?_
  refine lv_aload_n hx hb dX5_readsForm_5 rfl (lv_at hl 0 rfl) ?_
  refine lv_iconst (v := (nI 1)) hx hb dX5_readsForm_6 (by decide) ?_
  refine w_callV (As := [.int (nI 1)]) (rest := [.int (nI 0), .ref (m + 5)]) hF hK (c_X5_number l D y m d was as tx gt k rs len a 1 (by omega) (ha) (by omega)) (cwV 1 hts gX5_readsForm_X5_number rfl rfl rfl (by decide +kernel) ⟨Nat.le_of_ble_eq_true rfl, Nat.le_of_ble_eq_true rfl⟩) (z_recv (q := (RX5, TX5, 9)) hK (hP 0 _ rfl) rfl) hP hS (fun q h => h) rfl hl.1 rfl (Nat.le_of_ble_eq_true rfl) dX5_readsForm_7 ⟨Nat.zero_le _, Nat.zero_le _⟩ (fun H1 locs1 hP hz hk hS => ?_)
  have hP : va_P D vwCl (mWs y m d was as tx gt (nI k) (nI len) (nI (a + numJ tx len a 1)) rs) H1 := hP
  clear hz hk
  refine y_iast (a := (m + 5)) (f := gt) (i := 0) hx hb hK (hP 5 _ rfl) (by omega) (by decide) dX5_readsForm_10 (fun H2 hU hV => ?_)
  have hS := hS.upd (x := 0) hU (blk_in (by omega) (by omega))
  have hP : va_P D vwCl (mWs y m d was as tx (upd gt 0 (numR tx len a 1)) (nI k) (nI len) (nI (a + numJ tx len a 1)) rs) H2 := hP.upd (q0 := 5) mWs_D rfl hU hV
  clear hU hV
  refine lv_aload_n hx hb dX5_readsForm_11 rfl (lv_at hl 0 rfl) ?_
  refine z_get (fs := [.ref (m + 1), .ref (m + 2), .int (nI k), .ref (m + 3), .ref (m + 4), .int (nI len), .int (nI (a + numJ tx len a 1)), .int rs, .ref (m + 5)]) (ref := "CranePermitsModel") (C := RX5) (T := TX5) (N := 9) (ci := 5) (v := .ref (m + 5)) hx hb hts i_c_X5_readsForm_no_X5 hown hK (hP 0 _ rfl) 8 (by decide) rfl (hts (.fieldLink RX5 23 "CranePermitsModel" "got" "[I") (List.mem_of_getElem? (i := 1) rfl)) rfl rfl dX5_readsForm_12 ?_
  refine lv_iconst (v := (nI 1)) hx hb dX5_readsForm_15 (by decide) ?_
  refine lv_aload_n hx hb dX5_readsForm_16 rfl (lv_at hl 0 rfl) ?_
  refine z_get (fs := [.ref (m + 1), .ref (m + 2), .int (nI k), .ref (m + 3), .ref (m + 4), .int (nI len), .int (nI (a + numJ tx len a 1)), .int rs, .ref (m + 5)]) (ref := "CranePermitsModel") (C := RX5) (T := TX5) (N := 9) (ci := 5) (v := .ref (m + 5)) hx hb hts i_c_X5_readsForm_no_X5 hown hK (hP 0 _ rfl) 8 (by decide) rfl (hts (.fieldLink RX5 23 "CranePermitsModel" "got" "[I") (List.mem_of_getElem? (i := 1) rfl)) rfl rfl dX5_readsForm_17 ?_
  refine lv_iconst (v := (nI 0)) hx hb dX5_readsForm_20 (by decide) ?_
  refine z_iald (f := (upd gt 0 (numR tx len a 1))) hx hb hK (hP 5 _ rfl) (by omega) (by decide) dX5_readsForm_21 ?_
  refine z_topi (z := V0 tx len a) (pk_us) ?_
  refine lv_if_lt (tgt := 42) hx hb dX5_readsForm_22 (by decide) (fun c22 => ?_) (fun c22 => ?_)
  · refine lv_iconst (v := (-1)) hx hb dX5_readsForm_42 (by decide) ?_
    refine y_iast (a := (m + 5)) (f := (upd gt 0 (numR tx len a 1))) (i := 1) hx hb hK (hP 5 _ rfl) (by omega) (by decide) dX5_readsForm_43 (fun H3 hU hV => ?_)
    have hS := hS.upd (x := 1) hU (blk_in (by omega) (by omega))
    have hP : va_P D vwCl (mWs y m d was as tx (upd (upd gt 0 (numR tx len a 1)) 1 (-1)) (nI k) (nI len) (nI (a + numJ tx len a 1)) rs) H3 := hP.upd (q0 := 5) mWs_D rfl hU hV
    clear hU hV
    refine lv_aload_n hx hb dX5_readsForm_44 rfl (lv_at hl 0 rfl) ?_
    refine z_get (fs := [.ref (m + 1), .ref (m + 2), .int (nI k), .ref (m + 3), .ref (m + 4), .int (nI len), .int (nI (a + numJ tx len a 1)), .int rs, .ref (m + 5)]) (ref := "CranePermitsModel") (C := RX5) (T := TX5) (N := 9) (ci := 5) (v := .ref (m + 5)) hx hb hts i_c_X5_readsForm_no_X5 hown hK (hP 0 _ rfl) 8 (by decide) rfl (hts (.fieldLink RX5 23 "CranePermitsModel" "got" "[I") (List.mem_of_getElem? (i := 1) rfl)) rfl rfl dX5_readsForm_45 ?_
    refine lv_iconst (v := (nI 2)) hx hb dX5_readsForm_48 (by decide) ?_
    refine lv_aload_n hx hb dX5_readsForm_49 rfl (lv_at hl 0 rfl) ?_
    refine z_get (fs := [.ref (m + 1), .ref (m + 2), .int (nI k), .ref (m + 3), .ref (m + 4), .int (nI len), .int (nI (a + numJ tx len a 1)), .int rs, .ref (m + 5)]) (ref := "CranePermitsModel") (C := RX5) (T := TX5) (N := 9) (ci := 5) (v := .ref (m + 5)) hx hb hts i_c_X5_readsForm_no_X5 hown hK (hP 0 _ rfl) 8 (by decide) rfl (hts (.fieldLink RX5 23 "CranePermitsModel" "got" "[I") (List.mem_of_getElem? (i := 1) rfl)) rfl rfl dX5_readsForm_50 ?_
    refine lv_iconst (v := (nI 1)) hx hb dX5_readsForm_53 (by decide) ?_
    refine z_iald (f := (upd (upd gt 0 (numR tx len a 1)) 1 (-1))) hx hb hK (hP 5 _ rfl) (by omega) (by decide) dX5_readsForm_54 ?_
    refine z_topi (z := (-1)) (pk_us) ?_
    refine lv_if_lt (tgt := 75) hx hb dX5_readsForm_55 (by decide) (fun c55 => ?_) (fun c55 => ?_)
    · refine lv_iconst (v := (-1)) hx hb dX5_readsForm_75 (by decide) ?_
      refine y_iast (a := (m + 5)) (f := (upd (upd gt 0 (numR tx len a 1)) 1 (-1))) (i := 2) hx hb hK (hP 5 _ rfl) (by omega) (by decide) dX5_readsForm_76 (fun H4 hU hV => ?_)
      have hS := hS.upd (x := 2) hU (blk_in (by omega) (by omega))
      have hP : va_P D vwCl (mWs y m d was as tx (upd (upd (upd gt 0 (numR tx len a 1)) 1 (-1)) 2 (-1)) (nI k) (nI len) (nI (a + numJ tx len a 1)) rs) H4 := hP.upd (q0 := 5) mWs_D rfl hU hV
      clear hU hV
      refine lv_aload_n hx hb dX5_readsForm_77 rfl (lv_at hl 0 rfl) ?_
      refine z_get (fs := [.ref (m + 1), .ref (m + 2), .int (nI k), .ref (m + 3), .ref (m + 4), .int (nI len), .int (nI (a + numJ tx len a 1)), .int rs, .ref (m + 5)]) (ref := "CranePermitsModel") (C := RX5) (T := TX5) (N := 9) (ci := 5) (v := .ref (m + 5)) hx hb hts i_c_X5_readsForm_no_X5 hown hK (hP 0 _ rfl) 8 (by decide) rfl (hts (.fieldLink RX5 23 "CranePermitsModel" "got" "[I") (List.mem_of_getElem? (i := 1) rfl)) rfl rfl dX5_readsForm_78 ?_
      refine lv_iconst (v := (nI 3)) hx hb dX5_readsForm_81 (by decide) ?_
      refine lv_aload_n hx hb dX5_readsForm_82 rfl (lv_at hl 0 rfl) ?_
      refine z_get (fs := [.ref (m + 1), .ref (m + 2), .int (nI k), .ref (m + 3), .ref (m + 4), .int (nI len), .int (nI (a + numJ tx len a 1)), .int rs, .ref (m + 5)]) (ref := "CranePermitsModel") (C := RX5) (T := TX5) (N := 9) (ci := 5) (v := .ref (m + 5)) hx hb hts i_c_X5_readsForm_no_X5 hown hK (hP 0 _ rfl) 8 (by decide) rfl (hts (.fieldLink RX5 23 "CranePermitsModel" "got" "[I") (List.mem_of_getElem? (i := 1) rfl)) rfl rfl dX5_readsForm_83 ?_
      refine lv_iconst (v := (nI 2)) hx hb dX5_readsForm_86 (by decide) ?_
      refine z_iald (f := (upd (upd (upd gt 0 (numR tx len a 1)) 1 (-1)) 2 (-1))) hx hb hK (hP 5 _ rfl) (by omega) (by decide) dX5_readsForm_87 ?_
      refine z_topi (z := (-1)) (pk_us) ?_
      refine lv_if_lt (tgt := 108) hx hb dX5_readsForm_88 (by decide) (fun c88 => ?_) (fun c88 => ?_)
      · refine lv_iconst (v := (-1)) hx hb dX5_readsForm_108 (by decide) ?_
        refine y_iast (a := (m + 5)) (f := (upd (upd (upd gt 0 (numR tx len a 1)) 1 (-1)) 2 (-1))) (i := 3) hx hb hK (hP 5 _ rfl) (by omega) (by decide) dX5_readsForm_109 (fun H5 hU hV => ?_)
        have hS := hS.upd (x := 3) hU (blk_in (by omega) (by omega))
        have hP : va_P D vwCl (mWs y m d was as tx (upd (upd (upd (upd gt 0 (numR tx len a 1)) 1 (-1)) 2 (-1)) 3 (-1)) (nI k) (nI len) (nI (a + numJ tx len a 1)) rs) H5 := hP.upd (q0 := 5) mWs_D rfl hU hV
        clear hU hV
        refine lv_aload_n hx hb dX5_readsForm_110 rfl (lv_at hl 0 rfl) ?_
        refine z_get (fs := [.ref (m + 1), .ref (m + 2), .int (nI k), .ref (m + 3), .ref (m + 4), .int (nI len), .int (nI (a + numJ tx len a 1)), .int rs, .ref (m + 5)]) (ref := "CranePermitsModel") (C := RX5) (T := TX5) (N := 9) (ci := 5) (v := .ref (m + 5)) hx hb hts i_c_X5_readsForm_no_X5 hown hK (hP 0 _ rfl) 8 (by decide) rfl (hts (.fieldLink RX5 23 "CranePermitsModel" "got" "[I") (List.mem_of_getElem? (i := 1) rfl)) rfl rfl dX5_readsForm_111 ?_
        refine lv_iconst (v := (nI 4)) hx hb dX5_readsForm_114 (by decide) ?_
        refine lv_aload_n hx hb dX5_readsForm_115 rfl (lv_at hl 0 rfl) ?_
        refine z_get (fs := [.ref (m + 1), .ref (m + 2), .int (nI k), .ref (m + 3), .ref (m + 4), .int (nI len), .int (nI (a + numJ tx len a 1)), .int rs, .ref (m + 5)]) (ref := "CranePermitsModel") (C := RX5) (T := TX5) (N := 9) (ci := 5) (v := .ref (m + 5)) hx hb hts i_c_X5_readsForm_no_X5 hown hK (hP 0 _ rfl) 8 (by decide) rfl (hts (.fieldLink RX5 23 "CranePermitsModel" "got" "[I") (List.mem_of_getElem? (i := 1) rfl)) rfl rfl dX5_readsForm_116 ?_
        refine lv_iconst (v := (nI 3)) hx hb dX5_readsForm_119 (by decide) ?_
        refine z_iald (f := (upd (upd (upd (upd gt 0 (numR tx len a 1)) 1 (-1)) 2 (-1)) 3 (-1))) hx hb hK (hP 5 _ rfl) (by omega) (by decide) dX5_readsForm_120 ?_
        refine z_topi (z := (-1)) (pk_us) ?_
        refine lv_if_lt (tgt := 141) hx hb dX5_readsForm_121 (by decide) (fun c121 => ?_) (fun c121 => ?_)
        · refine lv_iconst (v := (-1)) hx hb dX5_readsForm_141 (by decide) ?_
          refine y_iast (a := (m + 5)) (f := (upd (upd (upd (upd gt 0 (numR tx len a 1)) 1 (-1)) 2 (-1)) 3 (-1))) (i := 4) hx hb hK (hP 5 _ rfl) (by omega) (by decide) dX5_readsForm_142 (fun H6 hU hV => ?_)
          have hS := hS.upd (x := 4) hU (blk_in (by omega) (by omega))
          have hP : va_P D vwCl (mWs y m d was as tx (upd (upd (upd (upd (upd gt 0 (numR tx len a 1)) 1 (-1)) 2 (-1)) 3 (-1)) 4 (-1)) (nI k) (nI len) (nI (a + numJ tx len a 1)) rs) H6 := hP.upd (q0 := 5) mWs_D rfl hU hV
          clear hU hV
          refine lv_aload_n hx hb dX5_readsForm_143 rfl (lv_at hl 0 rfl) ?_
          refine z_get (fs := [.ref (m + 1), .ref (m + 2), .int (nI k), .ref (m + 3), .ref (m + 4), .int (nI len), .int (nI (a + numJ tx len a 1)), .int rs, .ref (m + 5)]) (ref := "CranePermitsModel") (C := RX5) (T := TX5) (N := 9) (ci := 5) (v := .ref (m + 5)) hx hb hts i_c_X5_readsForm_no_X5 hown hK (hP 0 _ rfl) 8 (by decide) rfl (hts (.fieldLink RX5 23 "CranePermitsModel" "got" "[I") (List.mem_of_getElem? (i := 1) rfl)) rfl rfl dX5_readsForm_144 ?_
          refine lv_iconst (v := (nI 4)) hx hb dX5_readsForm_147 (by decide) ?_
          refine z_iald (f := (upd (upd (upd (upd (upd gt 0 (numR tx len a 1)) 1 (-1)) 2 (-1)) 3 (-1)) 4 (-1))) hx hb hK (hP 5 _ rfl) (by omega) (by decide) dX5_readsForm_148 ?_
          refine z_topi (z := (-1)) (pk_us) ?_
          refine lv_if_lt (tgt := 165) hx hb dX5_readsForm_149 (by decide) (fun c149 => ?_) (fun c149 => ?_)
          · refine lv_iconst (v := (nI 0)) hx hb dX5_readsForm_165 (by decide) ?_
            exact w_retz hx hb hr hlocks hS (⟨_, _, hP⟩) (bI_ff (rfl)) dX5_readsForm_166
          · exact absurd (by decide) c149
        · exact absurd (by decide) c121
      · exact absurd (by decide) c88
    · exact absurd (by decide) c55
  · have hP : va_P D vwCl (mWs y m d was as tx (upd gt 0 (numR tx len a 1)) (nI k) (nI len) (nI (A1 tx len a)) rs) H2 := hP
    refine lv_aload_n hx hb dX5_readsForm_25 rfl (lv_at hl 0 rfl) ?_
    refine lv_bipush (v := (nI 110)) hx hb dX5_readsForm_26 (by decide) ?_
    refine w_callV (As := [.int (nI 110)]) (rest := [.int (nI 1), .ref (m + 5)]) hF hK (c_X5_passes l D y m d was as tx (upd gt 0 (numR tx len a 1)) k rs len (A1 tx len a) (nI 110) (by omega) (num_end_le ha)) (cwV 1 hts gX5_readsForm_X5_passes rfl rfl rfl (by decide +kernel) ⟨Nat.le_of_ble_eq_true rfl, Nat.le_of_ble_eq_true rfl⟩) (z_recv (q := (RX5, TX5, 9)) hK (hP 0 _ rfl) rfl) hP hS (fun q h => h) rfl hl.1 rfl (Nat.le_of_ble_eq_true rfl) dX5_readsForm_28 ⟨Nat.zero_le _, Nat.zero_le _⟩ (fun H7 locs1 hP hz hk hS => ?_)
    have hP : va_P D vwCl (mWs y m d was as tx (upd gt 0 (numR tx len a 1)) (nI k) (nI len) (nI (atP tx len (A1 tx len a) (nI 110))) rs) H7 := hP
    clear hz hk
    refine z_ifeq (tgt := 42) hx hb dX5_readsForm_31 (by decide) (fun c31 => ?_) (fun c31 => ?_)
    · refine lv_iconst (v := (-1)) hx hb dX5_readsForm_42 (by decide) ?_
      refine y_iast (a := (m + 5)) (f := (upd gt 0 (numR tx len a 1))) (i := 1) hx hb hK (hP 5 _ rfl) (by omega) (by decide) dX5_readsForm_43 (fun H8 hU hV => ?_)
      have hS := hS.upd (x := 1) hU (blk_in (by omega) (by omega))
      have hP : va_P D vwCl (mWs y m d was as tx (upd (upd gt 0 (numR tx len a 1)) 1 (-1)) (nI k) (nI len) (nI (atP tx len (A1 tx len a) (nI 110))) rs) H8 := hP.upd (q0 := 5) mWs_D rfl hU hV
      clear hU hV
      refine lv_aload_n hx hb dX5_readsForm_44 rfl (lv_at hl 0 rfl) ?_
      refine z_get (fs := [.ref (m + 1), .ref (m + 2), .int (nI k), .ref (m + 3), .ref (m + 4), .int (nI len), .int (nI (atP tx len (A1 tx len a) (nI 110))), .int rs, .ref (m + 5)]) (ref := "CranePermitsModel") (C := RX5) (T := TX5) (N := 9) (ci := 5) (v := .ref (m + 5)) hx hb hts i_c_X5_readsForm_no_X5 hown hK (hP 0 _ rfl) 8 (by decide) rfl (hts (.fieldLink RX5 23 "CranePermitsModel" "got" "[I") (List.mem_of_getElem? (i := 1) rfl)) rfl rfl dX5_readsForm_45 ?_
      refine lv_iconst (v := (nI 2)) hx hb dX5_readsForm_48 (by decide) ?_
      refine lv_aload_n hx hb dX5_readsForm_49 rfl (lv_at hl 0 rfl) ?_
      refine z_get (fs := [.ref (m + 1), .ref (m + 2), .int (nI k), .ref (m + 3), .ref (m + 4), .int (nI len), .int (nI (atP tx len (A1 tx len a) (nI 110))), .int rs, .ref (m + 5)]) (ref := "CranePermitsModel") (C := RX5) (T := TX5) (N := 9) (ci := 5) (v := .ref (m + 5)) hx hb hts i_c_X5_readsForm_no_X5 hown hK (hP 0 _ rfl) 8 (by decide) rfl (hts (.fieldLink RX5 23 "CranePermitsModel" "got" "[I") (List.mem_of_getElem? (i := 1) rfl)) rfl rfl dX5_readsForm_50 ?_
      refine lv_iconst (v := (nI 1)) hx hb dX5_readsForm_53 (by decide) ?_
      refine z_iald (f := (upd (upd gt 0 (numR tx len a 1)) 1 (-1))) hx hb hK (hP 5 _ rfl) (by omega) (by decide) dX5_readsForm_54 ?_
      refine z_topi (z := (-1)) (pk_us) ?_
      refine lv_if_lt (tgt := 75) hx hb dX5_readsForm_55 (by decide) (fun c55 => ?_) (fun c55 => ?_)
      · refine lv_iconst (v := (-1)) hx hb dX5_readsForm_75 (by decide) ?_
        refine y_iast (a := (m + 5)) (f := (upd (upd gt 0 (numR tx len a 1)) 1 (-1))) (i := 2) hx hb hK (hP 5 _ rfl) (by omega) (by decide) dX5_readsForm_76 (fun H9 hU hV => ?_)
        have hS := hS.upd (x := 2) hU (blk_in (by omega) (by omega))
        have hP : va_P D vwCl (mWs y m d was as tx (upd (upd (upd gt 0 (numR tx len a 1)) 1 (-1)) 2 (-1)) (nI k) (nI len) (nI (atP tx len (A1 tx len a) (nI 110))) rs) H9 := hP.upd (q0 := 5) mWs_D rfl hU hV
        clear hU hV
        refine lv_aload_n hx hb dX5_readsForm_77 rfl (lv_at hl 0 rfl) ?_
        refine z_get (fs := [.ref (m + 1), .ref (m + 2), .int (nI k), .ref (m + 3), .ref (m + 4), .int (nI len), .int (nI (atP tx len (A1 tx len a) (nI 110))), .int rs, .ref (m + 5)]) (ref := "CranePermitsModel") (C := RX5) (T := TX5) (N := 9) (ci := 5) (v := .ref (m + 5)) hx hb hts i_c_X5_readsForm_no_X5 hown hK (hP 0 _ rfl) 8 (by decide) rfl (hts (.fieldLink RX5 23 "CranePermitsModel" "got" "[I") (List.mem_of_getElem? (i := 1) rfl)) rfl rfl dX5_readsForm_78 ?_
        refine lv_iconst (v := (nI 3)) hx hb dX5_readsForm_81 (by decide) ?_
        refine lv_aload_n hx hb dX5_readsForm_82 rfl (lv_at hl 0 rfl) ?_
        refine z_get (fs := [.ref (m + 1), .ref (m + 2), .int (nI k), .ref (m + 3), .ref (m + 4), .int (nI len), .int (nI (atP tx len (A1 tx len a) (nI 110))), .int rs, .ref (m + 5)]) (ref := "CranePermitsModel") (C := RX5) (T := TX5) (N := 9) (ci := 5) (v := .ref (m + 5)) hx hb hts i_c_X5_readsForm_no_X5 hown hK (hP 0 _ rfl) 8 (by decide) rfl (hts (.fieldLink RX5 23 "CranePermitsModel" "got" "[I") (List.mem_of_getElem? (i := 1) rfl)) rfl rfl dX5_readsForm_83 ?_
        refine lv_iconst (v := (nI 2)) hx hb dX5_readsForm_86 (by decide) ?_
        refine z_iald (f := (upd (upd (upd gt 0 (numR tx len a 1)) 1 (-1)) 2 (-1))) hx hb hK (hP 5 _ rfl) (by omega) (by decide) dX5_readsForm_87 ?_
        refine z_topi (z := (-1)) (pk_us) ?_
        refine lv_if_lt (tgt := 108) hx hb dX5_readsForm_88 (by decide) (fun c88 => ?_) (fun c88 => ?_)
        · refine lv_iconst (v := (-1)) hx hb dX5_readsForm_108 (by decide) ?_
          refine y_iast (a := (m + 5)) (f := (upd (upd (upd gt 0 (numR tx len a 1)) 1 (-1)) 2 (-1))) (i := 3) hx hb hK (hP 5 _ rfl) (by omega) (by decide) dX5_readsForm_109 (fun H10 hU hV => ?_)
          have hS := hS.upd (x := 3) hU (blk_in (by omega) (by omega))
          have hP : va_P D vwCl (mWs y m d was as tx (upd (upd (upd (upd gt 0 (numR tx len a 1)) 1 (-1)) 2 (-1)) 3 (-1)) (nI k) (nI len) (nI (atP tx len (A1 tx len a) (nI 110))) rs) H10 := hP.upd (q0 := 5) mWs_D rfl hU hV
          clear hU hV
          refine lv_aload_n hx hb dX5_readsForm_110 rfl (lv_at hl 0 rfl) ?_
          refine z_get (fs := [.ref (m + 1), .ref (m + 2), .int (nI k), .ref (m + 3), .ref (m + 4), .int (nI len), .int (nI (atP tx len (A1 tx len a) (nI 110))), .int rs, .ref (m + 5)]) (ref := "CranePermitsModel") (C := RX5) (T := TX5) (N := 9) (ci := 5) (v := .ref (m + 5)) hx hb hts i_c_X5_readsForm_no_X5 hown hK (hP 0 _ rfl) 8 (by decide) rfl (hts (.fieldLink RX5 23 "CranePermitsModel" "got" "[I") (List.mem_of_getElem? (i := 1) rfl)) rfl rfl dX5_readsForm_111 ?_
          refine lv_iconst (v := (nI 4)) hx hb dX5_readsForm_114 (by decide) ?_
          refine lv_aload_n hx hb dX5_readsForm_115 rfl (lv_at hl 0 rfl) ?_
          refine z_get (fs := [.ref (m + 1), .ref (m + 2), .int (nI k), .ref (m + 3), .ref (m + 4), .int (nI len), .int (nI (atP tx len (A1 tx len a) (nI 110))), .int rs, .ref (m + 5)]) (ref := "CranePermitsModel") (C := RX5) (T := TX5) (N := 9) (ci := 5) (v := .ref (m + 5)) hx hb hts i_c_X5_readsForm_no_X5 hown hK (hP 0 _ rfl) 8 (by decide) rfl (hts (.fieldLink RX5 23 "CranePermitsModel" "got" "[I") (List.mem_of_getElem? (i := 1) rfl)) rfl rfl dX5_readsForm_116 ?_
          refine lv_iconst (v := (nI 3)) hx hb dX5_readsForm_119 (by decide) ?_
          refine z_iald (f := (upd (upd (upd (upd gt 0 (numR tx len a 1)) 1 (-1)) 2 (-1)) 3 (-1))) hx hb hK (hP 5 _ rfl) (by omega) (by decide) dX5_readsForm_120 ?_
          refine z_topi (z := (-1)) (pk_us) ?_
          refine lv_if_lt (tgt := 141) hx hb dX5_readsForm_121 (by decide) (fun c121 => ?_) (fun c121 => ?_)
          · refine lv_iconst (v := (-1)) hx hb dX5_readsForm_141 (by decide) ?_
            refine y_iast (a := (m + 5)) (f := (upd (upd (upd (upd gt 0 (numR tx len a 1)) 1 (-1)) 2 (-1)) 3 (-1))) (i := 4) hx hb hK (hP 5 _ rfl) (by omega) (by decide) dX5_readsForm_142 (fun H11 hU hV => ?_)
            have hS := hS.upd (x := 4) hU (blk_in (by omega) (by omega))
            have hP : va_P D vwCl (mWs y m d was as tx (upd (upd (upd (upd (upd gt 0 (numR tx len a 1)) 1 (-1)) 2 (-1)) 3 (-1)) 4 (-1)) (nI k) (nI len) (nI (atP tx len (A1 tx len a) (nI 110))) rs) H11 := hP.upd (q0 := 5) mWs_D rfl hU hV
            clear hU hV
            refine lv_aload_n hx hb dX5_readsForm_143 rfl (lv_at hl 0 rfl) ?_
            refine z_get (fs := [.ref (m + 1), .ref (m + 2), .int (nI k), .ref (m + 3), .ref (m + 4), .int (nI len), .int (nI (atP tx len (A1 tx len a) (nI 110))), .int rs, .ref (m + 5)]) (ref := "CranePermitsModel") (C := RX5) (T := TX5) (N := 9) (ci := 5) (v := .ref (m + 5)) hx hb hts i_c_X5_readsForm_no_X5 hown hK (hP 0 _ rfl) 8 (by decide) rfl (hts (.fieldLink RX5 23 "CranePermitsModel" "got" "[I") (List.mem_of_getElem? (i := 1) rfl)) rfl rfl dX5_readsForm_144 ?_
            refine lv_iconst (v := (nI 4)) hx hb dX5_readsForm_147 (by decide) ?_
            refine z_iald (f := (upd (upd (upd (upd (upd gt 0 (numR tx len a 1)) 1 (-1)) 2 (-1)) 3 (-1)) 4 (-1))) hx hb hK (hP 5 _ rfl) (by omega) (by decide) dX5_readsForm_148 ?_
            refine z_topi (z := (-1)) (pk_us) ?_
            refine lv_if_lt (tgt := 165) hx hb dX5_readsForm_149 (by decide) (fun c149 => ?_) (fun c149 => ?_)
            · refine lv_iconst (v := (nI 0)) hx hb dX5_readsForm_165 (by decide) ?_
              exact w_retz hx hb hr hlocks hS (⟨_, _, hP⟩) (bI_ff (rfl)) dX5_readsForm_166
            · exact absurd (by decide) c149
          · exact absurd (by decide) c121
        · exact absurd (by decide) c88
      · exact absurd (by decide) c55
    · have hP : va_P D vwCl (mWs y m d was as tx (upd gt 0 (numR tx len a 1)) (nI k) (nI len) (nI (A1 tx len a + 1)) rs) H7 := by
        have e9 : atP tx len (A1 tx len a) (nI 110) = A1 tx len a + 1 := if_pos c31
        have hP9 : va_P D vwCl (mWs y m d was as tx (upd gt 0 (numR tx len a 1)) (nI k) (nI len) (nI (atP tx len (A1 tx len a) (nI 110))) rs) H7 := hP
        rw [e9] at hP9
        exact hP9
      refine lv_aload_n hx hb dX5_readsForm_34 rfl (lv_at hl 0 rfl) ?_
      refine lv_iconst (v := (nI 2)) hx hb dX5_readsForm_35 (by decide) ?_
      refine w_callV (As := [.int (nI 2)]) (rest := [.int (nI 1), .ref (m + 5)]) hF hK (c_X5_number l D y m d was as tx (upd gt 0 (numR tx len a 1)) k rs len (A1 tx len a + 1) 2 (by omega) (pas_lt c31) (by omega)) (cwV 1 hts gX5_readsForm_X5_number rfl rfl rfl (by decide +kernel) ⟨Nat.le_of_ble_eq_true rfl, Nat.le_of_ble_eq_true rfl⟩) (z_recv (q := (RX5, TX5, 9)) hK (hP 0 _ rfl) rfl) hP hS (fun q h => h) rfl hl.1 rfl (Nat.le_of_ble_eq_true rfl) dX5_readsForm_36 ⟨Nat.zero_le _, Nat.zero_le _⟩ (fun H12 locs1 hP hz hk hS => ?_)
      have hP : va_P D vwCl (mWs y m d was as tx (upd gt 0 (numR tx len a 1)) (nI k) (nI len) (nI ((A1 tx len a + 1) + numJ tx len (A1 tx len a + 1) 2)) rs) H12 := hP
      clear hz hk
      refine lv_goto (tgt := 43) hx hb dX5_readsForm_39 (by decide) ?_
      refine y_iast (a := (m + 5)) (f := (upd gt 0 (numR tx len a 1))) (i := 1) hx hb hK (hP 5 _ rfl) (by omega) (by decide) dX5_readsForm_43 (fun H13 hU hV => ?_)
      have hS := hS.upd (x := 1) hU (blk_in (by omega) (by omega))
      have hP : va_P D vwCl (mWs y m d was as tx (upd (upd gt 0 (numR tx len a 1)) 1 (numR tx len (A1 tx len a + 1) 2)) (nI k) (nI len) (nI ((A1 tx len a + 1) + numJ tx len (A1 tx len a + 1) 2)) rs) H13 := hP.upd (q0 := 5) mWs_D rfl hU hV
      clear hU hV
      refine lv_aload_n hx hb dX5_readsForm_44 rfl (lv_at hl 0 rfl) ?_
      refine z_get (fs := [.ref (m + 1), .ref (m + 2), .int (nI k), .ref (m + 3), .ref (m + 4), .int (nI len), .int (nI ((A1 tx len a + 1) + numJ tx len (A1 tx len a + 1) 2)), .int rs, .ref (m + 5)]) (ref := "CranePermitsModel") (C := RX5) (T := TX5) (N := 9) (ci := 5) (v := .ref (m + 5)) hx hb hts i_c_X5_readsForm_no_X5 hown hK (hP 0 _ rfl) 8 (by decide) rfl (hts (.fieldLink RX5 23 "CranePermitsModel" "got" "[I") (List.mem_of_getElem? (i := 1) rfl)) rfl rfl dX5_readsForm_45 ?_
      refine lv_iconst (v := (nI 2)) hx hb dX5_readsForm_48 (by decide) ?_
      refine lv_aload_n hx hb dX5_readsForm_49 rfl (lv_at hl 0 rfl) ?_
      refine z_get (fs := [.ref (m + 1), .ref (m + 2), .int (nI k), .ref (m + 3), .ref (m + 4), .int (nI len), .int (nI ((A1 tx len a + 1) + numJ tx len (A1 tx len a + 1) 2)), .int rs, .ref (m + 5)]) (ref := "CranePermitsModel") (C := RX5) (T := TX5) (N := 9) (ci := 5) (v := .ref (m + 5)) hx hb hts i_c_X5_readsForm_no_X5 hown hK (hP 0 _ rfl) 8 (by decide) rfl (hts (.fieldLink RX5 23 "CranePermitsModel" "got" "[I") (List.mem_of_getElem? (i := 1) rfl)) rfl rfl dX5_readsForm_50 ?_
      refine lv_iconst (v := (nI 1)) hx hb dX5_readsForm_53 (by decide) ?_
      refine z_iald (f := (upd (upd gt 0 (numR tx len a 1)) 1 (numR tx len (A1 tx len a + 1) 2))) hx hb hK (hP 5 _ rfl) (by omega) (by decide) dX5_readsForm_54 ?_
      refine z_topi (z := V1 tx len a) (pk_us) ?_
      refine lv_if_lt (tgt := 75) hx hb dX5_readsForm_55 (by decide) (fun c55 => ?_) (fun c55 => ?_)
      · refine lv_iconst (v := (-1)) hx hb dX5_readsForm_75 (by decide) ?_
        refine y_iast (a := (m + 5)) (f := (upd (upd gt 0 (numR tx len a 1)) 1 (numR tx len (A1 tx len a + 1) 2))) (i := 2) hx hb hK (hP 5 _ rfl) (by omega) (by decide) dX5_readsForm_76 (fun H14 hU hV => ?_)
        have hS := hS.upd (x := 2) hU (blk_in (by omega) (by omega))
        have hP : va_P D vwCl (mWs y m d was as tx (upd (upd (upd gt 0 (numR tx len a 1)) 1 (numR tx len (A1 tx len a + 1) 2)) 2 (-1)) (nI k) (nI len) (nI ((A1 tx len a + 1) + numJ tx len (A1 tx len a + 1) 2)) rs) H14 := hP.upd (q0 := 5) mWs_D rfl hU hV
        clear hU hV
        refine lv_aload_n hx hb dX5_readsForm_77 rfl (lv_at hl 0 rfl) ?_
        refine z_get (fs := [.ref (m + 1), .ref (m + 2), .int (nI k), .ref (m + 3), .ref (m + 4), .int (nI len), .int (nI ((A1 tx len a + 1) + numJ tx len (A1 tx len a + 1) 2)), .int rs, .ref (m + 5)]) (ref := "CranePermitsModel") (C := RX5) (T := TX5) (N := 9) (ci := 5) (v := .ref (m + 5)) hx hb hts i_c_X5_readsForm_no_X5 hown hK (hP 0 _ rfl) 8 (by decide) rfl (hts (.fieldLink RX5 23 "CranePermitsModel" "got" "[I") (List.mem_of_getElem? (i := 1) rfl)) rfl rfl dX5_readsForm_78 ?_
        refine lv_iconst (v := (nI 3)) hx hb dX5_readsForm_81 (by decide) ?_
        refine lv_aload_n hx hb dX5_readsForm_82 rfl (lv_at hl 0 rfl) ?_
        refine z_get (fs := [.ref (m + 1), .ref (m + 2), .int (nI k), .ref (m + 3), .ref (m + 4), .int (nI len), .int (nI ((A1 tx len a + 1) + numJ tx len (A1 tx len a + 1) 2)), .int rs, .ref (m + 5)]) (ref := "CranePermitsModel") (C := RX5) (T := TX5) (N := 9) (ci := 5) (v := .ref (m + 5)) hx hb hts i_c_X5_readsForm_no_X5 hown hK (hP 0 _ rfl) 8 (by decide) rfl (hts (.fieldLink RX5 23 "CranePermitsModel" "got" "[I") (List.mem_of_getElem? (i := 1) rfl)) rfl rfl dX5_readsForm_83 ?_
        refine lv_iconst (v := (nI 2)) hx hb dX5_readsForm_86 (by decide) ?_
        refine z_iald (f := (upd (upd (upd gt 0 (numR tx len a 1)) 1 (numR tx len (A1 tx len a + 1) 2)) 2 (-1))) hx hb hK (hP 5 _ rfl) (by omega) (by decide) dX5_readsForm_87 ?_
        refine z_topi (z := (-1)) (pk_us) ?_
        refine lv_if_lt (tgt := 108) hx hb dX5_readsForm_88 (by decide) (fun c88 => ?_) (fun c88 => ?_)
        · refine lv_iconst (v := (-1)) hx hb dX5_readsForm_108 (by decide) ?_
          refine y_iast (a := (m + 5)) (f := (upd (upd (upd gt 0 (numR tx len a 1)) 1 (numR tx len (A1 tx len a + 1) 2)) 2 (-1))) (i := 3) hx hb hK (hP 5 _ rfl) (by omega) (by decide) dX5_readsForm_109 (fun H15 hU hV => ?_)
          have hS := hS.upd (x := 3) hU (blk_in (by omega) (by omega))
          have hP : va_P D vwCl (mWs y m d was as tx (upd (upd (upd (upd gt 0 (numR tx len a 1)) 1 (numR tx len (A1 tx len a + 1) 2)) 2 (-1)) 3 (-1)) (nI k) (nI len) (nI ((A1 tx len a + 1) + numJ tx len (A1 tx len a + 1) 2)) rs) H15 := hP.upd (q0 := 5) mWs_D rfl hU hV
          clear hU hV
          refine lv_aload_n hx hb dX5_readsForm_110 rfl (lv_at hl 0 rfl) ?_
          refine z_get (fs := [.ref (m + 1), .ref (m + 2), .int (nI k), .ref (m + 3), .ref (m + 4), .int (nI len), .int (nI ((A1 tx len a + 1) + numJ tx len (A1 tx len a + 1) 2)), .int rs, .ref (m + 5)]) (ref := "CranePermitsModel") (C := RX5) (T := TX5) (N := 9) (ci := 5) (v := .ref (m + 5)) hx hb hts i_c_X5_readsForm_no_X5 hown hK (hP 0 _ rfl) 8 (by decide) rfl (hts (.fieldLink RX5 23 "CranePermitsModel" "got" "[I") (List.mem_of_getElem? (i := 1) rfl)) rfl rfl dX5_readsForm_111 ?_
          refine lv_iconst (v := (nI 4)) hx hb dX5_readsForm_114 (by decide) ?_
          refine lv_aload_n hx hb dX5_readsForm_115 rfl (lv_at hl 0 rfl) ?_
          refine z_get (fs := [.ref (m + 1), .ref (m + 2), .int (nI k), .ref (m + 3), .ref (m + 4), .int (nI len), .int (nI ((A1 tx len a + 1) + numJ tx len (A1 tx len a + 1) 2)), .int rs, .ref (m + 5)]) (ref := "CranePermitsModel") (C := RX5) (T := TX5) (N := 9) (ci := 5) (v := .ref (m + 5)) hx hb hts i_c_X5_readsForm_no_X5 hown hK (hP 0 _ rfl) 8 (by decide) rfl (hts (.fieldLink RX5 23 "CranePermitsModel" "got" "[I") (List.mem_of_getElem? (i := 1) rfl)) rfl rfl dX5_readsForm_116 ?_
          refine lv_iconst (v := (nI 3)) hx hb dX5_readsForm_119 (by decide) ?_
          refine z_iald (f := (upd (upd (upd (upd gt 0 (numR tx len a 1)) 1 (numR tx len (A1 tx len a + 1) 2)) 2 (-1)) 3 (-1))) hx hb hK (hP 5 _ rfl) (by omega) (by decide) dX5_readsForm_120 ?_
          refine z_topi (z := (-1)) (pk_us) ?_
          refine lv_if_lt (tgt := 141) hx hb dX5_readsForm_121 (by decide) (fun c121 => ?_) (fun c121 => ?_)
          · refine lv_iconst (v := (-1)) hx hb dX5_readsForm_141 (by decide) ?_
            refine y_iast (a := (m + 5)) (f := (upd (upd (upd (upd gt 0 (numR tx len a 1)) 1 (numR tx len (A1 tx len a + 1) 2)) 2 (-1)) 3 (-1))) (i := 4) hx hb hK (hP 5 _ rfl) (by omega) (by decide) dX5_readsForm_142 (fun H16 hU hV => ?_)
            have hS := hS.upd (x := 4) hU (blk_in (by omega) (by omega))
            have hP : va_P D vwCl (mWs y m d was as tx (upd (upd (upd (upd (upd gt 0 (numR tx len a 1)) 1 (numR tx len (A1 tx len a + 1) 2)) 2 (-1)) 3 (-1)) 4 (-1)) (nI k) (nI len) (nI ((A1 tx len a + 1) + numJ tx len (A1 tx len a + 1) 2)) rs) H16 := hP.upd (q0 := 5) mWs_D rfl hU hV
            clear hU hV
            refine lv_aload_n hx hb dX5_readsForm_143 rfl (lv_at hl 0 rfl) ?_
            refine z_get (fs := [.ref (m + 1), .ref (m + 2), .int (nI k), .ref (m + 3), .ref (m + 4), .int (nI len), .int (nI ((A1 tx len a + 1) + numJ tx len (A1 tx len a + 1) 2)), .int rs, .ref (m + 5)]) (ref := "CranePermitsModel") (C := RX5) (T := TX5) (N := 9) (ci := 5) (v := .ref (m + 5)) hx hb hts i_c_X5_readsForm_no_X5 hown hK (hP 0 _ rfl) 8 (by decide) rfl (hts (.fieldLink RX5 23 "CranePermitsModel" "got" "[I") (List.mem_of_getElem? (i := 1) rfl)) rfl rfl dX5_readsForm_144 ?_
            refine lv_iconst (v := (nI 4)) hx hb dX5_readsForm_147 (by decide) ?_
            refine z_iald (f := (upd (upd (upd (upd (upd gt 0 (numR tx len a 1)) 1 (numR tx len (A1 tx len a + 1) 2)) 2 (-1)) 3 (-1)) 4 (-1))) hx hb hK (hP 5 _ rfl) (by omega) (by decide) dX5_readsForm_148 ?_
            refine z_topi (z := (-1)) (pk_us) ?_
            refine lv_if_lt (tgt := 165) hx hb dX5_readsForm_149 (by decide) (fun c149 => ?_) (fun c149 => ?_)
            · refine lv_iconst (v := (nI 0)) hx hb dX5_readsForm_165 (by decide) ?_
              exact w_retz hx hb hr hlocks hS (⟨_, _, hP⟩) (bI_ff (rfl)) dX5_readsForm_166
            · exact absurd (by decide) c149
          · exact absurd (by decide) c121
        · exact absurd (by decide) c88
      · have hP : va_P D vwCl (mWs y m d was as tx (upd (upd gt 0 (numR tx len a 1)) 1 (numR tx len (A1 tx len a + 1) 2)) (nI k) (nI len) (nI (A2 tx len a)) rs) H13 := hP
        refine lv_aload_n hx hb dX5_readsForm_58 rfl (lv_at hl 0 rfl) ?_
        refine lv_bipush (v := (nI 104)) hx hb dX5_readsForm_59 (by decide) ?_
        refine w_callV (As := [.int (nI 104)]) (rest := [.int (nI 2), .ref (m + 5)]) hF hK (c_X5_passes l D y m d was as tx (upd (upd gt 0 (numR tx len a 1)) 1 (numR tx len (A1 tx len a + 1) 2)) k rs len (A2 tx len a) (nI 104) (by omega) (num_end_le (pas_lt c31))) (cwV 1 hts gX5_readsForm_X5_passes rfl rfl rfl (by decide +kernel) ⟨Nat.le_of_ble_eq_true rfl, Nat.le_of_ble_eq_true rfl⟩) (z_recv (q := (RX5, TX5, 9)) hK (hP 0 _ rfl) rfl) hP hS (fun q h => h) rfl hl.1 rfl (Nat.le_of_ble_eq_true rfl) dX5_readsForm_61 ⟨Nat.zero_le _, Nat.zero_le _⟩ (fun H17 locs1 hP hz hk hS => ?_)
        have hP : va_P D vwCl (mWs y m d was as tx (upd (upd gt 0 (numR tx len a 1)) 1 (numR tx len (A1 tx len a + 1) 2)) (nI k) (nI len) (nI (atP tx len (A2 tx len a) (nI 104))) rs) H17 := hP
        clear hz hk
        refine z_ifeq (tgt := 75) hx hb dX5_readsForm_64 (by decide) (fun c64 => ?_) (fun c64 => ?_)
        · refine lv_iconst (v := (-1)) hx hb dX5_readsForm_75 (by decide) ?_
          refine y_iast (a := (m + 5)) (f := (upd (upd gt 0 (numR tx len a 1)) 1 (numR tx len (A1 tx len a + 1) 2))) (i := 2) hx hb hK (hP 5 _ rfl) (by omega) (by decide) dX5_readsForm_76 (fun H18 hU hV => ?_)
          have hS := hS.upd (x := 2) hU (blk_in (by omega) (by omega))
          have hP : va_P D vwCl (mWs y m d was as tx (upd (upd (upd gt 0 (numR tx len a 1)) 1 (numR tx len (A1 tx len a + 1) 2)) 2 (-1)) (nI k) (nI len) (nI (atP tx len (A2 tx len a) (nI 104))) rs) H18 := hP.upd (q0 := 5) mWs_D rfl hU hV
          clear hU hV
          refine lv_aload_n hx hb dX5_readsForm_77 rfl (lv_at hl 0 rfl) ?_
          refine z_get (fs := [.ref (m + 1), .ref (m + 2), .int (nI k), .ref (m + 3), .ref (m + 4), .int (nI len), .int (nI (atP tx len (A2 tx len a) (nI 104))), .int rs, .ref (m + 5)]) (ref := "CranePermitsModel") (C := RX5) (T := TX5) (N := 9) (ci := 5) (v := .ref (m + 5)) hx hb hts i_c_X5_readsForm_no_X5 hown hK (hP 0 _ rfl) 8 (by decide) rfl (hts (.fieldLink RX5 23 "CranePermitsModel" "got" "[I") (List.mem_of_getElem? (i := 1) rfl)) rfl rfl dX5_readsForm_78 ?_
          refine lv_iconst (v := (nI 3)) hx hb dX5_readsForm_81 (by decide) ?_
          refine lv_aload_n hx hb dX5_readsForm_82 rfl (lv_at hl 0 rfl) ?_
          refine z_get (fs := [.ref (m + 1), .ref (m + 2), .int (nI k), .ref (m + 3), .ref (m + 4), .int (nI len), .int (nI (atP tx len (A2 tx len a) (nI 104))), .int rs, .ref (m + 5)]) (ref := "CranePermitsModel") (C := RX5) (T := TX5) (N := 9) (ci := 5) (v := .ref (m + 5)) hx hb hts i_c_X5_readsForm_no_X5 hown hK (hP 0 _ rfl) 8 (by decide) rfl (hts (.fieldLink RX5 23 "CranePermitsModel" "got" "[I") (List.mem_of_getElem? (i := 1) rfl)) rfl rfl dX5_readsForm_83 ?_
          refine lv_iconst (v := (nI 2)) hx hb dX5_readsForm_86 (by decide) ?_
          refine z_iald (f := (upd (upd (upd gt 0 (numR tx len a 1)) 1 (numR tx len (A1 tx len a + 1) 2)) 2 (-1))) hx hb hK (hP 5 _ rfl) (by omega) (by decide) dX5_readsForm_87 ?_
          refine z_topi (z := (-1)) (pk_us) ?_
          refine lv_if_lt (tgt := 108) hx hb dX5_readsForm_88 (by decide) (fun c88 => ?_) (fun c88 => ?_)
          · refine lv_iconst (v := (-1)) hx hb dX5_readsForm_108 (by decide) ?_
            refine y_iast (a := (m + 5)) (f := (upd (upd (upd gt 0 (numR tx len a 1)) 1 (numR tx len (A1 tx len a + 1) 2)) 2 (-1))) (i := 3) hx hb hK (hP 5 _ rfl) (by omega) (by decide) dX5_readsForm_109 (fun H19 hU hV => ?_)
            have hS := hS.upd (x := 3) hU (blk_in (by omega) (by omega))
            have hP : va_P D vwCl (mWs y m d was as tx (upd (upd (upd (upd gt 0 (numR tx len a 1)) 1 (numR tx len (A1 tx len a + 1) 2)) 2 (-1)) 3 (-1)) (nI k) (nI len) (nI (atP tx len (A2 tx len a) (nI 104))) rs) H19 := hP.upd (q0 := 5) mWs_D rfl hU hV
            clear hU hV
            refine lv_aload_n hx hb dX5_readsForm_110 rfl (lv_at hl 0 rfl) ?_
            refine z_get (fs := [.ref (m + 1), .ref (m + 2), .int (nI k), .ref (m + 3), .ref (m + 4), .int (nI len), .int (nI (atP tx len (A2 tx len a) (nI 104))), .int rs, .ref (m + 5)]) (ref := "CranePermitsModel") (C := RX5) (T := TX5) (N := 9) (ci := 5) (v := .ref (m + 5)) hx hb hts i_c_X5_readsForm_no_X5 hown hK (hP 0 _ rfl) 8 (by decide) rfl (hts (.fieldLink RX5 23 "CranePermitsModel" "got" "[I") (List.mem_of_getElem? (i := 1) rfl)) rfl rfl dX5_readsForm_111 ?_
            refine lv_iconst (v := (nI 4)) hx hb dX5_readsForm_114 (by decide) ?_
            refine lv_aload_n hx hb dX5_readsForm_115 rfl (lv_at hl 0 rfl) ?_
            refine z_get (fs := [.ref (m + 1), .ref (m + 2), .int (nI k), .ref (m + 3), .ref (m + 4), .int (nI len), .int (nI (atP tx len (A2 tx len a) (nI 104))), .int rs, .ref (m + 5)]) (ref := "CranePermitsModel") (C := RX5) (T := TX5) (N := 9) (ci := 5) (v := .ref (m + 5)) hx hb hts i_c_X5_readsForm_no_X5 hown hK (hP 0 _ rfl) 8 (by decide) rfl (hts (.fieldLink RX5 23 "CranePermitsModel" "got" "[I") (List.mem_of_getElem? (i := 1) rfl)) rfl rfl dX5_readsForm_116 ?_
            refine lv_iconst (v := (nI 3)) hx hb dX5_readsForm_119 (by decide) ?_
            refine z_iald (f := (upd (upd (upd (upd gt 0 (numR tx len a 1)) 1 (numR tx len (A1 tx len a + 1) 2)) 2 (-1)) 3 (-1))) hx hb hK (hP 5 _ rfl) (by omega) (by decide) dX5_readsForm_120 ?_
            refine z_topi (z := (-1)) (pk_us) ?_
            refine lv_if_lt (tgt := 141) hx hb dX5_readsForm_121 (by decide) (fun c121 => ?_) (fun c121 => ?_)
            · refine lv_iconst (v := (-1)) hx hb dX5_readsForm_141 (by decide) ?_
              refine y_iast (a := (m + 5)) (f := (upd (upd (upd (upd gt 0 (numR tx len a 1)) 1 (numR tx len (A1 tx len a + 1) 2)) 2 (-1)) 3 (-1))) (i := 4) hx hb hK (hP 5 _ rfl) (by omega) (by decide) dX5_readsForm_142 (fun H20 hU hV => ?_)
              have hS := hS.upd (x := 4) hU (blk_in (by omega) (by omega))
              have hP : va_P D vwCl (mWs y m d was as tx (upd (upd (upd (upd (upd gt 0 (numR tx len a 1)) 1 (numR tx len (A1 tx len a + 1) 2)) 2 (-1)) 3 (-1)) 4 (-1)) (nI k) (nI len) (nI (atP tx len (A2 tx len a) (nI 104))) rs) H20 := hP.upd (q0 := 5) mWs_D rfl hU hV
              clear hU hV
              refine lv_aload_n hx hb dX5_readsForm_143 rfl (lv_at hl 0 rfl) ?_
              refine z_get (fs := [.ref (m + 1), .ref (m + 2), .int (nI k), .ref (m + 3), .ref (m + 4), .int (nI len), .int (nI (atP tx len (A2 tx len a) (nI 104))), .int rs, .ref (m + 5)]) (ref := "CranePermitsModel") (C := RX5) (T := TX5) (N := 9) (ci := 5) (v := .ref (m + 5)) hx hb hts i_c_X5_readsForm_no_X5 hown hK (hP 0 _ rfl) 8 (by decide) rfl (hts (.fieldLink RX5 23 "CranePermitsModel" "got" "[I") (List.mem_of_getElem? (i := 1) rfl)) rfl rfl dX5_readsForm_144 ?_
              refine lv_iconst (v := (nI 4)) hx hb dX5_readsForm_147 (by decide) ?_
              refine z_iald (f := (upd (upd (upd (upd (upd gt 0 (numR tx len a 1)) 1 (numR tx len (A1 tx len a + 1) 2)) 2 (-1)) 3 (-1)) 4 (-1))) hx hb hK (hP 5 _ rfl) (by omega) (by decide) dX5_readsForm_148 ?_
              refine z_topi (z := (-1)) (pk_us) ?_
              refine lv_if_lt (tgt := 165) hx hb dX5_readsForm_149 (by decide) (fun c149 => ?_) (fun c149 => ?_)
              · refine lv_iconst (v := (nI 0)) hx hb dX5_readsForm_165 (by decide) ?_
                exact w_retz hx hb hr hlocks hS (⟨_, _, hP⟩) (bI_ff (rfl)) dX5_readsForm_166
              · exact absurd (by decide) c149
            · exact absurd (by decide) c121
          · exact absurd (by decide) c88
        · have hP : va_P D vwCl (mWs y m d was as tx (upd (upd gt 0 (numR tx len a 1)) 1 (numR tx len (A1 tx len a + 1) 2)) (nI k) (nI len) (nI (A2 tx len a + 1)) rs) H17 := by
            have e9 : atP tx len (A2 tx len a) (nI 104) = A2 tx len a + 1 := if_pos c64
            have hP9 : va_P D vwCl (mWs y m d was as tx (upd (upd gt 0 (numR tx len a 1)) 1 (numR tx len (A1 tx len a + 1) 2)) (nI k) (nI len) (nI (atP tx len (A2 tx len a) (nI 104))) rs) H17 := hP
            rw [e9] at hP9
            exact hP9
          refine lv_aload_n hx hb dX5_readsForm_67 rfl (lv_at hl 0 rfl) ?_
          refine lv_iconst (v := (nI 1)) hx hb dX5_readsForm_68 (by decide) ?_
          refine w_callV (As := [.int (nI 1)]) (rest := [.int (nI 2), .ref (m + 5)]) hF hK (c_X5_number l D y m d was as tx (upd (upd gt 0 (numR tx len a 1)) 1 (numR tx len (A1 tx len a + 1) 2)) k rs len (A2 tx len a + 1) 1 (by omega) (pas_lt c64) (by omega)) (cwV 1 hts gX5_readsForm_X5_number rfl rfl rfl (by decide +kernel) ⟨Nat.le_of_ble_eq_true rfl, Nat.le_of_ble_eq_true rfl⟩) (z_recv (q := (RX5, TX5, 9)) hK (hP 0 _ rfl) rfl) hP hS (fun q h => h) rfl hl.1 rfl (Nat.le_of_ble_eq_true rfl) dX5_readsForm_69 ⟨Nat.zero_le _, Nat.zero_le _⟩ (fun H21 locs1 hP hz hk hS => ?_)
          have hP : va_P D vwCl (mWs y m d was as tx (upd (upd gt 0 (numR tx len a 1)) 1 (numR tx len (A1 tx len a + 1) 2)) (nI k) (nI len) (nI ((A2 tx len a + 1) + numJ tx len (A2 tx len a + 1) 1)) rs) H21 := hP
          clear hz hk
          refine lv_goto (tgt := 76) hx hb dX5_readsForm_72 (by decide) ?_
          refine y_iast (a := (m + 5)) (f := (upd (upd gt 0 (numR tx len a 1)) 1 (numR tx len (A1 tx len a + 1) 2))) (i := 2) hx hb hK (hP 5 _ rfl) (by omega) (by decide) dX5_readsForm_76 (fun H22 hU hV => ?_)
          have hS := hS.upd (x := 2) hU (blk_in (by omega) (by omega))
          have hP : va_P D vwCl (mWs y m d was as tx (upd (upd (upd gt 0 (numR tx len a 1)) 1 (numR tx len (A1 tx len a + 1) 2)) 2 (numR tx len (A2 tx len a + 1) 1)) (nI k) (nI len) (nI ((A2 tx len a + 1) + numJ tx len (A2 tx len a + 1) 1)) rs) H22 := hP.upd (q0 := 5) mWs_D rfl hU hV
          clear hU hV
          refine lv_aload_n hx hb dX5_readsForm_77 rfl (lv_at hl 0 rfl) ?_
          refine z_get (fs := [.ref (m + 1), .ref (m + 2), .int (nI k), .ref (m + 3), .ref (m + 4), .int (nI len), .int (nI ((A2 tx len a + 1) + numJ tx len (A2 tx len a + 1) 1)), .int rs, .ref (m + 5)]) (ref := "CranePermitsModel") (C := RX5) (T := TX5) (N := 9) (ci := 5) (v := .ref (m + 5)) hx hb hts i_c_X5_readsForm_no_X5 hown hK (hP 0 _ rfl) 8 (by decide) rfl (hts (.fieldLink RX5 23 "CranePermitsModel" "got" "[I") (List.mem_of_getElem? (i := 1) rfl)) rfl rfl dX5_readsForm_78 ?_
          refine lv_iconst (v := (nI 3)) hx hb dX5_readsForm_81 (by decide) ?_
          refine lv_aload_n hx hb dX5_readsForm_82 rfl (lv_at hl 0 rfl) ?_
          refine z_get (fs := [.ref (m + 1), .ref (m + 2), .int (nI k), .ref (m + 3), .ref (m + 4), .int (nI len), .int (nI ((A2 tx len a + 1) + numJ tx len (A2 tx len a + 1) 1)), .int rs, .ref (m + 5)]) (ref := "CranePermitsModel") (C := RX5) (T := TX5) (N := 9) (ci := 5) (v := .ref (m + 5)) hx hb hts i_c_X5_readsForm_no_X5 hown hK (hP 0 _ rfl) 8 (by decide) rfl (hts (.fieldLink RX5 23 "CranePermitsModel" "got" "[I") (List.mem_of_getElem? (i := 1) rfl)) rfl rfl dX5_readsForm_83 ?_
          refine lv_iconst (v := (nI 2)) hx hb dX5_readsForm_86 (by decide) ?_
          refine z_iald (f := (upd (upd (upd gt 0 (numR tx len a 1)) 1 (numR tx len (A1 tx len a + 1) 2)) 2 (numR tx len (A2 tx len a + 1) 1))) hx hb hK (hP 5 _ rfl) (by omega) (by decide) dX5_readsForm_87 ?_
          refine z_topi (z := V2 tx len a) (pk_us) ?_
          refine lv_if_lt (tgt := 108) hx hb dX5_readsForm_88 (by decide) (fun c88 => ?_) (fun c88 => ?_)
          · refine lv_iconst (v := (-1)) hx hb dX5_readsForm_108 (by decide) ?_
            refine y_iast (a := (m + 5)) (f := (upd (upd (upd gt 0 (numR tx len a 1)) 1 (numR tx len (A1 tx len a + 1) 2)) 2 (numR tx len (A2 tx len a + 1) 1))) (i := 3) hx hb hK (hP 5 _ rfl) (by omega) (by decide) dX5_readsForm_109 (fun H23 hU hV => ?_)
            have hS := hS.upd (x := 3) hU (blk_in (by omega) (by omega))
            have hP : va_P D vwCl (mWs y m d was as tx (upd (upd (upd (upd gt 0 (numR tx len a 1)) 1 (numR tx len (A1 tx len a + 1) 2)) 2 (numR tx len (A2 tx len a + 1) 1)) 3 (-1)) (nI k) (nI len) (nI ((A2 tx len a + 1) + numJ tx len (A2 tx len a + 1) 1)) rs) H23 := hP.upd (q0 := 5) mWs_D rfl hU hV
            clear hU hV
            refine lv_aload_n hx hb dX5_readsForm_110 rfl (lv_at hl 0 rfl) ?_
            refine z_get (fs := [.ref (m + 1), .ref (m + 2), .int (nI k), .ref (m + 3), .ref (m + 4), .int (nI len), .int (nI ((A2 tx len a + 1) + numJ tx len (A2 tx len a + 1) 1)), .int rs, .ref (m + 5)]) (ref := "CranePermitsModel") (C := RX5) (T := TX5) (N := 9) (ci := 5) (v := .ref (m + 5)) hx hb hts i_c_X5_readsForm_no_X5 hown hK (hP 0 _ rfl) 8 (by decide) rfl (hts (.fieldLink RX5 23 "CranePermitsModel" "got" "[I") (List.mem_of_getElem? (i := 1) rfl)) rfl rfl dX5_readsForm_111 ?_
            refine lv_iconst (v := (nI 4)) hx hb dX5_readsForm_114 (by decide) ?_
            refine lv_aload_n hx hb dX5_readsForm_115 rfl (lv_at hl 0 rfl) ?_
            refine z_get (fs := [.ref (m + 1), .ref (m + 2), .int (nI k), .ref (m + 3), .ref (m + 4), .int (nI len), .int (nI ((A2 tx len a + 1) + numJ tx len (A2 tx len a + 1) 1)), .int rs, .ref (m + 5)]) (ref := "CranePermitsModel") (C := RX5) (T := TX5) (N := 9) (ci := 5) (v := .ref (m + 5)) hx hb hts i_c_X5_readsForm_no_X5 hown hK (hP 0 _ rfl) 8 (by decide) rfl (hts (.fieldLink RX5 23 "CranePermitsModel" "got" "[I") (List.mem_of_getElem? (i := 1) rfl)) rfl rfl dX5_readsForm_116 ?_
            refine lv_iconst (v := (nI 3)) hx hb dX5_readsForm_119 (by decide) ?_
            refine z_iald (f := (upd (upd (upd (upd gt 0 (numR tx len a 1)) 1 (numR tx len (A1 tx len a + 1) 2)) 2 (numR tx len (A2 tx len a + 1) 1)) 3 (-1))) hx hb hK (hP 5 _ rfl) (by omega) (by decide) dX5_readsForm_120 ?_
            refine z_topi (z := (-1)) (pk_us) ?_
            refine lv_if_lt (tgt := 141) hx hb dX5_readsForm_121 (by decide) (fun c121 => ?_) (fun c121 => ?_)
            · refine lv_iconst (v := (-1)) hx hb dX5_readsForm_141 (by decide) ?_
              refine y_iast (a := (m + 5)) (f := (upd (upd (upd (upd gt 0 (numR tx len a 1)) 1 (numR tx len (A1 tx len a + 1) 2)) 2 (numR tx len (A2 tx len a + 1) 1)) 3 (-1))) (i := 4) hx hb hK (hP 5 _ rfl) (by omega) (by decide) dX5_readsForm_142 (fun H24 hU hV => ?_)
              have hS := hS.upd (x := 4) hU (blk_in (by omega) (by omega))
              have hP : va_P D vwCl (mWs y m d was as tx (upd (upd (upd (upd (upd gt 0 (numR tx len a 1)) 1 (numR tx len (A1 tx len a + 1) 2)) 2 (numR tx len (A2 tx len a + 1) 1)) 3 (-1)) 4 (-1)) (nI k) (nI len) (nI ((A2 tx len a + 1) + numJ tx len (A2 tx len a + 1) 1)) rs) H24 := hP.upd (q0 := 5) mWs_D rfl hU hV
              clear hU hV
              refine lv_aload_n hx hb dX5_readsForm_143 rfl (lv_at hl 0 rfl) ?_
              refine z_get (fs := [.ref (m + 1), .ref (m + 2), .int (nI k), .ref (m + 3), .ref (m + 4), .int (nI len), .int (nI ((A2 tx len a + 1) + numJ tx len (A2 tx len a + 1) 1)), .int rs, .ref (m + 5)]) (ref := "CranePermitsModel") (C := RX5) (T := TX5) (N := 9) (ci := 5) (v := .ref (m + 5)) hx hb hts i_c_X5_readsForm_no_X5 hown hK (hP 0 _ rfl) 8 (by decide) rfl (hts (.fieldLink RX5 23 "CranePermitsModel" "got" "[I") (List.mem_of_getElem? (i := 1) rfl)) rfl rfl dX5_readsForm_144 ?_
              refine lv_iconst (v := (nI 4)) hx hb dX5_readsForm_147 (by decide) ?_
              refine z_iald (f := (upd (upd (upd (upd (upd gt 0 (numR tx len a 1)) 1 (numR tx len (A1 tx len a + 1) 2)) 2 (numR tx len (A2 tx len a + 1) 1)) 3 (-1)) 4 (-1))) hx hb hK (hP 5 _ rfl) (by omega) (by decide) dX5_readsForm_148 ?_
              refine z_topi (z := (-1)) (pk_us) ?_
              refine lv_if_lt (tgt := 165) hx hb dX5_readsForm_149 (by decide) (fun c149 => ?_) (fun c149 => ?_)
              · refine lv_iconst (v := (nI 0)) hx hb dX5_readsForm_165 (by decide) ?_
                exact w_retz hx hb hr hlocks hS (⟨_, _, hP⟩) (bI_ff (rfl)) dX5_readsForm_166
              · exact absurd (by decide) c149
            · exact absurd (by decide) c121
          · have hP : va_P D vwCl (mWs y m d was as tx (upd (upd (upd gt 0 (numR tx len a 1)) 1 (numR tx len (A1 tx len a + 1) 2)) 2 (numR tx len (A2 tx len a + 1) 1)) (nI k) (nI len) (nI (A3 tx len a)) rs) H22 := hP
            refine lv_aload_n hx hb dX5_readsForm_91 rfl (lv_at hl 0 rfl) ?_
            refine lv_bipush (v := (nI 45)) hx hb dX5_readsForm_92 (by decide) ?_
            refine w_callV (As := [.int (nI 45)]) (rest := [.int (nI 3), .ref (m + 5)]) hF hK (c_X5_passes l D y m d was as tx (upd (upd (upd gt 0 (numR tx len a 1)) 1 (numR tx len (A1 tx len a + 1) 2)) 2 (numR tx len (A2 tx len a + 1) 1)) k rs len (A3 tx len a) (nI 45) (by omega) (num_end_le (pas_lt c64))) (cwV 1 hts gX5_readsForm_X5_passes rfl rfl rfl (by decide +kernel) ⟨Nat.le_of_ble_eq_true rfl, Nat.le_of_ble_eq_true rfl⟩) (z_recv (q := (RX5, TX5, 9)) hK (hP 0 _ rfl) rfl) hP hS (fun q h => h) rfl hl.1 rfl (Nat.le_of_ble_eq_true rfl) dX5_readsForm_94 ⟨Nat.zero_le _, Nat.zero_le _⟩ (fun H25 locs1 hP hz hk hS => ?_)
            have hP : va_P D vwCl (mWs y m d was as tx (upd (upd (upd gt 0 (numR tx len a 1)) 1 (numR tx len (A1 tx len a + 1) 2)) 2 (numR tx len (A2 tx len a + 1) 1)) (nI k) (nI len) (nI (atP tx len (A3 tx len a) (nI 45))) rs) H25 := hP
            clear hz hk
            refine z_ifeq (tgt := 108) hx hb dX5_readsForm_97 (by decide) (fun c97 => ?_) (fun c97 => ?_)
            · refine lv_iconst (v := (-1)) hx hb dX5_readsForm_108 (by decide) ?_
              refine y_iast (a := (m + 5)) (f := (upd (upd (upd gt 0 (numR tx len a 1)) 1 (numR tx len (A1 tx len a + 1) 2)) 2 (numR tx len (A2 tx len a + 1) 1))) (i := 3) hx hb hK (hP 5 _ rfl) (by omega) (by decide) dX5_readsForm_109 (fun H26 hU hV => ?_)
              have hS := hS.upd (x := 3) hU (blk_in (by omega) (by omega))
              have hP : va_P D vwCl (mWs y m d was as tx (upd (upd (upd (upd gt 0 (numR tx len a 1)) 1 (numR tx len (A1 tx len a + 1) 2)) 2 (numR tx len (A2 tx len a + 1) 1)) 3 (-1)) (nI k) (nI len) (nI (atP tx len (A3 tx len a) (nI 45))) rs) H26 := hP.upd (q0 := 5) mWs_D rfl hU hV
              clear hU hV
              refine lv_aload_n hx hb dX5_readsForm_110 rfl (lv_at hl 0 rfl) ?_
              refine z_get (fs := [.ref (m + 1), .ref (m + 2), .int (nI k), .ref (m + 3), .ref (m + 4), .int (nI len), .int (nI (atP tx len (A3 tx len a) (nI 45))), .int rs, .ref (m + 5)]) (ref := "CranePermitsModel") (C := RX5) (T := TX5) (N := 9) (ci := 5) (v := .ref (m + 5)) hx hb hts i_c_X5_readsForm_no_X5 hown hK (hP 0 _ rfl) 8 (by decide) rfl (hts (.fieldLink RX5 23 "CranePermitsModel" "got" "[I") (List.mem_of_getElem? (i := 1) rfl)) rfl rfl dX5_readsForm_111 ?_
              refine lv_iconst (v := (nI 4)) hx hb dX5_readsForm_114 (by decide) ?_
              refine lv_aload_n hx hb dX5_readsForm_115 rfl (lv_at hl 0 rfl) ?_
              refine z_get (fs := [.ref (m + 1), .ref (m + 2), .int (nI k), .ref (m + 3), .ref (m + 4), .int (nI len), .int (nI (atP tx len (A3 tx len a) (nI 45))), .int rs, .ref (m + 5)]) (ref := "CranePermitsModel") (C := RX5) (T := TX5) (N := 9) (ci := 5) (v := .ref (m + 5)) hx hb hts i_c_X5_readsForm_no_X5 hown hK (hP 0 _ rfl) 8 (by decide) rfl (hts (.fieldLink RX5 23 "CranePermitsModel" "got" "[I") (List.mem_of_getElem? (i := 1) rfl)) rfl rfl dX5_readsForm_116 ?_
              refine lv_iconst (v := (nI 3)) hx hb dX5_readsForm_119 (by decide) ?_
              refine z_iald (f := (upd (upd (upd (upd gt 0 (numR tx len a 1)) 1 (numR tx len (A1 tx len a + 1) 2)) 2 (numR tx len (A2 tx len a + 1) 1)) 3 (-1))) hx hb hK (hP 5 _ rfl) (by omega) (by decide) dX5_readsForm_120 ?_
              refine z_topi (z := (-1)) (pk_us) ?_
              refine lv_if_lt (tgt := 141) hx hb dX5_readsForm_121 (by decide) (fun c121 => ?_) (fun c121 => ?_)
              · refine lv_iconst (v := (-1)) hx hb dX5_readsForm_141 (by decide) ?_
                refine y_iast (a := (m + 5)) (f := (upd (upd (upd (upd gt 0 (numR tx len a 1)) 1 (numR tx len (A1 tx len a + 1) 2)) 2 (numR tx len (A2 tx len a + 1) 1)) 3 (-1))) (i := 4) hx hb hK (hP 5 _ rfl) (by omega) (by decide) dX5_readsForm_142 (fun H27 hU hV => ?_)
                have hS := hS.upd (x := 4) hU (blk_in (by omega) (by omega))
                have hP : va_P D vwCl (mWs y m d was as tx (upd (upd (upd (upd (upd gt 0 (numR tx len a 1)) 1 (numR tx len (A1 tx len a + 1) 2)) 2 (numR tx len (A2 tx len a + 1) 1)) 3 (-1)) 4 (-1)) (nI k) (nI len) (nI (atP tx len (A3 tx len a) (nI 45))) rs) H27 := hP.upd (q0 := 5) mWs_D rfl hU hV
                clear hU hV
                refine lv_aload_n hx hb dX5_readsForm_143 rfl (lv_at hl 0 rfl) ?_
                refine z_get (fs := [.ref (m + 1), .ref (m + 2), .int (nI k), .ref (m + 3), .ref (m + 4), .int (nI len), .int (nI (atP tx len (A3 tx len a) (nI 45))), .int rs, .ref (m + 5)]) (ref := "CranePermitsModel") (C := RX5) (T := TX5) (N := 9) (ci := 5) (v := .ref (m + 5)) hx hb hts i_c_X5_readsForm_no_X5 hown hK (hP 0 _ rfl) 8 (by decide) rfl (hts (.fieldLink RX5 23 "CranePermitsModel" "got" "[I") (List.mem_of_getElem? (i := 1) rfl)) rfl rfl dX5_readsForm_144 ?_
                refine lv_iconst (v := (nI 4)) hx hb dX5_readsForm_147 (by decide) ?_
                refine z_iald (f := (upd (upd (upd (upd (upd gt 0 (numR tx len a 1)) 1 (numR tx len (A1 tx len a + 1) 2)) 2 (numR tx len (A2 tx len a + 1) 1)) 3 (-1)) 4 (-1))) hx hb hK (hP 5 _ rfl) (by omega) (by decide) dX5_readsForm_148 ?_
                refine z_topi (z := (-1)) (pk_us) ?_
                refine lv_if_lt (tgt := 165) hx hb dX5_readsForm_149 (by decide) (fun c149 => ?_) (fun c149 => ?_)
                · refine lv_iconst (v := (nI 0)) hx hb dX5_readsForm_165 (by decide) ?_
                  exact w_retz hx hb hr hlocks hS (⟨_, _, hP⟩) (bI_ff (rfl)) dX5_readsForm_166
                · exact absurd (by decide) c149
              · exact absurd (by decide) c121
            · have hP : va_P D vwCl (mWs y m d was as tx (upd (upd (upd gt 0 (numR tx len a 1)) 1 (numR tx len (A1 tx len a + 1) 2)) 2 (numR tx len (A2 tx len a + 1) 1)) (nI k) (nI len) (nI (A3 tx len a + 1)) rs) H25 := by
                have e9 : atP tx len (A3 tx len a) (nI 45) = A3 tx len a + 1 := if_pos c97
                have hP9 : va_P D vwCl (mWs y m d was as tx (upd (upd (upd gt 0 (numR tx len a 1)) 1 (numR tx len (A1 tx len a + 1) 2)) 2 (numR tx len (A2 tx len a + 1) 1)) (nI k) (nI len) (nI (atP tx len (A3 tx len a) (nI 45))) rs) H25 := hP
                rw [e9] at hP9
                exact hP9
              refine lv_aload_n hx hb dX5_readsForm_100 rfl (lv_at hl 0 rfl) ?_
              refine lv_iconst (v := (nI 1)) hx hb dX5_readsForm_101 (by decide) ?_
              refine w_callV (As := [.int (nI 1)]) (rest := [.int (nI 3), .ref (m + 5)]) hF hK (c_X5_number l D y m d was as tx (upd (upd (upd gt 0 (numR tx len a 1)) 1 (numR tx len (A1 tx len a + 1) 2)) 2 (numR tx len (A2 tx len a + 1) 1)) k rs len (A3 tx len a + 1) 1 (by omega) (pas_lt c97) (by omega)) (cwV 1 hts gX5_readsForm_X5_number rfl rfl rfl (by decide +kernel) ⟨Nat.le_of_ble_eq_true rfl, Nat.le_of_ble_eq_true rfl⟩) (z_recv (q := (RX5, TX5, 9)) hK (hP 0 _ rfl) rfl) hP hS (fun q h => h) rfl hl.1 rfl (Nat.le_of_ble_eq_true rfl) dX5_readsForm_102 ⟨Nat.zero_le _, Nat.zero_le _⟩ (fun H28 locs1 hP hz hk hS => ?_)
              have hP : va_P D vwCl (mWs y m d was as tx (upd (upd (upd gt 0 (numR tx len a 1)) 1 (numR tx len (A1 tx len a + 1) 2)) 2 (numR tx len (A2 tx len a + 1) 1)) (nI k) (nI len) (nI ((A3 tx len a + 1) + numJ tx len (A3 tx len a + 1) 1)) rs) H28 := hP
              clear hz hk
              refine lv_goto (tgt := 109) hx hb dX5_readsForm_105 (by decide) ?_
              refine y_iast (a := (m + 5)) (f := (upd (upd (upd gt 0 (numR tx len a 1)) 1 (numR tx len (A1 tx len a + 1) 2)) 2 (numR tx len (A2 tx len a + 1) 1))) (i := 3) hx hb hK (hP 5 _ rfl) (by omega) (by decide) dX5_readsForm_109 (fun H29 hU hV => ?_)
              have hS := hS.upd (x := 3) hU (blk_in (by omega) (by omega))
              have hP : va_P D vwCl (mWs y m d was as tx (upd (upd (upd (upd gt 0 (numR tx len a 1)) 1 (numR tx len (A1 tx len a + 1) 2)) 2 (numR tx len (A2 tx len a + 1) 1)) 3 (numR tx len (A3 tx len a + 1) 1)) (nI k) (nI len) (nI ((A3 tx len a + 1) + numJ tx len (A3 tx len a + 1) 1)) rs) H29 := hP.upd (q0 := 5) mWs_D rfl hU hV
              clear hU hV
              refine lv_aload_n hx hb dX5_readsForm_110 rfl (lv_at hl 0 rfl) ?_
              refine z_get (fs := [.ref (m + 1), .ref (m + 2), .int (nI k), .ref (m + 3), .ref (m + 4), .int (nI len), .int (nI ((A3 tx len a + 1) + numJ tx len (A3 tx len a + 1) 1)), .int rs, .ref (m + 5)]) (ref := "CranePermitsModel") (C := RX5) (T := TX5) (N := 9) (ci := 5) (v := .ref (m + 5)) hx hb hts i_c_X5_readsForm_no_X5 hown hK (hP 0 _ rfl) 8 (by decide) rfl (hts (.fieldLink RX5 23 "CranePermitsModel" "got" "[I") (List.mem_of_getElem? (i := 1) rfl)) rfl rfl dX5_readsForm_111 ?_
              refine lv_iconst (v := (nI 4)) hx hb dX5_readsForm_114 (by decide) ?_
              refine lv_aload_n hx hb dX5_readsForm_115 rfl (lv_at hl 0 rfl) ?_
              refine z_get (fs := [.ref (m + 1), .ref (m + 2), .int (nI k), .ref (m + 3), .ref (m + 4), .int (nI len), .int (nI ((A3 tx len a + 1) + numJ tx len (A3 tx len a + 1) 1)), .int rs, .ref (m + 5)]) (ref := "CranePermitsModel") (C := RX5) (T := TX5) (N := 9) (ci := 5) (v := .ref (m + 5)) hx hb hts i_c_X5_readsForm_no_X5 hown hK (hP 0 _ rfl) 8 (by decide) rfl (hts (.fieldLink RX5 23 "CranePermitsModel" "got" "[I") (List.mem_of_getElem? (i := 1) rfl)) rfl rfl dX5_readsForm_116 ?_
              refine lv_iconst (v := (nI 3)) hx hb dX5_readsForm_119 (by decide) ?_
              refine z_iald (f := (upd (upd (upd (upd gt 0 (numR tx len a 1)) 1 (numR tx len (A1 tx len a + 1) 2)) 2 (numR tx len (A2 tx len a + 1) 1)) 3 (numR tx len (A3 tx len a + 1) 1))) hx hb hK (hP 5 _ rfl) (by omega) (by decide) dX5_readsForm_120 ?_
              refine z_topi (z := V3 tx len a) (pk_us) ?_
              refine lv_if_lt (tgt := 141) hx hb dX5_readsForm_121 (by decide) (fun c121 => ?_) (fun c121 => ?_)
              · refine lv_iconst (v := (-1)) hx hb dX5_readsForm_141 (by decide) ?_
                refine y_iast (a := (m + 5)) (f := (upd (upd (upd (upd gt 0 (numR tx len a 1)) 1 (numR tx len (A1 tx len a + 1) 2)) 2 (numR tx len (A2 tx len a + 1) 1)) 3 (numR tx len (A3 tx len a + 1) 1))) (i := 4) hx hb hK (hP 5 _ rfl) (by omega) (by decide) dX5_readsForm_142 (fun H30 hU hV => ?_)
                have hS := hS.upd (x := 4) hU (blk_in (by omega) (by omega))
                have hP : va_P D vwCl (mWs y m d was as tx (upd (upd (upd (upd (upd gt 0 (numR tx len a 1)) 1 (numR tx len (A1 tx len a + 1) 2)) 2 (numR tx len (A2 tx len a + 1) 1)) 3 (numR tx len (A3 tx len a + 1) 1)) 4 (-1)) (nI k) (nI len) (nI ((A3 tx len a + 1) + numJ tx len (A3 tx len a + 1) 1)) rs) H30 := hP.upd (q0 := 5) mWs_D rfl hU hV
                clear hU hV
                refine lv_aload_n hx hb dX5_readsForm_143 rfl (lv_at hl 0 rfl) ?_
                refine z_get (fs := [.ref (m + 1), .ref (m + 2), .int (nI k), .ref (m + 3), .ref (m + 4), .int (nI len), .int (nI ((A3 tx len a + 1) + numJ tx len (A3 tx len a + 1) 1)), .int rs, .ref (m + 5)]) (ref := "CranePermitsModel") (C := RX5) (T := TX5) (N := 9) (ci := 5) (v := .ref (m + 5)) hx hb hts i_c_X5_readsForm_no_X5 hown hK (hP 0 _ rfl) 8 (by decide) rfl (hts (.fieldLink RX5 23 "CranePermitsModel" "got" "[I") (List.mem_of_getElem? (i := 1) rfl)) rfl rfl dX5_readsForm_144 ?_
                refine lv_iconst (v := (nI 4)) hx hb dX5_readsForm_147 (by decide) ?_
                refine z_iald (f := (upd (upd (upd (upd (upd gt 0 (numR tx len a 1)) 1 (numR tx len (A1 tx len a + 1) 2)) 2 (numR tx len (A2 tx len a + 1) 1)) 3 (numR tx len (A3 tx len a + 1) 1)) 4 (-1))) hx hb hK (hP 5 _ rfl) (by omega) (by decide) dX5_readsForm_148 ?_
                refine z_topi (z := (-1)) (pk_us) ?_
                refine lv_if_lt (tgt := 165) hx hb dX5_readsForm_149 (by decide) (fun c149 => ?_) (fun c149 => ?_)
                · refine lv_iconst (v := (nI 0)) hx hb dX5_readsForm_165 (by decide) ?_
                  exact w_retz hx hb hr hlocks hS (⟨_, _, hP⟩) (bI_ff (rfl)) dX5_readsForm_166
                · exact absurd (by decide) c149
              · have hP : va_P D vwCl (mWs y m d was as tx (upd (upd (upd (upd gt 0 (numR tx len a 1)) 1 (numR tx len (A1 tx len a + 1) 2)) 2 (numR tx len (A2 tx len a + 1) 1)) 3 (numR tx len (A3 tx len a + 1) 1)) (nI k) (nI len) (nI (A4 tx len a)) rs) H29 := hP
                refine lv_aload_n hx hb dX5_readsForm_124 rfl (lv_at hl 0 rfl) ?_
                refine lv_bipush (v := (nI 115)) hx hb dX5_readsForm_125 (by decide) ?_
                refine w_callV (As := [.int (nI 115)]) (rest := [.int (nI 4), .ref (m + 5)]) hF hK (c_X5_passes l D y m d was as tx (upd (upd (upd (upd gt 0 (numR tx len a 1)) 1 (numR tx len (A1 tx len a + 1) 2)) 2 (numR tx len (A2 tx len a + 1) 1)) 3 (numR tx len (A3 tx len a + 1) 1)) k rs len (A4 tx len a) (nI 115) (by omega) (num_end_le (pas_lt c97))) (cwV 1 hts gX5_readsForm_X5_passes rfl rfl rfl (by decide +kernel) ⟨Nat.le_of_ble_eq_true rfl, Nat.le_of_ble_eq_true rfl⟩) (z_recv (q := (RX5, TX5, 9)) hK (hP 0 _ rfl) rfl) hP hS (fun q h => h) rfl hl.1 rfl (Nat.le_of_ble_eq_true rfl) dX5_readsForm_127 ⟨Nat.zero_le _, Nat.zero_le _⟩ (fun H31 locs1 hP hz hk hS => ?_)
                have hP : va_P D vwCl (mWs y m d was as tx (upd (upd (upd (upd gt 0 (numR tx len a 1)) 1 (numR tx len (A1 tx len a + 1) 2)) 2 (numR tx len (A2 tx len a + 1) 1)) 3 (numR tx len (A3 tx len a + 1) 1)) (nI k) (nI len) (nI (atP tx len (A4 tx len a) (nI 115))) rs) H31 := hP
                clear hz hk
                refine z_ifeq (tgt := 141) hx hb dX5_readsForm_130 (by decide) (fun c130 => ?_) (fun c130 => ?_)
                · refine lv_iconst (v := (-1)) hx hb dX5_readsForm_141 (by decide) ?_
                  refine y_iast (a := (m + 5)) (f := (upd (upd (upd (upd gt 0 (numR tx len a 1)) 1 (numR tx len (A1 tx len a + 1) 2)) 2 (numR tx len (A2 tx len a + 1) 1)) 3 (numR tx len (A3 tx len a + 1) 1))) (i := 4) hx hb hK (hP 5 _ rfl) (by omega) (by decide) dX5_readsForm_142 (fun H32 hU hV => ?_)
                  have hS := hS.upd (x := 4) hU (blk_in (by omega) (by omega))
                  have hP : va_P D vwCl (mWs y m d was as tx (upd (upd (upd (upd (upd gt 0 (numR tx len a 1)) 1 (numR tx len (A1 tx len a + 1) 2)) 2 (numR tx len (A2 tx len a + 1) 1)) 3 (numR tx len (A3 tx len a + 1) 1)) 4 (-1)) (nI k) (nI len) (nI (atP tx len (A4 tx len a) (nI 115))) rs) H32 := hP.upd (q0 := 5) mWs_D rfl hU hV
                  clear hU hV
                  refine lv_aload_n hx hb dX5_readsForm_143 rfl (lv_at hl 0 rfl) ?_
                  refine z_get (fs := [.ref (m + 1), .ref (m + 2), .int (nI k), .ref (m + 3), .ref (m + 4), .int (nI len), .int (nI (atP tx len (A4 tx len a) (nI 115))), .int rs, .ref (m + 5)]) (ref := "CranePermitsModel") (C := RX5) (T := TX5) (N := 9) (ci := 5) (v := .ref (m + 5)) hx hb hts i_c_X5_readsForm_no_X5 hown hK (hP 0 _ rfl) 8 (by decide) rfl (hts (.fieldLink RX5 23 "CranePermitsModel" "got" "[I") (List.mem_of_getElem? (i := 1) rfl)) rfl rfl dX5_readsForm_144 ?_
                  refine lv_iconst (v := (nI 4)) hx hb dX5_readsForm_147 (by decide) ?_
                  refine z_iald (f := (upd (upd (upd (upd (upd gt 0 (numR tx len a 1)) 1 (numR tx len (A1 tx len a + 1) 2)) 2 (numR tx len (A2 tx len a + 1) 1)) 3 (numR tx len (A3 tx len a + 1) 1)) 4 (-1))) hx hb hK (hP 5 _ rfl) (by omega) (by decide) dX5_readsForm_148 ?_
                  refine z_topi (z := (-1)) (pk_us) ?_
                  refine lv_if_lt (tgt := 165) hx hb dX5_readsForm_149 (by decide) (fun c149 => ?_) (fun c149 => ?_)
                  · refine lv_iconst (v := (nI 0)) hx hb dX5_readsForm_165 (by decide) ?_
                    exact w_retz hx hb hr hlocks hS (⟨_, _, hP⟩) (bI_ff (rfl)) dX5_readsForm_166
                  · exact absurd (by decide) c149
                · have hP : va_P D vwCl (mWs y m d was as tx (upd (upd (upd (upd gt 0 (numR tx len a 1)) 1 (numR tx len (A1 tx len a + 1) 2)) 2 (numR tx len (A2 tx len a + 1) 1)) 3 (numR tx len (A3 tx len a + 1) 1)) (nI k) (nI len) (nI (A4 tx len a + 1)) rs) H31 := by
                    have e9 : atP tx len (A4 tx len a) (nI 115) = A4 tx len a + 1 := if_pos c130
                    have hP9 : va_P D vwCl (mWs y m d was as tx (upd (upd (upd (upd gt 0 (numR tx len a 1)) 1 (numR tx len (A1 tx len a + 1) 2)) 2 (numR tx len (A2 tx len a + 1) 1)) 3 (numR tx len (A3 tx len a + 1) 1)) (nI k) (nI len) (nI (atP tx len (A4 tx len a) (nI 115))) rs) H31 := hP
                    rw [e9] at hP9
                    exact hP9
                  refine lv_aload_n hx hb dX5_readsForm_133 rfl (lv_at hl 0 rfl) ?_
                  refine lv_iconst (v := (nI 3)) hx hb dX5_readsForm_134 (by decide) ?_
                  refine w_callV (As := [.int (nI 3)]) (rest := [.int (nI 4), .ref (m + 5)]) hF hK (c_X5_number l D y m d was as tx (upd (upd (upd (upd gt 0 (numR tx len a 1)) 1 (numR tx len (A1 tx len a + 1) 2)) 2 (numR tx len (A2 tx len a + 1) 1)) 3 (numR tx len (A3 tx len a + 1) 1)) k rs len (A4 tx len a + 1) 3 (by omega) (pas_lt c130) (by omega)) (cwV 1 hts gX5_readsForm_X5_number rfl rfl rfl (by decide +kernel) ⟨Nat.le_of_ble_eq_true rfl, Nat.le_of_ble_eq_true rfl⟩) (z_recv (q := (RX5, TX5, 9)) hK (hP 0 _ rfl) rfl) hP hS (fun q h => h) rfl hl.1 rfl (Nat.le_of_ble_eq_true rfl) dX5_readsForm_135 ⟨Nat.zero_le _, Nat.zero_le _⟩ (fun H33 locs1 hP hz hk hS => ?_)
                  have hP : va_P D vwCl (mWs y m d was as tx (upd (upd (upd (upd gt 0 (numR tx len a 1)) 1 (numR tx len (A1 tx len a + 1) 2)) 2 (numR tx len (A2 tx len a + 1) 1)) 3 (numR tx len (A3 tx len a + 1) 1)) (nI k) (nI len) (nI ((A4 tx len a + 1) + numJ tx len (A4 tx len a + 1) 3)) rs) H33 := hP
                  clear hz hk
                  refine lv_goto (tgt := 142) hx hb dX5_readsForm_138 (by decide) ?_
                  refine y_iast (a := (m + 5)) (f := (upd (upd (upd (upd gt 0 (numR tx len a 1)) 1 (numR tx len (A1 tx len a + 1) 2)) 2 (numR tx len (A2 tx len a + 1) 1)) 3 (numR tx len (A3 tx len a + 1) 1))) (i := 4) hx hb hK (hP 5 _ rfl) (by omega) (by decide) dX5_readsForm_142 (fun H34 hU hV => ?_)
                  have hS := hS.upd (x := 4) hU (blk_in (by omega) (by omega))
                  have hP : va_P D vwCl (mWs y m d was as tx (upd (upd (upd (upd (upd gt 0 (numR tx len a 1)) 1 (numR tx len (A1 tx len a + 1) 2)) 2 (numR tx len (A2 tx len a + 1) 1)) 3 (numR tx len (A3 tx len a + 1) 1)) 4 (numR tx len (A4 tx len a + 1) 3)) (nI k) (nI len) (nI ((A4 tx len a + 1) + numJ tx len (A4 tx len a + 1) 3)) rs) H34 := hP.upd (q0 := 5) mWs_D rfl hU hV
                  clear hU hV
                  refine lv_aload_n hx hb dX5_readsForm_143 rfl (lv_at hl 0 rfl) ?_
                  refine z_get (fs := [.ref (m + 1), .ref (m + 2), .int (nI k), .ref (m + 3), .ref (m + 4), .int (nI len), .int (nI ((A4 tx len a + 1) + numJ tx len (A4 tx len a + 1) 3)), .int rs, .ref (m + 5)]) (ref := "CranePermitsModel") (C := RX5) (T := TX5) (N := 9) (ci := 5) (v := .ref (m + 5)) hx hb hts i_c_X5_readsForm_no_X5 hown hK (hP 0 _ rfl) 8 (by decide) rfl (hts (.fieldLink RX5 23 "CranePermitsModel" "got" "[I") (List.mem_of_getElem? (i := 1) rfl)) rfl rfl dX5_readsForm_144 ?_
                  refine lv_iconst (v := (nI 4)) hx hb dX5_readsForm_147 (by decide) ?_
                  refine z_iald (f := (upd (upd (upd (upd (upd gt 0 (numR tx len a 1)) 1 (numR tx len (A1 tx len a + 1) 2)) 2 (numR tx len (A2 tx len a + 1) 1)) 3 (numR tx len (A3 tx len a + 1) 1)) 4 (numR tx len (A4 tx len a + 1) 3))) hx hb hK (hP 5 _ rfl) (by omega) (by decide) dX5_readsForm_148 ?_
                  refine z_topi (z := V4 tx len a) (pk_us) ?_
                  refine lv_if_lt (tgt := 165) hx hb dX5_readsForm_149 (by decide) (fun c149 => ?_) (fun c149 => ?_)
                  · refine lv_iconst (v := (nI 0)) hx hb dX5_readsForm_165 (by decide) ?_
                    exact w_retz hx hb hr hlocks hS (⟨_, _, hP⟩) (bI_ff (rfl)) dX5_readsForm_166
                  · have hP : va_P D vwCl (mWs y m d was as tx (upd (upd (upd (upd (upd gt 0 (numR tx len a 1)) 1 (numR tx len (A1 tx len a + 1) 2)) 2 (numR tx len (A2 tx len a + 1) 1)) 3 (numR tx len (A3 tx len a + 1) 1)) 4 (numR tx len (A4 tx len a + 1) 3)) (nI k) (nI len) (nI (A5 tx len a)) rs) H34 := hP
                    refine lv_aload_n hx hb dX5_readsForm_152 rfl (lv_at hl 0 rfl) ?_
                    refine lv_bipush (v := (nI 59)) hx hb dX5_readsForm_153 (by decide) ?_
                    refine w_callV (As := [.int (nI 59)]) (rest := []) hF hK (c_X5_passes l D y m d was as tx (upd (upd (upd (upd (upd gt 0 (numR tx len a 1)) 1 (numR tx len (A1 tx len a + 1) 2)) 2 (numR tx len (A2 tx len a + 1) 1)) 3 (numR tx len (A3 tx len a + 1) 1)) 4 (numR tx len (A4 tx len a + 1) 3)) k rs len (A5 tx len a) (nI 59) (by omega) (num_end_le (pas_lt c130))) (cwV 1 hts gX5_readsForm_X5_passes rfl rfl rfl (by decide +kernel) ⟨Nat.le_of_ble_eq_true rfl, Nat.le_of_ble_eq_true rfl⟩) (z_recv (q := (RX5, TX5, 9)) hK (hP 0 _ rfl) rfl) hP hS (fun q h => h) rfl hl.1 rfl (Nat.le_of_ble_eq_true rfl) dX5_readsForm_155 ⟨Nat.zero_le _, Nat.zero_le _⟩ (fun H35 locs1 hP hz hk hS => ?_)
                    have hP : va_P D vwCl (mWs y m d was as tx (upd (upd (upd (upd (upd gt 0 (numR tx len a 1)) 1 (numR tx len (A1 tx len a + 1) 2)) 2 (numR tx len (A2 tx len a + 1) 1)) 3 (numR tx len (A3 tx len a + 1) 1)) 4 (numR tx len (A4 tx len a + 1) 3)) (nI k) (nI len) (nI (atP tx len (A5 tx len a) (nI 59))) rs) H35 := hP
                    clear hz hk
                    refine z_ifeq (tgt := 165) hx hb dX5_readsForm_158 (by decide) (fun c158 => ?_) (fun c158 => ?_)
                    · refine lv_iconst (v := (nI 0)) hx hb dX5_readsForm_165 (by decide) ?_
                      exact w_retz hx hb hr hlocks hS (⟨_, _, hP⟩) (bI_ff (rfl)) dX5_readsForm_166
                    · have hP : va_P D vwCl (mWs y m d was as tx (upd (upd (upd (upd (upd gt 0 (numR tx len a 1)) 1 (numR tx len (A1 tx len a + 1) 2)) 2 (numR tx len (A2 tx len a + 1) 1)) 3 (numR tx len (A3 tx len a + 1) 1)) 4 (numR tx len (A4 tx len a + 1) 3)) (nI k) (nI len) (nI (A5 tx len a + 1)) rs) H35 := by
                        have e9 : atP tx len (A5 tx len a) (nI 59) = A5 tx len a + 1 := if_pos c158
                        have hP9 : va_P D vwCl (mWs y m d was as tx (upd (upd (upd (upd (upd gt 0 (numR tx len a 1)) 1 (numR tx len (A1 tx len a + 1) 2)) 2 (numR tx len (A2 tx len a + 1) 1)) 3 (numR tx len (A3 tx len a + 1) 1)) 4 (numR tx len (A4 tx len a + 1) 3)) (nI k) (nI len) (nI (atP tx len (A5 tx len a) (nI 59))) rs) H35 := hP
                        rw [e9] at hP9
                        exact hP9
                      exact absurd (show fmB tx len a = true by unfold fmB F0B F1B F2B F3B F4B; rw [decide_eq_false c22, decide_eq_false c55, decide_eq_false c88, decide_eq_false c121, decide_eq_false c149, c31, c64, c97, c130, c158]; rfl) (bf hno)
theorem i_c_X5_entersOne_ok_X5 : ∀ w ∈ wsX50, w ∈ wsX5_entersOne := fun w h => (List.mem_cons_of_mem _ (List.mem_append_right _ h))
set_option maxRecDepth 100000 in
set_option maxHeartbeats 4000000 in
theorem c_X5_entersOne_ok (l : Launch) (D : va_G) (y : zY) (m : Nat) (d : Nat → Int32) (was : Nat → Int32) (as : Nat → Int32) (tx : Nat → Int32) (gt : Nat → Int32) (k : Nat) (rs : Int32) (len : Nat) (a : Nat) (hI : zI d) (hlen : len ≤ 80) (ha : a ≤ len) (hok : oneB d tx len a = true) : Met l yX5_entersOne wsX5_entersOne ({ frames := 6, cells := 0, slots := 0, locals := 150 }) (zP [.ref m] (va_P D vwCl (mWs y m d was as tx gt (nI k) (nI len) (nI a) rs)) D y) (zW (some (.int (nI 0))) (va_P D vwCl (mWs y m (oneD d tx len a) was as tx (upd (upd (upd (upd (upd gt 0 (V0 tx len a)) 1 (V1 tx len a)) 2 (V2 tx len a)) 3 (V3 tx len a)) 4 (V4 tx len a)) (nI k) (nI len) (nI (nxA tx len a)) rs)) (blk m 6)) 0 0 (blk m 6) := by
  refine z_body (cc := cX5_entersOne) (maxL := 3) (ret := (some .int)) (la := [(0, .ref m)]) (by decide) rfl (Nat.le_of_ble_eq_true rfl) rfl ?_
  intro pg ev s mm below meth c0 ls hx hb hr hF hlocks hΦ hK hl _
  have hts := hF.2.2.2.2
  have hown : s.vm.findClass RX5 = some mm.cls := hF.2.2.2.1
  have hP : va_P D vwCl (mWs y m d was as tx gt (nI k) (nI len) (nI a) rs) s.heap := hΦ
  have hS : va_S (blk m 6) s.heap s.heap [] := va_S.rf
  have hG2 := hI.ng2
  have hC8 := hI.nc8
  obtain ⟨p1, p2, p3, p4⟩ := one_parts hok
  have hg := ful_ng hI p4
  refine lv_aload_n hx hb dX5_entersOne_0 rfl (lv_at hl 0 rfl) ?_
  refine w_callV (As := []) (rest := []) hF hK (c_X5_readsForm_ok l D y m d was as tx gt k rs len a (by omega) (by omega) (p1)) (cwV 0 hts gX5_entersOne_X5_readsForm rfl rfl rfl (by decide +kernel) ⟨Nat.le_of_ble_eq_true rfl, Nat.le_of_ble_eq_true rfl⟩) (z_recv (q := (RX5, TX5, 9)) hK (hP 0 _ rfl) rfl) hP hS (fun q h => h) rfl hl.1 rfl (Nat.le_of_ble_eq_true rfl) dX5_entersOne_1 ⟨Nat.zero_le _, Nat.zero_le _⟩ (fun H1 locs1 hP hz hk hS => ?_)
  have hP : va_P D vwCl (mWs y m d was as tx (upd (upd (upd (upd (upd gt 0 (V0 tx len a)) 1 (V1 tx len a)) 2 (V2 tx len a)) 3 (V3 tx len a)) 4 (V4 tx len a)) (nI k) (nI len) (nI (nxA tx len a)) rs) H1 := hP
  clear hz hk
  refine z_ifne (tgt := 10) hx hb dX5_entersOne_4 (by decide) (fun c4 => ?_) (fun c4 => ?_)
  · refine lv_bipush (v := (nI 10)) hx hb dX5_entersOne_10 (by decide) ?_
    refine lv_aload_n hx hb dX5_entersOne_12 rfl (lv_at hl 0 rfl) ?_
    refine z_get (fs := [.ref (m + 1), .ref (m + 2), .int (nI k), .ref (m + 3), .ref (m + 4), .int (nI len), .int (nI (nxA tx len a)), .int rs, .ref (m + 5)]) (ref := "CranePermitsModel") (C := RX5) (T := TX5) (N := 9) (ci := 5) (v := .ref (m + 5)) hx hb hts i_c_X5_entersOne_ok_X5 hown hK (hP 0 _ rfl) 8 (by decide) rfl (hts (.fieldLink RX5 23 "CranePermitsModel" "got" "[I") (List.mem_of_getElem? (i := 1) rfl)) rfl rfl dX5_entersOne_13 ?_
    refine lv_iconst (v := (nI 2)) hx hb dX5_entersOne_16 (by decide) ?_
    refine z_iald (f := (upd (upd (upd (upd (upd gt 0 (V0 tx len a)) 1 (V1 tx len a)) 2 (V2 tx len a)) 3 (V3 tx len a)) 4 (V4 tx len a))) hx hb hK (hP 5 _ rfl) (by omega) (by decide) dX5_entersOne_17 ?_
    refine z_topi (z := (V2 tx len a)) (rfl) ?_
    refine lv_imul hx hb dX5_entersOne_18 ?_
    refine lv_aload_n hx hb dX5_entersOne_19 rfl (lv_at hl 0 rfl) ?_
    refine z_get (fs := [.ref (m + 1), .ref (m + 2), .int (nI k), .ref (m + 3), .ref (m + 4), .int (nI len), .int (nI (nxA tx len a)), .int rs, .ref (m + 5)]) (ref := "CranePermitsModel") (C := RX5) (T := TX5) (N := 9) (ci := 5) (v := .ref (m + 5)) hx hb hts i_c_X5_entersOne_ok_X5 hown hK (hP 0 _ rfl) 8 (by decide) rfl (hts (.fieldLink RX5 23 "CranePermitsModel" "got" "[I") (List.mem_of_getElem? (i := 1) rfl)) rfl rfl dX5_entersOne_20 ?_
    refine lv_iconst (v := (nI 3)) hx hb dX5_entersOne_23 (by decide) ?_
    refine z_iald (f := (upd (upd (upd (upd (upd gt 0 (V0 tx len a)) 1 (V1 tx len a)) 2 (V2 tx len a)) 3 (V3 tx len a)) 4 (V4 tx len a))) hx hb hK (hP 5 _ rfl) (by omega) (by decide) dX5_entersOne_24 ?_
    refine z_topi (z := (V3 tx len a)) (rfl) ?_
    refine lv_iadd hx hb dX5_entersOne_25 ?_
    refine z_topi (z := (VH tx len a)) (rfl) ?_
    refine lv_istore_n (lv' := [(1, .int (VH tx len a)), (0, .ref m)]) hx hb dX5_entersOne_26 rfl hl (by decide) rfl (fun ls hl => ?_)
    refine lv_aload_n hx hb dX5_entersOne_27 rfl (lv_at hl 1 rfl) ?_
    refine lv_aload_n hx hb dX5_entersOne_28 rfl (lv_at hl 1 rfl) ?_
    refine z_get (fs := [.ref (m + 1), .ref (m + 2), .int (nI k), .ref (m + 3), .ref (m + 4), .int (nI len), .int (nI (nxA tx len a)), .int rs, .ref (m + 5)]) (ref := "CranePermitsModel") (C := RX5) (T := TX5) (N := 9) (ci := 5) (v := .ref (m + 5)) hx hb hts i_c_X5_entersOne_ok_X5 hown hK (hP 0 _ rfl) 8 (by decide) rfl (hts (.fieldLink RX5 23 "CranePermitsModel" "got" "[I") (List.mem_of_getElem? (i := 1) rfl)) rfl rfl dX5_entersOne_29 ?_
    refine lv_iconst (v := (nI 0)) hx hb dX5_entersOne_32 (by decide) ?_
    refine z_iald (f := (upd (upd (upd (upd (upd gt 0 (V0 tx len a)) 1 (V1 tx len a)) 2 (V2 tx len a)) 3 (V3 tx len a)) 4 (V4 tx len a))) hx hb hK (hP 5 _ rfl) (by omega) (by decide) dX5_entersOne_33 ?_
    refine z_topi (z := (V0 tx len a)) (rfl) ?_
    refine lv_aload_n hx hb dX5_entersOne_34 rfl (lv_at hl 1 rfl) ?_
    refine z_get (fs := [.ref (m + 1), .ref (m + 2), .int (nI k), .ref (m + 3), .ref (m + 4), .int (nI len), .int (nI (nxA tx len a)), .int rs, .ref (m + 5)]) (ref := "CranePermitsModel") (C := RX5) (T := TX5) (N := 9) (ci := 5) (v := .ref (m + 5)) hx hb hts i_c_X5_entersOne_ok_X5 hown hK (hP 0 _ rfl) 8 (by decide) rfl (hts (.fieldLink RX5 23 "CranePermitsModel" "got" "[I") (List.mem_of_getElem? (i := 1) rfl)) rfl rfl dX5_entersOne_35 ?_
    refine lv_iconst (v := (nI 1)) hx hb dX5_entersOne_38 (by decide) ?_
    refine z_iald (f := (upd (upd (upd (upd (upd gt 0 (V0 tx len a)) 1 (V1 tx len a)) 2 (V2 tx len a)) 3 (V3 tx len a)) 4 (V4 tx len a))) hx hb hK (hP 5 _ rfl) (by omega) (by decide) dX5_entersOne_39 ?_
    refine z_topi (z := (V1 tx len a)) (rfl) ?_
    refine lv_iload_n hx hb dX5_entersOne_40 rfl (lv_at hl 0 rfl) ?_
    refine lv_aload_n hx hb dX5_entersOne_41 rfl (lv_at hl 1 rfl) ?_
    refine z_get (fs := [.ref (m + 1), .ref (m + 2), .int (nI k), .ref (m + 3), .ref (m + 4), .int (nI len), .int (nI (nxA tx len a)), .int rs, .ref (m + 5)]) (ref := "CranePermitsModel") (C := RX5) (T := TX5) (N := 9) (ci := 5) (v := .ref (m + 5)) hx hb hts i_c_X5_entersOne_ok_X5 hown hK (hP 0 _ rfl) 8 (by decide) rfl (hts (.fieldLink RX5 23 "CranePermitsModel" "got" "[I") (List.mem_of_getElem? (i := 1) rfl)) rfl rfl dX5_entersOne_42 ?_
    refine lv_iconst (v := (nI 4)) hx hb dX5_entersOne_45 (by decide) ?_
    refine z_iald (f := (upd (upd (upd (upd (upd gt 0 (V0 tx len a)) 1 (V1 tx len a)) 2 (V2 tx len a)) 3 (V3 tx len a)) 4 (V4 tx len a))) hx hb hK (hP 5 _ rfl) (by omega) (by decide) dX5_entersOne_46 ?_
    refine z_topi (z := (V4 tx len a)) (rfl) ?_
    refine z_callV (As := [.int (V0 tx len a), .int (V1 tx len a), .int (VH tx len a), .int (V4 tx len a)]) (rest := []) hF hK (c_X5_isApplication l D y m d (V0 tx len a) (V1 tx len a) (VH tx len a) (V4 tx len a) (hI)) (cwV 4 hts gX5_entersOne_X5_isApplication rfl rfl rfl (by decide +kernel) ⟨Nat.le_of_ble_eq_true rfl, Nat.le_of_ble_eq_true rfl⟩) (z_recv (q := (RX5, TX5, 9)) hK (hP 0 _ rfl) rfl) (zM_of hP) rfl hl.1 rfl (Nat.le_of_ble_eq_true rfl) dX5_entersOne_47 ⟨Nat.zero_le _, Nat.zero_le _⟩ ?_
    refine z_ifne (tgt := 56) hx hb dX5_entersOne_50 (by decide) (fun c50 => ?_) (fun c50 => ?_)
    · obtain ⟨h0, e0, h1, e1⟩ := one_nat hI c50
      refine lv_aload_n hx hb dX5_entersOne_56 rfl (lv_at hl 1 rfl) ?_
      refine lv_aload_n hx hb dX5_entersOne_57 rfl (lv_at hl 1 rfl) ?_
      refine z_get (fs := [.ref (m + 1), .ref (m + 2), .int (nI k), .ref (m + 3), .ref (m + 4), .int (nI len), .int (nI (nxA tx len a)), .int rs, .ref (m + 5)]) (ref := "CranePermitsModel") (C := RX5) (T := TX5) (N := 9) (ci := 5) (v := .ref (m + 5)) hx hb hts i_c_X5_entersOne_ok_X5 hown hK (hP 0 _ rfl) 8 (by decide) rfl (hts (.fieldLink RX5 23 "CranePermitsModel" "got" "[I") (List.mem_of_getElem? (i := 1) rfl)) rfl rfl dX5_entersOne_58 ?_
      refine lv_iconst (v := (nI 0)) hx hb dX5_entersOne_61 (by decide) ?_
      refine z_iald (f := (upd (upd (upd (upd (upd gt 0 (V0 tx len a)) 1 (V1 tx len a)) 2 (V2 tx len a)) 3 (V3 tx len a)) 4 (V4 tx len a))) hx hb hK (hP 5 _ rfl) (by omega) (by decide) dX5_entersOne_62 ?_
      refine z_topi (z := (nI (cl (V0 tx len a)))) ((show _ = V0 tx len a from rfl).trans e0) ?_
      refine lv_aload_n hx hb dX5_entersOne_63 rfl (lv_at hl 1 rfl) ?_
      refine z_get (fs := [.ref (m + 1), .ref (m + 2), .int (nI k), .ref (m + 3), .ref (m + 4), .int (nI len), .int (nI (nxA tx len a)), .int rs, .ref (m + 5)]) (ref := "CranePermitsModel") (C := RX5) (T := TX5) (N := 9) (ci := 5) (v := .ref (m + 5)) hx hb hts i_c_X5_entersOne_ok_X5 hown hK (hP 0 _ rfl) 8 (by decide) rfl (hts (.fieldLink RX5 23 "CranePermitsModel" "got" "[I") (List.mem_of_getElem? (i := 1) rfl)) rfl rfl dX5_entersOne_64 ?_
      refine lv_iconst (v := (nI 1)) hx hb dX5_entersOne_67 (by decide) ?_
      refine z_iald (f := (upd (upd (upd (upd (upd gt 0 (V0 tx len a)) 1 (V1 tx len a)) 2 (V2 tx len a)) 3 (V3 tx len a)) 4 (V4 tx len a))) hx hb hK (hP 5 _ rfl) (by omega) (by decide) dX5_entersOne_68 ?_
      refine z_topi (z := (nI (cl (V1 tx len a)))) ((show _ = V1 tx len a from rfl).trans e1) ?_
      refine lv_iload_n hx hb dX5_entersOne_69 rfl (lv_at hl 0 rfl) ?_
      refine lv_aload_n hx hb dX5_entersOne_70 rfl (lv_at hl 1 rfl) ?_
      refine z_get (fs := [.ref (m + 1), .ref (m + 2), .int (nI k), .ref (m + 3), .ref (m + 4), .int (nI len), .int (nI (nxA tx len a)), .int rs, .ref (m + 5)]) (ref := "CranePermitsModel") (C := RX5) (T := TX5) (N := 9) (ci := 5) (v := .ref (m + 5)) hx hb hts i_c_X5_entersOne_ok_X5 hown hK (hP 0 _ rfl) 8 (by decide) rfl (hts (.fieldLink RX5 23 "CranePermitsModel" "got" "[I") (List.mem_of_getElem? (i := 1) rfl)) rfl rfl dX5_entersOne_71 ?_
      refine lv_iconst (v := (nI 4)) hx hb dX5_entersOne_74 (by decide) ?_
      refine z_iald (f := (upd (upd (upd (upd (upd gt 0 (V0 tx len a)) 1 (V1 tx len a)) 2 (V2 tx len a)) 3 (V3 tx len a)) 4 (V4 tx len a))) hx hb hK (hP 5 _ rfl) (by omega) (by decide) dX5_entersOne_75 ?_
      refine z_topi (z := (V4 tx len a)) (rfl) ?_
      refine z_callV (As := [.int (nI (cl (V0 tx len a))), .int (nI (cl (V1 tx len a))), .int (VH tx len a), .int (V4 tx len a)]) (rest := []) hF hK (c_X5_refuses l D y m d (cl (V0 tx len a)) (cl (V1 tx len a)) (VH tx len a) (V4 tx len a) (hI) (by omega) (by omega)) (cwV 4 hts gX5_entersOne_X5_refuses rfl rfl rfl (by decide +kernel) ⟨Nat.le_of_ble_eq_true rfl, Nat.le_of_ble_eq_true rfl⟩) (z_recv (q := (RX5, TX5, 9)) hK (hP 0 _ rfl) rfl) (zM_of hP) rfl hl.1 rfl (Nat.le_of_ble_eq_true rfl) dX5_entersOne_76 ⟨Nat.zero_le _, Nat.zero_le _⟩ ?_
      refine lv_istore_n (lv' := [(2, .int (rfsI d (cl (V0 tx len a)) (cl (V1 tx len a)) (VH tx len a) (V4 tx len a))), (1, .int (VH tx len a)), (0, .ref m)]) hx hb dX5_entersOne_79 rfl hl (by decide) rfl (fun ls hl => ?_)
      refine lv_iload_n hx hb dX5_entersOne_80 rfl (lv_at hl 0 rfl) ?_
      refine lv_if_gt (tgt := 91) hx hb dX5_entersOne_81 (by decide) (fun c81 => ?_) (fun c81 => ?_)
      · first | exact absurd c81 (by rw [p3]; decide) | exact absurd c88 (by rw [p4]; decide)
      · refine lv_aload_n hx hb dX5_entersOne_84 rfl (lv_at hl 2 rfl) ?_
        refine z_callV (As := []) (rest := []) hF hK (c_X5_isFull l D y m d (hI)) (cwV 0 hts gX5_entersOne_X5_isFull rfl rfl rfl (by decide +kernel) ⟨Nat.le_of_ble_eq_true rfl, Nat.le_of_ble_eq_true rfl⟩) (z_recv (q := (RX5, TX5, 9)) hK (hP 0 _ rfl) rfl) (zM_of hP) rfl hl.1 rfl (Nat.le_of_ble_eq_true rfl) dX5_entersOne_85 ⟨Nat.zero_le _, Nat.zero_le _⟩ ?_
        refine z_ifeq (tgt := 101) hx hb dX5_entersOne_88 (by decide) (fun c88 => ?_) (fun c88 => ?_)
        · refine lv_aload_n hx hb dX5_entersOne_101 rfl (lv_at hl 2 rfl) ?_
          refine lv_aload_n hx hb dX5_entersOne_102 rfl (lv_at hl 2 rfl) ?_
          refine z_get (fs := [.ref (m + 1), .ref (m + 2), .int (nI k), .ref (m + 3), .ref (m + 4), .int (nI len), .int (nI (nxA tx len a)), .int rs, .ref (m + 5)]) (ref := "CranePermitsModel") (C := RX5) (T := TX5) (N := 9) (ci := 5) (v := .ref (m + 5)) hx hb hts i_c_X5_entersOne_ok_X5 hown hK (hP 0 _ rfl) 8 (by decide) rfl (hts (.fieldLink RX5 23 "CranePermitsModel" "got" "[I") (List.mem_of_getElem? (i := 1) rfl)) rfl rfl dX5_entersOne_103 ?_
          refine lv_iconst (v := (nI 0)) hx hb dX5_entersOne_106 (by decide) ?_
          refine z_iald (f := (upd (upd (upd (upd (upd gt 0 (V0 tx len a)) 1 (V1 tx len a)) 2 (V2 tx len a)) 3 (V3 tx len a)) 4 (V4 tx len a))) hx hb hK (hP 5 _ rfl) (by omega) (by decide) dX5_entersOne_107 ?_
          refine z_topi (z := (nI (cl (V0 tx len a)))) ((show _ = V0 tx len a from rfl).trans e0) ?_
          refine lv_aload_n hx hb dX5_entersOne_108 rfl (lv_at hl 2 rfl) ?_
          refine z_get (fs := [.ref (m + 1), .ref (m + 2), .int (nI k), .ref (m + 3), .ref (m + 4), .int (nI len), .int (nI (nxA tx len a)), .int rs, .ref (m + 5)]) (ref := "CranePermitsModel") (C := RX5) (T := TX5) (N := 9) (ci := 5) (v := .ref (m + 5)) hx hb hts i_c_X5_entersOne_ok_X5 hown hK (hP 0 _ rfl) 8 (by decide) rfl (hts (.fieldLink RX5 23 "CranePermitsModel" "got" "[I") (List.mem_of_getElem? (i := 1) rfl)) rfl rfl dX5_entersOne_109 ?_
          refine lv_iconst (v := (nI 1)) hx hb dX5_entersOne_112 (by decide) ?_
          refine z_iald (f := (upd (upd (upd (upd (upd gt 0 (V0 tx len a)) 1 (V1 tx len a)) 2 (V2 tx len a)) 3 (V3 tx len a)) 4 (V4 tx len a))) hx hb hK (hP 5 _ rfl) (by omega) (by decide) dX5_entersOne_113 ?_
          refine z_topi (z := (nI (cl (V1 tx len a)))) ((show _ = V1 tx len a from rfl).trans e1) ?_
          refine lv_iload_n hx hb dX5_entersOne_114 rfl (lv_at hl 1 rfl) ?_
          refine lv_aload_n hx hb dX5_entersOne_115 rfl (lv_at hl 2 rfl) ?_
          refine z_get (fs := [.ref (m + 1), .ref (m + 2), .int (nI k), .ref (m + 3), .ref (m + 4), .int (nI len), .int (nI (nxA tx len a)), .int rs, .ref (m + 5)]) (ref := "CranePermitsModel") (C := RX5) (T := TX5) (N := 9) (ci := 5) (v := .ref (m + 5)) hx hb hts i_c_X5_entersOne_ok_X5 hown hK (hP 0 _ rfl) 8 (by decide) rfl (hts (.fieldLink RX5 23 "CranePermitsModel" "got" "[I") (List.mem_of_getElem? (i := 1) rfl)) rfl rfl dX5_entersOne_116 ?_
          refine lv_iconst (v := (nI 4)) hx hb dX5_entersOne_119 (by decide) ?_
          refine z_iald (f := (upd (upd (upd (upd (upd gt 0 (V0 tx len a)) 1 (V1 tx len a)) 2 (V2 tx len a)) 3 (V3 tx len a)) 4 (V4 tx len a))) hx hb hK (hP 5 _ rfl) (by omega) (by decide) dX5_entersOne_120 ?_
          refine z_topi (z := (V4 tx len a)) (rfl) ?_
          refine w_callV (As := [.int (nI (cl (V0 tx len a))), .int (nI (cl (V1 tx len a))), .int (VH tx len a), .int (V4 tx len a)]) (rest := []) hF hK (c_X5_grants l D y m d was as tx (upd (upd (upd (upd (upd gt 0 (V0 tx len a)) 1 (V1 tx len a)) 2 (V2 tx len a)) 3 (V3 tx len a)) 4 (V4 tx len a)) k (nI len) (nI (nxA tx len a)) rs (cl (V0 tx len a)) (cl (V1 tx len a)) (VH tx len a) (V4 tx len a) (hI) (by omega)) (cwV 4 hts gX5_entersOne_X5_grants rfl rfl rfl (by decide +kernel) ⟨Nat.le_of_ble_eq_true rfl, Nat.le_of_ble_eq_true rfl⟩) (z_recv (q := (RX5, TX5, 9)) hK (hP 0 _ rfl) rfl) hP hS (fun q h => h) rfl hl.1 rfl (Nat.le_of_ble_eq_true rfl) dX5_entersOne_121 ⟨Nat.zero_le _, Nat.zero_le _⟩ (fun H2 locs1 hP hz hk hS => ?_)
          have hP : va_P D vwCl (mWs y m (graD d (cl (V0 tx len a)) (cl (V1 tx len a)) (VH tx len a) (V4 tx len a)) was as tx (upd (upd (upd (upd (upd gt 0 (V0 tx len a)) 1 (V1 tx len a)) 2 (V2 tx len a)) 3 (V3 tx len a)) 4 (V4 tx len a)) (nI k) (nI len) (nI (nxA tx len a)) rs) H2 := hP
          clear hz hk
          refine lv_pop hx hb dX5_entersOne_124 rfl ?_
          refine lv_iconst (v := (nI 0)) hx hb dX5_entersOne_125 (by decide) ?_
          exact w_reti hx hb hr hlocks hS (hP) (rfl) dX5_entersOne_126
        · first | exact absurd c81 (by rw [p3]; decide) | exact absurd c88 (by rw [p4]; decide)
    · exact absurd p2 (bf c50)
  · exact absurd c4 (by decide)
theorem i_c_X5_entersOne_no_X5 : ∀ w ∈ wsX50, w ∈ wsX5_entersOne := fun w h => (List.mem_cons_of_mem _ (List.mem_append_right _ h))
set_option maxRecDepth 100000 in
set_option maxHeartbeats 4000000 in
theorem c_X5_entersOne_no (l : Launch) (D : va_G) (y : zY) (m : Nat) (d : Nat → Int32) (was : Nat → Int32) (as : Nat → Int32) (tx : Nat → Int32) (gt : Nat → Int32) (k : Nat) (rs : Int32) (len : Nat) (a : Nat) (hI : zI d) (hlen : len ≤ 80) (ha : a ≤ len) (hno : oneB d tx len a = false) : Met l yX5_entersOne wsX5_entersOne ({ frames := 6, cells := 0, slots := 0, locals := 150 }) (zP [.ref m] (va_P D vwCl (mWs y m d was as tx gt (nI k) (nI len) (nI a) rs)) D y) (zW (some (.int (eOne d tx len a))) (fun H => ∃ (gt' : Nat → Int32) (pa' : Int32), va_P D vwCl (mWs y m d was as tx gt' (nI k) (nI len) pa' rs) H) (blk m 6)) 0 0 (blk m 6) := by
  refine z_body (cc := cX5_entersOne) (maxL := 3) (ret := (some .int)) (la := [(0, .ref m)]) (by decide) rfl (Nat.le_of_ble_eq_true rfl) rfl ?_
  intro pg ev s mm below meth c0 ls hx hb hr hF hlocks hΦ hK hl _
  have hts := hF.2.2.2.2
  have hown : s.vm.findClass RX5 = some mm.cls := hF.2.2.2.1
  have hP : va_P D vwCl (mWs y m d was as tx gt (nI k) (nI len) (nI a) rs) s.heap := hΦ
  have hS : va_S (blk m 6) s.heap s.heap [] := va_S.rf
  have hG2 := hI.ng2
  have hC8 := hI.nc8
  refine lv_aload_n hx hb dX5_entersOne_0 rfl (lv_at hl 0 rfl) ?_
  by_cases hfm : fmB tx len a = true
  · refine w_callV (As := []) (rest := []) hF hK (c_X5_readsForm_ok l D y m d was as tx gt k rs len a (by omega) (by omega) (hfm)) (cwV 0 hts gX5_entersOne_X5_readsForm rfl rfl rfl (by decide +kernel) ⟨Nat.le_of_ble_eq_true rfl, Nat.le_of_ble_eq_true rfl⟩) (z_recv (q := (RX5, TX5, 9)) hK (hP 0 _ rfl) rfl) hP hS (fun q h => h) rfl hl.1 rfl (Nat.le_of_ble_eq_true rfl) dX5_entersOne_1 ⟨Nat.zero_le _, Nat.zero_le _⟩ (fun H1 locs1 hP hz hk hS => ?_)
    have hP : va_P D vwCl (mWs y m d was as tx (upd (upd (upd (upd (upd gt 0 (V0 tx len a)) 1 (V1 tx len a)) 2 (V2 tx len a)) 3 (V3 tx len a)) 4 (V4 tx len a)) (nI k) (nI len) (nI (nxA tx len a)) rs) H1 := hP
    clear hz hk
    refine z_ifne (tgt := 10) hx hb dX5_entersOne_4 (by decide) (fun c4 => ?_) (fun c4 => ?_)
    · refine lv_bipush (v := (nI 10)) hx hb dX5_entersOne_10 (by decide) ?_
      refine lv_aload_n hx hb dX5_entersOne_12 rfl (lv_at hl 0 rfl) ?_
      refine z_get (fs := [.ref (m + 1), .ref (m + 2), .int (nI k), .ref (m + 3), .ref (m + 4), .int (nI len), .int (nI (nxA tx len a)), .int rs, .ref (m + 5)]) (ref := "CranePermitsModel") (C := RX5) (T := TX5) (N := 9) (ci := 5) (v := .ref (m + 5)) hx hb hts i_c_X5_entersOne_no_X5 hown hK (hP 0 _ rfl) 8 (by decide) rfl (hts (.fieldLink RX5 23 "CranePermitsModel" "got" "[I") (List.mem_of_getElem? (i := 1) rfl)) rfl rfl dX5_entersOne_13 ?_
      refine lv_iconst (v := (nI 2)) hx hb dX5_entersOne_16 (by decide) ?_
      refine z_iald (f := (upd (upd (upd (upd (upd gt 0 (V0 tx len a)) 1 (V1 tx len a)) 2 (V2 tx len a)) 3 (V3 tx len a)) 4 (V4 tx len a))) hx hb hK (hP 5 _ rfl) (by omega) (by decide) dX5_entersOne_17 ?_
      refine z_topi (z := (V2 tx len a)) (rfl) ?_
      refine lv_imul hx hb dX5_entersOne_18 ?_
      refine lv_aload_n hx hb dX5_entersOne_19 rfl (lv_at hl 0 rfl) ?_
      refine z_get (fs := [.ref (m + 1), .ref (m + 2), .int (nI k), .ref (m + 3), .ref (m + 4), .int (nI len), .int (nI (nxA tx len a)), .int rs, .ref (m + 5)]) (ref := "CranePermitsModel") (C := RX5) (T := TX5) (N := 9) (ci := 5) (v := .ref (m + 5)) hx hb hts i_c_X5_entersOne_no_X5 hown hK (hP 0 _ rfl) 8 (by decide) rfl (hts (.fieldLink RX5 23 "CranePermitsModel" "got" "[I") (List.mem_of_getElem? (i := 1) rfl)) rfl rfl dX5_entersOne_20 ?_
      refine lv_iconst (v := (nI 3)) hx hb dX5_entersOne_23 (by decide) ?_
      refine z_iald (f := (upd (upd (upd (upd (upd gt 0 (V0 tx len a)) 1 (V1 tx len a)) 2 (V2 tx len a)) 3 (V3 tx len a)) 4 (V4 tx len a))) hx hb hK (hP 5 _ rfl) (by omega) (by decide) dX5_entersOne_24 ?_
      refine z_topi (z := (V3 tx len a)) (rfl) ?_
      refine lv_iadd hx hb dX5_entersOne_25 ?_
      refine z_topi (z := (VH tx len a)) (rfl) ?_
      refine lv_istore_n (lv' := [(1, .int (VH tx len a)), (0, .ref m)]) hx hb dX5_entersOne_26 rfl hl (by decide) rfl (fun ls hl => ?_)
      refine lv_aload_n hx hb dX5_entersOne_27 rfl (lv_at hl 1 rfl) ?_
      refine lv_aload_n hx hb dX5_entersOne_28 rfl (lv_at hl 1 rfl) ?_
      refine z_get (fs := [.ref (m + 1), .ref (m + 2), .int (nI k), .ref (m + 3), .ref (m + 4), .int (nI len), .int (nI (nxA tx len a)), .int rs, .ref (m + 5)]) (ref := "CranePermitsModel") (C := RX5) (T := TX5) (N := 9) (ci := 5) (v := .ref (m + 5)) hx hb hts i_c_X5_entersOne_no_X5 hown hK (hP 0 _ rfl) 8 (by decide) rfl (hts (.fieldLink RX5 23 "CranePermitsModel" "got" "[I") (List.mem_of_getElem? (i := 1) rfl)) rfl rfl dX5_entersOne_29 ?_
      refine lv_iconst (v := (nI 0)) hx hb dX5_entersOne_32 (by decide) ?_
      refine z_iald (f := (upd (upd (upd (upd (upd gt 0 (V0 tx len a)) 1 (V1 tx len a)) 2 (V2 tx len a)) 3 (V3 tx len a)) 4 (V4 tx len a))) hx hb hK (hP 5 _ rfl) (by omega) (by decide) dX5_entersOne_33 ?_
      refine z_topi (z := (V0 tx len a)) (rfl) ?_
      refine lv_aload_n hx hb dX5_entersOne_34 rfl (lv_at hl 1 rfl) ?_
      refine z_get (fs := [.ref (m + 1), .ref (m + 2), .int (nI k), .ref (m + 3), .ref (m + 4), .int (nI len), .int (nI (nxA tx len a)), .int rs, .ref (m + 5)]) (ref := "CranePermitsModel") (C := RX5) (T := TX5) (N := 9) (ci := 5) (v := .ref (m + 5)) hx hb hts i_c_X5_entersOne_no_X5 hown hK (hP 0 _ rfl) 8 (by decide) rfl (hts (.fieldLink RX5 23 "CranePermitsModel" "got" "[I") (List.mem_of_getElem? (i := 1) rfl)) rfl rfl dX5_entersOne_35 ?_
      refine lv_iconst (v := (nI 1)) hx hb dX5_entersOne_38 (by decide) ?_
      refine z_iald (f := (upd (upd (upd (upd (upd gt 0 (V0 tx len a)) 1 (V1 tx len a)) 2 (V2 tx len a)) 3 (V3 tx len a)) 4 (V4 tx len a))) hx hb hK (hP 5 _ rfl) (by omega) (by decide) dX5_entersOne_39 ?_
      refine z_topi (z := (V1 tx len a)) (rfl) ?_
      refine lv_iload_n hx hb dX5_entersOne_40 rfl (lv_at hl 0 rfl) ?_
      refine lv_aload_n hx hb dX5_entersOne_41 rfl (lv_at hl 1 rfl) ?_
      refine z_get (fs := [.ref (m + 1), .ref (m + 2), .int (nI k), .ref (m + 3), .ref (m + 4), .int (nI len), .int (nI (nxA tx len a)), .int rs, .ref (m + 5)]) (ref := "CranePermitsModel") (C := RX5) (T := TX5) (N := 9) (ci := 5) (v := .ref (m + 5)) hx hb hts i_c_X5_entersOne_no_X5 hown hK (hP 0 _ rfl) 8 (by decide) rfl (hts (.fieldLink RX5 23 "CranePermitsModel" "got" "[I") (List.mem_of_getElem? (i := 1) rfl)) rfl rfl dX5_entersOne_42 ?_
      refine lv_iconst (v := (nI 4)) hx hb dX5_entersOne_45 (by decide) ?_
      refine z_iald (f := (upd (upd (upd (upd (upd gt 0 (V0 tx len a)) 1 (V1 tx len a)) 2 (V2 tx len a)) 3 (V3 tx len a)) 4 (V4 tx len a))) hx hb hK (hP 5 _ rfl) (by omega) (by decide) dX5_entersOne_46 ?_
      refine z_topi (z := (V4 tx len a)) (rfl) ?_
      refine z_callV (As := [.int (V0 tx len a), .int (V1 tx len a), .int (VH tx len a), .int (V4 tx len a)]) (rest := []) hF hK (c_X5_isApplication l D y m d (V0 tx len a) (V1 tx len a) (VH tx len a) (V4 tx len a) (hI)) (cwV 4 hts gX5_entersOne_X5_isApplication rfl rfl rfl (by decide +kernel) ⟨Nat.le_of_ble_eq_true rfl, Nat.le_of_ble_eq_true rfl⟩) (z_recv (q := (RX5, TX5, 9)) hK (hP 0 _ rfl) rfl) (zM_of hP) rfl hl.1 rfl (Nat.le_of_ble_eq_true rfl) dX5_entersOne_47 ⟨Nat.zero_le _, Nat.zero_le _⟩ ?_
      refine z_ifne (tgt := 56) hx hb dX5_entersOne_50 (by decide) (fun c50 => ?_) (fun c50 => ?_)
      · obtain ⟨h0, e0, h1, e1⟩ := one_nat hI c50
        refine lv_aload_n hx hb dX5_entersOne_56 rfl (lv_at hl 1 rfl) ?_
        refine lv_aload_n hx hb dX5_entersOne_57 rfl (lv_at hl 1 rfl) ?_
        refine z_get (fs := [.ref (m + 1), .ref (m + 2), .int (nI k), .ref (m + 3), .ref (m + 4), .int (nI len), .int (nI (nxA tx len a)), .int rs, .ref (m + 5)]) (ref := "CranePermitsModel") (C := RX5) (T := TX5) (N := 9) (ci := 5) (v := .ref (m + 5)) hx hb hts i_c_X5_entersOne_no_X5 hown hK (hP 0 _ rfl) 8 (by decide) rfl (hts (.fieldLink RX5 23 "CranePermitsModel" "got" "[I") (List.mem_of_getElem? (i := 1) rfl)) rfl rfl dX5_entersOne_58 ?_
        refine lv_iconst (v := (nI 0)) hx hb dX5_entersOne_61 (by decide) ?_
        refine z_iald (f := (upd (upd (upd (upd (upd gt 0 (V0 tx len a)) 1 (V1 tx len a)) 2 (V2 tx len a)) 3 (V3 tx len a)) 4 (V4 tx len a))) hx hb hK (hP 5 _ rfl) (by omega) (by decide) dX5_entersOne_62 ?_
        refine z_topi (z := (nI (cl (V0 tx len a)))) ((show _ = V0 tx len a from rfl).trans e0) ?_
        refine lv_aload_n hx hb dX5_entersOne_63 rfl (lv_at hl 1 rfl) ?_
        refine z_get (fs := [.ref (m + 1), .ref (m + 2), .int (nI k), .ref (m + 3), .ref (m + 4), .int (nI len), .int (nI (nxA tx len a)), .int rs, .ref (m + 5)]) (ref := "CranePermitsModel") (C := RX5) (T := TX5) (N := 9) (ci := 5) (v := .ref (m + 5)) hx hb hts i_c_X5_entersOne_no_X5 hown hK (hP 0 _ rfl) 8 (by decide) rfl (hts (.fieldLink RX5 23 "CranePermitsModel" "got" "[I") (List.mem_of_getElem? (i := 1) rfl)) rfl rfl dX5_entersOne_64 ?_
        refine lv_iconst (v := (nI 1)) hx hb dX5_entersOne_67 (by decide) ?_
        refine z_iald (f := (upd (upd (upd (upd (upd gt 0 (V0 tx len a)) 1 (V1 tx len a)) 2 (V2 tx len a)) 3 (V3 tx len a)) 4 (V4 tx len a))) hx hb hK (hP 5 _ rfl) (by omega) (by decide) dX5_entersOne_68 ?_
        refine z_topi (z := (nI (cl (V1 tx len a)))) ((show _ = V1 tx len a from rfl).trans e1) ?_
        refine lv_iload_n hx hb dX5_entersOne_69 rfl (lv_at hl 0 rfl) ?_
        refine lv_aload_n hx hb dX5_entersOne_70 rfl (lv_at hl 1 rfl) ?_
        refine z_get (fs := [.ref (m + 1), .ref (m + 2), .int (nI k), .ref (m + 3), .ref (m + 4), .int (nI len), .int (nI (nxA tx len a)), .int rs, .ref (m + 5)]) (ref := "CranePermitsModel") (C := RX5) (T := TX5) (N := 9) (ci := 5) (v := .ref (m + 5)) hx hb hts i_c_X5_entersOne_no_X5 hown hK (hP 0 _ rfl) 8 (by decide) rfl (hts (.fieldLink RX5 23 "CranePermitsModel" "got" "[I") (List.mem_of_getElem? (i := 1) rfl)) rfl rfl dX5_entersOne_71 ?_
        refine lv_iconst (v := (nI 4)) hx hb dX5_entersOne_74 (by decide) ?_
        refine z_iald (f := (upd (upd (upd (upd (upd gt 0 (V0 tx len a)) 1 (V1 tx len a)) 2 (V2 tx len a)) 3 (V3 tx len a)) 4 (V4 tx len a))) hx hb hK (hP 5 _ rfl) (by omega) (by decide) dX5_entersOne_75 ?_
        refine z_topi (z := (V4 tx len a)) (rfl) ?_
        refine z_callV (As := [.int (nI (cl (V0 tx len a))), .int (nI (cl (V1 tx len a))), .int (VH tx len a), .int (V4 tx len a)]) (rest := []) hF hK (c_X5_refuses l D y m d (cl (V0 tx len a)) (cl (V1 tx len a)) (VH tx len a) (V4 tx len a) (hI) (by omega) (by omega)) (cwV 4 hts gX5_entersOne_X5_refuses rfl rfl rfl (by decide +kernel) ⟨Nat.le_of_ble_eq_true rfl, Nat.le_of_ble_eq_true rfl⟩) (z_recv (q := (RX5, TX5, 9)) hK (hP 0 _ rfl) rfl) (zM_of hP) rfl hl.1 rfl (Nat.le_of_ble_eq_true rfl) dX5_entersOne_76 ⟨Nat.zero_le _, Nat.zero_le _⟩ ?_
        refine lv_istore_n (lv' := [(2, .int (rfsI d (cl (V0 tx len a)) (cl (V1 tx len a)) (VH tx len a) (V4 tx len a))), (1, .int (VH tx len a)), (0, .ref m)]) hx hb dX5_entersOne_79 rfl hl (by decide) rfl (fun ls hl => ?_)
        refine lv_iload_n hx hb dX5_entersOne_80 rfl (lv_at hl 0 rfl) ?_
        refine lv_if_gt (tgt := 91) hx hb dX5_entersOne_81 (by decide) (fun c81 => ?_) (fun c81 => ?_)
        · refine lv_iload_n hx hb dX5_entersOne_91 rfl (lv_at hl 0 rfl) ?_
          refine lv_if_le (tgt := 99) hx hb dX5_entersOne_92 (by decide) (fun c92 => ?_) (fun c92 => ?_)
          · refine lv_iconst (v := (nI 5)) hx hb dX5_entersOne_99 (by decide) ?_
            exact w_reti hx hb hr hlocks hS (⟨_, _, hP⟩) (by unfold eOne; rw [if_pos hfm, if_pos c50]; first | (rw [if_pos (rfs_le c92)]; done) | (rw [if_neg (fun q => c92 (by rw [q]; decide))]; done)) dX5_entersOne_100
          · refine lv_iload_n hx hb dX5_entersOne_95 rfl (lv_at hl 0 rfl) ?_
            refine lv_goto (tgt := 100) hx hb dX5_entersOne_96 (by decide) ?_
            exact w_reti hx hb hr hlocks hS (⟨_, _, hP⟩) (by unfold eOne; rw [if_pos hfm, if_pos c50]; first | (rw [if_pos (rfs_le c92)]; done) | (rw [if_neg (fun q => c92 (by rw [q]; decide))]; done)) dX5_entersOne_100
        · refine lv_aload_n hx hb dX5_entersOne_84 rfl (lv_at hl 2 rfl) ?_
          refine z_callV (As := []) (rest := []) hF hK (c_X5_isFull l D y m d (hI)) (cwV 0 hts gX5_entersOne_X5_isFull rfl rfl rfl (by decide +kernel) ⟨Nat.le_of_ble_eq_true rfl, Nat.le_of_ble_eq_true rfl⟩) (z_recv (q := (RX5, TX5, 9)) hK (hP 0 _ rfl) rfl) (zM_of hP) rfl hl.1 rfl (Nat.le_of_ble_eq_true rfl) dX5_entersOne_85 ⟨Nat.zero_le _, Nat.zero_le _⟩ ?_
          refine z_ifeq (tgt := 101) hx hb dX5_entersOne_88 (by decide) (fun c88 => ?_) (fun c88 => ?_)
          · exact absurd (show oneB d tx len a = true by unfold oneB; rw [hfm, c50, rfs_le (Int32.not_lt.mp c81), c88]; rfl) (bf hno)
          · refine lv_iload_n hx hb dX5_entersOne_91 rfl (lv_at hl 0 rfl) ?_
            refine lv_if_le (tgt := 99) hx hb dX5_entersOne_92 (by decide) (fun c92 => ?_) (fun c92 => ?_)
            · refine lv_iconst (v := (nI 5)) hx hb dX5_entersOne_99 (by decide) ?_
              exact w_reti hx hb hr hlocks hS (⟨_, _, hP⟩) (by unfold eOne; rw [if_pos hfm, if_pos c50]; first | (rw [if_pos (rfs_le c92)]; done) | (rw [if_neg (fun q => c92 (by rw [q]; decide))]; done)) dX5_entersOne_100
            · refine lv_iload_n hx hb dX5_entersOne_95 rfl (lv_at hl 0 rfl) ?_
              refine lv_goto (tgt := 100) hx hb dX5_entersOne_96 (by decide) ?_
              exact w_reti hx hb hr hlocks hS (⟨_, _, hP⟩) (by unfold eOne; rw [if_pos hfm, if_pos c50]; first | (rw [if_pos (rfs_le c92)]; done) | (rw [if_neg (fun q => c92 (by rw [q]; decide))]; done)) dX5_entersOne_100
      · refine lv_bipush (v := (nI 12)) hx hb dX5_entersOne_53 (by decide) ?_
        exact w_reti hx hb hr hlocks hS (⟨_, _, hP⟩) (by unfold eOne; rw [if_pos hfm, if_neg (bf c50)]) dX5_entersOne_55
    · refine lv_bipush (v := (nI 11)) hx hb dX5_entersOne_7 (by decide) ?_
      exact w_reti hx hb hr hlocks hS (⟨_, _, hP⟩) (by first | exact absurd c4 (by decide) | (unfold eOne; rw [if_neg (bf hfm)])) dX5_entersOne_9
  · have hfm : fmB tx len a = false := by simpa using hfm
    refine w_callV (As := []) (rest := []) hF hK (c_X5_readsForm_no l D y m d was as tx gt k rs len a (by omega) (by omega) (hfm)) (cwV 0 hts gX5_entersOne_X5_readsForm rfl rfl rfl (by decide +kernel) ⟨Nat.le_of_ble_eq_true rfl, Nat.le_of_ble_eq_true rfl⟩) (z_recv (q := (RX5, TX5, 9)) hK (hP 0 _ rfl) rfl) hP hS (fun q h => h) rfl hl.1 rfl (Nat.le_of_ble_eq_true rfl) dX5_entersOne_1 ⟨Nat.zero_le _, Nat.zero_le _⟩ (fun H2 locs1 hP hz hk hS => ?_)
    obtain ⟨gx1, px1, hP⟩ := hP
    have hP : va_P D vwCl (mWs y m d was as tx gx1 (nI k) (nI len) px1 rs) H2 := hP
    clear hz hk
    refine z_ifne (tgt := 10) hx hb dX5_entersOne_4 (by decide) (fun c4 => ?_) (fun c4 => ?_)
    · exact absurd c4 (by decide)
    · refine lv_bipush (v := (nI 11)) hx hb dX5_entersOne_7 (by decide) ?_
      exact w_reti hx hb hr hlocks hS (⟨_, _, hP⟩) (by first | exact absurd c4 (by decide) | (unfold eOne; rw [if_neg (bf hfm)])) dX5_entersOne_9
theorem i_c_X5_faulty_X5 : ∀ w ∈ wsX50, w ∈ wsX5_faulty := fun w h => (List.mem_cons_of_mem _ (List.mem_append_right _ h))
set_option maxRecDepth 100000 in
set_option maxHeartbeats 4000000 in
theorem c_X5_faulty (l : Launch) (D : va_G) (y : zY) (m : Nat) (d : Nat → Int32) (was : Nat → Int32) (as : Nat → Int32) (tx : Nat → Int32) (gt : Nat → Int32) (k : Nat) (pa : Int32) (rs : Int32) (len : Nat) (hI : zI d) (hlen : len ≤ 80) : Met l yX5_faulty wsX5_faulty ({ frames := 7, cells := 0, slots := 0, locals := 172 }) (zP [.ref m] (va_P D vwCl (mWs y m d was as tx gt (nI k) (nI len) pa rs)) D y) (zW (some (.int (fPl d tx len))) (fun H => ∃ (as' gt' : Nat → Int32) (pa' rs' : Int32), va_P D vwCl (mWs y m d was as' tx gt' (nI k) (nI len) pa' rs') H ∧ (¬ fPl d tx len = (-1004) → rs' = fRe d tx len)) (blk m 6)) 0 0 (blk m 6) := by
  refine z_body (cc := cX5_faulty) (maxL := 3) (ret := (some .int)) (la := [(0, .ref m)]) (by decide) rfl (Nat.le_of_ble_eq_true rfl) rfl ?_
  intro pg ev s mm below meth c0 ls hx hb hr hF hlocks hΦ hK hl _
  have hts := hF.2.2.2.2
  have hown : s.vm.findClass RX5 = some mm.cls := hF.2.2.2.1
  have hP : va_P D vwCl (mWs y m d was as tx gt (nI k) (nI len) pa rs) s.heap := hΦ
  have hS : va_S (blk m 6) s.heap s.heap [] := va_S.rf
  have hG2 := hI.ng2
  have hC8 := hI.nc8
  refine lv_iconst (v := (nI 0)) hx hb dX5_faulty_0 (by decide) ?_
  refine lv_istore_n (lv' := [(1, .int (nI 0)), (0, .ref m)]) hx hb dX5_faulty_1 rfl hl (by decide) rfl (fun ls hl => ?_)
  refine z_loopW (S := Nat) (nL := 3) (fun (i : Nat) => 1445 - i) (fun (i : Nat) => [(1, .int (nI i)), (0, .ref m)]) (fun (i : Nat) (H : Heap) (locs : List Loc) => va_P D vwCl (mWs y m d was (cpN as d 0 i) tx gt (nI k) (nI len) pa rs) H ∧ va_S (blk m 6) s.heap H locs ∧ (i ≤ 1445)) 0 ⟨by rw [cp_0]; exact hP, hS, by omega⟩ (lv_sub hl [0, 1] rfl) ?_
  clear hl hP hS
  rintro i H1 locs ls ⟨hP, hS, hI_2⟩ hl ih_2
  have hi := hI_2
  refine lv_iload_n hx hb dX5_faulty_2 rfl (lv_at hl 0 rfl) ?_
  refine lv_sipush (v := (nI 1445)) hx hb dX5_faulty_3 (by decide) ?_
  refine z_ge (tgt := 27) hx hb (by omega) (by omega) dX5_faulty_6 (by decide) (fun c6 => ?_) (fun c6 => ?_)
  · refine lv_sipush (v := (-1004)) hx hb dX5_faulty_27 (by decide) ?_
    refine lv_istore_n (lv' := [(1, .int (-1004)), (0, .ref m)]) hx hb dX5_faulty_30 rfl hl (by decide) rfl (fun ls hl => ?_)
    refine lv_aload_n hx hb dX5_faulty_31 rfl (lv_at hl 1 rfl) ?_
    refine lv_iconst (v := (nI 0)) hx hb dX5_faulty_32 (by decide) ?_
    refine y_put (a := m) (fs := [.ref (m + 1), .ref (m + 2), .int (nI k), .ref (m + 3), .ref (m + 4), .int (nI len), .int pa, .int rs, .ref (m + 5)]) (ref := "CranePermitsModel") (C := RX5) (T := TX5) (N := 9) (ci := 5) (v := .int (nI 0)) (ty := .int) hx hb hts i_c_X5_faulty_X5 tyX5 tyX5_ok nmX5 hown hK (hP 0 _ rfl) 6 (by decide) rfl (hts (.fieldLink RX5 149 "CranePermitsModel" "at" "I") (List.mem_of_getElem? (i := 3) rfl)) rfl rfl (by decide +kernel) (rfl) rfl (Nat.le_of_ble_eq_true rfl) dX5_faulty_33 (fun H2 x1 hU hV => ?_)
    have hS := hS.upd (x := x1) hU (blk_in (by omega) (by omega))
    have hP : va_P D vwCl (mWs y m d was (cpN as d 0 i) tx gt (nI k) (nI len) (nI 0) rs) H2 := hP.upd (q0 := 0) mWs_D rfl hU hV
    clear hU hV
    refine z_loopW (S := Nat × Int32 × (Nat → Int32) × Int32 × Int32) (nL := 3) (fun (σ : Nat × Int32 × (Nat → Int32) × Int32 × Int32) => match σ with | (i, f, gt, pa, rs) => 2 * (100 - i) + (if f = (-1004) then 1 else 0)) (fun (σ : Nat × Int32 × (Nat → Int32) × Int32 × Int32) => match σ with | (i, f, gt, pa, rs) => [(1, .int f), (0, .ref m)]) (fun (σ : Nat × Int32 × (Nat → Int32) × Int32 × Int32) (H : Heap) (locs : List Loc) => match σ with | (i, f, gt, pa, rs) => va_P D vwCl (mWs y m (fD d tx len i) was (cpN as d 0 1445) tx gt (nI k) (nI len) pa rs) H ∧ va_S (blk m 6) s.heap H locs ∧ ((∀ j, j < i → (!goB d tx len j) = false) ∧ i ≤ 17 ∧ ((f = (-1004) ∧ pa = nI (fA d tx len i)) ∨ (f = nI (fA d tx len i) ∧ fA d tx len i < len ∧ oneB (fD d tx len i) tx len (fA d tx len i) = false ∧ rs = eOne (fD d tx len i) tx len (fA d tx len i))))) (0, (-1004), gt, (nI 0), rs) ⟨by rw [show i = 1445 by omega] at hP; exact hP, hS, ⟨fun j hj => absurd hj (Nat.not_lt_zero j), by omega, Or.inl ⟨rfl, rfl⟩⟩⟩ (lv_sub hl [0, 1] rfl) ?_
    clear hl hP hS
    rintro ⟨i, f, gt, pa, rs⟩ H3 locs ls ⟨hP, hS, hI_36⟩ hl ih_36
    dsimp only at hP hI_36 hl ih_36
    obtain ⟨hall, hi17, hst⟩ := hI_36
    have hz := fD_I hI hall
    have hal := fA_le hall
    have hag := fA_ge d tx len i
    refine lv_aload_n hx hb dX5_faulty_36 rfl (lv_at hl 1 rfl) ?_
    refine z_get (fs := [.ref (m + 1), .ref (m + 2), .int (nI k), .ref (m + 3), .ref (m + 4), .int (nI len), .int pa, .int rs, .ref (m + 5)]) (ref := "CranePermitsModel") (C := RX5) (T := TX5) (N := 9) (ci := 5) (v := .int pa) hx hb hts i_c_X5_faulty_X5 hown hK (hP 0 _ rfl) 6 (by decide) rfl (hts (.fieldLink RX5 149 "CranePermitsModel" "at" "I") (List.mem_of_getElem? (i := 3) rfl)) rfl rfl dX5_faulty_37 ?_
    refine lv_aload_n hx hb dX5_faulty_40 rfl (lv_at hl 1 rfl) ?_
    refine z_get (fs := [.ref (m + 1), .ref (m + 2), .int (nI k), .ref (m + 3), .ref (m + 4), .int (nI len), .int pa, .int rs, .ref (m + 5)]) (ref := "CranePermitsModel") (C := RX5) (T := TX5) (N := 9) (ci := 5) (v := .int (nI len)) hx hb hts i_c_X5_faulty_X5 hown hK (hP 0 _ rfl) 5 (by decide) rfl (hts (.fieldLink RX5 117 "CranePermitsModel" "typed" "I") (List.mem_of_getElem? (i := 4) rfl)) rfl rfl dX5_faulty_41 ?_
    refine lv_icmp_ge (tgt := 83) hx hb dX5_faulty_44 (by decide) (fun c44 => ?_) (fun c44 => ?_)
    · have hend := flt_end hlen hall hst (Or.inl c44)
      refine lv_iconst (v := (nI 0)) hx hb dX5_faulty_83 (by decide) ?_
      refine lv_istore_n (lv' := [(2, .int (nI 0)), (1, .int f), (0, .ref m)]) hx hb dX5_faulty_84 rfl hl (by decide) rfl (fun ls hl => ?_)
      have hl := lv_repl (l' := [(2, .int (nI 0)), (1, .int (fPl d tx len)), (0, .ref m)]) hl 1 rfl (congrArg Value.int (show f = (fPl d tx len) from hend.2.1.symm)) rfl
      refine z_loopW (S := Nat) (nL := 3) (fun (j : Nat) => 1445 - j) (fun (j : Nat) => [(2, .int (nI j)), (1, .int (fPl d tx len)), (0, .ref m)]) (fun (j : Nat) (H : Heap) (locs : List Loc) => va_P D vwCl (mWs y m (cpN (fD d tx len i) (cpN as d 0 1445) 0 j) was (cpN as d 0 1445) tx gt (nI k) (nI len) pa rs) H ∧ va_S (blk m 6) s.heap H locs ∧ (j ≤ 1445)) 0 ⟨by rw [cp_0]; exact hP, hS, by omega⟩ (lv_sub hl [0, 1, 2] rfl) ?_
      clear hl hP hS
      rintro j H4 locs ls ⟨hP, hS, hI_85⟩ hl ih_85
      have hj := hI_85
      refine lv_iload_n hx hb dX5_faulty_85 rfl (lv_at hl 0 rfl) ?_
      refine lv_sipush (v := (nI 1445)) hx hb dX5_faulty_86 (by decide) ?_
      refine z_ge (tgt := 110) hx hb (by omega) (by omega) dX5_faulty_89 (by decide) (fun c89 => ?_) (fun c89 => ?_)
      · refine lv_iload_n hx hb dX5_faulty_110 rfl (lv_at hl 1 rfl) ?_
        exact w_reti hx hb hr hlocks hS (⟨_, _, _, _, mWs_cong hP (fun i hi => by rw [show j = 1445 by omega]; exact cp_back _ _ _ i hi), hend.2.2⟩) (rfl) dX5_faulty_111
      · refine lv_aload_n hx hb dX5_faulty_92 rfl (lv_at hl 2 rfl) ?_
        refine z_get (fs := [.ref (m + 1), .ref (m + 2), .int (nI k), .ref (m + 3), .ref (m + 4), .int (nI len), .int pa, .int rs, .ref (m + 5)]) (ref := "CranePermitsModel") (C := RX5) (T := TX5) (N := 9) (ci := 5) (v := .ref (m + 1)) hx hb hts i_c_X5_faulty_X5 hown hK (hP 0 _ rfl) 0 (by decide) rfl (hts (.fieldLink RX5 7 "CranePermitsModel" "d" "[I") (List.mem_of_getElem? (i := 2) rfl)) rfl rfl dX5_faulty_93 ?_
        refine lv_iload_n hx hb dX5_faulty_96 rfl (lv_at hl 0 rfl) ?_
        refine lv_aload_n hx hb dX5_faulty_97 rfl (lv_at hl 2 rfl) ?_
        refine z_get (fs := [.ref (m + 1), .ref (m + 2), .int (nI k), .ref (m + 3), .ref (m + 4), .int (nI len), .int pa, .int rs, .ref (m + 5)]) (ref := "CranePermitsModel") (C := RX5) (T := TX5) (N := 9) (ci := 5) (v := .ref (m + 3)) hx hb hts i_c_X5_faulty_X5 hown hK (hP 0 _ rfl) 3 (by decide) rfl (hts (.fieldLink RX5 16 "CranePermitsModel" "aside" "[I") (List.mem_of_getElem? (i := 1) rfl)) rfl rfl dX5_faulty_98 ?_
        refine lv_iload_n hx hb dX5_faulty_101 rfl (lv_at hl 0 rfl) ?_
        refine z_iald (f := (cpN as d 0 1445)) hx hb hK (hP 3 _ rfl) (by omega) (by decide) dX5_faulty_102 ?_
        refine y_iast (a := (m + 1)) (f := (cpN (fD d tx len i) (cpN as d 0 1445) 0 j)) (i := j) hx hb hK (hP 1 _ rfl) (by omega) (by decide) dX5_faulty_103 (fun H5 hU hV => ?_)
        have hS := hS.upd (x := j) hU (blk_in (by omega) (by omega))
        have hP : va_P D vwCl (mWs y m (upd (cpN (fD d tx len i) (cpN as d 0 1445) 0 j) j ((cpN as d 0 1445) j)) was (cpN as d 0 1445) tx gt (nI k) (nI len) pa rs) H5 := hP.upd (q0 := 1) mWs_D rfl hU hV
        clear hU hV
        refine lv_iinc (v := (nI (j + 1))) (lv' := [(2, .int (nI (j + 1))), (1, .int (fPl d tx len)), (0, .ref m)]) hx hb dX5_faulty_104 hl (k := 0) rfl (in1 _) (by decide) rfl (fun ls hl => ?_)
        refine lv_goto (tgt := 85) hx hb dX5_faulty_107 (by decide) ?_
        exact ih_85 (j + 1) _ _ _ (by omega) ⟨by rw [cp_s0] at hP; exact hP, hS, by omega⟩ (lv_sub hl [0, 1, 2] rfl)
    · refine lv_iload_n hx hb dX5_faulty_47 rfl (lv_at hl 0 rfl) ?_
      refine lv_sipush (v := (-1004)) hx hb dX5_faulty_48 (by decide) ?_
      refine lv_icmp_ne (tgt := 83) hx hb dX5_faulty_51 (by decide) (fun c51 => ?_) (fun c51 => ?_)
      · have hend := flt_end hlen hall hst (Or.inr c51)
        refine lv_iconst (v := (nI 0)) hx hb dX5_faulty_83 (by decide) ?_
        refine lv_istore_n (lv' := [(2, .int (nI 0)), (1, .int f), (0, .ref m)]) hx hb dX5_faulty_84 rfl hl (by decide) rfl (fun ls hl => ?_)
        have hl := lv_repl (l' := [(2, .int (nI 0)), (1, .int (fPl d tx len)), (0, .ref m)]) hl 1 rfl (congrArg Value.int (show f = (fPl d tx len) from hend.2.1.symm)) rfl
        refine z_loopW (S := Nat) (nL := 3) (fun (j : Nat) => 1445 - j) (fun (j : Nat) => [(2, .int (nI j)), (1, .int (fPl d tx len)), (0, .ref m)]) (fun (j : Nat) (H : Heap) (locs : List Loc) => va_P D vwCl (mWs y m (cpN (fD d tx len i) (cpN as d 0 1445) 0 j) was (cpN as d 0 1445) tx gt (nI k) (nI len) pa rs) H ∧ va_S (blk m 6) s.heap H locs ∧ (j ≤ 1445)) 0 ⟨by rw [cp_0]; exact hP, hS, by omega⟩ (lv_sub hl [0, 1, 2] rfl) ?_
        clear hl hP hS
        rintro j H6 locs ls ⟨hP, hS, hI_85⟩ hl ih_85
        have hj := hI_85
        refine lv_iload_n hx hb dX5_faulty_85 rfl (lv_at hl 0 rfl) ?_
        refine lv_sipush (v := (nI 1445)) hx hb dX5_faulty_86 (by decide) ?_
        refine z_ge (tgt := 110) hx hb (by omega) (by omega) dX5_faulty_89 (by decide) (fun c89 => ?_) (fun c89 => ?_)
        · refine lv_iload_n hx hb dX5_faulty_110 rfl (lv_at hl 1 rfl) ?_
          exact w_reti hx hb hr hlocks hS (⟨_, _, _, _, mWs_cong hP (fun i hi => by rw [show j = 1445 by omega]; exact cp_back _ _ _ i hi), hend.2.2⟩) (rfl) dX5_faulty_111
        · refine lv_aload_n hx hb dX5_faulty_92 rfl (lv_at hl 2 rfl) ?_
          refine z_get (fs := [.ref (m + 1), .ref (m + 2), .int (nI k), .ref (m + 3), .ref (m + 4), .int (nI len), .int pa, .int rs, .ref (m + 5)]) (ref := "CranePermitsModel") (C := RX5) (T := TX5) (N := 9) (ci := 5) (v := .ref (m + 1)) hx hb hts i_c_X5_faulty_X5 hown hK (hP 0 _ rfl) 0 (by decide) rfl (hts (.fieldLink RX5 7 "CranePermitsModel" "d" "[I") (List.mem_of_getElem? (i := 2) rfl)) rfl rfl dX5_faulty_93 ?_
          refine lv_iload_n hx hb dX5_faulty_96 rfl (lv_at hl 0 rfl) ?_
          refine lv_aload_n hx hb dX5_faulty_97 rfl (lv_at hl 2 rfl) ?_
          refine z_get (fs := [.ref (m + 1), .ref (m + 2), .int (nI k), .ref (m + 3), .ref (m + 4), .int (nI len), .int pa, .int rs, .ref (m + 5)]) (ref := "CranePermitsModel") (C := RX5) (T := TX5) (N := 9) (ci := 5) (v := .ref (m + 3)) hx hb hts i_c_X5_faulty_X5 hown hK (hP 0 _ rfl) 3 (by decide) rfl (hts (.fieldLink RX5 16 "CranePermitsModel" "aside" "[I") (List.mem_of_getElem? (i := 1) rfl)) rfl rfl dX5_faulty_98 ?_
          refine lv_iload_n hx hb dX5_faulty_101 rfl (lv_at hl 0 rfl) ?_
          refine z_iald (f := (cpN as d 0 1445)) hx hb hK (hP 3 _ rfl) (by omega) (by decide) dX5_faulty_102 ?_
          refine y_iast (a := (m + 1)) (f := (cpN (fD d tx len i) (cpN as d 0 1445) 0 j)) (i := j) hx hb hK (hP 1 _ rfl) (by omega) (by decide) dX5_faulty_103 (fun H7 hU hV => ?_)
          have hS := hS.upd (x := j) hU (blk_in (by omega) (by omega))
          have hP : va_P D vwCl (mWs y m (upd (cpN (fD d tx len i) (cpN as d 0 1445) 0 j) j ((cpN as d 0 1445) j)) was (cpN as d 0 1445) tx gt (nI k) (nI len) pa rs) H7 := hP.upd (q0 := 1) mWs_D rfl hU hV
          clear hU hV
          refine lv_iinc (v := (nI (j + 1))) (lv' := [(2, .int (nI (j + 1))), (1, .int (fPl d tx len)), (0, .ref m)]) hx hb dX5_faulty_104 hl (k := 0) rfl (in1 _) (by decide) rfl (fun ls hl => ?_)
          refine lv_goto (tgt := 85) hx hb dX5_faulty_107 (by decide) ?_
          exact ih_85 (j + 1) _ _ _ (by omega) ⟨by rw [cp_s0] at hP; exact hP, hS, by omega⟩ (lv_sub hl [0, 1, 2] rfl)
      · have hpa : pa = nI (fA d tx len i) := by
          rcases hst with ⟨-, e⟩ | ⟨e, -⟩
          · exact e
          · exact absurd (e.symm.trans c51) (oI_ne4 (by omega))
        subst hpa
        subst c51
        have hlt : fA d tx len i < len := Nat.not_le.mp (fun q => c44 (nI_le q (by omega)))
        refine lv_aload_n hx hb dX5_faulty_54 rfl (lv_at hl 1 rfl) ?_
        refine z_get (fs := [.ref (m + 1), .ref (m + 2), .int (nI k), .ref (m + 3), .ref (m + 4), .int (nI len), .int (nI (fA d tx len i)), .int rs, .ref (m + 5)]) (ref := "CranePermitsModel") (C := RX5) (T := TX5) (N := 9) (ci := 5) (v := .int (nI (fA d tx len i))) hx hb hts i_c_X5_faulty_X5 hown hK (hP 0 _ rfl) 6 (by decide) rfl (hts (.fieldLink RX5 149 "CranePermitsModel" "at" "I") (List.mem_of_getElem? (i := 3) rfl)) rfl rfl dX5_faulty_55 ?_
        refine lv_istore_n (lv' := [(2, .int (nI (fA d tx len i))), (1, .int (-1004)), (0, .ref m)]) hx hb dX5_faulty_58 rfl hl (by decide) rfl (fun ls hl => ?_)
        refine lv_aload_n hx hb dX5_faulty_59 rfl (lv_at hl 2 rfl) ?_
        refine lv_aload_n hx hb dX5_faulty_60 rfl (lv_at hl 2 rfl) ?_
        by_cases hone : oneB (fD d tx len i) tx len (fA d tx len i) = true
        · refine w_callV (As := []) (rest := [.ref m]) hF hK (c_X5_entersOne_ok l D y m (fD d tx len i) was (cpN as d 0 1445) tx gt k rs len (fA d tx len i) (hz) (by omega) (by omega) (hone)) (cwV 0 hts gX5_faulty_X5_entersOne rfl rfl rfl (by decide +kernel) ⟨Nat.le_of_ble_eq_true rfl, Nat.le_of_ble_eq_true rfl⟩) (z_recv (q := (RX5, TX5, 9)) hK (hP 0 _ rfl) rfl) hP hS (fun q h => h) rfl hl.1 rfl (Nat.le_of_ble_eq_true rfl) dX5_faulty_61 ⟨Nat.zero_le _, Nat.zero_le _⟩ (fun H8 locs1 hP hz hk hS => ?_)
          have hP : va_P D vwCl (mWs y m (oneD (fD d tx len i) tx len (fA d tx len i)) was (cpN as d 0 1445) tx (upd (upd (upd (upd (upd gt 0 (V0 tx len (fA d tx len i))) 1 (V1 tx len (fA d tx len i))) 2 (V2 tx len (fA d tx len i))) 3 (V3 tx len (fA d tx len i))) 4 (V4 tx len (fA d tx len i))) (nI k) (nI len) (nI (nxA tx len (fA d tx len i))) rs) H8 := hP
          clear hz hk
          refine y_put (a := m) (fs := [.ref (m + 1), .ref (m + 2), .int (nI k), .ref (m + 3), .ref (m + 4), .int (nI len), .int (nI (nxA tx len (fA d tx len i))), .int rs, .ref (m + 5)]) (ref := "CranePermitsModel") (C := RX5) (T := TX5) (N := 9) (ci := 5) (v := .int (nI 0)) (ty := .int) hx hb hts i_c_X5_faulty_X5 tyX5 tyX5_ok nmX5 hown hK (hP 0 _ rfl) 7 (by decide) rfl (hts (.fieldLink RX5 165 "CranePermitsModel" "reason" "I") (List.mem_of_getElem? (i := 5) rfl)) rfl rfl (by decide +kernel) (rfl) rfl (Nat.le_of_ble_eq_true rfl) dX5_faulty_64 (fun H9 x1 hU hV => ?_)
          have hS := hS.upd (x := x1) hU (blk_in (by omega) (by omega))
          have hP : va_P D vwCl (mWs y m (oneD (fD d tx len i) tx len (fA d tx len i)) was (cpN as d 0 1445) tx (upd (upd (upd (upd (upd gt 0 (V0 tx len (fA d tx len i))) 1 (V1 tx len (fA d tx len i))) 2 (V2 tx len (fA d tx len i))) 3 (V3 tx len (fA d tx len i))) 4 (V4 tx len (fA d tx len i))) (nI k) (nI len) (nI (nxA tx len (fA d tx len i))) (nI 0)) H9 := hP.upd (q0 := 0) mWs_D rfl hU hV
          clear hU hV
          refine lv_aload_n hx hb dX5_faulty_67 rfl (lv_at hl 2 rfl) ?_
          refine z_get (fs := [.ref (m + 1), .ref (m + 2), .int (nI k), .ref (m + 3), .ref (m + 4), .int (nI len), .int (nI (nxA tx len (fA d tx len i))), .int (nI 0), .ref (m + 5)]) (ref := "CranePermitsModel") (C := RX5) (T := TX5) (N := 9) (ci := 5) (v := .int (nI 0)) hx hb hts i_c_X5_faulty_X5 hown hK (hP 0 _ rfl) 7 (by decide) rfl (hts (.fieldLink RX5 165 "CranePermitsModel" "reason" "I") (List.mem_of_getElem? (i := 5) rfl)) rfl rfl dX5_faulty_68 ?_
          refine lv_if_le (tgt := 78) hx hb dX5_faulty_71 (by decide) (fun c71 => ?_) (fun c71 => ?_)
          · refine lv_iload_n hx hb dX5_faulty_78 rfl (lv_at hl 1 rfl) ?_
            refine lv_istore_n (lv' := [(1, .int (-1004)), (2, .int (nI (fA d tx len i))), (0, .ref m)]) hx hb dX5_faulty_79 rfl hl (by decide) rfl (fun ls hl => ?_)
            refine lv_goto (tgt := 36) hx hb dX5_faulty_80 (by decide) ?_
            exact ih_36 ((i + 1), (-1004), upd (upd (upd (upd (upd gt 0 (V0 tx len (fA d tx len i))) 1 (V1 tx len (fA d tx len i))) 2 (V2 tx len (fA d tx len i))) 3 (V3 tx len (fA d tx len i))) 4 (V4 tx len (fA d tx len i)), (nI (nxA tx len (fA d tx len i))), (nI 0)) _ _ _ (by simp only [if_true]; omega) ⟨hP, hS, ⟨lt_sc hall (go_t hlt hone), by omega, Or.inl ⟨rfl, rfl⟩⟩⟩ (lv_sub hl [0, 2] rfl)
          · exact absurd (by decide) c71
        · have hone : oneB (fD d tx len i) tx len (fA d tx len i) = false := by simpa using hone
          refine w_callV (As := []) (rest := [.ref m]) hF hK (c_X5_entersOne_no l D y m (fD d tx len i) was (cpN as d 0 1445) tx gt k rs len (fA d tx len i) (hz) (by omega) (by omega) (hone)) (cwV 0 hts gX5_faulty_X5_entersOne rfl rfl rfl (by decide +kernel) ⟨Nat.le_of_ble_eq_true rfl, Nat.le_of_ble_eq_true rfl⟩) (z_recv (q := (RX5, TX5, 9)) hK (hP 0 _ rfl) rfl) hP hS (fun q h => h) rfl hl.1 rfl (Nat.le_of_ble_eq_true rfl) dX5_faulty_61 ⟨Nat.zero_le _, Nat.zero_le _⟩ (fun H10 locs1 hP hz hk hS => ?_)
          obtain ⟨gx1, px1, hP⟩ := hP
          have hP : va_P D vwCl (mWs y m (fD d tx len i) was (cpN as d 0 1445) tx gx1 (nI k) (nI len) px1 rs) H10 := hP
          clear hz hk
          refine y_put (a := m) (fs := [.ref (m + 1), .ref (m + 2), .int (nI k), .ref (m + 3), .ref (m + 4), .int (nI len), .int px1, .int rs, .ref (m + 5)]) (ref := "CranePermitsModel") (C := RX5) (T := TX5) (N := 9) (ci := 5) (v := .int (eOne (fD d tx len i) tx len (fA d tx len i))) (ty := .int) hx hb hts i_c_X5_faulty_X5 tyX5 tyX5_ok nmX5 hown hK (hP 0 _ rfl) 7 (by decide) rfl (hts (.fieldLink RX5 165 "CranePermitsModel" "reason" "I") (List.mem_of_getElem? (i := 5) rfl)) rfl rfl (by decide +kernel) (rfl) rfl (Nat.le_of_ble_eq_true rfl) dX5_faulty_64 (fun H11 x1 hU hV => ?_)
          have hS := hS.upd (x := x1) hU (blk_in (by omega) (by omega))
          have hP : va_P D vwCl (mWs y m (fD d tx len i) was (cpN as d 0 1445) tx gx1 (nI k) (nI len) px1 (eOne (fD d tx len i) tx len (fA d tx len i))) H11 := hP.upd (q0 := 0) mWs_D rfl hU hV
          clear hU hV
          refine lv_aload_n hx hb dX5_faulty_67 rfl (lv_at hl 2 rfl) ?_
          refine z_get (fs := [.ref (m + 1), .ref (m + 2), .int (nI k), .ref (m + 3), .ref (m + 4), .int (nI len), .int px1, .int (eOne (fD d tx len i) tx len (fA d tx len i)), .ref (m + 5)]) (ref := "CranePermitsModel") (C := RX5) (T := TX5) (N := 9) (ci := 5) (v := .int (eOne (fD d tx len i) tx len (fA d tx len i))) hx hb hts i_c_X5_faulty_X5 hown hK (hP 0 _ rfl) 7 (by decide) rfl (hts (.fieldLink RX5 165 "CranePermitsModel" "reason" "I") (List.mem_of_getElem? (i := 5) rfl)) rfl rfl dX5_faulty_68 ?_
          refine lv_if_le (tgt := 78) hx hb dX5_faulty_71 (by decide) (fun c71 => ?_) (fun c71 => ?_)
          · exact absurd c71 (eOne_pos hone)
          · refine lv_iload_n hx hb dX5_faulty_74 rfl (lv_at hl 0 rfl) ?_
            refine lv_goto (tgt := 79) hx hb dX5_faulty_75 (by decide) ?_
            refine lv_istore_n (lv' := [(1, .int (nI (fA d tx len i))), (2, .int (nI (fA d tx len i))), (0, .ref m)]) hx hb dX5_faulty_79 rfl hl (by decide) rfl (fun ls hl => ?_)
            refine lv_goto (tgt := 36) hx hb dX5_faulty_80 (by decide) ?_
            exact ih_36 (i, (nI (fA d tx len i)), gx1, px1, (eOne (fD d tx len i) tx len (fA d tx len i))) _ _ _ (by rw [if_neg (oI_ne4 (by omega)), if_pos rfl]; omega) ⟨hP, hS, ⟨hall, hi17, Or.inr ⟨rfl, hlt, hone, rfl⟩⟩⟩ (lv_sub hl [0, 2] rfl)
  · refine lv_aload_n hx hb dX5_faulty_9 rfl (lv_at hl 1 rfl) ?_
    refine z_get (fs := [.ref (m + 1), .ref (m + 2), .int (nI k), .ref (m + 3), .ref (m + 4), .int (nI len), .int pa, .int rs, .ref (m + 5)]) (ref := "CranePermitsModel") (C := RX5) (T := TX5) (N := 9) (ci := 5) (v := .ref (m + 3)) hx hb hts i_c_X5_faulty_X5 hown hK (hP 0 _ rfl) 3 (by decide) rfl (hts (.fieldLink RX5 16 "CranePermitsModel" "aside" "[I") (List.mem_of_getElem? (i := 1) rfl)) rfl rfl dX5_faulty_10 ?_
    refine lv_iload_n hx hb dX5_faulty_13 rfl (lv_at hl 0 rfl) ?_
    refine lv_aload_n hx hb dX5_faulty_14 rfl (lv_at hl 1 rfl) ?_
    refine z_get (fs := [.ref (m + 1), .ref (m + 2), .int (nI k), .ref (m + 3), .ref (m + 4), .int (nI len), .int pa, .int rs, .ref (m + 5)]) (ref := "CranePermitsModel") (C := RX5) (T := TX5) (N := 9) (ci := 5) (v := .ref (m + 1)) hx hb hts i_c_X5_faulty_X5 hown hK (hP 0 _ rfl) 0 (by decide) rfl (hts (.fieldLink RX5 7 "CranePermitsModel" "d" "[I") (List.mem_of_getElem? (i := 2) rfl)) rfl rfl dX5_faulty_15 ?_
    refine lv_iload_n hx hb dX5_faulty_18 rfl (lv_at hl 0 rfl) ?_
    refine z_iald (f := d) hx hb hK (hP 1 _ rfl) (by omega) (by decide) dX5_faulty_19 ?_
    refine y_iast (a := (m + 3)) (f := (cpN as d 0 i)) (i := i) hx hb hK (hP 3 _ rfl) (by omega) (by decide) dX5_faulty_20 (fun H12 hU hV => ?_)
    have hS := hS.upd (x := i) hU (blk_in (by omega) (by omega))
    have hP : va_P D vwCl (mWs y m d was (upd (cpN as d 0 i) i (d i)) tx gt (nI k) (nI len) pa rs) H12 := hP.upd (q0 := 3) mWs_D rfl hU hV
    clear hU hV
    refine lv_iinc (v := (nI (i + 1))) (lv' := [(1, .int (nI (i + 1))), (0, .ref m)]) hx hb dX5_faulty_21 hl (k := 0) rfl (in1 _) (by decide) rfl (fun ls hl => ?_)
    refine lv_goto (tgt := 2) hx hb dX5_faulty_24 (by decide) ?_
    exact ih_2 (i + 1) _ _ _ (by omega) ⟨by rw [cp_s0] at hP; exact hP, hS, by omega⟩ (lv_sub hl [0, 1] rfl)
theorem i_c_X5_fault_X5 : ∀ w ∈ wsX50, w ∈ wsX5_fault := fun w h => (List.mem_cons_of_mem _ (List.mem_append_right _ h))
set_option maxRecDepth 100000 in
set_option maxHeartbeats 4000000 in
theorem c_X5_fault (l : Launch) (D : va_G) (y : zY) (m : Nat) (d : Nat → Int32) (was : Nat → Int32) (as : Nat → Int32) (tx : Nat → Int32) (gt : Nat → Int32) (k : Nat) (pa : Int32) (rs : Int32) (len : Nat) (w : Int32) (hI : zI d) (hlen : len ≤ 80) : Met l yX5_fault wsX5_fault ({ frames := 8, cells := 0, slots := 0, locals := 194 }) (zP [.ref m, .int w] (va_P D vwCl (mWs y m d was as tx gt (nI k) (nI len) pa rs)) D y) (zW (some (.int (aFault d tx len w))) (fun H => ∃ (as' gt' : Nat → Int32) (pa' rs' : Int32), va_P D vwCl (mWs y m d was as' tx gt' (nI k) (nI len) pa' rs') H) (blk m 6)) 0 0 (blk m 6) := by
  refine z_body (cc := cX5_fault) (maxL := 3) (ret := (some .int)) (la := [(0, .ref m), (1, .int w)]) (by decide) rfl (Nat.le_of_ble_eq_true rfl) rfl ?_
  intro pg ev s mm below meth c0 ls hx hb hr hF hlocks hΦ hK hl _
  have hts := hF.2.2.2.2
  have hown : s.vm.findClass RX5 = some mm.cls := hF.2.2.2.1
  have hP : va_P D vwCl (mWs y m d was as tx gt (nI k) (nI len) pa rs) s.heap := hΦ
  have hS : va_S (blk m 6) s.heap s.heap [] := va_S.rf
  have hG2 := hI.ng2
  have hC8 := hI.nc8
  refine lv_iload_n hx hb dX5_fault_0 rfl (lv_at hl 1 rfl) ?_
  refine lv_iconst (v := (nI 0)) hx hb dX5_fault_1 (by decide) ?_
  refine lv_iconst (v := (nI 1)) hx hb dX5_fault_2 (by decide) ?_
  refine z_callS (As := [.int w, .int (nI 0), .int (nI 1)]) (rest := []) hF hK (c_X5_in l D y w (nI 0) (nI 1) ) (va_cwS 3 hts gX5_fault_X5_in rfl rfl rfl (by decide +kernel) ⟨Nat.le_of_ble_eq_true rfl, Nat.le_of_ble_eq_true rfl⟩) trivial rfl hl.1 rfl (Nat.le_of_ble_eq_true rfl) dX5_fault_3 ⟨Nat.zero_le _, Nat.zero_le _⟩ ?_
  refine z_ifne (tgt := 13) hx hb dX5_fault_6 (by decide) (fun c6 => ?_) (fun c6 => ?_)
  · refine lv_aload_n hx hb dX5_fault_13 rfl (lv_at hl 0 rfl) ?_
    refine w_callV (As := []) (rest := []) hF hK (c_X5_faulty l D y m d was as tx gt k pa rs len (hI) (by omega)) (cwV 0 hts gX5_fault_X5_faulty rfl rfl rfl (by decide +kernel) ⟨Nat.le_of_ble_eq_true rfl, Nat.le_of_ble_eq_true rfl⟩) (z_recv (q := (RX5, TX5, 9)) hK (hP 0 _ rfl) rfl) hP hS (fun q h => h) rfl hl.1 rfl (Nat.le_of_ble_eq_true rfl) dX5_fault_14 ⟨Nat.zero_le _, Nat.zero_le _⟩ (fun H1 locs1 hP hz hk hS => ?_)
    obtain ⟨ax1, gx1, px1, rx1, hP, hrx⟩ := hP
    have hP : va_P D vwCl (mWs y m d was ax1 tx gx1 (nI k) (nI len) px1 rx1) H1 := hP
    clear hz hk
    refine lv_istore_n (lv' := [(2, .int (fPl d tx len)), (0, .ref m), (1, .int w)]) hx hb dX5_fault_17 rfl hl (by decide) rfl (fun ls hl => ?_)
    refine lv_iload_n hx hb dX5_fault_18 rfl (lv_at hl 0 rfl) ?_
    refine lv_sipush (v := (-1004)) hx hb dX5_fault_19 (by decide) ?_
    refine lv_icmp_eq (tgt := 29) hx hb dX5_fault_22 (by decide) (fun c22 => ?_) (fun c22 => ?_)
    · refine lv_iload_n hx hb dX5_fault_29 rfl (lv_at hl 0 rfl) ?_
      refine lv_goto (tgt := 37) hx hb dX5_fault_30 (by decide) ?_
      exact w_reti hx hb hr hlocks hS (⟨_, _, _, _, hP⟩) (by unfold aFault; rw [if_pos c6]; first | (rw [if_pos c22]; done) | (rw [if_neg c22, if_pos c26]; done) | (rw [if_neg c22, if_neg c26, hrx c22]; done)) dX5_fault_37
    · refine lv_iload_n hx hb dX5_fault_25 rfl (lv_at hl 2 rfl) ?_
      refine lv_if_ne (tgt := 33) hx hb dX5_fault_26 (by decide) (fun c26 => ?_) (fun c26 => ?_)
      · refine lv_aload_n hx hb dX5_fault_33 rfl (lv_at hl 1 rfl) ?_
        refine z_get (fs := [.ref (m + 1), .ref (m + 2), .int (nI k), .ref (m + 3), .ref (m + 4), .int (nI len), .int px1, .int rx1, .ref (m + 5)]) (ref := "CranePermitsModel") (C := RX5) (T := TX5) (N := 9) (ci := 5) (v := .int rx1) hx hb hts i_c_X5_fault_X5 hown hK (hP 0 _ rfl) 7 (by decide) rfl (hts (.fieldLink RX5 165 "CranePermitsModel" "reason" "I") (List.mem_of_getElem? (i := 1) rfl)) rfl rfl dX5_fault_34 ?_
        exact w_reti hx hb hr hlocks hS (⟨_, _, _, _, hP⟩) (by unfold aFault; rw [if_pos c6]; first | (rw [if_pos c22]; done) | (rw [if_neg c22, if_pos c26]; done) | (rw [if_neg c22, if_neg c26, hrx c22]; done)) dX5_fault_37
      · refine lv_iload_n hx hb dX5_fault_29 rfl (lv_at hl 0 rfl) ?_
        refine lv_goto (tgt := 37) hx hb dX5_fault_30 (by decide) ?_
        exact w_reti hx hb hr hlocks hS (⟨_, _, _, _, hP⟩) (by unfold aFault; rw [if_pos c6]; first | (rw [if_pos c22]; done) | (rw [if_neg c22, if_pos c26]; done) | (rw [if_neg c22, if_neg c26, hrx c22]; done)) dX5_fault_37
  · refine lv_sipush (v := (-1001)) hx hb dX5_fault_9 (by decide) ?_
    exact w_reti hx hb hr hlocks hS (⟨_, _, _, _, hP⟩) (by unfold aFault; rw [if_neg (bf c6)]) dX5_fault_12
theorem i_c_X5_enter_ok_X5 : ∀ w ∈ wsX50, w ∈ wsX5_enter := fun w h => (List.mem_cons_of_mem _ (List.mem_append_right _ h))
set_option maxRecDepth 100000 in
set_option maxHeartbeats 4000000 in
theorem c_X5_enter_ok (l : Launch) (D : va_G) (y : zY) (m : Nat) (d : Nat → Int32) (was : Nat → Int32) (as : Nat → Int32) (tx : Nat → Int32) (gt : Nat → Int32) (k : Nat) (pa : Int32) (rs : Int32) (len : Nat) (hI : zI d) (hk4 : k ≤ 4) (hlen : len ≤ 80) (hok : fPl d tx len = (-1004)) : Met l yX5_enter wsX5_enter ({ frames := 8, cells := 0, slots := 0, locals := 194 }) (zP [.ref m] (va_P D vwCl (mWs y m d was as tx gt (nI k) (nI len) pa rs)) D y) (zW (some (.int (nI (fN d tx len)))) (fun H => ∃ (as' gt' : Nat → Int32) (pa' rs' : Int32), va_P D vwCl (mWs y m (fD d tx len (fN d tx len)) (recW d was k) as' tx gt' (nI (recN k)) (nI len) pa' rs') H) (blk m 6)) 0 0 (blk m 6) := by
  refine z_body (cc := cX5_enter) (maxL := 2) (ret := (some .int)) (la := [(0, .ref m)]) (by decide) rfl (Nat.le_of_ble_eq_true rfl) rfl ?_
  intro pg ev s mm below meth c0 ls hx hb hr hF hlocks hΦ hK hl _
  have hts := hF.2.2.2.2
  have hown : s.vm.findClass RX5 = some mm.cls := hF.2.2.2.1
  have hP : va_P D vwCl (mWs y m d was as tx gt (nI k) (nI len) pa rs) s.heap := hΦ
  have hS : va_S (blk m 6) s.heap s.heap [] := va_S.rf
  have hG2 := hI.ng2
  have hC8 := hI.nc8
  have hrk := recN_le hk4
  refine lv_aload_n hx hb dX5_enter_0 rfl (lv_at hl 0 rfl) ?_
  refine w_callV (As := []) (rest := []) hF hK (c_X5_faulty l D y m d was as tx gt k pa rs len (hI) (by omega)) (cwV 0 hts gX5_enter_X5_faulty rfl rfl rfl (by decide +kernel) ⟨Nat.le_of_ble_eq_true rfl, Nat.le_of_ble_eq_true rfl⟩) (z_recv (q := (RX5, TX5, 9)) hK (hP 0 _ rfl) rfl) hP hS (fun q h => h) rfl hl.1 rfl (Nat.le_of_ble_eq_true rfl) dX5_enter_1 ⟨Nat.zero_le _, Nat.zero_le _⟩ (fun H1 locs1 hP hz hk hS => ?_)
  obtain ⟨ax1, gx1, px1, rx1, hP, hrx⟩ := hP
  have hP : va_P D vwCl (mWs y m d was ax1 tx gx1 (nI k) (nI len) px1 rx1) H1 := hP
  clear hz hk
  refine lv_sipush (v := (-1004)) hx hb dX5_enter_4 (by decide) ?_
  refine lv_icmp_eq (tgt := 14) hx hb dX5_enter_7 (by decide) (fun c7 => ?_) (fun c7 => ?_)
  · refine lv_aload_n hx hb dX5_enter_14 rfl (lv_at hl 0 rfl) ?_
    refine w_callV (As := []) (rest := []) hF hK (c_X5_records l D y m d was ax1 tx gx1 k (nI len) px1 rx1 (by omega)) (cwV 0 hts gX5_enter_X5_records rfl rfl rfl (by decide +kernel) ⟨Nat.le_of_ble_eq_true rfl, Nat.le_of_ble_eq_true rfl⟩) (z_recv (q := (RX5, TX5, 9)) hK (hP 0 _ rfl) rfl) hP hS (fun q h => h) rfl hl.1 rfl (Nat.le_of_ble_eq_true rfl) dX5_enter_15 ⟨Nat.zero_le _, Nat.zero_le _⟩ (fun H2 locs1 hP hz hk hS => ?_)
    have hP : va_P D vwCl (mWs y m d (recW d was k) ax1 tx gx1 (nI (recN k)) (nI len) px1 rx1) H2 := hP
    clear hz hk
    refine lv_iconst (v := (nI 0)) hx hb dX5_enter_18 (by decide) ?_
    refine lv_istore_n (lv' := [(1, .int (nI 0)), (0, .ref m)]) hx hb dX5_enter_19 rfl hl (by decide) rfl (fun ls hl => ?_)
    refine lv_aload_n hx hb dX5_enter_20 rfl (lv_at hl 1 rfl) ?_
    refine lv_iconst (v := (nI 0)) hx hb dX5_enter_21 (by decide) ?_
    refine y_put (a := m) (fs := [.ref (m + 1), .ref (m + 2), .int (nI (recN k)), .ref (m + 3), .ref (m + 4), .int (nI len), .int px1, .int rx1, .ref (m + 5)]) (ref := "CranePermitsModel") (C := RX5) (T := TX5) (N := 9) (ci := 5) (v := .int (nI 0)) (ty := .int) hx hb hts i_c_X5_enter_ok_X5 tyX5 tyX5_ok nmX5 hown hK (hP 0 _ rfl) 6 (by decide) rfl (hts (.fieldLink RX5 149 "CranePermitsModel" "at" "I") (List.mem_of_getElem? (i := 1) rfl)) rfl rfl (by decide +kernel) (rfl) rfl (Nat.le_of_ble_eq_true rfl) dX5_enter_22 (fun H3 x1 hU hV => ?_)
    have hS := hS.upd (x := x1) hU (blk_in (by omega) (by omega))
    have hP : va_P D vwCl (mWs y m d (recW d was k) ax1 tx gx1 (nI (recN k)) (nI len) (nI 0) rx1) H3 := hP.upd (q0 := 0) mWs_D rfl hU hV
    clear hU hV
    refine z_loopW (S := Nat × (Nat → Int32)) (nL := 2) (fun (σ : Nat × (Nat → Int32)) => match σ with | (i, gt) => 100 - i) (fun (σ : Nat × (Nat → Int32)) => match σ with | (i, gt) => [(1, .int (nI i)), (0, .ref m)]) (fun (σ : Nat × (Nat → Int32)) (H : Heap) (locs : List Loc) => match σ with | (i, gt) => va_P D vwCl (mWs y m (fD d tx len i) (recW d was k) ax1 tx gt (nI (recN k)) (nI len) (nI (fA d tx len i)) rx1) H ∧ va_S (blk m 6) s.heap H locs ∧ ((∀ j, j < i → (!goB d tx len j) = false) ∧ i ≤ 17)) (0, gx1) ⟨hP, hS, ⟨fun j hj => absurd hj (Nat.not_lt_zero j), by omega⟩⟩ (lv_sub hl [0, 1] rfl) ?_
    clear hl hP hS
    rintro ⟨i, gt⟩ H4 locs ls ⟨hP, hS, hI_25⟩ hl ih_25
    dsimp only at hP hI_25 hl ih_25
    obtain ⟨hall, hi17⟩ := hI_25
    have hz := fD_I hI hall
    have hal := fA_le hall
    have hag := fA_ge d tx len i
    refine lv_aload_n hx hb dX5_enter_25 rfl (lv_at hl 1 rfl) ?_
    refine z_get (fs := [.ref (m + 1), .ref (m + 2), .int (nI (recN k)), .ref (m + 3), .ref (m + 4), .int (nI len), .int (nI (fA d tx len i)), .int rx1, .ref (m + 5)]) (ref := "CranePermitsModel") (C := RX5) (T := TX5) (N := 9) (ci := 5) (v := .int (nI (fA d tx len i))) hx hb hts i_c_X5_enter_ok_X5 hown hK (hP 0 _ rfl) 6 (by decide) rfl (hts (.fieldLink RX5 149 "CranePermitsModel" "at" "I") (List.mem_of_getElem? (i := 1) rfl)) rfl rfl dX5_enter_26 ?_
    refine lv_aload_n hx hb dX5_enter_29 rfl (lv_at hl 1 rfl) ?_
    refine z_get (fs := [.ref (m + 1), .ref (m + 2), .int (nI (recN k)), .ref (m + 3), .ref (m + 4), .int (nI len), .int (nI (fA d tx len i)), .int rx1, .ref (m + 5)]) (ref := "CranePermitsModel") (C := RX5) (T := TX5) (N := 9) (ci := 5) (v := .int (nI len)) hx hb hts i_c_X5_enter_ok_X5 hown hK (hP 0 _ rfl) 5 (by decide) rfl (hts (.fieldLink RX5 117 "CranePermitsModel" "typed" "I") (List.mem_of_getElem? (i := 2) rfl)) rfl rfl dX5_enter_30 ?_
    refine z_ge (tgt := 47) hx hb (by omega) (by omega) dX5_enter_33 (by decide) (fun c33 => ?_) (fun c33 => ?_)
    · have hN : fN d tx len = i := fN_is hlen hall (go_f1 c33)
      refine lv_iload_n hx hb dX5_enter_47 rfl (lv_at hl 0 rfl) ?_
      exact w_reti hx hb hr hlocks hS (⟨_, _, _, _, by rw [hN]; exact hP⟩) (by rw [hN]) dX5_enter_48
    · have hone := ent_go hlen hok hall c33
      refine lv_aload_n hx hb dX5_enter_36 rfl (lv_at hl 1 rfl) ?_
      refine w_callV (As := []) (rest := []) hF hK (c_X5_entersOne_ok l D y m (fD d tx len i) (recW d was k) ax1 tx gt (recN k) rx1 len (fA d tx len i) (hz) (by omega) (by omega) (hone)) (cwV 0 hts gX5_enter_X5_entersOne rfl rfl rfl (by decide +kernel) ⟨Nat.le_of_ble_eq_true rfl, Nat.le_of_ble_eq_true rfl⟩) (z_recv (q := (RX5, TX5, 9)) hK (hP 0 _ rfl) rfl) hP hS (fun q h => h) rfl hl.1 rfl (Nat.le_of_ble_eq_true rfl) dX5_enter_37 ⟨Nat.zero_le _, Nat.zero_le _⟩ (fun H5 locs1 hP hz hk hS => ?_)
      have hP : va_P D vwCl (mWs y m (oneD (fD d tx len i) tx len (fA d tx len i)) (recW d was k) ax1 tx (upd (upd (upd (upd (upd gt 0 (V0 tx len (fA d tx len i))) 1 (V1 tx len (fA d tx len i))) 2 (V2 tx len (fA d tx len i))) 3 (V3 tx len (fA d tx len i))) 4 (V4 tx len (fA d tx len i))) (nI (recN k)) (nI len) (nI (nxA tx len (fA d tx len i))) rx1) H5 := hP
      clear hz hk
      refine lv_pop hx hb dX5_enter_40 rfl ?_
      refine lv_iinc (v := (nI (i + 1))) (lv' := [(1, .int (nI (i + 1))), (0, .ref m)]) hx hb dX5_enter_41 hl (k := 0) rfl (in1 _) (by decide) rfl (fun ls hl => ?_)
      refine lv_goto (tgt := 25) hx hb dX5_enter_44 (by decide) ?_
      exact ih_25 ((i + 1), upd (upd (upd (upd (upd gt 0 (V0 tx len (fA d tx len i))) 1 (V1 tx len (fA d tx len i))) 2 (V2 tx len (fA d tx len i))) 3 (V3 tx len (fA d tx len i))) 4 (V4 tx len (fA d tx len i))) _ _ _ (by omega) ⟨hP, hS, ⟨lt_sc hall (go_t c33 hone), by omega⟩⟩ (lv_sub hl [0, 1] rfl)
  · exact absurd hok c7
set_option maxRecDepth 100000 in
set_option maxHeartbeats 4000000 in
theorem c_X5_enter_no (l : Launch) (D : va_G) (y : zY) (m : Nat) (d : Nat → Int32) (was : Nat → Int32) (as : Nat → Int32) (tx : Nat → Int32) (gt : Nat → Int32) (k : Nat) (pa : Int32) (rs : Int32) (len : Nat) (hI : zI d) (hlen : len ≤ 80) (hno : ¬ fPl d tx len = (-1004)) : Met l yX5_enter wsX5_enter ({ frames := 8, cells := 0, slots := 0, locals := 194 }) (zP [.ref m] (va_P D vwCl (mWs y m d was as tx gt (nI k) (nI len) pa rs)) D y) (zW (some (.int (-1002))) (fun H => ∃ (as' gt' : Nat → Int32) (pa' rs' : Int32), va_P D vwCl (mWs y m d was as' tx gt' (nI k) (nI len) pa' rs') H) (blk m 6)) 0 0 (blk m 6) := by
  refine z_body (cc := cX5_enter) (maxL := 2) (ret := (some .int)) (la := [(0, .ref m)]) (by decide) rfl (Nat.le_of_ble_eq_true rfl) rfl ?_
  intro pg ev s mm below meth c0 ls hx hb hr hF hlocks hΦ hK hl _
  have hts := hF.2.2.2.2
  have hown : s.vm.findClass RX5 = some mm.cls := hF.2.2.2.1
  have hP : va_P D vwCl (mWs y m d was as tx gt (nI k) (nI len) pa rs) s.heap := hΦ
  have hS : va_S (blk m 6) s.heap s.heap [] := va_S.rf
  have hG2 := hI.ng2
  have hC8 := hI.nc8
  refine lv_aload_n hx hb dX5_enter_0 rfl (lv_at hl 0 rfl) ?_
  refine w_callV (As := []) (rest := []) hF hK (c_X5_faulty l D y m d was as tx gt k pa rs len (hI) (by omega)) (cwV 0 hts gX5_enter_X5_faulty rfl rfl rfl (by decide +kernel) ⟨Nat.le_of_ble_eq_true rfl, Nat.le_of_ble_eq_true rfl⟩) (z_recv (q := (RX5, TX5, 9)) hK (hP 0 _ rfl) rfl) hP hS (fun q h => h) rfl hl.1 rfl (Nat.le_of_ble_eq_true rfl) dX5_enter_1 ⟨Nat.zero_le _, Nat.zero_le _⟩ (fun H1 locs1 hP hz hk hS => ?_)
  obtain ⟨ax1, gx1, px1, rx1, hP, hrx⟩ := hP
  have hP : va_P D vwCl (mWs y m d was ax1 tx gx1 (nI k) (nI len) px1 rx1) H1 := hP
  clear hz hk
  refine lv_sipush (v := (-1004)) hx hb dX5_enter_4 (by decide) ?_
  refine lv_icmp_eq (tgt := 14) hx hb dX5_enter_7 (by decide) (fun c7 => ?_) (fun c7 => ?_)
  · exact absurd c7 hno
  · refine lv_sipush (v := (-1002)) hx hb dX5_enter_10 (by decide) ?_
    exact w_reti hx hb hr hlocks hS (⟨_, _, _, _, hP⟩) (rfl) dX5_enter_13
