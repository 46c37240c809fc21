/-! THE REFERENCE: the first free time -/
set_option maxRecDepth 100000 in
set_option maxHeartbeats 4000000 in
theorem c_X5_firstFree (l : Launch) (D : va_G) (y : zY) (m : Nat) (d : Nat → Int32) (c : Int32) (sw : Int32) (q : Int32) (fr : Int32) (hI : zI d) : Met l yX5_firstFree wsX5_firstFree ({ frames := 6, cells := 0, slots := 0, locals := 150 }) (zP [.ref m, .int c, .int sw, .int q, .int fr] (zM D y m d) D y) (zQ (some (.int (aFirstFree d c sw q fr)))) 0 0 nofree := by
  refine z_body (cc := cX5_firstFree) (maxL := 7) (ret := (some .int)) (la := [(0, .ref m), (1, .int c), (2, .int sw), (3, .int q), (4, .int fr)]) (by decide) rfl (Nat.le_of_ble_eq_true rfl) rfl ?_
  intro pg ev s mm below meth c0 ls hx hb hr hF hlocks hΦ hK hl _
  have hts := hF.2.2.2.2
  have hown : s.vm.findClass RX5 = some mm.cls := hF.2.2.2.1
  obtain ⟨⟨fs, hO⟩, hA⟩ := id hΦ
  have hG2 := hI.ng2
  have hC8 := hI.nc8
  refine lv_aload_n hx hb dX5_firstFree_0 rfl (lv_at hl 0 rfl) ?_
  refine lv_iload_n hx hb dX5_firstFree_1 rfl (lv_at hl 1 rfl) ?_
  refine z_callV (As := [.int c]) (rest := []) hF hK (c_X5_isCrane l D y m d c (hI)) (cwV 1 hts gX5_firstFree_X5_isCrane rfl rfl rfl (by decide +kernel) ⟨Nat.le_of_ble_eq_true rfl, Nat.le_of_ble_eq_true rfl⟩) (z_recv (q := (RX5, TX5, 9)) hK hO rfl) hΦ rfl hl.1 rfl (Nat.le_of_ble_eq_true rfl) dX5_firstFree_2 ⟨Nat.zero_le _, Nat.zero_le _⟩ ?_
  refine z_ifeq (tgt := 33) hx hb dX5_firstFree_5 (by decide) (fun c5 => ?_) (fun c5 => ?_)
  · refine lv_sipush (v := (-1001)) hx hb dX5_firstFree_33 (by decide) ?_
    exact z_reti hx hb hr hlocks rfl (by unfold aFirstFree; first | (rw [if_neg (bf c5)]; done) | (rw [if_pos c5, if_neg (bf c12)]; done) | (rw [if_pos c5, if_pos c12, if_neg (bf c22)]; done) | (rw [if_pos c5, if_pos c12, if_pos c22, if_neg (bf c30)]; done)) dX5_firstFree_36
  · refine lv_iload_n hx hb dX5_firstFree_8 rfl (lv_at hl 2 rfl) ?_
    refine z_callS (As := [.int sw]) (rest := []) hF hK (c_X5_isSwing l D y sw ) (va_cwS 1 hts gX5_firstFree_X5_isSwing rfl rfl rfl (by decide +kernel) ⟨Nat.le_of_ble_eq_true rfl, Nat.le_of_ble_eq_true rfl⟩) trivial rfl hl.1 rfl (Nat.le_of_ble_eq_true rfl) dX5_firstFree_9 ⟨Nat.zero_le _, Nat.zero_le _⟩ ?_
    refine z_ifeq (tgt := 33) hx hb dX5_firstFree_12 (by decide) (fun c12 => ?_) (fun c12 => ?_)
    · refine lv_sipush (v := (-1001)) hx hb dX5_firstFree_33 (by decide) ?_
      exact z_reti hx hb hr hlocks rfl (by unfold aFirstFree; first | (rw [if_neg (bf c5)]; done) | (rw [if_pos c5, if_neg (bf c12)]; done) | (rw [if_pos c5, if_pos c12, if_neg (bf c22)]; done) | (rw [if_pos c5, if_pos c12, if_pos c22, if_neg (bf c30)]; done)) dX5_firstFree_36
    · refine lv_iload_n hx hb dX5_firstFree_15 rfl (lv_at hl 3 rfl) ?_
      refine lv_iconst (v := (nI 1)) hx hb dX5_firstFree_16 (by decide) ?_
      refine lv_bipush (v := (nI 10)) hx hb dX5_firstFree_17 (by decide) ?_
      refine z_callS (As := [.int q, .int (nI 1), .int (nI 10)]) (rest := []) hF hK (c_X5_in l D y q (nI 1) (nI 10) ) (va_cwS 3 hts gX5_firstFree_X5_in rfl rfl rfl (by decide +kernel) ⟨Nat.le_of_ble_eq_true rfl, Nat.le_of_ble_eq_true rfl⟩) trivial rfl hl.1 rfl (Nat.le_of_ble_eq_true rfl) dX5_firstFree_19 ⟨Nat.zero_le _, Nat.zero_le _⟩ ?_
      refine z_ifeq (tgt := 33) hx hb dX5_firstFree_22 (by decide) (fun c22 => ?_) (fun c22 => ?_)
      · refine lv_sipush (v := (-1001)) hx hb dX5_firstFree_33 (by decide) ?_
        exact z_reti hx hb hr hlocks rfl (by unfold aFirstFree; first | (rw [if_neg (bf c5)]; done) | (rw [if_pos c5, if_neg (bf c12)]; done) | (rw [if_pos c5, if_pos c12, if_neg (bf c22)]; done) | (rw [if_pos c5, if_pos c12, if_pos c22, if_neg (bf c30)]; done)) dX5_firstFree_36
      · refine lv_iload hx hb dX5_firstFree_25 (lv_at hl 4 rfl) ?_
        refine z_callS (As := [.int fr]) (rest := []) hF hK (c_X5_isNight l D y fr ) (va_cwS 1 hts gX5_firstFree_X5_isNight rfl rfl rfl (by decide +kernel) ⟨Nat.le_of_ble_eq_true rfl, Nat.le_of_ble_eq_true rfl⟩) trivial rfl hl.1 rfl (Nat.le_of_ble_eq_true rfl) dX5_firstFree_27 ⟨Nat.zero_le _, Nat.zero_le _⟩ ?_
        refine z_ifne (tgt := 37) hx hb dX5_firstFree_30 (by decide) (fun c30 => ?_) (fun c30 => ?_)
        · obtain ⟨j, hj, rfl⟩ := in_nc hI c5
          have ej : cl (nI j) = j := cl_nI (by omega)
          obtain ⟨k, lk, hk, rfl⟩ := inB_nat (by decide) c22 (by decide)
          have ek : cl (nI k) = k := cl_nI (by omega)
          obtain ⟨u, lu, hu, rfl⟩ := inB_nat (by decide) c30 (by decide)
          have eu : cl (nI u) = u := cl_nI (by omega)
          refine lv_iload hx hb dX5_firstFree_37 (lv_at hl 4 rfl) ?_
          refine lv_istore (lv' := [(5, .int (nI u)), (0, .ref m), (1, .int (nI j)), (2, .int sw), (3, .int (nI k)), (4, .int (nI u))]) hx hb dX5_firstFree_39 hl (by decide) rfl (fun ls hl => ?_)
          refine z_loop (S := Nat) (nL := 7) (fun (n : Nat) => 30 - n) (fun (n : Nat) => [(5, .int (nI n)), (0, .ref m), (1, .int (nI j)), (2, .int sw), (3, .int (nI k)), (4, .int (nI u))]) (fun (n : Nat) => u ≤ n ∧ n ≤ 30 ∧ ∀ z, z < 10 * n → ffQ d j sw k u z = false) u (⟨Nat.le_refl _, by omega, fun z hz => ff_lo hz⟩) (lv_sub hl [0, 1, 2, 3, 4, 5] rfl) ?_
          clear hl
          rintro n ls hI_41 hl ih_41
          obtain ⟨hrn, hn30, hall⟩ := hI_41
          refine lv_iload hx hb dX5_firstFree_41 (lv_at hl 0 rfl) ?_
          refine lv_bipush (v := (nI 30)) hx hb dX5_firstFree_43 (by decide) ?_
          refine z_ge (tgt := 104) hx hb (by omega) (by omega) dX5_firstFree_45 (by decide) (fun c45 => ?_) (fun c45 => ?_)
          · refine lv_sipush (v := (-1004)) hx hb dX5_firstFree_104 (by decide) ?_
            exact z_reti hx hb hr hlocks rfl (by unfold aFirstFree; rw [if_pos c5, if_pos c12, if_pos c22, if_pos c30, ej, ek, eu, show ffO d j sw k u = (List.range 300).find? (ffQ d j sw k u) from rfl, fst_n (fun z hz => hall z (by omega))]; rfl) dX5_firstFree_107
          · refine lv_iconst (v := (nI 0)) hx hb dX5_firstFree_48 (by decide) ?_
            refine lv_istore (lv' := [(6, .int (nI 0)), (5, .int (nI n)), (0, .ref m), (1, .int (nI j)), (2, .int sw), (3, .int (nI k)), (4, .int (nI u))]) hx hb dX5_firstFree_49 hl (by decide) rfl (fun ls hl => ?_)
            refine z_loop (S := Nat) (nL := 7) (fun (h : Nat) => 11 - h) (fun (h : Nat) => [(6, .int (nI h)), (5, .int (nI n)), (0, .ref m), (1, .int (nI j)), (2, .int sw), (3, .int (nI k)), (4, .int (nI u))]) (fun (h : Nat) => h ≤ 10 ∧ ∀ z, z < 10 * n + h → ffQ d j sw k u z = false) 0 (⟨by omega, hall⟩) (lv_sub hl [0, 1, 2, 3, 4, 5, 6] rfl) ?_
            clear hl
            rintro h ls hI_51 hl ih_51
            obtain ⟨hh, hall2⟩ := hI_51
            refine lv_iload hx hb dX5_firstFree_51 (lv_at hl 0 rfl) ?_
            refine lv_iload_n hx hb dX5_firstFree_53 rfl (lv_at hl 5 rfl) ?_
            refine z_iadd hx hb dX5_firstFree_54 ?_
            refine lv_bipush (v := (nI 10)) hx hb dX5_firstFree_55 (by decide) ?_
            refine z_gt (tgt := 98) hx hb (by omega) (by omega) dX5_firstFree_57 (by decide) (fun c57 => ?_) (fun c57 => ?_)
            · refine lv_iinc (v := (nI (n + 1))) (lv' := [(5, .int (nI (n + 1))), (6, .int (nI h)), (0, .ref m), (1, .int (nI j)), (2, .int sw), (3, .int (nI k)), (4, .int (nI u))]) hx hb dX5_firstFree_98 hl (k := 1) rfl (in1 _) (by decide) rfl (fun ls hl => ?_)
              refine lv_goto (tgt := 41) hx hb dX5_firstFree_101 (by decide) ?_
              exact ih_41 (n + 1) _ (by omega) (⟨by omega, by omega, fun z hz => ff_hi hall2 (by omega) z (by omega)⟩) (lv_sub hl [0, 2, 3, 4, 5, 6] rfl)
            · refine lv_aload_n hx hb dX5_firstFree_60 rfl (lv_at hl 2 rfl) ?_
              refine lv_iload_n hx hb dX5_firstFree_61 rfl (lv_at hl 3 rfl) ?_
              refine lv_iload hx hb dX5_firstFree_62 (lv_at hl 1 rfl) ?_
              refine lv_bipush (v := (nI 10)) hx hb dX5_firstFree_64 (by decide) ?_
              refine lv_iload hx hb dX5_firstFree_66 (lv_at hl 0 rfl) ?_
              refine z_imul hx hb dX5_firstFree_68 ?_
              refine lv_iload hx hb dX5_firstFree_69 (lv_at hl 0 rfl) ?_
              refine z_iadd hx hb dX5_firstFree_71 ?_
              refine lv_iload_n hx hb dX5_firstFree_72 rfl (lv_at hl 5 rfl) ?_
              refine z_iadd hx hb dX5_firstFree_73 ?_
              refine lv_iconst (v := (nI 1)) hx hb dX5_firstFree_74 (by decide) ?_
              refine z_isub hx hb (by omega) dX5_firstFree_75 ?_
              refine lv_iload_n hx hb dX5_firstFree_76 rfl (lv_at hl 4 rfl) ?_
              refine z_callV (As := [.int (nI j), .int (nI n), .int (nI ((((10 * h) + h) + k) - 1)), .int sw]) (rest := []) hF hK (c_X5_refuses l D y m d j n (nI ((((10 * h) + h) + k) - 1)) sw (hI) (by omega) (by omega)) (cwV 4 hts gX5_firstFree_X5_refuses rfl rfl rfl (by decide +kernel) ⟨Nat.le_of_ble_eq_true rfl, Nat.le_of_ble_eq_true rfl⟩) (z_recv (q := (RX5, TX5, 9)) hK hO rfl) hΦ rfl hl.1 rfl (Nat.le_of_ble_eq_true rfl) dX5_firstFree_77 ⟨Nat.zero_le _, Nat.zero_le _⟩ ?_
              refine lv_if_ne (tgt := 92) hx hb dX5_firstFree_80 (by decide) (fun c80 => ?_) (fun c80 => ?_)
              · refine lv_iinc (v := (nI (h + 1))) (lv' := [(6, .int (nI (h + 1))), (5, .int (nI n)), (0, .ref m), (1, .int (nI j)), (2, .int sw), (3, .int (nI k)), (4, .int (nI u))]) hx hb dX5_firstFree_92 hl (k := 0) rfl (in1 _) (by decide) rfl (fun ls hl => ?_)
                refine lv_goto (tgt := 51) hx hb dX5_firstFree_95 (by decide) ?_
                exact ih_51 (h + 1) _ (by omega) (⟨by omega, ff_s hall2 (by omega) c80⟩) (lv_sub hl [0, 1, 2, 3, 4, 5, 6] rfl)
              · refine lv_bipush (v := (nI 10)) hx hb dX5_firstFree_83 (by decide) ?_
                refine lv_iload hx hb dX5_firstFree_85 (lv_at hl 1 rfl) ?_
                refine z_imul hx hb dX5_firstFree_87 ?_
                refine lv_iload hx hb dX5_firstFree_88 (lv_at hl 0 rfl) ?_
                refine z_iadd hx hb dX5_firstFree_90 ?_
                exact z_reti hx hb hr hlocks rfl (by unfold aFirstFree; rw [if_pos c5, if_pos c12, if_pos c22, if_pos c30, ej, ek, eu, show ffO d j sw k u = (List.range 300).find? (ffQ d j sw k u) from rfl, fst_s (ff_y hrn (by omega) (by omega) c80) hall2 (by omega)]; rfl) dX5_firstFree_91
        · refine lv_sipush (v := (-1001)) hx hb dX5_firstFree_33 (by decide) ?_
          exact z_reti hx hb hr hlocks rfl (by unfold aFirstFree; first | (rw [if_neg (bf c5)]; done) | (rw [if_pos c5, if_neg (bf c12)]; done) | (rw [if_pos c5, if_pos c12, if_neg (bf c22)]; done) | (rw [if_pos c5, if_pos c12, if_pos c22, if_neg (bf c30)]; done)) dX5_firstFree_36
