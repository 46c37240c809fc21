/-! test -/
theorem iX5_records_X5 : ∀ w ∈ wsX50, w ∈ wsX5_records := fun w h => (List.mem_cons_of_mem _ (List.mem_append_right _ h))
set_option maxRecDepth 100000 in
set_option maxHeartbeats 4000000 in
theorem c_X5_records (l : Launch) (D : va_G) (y : zY) (m : Nat) (d : Nat → Int32) (was : Nat → Int32) (as : Nat → Int32) (tx : Nat → Int32) (gt : Nat → Int32) (k : Nat) (ty : Int32) (pa : Int32) (rs : Int32) (hk4 : k ≤ 4) : Met l yX5_records wsX5_records ({ frames := 0, cells := 0, slots := 0, locals := 0 }) (zP [.ref m] (va_P D vwCl (mWs y m d was as tx gt (nI k) ty pa rs)) D y) (zW none (va_P D vwCl (mWs y m d (recW d was k) as tx gt (nI (recN k)) ty pa rs)) (blk m 6)) 0 0 (blk m 6) := by
  refine z_body (cc := cX5_records) (maxL := 2) (ret := none) (la := [(0, .ref m)]) (by decide) rfl (Nat.le_of_ble_eq_true rfl) rfl ?_
  intro pg ev s mm below meth c0 ls hx hb hr hF hlocks hΦ hK hl _
  have hts := hF.2.2.2.2
  have hown : s.vm.findClass RX5 = some mm.cls := hF.2.2.2.1
  have hP : va_P D vwCl (mWs y m d was as tx gt (nI k) ty pa rs) s.heap := hΦ
  have hS : va_S (blk m 6) s.heap s.heap [] := va_S.rf
  refine lv_aload_n hx hb dX5_records_0 rfl (lv_at hl 0 rfl) ?_
  refine z_get (fs := [.ref (m + 1), .ref (m + 2), .int (nI k), .ref (m + 3), .ref (m + 4), .int ty, .int pa, .int rs, .ref (m + 5)]) (ref := "CranePermitsModel") (C := RX5) (T := TX5) (N := 9) (ci := 5) (v := .int (nI k)) hx hb hts iX5_records_X5 hown hK (hP 0 _ rfl) 2 (by decide) rfl (hts (.fieldLink RX5 30 "CranePermitsModel" "states" "I") (List.mem_of_getElem? (i := 1) rfl)) rfl rfl dX5_records_1 ?_
  refine lv_iconst (v := (nI 4)) hx hb dX5_records_4 (by decide) ?_
  refine z_ne (tgt := 49) hx hb (by omega) (by omega) dX5_records_5 (by decide) (fun c5 => ?_) (fun c5 => ?_)
  · refine lv_iconst (v := (nI 0)) hx hb dX5_records_49 (by decide) ?_
    refine lv_istore_n (lv' := [(1, .int (nI 0)), (0, .ref m)]) hx hb dX5_records_50 rfl hl (by decide) rfl (fun ls hl => ?_)
    refine z_loopW (S := Nat) (nL := 2) (fun (i : Nat) => 1445 - i) (fun (i : Nat) => [(1, .int (nI i)), (0, .ref m)]) (fun (i : Nat) (H : Heap) (locs : List Loc) => va_P D vwCl (mWs y m d (cpN was d (1445 * k) i) as tx gt (nI k) ty pa rs) H ∧ va_S (blk m 6) s.heap H locs ∧ (i ≤ 1445)) 0 ⟨by rw [cp_0]; exact hP, hS, by omega⟩ (lv_sub hl [0, 1] rfl) ?_
    clear hl hP hS
    rintro i H1 locs ls ⟨hP, hS, hI_51⟩ hl ih_51
    have hi := hI_51
    refine lv_iload_n hx hb dX5_records_51 rfl (lv_at hl 0 rfl) ?_
    refine lv_sipush (v := (nI 1445)) hx hb dX5_records_52 (by decide) ?_
    refine z_ge (tgt := 85) hx hb (by omega) (by omega) dX5_records_55 (by decide) (fun c55 => ?_) (fun c55 => ?_)
    · refine lv_aload_n hx hb dX5_records_85 rfl (lv_at hl 1 rfl) ?_
      refine lv_dup hx hb dX5_records_86 rfl ?_
      refine z_get (fs := [.ref (m + 1), .ref (m + 2), .int (nI k), .ref (m + 3), .ref (m + 4), .int ty, .int pa, .int rs, .ref (m + 5)]) (ref := "CranePermitsModel") (C := RX5) (T := TX5) (N := 9) (ci := 5) (v := .int (nI k)) hx hb hts iX5_records_X5 hown hK (hP 0 _ rfl) 2 (by decide) rfl (hts (.fieldLink RX5 30 "CranePermitsModel" "states" "I") (List.mem_of_getElem? (i := 1) rfl)) rfl rfl dX5_records_87 ?_
      refine lv_iconst (v := (nI 1)) hx hb dX5_records_90 (by decide) ?_
      refine z_iadd hx hb dX5_records_91 ?_
      refine y_put (a := m) (fs := [.ref (m + 1), .ref (m + 2), .int (nI k), .ref (m + 3), .ref (m + 4), .int ty, .int pa, .int rs, .ref (m + 5)]) (ref := "CranePermitsModel") (C := RX5) (T := TX5) (N := 9) (ci := 5) (v := .int (nI (k + 1))) (ty := .int) hx hb hts iX5_records_X5 tyX5 tyX5_ok nmX5 hown hK (hP 0 _ rfl) 2 (by decide) rfl (hts (.fieldLink RX5 30 "CranePermitsModel" "states" "I") (List.mem_of_getElem? (i := 1) rfl)) rfl rfl (by decide +kernel) (rfl) rfl (by decide) dX5_records_92 (fun H2 x1 hU hV => ?_)
      have hS := hS.upd hU (blk_in (by omega) (by omega))
      have hP : va_P D vwCl (mWs y m d (cpN was d (1445 * k) i) as tx gt (nI (k + 1)) ty pa rs) H2 := hP.upd (q0 := 0) mWs_D rfl hU hV
      clear hU hV
      exact w_retv hx hb hr hlocks hS (by rw [show i = 1445 by omega] at hP; first | (rw [rec_4] at hP; exact hP) | (rw [rec_n c5, recN_n c5] at hP; exact hP)) dX5_records_95
    · refine lv_aload_n hx hb dX5_records_58 rfl (lv_at hl 1 rfl) ?_
      refine z_get (fs := [.ref (m + 1), .ref (m + 2), .int (nI k), .ref (m + 3), .ref (m + 4), .int ty, .int pa, .int rs, .ref (m + 5)]) (ref := "CranePermitsModel") (C := RX5) (T := TX5) (N := 9) (ci := 5) (v := .ref (m + 2)) hx hb hts iX5_records_X5 hown hK (hP 0 _ rfl) 1 (by decide) rfl (hts (.fieldLink RX5 13 "CranePermitsModel" "was" "[I") (List.mem_of_getElem? (i := 2) rfl)) rfl rfl dX5_records_59 ?_
      refine lv_sipush (v := (nI 1445)) hx hb dX5_records_62 (by decide) ?_
      refine lv_aload_n hx hb dX5_records_65 rfl (lv_at hl 1 rfl) ?_
      refine z_get (fs := [.ref (m + 1), .ref (m + 2), .int (nI k), .ref (m + 3), .ref (m + 4), .int ty, .int pa, .int rs, .ref (m + 5)]) (ref := "CranePermitsModel") (C := RX5) (T := TX5) (N := 9) (ci := 5) (v := .int (nI k)) hx hb hts iX5_records_X5 hown hK (hP 0 _ rfl) 2 (by decide) rfl (hts (.fieldLink RX5 30 "CranePermitsModel" "states" "I") (List.mem_of_getElem? (i := 1) rfl)) rfl rfl dX5_records_66 ?_
      refine z_imul hx hb dX5_records_69 ?_
      refine lv_iload_n hx hb dX5_records_70 rfl (lv_at hl 0 rfl) ?_
      refine z_iadd hx hb dX5_records_71 ?_
      refine lv_aload_n hx hb dX5_records_72 rfl (lv_at hl 1 rfl) ?_
      refine z_get (fs := [.ref (m + 1), .ref (m + 2), .int (nI k), .ref (m + 3), .ref (m + 4), .int ty, .int pa, .int rs, .ref (m + 5)]) (ref := "CranePermitsModel") (C := RX5) (T := TX5) (N := 9) (ci := 5) (v := .ref (m + 1)) hx hb hts iX5_records_X5 hown hK (hP 0 _ rfl) 0 (by decide) rfl (hts (.fieldLink RX5 7 "CranePermitsModel" "d" "[I") (List.mem_of_getElem? (i := 3) rfl)) rfl rfl dX5_records_73 ?_
      refine lv_iload_n hx hb dX5_records_76 rfl (lv_at hl 0 rfl) ?_
      refine z_iald (f := d) hx hb hK (hP 1 _ rfl) (by omega) (by decide) dX5_records_77 ?_
      refine y_iast (a := (m + 2)) (f := (cpN was d (1445 * k) i)) (i := ((1445 * k) + i)) hx hb hK (hP 2 _ rfl) (by omega) (by decide) dX5_records_78 (fun H3 hU hV => ?_)
      have hS := hS.upd hU (blk_in (by omega) (by omega))
      have hP : va_P D vwCl (mWs y m d (upd (cpN was d (1445 * k) i) ((1445 * k) + i) (d i)) as tx gt (nI k) ty pa rs) H3 := hP.upd (q0 := 2) mWs_D rfl hU hV
      clear hU hV
      refine lv_iinc (v := (nI (i + 1))) (lv' := [(1, .int (nI (i + 1))), (0, .ref m)]) hx hb dX5_records_79 hl (k := 0) rfl (in1 _) (by decide) rfl (fun ls hl => ?_)
      refine lv_goto (tgt := 51) hx hb dX5_records_82 (by decide) ?_
      exact ih_51 (i + 1) _ _ _ (by omega) ⟨by rw [cp_s] at hP; exact hP, hS, by omega⟩ (lv_sub hl [0, 1] rfl)
  · subst c5
    refine lv_iconst (v := (nI 0)) hx hb dX5_records_8 (by decide) ?_
    refine lv_istore_n (lv' := [(1, .int (nI 0)), (0, .ref m)]) hx hb dX5_records_9 rfl hl (by decide) rfl (fun ls hl => ?_)
    refine z_loopW (S := Nat) (nL := 2) (fun (i : Nat) => 4335 - i) (fun (i : Nat) => [(1, .int (nI i)), (0, .ref m)]) (fun (i : Nat) (H : Heap) (locs : List Loc) => va_P D vwCl (mWs y m d (shN was i) as tx gt (nI 4) ty pa rs) H ∧ va_S (blk m 6) s.heap H locs ∧ (i ≤ 4335)) 0 ⟨by rw [sh_0]; exact hP, hS, by omega⟩ (lv_sub hl [0, 1] rfl) ?_
    clear hl hP hS
    rintro i H4 locs ls ⟨hP, hS, hI_10⟩ hl ih_10
    have hi := hI_10
    refine lv_iload_n hx hb dX5_records_10 rfl (lv_at hl 0 rfl) ?_
    refine lv_sipush (v := (nI 4335)) hx hb dX5_records_11 (by decide) ?_
    refine z_ge (tgt := 39) hx hb (by omega) (by omega) dX5_records_14 (by decide) (fun c14 => ?_) (fun c14 => ?_)
    · refine lv_aload_n hx hb dX5_records_39 rfl (lv_at hl 1 rfl) ?_
      refine lv_dup hx hb dX5_records_40 rfl ?_
      refine z_get (fs := [.ref (m + 1), .ref (m + 2), .int (nI 4), .ref (m + 3), .ref (m + 4), .int ty, .int pa, .int rs, .ref (m + 5)]) (ref := "CranePermitsModel") (C := RX5) (T := TX5) (N := 9) (ci := 5) (v := .int (nI 4)) hx hb hts iX5_records_X5 hown hK (hP 0 _ rfl) 2 (by decide) rfl (hts (.fieldLink RX5 30 "CranePermitsModel" "states" "I") (List.mem_of_getElem? (i := 1) rfl)) rfl rfl dX5_records_41 ?_
      refine lv_iconst (v := (nI 1)) hx hb dX5_records_44 (by decide) ?_
      refine z_isub hx hb (by omega) dX5_records_45 ?_
      refine y_put (a := m) (fs := [.ref (m + 1), .ref (m + 2), .int (nI 4), .ref (m + 3), .ref (m + 4), .int ty, .int pa, .int rs, .ref (m + 5)]) (ref := "CranePermitsModel") (C := RX5) (T := TX5) (N := 9) (ci := 5) (v := .int (nI (4 - 1))) (ty := .int) hx hb hts iX5_records_X5 tyX5 tyX5_ok nmX5 hown hK (hP 0 _ rfl) 2 (by decide) rfl (hts (.fieldLink RX5 30 "CranePermitsModel" "states" "I") (List.mem_of_getElem? (i := 1) rfl)) rfl rfl (by decide +kernel) (rfl) rfl (by decide) dX5_records_46 (fun H5 x1 hU hV => ?_)
      have hS := hS.upd hU (blk_in (by omega) (by omega))
      have hP : va_P D vwCl (mWs y m d (shN was i) as tx gt (nI (4 - 1)) ty pa rs) H5 := hP.upd (q0 := 0) mWs_D rfl hU hV
      clear hU hV
      refine lv_iconst (v := (nI 0)) hx hb dX5_records_49 (by decide) ?_
      refine lv_istore_n (lv' := [(1, .int (nI 0)), (0, .ref m)]) hx hb dX5_records_50 rfl hl (by decide) rfl (fun ls hl => ?_)
      refine z_loopW (S := Nat) (nL := 2) (fun (i : Nat) => 1445 - i) (fun (i : Nat) => [(1, .int (nI i)), (0, .ref m)]) (fun (i : Nat) (H : Heap) (locs : List Loc) => va_P D vwCl (mWs y m d (cpN (shN was 4335) d (1445 * (4 - 1)) i) as tx gt (nI (4 - 1)) ty pa rs) H ∧ va_S (blk m 6) s.heap H locs ∧ (i ≤ 1445)) 0 ⟨by rw [cp_0]; rw [show i = 4335 by omega] at hP; exact hP, hS, by omega⟩ (lv_sub hl [0, 1] rfl) ?_
      clear hl hP hS
      rintro i H6 locs ls ⟨hP, hS, hI_51⟩ hl ih_51
      have hi := hI_51
      refine lv_iload_n hx hb dX5_records_51 rfl (lv_at hl 0 rfl) ?_
      refine lv_sipush (v := (nI 1445)) hx hb dX5_records_52 (by decide) ?_
      refine z_ge (tgt := 85) hx hb (by omega) (by omega) dX5_records_55 (by decide) (fun c55 => ?_) (fun c55 => ?_)
      · refine lv_aload_n hx hb dX5_records_85 rfl (lv_at hl 1 rfl) ?_
        refine lv_dup hx hb dX5_records_86 rfl ?_
        refine z_get (fs := [.ref (m + 1), .ref (m + 2), .int (nI (4 - 1)), .ref (m + 3), .ref (m + 4), .int ty, .int pa, .int rs, .ref (m + 5)]) (ref := "CranePermitsModel") (C := RX5) (T := TX5) (N := 9) (ci := 5) (v := .int (nI (4 - 1))) hx hb hts iX5_records_X5 hown hK (hP 0 _ rfl) 2 (by decide) rfl (hts (.fieldLink RX5 30 "CranePermitsModel" "states" "I") (List.mem_of_getElem? (i := 1) rfl)) rfl rfl dX5_records_87 ?_
        refine lv_iconst (v := (nI 1)) hx hb dX5_records_90 (by decide) ?_
        refine z_iadd hx hb dX5_records_91 ?_
        refine y_put (a := m) (fs := [.ref (m + 1), .ref (m + 2), .int (nI (4 - 1)), .ref (m + 3), .ref (m + 4), .int ty, .int pa, .int rs, .ref (m + 5)]) (ref := "CranePermitsModel") (C := RX5) (T := TX5) (N := 9) (ci := 5) (v := .int (nI ((4 - 1) + 1))) (ty := .int) hx hb hts iX5_records_X5 tyX5 tyX5_ok nmX5 hown hK (hP 0 _ rfl) 2 (by decide) rfl (hts (.fieldLink RX5 30 "CranePermitsModel" "states" "I") (List.mem_of_getElem? (i := 1) rfl)) rfl rfl (by decide +kernel) (rfl) rfl (by decide) dX5_records_92 (fun H7 x1 hU hV => ?_)
        have hS := hS.upd hU (blk_in (by omega) (by omega))
        have hP : va_P D vwCl (mWs y m d (cpN (shN was 4335) d (1445 * (4 - 1)) i) as tx gt (nI ((4 - 1) + 1)) ty pa rs) H7 := hP.upd (q0 := 0) mWs_D rfl hU hV
        clear hU hV
        exact w_retv hx hb hr hlocks hS (by rw [show i = 1445 by omega] at hP; first | (rw [rec_4] at hP; exact hP) | (rw [rec_n c5, recN_n c5] at hP; exact hP)) dX5_records_95
      · refine lv_aload_n hx hb dX5_records_58 rfl (lv_at hl 1 rfl) ?_
        refine z_get (fs := [.ref (m + 1), .ref (m + 2), .int (nI (4 - 1)), .ref (m + 3), .ref (m + 4), .int ty, .int pa, .int rs, .ref (m + 5)]) (ref := "CranePermitsModel") (C := RX5) (T := TX5) (N := 9) (ci := 5) (v := .ref (m + 2)) hx hb hts iX5_records_X5 hown hK (hP 0 _ rfl) 1 (by decide) rfl (hts (.fieldLink RX5 13 "CranePermitsModel" "was" "[I") (List.mem_of_getElem? (i := 2) rfl)) rfl rfl dX5_records_59 ?_
        refine lv_sipush (v := (nI 1445)) hx hb dX5_records_62 (by decide) ?_
        refine lv_aload_n hx hb dX5_records_65 rfl (lv_at hl 1 rfl) ?_
        refine z_get (fs := [.ref (m + 1), .ref (m + 2), .int (nI (4 - 1)), .ref (m + 3), .ref (m + 4), .int ty, .int pa, .int rs, .ref (m + 5)]) (ref := "CranePermitsModel") (C := RX5) (T := TX5) (N := 9) (ci := 5) (v := .int (nI (4 - 1))) hx hb hts iX5_records_X5 hown hK (hP 0 _ rfl) 2 (by decide) rfl (hts (.fieldLink RX5 30 "CranePermitsModel" "states" "I") (List.mem_of_getElem? (i := 1) rfl)) rfl rfl dX5_records_66 ?_
        refine z_imul hx hb dX5_records_69 ?_
        refine lv_iload_n hx hb dX5_records_70 rfl (lv_at hl 0 rfl) ?_
        refine z_iadd hx hb dX5_records_71 ?_
        refine lv_aload_n hx hb dX5_records_72 rfl (lv_at hl 1 rfl) ?_
        refine z_get (fs := [.ref (m + 1), .ref (m + 2), .int (nI (4 - 1)), .ref (m + 3), .ref (m + 4), .int ty, .int pa, .int rs, .ref (m + 5)]) (ref := "CranePermitsModel") (C := RX5) (T := TX5) (N := 9) (ci := 5) (v := .ref (m + 1)) hx hb hts iX5_records_X5 hown hK (hP 0 _ rfl) 0 (by decide) rfl (hts (.fieldLink RX5 7 "CranePermitsModel" "d" "[I") (List.mem_of_getElem? (i := 3) rfl)) rfl rfl dX5_records_73 ?_
        refine lv_iload_n hx hb dX5_records_76 rfl (lv_at hl 0 rfl) ?_
        refine z_iald (f := d) hx hb hK (hP 1 _ rfl) (by omega) (by decide) dX5_records_77 ?_
        refine y_iast (a := (m + 2)) (f := (cpN (shN was 4335) d (1445 * (4 - 1)) i)) (i := ((1445 * (4 - 1)) + i)) hx hb hK (hP 2 _ rfl) (by omega) (by decide) dX5_records_78 (fun H8 hU hV => ?_)
        have hS := hS.upd hU (blk_in (by omega) (by omega))
        have hP : va_P D vwCl (mWs y m d (upd (cpN (shN was 4335) d (1445 * (4 - 1)) i) ((1445 * (4 - 1)) + i) (d i)) as tx gt (nI (4 - 1)) ty pa rs) H8 := hP.upd (q0 := 2) mWs_D rfl hU hV
        clear hU hV
        refine lv_iinc (v := (nI (i + 1))) (lv' := [(1, .int (nI (i + 1))), (0, .ref m)]) hx hb dX5_records_79 hl (k := 0) rfl (in1 _) (by decide) rfl (fun ls hl => ?_)
        refine lv_goto (tgt := 51) hx hb dX5_records_82 (by decide) ?_
        exact ih_51 (i + 1) _ _ _ (by omega) ⟨by rw [cp_s] at hP; exact hP, hS, by omega⟩ (lv_sub hl [0, 1] rfl)
    · refine lv_aload_n hx hb dX5_records_17 rfl (lv_at hl 1 rfl) ?_
      refine z_get (fs := [.ref (m + 1), .ref (m + 2), .int (nI 4), .ref (m + 3), .ref (m + 4), .int ty, .int pa, .int rs, .ref (m + 5)]) (ref := "CranePermitsModel") (C := RX5) (T := TX5) (N := 9) (ci := 5) (v := .ref (m + 2)) hx hb hts iX5_records_X5 hown hK (hP 0 _ rfl) 1 (by decide) rfl (hts (.fieldLink RX5 13 "CranePermitsModel" "was" "[I") (List.mem_of_getElem? (i := 2) rfl)) rfl rfl dX5_records_18 ?_
      refine lv_iload_n hx hb dX5_records_21 rfl (lv_at hl 0 rfl) ?_
      refine lv_aload_n hx hb dX5_records_22 rfl (lv_at hl 1 rfl) ?_
      refine z_get (fs := [.ref (m + 1), .ref (m + 2), .int (nI 4), .ref (m + 3), .ref (m + 4), .int ty, .int pa, .int rs, .ref (m + 5)]) (ref := "CranePermitsModel") (C := RX5) (T := TX5) (N := 9) (ci := 5) (v := .ref (m + 2)) hx hb hts iX5_records_X5 hown hK (hP 0 _ rfl) 1 (by decide) rfl (hts (.fieldLink RX5 13 "CranePermitsModel" "was" "[I") (List.mem_of_getElem? (i := 2) rfl)) rfl rfl dX5_records_23 ?_
      refine lv_iload_n hx hb dX5_records_26 rfl (lv_at hl 0 rfl) ?_
      refine lv_sipush (v := (nI 1445)) hx hb dX5_records_27 (by decide) ?_
      refine z_iadd hx hb dX5_records_30 ?_
      refine z_iald (f := (shN was i)) hx hb hK (hP 2 _ rfl) (by omega) (by decide) dX5_records_31 ?_
      refine y_iast (a := (m + 2)) (f := (shN was i)) (i := i) hx hb hK (hP 2 _ rfl) (by omega) (by decide) dX5_records_32 (fun H9 hU hV => ?_)
      have hS := hS.upd hU (blk_in (by omega) (by omega))
      have hP : va_P D vwCl (mWs y m d (upd (shN was i) i ((shN was i) (i + 1445))) as tx gt (nI 4) ty pa rs) H9 := hP.upd (q0 := 2) mWs_D rfl hU hV
      clear hU hV
      refine lv_iinc (v := (nI (i + 1))) (lv' := [(1, .int (nI (i + 1))), (0, .ref m)]) hx hb dX5_records_33 hl (k := 0) rfl (in1 _) (by decide) rfl (fun ls hl => ?_)
      refine lv_goto (tgt := 10) hx hb dX5_records_36 (by decide) ?_
      exact ih_10 (i + 1) _ _ _ (by omega) ⟨by rw [sh_s] at hP; exact hP, hS, by omega⟩ (lv_sub hl [0, 1] rfl)
theorem iX5_calms_X5 : ∀ w ∈ wsX50, w ∈ wsX5_calms := fun w h => (List.mem_cons_of_mem _ (List.mem_append_right _ h))
set_option maxRecDepth 100000 in
set_option maxHeartbeats 4000000 in
theorem c_X5_calms (l : Launch) (D : va_G) (y : zY) (m : Nat) (d : Nat → Int32) (was : Nat → Int32) (as : Nat → Int32) (tx : Nat → Int32) (gt : Nat → Int32) (k : Nat) (ty : Int32) (pa : Int32) (rs : Int32) (n : Nat) (hI : zI d) (hk4 : k ≤ 4) (hn : n < 30) : Met l yX5_calms wsX5_calms ({ frames := 2, cells := 0, slots := 0, locals := 44 }) (zP [.ref m, .int (nI n)] (va_P D vwCl (mWs y m d was as tx gt (nI k) ty pa rs)) D y) (zW (some (.int (calR d n))) (va_P D vwCl (mWs y m (calD d n) was as tx gt (nI k) ty pa rs)) (blk m 6)) 0 0 (blk m 6) := by
  refine z_body (cc := cX5_calms) (maxL := 4) (ret := (some .int)) (la := [(0, .ref m), (1, .int (nI n))]) (by decide) rfl (Nat.le_of_ble_eq_true rfl) rfl ?_
  intro pg ev s mm below meth c0 ls hx hb hr hF hlocks hΦ hK hl _
  have hts := hF.2.2.2.2
  have hown : s.vm.findClass RX5 = some mm.cls := hF.2.2.2.1
  have hP : va_P D vwCl (mWs y m d was as tx gt (nI k) ty pa rs) s.heap := hΦ
  have hS : va_S (blk m 6) s.heap s.heap [] := va_S.rf
  have hG2 := hI.ng2
  have hC8 := hI.nc8
  refine lv_iconst (v := (nI 0)) hx hb dX5_calms_0 (by decide) ?_
  refine lv_istore_n (lv' := [(2, .int (nI 0)), (0, .ref m), (1, .int (nI n))]) hx hb dX5_calms_1 rfl hl (by decide) rfl (fun ls hl => ?_)
  refine lv_iconst (v := (nI 0)) hx hb dX5_calms_2 (by decide) ?_
  refine lv_istore_n (lv' := [(3, .int (nI 0)), (2, .int (nI 0)), (0, .ref m), (1, .int (nI n))]) hx hb dX5_calms_3 rfl hl (by decide) rfl (fun ls hl => ?_)
  have hl := lv_repl (l' := [(3, .int (nI 0)), (2, .int (cmC d n 0)), (0, .ref m), (1, .int (nI n))]) hl 1 rfl (rfl) rfl
  refine z_loopW (S := Nat) (nL := 4) (fun (i : Nat) => nG d - i) (fun (i : Nat) => [(3, .int (nI i)), (2, .int (cmC d n i)), (0, .ref m), (1, .int (nI n))]) (fun (i : Nat) (H : Heap) (locs : List Loc) => va_P D vwCl (mWs y m (cmD d n i) was as tx gt (nI k) ty pa rs) H ∧ va_S (blk m 6) s.heap H locs ∧ (i ≤ nG d)) 0 ⟨hP, hS, by omega⟩ (lv_sub hl [0, 1, 2, 3] rfl) ?_
  clear hl hP hS
  rintro i H1 locs ls ⟨hP, hS, hI_4⟩ hl ih_4
  have hi := hI_4
  have hz := (cm_I hI n i).1
  have hg := (cm_I hI n i).2
  refine lv_iload_n hx hb dX5_calms_4 rfl (lv_at hl 0 rfl) ?_
  refine lv_aload_n hx hb dX5_calms_5 rfl (lv_at hl 2 rfl) ?_
  refine z_get (fs := [.ref (m + 1), .ref (m + 2), .int (nI k), .ref (m + 3), .ref (m + 4), .int ty, .int pa, .int rs, .ref (m + 5)]) (ref := "CranePermitsModel") (C := RX5) (T := TX5) (N := 9) (ci := 5) (v := .ref (m + 1)) hx hb hts iX5_calms_X5 hown hK (hP 0 _ rfl) 0 (by decide) rfl (hts (.fieldLink RX5 7 "CranePermitsModel" "d" "[I") (List.mem_of_getElem? (i := 1) rfl)) rfl rfl dX5_calms_6 ?_
  refine lv_sipush (v := (nI 442)) hx hb dX5_calms_9 (by decide) ?_
  refine z_iald (f := (cmD d n i)) hx hb hK (hP 1 _ rfl) (by omega) (by decide) dX5_calms_12 ?_
  refine z_topi (z := (nI (nG d))) (by have h := (cm_I hI n i).1.ng; rw [(cm_I hI n i).2] at h; exact h) ?_
  refine z_ge (tgt := 74) hx hb (by omega) (by omega) dX5_calms_13 (by decide) (fun c13 => ?_) (fun c13 => ?_)
  · refine lv_aload_n hx hb dX5_calms_74 rfl (lv_at hl 2 rfl) ?_
    refine z_get (fs := [.ref (m + 1), .ref (m + 2), .int (nI k), .ref (m + 3), .ref (m + 4), .int ty, .int pa, .int rs, .ref (m + 5)]) (ref := "CranePermitsModel") (C := RX5) (T := TX5) (N := 9) (ci := 5) (v := .ref (m + 1)) hx hb hts iX5_calms_X5 hown hK (hP 0 _ rfl) 0 (by decide) rfl (hts (.fieldLink RX5 7 "CranePermitsModel" "d" "[I") (List.mem_of_getElem? (i := 1) rfl)) rfl rfl dX5_calms_75 ?_
    refine lv_sipush (v := (nI 444)) hx hb dX5_calms_78 (by decide) ?_
    refine lv_dup2_11 hx hb dX5_calms_81 rfl rfl ?_
    refine z_iald (f := (cmD d n i)) hx hb hK (hP 1 _ rfl) (by omega) (by decide) dX5_calms_82 ?_
    refine lv_iload_n hx hb dX5_calms_83 rfl (lv_at hl 1 rfl) ?_
    refine lv_iadd hx hb dX5_calms_84 ?_
    refine y_iast (a := (m + 1)) (f := (cmD d n i)) (i := 444) hx hb hK (hP 1 _ rfl) (by omega) (by decide) dX5_calms_85 (fun H2 hU hV => ?_)
    have hS := hS.upd hU (blk_in (by omega) (by omega))
    have hP : va_P D vwCl (mWs y m (upd (cmD d n i) 444 (((cmD d n i) 444) + (cmC d n i))) was as tx gt (nI k) ty pa rs) H2 := hP.upd (q0 := 1) mWs_D rfl hU hV
    clear hU hV
    refine lv_iload_n hx hb dX5_calms_86 rfl (lv_at hl 1 rfl) ?_
    exact w_reti hx hb hr hlocks hS (by rw [show i = nG d by omega] at hP; exact hP) (by rw [show i = nG d by omega]; rfl) dX5_calms_87
  · refine lv_aload_n hx hb dX5_calms_16 rfl (lv_at hl 2 rfl) ?_
    refine lv_iload_n hx hb dX5_calms_17 rfl (lv_at hl 0 rfl) ?_
    refine lv_iconst (v := (nI 4)) hx hb dX5_calms_18 (by decide) ?_
    refine z_callV (As := [.int (nI i), .int (nI 4)]) (rest := []) hF hK (c_X5_of l D y m (cmD d n i) i 4 (by omega) (by omega)) (cwV 2 hts gX5_calms_X5_of rfl rfl rfl (by decide +kernel) ⟨Nat.le_of_ble_eq_true rfl, Nat.le_of_ble_eq_true rfl⟩) (z_recv (q := (RX5, TX5, 9)) hK (hP 0 _ rfl) rfl) (zM_of hP) rfl hl.1 rfl (Nat.le_of_ble_eq_true rfl) dX5_calms_19 ⟨Nat.zero_le _, Nat.zero_le _⟩ ?_
    refine lv_iconst (v := (nI 1)) hx hb dX5_calms_22 (by decide) ?_
    refine lv_icmp_ne (tgt := 68) hx hb dX5_calms_23 (by decide) (fun c23 => ?_) (fun c23 => ?_)
    · refine lv_iinc (v := (nI (i + 1))) (lv' := [(3, .int (nI (i + 1))), (2, .int (cmC d n i)), (0, .ref m), (1, .int (nI n))]) hx hb dX5_calms_68 hl (k := 0) rfl (in1 _) (by decide) rfl (fun ls hl => ?_)
      refine lv_goto (tgt := 4) hx hb dX5_calms_71 (by decide) ?_
      have hl := lv_repl (l' := [(3, .int (nI (i + 1))), (2, .int (cmC d n (i + 1))), (0, .ref m), (1, .int (nI n))]) hl 1 rfl (by first | exact (cm_y c23 c33 c47).2.symm | exact (cm_n (fun h => c23 h.1)).2.symm | exact (cm_n (fun h => c33 h.2.1)).2.symm | exact (cm_n (fun h => bf c47 h.2.2)).2.symm) rfl
      exact ih_4 (i + 1) _ _ _ (by omega) ⟨by first | (rw [(cm_y c23 c33 c47).1]; exact hP) | (rw [(cm_n (fun h => c23 h.1)).1]; exact hP) | (rw [(cm_n (fun h => c33 h.2.1)).1]; exact hP) | (rw [(cm_n (fun h => bf c47 h.2.2)).1]; exact hP), hS, by omega⟩ (lv_sub hl [0, 1, 2, 3] rfl)
    · refine lv_aload_n hx hb dX5_calms_26 rfl (lv_at hl 2 rfl) ?_
      refine lv_iload_n hx hb dX5_calms_27 rfl (lv_at hl 0 rfl) ?_
      refine lv_iconst (v := (nI 1)) hx hb dX5_calms_28 (by decide) ?_
      refine z_callV (As := [.int (nI i), .int (nI 1)]) (rest := []) hF hK (c_X5_of l D y m (cmD d n i) i 1 (by omega) (by omega)) (cwV 2 hts gX5_calms_X5_of rfl rfl rfl (by decide +kernel) ⟨Nat.le_of_ble_eq_true rfl, Nat.le_of_ble_eq_true rfl⟩) (z_recv (q := (RX5, TX5, 9)) hK (hP 0 _ rfl) rfl) (zM_of hP) rfl hl.1 rfl (Nat.le_of_ble_eq_true rfl) dX5_calms_29 ⟨Nat.zero_le _, Nat.zero_le _⟩ ?_
      refine lv_iload_n hx hb dX5_calms_32 rfl (lv_at hl 3 rfl) ?_
      refine lv_icmp_ne (tgt := 68) hx hb dX5_calms_33 (by decide) (fun c33 => ?_) (fun c33 => ?_)
      · refine lv_iinc (v := (nI (i + 1))) (lv' := [(3, .int (nI (i + 1))), (2, .int (cmC d n i)), (0, .ref m), (1, .int (nI n))]) hx hb dX5_calms_68 hl (k := 0) rfl (in1 _) (by decide) rfl (fun ls hl => ?_)
        refine lv_goto (tgt := 4) hx hb dX5_calms_71 (by decide) ?_
        have hl := lv_repl (l' := [(3, .int (nI (i + 1))), (2, .int (cmC d n (i + 1))), (0, .ref m), (1, .int (nI n))]) hl 1 rfl (by first | exact (cm_y c23 c33 c47).2.symm | exact (cm_n (fun h => c23 h.1)).2.symm | exact (cm_n (fun h => c33 h.2.1)).2.symm | exact (cm_n (fun h => bf c47 h.2.2)).2.symm) rfl
        exact ih_4 (i + 1) _ _ _ (by omega) ⟨by first | (rw [(cm_y c23 c33 c47).1]; exact hP) | (rw [(cm_n (fun h => c23 h.1)).1]; exact hP) | (rw [(cm_n (fun h => c33 h.2.1)).1]; exact hP) | (rw [(cm_n (fun h => bf c47 h.2.2)).1]; exact hP), hS, by omega⟩ (lv_sub hl [0, 1, 2, 3] rfl)
      · refine lv_aload_n hx hb dX5_calms_36 rfl (lv_at hl 2 rfl) ?_
        refine lv_aload_n hx hb dX5_calms_37 rfl (lv_at hl 2 rfl) ?_
        refine lv_iload_n hx hb dX5_calms_38 rfl (lv_at hl 0 rfl) ?_
        refine lv_iconst (v := (nI 0)) hx hb dX5_calms_39 (by decide) ?_
        refine z_callV (As := [.int (nI i), .int (nI 0)]) (rest := [.ref m]) hF hK (c_X5_of l D y m (cmD d n i) i 0 (by omega) (by omega)) (cwV 2 hts gX5_calms_X5_of rfl rfl rfl (by decide +kernel) ⟨Nat.le_of_ble_eq_true rfl, Nat.le_of_ble_eq_true rfl⟩) (z_recv (q := (RX5, TX5, 9)) hK (hP 0 _ rfl) rfl) (zM_of hP) rfl hl.1 rfl (Nat.le_of_ble_eq_true rfl) dX5_calms_40 ⟨Nat.zero_le _, Nat.zero_le _⟩ ?_
        refine z_topi (z := (nI (pC (cmD d n i) i))) (hz.pc (by omega)) ?_
        refine lv_iload_n hx hb dX5_calms_43 rfl (lv_at hl 3 rfl) ?_
        refine z_callV (As := [.int (nI (pC (cmD d n i) i)), .int (nI n)]) (rest := []) hF hK (c_X5_stops l D y m (cmD d n i) (pC (cmD d n i) i) n (hz.pc8 (by omega)) (by omega)) (cwV 2 hts gX5_calms_X5_stops rfl rfl rfl (by decide +kernel) ⟨Nat.le_of_ble_eq_true rfl, Nat.le_of_ble_eq_true rfl⟩) (z_recv (q := (RX5, TX5, 9)) hK (hP 0 _ rfl) rfl) (zM_of hP) rfl hl.1 rfl (Nat.le_of_ble_eq_true rfl) dX5_calms_44 ⟨Nat.zero_le _, Nat.zero_le _⟩ ?_
        refine z_ifeq (tgt := 68) hx hb dX5_calms_47 (by decide) (fun c47 => ?_) (fun c47 => ?_)
        · refine lv_iinc (v := (nI (i + 1))) (lv' := [(3, .int (nI (i + 1))), (2, .int (cmC d n i)), (0, .ref m), (1, .int (nI n))]) hx hb dX5_calms_68 hl (k := 0) rfl (in1 _) (by decide) rfl (fun ls hl => ?_)
          refine lv_goto (tgt := 4) hx hb dX5_calms_71 (by decide) ?_
          have hl := lv_repl (l' := [(3, .int (nI (i + 1))), (2, .int (cmC d n (i + 1))), (0, .ref m), (1, .int (nI n))]) hl 1 rfl (by first | exact (cm_y c23 c33 c47).2.symm | exact (cm_n (fun h => c23 h.1)).2.symm | exact (cm_n (fun h => c33 h.2.1)).2.symm | exact (cm_n (fun h => bf c47 h.2.2)).2.symm) rfl
          exact ih_4 (i + 1) _ _ _ (by omega) ⟨by first | (rw [(cm_y c23 c33 c47).1]; exact hP) | (rw [(cm_n (fun h => c23 h.1)).1]; exact hP) | (rw [(cm_n (fun h => c33 h.2.1)).1]; exact hP) | (rw [(cm_n (fun h => bf c47 h.2.2)).1]; exact hP), hS, by omega⟩ (lv_sub hl [0, 1, 2, 3] rfl)
        · refine lv_aload_n hx hb dX5_calms_50 rfl (lv_at hl 2 rfl) ?_
          refine z_get (fs := [.ref (m + 1), .ref (m + 2), .int (nI k), .ref (m + 3), .ref (m + 4), .int ty, .int pa, .int rs, .ref (m + 5)]) (ref := "CranePermitsModel") (C := RX5) (T := TX5) (N := 9) (ci := 5) (v := .ref (m + 1)) hx hb hts iX5_calms_X5 hown hK (hP 0 _ rfl) 0 (by decide) rfl (hts (.fieldLink RX5 7 "CranePermitsModel" "d" "[I") (List.mem_of_getElem? (i := 1) rfl)) rfl rfl dX5_calms_51 ?_
          refine lv_sipush (v := (nI 445)) hx hb dX5_calms_54 (by decide) ?_
          refine lv_iconst (v := (nI 5)) hx hb dX5_calms_57 (by decide) ?_
          refine lv_iload_n hx hb dX5_calms_58 rfl (lv_at hl 0 rfl) ?_
          refine z_imul hx hb dX5_calms_59 ?_
          refine z_iadd hx hb dX5_calms_60 ?_
          refine lv_iconst (v := (nI 4)) hx hb dX5_calms_61 (by decide) ?_
          refine z_iadd hx hb dX5_calms_62 ?_
          refine lv_iconst (v := (nI 3)) hx hb dX5_calms_63 (by decide) ?_
          refine y_iast (a := (m + 1)) (f := (cmD d n i)) (i := ((445 + (5 * i)) + 4)) hx hb hK (hP 1 _ rfl) (by omega) (by decide) dX5_calms_64 (fun H3 hU hV => ?_)
          have hS := hS.upd hU (blk_in (by omega) (by omega))
          have hP : va_P D vwCl (mWs y m (upd (cmD d n i) ((445 + (5 * i)) + 4) (nI 3)) was as tx gt (nI k) ty pa rs) H3 := hP.upd (q0 := 1) mWs_D rfl hU hV
          clear hU hV
          refine lv_iinc (v := ((cmC d n i) + 1)) (lv' := [(2, .int ((cmC d n i) + 1)), (3, .int (nI i)), (0, .ref m), (1, .int (nI n))]) hx hb dX5_calms_65 hl (k := 1) rfl (rfl) (by decide) rfl (fun ls hl => ?_)
          refine lv_iinc (v := (nI (i + 1))) (lv' := [(3, .int (nI (i + 1))), (2, .int ((cmC d n i) + 1)), (0, .ref m), (1, .int (nI n))]) hx hb dX5_calms_68 hl (k := 1) rfl (in1 _) (by decide) rfl (fun ls hl => ?_)
          refine lv_goto (tgt := 4) hx hb dX5_calms_71 (by decide) ?_
          have hl := lv_repl (l' := [(3, .int (nI (i + 1))), (2, .int (cmC d n (i + 1))), (0, .ref m), (1, .int (nI n))]) hl 1 rfl (by first | exact (cm_y c23 c33 c47).2.symm | exact (cm_n (fun h => c23 h.1)).2.symm | exact (cm_n (fun h => c33 h.2.1)).2.symm | exact (cm_n (fun h => bf c47 h.2.2)).2.symm) rfl
          exact ih_4 (i + 1) _ _ _ (by omega) ⟨by first | (rw [(cm_y c23 c33 c47).1]; exact hP) | (rw [(cm_n (fun h => c23 h.1)).1]; exact hP) | (rw [(cm_n (fun h => c33 h.2.1)).1]; exact hP) | (rw [(cm_n (fun h => bf c47 h.2.2)).1]; exact hP), hS, by omega⟩ (lv_sub hl [0, 1, 2, 3] rfl)
