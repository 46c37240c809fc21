/-! THE REFERENCE: the methods that write, 1 -/
theorem i_c_X5_records_X5 : ∀ w ∈ wsX50, w ∈ wsX5_records := fun w h => (List.mem_cons_of_mem _ (List.mem_append_right _ h))
set_option maxRecDepth 100000 in
set_option maxHeartbeats 4000000 in
theorem c_X5_records (l : Launch) (D : va_G) (y : zY) (m : Nat) (d : Nat → Int32) (was : Nat → Int32) (as : Nat → Int32) (tx : Nat → Int32) (gt : Nat → Int32) (k : Nat) (ty : Int32) (pa : Int32) (rs : Int32) (hk4 : k ≤ 4) : Met l yX5_records wsX5_records ({ frames := 0, cells := 0, slots := 0, locals := 0 }) (zP [.ref m] (va_P D vwCl (mWs y m d was as tx gt (nI k) ty pa rs)) D y) (zW none (va_P D vwCl (mWs y m d (recW d was k) as tx gt (nI (recN k)) ty pa rs)) (blk m 6)) 0 0 (blk m 6) := by
  refine z_body (cc := cX5_records) (maxL := 2) (ret := none) (la := [(0, .ref m)]) (by decide) rfl (Nat.le_of_ble_eq_true rfl) rfl ?_
  intro pg ev s mm below meth c0 ls hx hb hr hF hlocks hΦ hK hl _
  have hts := hF.2.2.2.2
  have hown : s.vm.findClass RX5 = some mm.cls := hF.2.2.2.1
  have hP : va_P D vwCl (mWs y m d was as tx gt (nI k) ty pa rs) s.heap := hΦ
  have hS : va_S (blk m 6) s.heap s.heap [] := va_S.rf
  have hrk := recN_le hk4
  refine lv_aload_n hx hb dX5_records_0 rfl (lv_at hl 0 rfl) ?_
  refine z_get (fs := [.ref (m + 1), .ref (m + 2), .int (nI k), .ref (m + 3), .ref (m + 4), .int ty, .int pa, .int rs, .ref (m + 5)]) (ref := "CranePermitsModel") (C := RX5) (T := TX5) (N := 9) (ci := 5) (v := .int (nI k)) hx hb hts i_c_X5_records_X5 hown hK (hP 0 _ rfl) 2 (by decide) rfl (hts (.fieldLink RX5 30 "CranePermitsModel" "states" "I") (List.mem_of_getElem? (i := 1) rfl)) rfl rfl dX5_records_1 ?_
  refine lv_iconst (v := (nI 4)) hx hb dX5_records_4 (by decide) ?_
  refine z_ne (tgt := 49) hx hb (by omega) (by omega) dX5_records_5 (by decide) (fun c5 => ?_) (fun c5 => ?_)
  · refine lv_iconst (v := (nI 0)) hx hb dX5_records_49 (by decide) ?_
    refine lv_istore_n (lv' := [(1, .int (nI 0)), (0, .ref m)]) hx hb dX5_records_50 rfl hl (by decide) rfl (fun ls hl => ?_)
    refine z_loopW (S := Nat) (nL := 2) (fun (i : Nat) => 1445 - i) (fun (i : Nat) => [(1, .int (nI i)), (0, .ref m)]) (fun (i : Nat) (H : Heap) (locs : List Loc) => va_P D vwCl (mWs y m d (cpN was d (1445 * k) i) as tx gt (nI k) ty pa rs) H ∧ va_S (blk m 6) s.heap H locs ∧ (i ≤ 1445)) 0 ⟨by rw [cp_0]; exact hP, hS, by omega⟩ (lv_sub hl [0, 1] rfl) ?_
    clear hl hP hS
    rintro i H1 locs ls ⟨hP, hS, hI_51⟩ hl ih_51
    have hi := hI_51
    refine lv_iload_n hx hb dX5_records_51 rfl (lv_at hl 0 rfl) ?_
    refine lv_sipush (v := (nI 1445)) hx hb dX5_records_52 (by decide) ?_
    refine z_ge (tgt := 85) hx hb (by omega) (by omega) dX5_records_55 (by decide) (fun c55 => ?_) (fun c55 => ?_)
    · refine lv_aload_n hx hb dX5_records_85 rfl (lv_at hl 1 rfl) ?_
      refine lv_dup hx hb dX5_records_86 rfl ?_
      refine z_get (fs := [.ref (m + 1), .ref (m + 2), .int (nI k), .ref (m + 3), .ref (m + 4), .int ty, .int pa, .int rs, .ref (m + 5)]) (ref := "CranePermitsModel") (C := RX5) (T := TX5) (N := 9) (ci := 5) (v := .int (nI k)) hx hb hts i_c_X5_records_X5 hown hK (hP 0 _ rfl) 2 (by decide) rfl (hts (.fieldLink RX5 30 "CranePermitsModel" "states" "I") (List.mem_of_getElem? (i := 1) rfl)) rfl rfl dX5_records_87 ?_
      refine lv_iconst (v := (nI 1)) hx hb dX5_records_90 (by decide) ?_
      refine z_iadd hx hb dX5_records_91 ?_
      refine y_put (a := m) (fs := [.ref (m + 1), .ref (m + 2), .int (nI k), .ref (m + 3), .ref (m + 4), .int ty, .int pa, .int rs, .ref (m + 5)]) (ref := "CranePermitsModel") (C := RX5) (T := TX5) (N := 9) (ci := 5) (v := .int (nI (k + 1))) (ty := .int) hx hb hts i_c_X5_records_X5 tyX5 tyX5_ok nmX5 hown hK (hP 0 _ rfl) 2 (by decide) rfl (hts (.fieldLink RX5 30 "CranePermitsModel" "states" "I") (List.mem_of_getElem? (i := 1) rfl)) rfl rfl (by decide +kernel) (rfl) rfl (Nat.le_of_ble_eq_true rfl) dX5_records_92 (fun H2 x1 hU hV => ?_)
      have hS := hS.upd (x := x1) hU (blk_in (by omega) (by omega))
      have hP : va_P D vwCl (mWs y m d (cpN was d (1445 * k) i) as tx gt (nI (k + 1)) ty pa rs) H2 := hP.upd (q0 := 0) mWs_D rfl hU hV
      clear hU hV
      exact w_retv hx hb hr hlocks hS (by rw [show i = 1445 by omega] at hP; first | (rw [rec_4] at hP; exact hP) | (rw [rec_n c5, recN_n c5] at hP; exact hP)) dX5_records_95
    · refine lv_aload_n hx hb dX5_records_58 rfl (lv_at hl 1 rfl) ?_
      refine z_get (fs := [.ref (m + 1), .ref (m + 2), .int (nI k), .ref (m + 3), .ref (m + 4), .int ty, .int pa, .int rs, .ref (m + 5)]) (ref := "CranePermitsModel") (C := RX5) (T := TX5) (N := 9) (ci := 5) (v := .ref (m + 2)) hx hb hts i_c_X5_records_X5 hown hK (hP 0 _ rfl) 1 (by decide) rfl (hts (.fieldLink RX5 13 "CranePermitsModel" "was" "[I") (List.mem_of_getElem? (i := 2) rfl)) rfl rfl dX5_records_59 ?_
      refine lv_sipush (v := (nI 1445)) hx hb dX5_records_62 (by decide) ?_
      refine lv_aload_n hx hb dX5_records_65 rfl (lv_at hl 1 rfl) ?_
      refine z_get (fs := [.ref (m + 1), .ref (m + 2), .int (nI k), .ref (m + 3), .ref (m + 4), .int ty, .int pa, .int rs, .ref (m + 5)]) (ref := "CranePermitsModel") (C := RX5) (T := TX5) (N := 9) (ci := 5) (v := .int (nI k)) hx hb hts i_c_X5_records_X5 hown hK (hP 0 _ rfl) 2 (by decide) rfl (hts (.fieldLink RX5 30 "CranePermitsModel" "states" "I") (List.mem_of_getElem? (i := 1) rfl)) rfl rfl dX5_records_66 ?_
      refine z_imul hx hb dX5_records_69 ?_
      refine lv_iload_n hx hb dX5_records_70 rfl (lv_at hl 0 rfl) ?_
      refine z_iadd hx hb dX5_records_71 ?_
      refine lv_aload_n hx hb dX5_records_72 rfl (lv_at hl 1 rfl) ?_
      refine z_get (fs := [.ref (m + 1), .ref (m + 2), .int (nI k), .ref (m + 3), .ref (m + 4), .int ty, .int pa, .int rs, .ref (m + 5)]) (ref := "CranePermitsModel") (C := RX5) (T := TX5) (N := 9) (ci := 5) (v := .ref (m + 1)) hx hb hts i_c_X5_records_X5 hown hK (hP 0 _ rfl) 0 (by decide) rfl (hts (.fieldLink RX5 7 "CranePermitsModel" "d" "[I") (List.mem_of_getElem? (i := 3) rfl)) rfl rfl dX5_records_73 ?_
      refine lv_iload_n hx hb dX5_records_76 rfl (lv_at hl 0 rfl) ?_
      refine z_iald (f := d) hx hb hK (hP 1 _ rfl) (by omega) (by decide) dX5_records_77 ?_
      refine y_iast (a := (m + 2)) (f := (cpN was d (1445 * k) i)) (i := ((1445 * k) + i)) hx hb hK (hP 2 _ rfl) (by omega) (by decide) dX5_records_78 (fun H3 hU hV => ?_)
      have hS := hS.upd (x := ((1445 * k) + i)) hU (blk_in (by omega) (by omega))
      have hP : va_P D vwCl (mWs y m d (upd (cpN was d (1445 * k) i) ((1445 * k) + i) (d i)) as tx gt (nI k) ty pa rs) H3 := hP.upd (q0 := 2) mWs_D rfl hU hV
      clear hU hV
      refine lv_iinc (v := (nI (i + 1))) (lv' := [(1, .int (nI (i + 1))), (0, .ref m)]) hx hb dX5_records_79 hl (k := 0) rfl (in1 _) (by decide) rfl (fun ls hl => ?_)
      refine lv_goto (tgt := 51) hx hb dX5_records_82 (by decide) ?_
      exact ih_51 (i + 1) _ _ _ (by omega) ⟨by rw [cp_s] at hP; exact hP, hS, by omega⟩ (lv_sub hl [0, 1] rfl)
  · subst c5
    refine lv_iconst (v := (nI 0)) hx hb dX5_records_8 (by decide) ?_
    refine lv_istore_n (lv' := [(1, .int (nI 0)), (0, .ref m)]) hx hb dX5_records_9 rfl hl (by decide) rfl (fun ls hl => ?_)
    refine z_loopW (S := Nat) (nL := 2) (fun (i : Nat) => 4335 - i) (fun (i : Nat) => [(1, .int (nI i)), (0, .ref m)]) (fun (i : Nat) (H : Heap) (locs : List Loc) => va_P D vwCl (mWs y m d (shN was i) as tx gt (nI 4) ty pa rs) H ∧ va_S (blk m 6) s.heap H locs ∧ (i ≤ 4335)) 0 ⟨by rw [sh_0]; exact hP, hS, by omega⟩ (lv_sub hl [0, 1] rfl) ?_
    clear hl hP hS
    rintro i H4 locs ls ⟨hP, hS, hI_10⟩ hl ih_10
    have hi := hI_10
    refine lv_iload_n hx hb dX5_records_10 rfl (lv_at hl 0 rfl) ?_
    refine lv_sipush (v := (nI 4335)) hx hb dX5_records_11 (by decide) ?_
    refine z_ge (tgt := 39) hx hb (by omega) (by omega) dX5_records_14 (by decide) (fun c14 => ?_) (fun c14 => ?_)
    · refine lv_aload_n hx hb dX5_records_39 rfl (lv_at hl 1 rfl) ?_
      refine lv_dup hx hb dX5_records_40 rfl ?_
      refine z_get (fs := [.ref (m + 1), .ref (m + 2), .int (nI 4), .ref (m + 3), .ref (m + 4), .int ty, .int pa, .int rs, .ref (m + 5)]) (ref := "CranePermitsModel") (C := RX5) (T := TX5) (N := 9) (ci := 5) (v := .int (nI 4)) hx hb hts i_c_X5_records_X5 hown hK (hP 0 _ rfl) 2 (by decide) rfl (hts (.fieldLink RX5 30 "CranePermitsModel" "states" "I") (List.mem_of_getElem? (i := 1) rfl)) rfl rfl dX5_records_41 ?_
      refine lv_iconst (v := (nI 1)) hx hb dX5_records_44 (by decide) ?_
      refine z_isub hx hb (by omega) dX5_records_45 ?_
      refine y_put (a := m) (fs := [.ref (m + 1), .ref (m + 2), .int (nI 4), .ref (m + 3), .ref (m + 4), .int ty, .int pa, .int rs, .ref (m + 5)]) (ref := "CranePermitsModel") (C := RX5) (T := TX5) (N := 9) (ci := 5) (v := .int (nI (4 - 1))) (ty := .int) hx hb hts i_c_X5_records_X5 tyX5 tyX5_ok nmX5 hown hK (hP 0 _ rfl) 2 (by decide) rfl (hts (.fieldLink RX5 30 "CranePermitsModel" "states" "I") (List.mem_of_getElem? (i := 1) rfl)) rfl rfl (by decide +kernel) (rfl) rfl (Nat.le_of_ble_eq_true rfl) dX5_records_46 (fun H5 x1 hU hV => ?_)
      have hS := hS.upd (x := x1) hU (blk_in (by omega) (by omega))
      have hP : va_P D vwCl (mWs y m d (shN was i) as tx gt (nI (4 - 1)) ty pa rs) H5 := hP.upd (q0 := 0) mWs_D rfl hU hV
      clear hU hV
      refine lv_iconst (v := (nI 0)) hx hb dX5_records_49 (by decide) ?_
      refine lv_istore_n (lv' := [(1, .int (nI 0)), (0, .ref m)]) hx hb dX5_records_50 rfl hl (by decide) rfl (fun ls hl => ?_)
      refine z_loopW (S := Nat) (nL := 2) (fun (i : Nat) => 1445 - i) (fun (i : Nat) => [(1, .int (nI i)), (0, .ref m)]) (fun (i : Nat) (H : Heap) (locs : List Loc) => va_P D vwCl (mWs y m d (cpN (shN was 4335) d (1445 * (4 - 1)) i) as tx gt (nI (4 - 1)) ty pa rs) H ∧ va_S (blk m 6) s.heap H locs ∧ (i ≤ 1445)) 0 ⟨by rw [cp_0]; rw [show i = 4335 by omega] at hP; exact hP, hS, by omega⟩ (lv_sub hl [0, 1] rfl) ?_
      clear hl hP hS
      rintro i H6 locs ls ⟨hP, hS, hI_51⟩ hl ih_51
      have hi := hI_51
      refine lv_iload_n hx hb dX5_records_51 rfl (lv_at hl 0 rfl) ?_
      refine lv_sipush (v := (nI 1445)) hx hb dX5_records_52 (by decide) ?_
      refine z_ge (tgt := 85) hx hb (by omega) (by omega) dX5_records_55 (by decide) (fun c55 => ?_) (fun c55 => ?_)
      · refine lv_aload_n hx hb dX5_records_85 rfl (lv_at hl 1 rfl) ?_
        refine lv_dup hx hb dX5_records_86 rfl ?_
        refine z_get (fs := [.ref (m + 1), .ref (m + 2), .int (nI (4 - 1)), .ref (m + 3), .ref (m + 4), .int ty, .int pa, .int rs, .ref (m + 5)]) (ref := "CranePermitsModel") (C := RX5) (T := TX5) (N := 9) (ci := 5) (v := .int (nI (4 - 1))) hx hb hts i_c_X5_records_X5 hown hK (hP 0 _ rfl) 2 (by decide) rfl (hts (.fieldLink RX5 30 "CranePermitsModel" "states" "I") (List.mem_of_getElem? (i := 1) rfl)) rfl rfl dX5_records_87 ?_
        refine lv_iconst (v := (nI 1)) hx hb dX5_records_90 (by decide) ?_
        refine z_iadd hx hb dX5_records_91 ?_
        refine y_put (a := m) (fs := [.ref (m + 1), .ref (m + 2), .int (nI (4 - 1)), .ref (m + 3), .ref (m + 4), .int ty, .int pa, .int rs, .ref (m + 5)]) (ref := "CranePermitsModel") (C := RX5) (T := TX5) (N := 9) (ci := 5) (v := .int (nI ((4 - 1) + 1))) (ty := .int) hx hb hts i_c_X5_records_X5 tyX5 tyX5_ok nmX5 hown hK (hP 0 _ rfl) 2 (by decide) rfl (hts (.fieldLink RX5 30 "CranePermitsModel" "states" "I") (List.mem_of_getElem? (i := 1) rfl)) rfl rfl (by decide +kernel) (rfl) rfl (Nat.le_of_ble_eq_true rfl) dX5_records_92 (fun H7 x1 hU hV => ?_)
        have hS := hS.upd (x := x1) hU (blk_in (by omega) (by omega))
        have hP : va_P D vwCl (mWs y m d (cpN (shN was 4335) d (1445 * (4 - 1)) i) as tx gt (nI ((4 - 1) + 1)) ty pa rs) H7 := hP.upd (q0 := 0) mWs_D rfl hU hV
        clear hU hV
        exact w_retv hx hb hr hlocks hS (by rw [show i = 1445 by omega] at hP; first | (rw [rec_4] at hP; exact hP) | (rw [rec_n c5, recN_n c5] at hP; exact hP)) dX5_records_95
      · refine lv_aload_n hx hb dX5_records_58 rfl (lv_at hl 1 rfl) ?_
        refine z_get (fs := [.ref (m + 1), .ref (m + 2), .int (nI (4 - 1)), .ref (m + 3), .ref (m + 4), .int ty, .int pa, .int rs, .ref (m + 5)]) (ref := "CranePermitsModel") (C := RX5) (T := TX5) (N := 9) (ci := 5) (v := .ref (m + 2)) hx hb hts i_c_X5_records_X5 hown hK (hP 0 _ rfl) 1 (by decide) rfl (hts (.fieldLink RX5 13 "CranePermitsModel" "was" "[I") (List.mem_of_getElem? (i := 2) rfl)) rfl rfl dX5_records_59 ?_
        refine lv_sipush (v := (nI 1445)) hx hb dX5_records_62 (by decide) ?_
        refine lv_aload_n hx hb dX5_records_65 rfl (lv_at hl 1 rfl) ?_
        refine z_get (fs := [.ref (m + 1), .ref (m + 2), .int (nI (4 - 1)), .ref (m + 3), .ref (m + 4), .int ty, .int pa, .int rs, .ref (m + 5)]) (ref := "CranePermitsModel") (C := RX5) (T := TX5) (N := 9) (ci := 5) (v := .int (nI (4 - 1))) hx hb hts i_c_X5_records_X5 hown hK (hP 0 _ rfl) 2 (by decide) rfl (hts (.fieldLink RX5 30 "CranePermitsModel" "states" "I") (List.mem_of_getElem? (i := 1) rfl)) rfl rfl dX5_records_66 ?_
        refine z_imul hx hb dX5_records_69 ?_
        refine lv_iload_n hx hb dX5_records_70 rfl (lv_at hl 0 rfl) ?_
        refine z_iadd hx hb dX5_records_71 ?_
        refine lv_aload_n hx hb dX5_records_72 rfl (lv_at hl 1 rfl) ?_
        refine z_get (fs := [.ref (m + 1), .ref (m + 2), .int (nI (4 - 1)), .ref (m + 3), .ref (m + 4), .int ty, .int pa, .int rs, .ref (m + 5)]) (ref := "CranePermitsModel") (C := RX5) (T := TX5) (N := 9) (ci := 5) (v := .ref (m + 1)) hx hb hts i_c_X5_records_X5 hown hK (hP 0 _ rfl) 0 (by decide) rfl (hts (.fieldLink RX5 7 "CranePermitsModel" "d" "[I") (List.mem_of_getElem? (i := 3) rfl)) rfl rfl dX5_records_73 ?_
        refine lv_iload_n hx hb dX5_records_76 rfl (lv_at hl 0 rfl) ?_
        refine z_iald (f := d) hx hb hK (hP 1 _ rfl) (by omega) (by decide) dX5_records_77 ?_
        refine y_iast (a := (m + 2)) (f := (cpN (shN was 4335) d (1445 * (4 - 1)) i)) (i := ((1445 * (4 - 1)) + i)) hx hb hK (hP 2 _ rfl) (by omega) (by decide) dX5_records_78 (fun H8 hU hV => ?_)
        have hS := hS.upd (x := ((1445 * (4 - 1)) + i)) hU (blk_in (by omega) (by omega))
        have hP : va_P D vwCl (mWs y m d (upd (cpN (shN was 4335) d (1445 * (4 - 1)) i) ((1445 * (4 - 1)) + i) (d i)) as tx gt (nI (4 - 1)) ty pa rs) H8 := hP.upd (q0 := 2) mWs_D rfl hU hV
        clear hU hV
        refine lv_iinc (v := (nI (i + 1))) (lv' := [(1, .int (nI (i + 1))), (0, .ref m)]) hx hb dX5_records_79 hl (k := 0) rfl (in1 _) (by decide) rfl (fun ls hl => ?_)
        refine lv_goto (tgt := 51) hx hb dX5_records_82 (by decide) ?_
        exact ih_51 (i + 1) _ _ _ (by omega) ⟨by rw [cp_s] at hP; exact hP, hS, by omega⟩ (lv_sub hl [0, 1] rfl)
    · refine lv_aload_n hx hb dX5_records_17 rfl (lv_at hl 1 rfl) ?_
      refine z_get (fs := [.ref (m + 1), .ref (m + 2), .int (nI 4), .ref (m + 3), .ref (m + 4), .int ty, .int pa, .int rs, .ref (m + 5)]) (ref := "CranePermitsModel") (C := RX5) (T := TX5) (N := 9) (ci := 5) (v := .ref (m + 2)) hx hb hts i_c_X5_records_X5 hown hK (hP 0 _ rfl) 1 (by decide) rfl (hts (.fieldLink RX5 13 "CranePermitsModel" "was" "[I") (List.mem_of_getElem? (i := 2) rfl)) rfl rfl dX5_records_18 ?_
      refine lv_iload_n hx hb dX5_records_21 rfl (lv_at hl 0 rfl) ?_
      refine lv_aload_n hx hb dX5_records_22 rfl (lv_at hl 1 rfl) ?_
      refine z_get (fs := [.ref (m + 1), .ref (m + 2), .int (nI 4), .ref (m + 3), .ref (m + 4), .int ty, .int pa, .int rs, .ref (m + 5)]) (ref := "CranePermitsModel") (C := RX5) (T := TX5) (N := 9) (ci := 5) (v := .ref (m + 2)) hx hb hts i_c_X5_records_X5 hown hK (hP 0 _ rfl) 1 (by decide) rfl (hts (.fieldLink RX5 13 "CranePermitsModel" "was" "[I") (List.mem_of_getElem? (i := 2) rfl)) rfl rfl dX5_records_23 ?_
      refine lv_iload_n hx hb dX5_records_26 rfl (lv_at hl 0 rfl) ?_
      refine lv_sipush (v := (nI 1445)) hx hb dX5_records_27 (by decide) ?_
      refine z_iadd hx hb dX5_records_30 ?_
      refine z_iald (f := (shN was i)) hx hb hK (hP 2 _ rfl) (by omega) (by decide) dX5_records_31 ?_
      refine y_iast (a := (m + 2)) (f := (shN was i)) (i := i) hx hb hK (hP 2 _ rfl) (by omega) (by decide) dX5_records_32 (fun H9 hU hV => ?_)
      have hS := hS.upd (x := i) hU (blk_in (by omega) (by omega))
      have hP : va_P D vwCl (mWs y m d (upd (shN was i) i ((shN was i) (i + 1445))) as tx gt (nI 4) ty pa rs) H9 := hP.upd (q0 := 2) mWs_D rfl hU hV
      clear hU hV
      refine lv_iinc (v := (nI (i + 1))) (lv' := [(1, .int (nI (i + 1))), (0, .ref m)]) hx hb dX5_records_33 hl (k := 0) rfl (in1 _) (by decide) rfl (fun ls hl => ?_)
      refine lv_goto (tgt := 10) hx hb dX5_records_36 (by decide) ?_
      exact ih_10 (i + 1) _ _ _ (by omega) ⟨by rw [sh_s] at hP; exact hP, hS, by omega⟩ (lv_sub hl [0, 1] rfl)
theorem i_c_X5_calms_X5 : ∀ w ∈ wsX50, w ∈ wsX5_calms := fun w h => (List.mem_cons_of_mem _ (List.mem_append_right _ h))
set_option maxRecDepth 100000 in
set_option maxHeartbeats 4000000 in
theorem c_X5_calms (l : Launch) (D : va_G) (y : zY) (m : Nat) (d : Nat → Int32) (was : Nat → Int32) (as : Nat → Int32) (tx : Nat → Int32) (gt : Nat → Int32) (k : Nat) (ty : Int32) (pa : Int32) (rs : Int32) (n : Nat) (hI : zI d) (hk4 : k ≤ 4) (hn : n < 30) : Met l yX5_calms wsX5_calms ({ frames := 2, cells := 0, slots := 0, locals := 44 }) (zP [.ref m, .int (nI n)] (va_P D vwCl (mWs y m d was as tx gt (nI k) ty pa rs)) D y) (zW (some (.int (calR d n))) (va_P D vwCl (mWs y m (calD d n) was as tx gt (nI k) ty pa rs)) (blk m 6)) 0 0 (blk m 6) := by
  refine z_body (cc := cX5_calms) (maxL := 4) (ret := (some .int)) (la := [(0, .ref m), (1, .int (nI n))]) (by decide) rfl (Nat.le_of_ble_eq_true rfl) rfl ?_
  intro pg ev s mm below meth c0 ls hx hb hr hF hlocks hΦ hK hl _
  have hts := hF.2.2.2.2
  have hown : s.vm.findClass RX5 = some mm.cls := hF.2.2.2.1
  have hP : va_P D vwCl (mWs y m d was as tx gt (nI k) ty pa rs) s.heap := hΦ
  have hS : va_S (blk m 6) s.heap s.heap [] := va_S.rf
  have hG2 := hI.ng2
  have hC8 := hI.nc8
  have hrk := recN_le hk4
  refine lv_iconst (v := (nI 0)) hx hb dX5_calms_0 (by decide) ?_
  refine lv_istore_n (lv' := [(2, .int (nI 0)), (0, .ref m), (1, .int (nI n))]) hx hb dX5_calms_1 rfl hl (by decide) rfl (fun ls hl => ?_)
  refine lv_iconst (v := (nI 0)) hx hb dX5_calms_2 (by decide) ?_
  refine lv_istore_n (lv' := [(3, .int (nI 0)), (2, .int (nI 0)), (0, .ref m), (1, .int (nI n))]) hx hb dX5_calms_3 rfl hl (by decide) rfl (fun ls hl => ?_)
  have hl := lv_repl (l' := [(3, .int (nI 0)), (2, .int (cmC d n 0)), (0, .ref m), (1, .int (nI n))]) hl 1 rfl (congrArg Value.int (show (nI 0) = (cmC d n 0) from rfl)) rfl
  refine z_loopW (S := Nat) (nL := 4) (fun (i : Nat) => nG d - i) (fun (i : Nat) => [(3, .int (nI i)), (2, .int (cmC d n i)), (0, .ref m), (1, .int (nI n))]) (fun (i : Nat) (H : Heap) (locs : List Loc) => va_P D vwCl (mWs y m (cmD d n i) was as tx gt (nI k) ty pa rs) H ∧ va_S (blk m 6) s.heap H locs ∧ (i ≤ nG d)) 0 ⟨hP, hS, by omega⟩ (lv_sub hl [0, 1, 2, 3] rfl) ?_
  clear hl hP hS
  rintro i H1 locs ls ⟨hP, hS, hI_4⟩ hl ih_4
  have hi := hI_4
  have hz := (cm_I hI n i).1
  have hg := (cm_I hI n i).2
  refine lv_iload_n hx hb dX5_calms_4 rfl (lv_at hl 0 rfl) ?_
  refine lv_aload_n hx hb dX5_calms_5 rfl (lv_at hl 2 rfl) ?_
  refine z_get (fs := [.ref (m + 1), .ref (m + 2), .int (nI k), .ref (m + 3), .ref (m + 4), .int ty, .int pa, .int rs, .ref (m + 5)]) (ref := "CranePermitsModel") (C := RX5) (T := TX5) (N := 9) (ci := 5) (v := .ref (m + 1)) hx hb hts i_c_X5_calms_X5 hown hK (hP 0 _ rfl) 0 (by decide) rfl (hts (.fieldLink RX5 7 "CranePermitsModel" "d" "[I") (List.mem_of_getElem? (i := 1) rfl)) rfl rfl dX5_calms_6 ?_
  refine lv_sipush (v := (nI 442)) hx hb dX5_calms_9 (by decide) ?_
  refine z_iald (f := (cmD d n i)) hx hb hK (hP 1 _ rfl) (by omega) (by decide) dX5_calms_12 ?_
  refine z_topi (z := (nI (nG d))) (by have h := (cm_I hI n i).1.ng; rw [(cm_I hI n i).2] at h; exact h) ?_
  refine z_ge (tgt := 74) hx hb (by omega) (by omega) dX5_calms_13 (by decide) (fun c13 => ?_) (fun c13 => ?_)
  · refine lv_aload_n hx hb dX5_calms_74 rfl (lv_at hl 2 rfl) ?_
    refine z_get (fs := [.ref (m + 1), .ref (m + 2), .int (nI k), .ref (m + 3), .ref (m + 4), .int ty, .int pa, .int rs, .ref (m + 5)]) (ref := "CranePermitsModel") (C := RX5) (T := TX5) (N := 9) (ci := 5) (v := .ref (m + 1)) hx hb hts i_c_X5_calms_X5 hown hK (hP 0 _ rfl) 0 (by decide) rfl (hts (.fieldLink RX5 7 "CranePermitsModel" "d" "[I") (List.mem_of_getElem? (i := 1) rfl)) rfl rfl dX5_calms_75 ?_
    refine lv_sipush (v := (nI 444)) hx hb dX5_calms_78 (by decide) ?_
    refine lv_dup2_11 hx hb dX5_calms_81 rfl rfl ?_
    refine z_iald (f := (cmD d n i)) hx hb hK (hP 1 _ rfl) (by omega) (by decide) dX5_calms_82 ?_
    refine lv_iload_n hx hb dX5_calms_83 rfl (lv_at hl 1 rfl) ?_
    refine lv_iadd hx hb dX5_calms_84 ?_
    refine y_iast (a := (m + 1)) (f := (cmD d n i)) (i := 444) hx hb hK (hP 1 _ rfl) (by omega) (by decide) dX5_calms_85 (fun H2 hU hV => ?_)
    have hS := hS.upd (x := 444) hU (blk_in (by omega) (by omega))
    have hP : va_P D vwCl (mWs y m (upd (cmD d n i) 444 (((cmD d n i) 444) + (cmC d n i))) was as tx gt (nI k) ty pa rs) H2 := hP.upd (q0 := 1) mWs_D rfl hU hV
    clear hU hV
    refine lv_iload_n hx hb dX5_calms_86 rfl (lv_at hl 1 rfl) ?_
    exact w_reti hx hb hr hlocks hS (by rw [show i = nG d by omega] at hP; exact hP) (by rw [show i = nG d by omega]; rfl) dX5_calms_87
  · refine lv_aload_n hx hb dX5_calms_16 rfl (lv_at hl 2 rfl) ?_
    refine lv_iload_n hx hb dX5_calms_17 rfl (lv_at hl 0 rfl) ?_
    refine lv_iconst (v := (nI 4)) hx hb dX5_calms_18 (by decide) ?_
    refine z_callV (As := [.int (nI i), .int (nI 4)]) (rest := []) hF hK (c_X5_of l D y m (cmD d n i) i 4 (by omega) (by omega)) (cwV 2 hts gX5_calms_X5_of rfl rfl rfl (by decide +kernel) ⟨Nat.le_of_ble_eq_true rfl, Nat.le_of_ble_eq_true rfl⟩) (z_recv (q := (RX5, TX5, 9)) hK (hP 0 _ rfl) rfl) (zM_of hP) rfl hl.1 rfl (Nat.le_of_ble_eq_true rfl) dX5_calms_19 ⟨Nat.zero_le _, Nat.zero_le _⟩ ?_
    refine lv_iconst (v := (nI 1)) hx hb dX5_calms_22 (by decide) ?_
    refine lv_icmp_ne (tgt := 68) hx hb dX5_calms_23 (by decide) (fun c23 => ?_) (fun c23 => ?_)
    · refine lv_iinc (v := (nI (i + 1))) (lv' := [(3, .int (nI (i + 1))), (2, .int (cmC d n i)), (0, .ref m), (1, .int (nI n))]) hx hb dX5_calms_68 hl (k := 0) rfl (in1 _) (by decide) rfl (fun ls hl => ?_)
      refine lv_goto (tgt := 4) hx hb dX5_calms_71 (by decide) ?_
      have hl := lv_repl (l' := [(3, .int (nI (i + 1))), (2, .int (cmC d n (i + 1))), (0, .ref m), (1, .int (nI n))]) hl 1 rfl (congrArg Value.int (show (cmC d n i) = (cmC d n (i + 1)) from by first | exact (cm_y c23 c33 c47).2.symm | exact (cm_n (fun h => c23 h.1)).2.symm | exact (cm_n (fun h => c33 h.2.1)).2.symm | exact (cm_n (fun h => bf c47 h.2.2)).2.symm)) rfl
      exact ih_4 (i + 1) _ _ _ (by omega) ⟨by first | (rw [(cm_y c23 c33 c47).1]; exact hP) | (rw [(cm_n (fun h => c23 h.1)).1]; exact hP) | (rw [(cm_n (fun h => c33 h.2.1)).1]; exact hP) | (rw [(cm_n (fun h => bf c47 h.2.2)).1]; exact hP), hS, by omega⟩ (lv_sub hl [0, 1, 2, 3] rfl)
    · refine lv_aload_n hx hb dX5_calms_26 rfl (lv_at hl 2 rfl) ?_
      refine lv_iload_n hx hb dX5_calms_27 rfl (lv_at hl 0 rfl) ?_
      refine lv_iconst (v := (nI 1)) hx hb dX5_calms_28 (by decide) ?_
      refine z_callV (As := [.int (nI i), .int (nI 1)]) (rest := []) hF hK (c_X5_of l D y m (cmD d n i) i 1 (by omega) (by omega)) (cwV 2 hts gX5_calms_X5_of rfl rfl rfl (by decide +kernel) ⟨Nat.le_of_ble_eq_true rfl, Nat.le_of_ble_eq_true rfl⟩) (z_recv (q := (RX5, TX5, 9)) hK (hP 0 _ rfl) rfl) (zM_of hP) rfl hl.1 rfl (Nat.le_of_ble_eq_true rfl) dX5_calms_29 ⟨Nat.zero_le _, Nat.zero_le _⟩ ?_
      refine lv_iload_n hx hb dX5_calms_32 rfl (lv_at hl 3 rfl) ?_
      refine lv_icmp_ne (tgt := 68) hx hb dX5_calms_33 (by decide) (fun c33 => ?_) (fun c33 => ?_)
      · refine lv_iinc (v := (nI (i + 1))) (lv' := [(3, .int (nI (i + 1))), (2, .int (cmC d n i)), (0, .ref m), (1, .int (nI n))]) hx hb dX5_calms_68 hl (k := 0) rfl (in1 _) (by decide) rfl (fun ls hl => ?_)
        refine lv_goto (tgt := 4) hx hb dX5_calms_71 (by decide) ?_
        have hl := lv_repl (l' := [(3, .int (nI (i + 1))), (2, .int (cmC d n (i + 1))), (0, .ref m), (1, .int (nI n))]) hl 1 rfl (congrArg Value.int (show (cmC d n i) = (cmC d n (i + 1)) from by first | exact (cm_y c23 c33 c47).2.symm | exact (cm_n (fun h => c23 h.1)).2.symm | exact (cm_n (fun h => c33 h.2.1)).2.symm | exact (cm_n (fun h => bf c47 h.2.2)).2.symm)) rfl
        exact ih_4 (i + 1) _ _ _ (by omega) ⟨by first | (rw [(cm_y c23 c33 c47).1]; exact hP) | (rw [(cm_n (fun h => c23 h.1)).1]; exact hP) | (rw [(cm_n (fun h => c33 h.2.1)).1]; exact hP) | (rw [(cm_n (fun h => bf c47 h.2.2)).1]; exact hP), hS, by omega⟩ (lv_sub hl [0, 1, 2, 3] rfl)
      · refine lv_aload_n hx hb dX5_calms_36 rfl (lv_at hl 2 rfl) ?_
        refine lv_aload_n hx hb dX5_calms_37 rfl (lv_at hl 2 rfl) ?_
        refine lv_iload_n hx hb dX5_calms_38 rfl (lv_at hl 0 rfl) ?_
        refine lv_iconst (v := (nI 0)) hx hb dX5_calms_39 (by decide) ?_
        refine z_callV (As := [.int (nI i), .int (nI 0)]) (rest := [.ref m]) hF hK (c_X5_of l D y m (cmD d n i) i 0 (by omega) (by omega)) (cwV 2 hts gX5_calms_X5_of rfl rfl rfl (by decide +kernel) ⟨Nat.le_of_ble_eq_true rfl, Nat.le_of_ble_eq_true rfl⟩) (z_recv (q := (RX5, TX5, 9)) hK (hP 0 _ rfl) rfl) (zM_of hP) rfl hl.1 rfl (Nat.le_of_ble_eq_true rfl) dX5_calms_40 ⟨Nat.zero_le _, Nat.zero_le _⟩ ?_
        refine z_topi (z := (nI (pC (cmD d n i) i))) (hz.pc (by omega)) ?_
        refine lv_iload_n hx hb dX5_calms_43 rfl (lv_at hl 3 rfl) ?_
        refine z_callV (As := [.int (nI (pC (cmD d n i) i)), .int (nI n)]) (rest := []) hF hK (c_X5_stops l D y m (cmD d n i) (pC (cmD d n i) i) n (hz.pc8 (by omega)) (by omega)) (cwV 2 hts gX5_calms_X5_stops rfl rfl rfl (by decide +kernel) ⟨Nat.le_of_ble_eq_true rfl, Nat.le_of_ble_eq_true rfl⟩) (z_recv (q := (RX5, TX5, 9)) hK (hP 0 _ rfl) rfl) (zM_of hP) rfl hl.1 rfl (Nat.le_of_ble_eq_true rfl) dX5_calms_44 ⟨Nat.zero_le _, Nat.zero_le _⟩ ?_
        refine z_ifeq (tgt := 68) hx hb dX5_calms_47 (by decide) (fun c47 => ?_) (fun c47 => ?_)
        · refine lv_iinc (v := (nI (i + 1))) (lv' := [(3, .int (nI (i + 1))), (2, .int (cmC d n i)), (0, .ref m), (1, .int (nI n))]) hx hb dX5_calms_68 hl (k := 0) rfl (in1 _) (by decide) rfl (fun ls hl => ?_)
          refine lv_goto (tgt := 4) hx hb dX5_calms_71 (by decide) ?_
          have hl := lv_repl (l' := [(3, .int (nI (i + 1))), (2, .int (cmC d n (i + 1))), (0, .ref m), (1, .int (nI n))]) hl 1 rfl (congrArg Value.int (show (cmC d n i) = (cmC d n (i + 1)) from by first | exact (cm_y c23 c33 c47).2.symm | exact (cm_n (fun h => c23 h.1)).2.symm | exact (cm_n (fun h => c33 h.2.1)).2.symm | exact (cm_n (fun h => bf c47 h.2.2)).2.symm)) rfl
          exact ih_4 (i + 1) _ _ _ (by omega) ⟨by first | (rw [(cm_y c23 c33 c47).1]; exact hP) | (rw [(cm_n (fun h => c23 h.1)).1]; exact hP) | (rw [(cm_n (fun h => c33 h.2.1)).1]; exact hP) | (rw [(cm_n (fun h => bf c47 h.2.2)).1]; exact hP), hS, by omega⟩ (lv_sub hl [0, 1, 2, 3] rfl)
        · refine lv_aload_n hx hb dX5_calms_50 rfl (lv_at hl 2 rfl) ?_
          refine z_get (fs := [.ref (m + 1), .ref (m + 2), .int (nI k), .ref (m + 3), .ref (m + 4), .int ty, .int pa, .int rs, .ref (m + 5)]) (ref := "CranePermitsModel") (C := RX5) (T := TX5) (N := 9) (ci := 5) (v := .ref (m + 1)) hx hb hts i_c_X5_calms_X5 hown hK (hP 0 _ rfl) 0 (by decide) rfl (hts (.fieldLink RX5 7 "CranePermitsModel" "d" "[I") (List.mem_of_getElem? (i := 1) rfl)) rfl rfl dX5_calms_51 ?_
          refine lv_sipush (v := (nI 445)) hx hb dX5_calms_54 (by decide) ?_
          refine lv_iconst (v := (nI 5)) hx hb dX5_calms_57 (by decide) ?_
          refine lv_iload_n hx hb dX5_calms_58 rfl (lv_at hl 0 rfl) ?_
          refine z_imul hx hb dX5_calms_59 ?_
          refine z_iadd hx hb dX5_calms_60 ?_
          refine lv_iconst (v := (nI 4)) hx hb dX5_calms_61 (by decide) ?_
          refine z_iadd hx hb dX5_calms_62 ?_
          refine lv_iconst (v := (nI 3)) hx hb dX5_calms_63 (by decide) ?_
          refine y_iast (a := (m + 1)) (f := (cmD d n i)) (i := ((445 + (5 * i)) + 4)) hx hb hK (hP 1 _ rfl) (by omega) (by decide) dX5_calms_64 (fun H3 hU hV => ?_)
          have hS := hS.upd (x := ((445 + (5 * i)) + 4)) hU (blk_in (by omega) (by omega))
          have hP : va_P D vwCl (mWs y m (upd (cmD d n i) ((445 + (5 * i)) + 4) (nI 3)) was as tx gt (nI k) ty pa rs) H3 := hP.upd (q0 := 1) mWs_D rfl hU hV
          clear hU hV
          refine lv_iinc (v := ((cmC d n i) + 1)) (lv' := [(2, .int ((cmC d n i) + 1)), (3, .int (nI i)), (0, .ref m), (1, .int (nI n))]) hx hb dX5_calms_65 hl (k := 1) rfl (rfl) (by decide) rfl (fun ls hl => ?_)
          refine lv_iinc (v := (nI (i + 1))) (lv' := [(3, .int (nI (i + 1))), (2, .int ((cmC d n i) + 1)), (0, .ref m), (1, .int (nI n))]) hx hb dX5_calms_68 hl (k := 1) rfl (in1 _) (by decide) rfl (fun ls hl => ?_)
          refine lv_goto (tgt := 4) hx hb dX5_calms_71 (by decide) ?_
          have hl := lv_repl (l' := [(3, .int (nI (i + 1))), (2, .int (cmC d n (i + 1))), (0, .ref m), (1, .int (nI n))]) hl 1 rfl (congrArg Value.int (show ((cmC d n i) + 1) = (cmC d n (i + 1)) from by first | exact (cm_y c23 c33 c47).2.symm | exact (cm_n (fun h => c23 h.1)).2.symm | exact (cm_n (fun h => c33 h.2.1)).2.symm | exact (cm_n (fun h => bf c47 h.2.2)).2.symm)) rfl
          exact ih_4 (i + 1) _ _ _ (by omega) ⟨by first | (rw [(cm_y c23 c33 c47).1]; exact hP) | (rw [(cm_n (fun h => c23 h.1)).1]; exact hP) | (rw [(cm_n (fun h => c33 h.2.1)).1]; exact hP) | (rw [(cm_n (fun h => bf c47 h.2.2)).1]; exact hP), hS, by omega⟩ (lv_sub hl [0, 1, 2, 3] rfl)
theorem i_c_X5_saves_X5 : ∀ w ∈ wsX50, w ∈ wsX5_saves := fun w h => (List.mem_cons_of_mem _ (List.mem_append_right _ h))
set_option maxRecDepth 100000 in
set_option maxHeartbeats 4000000 in
theorem c_X5_saves (l : Launch) (D : va_G) (y : zY) (m : Nat) (d : Nat → Int32) (was : Nat → Int32) (as : Nat → Int32) (tx : Nat → Int32) (gt : Nat → Int32) (k : Nat) (ty : Int32) (pa : Int32) (rs : Int32) (a : Nat) (n : Nat) (hI : zI d) (hk4 : k ≤ 4) (ha : a < 4) (hn : n < 30) : Met l yX5_saves wsX5_saves ({ frames := 3, cells := 0, slots := 0, locals := 69 }) (zP [.ref m, .int (nI a), .int (nI n)] (va_P D vwCl (mWs y m d was as tx gt (nI k) ty pa rs)) D y) (zW (some (.int (savR d a n))) (va_P D vwCl (mWs y m (savD d a n) was as tx gt (nI k) ty pa rs)) (blk m 6)) 0 0 (blk m 6) := by
  refine z_body (cc := cX5_saves) (maxL := 5) (ret := (some .int)) (la := [(0, .ref m), (1, .int (nI a)), (2, .int (nI n))]) (by decide) rfl (Nat.le_of_ble_eq_true rfl) rfl ?_
  intro pg ev s mm below meth c0 ls hx hb hr hF hlocks hΦ hK hl _
  have hts := hF.2.2.2.2
  have hown : s.vm.findClass RX5 = some mm.cls := hF.2.2.2.1
  have hP : va_P D vwCl (mWs y m d was as tx gt (nI k) ty pa rs) s.heap := hΦ
  have hS : va_S (blk m 6) s.heap s.heap [] := va_S.rf
  have hG2 := hI.ng2
  have hC8 := hI.nc8
  have hrk := recN_le hk4
  refine lv_iconst (v := (nI 0)) hx hb dX5_saves_0 (by decide) ?_
  refine lv_istore_n (lv' := [(3, .int (nI 0)), (0, .ref m), (1, .int (nI a)), (2, .int (nI n))]) hx hb dX5_saves_1 rfl hl (by decide) rfl (fun ls hl => ?_)
  refine lv_aload_n hx hb dX5_saves_2 rfl (lv_at hl 1 rfl) ?_
  refine z_get (fs := [.ref (m + 1), .ref (m + 2), .int (nI k), .ref (m + 3), .ref (m + 4), .int ty, .int pa, .int rs, .ref (m + 5)]) (ref := "CranePermitsModel") (C := RX5) (T := TX5) (N := 9) (ci := 5) (v := .ref (m + 1)) hx hb hts i_c_X5_saves_X5 hown hK (hP 0 _ rfl) 0 (by decide) rfl (hts (.fieldLink RX5 7 "CranePermitsModel" "d" "[I") (List.mem_of_getElem? (i := 1) rfl)) rfl rfl dX5_saves_3 ?_
  refine lv_sipush (v := (nI 442)) hx hb dX5_saves_6 (by decide) ?_
  refine z_iald (f := d) hx hb hK (hP 1 _ rfl) (by omega) (by decide) dX5_saves_9 ?_
  refine z_topi (z := (nI (nG d))) (hI.ng) ?_
  refine lv_iconst (v := (nI 1)) hx hb dX5_saves_10 (by decide) ?_
  refine lv_isub hx hb dX5_saves_11 ?_
  refine lv_istore (lv' := [(4, .int ((nI (nG d)) - (nI 1))), (3, .int (nI 0)), (0, .ref m), (1, .int (nI a)), (2, .int (nI n))]) hx hb dX5_saves_12 hl (by decide) rfl (fun ls hl => ?_)
  have hl := lv_repl (l' := [(4, .int (nI (nG d - 0) - nI 1)), (3, .int (nI 0)), (0, .ref m), (1, .int (nI a)), (2, .int (nI n))]) hl 0 rfl (congrArg Value.int (show ((nI (nG d)) - (nI 1)) = (nI (nG d - 0) - nI 1) from rfl)) rfl
  have hl := lv_repl (l' := [(4, .int (nI (nG d - 0) - nI 1)), (3, .int (svC d a n 0)), (0, .ref m), (1, .int (nI a)), (2, .int (nI n))]) hl 1 rfl (congrArg Value.int (show (nI 0) = (svC d a n 0) from rfl)) rfl
  refine z_loopW (S := Nat) (nL := 5) (fun (j : Nat) => nG d - j) (fun (j : Nat) => [(4, .int (nI (nG d - j) - nI 1)), (3, .int (svC d a n j)), (0, .ref m), (1, .int (nI a)), (2, .int (nI n))]) (fun (j : Nat) (H : Heap) (locs : List Loc) => va_P D vwCl (mWs y m (svD d a n j) was as tx gt (nI k) ty pa rs) H ∧ va_S (blk m 6) s.heap H locs ∧ (j ≤ nG d)) 0 ⟨hP, hS, by omega⟩ (lv_sub hl [0, 1, 2, 3, 4] rfl) ?_
  clear hl hP hS
  rintro j H1 locs ls ⟨hP, hS, hI_14⟩ hl ih_14
  have hi := hI_14
  have hz := (sv_I hI a n j).1
  have hg := (sv_I hI a n j).2
  refine lv_iload hx hb dX5_saves_14 (lv_at hl 0 rfl) ?_
  refine lv_if_lt (tgt := 70) hx hb dX5_saves_16 (by decide) (fun c16 => ?_) (fun c16 => ?_)
  · have hj0 := sv_exit hG2 hi c16
    refine lv_aload_n hx hb dX5_saves_70 rfl (lv_at hl 2 rfl) ?_
    refine z_get (fs := [.ref (m + 1), .ref (m + 2), .int (nI k), .ref (m + 3), .ref (m + 4), .int ty, .int pa, .int rs, .ref (m + 5)]) (ref := "CranePermitsModel") (C := RX5) (T := TX5) (N := 9) (ci := 5) (v := .ref (m + 1)) hx hb hts i_c_X5_saves_X5 hown hK (hP 0 _ rfl) 0 (by decide) rfl (hts (.fieldLink RX5 7 "CranePermitsModel" "d" "[I") (List.mem_of_getElem? (i := 1) rfl)) rfl rfl dX5_saves_71 ?_
    refine lv_sipush (v := (nI 444)) hx hb dX5_saves_74 (by decide) ?_
    refine lv_dup2_11 hx hb dX5_saves_77 rfl rfl ?_
    refine z_iald (f := (svD d a n j)) hx hb hK (hP 1 _ rfl) (by omega) (by decide) dX5_saves_78 ?_
    refine lv_iload_n hx hb dX5_saves_79 rfl (lv_at hl 1 rfl) ?_
    refine lv_iadd hx hb dX5_saves_80 ?_
    refine y_iast (a := (m + 1)) (f := (svD d a n j)) (i := 444) hx hb hK (hP 1 _ rfl) (by omega) (by decide) dX5_saves_81 (fun H2 hU hV => ?_)
    have hS := hS.upd (x := 444) hU (blk_in (by omega) (by omega))
    have hP : va_P D vwCl (mWs y m (upd (svD d a n j) 444 (((svD d a n j) 444) + (svC d a n j))) was as tx gt (nI k) ty pa rs) H2 := hP.upd (q0 := 1) mWs_D rfl hU hV
    clear hU hV
    refine lv_iload_n hx hb dX5_saves_82 rfl (lv_at hl 1 rfl) ?_
    exact w_reti hx hb hr hlocks hS (by rw [hj0] at hP; exact hP) (by rw [hj0]; rfl) dX5_saves_83
  · have hj1 := sv_lt hi c16
    have hl := lv_repl (l' := [(4, .int (nI (nG d - 1 - j))), (3, .int (svC d a n j)), (0, .ref m), (1, .int (nI a)), (2, .int (nI n))]) hl 0 rfl (by rw [sv_in hj1]) rfl
    refine lv_aload_n hx hb dX5_saves_19 rfl (lv_at hl 2 rfl) ?_
    refine lv_iload hx hb dX5_saves_20 (lv_at hl 0 rfl) ?_
    refine lv_iload_n hx hb dX5_saves_22 rfl (lv_at hl 3 rfl) ?_
    refine lv_iload_n hx hb dX5_saves_23 rfl (lv_at hl 4 rfl) ?_
    refine z_callV (As := [.int (nI (nG d - 1 - j)), .int (nI a), .int (nI n)]) (rest := []) hF hK (c_X5_isOf l D y m (svD d a n j) (nG d - 1 - j) (nI a) (nI n) (hz) (by omega)) (cwV 3 hts gX5_saves_X5_isOf rfl rfl rfl (by decide +kernel) ⟨Nat.le_of_ble_eq_true rfl, Nat.le_of_ble_eq_true rfl⟩) (z_recv (q := (RX5, TX5, 9)) hK (hP 0 _ rfl) rfl) (zM_of hP) rfl hl.1 rfl (Nat.le_of_ble_eq_true rfl) dX5_saves_24 ⟨Nat.zero_le _, Nat.zero_le _⟩ ?_
    refine z_ifeq (tgt := 64) hx hb dX5_saves_27 (by decide) (fun c27 => ?_) (fun c27 => ?_)
    · refine lv_iinc (v := (nI (nG d - 1 - j) - nI 1)) (lv' := [(4, .int (nI (nG d - 1 - j) - nI 1)), (3, .int (svC d a n j)), (0, .ref m), (1, .int (nI a)), (2, .int (nI n))]) hx hb dX5_saves_64 hl (k := 0) rfl (inm2 _) (by decide) rfl (fun ls hl => ?_)
      refine lv_goto (tgt := 14) hx hb dX5_saves_67 (by decide) ?_
      have hl := lv_repl (l' := [(4, .int (nI (nG d - (j + 1)) - nI 1)), (3, .int (svC d a n j)), (0, .ref m), (1, .int (nI a)), (2, .int (nI n))]) hl 0 rfl (congrArg Value.int (show (nI (nG d - 1 - j) - nI 1) = (nI (nG d - (j + 1)) - nI 1) from by rw [show nG d - (j + 1) = nG d - 1 - j by omega])) rfl
      have hl := lv_repl (l' := [(4, .int (nI (nG d - (j + 1)) - nI 1)), (3, .int (svC d a n (j + 1))), (0, .ref m), (1, .int (nI a)), (2, .int (nI n))]) hl 1 rfl (congrArg Value.int (show (svC d a n j) = (svC d a n (j + 1)) from by first | exact (sv_y c27 c42).2.symm | exact (sv_n (fun h => bf c27 h.1)).2.symm | exact (sv_n (fun h => h.2 c42)).2.symm)) rfl
      exact ih_14 (j + 1) _ _ _ (by omega) ⟨by first | (rw [(sv_y c27 c42).1]; exact hP) | (rw [(sv_n (fun h => bf c27 h.1)).1]; exact hP) | (rw [(sv_n (fun h => h.2 c42)).1]; exact hP), hS, by omega⟩ (lv_sub hl [0, 1, 2, 3, 4] rfl)
    · refine lv_aload_n hx hb dX5_saves_30 rfl (lv_at hl 2 rfl) ?_
      refine lv_iload_n hx hb dX5_saves_31 rfl (lv_at hl 3 rfl) ?_
      refine lv_iload_n hx hb dX5_saves_32 rfl (lv_at hl 4 rfl) ?_
      refine z_callV (As := [.int (nI a), .int (nI n)]) (rest := []) hF hK (c_X5_used l D y m (svD d a n j) (nI a) (nI n) (hz)) (cwV 2 hts gX5_saves_X5_used rfl rfl rfl (by decide +kernel) ⟨Nat.le_of_ble_eq_true rfl, Nat.le_of_ble_eq_true rfl⟩) (z_recv (q := (RX5, TX5, 9)) hK (hP 0 _ rfl) rfl) (zM_of hP) rfl hl.1 rfl (Nat.le_of_ble_eq_true rfl) dX5_saves_33 ⟨Nat.zero_le _, Nat.zero_le _⟩ ?_
      refine lv_aload_n hx hb dX5_saves_36 rfl (lv_at hl 2 rfl) ?_
      refine lv_iload_n hx hb dX5_saves_37 rfl (lv_at hl 3 rfl) ?_
      refine lv_iload_n hx hb dX5_saves_38 rfl (lv_at hl 4 rfl) ?_
      refine z_callV (As := [.int (nI a), .int (nI n)]) (rest := [.int (usedI (svD d a n j) (nI a) (nI n))]) hF hK (c_X5_credits l D y m (svD d a n j) a n (by omega) (by omega)) (cwV 2 hts gX5_saves_X5_credits rfl rfl rfl (by decide +kernel) ⟨Nat.le_of_ble_eq_true rfl, Nat.le_of_ble_eq_true rfl⟩) (z_recv (q := (RX5, TX5, 9)) hK (hP 0 _ rfl) rfl) (zM_of hP) rfl hl.1 rfl (Nat.le_of_ble_eq_true rfl) dX5_saves_39 ⟨Nat.zero_le _, Nat.zero_le _⟩ ?_
      refine lv_icmp_le (tgt := 64) hx hb dX5_saves_42 (by decide) (fun c42 => ?_) (fun c42 => ?_)
      · refine lv_iinc (v := (nI (nG d - 1 - j) - nI 1)) (lv' := [(4, .int (nI (nG d - 1 - j) - nI 1)), (3, .int (svC d a n j)), (0, .ref m), (1, .int (nI a)), (2, .int (nI n))]) hx hb dX5_saves_64 hl (k := 0) rfl (inm2 _) (by decide) rfl (fun ls hl => ?_)
        refine lv_goto (tgt := 14) hx hb dX5_saves_67 (by decide) ?_
        have hl := lv_repl (l' := [(4, .int (nI (nG d - (j + 1)) - nI 1)), (3, .int (svC d a n j)), (0, .ref m), (1, .int (nI a)), (2, .int (nI n))]) hl 0 rfl (congrArg Value.int (show (nI (nG d - 1 - j) - nI 1) = (nI (nG d - (j + 1)) - nI 1) from by rw [show nG d - (j + 1) = nG d - 1 - j by omega])) rfl
        have hl := lv_repl (l' := [(4, .int (nI (nG d - (j + 1)) - nI 1)), (3, .int (svC d a n (j + 1))), (0, .ref m), (1, .int (nI a)), (2, .int (nI n))]) hl 1 rfl (congrArg Value.int (show (svC d a n j) = (svC d a n (j + 1)) from by first | exact (sv_y c27 c42).2.symm | exact (sv_n (fun h => bf c27 h.1)).2.symm | exact (sv_n (fun h => h.2 c42)).2.symm)) rfl
        exact ih_14 (j + 1) _ _ _ (by omega) ⟨by first | (rw [(sv_y c27 c42).1]; exact hP) | (rw [(sv_n (fun h => bf c27 h.1)).1]; exact hP) | (rw [(sv_n (fun h => h.2 c42)).1]; exact hP), hS, by omega⟩ (lv_sub hl [0, 1, 2, 3, 4] rfl)
      · refine lv_aload_n hx hb dX5_saves_45 rfl (lv_at hl 2 rfl) ?_
        refine z_get (fs := [.ref (m + 1), .ref (m + 2), .int (nI k), .ref (m + 3), .ref (m + 4), .int ty, .int pa, .int rs, .ref (m + 5)]) (ref := "CranePermitsModel") (C := RX5) (T := TX5) (N := 9) (ci := 5) (v := .ref (m + 1)) hx hb hts i_c_X5_saves_X5 hown hK (hP 0 _ rfl) 0 (by decide) rfl (hts (.fieldLink RX5 7 "CranePermitsModel" "d" "[I") (List.mem_of_getElem? (i := 1) rfl)) rfl rfl dX5_saves_46 ?_
        refine lv_sipush (v := (nI 445)) hx hb dX5_saves_49 (by decide) ?_
        refine lv_iconst (v := (nI 5)) hx hb dX5_saves_52 (by decide) ?_
        refine lv_iload hx hb dX5_saves_53 (lv_at hl 0 rfl) ?_
        refine z_imul hx hb dX5_saves_55 ?_
        refine z_iadd hx hb dX5_saves_56 ?_
        refine lv_iconst (v := (nI 4)) hx hb dX5_saves_57 (by decide) ?_
        refine z_iadd hx hb dX5_saves_58 ?_
        refine lv_iconst (v := (nI 3)) hx hb dX5_saves_59 (by decide) ?_
        refine y_iast (a := (m + 1)) (f := (svD d a n j)) (i := ((445 + (5 * (nG d - 1 - j))) + 4)) hx hb hK (hP 1 _ rfl) (by omega) (by decide) dX5_saves_60 (fun H3 hU hV => ?_)
        have hS := hS.upd (x := ((445 + (5 * (nG d - 1 - j))) + 4)) hU (blk_in (by omega) (by omega))
        have hP : va_P D vwCl (mWs y m (upd (svD d a n j) ((445 + (5 * (nG d - 1 - j))) + 4) (nI 3)) was as tx gt (nI k) ty pa rs) H3 := hP.upd (q0 := 1) mWs_D rfl hU hV
        clear hU hV
        refine lv_iinc (v := ((svC d a n j) + 1)) (lv' := [(3, .int ((svC d a n j) + 1)), (4, .int (nI (nG d - 1 - j))), (0, .ref m), (1, .int (nI a)), (2, .int (nI n))]) hx hb dX5_saves_61 hl (k := 1) rfl (rfl) (by decide) rfl (fun ls hl => ?_)
        refine lv_iinc (v := (nI (nG d - 1 - j) - nI 1)) (lv' := [(4, .int (nI (nG d - 1 - j) - nI 1)), (3, .int ((svC d a n j) + 1)), (0, .ref m), (1, .int (nI a)), (2, .int (nI n))]) hx hb dX5_saves_64 hl (k := 1) rfl (inm2 _) (by decide) rfl (fun ls hl => ?_)
        refine lv_goto (tgt := 14) hx hb dX5_saves_67 (by decide) ?_
        have hl := lv_repl (l' := [(4, .int (nI (nG d - (j + 1)) - nI 1)), (3, .int ((svC d a n j) + 1)), (0, .ref m), (1, .int (nI a)), (2, .int (nI n))]) hl 0 rfl (congrArg Value.int (show (nI (nG d - 1 - j) - nI 1) = (nI (nG d - (j + 1)) - nI 1) from by rw [show nG d - (j + 1) = nG d - 1 - j by omega])) rfl
        have hl := lv_repl (l' := [(4, .int (nI (nG d - (j + 1)) - nI 1)), (3, .int (svC d a n (j + 1))), (0, .ref m), (1, .int (nI a)), (2, .int (nI n))]) hl 1 rfl (congrArg Value.int (show ((svC d a n j) + 1) = (svC d a n (j + 1)) from by first | exact (sv_y c27 c42).2.symm | exact (sv_n (fun h => bf c27 h.1)).2.symm | exact (sv_n (fun h => h.2 c42)).2.symm)) rfl
        exact ih_14 (j + 1) _ _ _ (by omega) ⟨by first | (rw [(sv_y c27 c42).1]; exact hP) | (rw [(sv_n (fun h => bf c27 h.1)).1]; exact hP) | (rw [(sv_n (fun h => h.2 c42)).1]; exact hP), hS, by omega⟩ (lv_sub hl [0, 1, 2, 3, 4] rfl)
set_option maxRecDepth 100000 in
set_option maxHeartbeats 4000000 in
theorem c_X5_savesAll (l : Launch) (D : va_G) (y : zY) (m : Nat) (d : Nat → Int32) (was : Nat → Int32) (as : Nat → Int32) (tx : Nat → Int32) (gt : Nat → Int32) (k : Nat) (ty : Int32) (pa : Int32) (rs : Int32) (hI : zI d) (hk4 : k ≤ 4) : Met l yX5_savesAll wsX5_savesAll ({ frames := 4, cells := 0, slots := 0, locals := 93 }) (zP [.ref m] (va_P D vwCl (mWs y m d was as tx gt (nI k) ty pa rs)) D y) (zW (some (.int (saC d 120))) (va_P D vwCl (mWs y m (saD d 120) was as tx gt (nI k) ty pa rs)) (blk m 6)) 0 0 (blk m 6) := by
  refine z_body (cc := cX5_savesAll) (maxL := 3) (ret := (some .int)) (la := [(0, .ref m)]) (by decide) rfl (Nat.le_of_ble_eq_true rfl) rfl ?_
  intro pg ev s mm below meth c0 ls hx hb hr hF hlocks hΦ hK hl _
  have hts := hF.2.2.2.2
  have hown : s.vm.findClass RX5 = some mm.cls := hF.2.2.2.1
  have hP : va_P D vwCl (mWs y m d was as tx gt (nI k) ty pa rs) s.heap := hΦ
  have hS : va_S (blk m 6) s.heap s.heap [] := va_S.rf
  have hG2 := hI.ng2
  have hC8 := hI.nc8
  have hrk := recN_le hk4
  refine lv_iconst (v := (nI 0)) hx hb dX5_savesAll_0 (by decide) ?_
  refine lv_istore_n (lv' := [(1, .int (nI 0)), (0, .ref m)]) hx hb dX5_savesAll_1 rfl hl (by decide) rfl (fun ls hl => ?_)
  refine lv_iconst (v := (nI 0)) hx hb dX5_savesAll_2 (by decide) ?_
  refine lv_istore_n (lv' := [(2, .int (nI 0)), (1, .int (nI 0)), (0, .ref m)]) hx hb dX5_savesAll_3 rfl hl (by decide) rfl (fun ls hl => ?_)
  have hl := lv_repl (l' := [(2, .int (nI 0)), (1, .int (saC d 0)), (0, .ref m)]) hl 1 rfl (congrArg Value.int (show (nI 0) = (saC d 0) from rfl)) rfl
  refine z_loopW (S := Nat) (nL := 3) (fun (j : Nat) => 120 - j) (fun (j : Nat) => [(2, .int (nI j)), (1, .int (saC d j)), (0, .ref m)]) (fun (j : Nat) (H : Heap) (locs : List Loc) => va_P D vwCl (mWs y m (saD d j) was as tx gt (nI k) ty pa rs) H ∧ va_S (blk m 6) s.heap H locs ∧ (j ≤ 120)) 0 ⟨hP, hS, by omega⟩ (lv_sub hl [0, 1, 2] rfl) ?_
  clear hl hP hS
  rintro j H1 locs ls ⟨hP, hS, hI_4⟩ hl ih_4
  have hi := hI_4
  have hz := (sa_I hI j).1
  refine lv_iload_n hx hb dX5_savesAll_4 rfl (lv_at hl 0 rfl) ?_
  refine lv_bipush (v := (nI 120)) hx hb dX5_savesAll_5 (by decide) ?_
  refine z_ge (tgt := 31) hx hb (by omega) (by omega) dX5_savesAll_7 (by decide) (fun c7 => ?_) (fun c7 => ?_)
  · refine lv_iload_n hx hb dX5_savesAll_31 rfl (lv_at hl 1 rfl) ?_
    exact w_reti hx hb hr hlocks hS (by rw [show j = 120 by omega] at hP; exact hP) (by rw [show j = 120 by omega]) dX5_savesAll_32
  · refine lv_iload_n hx hb dX5_savesAll_10 rfl (lv_at hl 1 rfl) ?_
    refine lv_aload_n hx hb dX5_savesAll_11 rfl (lv_at hl 2 rfl) ?_
    refine lv_iload_n hx hb dX5_savesAll_12 rfl (lv_at hl 0 rfl) ?_
    refine lv_bipush (v := (nI 30)) hx hb dX5_savesAll_13 (by decide) ?_
    refine z_idiv hx hb (by omega) (by omega) (by omega) dX5_savesAll_15 ?_
    refine lv_iload_n hx hb dX5_savesAll_16 rfl (lv_at hl 0 rfl) ?_
    refine lv_bipush (v := (nI 30)) hx hb dX5_savesAll_17 (by decide) ?_
    refine z_irem hx hb (by omega) (by omega) (by omega) dX5_savesAll_19 ?_
    refine w_callV (As := [.int (nI (j / 30)), .int (nI (j % 30))]) (rest := [.int (saC d j)]) hF hK (c_X5_saves l D y m (saD d j) was as tx gt k ty pa rs (j / 30) (j % 30) (hz) (by omega) (by omega) (by omega)) (cwV 2 hts gX5_savesAll_X5_saves rfl rfl rfl (by decide +kernel) ⟨Nat.le_of_ble_eq_true rfl, Nat.le_of_ble_eq_true rfl⟩) (z_recv (q := (RX5, TX5, 9)) hK (hP 0 _ rfl) rfl) hP hS (fun q h => h) rfl hl.1 rfl (Nat.le_of_ble_eq_true rfl) dX5_savesAll_20 ⟨Nat.zero_le _, Nat.zero_le _⟩ (fun H2 locs1 hP hz hk hS => ?_)
    have hP : va_P D vwCl (mWs y m (savD (saD d j) (j / 30) (j % 30)) was as tx gt (nI k) ty pa rs) H2 := hP
    clear hz hk
    refine lv_iadd hx hb dX5_savesAll_23 ?_
    refine lv_istore_n (lv' := [(1, .int ((saC d j) + (savR (saD d j) (j / 30) (j % 30)))), (2, .int (nI j)), (0, .ref m)]) hx hb dX5_savesAll_24 rfl hl (by decide) rfl (fun ls hl => ?_)
    refine lv_iinc (v := (nI (j + 1))) (lv' := [(2, .int (nI (j + 1))), (1, .int ((saC d j) + (savR (saD d j) (j / 30) (j % 30)))), (0, .ref m)]) hx hb dX5_savesAll_25 hl (k := 1) rfl (in1 _) (by decide) rfl (fun ls hl => ?_)
    refine lv_goto (tgt := 4) hx hb dX5_savesAll_28 (by decide) ?_
    have hl := lv_repl (l' := [(2, .int (nI (j + 1))), (1, .int (saC d (j + 1))), (0, .ref m)]) hl 1 rfl (congrArg Value.int (show ((saC d j) + (savR (saD d j) (j / 30) (j % 30))) = (saC d (j + 1)) from rfl)) rfl
    exact ih_4 (j + 1) _ _ _ (by omega) ⟨hP, hS, by omega⟩ (lv_sub hl [0, 1, 2] rfl)
theorem i_c_X5_grants_X5 : ∀ w ∈ wsX50, w ∈ wsX5_grants := fun w h => (List.mem_cons_of_mem _ (List.mem_append_right _ h))
set_option maxRecDepth 100000 in
set_option maxHeartbeats 4000000 in
theorem c_X5_grants (l : Launch) (D : va_G) (y : zY) (m : Nat) (d : Nat → Int32) (was : Nat → Int32) (as : Nat → Int32) (tx : Nat → Int32) (gt : Nat → Int32) (k : Nat) (ty : Int32) (pa : Int32) (rs : Int32) (c : Nat) (n : Nat) (h : Int32) (sw : Int32) (hI : zI d) (hg : nG d < 200) : Met l yX5_grants wsX5_grants ({ frames := 0, cells := 0, slots := 0, locals := 0 }) (zP [.ref m, .int (nI c), .int (nI n), .int h, .int sw] (va_P D vwCl (mWs y m d was as tx gt (nI k) ty pa rs)) D y) (zW (some (.int (nI (nG d)))) (va_P D vwCl (mWs y m (graD d c n h sw) was as tx gt (nI k) ty pa rs)) (blk m 6)) 0 0 (blk m 6) := by
  refine z_body (cc := cX5_grants) (maxL := 6) (ret := (some .int)) (la := [(0, .ref m), (1, .int (nI c)), (2, .int (nI n)), (3, .int h), (4, .int sw)]) (by decide) rfl (Nat.le_of_ble_eq_true rfl) rfl ?_
  intro pg ev s mm below meth c0 ls hx hb hr hF hlocks hΦ hK hl _
  have hts := hF.2.2.2.2
  have hown : s.vm.findClass RX5 = some mm.cls := hF.2.2.2.1
  have hP : va_P D vwCl (mWs y m d was as tx gt (nI k) ty pa rs) s.heap := hΦ
  have hS : va_S (blk m 6) s.heap s.heap [] := va_S.rf
  have hG2 := hI.ng2
  have hC8 := hI.nc8
  refine lv_sipush (v := (nI 445)) hx hb dX5_grants_0 (by decide) ?_
  refine lv_iconst (v := (nI 5)) hx hb dX5_grants_3 (by decide) ?_
  refine lv_aload_n hx hb dX5_grants_4 rfl (lv_at hl 0 rfl) ?_
  refine z_get (fs := [.ref (m + 1), .ref (m + 2), .int (nI k), .ref (m + 3), .ref (m + 4), .int ty, .int pa, .int rs, .ref (m + 5)]) (ref := "CranePermitsModel") (C := RX5) (T := TX5) (N := 9) (ci := 5) (v := .ref (m + 1)) hx hb hts i_c_X5_grants_X5 hown hK (hP 0 _ rfl) 0 (by decide) rfl (hts (.fieldLink RX5 7 "CranePermitsModel" "d" "[I") (List.mem_of_getElem? (i := 1) rfl)) rfl rfl dX5_grants_5 ?_
  refine lv_sipush (v := (nI 442)) hx hb dX5_grants_8 (by decide) ?_
  refine z_iald (f := d) hx hb hK (hP 1 _ rfl) (by omega) (by decide) dX5_grants_11 ?_
  refine z_topi (z := (nI (nG d))) (hI.ng) ?_
  refine z_imul hx hb dX5_grants_12 ?_
  refine z_iadd hx hb dX5_grants_13 ?_
  refine lv_istore (lv' := [(5, .int (nI (445 + (5 * (nG d))))), (0, .ref m), (1, .int (nI c)), (2, .int (nI n)), (3, .int h), (4, .int sw)]) hx hb dX5_grants_14 hl (by decide) rfl (fun ls hl => ?_)
  refine lv_aload_n hx hb dX5_grants_16 rfl (lv_at hl 1 rfl) ?_
  refine z_get (fs := [.ref (m + 1), .ref (m + 2), .int (nI k), .ref (m + 3), .ref (m + 4), .int ty, .int pa, .int rs, .ref (m + 5)]) (ref := "CranePermitsModel") (C := RX5) (T := TX5) (N := 9) (ci := 5) (v := .ref (m + 1)) hx hb hts i_c_X5_grants_X5 hown hK (hP 0 _ rfl) 0 (by decide) rfl (hts (.fieldLink RX5 7 "CranePermitsModel" "d" "[I") (List.mem_of_getElem? (i := 1) rfl)) rfl rfl dX5_grants_17 ?_
  refine lv_iload hx hb dX5_grants_20 (lv_at hl 0 rfl) ?_
  refine lv_iload_n hx hb dX5_grants_22 rfl (lv_at hl 2 rfl) ?_
  refine y_iast (a := (m + 1)) (f := d) (i := (445 + (5 * (nG d)))) hx hb hK (hP 1 _ rfl) (by omega) (by decide) dX5_grants_23 (fun H1 hU hV => ?_)
  have hS := hS.upd (x := (445 + (5 * (nG d)))) hU (blk_in (by omega) (by omega))
  have hP : va_P D vwCl (mWs y m (upd d (445 + (5 * (nG d))) (nI c)) was as tx gt (nI k) ty pa rs) H1 := hP.upd (q0 := 1) mWs_D rfl hU hV
  clear hU hV
  refine lv_aload_n hx hb dX5_grants_24 rfl (lv_at hl 1 rfl) ?_
  refine z_get (fs := [.ref (m + 1), .ref (m + 2), .int (nI k), .ref (m + 3), .ref (m + 4), .int ty, .int pa, .int rs, .ref (m + 5)]) (ref := "CranePermitsModel") (C := RX5) (T := TX5) (N := 9) (ci := 5) (v := .ref (m + 1)) hx hb hts i_c_X5_grants_X5 hown hK (hP 0 _ rfl) 0 (by decide) rfl (hts (.fieldLink RX5 7 "CranePermitsModel" "d" "[I") (List.mem_of_getElem? (i := 1) rfl)) rfl rfl dX5_grants_25 ?_
  refine lv_iload hx hb dX5_grants_28 (lv_at hl 0 rfl) ?_
  refine lv_iconst (v := (nI 1)) hx hb dX5_grants_30 (by decide) ?_
  refine z_iadd hx hb dX5_grants_31 ?_
  refine lv_iload_n hx hb dX5_grants_32 rfl (lv_at hl 3 rfl) ?_
  refine y_iast (a := (m + 1)) (f := (upd d (445 + (5 * (nG d))) (nI c))) (i := ((445 + (5 * (nG d))) + 1)) hx hb hK (hP 1 _ rfl) (by omega) (by decide) dX5_grants_33 (fun H2 hU hV => ?_)
  have hS := hS.upd (x := ((445 + (5 * (nG d))) + 1)) hU (blk_in (by omega) (by omega))
  have hP : va_P D vwCl (mWs y m (upd (upd d (445 + (5 * (nG d))) (nI c)) ((445 + (5 * (nG d))) + 1) (nI n)) was as tx gt (nI k) ty pa rs) H2 := hP.upd (q0 := 1) mWs_D rfl hU hV
  clear hU hV
  refine lv_aload_n hx hb dX5_grants_34 rfl (lv_at hl 1 rfl) ?_
  refine z_get (fs := [.ref (m + 1), .ref (m + 2), .int (nI k), .ref (m + 3), .ref (m + 4), .int ty, .int pa, .int rs, .ref (m + 5)]) (ref := "CranePermitsModel") (C := RX5) (T := TX5) (N := 9) (ci := 5) (v := .ref (m + 1)) hx hb hts i_c_X5_grants_X5 hown hK (hP 0 _ rfl) 0 (by decide) rfl (hts (.fieldLink RX5 7 "CranePermitsModel" "d" "[I") (List.mem_of_getElem? (i := 1) rfl)) rfl rfl dX5_grants_35 ?_
  refine lv_iload hx hb dX5_grants_38 (lv_at hl 0 rfl) ?_
  refine lv_iconst (v := (nI 2)) hx hb dX5_grants_40 (by decide) ?_
  refine z_iadd hx hb dX5_grants_41 ?_
  refine lv_iload_n hx hb dX5_grants_42 rfl (lv_at hl 4 rfl) ?_
  refine y_iast (a := (m + 1)) (f := (upd (upd d (445 + (5 * (nG d))) (nI c)) ((445 + (5 * (nG d))) + 1) (nI n))) (i := ((445 + (5 * (nG d))) + 2)) hx hb hK (hP 1 _ rfl) (by omega) (by decide) dX5_grants_43 (fun H3 hU hV => ?_)
  have hS := hS.upd (x := ((445 + (5 * (nG d))) + 2)) hU (blk_in (by omega) (by omega))
  have hP : va_P D vwCl (mWs y m (upd (upd (upd d (445 + (5 * (nG d))) (nI c)) ((445 + (5 * (nG d))) + 1) (nI n)) ((445 + (5 * (nG d))) + 2) h) was as tx gt (nI k) ty pa rs) H3 := hP.upd (q0 := 1) mWs_D rfl hU hV
  clear hU hV
  refine lv_aload_n hx hb dX5_grants_44 rfl (lv_at hl 1 rfl) ?_
  refine z_get (fs := [.ref (m + 1), .ref (m + 2), .int (nI k), .ref (m + 3), .ref (m + 4), .int ty, .int pa, .int rs, .ref (m + 5)]) (ref := "CranePermitsModel") (C := RX5) (T := TX5) (N := 9) (ci := 5) (v := .ref (m + 1)) hx hb hts i_c_X5_grants_X5 hown hK (hP 0 _ rfl) 0 (by decide) rfl (hts (.fieldLink RX5 7 "CranePermitsModel" "d" "[I") (List.mem_of_getElem? (i := 1) rfl)) rfl rfl dX5_grants_45 ?_
  refine lv_iload hx hb dX5_grants_48 (lv_at hl 0 rfl) ?_
  refine lv_iconst (v := (nI 3)) hx hb dX5_grants_50 (by decide) ?_
  refine z_iadd hx hb dX5_grants_51 ?_
  refine lv_iload hx hb dX5_grants_52 (lv_at hl 5 rfl) ?_
  refine y_iast (a := (m + 1)) (f := (upd (upd (upd d (445 + (5 * (nG d))) (nI c)) ((445 + (5 * (nG d))) + 1) (nI n)) ((445 + (5 * (nG d))) + 2) h)) (i := ((445 + (5 * (nG d))) + 3)) hx hb hK (hP 1 _ rfl) (by omega) (by decide) dX5_grants_54 (fun H4 hU hV => ?_)
  have hS := hS.upd (x := ((445 + (5 * (nG d))) + 3)) hU (blk_in (by omega) (by omega))
  have hP : va_P D vwCl (mWs y m (upd (upd (upd (upd d (445 + (5 * (nG d))) (nI c)) ((445 + (5 * (nG d))) + 1) (nI n)) ((445 + (5 * (nG d))) + 2) h) ((445 + (5 * (nG d))) + 3) sw) was as tx gt (nI k) ty pa rs) H4 := hP.upd (q0 := 1) mWs_D rfl hU hV
  clear hU hV
  refine lv_aload_n hx hb dX5_grants_55 rfl (lv_at hl 1 rfl) ?_
  refine z_get (fs := [.ref (m + 1), .ref (m + 2), .int (nI k), .ref (m + 3), .ref (m + 4), .int ty, .int pa, .int rs, .ref (m + 5)]) (ref := "CranePermitsModel") (C := RX5) (T := TX5) (N := 9) (ci := 5) (v := .ref (m + 1)) hx hb hts i_c_X5_grants_X5 hown hK (hP 0 _ rfl) 0 (by decide) rfl (hts (.fieldLink RX5 7 "CranePermitsModel" "d" "[I") (List.mem_of_getElem? (i := 1) rfl)) rfl rfl dX5_grants_56 ?_
  refine lv_iload hx hb dX5_grants_59 (lv_at hl 0 rfl) ?_
  refine lv_iconst (v := (nI 4)) hx hb dX5_grants_61 (by decide) ?_
  refine z_iadd hx hb dX5_grants_62 ?_
  refine lv_iconst (v := (nI 1)) hx hb dX5_grants_63 (by decide) ?_
  refine y_iast (a := (m + 1)) (f := (upd (upd (upd (upd d (445 + (5 * (nG d))) (nI c)) ((445 + (5 * (nG d))) + 1) (nI n)) ((445 + (5 * (nG d))) + 2) h) ((445 + (5 * (nG d))) + 3) sw)) (i := ((445 + (5 * (nG d))) + 4)) hx hb hK (hP 1 _ rfl) (by omega) (by decide) dX5_grants_64 (fun H5 hU hV => ?_)
  have hS := hS.upd (x := ((445 + (5 * (nG d))) + 4)) hU (blk_in (by omega) (by omega))
  have hP : va_P D vwCl (mWs y m (upd (upd (upd (upd (upd d (445 + (5 * (nG d))) (nI c)) ((445 + (5 * (nG d))) + 1) (nI n)) ((445 + (5 * (nG d))) + 2) h) ((445 + (5 * (nG d))) + 3) sw) ((445 + (5 * (nG d))) + 4) (nI 1)) was as tx gt (nI k) ty pa rs) H5 := hP.upd (q0 := 1) mWs_D rfl hU hV
  clear hU hV
  refine lv_aload_n hx hb dX5_grants_65 rfl (lv_at hl 1 rfl) ?_
  refine z_get (fs := [.ref (m + 1), .ref (m + 2), .int (nI k), .ref (m + 3), .ref (m + 4), .int ty, .int pa, .int rs, .ref (m + 5)]) (ref := "CranePermitsModel") (C := RX5) (T := TX5) (N := 9) (ci := 5) (v := .ref (m + 1)) hx hb hts i_c_X5_grants_X5 hown hK (hP 0 _ rfl) 0 (by decide) rfl (hts (.fieldLink RX5 7 "CranePermitsModel" "d" "[I") (List.mem_of_getElem? (i := 1) rfl)) rfl rfl dX5_grants_66 ?_
  refine lv_sipush (v := (nI 442)) hx hb dX5_grants_69 (by decide) ?_
  refine lv_dup2_11 hx hb dX5_grants_72 rfl rfl ?_
  refine z_iald (f := (upd (upd (upd (upd (upd d (445 + (5 * (nG d))) (nI c)) ((445 + (5 * (nG d))) + 1) (nI n)) ((445 + (5 * (nG d))) + 2) h) ((445 + (5 * (nG d))) + 3) sw) ((445 + (5 * (nG d))) + 4) (nI 1))) hx hb hK (hP 1 _ rfl) (by omega) (by decide) dX5_grants_73 ?_
  refine z_topi (z := (nI (nG d))) ((pk_un (by omega)).trans ((pk_un (by omega)).trans ((pk_un (by omega)).trans ((pk_un (by omega)).trans ((pk_un (by omega)).trans hI.ng))))) ?_
  refine lv_iconst (v := (nI 1)) hx hb dX5_grants_74 (by decide) ?_
  refine lv_iadd hx hb dX5_grants_75 ?_
  refine y_iast (a := (m + 1)) (f := (upd (upd (upd (upd (upd d (445 + (5 * (nG d))) (nI c)) ((445 + (5 * (nG d))) + 1) (nI n)) ((445 + (5 * (nG d))) + 2) h) ((445 + (5 * (nG d))) + 3) sw) ((445 + (5 * (nG d))) + 4) (nI 1))) (i := 442) hx hb hK (hP 1 _ rfl) (by omega) (by decide) dX5_grants_76 (fun H6 hU hV => ?_)
  have hS := hS.upd (x := 442) hU (blk_in (by omega) (by omega))
  have hP : va_P D vwCl (mWs y m (upd (upd (upd (upd (upd (upd d (445 + (5 * (nG d))) (nI c)) ((445 + (5 * (nG d))) + 1) (nI n)) ((445 + (5 * (nG d))) + 2) h) ((445 + (5 * (nG d))) + 3) sw) ((445 + (5 * (nG d))) + 4) (nI 1)) 442 ((nI (nG d)) + (nI 1))) was as tx gt (nI k) ty pa rs) H6 := hP.upd (q0 := 1) mWs_D rfl hU hV
  clear hU hV
  refine lv_aload_n hx hb dX5_grants_77 rfl (lv_at hl 1 rfl) ?_
  refine z_get (fs := [.ref (m + 1), .ref (m + 2), .int (nI k), .ref (m + 3), .ref (m + 4), .int ty, .int pa, .int rs, .ref (m + 5)]) (ref := "CranePermitsModel") (C := RX5) (T := TX5) (N := 9) (ci := 5) (v := .ref (m + 1)) hx hb hts i_c_X5_grants_X5 hown hK (hP 0 _ rfl) 0 (by decide) rfl (hts (.fieldLink RX5 7 "CranePermitsModel" "d" "[I") (List.mem_of_getElem? (i := 1) rfl)) rfl rfl dX5_grants_78 ?_
  refine lv_sipush (v := (nI 442)) hx hb dX5_grants_81 (by decide) ?_
  refine z_iald (f := (upd (upd (upd (upd (upd (upd d (445 + (5 * (nG d))) (nI c)) ((445 + (5 * (nG d))) + 1) (nI n)) ((445 + (5 * (nG d))) + 2) h) ((445 + (5 * (nG d))) + 3) sw) ((445 + (5 * (nG d))) + 4) (nI 1)) 442 ((nI (nG d)) + (nI 1)))) hx hb hK (hP 1 _ rfl) (by omega) (by decide) dX5_grants_84 ?_
  refine z_topi (z := (nI (nG d) + nI 1)) (pk_us) ?_
  refine lv_iconst (v := (nI 1)) hx hb dX5_grants_85 (by decide) ?_
  refine lv_isub hx hb dX5_grants_86 ?_
  exact w_reti hx hb hr hlocks hS (hP) (by rw [Int32.add_sub_cancel]) dX5_grants_87
theorem i_c_X5_passes_X5 : ∀ w ∈ wsX50, w ∈ wsX5_passes := fun w h => (List.mem_cons_of_mem _ (List.mem_append_right _ h))
set_option maxRecDepth 100000 in
set_option maxHeartbeats 4000000 in
theorem c_X5_passes (l : Launch) (D : va_G) (y : zY) (m : Nat) (d : Nat → Int32) (was : Nat → Int32) (as : Nat → Int32) (tx : Nat → Int32) (gt : Nat → Int32) (k : Nat) (rs : Int32) (len : Nat) (a : Nat) (c : Int32) (hlen : len ≤ 80) (ha : a ≤ len) : Met l yX5_passes wsX5_passes ({ frames := 0, cells := 0, slots := 0, locals := 0 }) (zP [.ref m, .int c] (va_P D vwCl (mWs y m d was as tx gt (nI k) (nI len) (nI a) rs)) D y) (zW (some (.int (bI (pasB tx len a c)))) (va_P D vwCl (mWs y m d was as tx gt (nI k) (nI len) (nI (atP tx len a c)) rs)) (blk m 6)) 0 0 (blk m 6) := by
  refine z_body (cc := cX5_passes) (maxL := 3) (ret := (some .boolean)) (la := [(0, .ref m), (1, .int c)]) (by decide) rfl (Nat.le_of_ble_eq_true rfl) rfl ?_
  intro pg ev s mm below meth c0 ls hx hb hr hF hlocks hΦ hK hl _
  have hts := hF.2.2.2.2
  have hown : s.vm.findClass RX5 = some mm.cls := hF.2.2.2.1
  have hP : va_P D vwCl (mWs y m d was as tx gt (nI k) (nI len) (nI a) rs) s.heap := hΦ
  have hS : va_S (blk m 6) s.heap s.heap [] := va_S.rf
  refine lv_aload_n hx hb dX5_passes_0 rfl (lv_at hl 0 rfl) ?_
  refine z_get (fs := [.ref (m + 1), .ref (m + 2), .int (nI k), .ref (m + 3), .ref (m + 4), .int (nI len), .int (nI a), .int rs, .ref (m + 5)]) (ref := "CranePermitsModel") (C := RX5) (T := TX5) (N := 9) (ci := 5) (v := .int (nI a)) hx hb hts i_c_X5_passes_X5 hown hK (hP 0 _ rfl) 6 (by decide) rfl (hts (.fieldLink RX5 149 "CranePermitsModel" "at" "I") (List.mem_of_getElem? (i := 1) rfl)) rfl rfl dX5_passes_1 ?_
  refine lv_aload_n hx hb dX5_passes_4 rfl (lv_at hl 0 rfl) ?_
  refine z_get (fs := [.ref (m + 1), .ref (m + 2), .int (nI k), .ref (m + 3), .ref (m + 4), .int (nI len), .int (nI a), .int rs, .ref (m + 5)]) (ref := "CranePermitsModel") (C := RX5) (T := TX5) (N := 9) (ci := 5) (v := .int (nI len)) hx hb hts i_c_X5_passes_X5 hown hK (hP 0 _ rfl) 5 (by decide) rfl (hts (.fieldLink RX5 117 "CranePermitsModel" "typed" "I") (List.mem_of_getElem? (i := 2) rfl)) rfl rfl dX5_passes_5 ?_
  refine z_ge (tgt := 28) hx hb (by omega) (by omega) dX5_passes_8 (by decide) (fun c8 => ?_) (fun c8 => ?_)
  · refine lv_iconst (v := (nI 0)) hx hb dX5_passes_28 (by decide) ?_
    refine z_topi (z := bI (pasB tx len a c)) (bI_ff (by unfold pasB; first | (rw [decide_eq_false (Nat.not_lt.mpr c8)]; rfl) | (rw [decide_eq_false c21]; exact Bool.and_false _))) ?_
    refine lv_istore_n (lv' := [(2, .int (bI (pasB tx len a c))), (0, .ref m), (1, .int c)]) hx hb dX5_passes_29 rfl hl (by decide) rfl (fun ls hl => ?_)
    refine lv_aload_n hx hb dX5_passes_30 rfl (lv_at hl 1 rfl) ?_
    refine lv_dup hx hb dX5_passes_31 rfl ?_
    refine z_get (fs := [.ref (m + 1), .ref (m + 2), .int (nI k), .ref (m + 3), .ref (m + 4), .int (nI len), .int (nI a), .int rs, .ref (m + 5)]) (ref := "CranePermitsModel") (C := RX5) (T := TX5) (N := 9) (ci := 5) (v := .int (nI a)) hx hb hts i_c_X5_passes_X5 hown hK (hP 0 _ rfl) 6 (by decide) rfl (hts (.fieldLink RX5 149 "CranePermitsModel" "at" "I") (List.mem_of_getElem? (i := 1) rfl)) rfl rfl dX5_passes_32 ?_
    refine lv_iload_n hx hb dX5_passes_35 rfl (lv_at hl 0 rfl) ?_
    refine z_ifeq (tgt := 43) hx hb dX5_passes_36 (by decide) (fun c36 => ?_) (fun c36 => ?_)
    · refine lv_iconst (v := (nI 0)) hx hb dX5_passes_43 (by decide) ?_
      refine z_iadd hx hb dX5_passes_44 ?_
      refine y_put (a := m) (fs := [.ref (m + 1), .ref (m + 2), .int (nI k), .ref (m + 3), .ref (m + 4), .int (nI len), .int (nI a), .int rs, .ref (m + 5)]) (ref := "CranePermitsModel") (C := RX5) (T := TX5) (N := 9) (ci := 5) (v := .int (nI (a + 0))) (ty := .int) hx hb hts i_c_X5_passes_X5 tyX5 tyX5_ok nmX5 hown hK (hP 0 _ rfl) 6 (by decide) rfl (hts (.fieldLink RX5 149 "CranePermitsModel" "at" "I") (List.mem_of_getElem? (i := 1) rfl)) rfl rfl (by decide +kernel) (rfl) rfl (Nat.le_of_ble_eq_true rfl) dX5_passes_45 (fun H1 x1 hU hV => ?_)
      have hS := hS.upd (x := x1) hU (blk_in (by omega) (by omega))
      have hP : va_P D vwCl (mWs y m d was as tx gt (nI k) (nI len) (nI (a + 0)) rs) H1 := hP.upd (q0 := 0) mWs_D rfl hU hV
      clear hU hV
      refine lv_iload_n hx hb dX5_passes_48 rfl (lv_at hl 0 rfl) ?_
      exact w_retz hx hb hr hlocks hS (by unfold atP; first | (rw [if_pos c36]; exact hP) | (rw [if_neg (bf c36)]; exact hP)) (rfl) dX5_passes_49
    · refine lv_iconst (v := (nI 1)) hx hb dX5_passes_39 (by decide) ?_
      refine lv_goto (tgt := 44) hx hb dX5_passes_40 (by decide) ?_
      refine z_iadd hx hb dX5_passes_44 ?_
      refine y_put (a := m) (fs := [.ref (m + 1), .ref (m + 2), .int (nI k), .ref (m + 3), .ref (m + 4), .int (nI len), .int (nI a), .int rs, .ref (m + 5)]) (ref := "CranePermitsModel") (C := RX5) (T := TX5) (N := 9) (ci := 5) (v := .int (nI (a + 1))) (ty := .int) hx hb hts i_c_X5_passes_X5 tyX5 tyX5_ok nmX5 hown hK (hP 0 _ rfl) 6 (by decide) rfl (hts (.fieldLink RX5 149 "CranePermitsModel" "at" "I") (List.mem_of_getElem? (i := 1) rfl)) rfl rfl (by decide +kernel) (rfl) rfl (Nat.le_of_ble_eq_true rfl) dX5_passes_45 (fun H2 x1 hU hV => ?_)
      have hS := hS.upd (x := x1) hU (blk_in (by omega) (by omega))
      have hP : va_P D vwCl (mWs y m d was as tx gt (nI k) (nI len) (nI (a + 1)) rs) H2 := hP.upd (q0 := 0) mWs_D rfl hU hV
      clear hU hV
      refine lv_iload_n hx hb dX5_passes_48 rfl (lv_at hl 0 rfl) ?_
      exact w_retz hx hb hr hlocks hS (by unfold atP; first | (rw [if_pos c36]; exact hP) | (rw [if_neg (bf c36)]; exact hP)) (rfl) dX5_passes_49
  · refine lv_aload_n hx hb dX5_passes_11 rfl (lv_at hl 0 rfl) ?_
    refine z_get (fs := [.ref (m + 1), .ref (m + 2), .int (nI k), .ref (m + 3), .ref (m + 4), .int (nI len), .int (nI a), .int rs, .ref (m + 5)]) (ref := "CranePermitsModel") (C := RX5) (T := TX5) (N := 9) (ci := 5) (v := .ref (m + 4)) hx hb hts i_c_X5_passes_X5 hown hK (hP 0 _ rfl) 4 (by decide) rfl (hts (.fieldLink RX5 19 "CranePermitsModel" "text" "[C") (List.mem_of_getElem? (i := 3) rfl)) rfl rfl dX5_passes_12 ?_
    refine lv_aload_n hx hb dX5_passes_15 rfl (lv_at hl 0 rfl) ?_
    refine z_get (fs := [.ref (m + 1), .ref (m + 2), .int (nI k), .ref (m + 3), .ref (m + 4), .int (nI len), .int (nI a), .int rs, .ref (m + 5)]) (ref := "CranePermitsModel") (C := RX5) (T := TX5) (N := 9) (ci := 5) (v := .int (nI a)) hx hb hts i_c_X5_passes_X5 hown hK (hP 0 _ rfl) 6 (by decide) rfl (hts (.fieldLink RX5 149 "CranePermitsModel" "at" "I") (List.mem_of_getElem? (i := 1) rfl)) rfl rfl dX5_passes_16 ?_
    refine z_cald (f := tx) hx hb hK (hP 4 _ rfl) (by omega) (by decide) dX5_passes_19 ?_
    refine lv_iload_n hx hb dX5_passes_20 rfl (lv_at hl 1 rfl) ?_
    refine lv_icmp_ne (tgt := 28) hx hb dX5_passes_21 (by decide) (fun c21 => ?_) (fun c21 => ?_)
    · refine lv_iconst (v := (nI 0)) hx hb dX5_passes_28 (by decide) ?_
      refine z_topi (z := bI (pasB tx len a c)) (bI_ff (by unfold pasB; first | (rw [decide_eq_false (Nat.not_lt.mpr c8)]; rfl) | (rw [decide_eq_false c21]; exact Bool.and_false _))) ?_
      refine lv_istore_n (lv' := [(2, .int (bI (pasB tx len a c))), (0, .ref m), (1, .int c)]) hx hb dX5_passes_29 rfl hl (by decide) rfl (fun ls hl => ?_)
      refine lv_aload_n hx hb dX5_passes_30 rfl (lv_at hl 1 rfl) ?_
      refine lv_dup hx hb dX5_passes_31 rfl ?_
      refine z_get (fs := [.ref (m + 1), .ref (m + 2), .int (nI k), .ref (m + 3), .ref (m + 4), .int (nI len), .int (nI a), .int rs, .ref (m + 5)]) (ref := "CranePermitsModel") (C := RX5) (T := TX5) (N := 9) (ci := 5) (v := .int (nI a)) hx hb hts i_c_X5_passes_X5 hown hK (hP 0 _ rfl) 6 (by decide) rfl (hts (.fieldLink RX5 149 "CranePermitsModel" "at" "I") (List.mem_of_getElem? (i := 1) rfl)) rfl rfl dX5_passes_32 ?_
      refine lv_iload_n hx hb dX5_passes_35 rfl (lv_at hl 0 rfl) ?_
      refine z_ifeq (tgt := 43) hx hb dX5_passes_36 (by decide) (fun c36 => ?_) (fun c36 => ?_)
      · refine lv_iconst (v := (nI 0)) hx hb dX5_passes_43 (by decide) ?_
        refine z_iadd hx hb dX5_passes_44 ?_
        refine y_put (a := m) (fs := [.ref (m + 1), .ref (m + 2), .int (nI k), .ref (m + 3), .ref (m + 4), .int (nI len), .int (nI a), .int rs, .ref (m + 5)]) (ref := "CranePermitsModel") (C := RX5) (T := TX5) (N := 9) (ci := 5) (v := .int (nI (a + 0))) (ty := .int) hx hb hts i_c_X5_passes_X5 tyX5 tyX5_ok nmX5 hown hK (hP 0 _ rfl) 6 (by decide) rfl (hts (.fieldLink RX5 149 "CranePermitsModel" "at" "I") (List.mem_of_getElem? (i := 1) rfl)) rfl rfl (by decide +kernel) (rfl) rfl (Nat.le_of_ble_eq_true rfl) dX5_passes_45 (fun H3 x1 hU hV => ?_)
        have hS := hS.upd (x := x1) hU (blk_in (by omega) (by omega))
        have hP : va_P D vwCl (mWs y m d was as tx gt (nI k) (nI len) (nI (a + 0)) rs) H3 := hP.upd (q0 := 0) mWs_D rfl hU hV
        clear hU hV
        refine lv_iload_n hx hb dX5_passes_48 rfl (lv_at hl 0 rfl) ?_
        exact w_retz hx hb hr hlocks hS (by unfold atP; first | (rw [if_pos c36]; exact hP) | (rw [if_neg (bf c36)]; exact hP)) (rfl) dX5_passes_49
      · refine lv_iconst (v := (nI 1)) hx hb dX5_passes_39 (by decide) ?_
        refine lv_goto (tgt := 44) hx hb dX5_passes_40 (by decide) ?_
        refine z_iadd hx hb dX5_passes_44 ?_
        refine y_put (a := m) (fs := [.ref (m + 1), .ref (m + 2), .int (nI k), .ref (m + 3), .ref (m + 4), .int (nI len), .int (nI a), .int rs, .ref (m + 5)]) (ref := "CranePermitsModel") (C := RX5) (T := TX5) (N := 9) (ci := 5) (v := .int (nI (a + 1))) (ty := .int) hx hb hts i_c_X5_passes_X5 tyX5 tyX5_ok nmX5 hown hK (hP 0 _ rfl) 6 (by decide) rfl (hts (.fieldLink RX5 149 "CranePermitsModel" "at" "I") (List.mem_of_getElem? (i := 1) rfl)) rfl rfl (by decide +kernel) (rfl) rfl (Nat.le_of_ble_eq_true rfl) dX5_passes_45 (fun H4 x1 hU hV => ?_)
        have hS := hS.upd (x := x1) hU (blk_in (by omega) (by omega))
        have hP : va_P D vwCl (mWs y m d was as tx gt (nI k) (nI len) (nI (a + 1)) rs) H4 := hP.upd (q0 := 0) mWs_D rfl hU hV
        clear hU hV
        refine lv_iload_n hx hb dX5_passes_48 rfl (lv_at hl 0 rfl) ?_
        exact w_retz hx hb hr hlocks hS (by unfold atP; first | (rw [if_pos c36]; exact hP) | (rw [if_neg (bf c36)]; exact hP)) (rfl) dX5_passes_49
    · refine lv_iconst (v := (nI 1)) hx hb dX5_passes_24 (by decide) ?_
      refine lv_goto (tgt := 29) hx hb dX5_passes_25 (by decide) ?_
      refine z_topi (z := bI (pasB tx len a c)) (bI_tt (by unfold pasB; rw [decide_eq_true c8, decide_eq_true c21]; rfl)) ?_
      refine lv_istore_n (lv' := [(2, .int (bI (pasB tx len a c))), (0, .ref m), (1, .int c)]) hx hb dX5_passes_29 rfl hl (by decide) rfl (fun ls hl => ?_)
      refine lv_aload_n hx hb dX5_passes_30 rfl (lv_at hl 1 rfl) ?_
      refine lv_dup hx hb dX5_passes_31 rfl ?_
      refine z_get (fs := [.ref (m + 1), .ref (m + 2), .int (nI k), .ref (m + 3), .ref (m + 4), .int (nI len), .int (nI a), .int rs, .ref (m + 5)]) (ref := "CranePermitsModel") (C := RX5) (T := TX5) (N := 9) (ci := 5) (v := .int (nI a)) hx hb hts i_c_X5_passes_X5 hown hK (hP 0 _ rfl) 6 (by decide) rfl (hts (.fieldLink RX5 149 "CranePermitsModel" "at" "I") (List.mem_of_getElem? (i := 1) rfl)) rfl rfl dX5_passes_32 ?_
      refine lv_iload_n hx hb dX5_passes_35 rfl (lv_at hl 0 rfl) ?_
      refine z_ifeq (tgt := 43) hx hb dX5_passes_36 (by decide) (fun c36 => ?_) (fun c36 => ?_)
      · refine lv_iconst (v := (nI 0)) hx hb dX5_passes_43 (by decide) ?_
        refine z_iadd hx hb dX5_passes_44 ?_
        refine y_put (a := m) (fs := [.ref (m + 1), .ref (m + 2), .int (nI k), .ref (m + 3), .ref (m + 4), .int (nI len), .int (nI a), .int rs, .ref (m + 5)]) (ref := "CranePermitsModel") (C := RX5) (T := TX5) (N := 9) (ci := 5) (v := .int (nI (a + 0))) (ty := .int) hx hb hts i_c_X5_passes_X5 tyX5 tyX5_ok nmX5 hown hK (hP 0 _ rfl) 6 (by decide) rfl (hts (.fieldLink RX5 149 "CranePermitsModel" "at" "I") (List.mem_of_getElem? (i := 1) rfl)) rfl rfl (by decide +kernel) (rfl) rfl (Nat.le_of_ble_eq_true rfl) dX5_passes_45 (fun H5 x1 hU hV => ?_)
        have hS := hS.upd (x := x1) hU (blk_in (by omega) (by omega))
        have hP : va_P D vwCl (mWs y m d was as tx gt (nI k) (nI len) (nI (a + 0)) rs) H5 := hP.upd (q0 := 0) mWs_D rfl hU hV
        clear hU hV
        refine lv_iload_n hx hb dX5_passes_48 rfl (lv_at hl 0 rfl) ?_
        exact w_retz hx hb hr hlocks hS (by unfold atP; first | (rw [if_pos c36]; exact hP) | (rw [if_neg (bf c36)]; exact hP)) (rfl) dX5_passes_49
      · refine lv_iconst (v := (nI 1)) hx hb dX5_passes_39 (by decide) ?_
        refine lv_goto (tgt := 44) hx hb dX5_passes_40 (by decide) ?_
        refine z_iadd hx hb dX5_passes_44 ?_
        refine y_put (a := m) (fs := [.ref (m + 1), .ref (m + 2), .int (nI k), .ref (m + 3), .ref (m + 4), .int (nI len), .int (nI a), .int rs, .ref (m + 5)]) (ref := "CranePermitsModel") (C := RX5) (T := TX5) (N := 9) (ci := 5) (v := .int (nI (a + 1))) (ty := .int) hx hb hts i_c_X5_passes_X5 tyX5 tyX5_ok nmX5 hown hK (hP 0 _ rfl) 6 (by decide) rfl (hts (.fieldLink RX5 149 "CranePermitsModel" "at" "I") (List.mem_of_getElem? (i := 1) rfl)) rfl rfl (by decide +kernel) (rfl) rfl (Nat.le_of_ble_eq_true rfl) dX5_passes_45 (fun H6 x1 hU hV => ?_)
        have hS := hS.upd (x := x1) hU (blk_in (by omega) (by omega))
        have hP : va_P D vwCl (mWs y m d was as tx gt (nI k) (nI len) (nI (a + 1)) rs) H6 := hP.upd (q0 := 0) mWs_D rfl hU hV
        clear hU hV
        refine lv_iload_n hx hb dX5_passes_48 rfl (lv_at hl 0 rfl) ?_
        exact w_retz hx hb hr hlocks hS (by unfold atP; first | (rw [if_pos c36]; exact hP) | (rw [if_neg (bf c36)]; exact hP)) (rfl) dX5_passes_49
theorem i_c_X5_number_X5 : ∀ w ∈ wsX50, w ∈ wsX5_number := fun w h => (List.mem_cons_of_mem _ (List.mem_append_right _ h))
set_option maxRecDepth 100000 in
set_option maxHeartbeats 4000000 in
theorem c_X5_number (l : Launch) (D : va_G) (y : zY) (m : Nat) (d : Nat → Int32) (was : Nat → Int32) (as : Nat → Int32) (tx : Nat → Int32) (gt : Nat → Int32) (k : Nat) (rs : Int32) (len : Nat) (a : Nat) (q : Nat) (hlen : len ≤ 80) (ha : a ≤ len) (hq : q ≤ 3) : Met l yX5_number wsX5_number ({ frames := 1, cells := 0, slots := 0, locals := 22 }) (zP [.ref m, .int (nI q)] (va_P D vwCl (mWs y m d was as tx gt (nI k) (nI len) (nI a) rs)) D y) (zW (some (.int (numR tx len a q))) (va_P D vwCl (mWs y m d was as tx gt (nI k) (nI len) (nI (a + numJ tx len a q)) rs)) (blk m 6)) 0 0 (blk m 6) := by
  refine z_body (cc := cX5_number) (maxL := 4) (ret := (some .int)) (la := [(0, .ref m), (1, .int (nI q))]) (by decide) rfl (Nat.le_of_ble_eq_true rfl) rfl ?_
  intro pg ev s mm below meth c0 ls hx hb hr hF hlocks hΦ hK hl _
  have hts := hF.2.2.2.2
  have hown : s.vm.findClass RX5 = some mm.cls := hF.2.2.2.1
  have hP : va_P D vwCl (mWs y m d was as tx gt (nI k) (nI len) (nI a) rs) s.heap := hΦ
  have hS : va_S (blk m 6) s.heap s.heap [] := va_S.rf
  refine lv_aload_n hx hb dX5_number_0 rfl (lv_at hl 0 rfl) ?_
  refine z_get (fs := [.ref (m + 1), .ref (m + 2), .int (nI k), .ref (m + 3), .ref (m + 4), .int (nI len), .int (nI a), .int rs, .ref (m + 5)]) (ref := "CranePermitsModel") (C := RX5) (T := TX5) (N := 9) (ci := 5) (v := .int (nI a)) hx hb hts i_c_X5_number_X5 hown hK (hP 0 _ rfl) 6 (by decide) rfl (hts (.fieldLink RX5 149 "CranePermitsModel" "at" "I") (List.mem_of_getElem? (i := 1) rfl)) rfl rfl dX5_number_1 ?_
  refine lv_istore_n (lv' := [(2, .int (nI a)), (0, .ref m), (1, .int (nI q))]) hx hb dX5_number_4 rfl hl (by decide) rfl (fun ls hl => ?_)
  refine lv_iconst (v := (nI 0)) hx hb dX5_number_5 (by decide) ?_
  refine lv_istore_n (lv' := [(3, .int (nI 0)), (2, .int (nI a)), (0, .ref m), (1, .int (nI q))]) hx hb dX5_number_6 rfl hl (by decide) rfl (fun ls hl => ?_)
  have hl := lv_repl (l' := [(3, .int (numV tx a 0)), (2, .int (nI a)), (0, .ref m), (1, .int (nI q))]) hl 0 rfl (congrArg Value.int (show (nI 0) = (numV tx a 0) from rfl)) rfl
  refine z_loopW (S := Nat) (nL := 4) (fun (j : Nat) => q - j) (fun (j : Nat) => [(3, .int (numV tx a j)), (0, .ref m), (1, .int (nI q)), (2, .int (nI a))]) (fun (j : Nat) (H : Heap) (locs : List Loc) => va_P D vwCl (mWs y m d was as tx gt (nI k) (nI len) (nI (a + j)) rs) H ∧ va_S (blk m 6) s.heap H locs ∧ (j ≤ q ∧ ∀ i, i < j → (!digP tx len a i) = false)) 0 ⟨hP, hS, ⟨Nat.zero_le _, fun i hi => absurd hi (Nat.not_lt_zero i)⟩⟩ (lv_sub hl [0, 2, 3, 1] rfl) ?_
  clear hl hP hS
  rintro j H1 locs ls ⟨hP, hS, hI_7⟩ hl ih_7
  obtain ⟨hj, hall⟩ := hI_7
  refine lv_aload_n hx hb dX5_number_7 rfl (lv_at hl 1 rfl) ?_
  refine z_get (fs := [.ref (m + 1), .ref (m + 2), .int (nI k), .ref (m + 3), .ref (m + 4), .int (nI len), .int (nI (a + j)), .int rs, .ref (m + 5)]) (ref := "CranePermitsModel") (C := RX5) (T := TX5) (N := 9) (ci := 5) (v := .int (nI (a + j))) hx hb hts i_c_X5_number_X5 hown hK (hP 0 _ rfl) 6 (by decide) rfl (hts (.fieldLink RX5 149 "CranePermitsModel" "at" "I") (List.mem_of_getElem? (i := 1) rfl)) rfl rfl dX5_number_8 ?_
  refine lv_aload_n hx hb dX5_number_11 rfl (lv_at hl 1 rfl) ?_
  refine z_get (fs := [.ref (m + 1), .ref (m + 2), .int (nI k), .ref (m + 3), .ref (m + 4), .int (nI len), .int (nI (a + j)), .int rs, .ref (m + 5)]) (ref := "CranePermitsModel") (C := RX5) (T := TX5) (N := 9) (ci := 5) (v := .int (nI len)) hx hb hts i_c_X5_number_X5 hown hK (hP 0 _ rfl) 5 (by decide) rfl (hts (.fieldLink RX5 117 "CranePermitsModel" "typed" "I") (List.mem_of_getElem? (i := 2) rfl)) rfl rfl dX5_number_12 ?_
  refine z_ge (tgt := 78) hx hb (by omega) (by omega) dX5_number_15 (by decide) (fun c15 => ?_) (fun c15 => ?_)
  · refine lv_aload_n hx hb dX5_number_78 rfl (lv_at hl 1 rfl) ?_
    refine z_get (fs := [.ref (m + 1), .ref (m + 2), .int (nI k), .ref (m + 3), .ref (m + 4), .int (nI len), .int (nI (a + j)), .int rs, .ref (m + 5)]) (ref := "CranePermitsModel") (C := RX5) (T := TX5) (N := 9) (ci := 5) (v := .int (nI (a + j))) hx hb hts i_c_X5_number_X5 hown hK (hP 0 _ rfl) 6 (by decide) rfl (hts (.fieldLink RX5 149 "CranePermitsModel" "at" "I") (List.mem_of_getElem? (i := 1) rfl)) rfl rfl dX5_number_79 ?_
    refine lv_iload_n hx hb dX5_number_82 rfl (lv_at hl 3 rfl) ?_
    refine z_le (tgt := 90) hx hb (by omega) (by omega) dX5_number_83 (by decide) (fun c83 => ?_) (fun c83 => ?_)
    · refine lv_iconst (v := (-1)) hx hb dX5_number_90 (by decide) ?_
      exact w_reti hx hb hr hlocks hS (by rw [show numJ tx len a q = j from num_end hj hall (by first | exact Or.inr (by unfold digP; rw [decide_eq_false (Nat.not_lt.mpr c15)]; rfl) | exact Or.inl (by omega) | exact Or.inr (by unfold digP; rw [c44]; exact Bool.and_false _))]; exact hP) (by unfold numR; rw [show numJ tx len a q = j from num_end hj hall (by first | exact Or.inr (by unfold digP; rw [decide_eq_false (Nat.not_lt.mpr c15)]; rfl) | exact Or.inl (by omega) | exact Or.inr (by unfold digP; rw [c44]; exact Bool.and_false _))]; first | (rw [if_pos (by omega)]; done) | (rw [if_neg (by omega)]; done)) dX5_number_91
    · refine lv_iload_n hx hb dX5_number_86 rfl (lv_at hl 0 rfl) ?_
      refine lv_goto (tgt := 91) hx hb dX5_number_87 (by decide) ?_
      exact w_reti hx hb hr hlocks hS (by rw [show numJ tx len a q = j from num_end hj hall (by first | exact Or.inr (by unfold digP; rw [decide_eq_false (Nat.not_lt.mpr c15)]; rfl) | exact Or.inl (by omega) | exact Or.inr (by unfold digP; rw [c44]; exact Bool.and_false _))]; exact hP) (by unfold numR; rw [show numJ tx len a q = j from num_end hj hall (by first | exact Or.inr (by unfold digP; rw [decide_eq_false (Nat.not_lt.mpr c15)]; rfl) | exact Or.inl (by omega) | exact Or.inr (by unfold digP; rw [c44]; exact Bool.and_false _))]; first | (rw [if_pos (by omega)]; done) | (rw [if_neg (by omega)]; done)) dX5_number_91
  · refine lv_aload_n hx hb dX5_number_18 rfl (lv_at hl 1 rfl) ?_
    refine z_get (fs := [.ref (m + 1), .ref (m + 2), .int (nI k), .ref (m + 3), .ref (m + 4), .int (nI len), .int (nI (a + j)), .int rs, .ref (m + 5)]) (ref := "CranePermitsModel") (C := RX5) (T := TX5) (N := 9) (ci := 5) (v := .int (nI (a + j))) hx hb hts i_c_X5_number_X5 hown hK (hP 0 _ rfl) 6 (by decide) rfl (hts (.fieldLink RX5 149 "CranePermitsModel" "at" "I") (List.mem_of_getElem? (i := 1) rfl)) rfl rfl dX5_number_19 ?_
    refine lv_iload_n hx hb dX5_number_22 rfl (lv_at hl 3 rfl) ?_
    refine lv_iload_n hx hb dX5_number_23 rfl (lv_at hl 2 rfl) ?_
    refine z_iadd hx hb dX5_number_24 ?_
    refine z_ge (tgt := 78) hx hb (by omega) (by omega) dX5_number_25 (by decide) (fun c25 => ?_) (fun c25 => ?_)
    · refine lv_aload_n hx hb dX5_number_78 rfl (lv_at hl 1 rfl) ?_
      refine z_get (fs := [.ref (m + 1), .ref (m + 2), .int (nI k), .ref (m + 3), .ref (m + 4), .int (nI len), .int (nI (a + j)), .int rs, .ref (m + 5)]) (ref := "CranePermitsModel") (C := RX5) (T := TX5) (N := 9) (ci := 5) (v := .int (nI (a + j))) hx hb hts i_c_X5_number_X5 hown hK (hP 0 _ rfl) 6 (by decide) rfl (hts (.fieldLink RX5 149 "CranePermitsModel" "at" "I") (List.mem_of_getElem? (i := 1) rfl)) rfl rfl dX5_number_79 ?_
      refine lv_iload_n hx hb dX5_number_82 rfl (lv_at hl 3 rfl) ?_
      refine z_le (tgt := 90) hx hb (by omega) (by omega) dX5_number_83 (by decide) (fun c83 => ?_) (fun c83 => ?_)
      · refine lv_iconst (v := (-1)) hx hb dX5_number_90 (by decide) ?_
        exact w_reti hx hb hr hlocks hS (by rw [show numJ tx len a q = j from num_end hj hall (by first | exact Or.inr (by unfold digP; rw [decide_eq_false (Nat.not_lt.mpr c15)]; rfl) | exact Or.inl (by omega) | exact Or.inr (by unfold digP; rw [c44]; exact Bool.and_false _))]; exact hP) (by unfold numR; rw [show numJ tx len a q = j from num_end hj hall (by first | exact Or.inr (by unfold digP; rw [decide_eq_false (Nat.not_lt.mpr c15)]; rfl) | exact Or.inl (by omega) | exact Or.inr (by unfold digP; rw [c44]; exact Bool.and_false _))]; first | (rw [if_pos (by omega)]; done) | (rw [if_neg (by omega)]; done)) dX5_number_91
      · refine lv_iload_n hx hb dX5_number_86 rfl (lv_at hl 0 rfl) ?_
        refine lv_goto (tgt := 91) hx hb dX5_number_87 (by decide) ?_
        exact w_reti hx hb hr hlocks hS (by rw [show numJ tx len a q = j from num_end hj hall (by first | exact Or.inr (by unfold digP; rw [decide_eq_false (Nat.not_lt.mpr c15)]; rfl) | exact Or.inl (by omega) | exact Or.inr (by unfold digP; rw [c44]; exact Bool.and_false _))]; exact hP) (by unfold numR; rw [show numJ tx len a q = j from num_end hj hall (by first | exact Or.inr (by unfold digP; rw [decide_eq_false (Nat.not_lt.mpr c15)]; rfl) | exact Or.inl (by omega) | exact Or.inr (by unfold digP; rw [c44]; exact Bool.and_false _))]; first | (rw [if_pos (by omega)]; done) | (rw [if_neg (by omega)]; done)) dX5_number_91
    · refine lv_aload_n hx hb dX5_number_28 rfl (lv_at hl 1 rfl) ?_
      refine z_get (fs := [.ref (m + 1), .ref (m + 2), .int (nI k), .ref (m + 3), .ref (m + 4), .int (nI len), .int (nI (a + j)), .int rs, .ref (m + 5)]) (ref := "CranePermitsModel") (C := RX5) (T := TX5) (N := 9) (ci := 5) (v := .ref (m + 4)) hx hb hts i_c_X5_number_X5 hown hK (hP 0 _ rfl) 4 (by decide) rfl (hts (.fieldLink RX5 19 "CranePermitsModel" "text" "[C") (List.mem_of_getElem? (i := 3) rfl)) rfl rfl dX5_number_29 ?_
      refine lv_aload_n hx hb dX5_number_32 rfl (lv_at hl 1 rfl) ?_
      refine z_get (fs := [.ref (m + 1), .ref (m + 2), .int (nI k), .ref (m + 3), .ref (m + 4), .int (nI len), .int (nI (a + j)), .int rs, .ref (m + 5)]) (ref := "CranePermitsModel") (C := RX5) (T := TX5) (N := 9) (ci := 5) (v := .int (nI (a + j))) hx hb hts i_c_X5_number_X5 hown hK (hP 0 _ rfl) 6 (by decide) rfl (hts (.fieldLink RX5 149 "CranePermitsModel" "at" "I") (List.mem_of_getElem? (i := 1) rfl)) rfl rfl dX5_number_33 ?_
      refine z_cald (f := tx) hx hb hK (hP 4 _ rfl) (by omega) (by decide) dX5_number_36 ?_
      refine lv_bipush (v := (nI 48)) hx hb dX5_number_37 (by decide) ?_
      refine lv_bipush (v := (nI 57)) hx hb dX5_number_39 (by decide) ?_
      refine z_callS (As := [.int (tx (a + j)), .int (nI 48), .int (nI 57)]) (rest := []) hF hK (c_X5_in l D y (tx (a + j)) (nI 48) (nI 57) ) (va_cwS 3 hts gX5_number_X5_in rfl rfl rfl (by decide +kernel) ⟨Nat.le_of_ble_eq_true rfl, Nat.le_of_ble_eq_true rfl⟩) trivial rfl hl.1 rfl (Nat.le_of_ble_eq_true rfl) dX5_number_41 ⟨Nat.zero_le _, Nat.zero_le _⟩ ?_
      refine z_ifeq (tgt := 78) hx hb dX5_number_44 (by decide) (fun c44 => ?_) (fun c44 => ?_)
      · refine lv_aload_n hx hb dX5_number_78 rfl (lv_at hl 1 rfl) ?_
        refine z_get (fs := [.ref (m + 1), .ref (m + 2), .int (nI k), .ref (m + 3), .ref (m + 4), .int (nI len), .int (nI (a + j)), .int rs, .ref (m + 5)]) (ref := "CranePermitsModel") (C := RX5) (T := TX5) (N := 9) (ci := 5) (v := .int (nI (a + j))) hx hb hts i_c_X5_number_X5 hown hK (hP 0 _ rfl) 6 (by decide) rfl (hts (.fieldLink RX5 149 "CranePermitsModel" "at" "I") (List.mem_of_getElem? (i := 1) rfl)) rfl rfl dX5_number_79 ?_
        refine lv_iload_n hx hb dX5_number_82 rfl (lv_at hl 3 rfl) ?_
        refine z_le (tgt := 90) hx hb (by omega) (by omega) dX5_number_83 (by decide) (fun c83 => ?_) (fun c83 => ?_)
        · refine lv_iconst (v := (-1)) hx hb dX5_number_90 (by decide) ?_
          exact w_reti hx hb hr hlocks hS (by rw [show numJ tx len a q = j from num_end hj hall (by first | exact Or.inr (by unfold digP; rw [decide_eq_false (Nat.not_lt.mpr c15)]; rfl) | exact Or.inl (by omega) | exact Or.inr (by unfold digP; rw [c44]; exact Bool.and_false _))]; exact hP) (by unfold numR; rw [show numJ tx len a q = j from num_end hj hall (by first | exact Or.inr (by unfold digP; rw [decide_eq_false (Nat.not_lt.mpr c15)]; rfl) | exact Or.inl (by omega) | exact Or.inr (by unfold digP; rw [c44]; exact Bool.and_false _))]; first | (rw [if_pos (by omega)]; done) | (rw [if_neg (by omega)]; done)) dX5_number_91
        · refine lv_iload_n hx hb dX5_number_86 rfl (lv_at hl 0 rfl) ?_
          refine lv_goto (tgt := 91) hx hb dX5_number_87 (by decide) ?_
          exact w_reti hx hb hr hlocks hS (by rw [show numJ tx len a q = j from num_end hj hall (by first | exact Or.inr (by unfold digP; rw [decide_eq_false (Nat.not_lt.mpr c15)]; rfl) | exact Or.inl (by omega) | exact Or.inr (by unfold digP; rw [c44]; exact Bool.and_false _))]; exact hP) (by unfold numR; rw [show numJ tx len a q = j from num_end hj hall (by first | exact Or.inr (by unfold digP; rw [decide_eq_false (Nat.not_lt.mpr c15)]; rfl) | exact Or.inl (by omega) | exact Or.inr (by unfold digP; rw [c44]; exact Bool.and_false _))]; first | (rw [if_pos (by omega)]; done) | (rw [if_neg (by omega)]; done)) dX5_number_91
      · refine lv_bipush (v := (nI 10)) hx hb dX5_number_47 (by decide) ?_
        refine lv_iload_n hx hb dX5_number_49 rfl (lv_at hl 0 rfl) ?_
        refine lv_imul hx hb dX5_number_50 ?_
        refine lv_aload_n hx hb dX5_number_51 rfl (lv_at hl 1 rfl) ?_
        refine z_get (fs := [.ref (m + 1), .ref (m + 2), .int (nI k), .ref (m + 3), .ref (m + 4), .int (nI len), .int (nI (a + j)), .int rs, .ref (m + 5)]) (ref := "CranePermitsModel") (C := RX5) (T := TX5) (N := 9) (ci := 5) (v := .ref (m + 4)) hx hb hts i_c_X5_number_X5 hown hK (hP 0 _ rfl) 4 (by decide) rfl (hts (.fieldLink RX5 19 "CranePermitsModel" "text" "[C") (List.mem_of_getElem? (i := 3) rfl)) rfl rfl dX5_number_52 ?_
        refine lv_aload_n hx hb dX5_number_55 rfl (lv_at hl 1 rfl) ?_
        refine z_get (fs := [.ref (m + 1), .ref (m + 2), .int (nI k), .ref (m + 3), .ref (m + 4), .int (nI len), .int (nI (a + j)), .int rs, .ref (m + 5)]) (ref := "CranePermitsModel") (C := RX5) (T := TX5) (N := 9) (ci := 5) (v := .int (nI (a + j))) hx hb hts i_c_X5_number_X5 hown hK (hP 0 _ rfl) 6 (by decide) rfl (hts (.fieldLink RX5 149 "CranePermitsModel" "at" "I") (List.mem_of_getElem? (i := 1) rfl)) rfl rfl dX5_number_56 ?_
        refine z_cald (f := tx) hx hb hK (hP 4 _ rfl) (by omega) (by decide) dX5_number_59 ?_
        refine lv_iadd hx hb dX5_number_60 ?_
        refine lv_bipush (v := (nI 48)) hx hb dX5_number_61 (by decide) ?_
        refine lv_isub hx hb dX5_number_63 ?_
        refine lv_istore_n (lv' := [(3, .int ((((nI 10) * (numV tx a j)) + (tx (a + j))) - (nI 48))), (0, .ref m), (1, .int (nI q)), (2, .int (nI a))]) hx hb dX5_number_64 rfl hl (by decide) rfl (fun ls hl => ?_)
        refine lv_aload_n hx hb dX5_number_65 rfl (lv_at hl 1 rfl) ?_
        refine lv_dup hx hb dX5_number_66 rfl ?_
        refine z_get (fs := [.ref (m + 1), .ref (m + 2), .int (nI k), .ref (m + 3), .ref (m + 4), .int (nI len), .int (nI (a + j)), .int rs, .ref (m + 5)]) (ref := "CranePermitsModel") (C := RX5) (T := TX5) (N := 9) (ci := 5) (v := .int (nI (a + j))) hx hb hts i_c_X5_number_X5 hown hK (hP 0 _ rfl) 6 (by decide) rfl (hts (.fieldLink RX5 149 "CranePermitsModel" "at" "I") (List.mem_of_getElem? (i := 1) rfl)) rfl rfl dX5_number_67 ?_
        refine lv_iconst (v := (nI 1)) hx hb dX5_number_70 (by decide) ?_
        refine z_iadd hx hb dX5_number_71 ?_
        refine y_put (a := m) (fs := [.ref (m + 1), .ref (m + 2), .int (nI k), .ref (m + 3), .ref (m + 4), .int (nI len), .int (nI (a + j)), .int rs, .ref (m + 5)]) (ref := "CranePermitsModel") (C := RX5) (T := TX5) (N := 9) (ci := 5) (v := .int (nI ((a + j) + 1))) (ty := .int) hx hb hts i_c_X5_number_X5 tyX5 tyX5_ok nmX5 hown hK (hP 0 _ rfl) 6 (by decide) rfl (hts (.fieldLink RX5 149 "CranePermitsModel" "at" "I") (List.mem_of_getElem? (i := 1) rfl)) rfl rfl (by decide +kernel) (rfl) rfl (Nat.le_of_ble_eq_true rfl) dX5_number_72 (fun H2 x1 hU hV => ?_)
        have hS := hS.upd (x := x1) hU (blk_in (by omega) (by omega))
        have hP : va_P D vwCl (mWs y m d was as tx gt (nI k) (nI len) (nI ((a + j) + 1)) rs) H2 := hP.upd (q0 := 0) mWs_D rfl hU hV
        clear hU hV
        refine lv_goto (tgt := 7) hx hb dX5_number_75 (by decide) ?_
        have hl := lv_repl (l' := [(3, .int (numV tx a (j + 1))), (0, .ref m), (1, .int (nI q)), (2, .int (nI a))]) hl 0 rfl (congrArg Value.int (show ((((nI 10) * (numV tx a j)) + (tx (a + j))) - (nI 48)) = (numV tx a (j + 1)) from rfl)) rfl
        exact ih_7 (j + 1) _ _ _ (by omega) ⟨hP, hS, by refine ⟨by omega, lt_sc hall ?_⟩; unfold digP; rw [decide_eq_true c15, c44]; rfl⟩ (lv_sub hl [0, 1, 2, 3] rfl)
