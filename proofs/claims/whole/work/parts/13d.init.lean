/-! CONSTRUCTORS: the reference -/
theorem i_c_X5_init_X5 : ∀ w ∈ wsX50, w ∈ wsX5_init := fun w h => (List.mem_cons_of_mem _ (List.mem_append_right _ h))
set_option maxRecDepth 100000 in
set_option maxHeartbeats 4000000 in
theorem c_X5_init (l : Launch) (D : va_G) (y : zY) (m : Nat)  : Met l yX5_init wsX5_init ({ frames := 1, cells := 5, slots := 8755, locals := 40 }) (zP [.ref m] (fun H => va_P D vwCl [(m, .inr (5, [.null, .null, .int 0, .null, .null, .int 0, .int 0, .int 0, .null]))] H ∧ H.size = m + 1) D y) (zW none (fun H => va_P D vwCl (mWs y m (iniD 120) (fun _ => 0) (fun _ => 0) (fun _ => 0) (fun _ => 0) (nI 0) (nI 0) (nI 0) (nI 0)) H ∧ H.size = m + 6) (blk m 6)) 5 8755 (blk m 6) := by
  refine z_body (cc := cX5_init) (maxL := 2) (ret := none) (la := [(0, .ref m)]) (by decide) rfl (Nat.le_of_ble_eq_true rfl) rfl ?_
  intro pg ev s mm below meth c0 ls hx hb hr hF hlocks hΦ hK hl hnm
  have hts := hF.2.2.2.2
  have hown : s.vm.findClass RX5 = some mm.cls := hF.2.2.2.1
  have hS : va_S (blk m 6) s.heap s.heap [] := va_S.rf
  obtain ⟨hP, hz⟩ := hΦ
  have hD : va_D (blk m 6) [(m, .inr (5, [.null, .null, .int 0, .null, .null, .int 0, .int 0, .int 0, .null]))] := va_D_one (blk_in (by omega) (by omega))
  refine lv_aload_n hx hb dX5_init_0 rfl (lv_at hl 0 rfl) ?_
  refine y_obj (a := m) hx hb (hF.2.2.1.trans hl.1.symm) hown (hts (.methodLink RX5 1 objectInit) (List.mem_of_getElem? (i := 1) rfl)) (hts (.instanceMethod objectInit) (List.mem_of_getElem? (i := 2) rfl)) (hts (.code objectInit ⟨#[0xb1]⟩ 1 none) (List.mem_of_getElem? (i := 3) rfl)) (by decide) (by decide) dX5_init_1 ?_
  refine lv_aload_n hx hb dX5_init_4 rfl (lv_at hl 0 rfl) ?_
  refine lv_sipush (v := (nI 1445)) hx hb dX5_init_5 (by decide) ?_
  refine y_newi (N := 1445) hx hb (hts (.arrayClass .int) (by decide +kernel)) hK (by decide) (by decide) (by decide) hz (by decide) (by decide) dX5_init_8 (fun H1 hz1 hk hV => ?_)
  have hD2 := hD.push (e := .inl (y.1, 1445, .inl (fun _ => 0))) hP hz.symm (blk_k (by decide))
  have hD : va_D (blk m 6) [(m, .inr (5, [.null, .null, .int 0, .null, .null, .int 0, .int 0, .int 0, .null])), (m + 1, .inl (y.1, 1445, .inl (fun _ => 0)))] := hD2
  have hP2 := (hP.grow hk).app (z_one hV)
  have hP : va_P D vwCl [(m, .inr (5, [.null, .null, .int 0, .null, .null, .int 0, .int 0, .int 0, .null])), (m + 1, .inl (y.1, 1445, .inl (fun _ => 0)))] H1 := hP2
  clear hD2 hP2
  have hS := hS.grow hz1 hk
  have hz : H1.size = m + 2 := hz1.trans (congrArg (fun n => n + 1) hz)
  clear hz1 hk hV
  refine y_putF (a := m) (fs := [.null, .null, .int 0, .null, .null, .int 0, .int 0, .int 0, .null]) (ref := "CranePermitsModel") (C := RX5) (T := TX5) (N := 9) (ci := 5) (v := .ref (m + 1)) (ty := (.array .int)) hx hb hts i_c_X5_init_X5 tyX5 tyX5_ok nmX5 hown hK (hP 0 _ rfl) 0 (by decide) rfl (hts (.fieldLink RX5 7 "CranePermitsModel" "d" "[I") (List.mem_of_getElem? (i := 5) rfl)) rfl rfl (hnm.trans rfl) rfl (by decide +kernel) (rfl) rfl (Nat.le_of_ble_eq_true rfl) dX5_init_10 (fun H2 x1 hU hV => ?_)
  have hS := hS.upd (x := x1) hU (blk_0 (by decide))
  have hP2 := hP.upd (q0 := 0) hD rfl hU hV
  have hP : va_P D vwCl [(m, .inr (5, [.ref (m + 1), .null, .int 0, .null, .null, .int 0, .int 0, .int 0, .null])), (m + 1, .inl (y.1, 1445, .inl (fun _ => 0)))] H2 := hP2
  have hD : va_D (blk m 6) [(m, .inr (5, [.ref (m + 1), .null, .int 0, .null, .null, .int 0, .int 0, .int 0, .null])), (m + 1, .inl (y.1, 1445, .inl (fun _ => 0)))] := hD.set (p := 0) rfl
  clear hP2
  have hz := hU.1.trans hz
  clear hU hV
  refine lv_aload_n hx hb dX5_init_13 rfl (lv_at hl 0 rfl) ?_
  refine lv_sipush (v := (nI 5780)) hx hb dX5_init_14 (by decide) ?_
  refine y_newi (N := 5780) hx hb (hts (.arrayClass .int) (by decide +kernel)) hK (by decide) (by decide) (by decide) hz (by decide) (by decide) dX5_init_17 (fun H3 hz1 hk hV => ?_)
  have hD2 := hD.push (e := .inl (y.1, 5780, .inl (fun _ => 0))) hP hz.symm (blk_k (by decide))
  have hD : va_D (blk m 6) [(m, .inr (5, [.ref (m + 1), .null, .int 0, .null, .null, .int 0, .int 0, .int 0, .null])), (m + 1, .inl (y.1, 1445, .inl (fun _ => 0))), (m + 2, .inl (y.1, 5780, .inl (fun _ => 0)))] := hD2
  have hP2 := (hP.grow hk).app (z_one hV)
  have hP : va_P D vwCl [(m, .inr (5, [.ref (m + 1), .null, .int 0, .null, .null, .int 0, .int 0, .int 0, .null])), (m + 1, .inl (y.1, 1445, .inl (fun _ => 0))), (m + 2, .inl (y.1, 5780, .inl (fun _ => 0)))] H3 := hP2
  clear hD2 hP2
  have hS := hS.grow hz1 hk
  have hz : H3.size = m + 3 := hz1.trans (congrArg (fun n => n + 1) hz)
  clear hz1 hk hV
  refine y_putF (a := m) (fs := [.ref (m + 1), .null, .int 0, .null, .null, .int 0, .int 0, .int 0, .null]) (ref := "CranePermitsModel") (C := RX5) (T := TX5) (N := 9) (ci := 5) (v := .ref (m + 2)) (ty := (.array .int)) hx hb hts i_c_X5_init_X5 tyX5 tyX5_ok nmX5 hown hK (hP 0 _ rfl) 1 (by decide) rfl (hts (.fieldLink RX5 13 "CranePermitsModel" "was" "[I") (List.mem_of_getElem? (i := 6) rfl)) rfl rfl (hnm.trans rfl) rfl (by decide +kernel) (rfl) rfl (Nat.le_of_ble_eq_true rfl) dX5_init_19 (fun H4 x1 hU hV => ?_)
  have hS := hS.upd (x := x1) hU (blk_0 (by decide))
  have hP2 := hP.upd (q0 := 0) hD rfl hU hV
  have hP : va_P D vwCl [(m, .inr (5, [.ref (m + 1), .ref (m + 2), .int 0, .null, .null, .int 0, .int 0, .int 0, .null])), (m + 1, .inl (y.1, 1445, .inl (fun _ => 0))), (m + 2, .inl (y.1, 5780, .inl (fun _ => 0)))] H4 := hP2
  have hD : va_D (blk m 6) [(m, .inr (5, [.ref (m + 1), .ref (m + 2), .int 0, .null, .null, .int 0, .int 0, .int 0, .null])), (m + 1, .inl (y.1, 1445, .inl (fun _ => 0))), (m + 2, .inl (y.1, 5780, .inl (fun _ => 0)))] := hD.set (p := 0) rfl
  clear hP2
  have hz := hU.1.trans hz
  clear hU hV
  refine lv_aload_n hx hb dX5_init_22 rfl (lv_at hl 0 rfl) ?_
  refine lv_sipush (v := (nI 1445)) hx hb dX5_init_23 (by decide) ?_
  refine y_newi (N := 1445) hx hb (hts (.arrayClass .int) (by decide +kernel)) hK (by decide) (by decide) (by decide) hz (by decide) (by decide) dX5_init_26 (fun H5 hz1 hk hV => ?_)
  have hD2 := hD.push (e := .inl (y.1, 1445, .inl (fun _ => 0))) hP hz.symm (blk_k (by decide))
  have hD : va_D (blk m 6) [(m, .inr (5, [.ref (m + 1), .ref (m + 2), .int 0, .null, .null, .int 0, .int 0, .int 0, .null])), (m + 1, .inl (y.1, 1445, .inl (fun _ => 0))), (m + 2, .inl (y.1, 5780, .inl (fun _ => 0))), (m + 3, .inl (y.1, 1445, .inl (fun _ => 0)))] := hD2
  have hP2 := (hP.grow hk).app (z_one hV)
  have hP : va_P D vwCl [(m, .inr (5, [.ref (m + 1), .ref (m + 2), .int 0, .null, .null, .int 0, .int 0, .int 0, .null])), (m + 1, .inl (y.1, 1445, .inl (fun _ => 0))), (m + 2, .inl (y.1, 5780, .inl (fun _ => 0))), (m + 3, .inl (y.1, 1445, .inl (fun _ => 0)))] H5 := hP2
  clear hD2 hP2
  have hS := hS.grow hz1 hk
  have hz : H5.size = m + 4 := hz1.trans (congrArg (fun n => n + 1) hz)
  clear hz1 hk hV
  refine y_putF (a := m) (fs := [.ref (m + 1), .ref (m + 2), .int 0, .null, .null, .int 0, .int 0, .int 0, .null]) (ref := "CranePermitsModel") (C := RX5) (T := TX5) (N := 9) (ci := 5) (v := .ref (m + 3)) (ty := (.array .int)) hx hb hts i_c_X5_init_X5 tyX5 tyX5_ok nmX5 hown hK (hP 0 _ rfl) 3 (by decide) rfl (hts (.fieldLink RX5 16 "CranePermitsModel" "aside" "[I") (List.mem_of_getElem? (i := 7) rfl)) rfl rfl (hnm.trans rfl) rfl (by decide +kernel) (rfl) rfl (Nat.le_of_ble_eq_true rfl) dX5_init_28 (fun H6 x1 hU hV => ?_)
  have hS := hS.upd (x := x1) hU (blk_0 (by decide))
  have hP2 := hP.upd (q0 := 0) hD rfl hU hV
  have hP : va_P D vwCl [(m, .inr (5, [.ref (m + 1), .ref (m + 2), .int 0, .ref (m + 3), .null, .int 0, .int 0, .int 0, .null])), (m + 1, .inl (y.1, 1445, .inl (fun _ => 0))), (m + 2, .inl (y.1, 5780, .inl (fun _ => 0))), (m + 3, .inl (y.1, 1445, .inl (fun _ => 0)))] H6 := hP2
  have hD : va_D (blk m 6) [(m, .inr (5, [.ref (m + 1), .ref (m + 2), .int 0, .ref (m + 3), .null, .int 0, .int 0, .int 0, .null])), (m + 1, .inl (y.1, 1445, .inl (fun _ => 0))), (m + 2, .inl (y.1, 5780, .inl (fun _ => 0))), (m + 3, .inl (y.1, 1445, .inl (fun _ => 0)))] := hD.set (p := 0) rfl
  clear hP2
  have hz := hU.1.trans hz
  clear hU hV
  refine lv_aload_n hx hb dX5_init_31 rfl (lv_at hl 0 rfl) ?_
  refine lv_bipush (v := (nI 80)) hx hb dX5_init_32 (by decide) ?_
  refine y_newc (N := 80) hx hb (hts (.arrayClass .char) (by decide +kernel)) hK (by decide) (by decide) (by decide) hz (by decide) (by decide) dX5_init_34 (fun H7 hz1 hk hV => ?_)
  have hD2 := hD.push (e := .inl (y.2.1, 80, .inl (fun _ => 0))) hP hz.symm (blk_k (by decide))
  have hD : va_D (blk m 6) [(m, .inr (5, [.ref (m + 1), .ref (m + 2), .int 0, .ref (m + 3), .null, .int 0, .int 0, .int 0, .null])), (m + 1, .inl (y.1, 1445, .inl (fun _ => 0))), (m + 2, .inl (y.1, 5780, .inl (fun _ => 0))), (m + 3, .inl (y.1, 1445, .inl (fun _ => 0))), (m + 4, .inl (y.2.1, 80, .inl (fun _ => 0)))] := hD2
  have hP2 := (hP.grow hk).app (z_one hV)
  have hP : va_P D vwCl [(m, .inr (5, [.ref (m + 1), .ref (m + 2), .int 0, .ref (m + 3), .null, .int 0, .int 0, .int 0, .null])), (m + 1, .inl (y.1, 1445, .inl (fun _ => 0))), (m + 2, .inl (y.1, 5780, .inl (fun _ => 0))), (m + 3, .inl (y.1, 1445, .inl (fun _ => 0))), (m + 4, .inl (y.2.1, 80, .inl (fun _ => 0)))] H7 := hP2
  clear hD2 hP2
  have hS := hS.grow hz1 hk
  have hz : H7.size = m + 5 := hz1.trans (congrArg (fun n => n + 1) hz)
  clear hz1 hk hV
  refine y_putF (a := m) (fs := [.ref (m + 1), .ref (m + 2), .int 0, .ref (m + 3), .null, .int 0, .int 0, .int 0, .null]) (ref := "CranePermitsModel") (C := RX5) (T := TX5) (N := 9) (ci := 5) (v := .ref (m + 4)) (ty := (.array .char)) hx hb hts i_c_X5_init_X5 tyX5 tyX5_ok nmX5 hown hK (hP 0 _ rfl) 4 (by decide) rfl (hts (.fieldLink RX5 19 "CranePermitsModel" "text" "[C") (List.mem_of_getElem? (i := 9) rfl)) rfl rfl (hnm.trans rfl) rfl (by decide +kernel) (rfl) rfl (Nat.le_of_ble_eq_true rfl) dX5_init_36 (fun H8 x1 hU hV => ?_)
  have hS := hS.upd (x := x1) hU (blk_0 (by decide))
  have hP2 := hP.upd (q0 := 0) hD rfl hU hV
  have hP : va_P D vwCl [(m, .inr (5, [.ref (m + 1), .ref (m + 2), .int 0, .ref (m + 3), .ref (m + 4), .int 0, .int 0, .int 0, .null])), (m + 1, .inl (y.1, 1445, .inl (fun _ => 0))), (m + 2, .inl (y.1, 5780, .inl (fun _ => 0))), (m + 3, .inl (y.1, 1445, .inl (fun _ => 0))), (m + 4, .inl (y.2.1, 80, .inl (fun _ => 0)))] H8 := hP2
  have hD : va_D (blk m 6) [(m, .inr (5, [.ref (m + 1), .ref (m + 2), .int 0, .ref (m + 3), .ref (m + 4), .int 0, .int 0, .int 0, .null])), (m + 1, .inl (y.1, 1445, .inl (fun _ => 0))), (m + 2, .inl (y.1, 5780, .inl (fun _ => 0))), (m + 3, .inl (y.1, 1445, .inl (fun _ => 0))), (m + 4, .inl (y.2.1, 80, .inl (fun _ => 0)))] := hD.set (p := 0) rfl
  clear hP2
  have hz := hU.1.trans hz
  clear hU hV
  refine lv_aload_n hx hb dX5_init_39 rfl (lv_at hl 0 rfl) ?_
  refine lv_iconst (v := (nI 5)) hx hb dX5_init_40 (by decide) ?_
  refine y_newi (N := 5) hx hb (hts (.arrayClass .int) (by decide +kernel)) hK (by decide) (by decide) (by decide) hz (by decide) (by decide) dX5_init_41 (fun H9 hz1 hk hV => ?_)
  have hD2 := hD.push (e := .inl (y.1, 5, .inl (fun _ => 0))) hP hz.symm (blk_k (by decide))
  have hD : va_D (blk m 6) [(m, .inr (5, [.ref (m + 1), .ref (m + 2), .int 0, .ref (m + 3), .ref (m + 4), .int 0, .int 0, .int 0, .null])), (m + 1, .inl (y.1, 1445, .inl (fun _ => 0))), (m + 2, .inl (y.1, 5780, .inl (fun _ => 0))), (m + 3, .inl (y.1, 1445, .inl (fun _ => 0))), (m + 4, .inl (y.2.1, 80, .inl (fun _ => 0))), (m + 5, .inl (y.1, 5, .inl (fun _ => 0)))] := hD2
  have hP2 := (hP.grow hk).app (z_one hV)
  have hP : va_P D vwCl [(m, .inr (5, [.ref (m + 1), .ref (m + 2), .int 0, .ref (m + 3), .ref (m + 4), .int 0, .int 0, .int 0, .null])), (m + 1, .inl (y.1, 1445, .inl (fun _ => 0))), (m + 2, .inl (y.1, 5780, .inl (fun _ => 0))), (m + 3, .inl (y.1, 1445, .inl (fun _ => 0))), (m + 4, .inl (y.2.1, 80, .inl (fun _ => 0))), (m + 5, .inl (y.1, 5, .inl (fun _ => 0)))] H9 := hP2
  clear hD2 hP2
  have hS := hS.grow hz1 hk
  have hz : H9.size = m + 6 := hz1.trans (congrArg (fun n => n + 1) hz)
  clear hz1 hk hV
  refine y_putF (a := m) (fs := [.ref (m + 1), .ref (m + 2), .int 0, .ref (m + 3), .ref (m + 4), .int 0, .int 0, .int 0, .null]) (ref := "CranePermitsModel") (C := RX5) (T := TX5) (N := 9) (ci := 5) (v := .ref (m + 5)) (ty := (.array .int)) hx hb hts i_c_X5_init_X5 tyX5 tyX5_ok nmX5 hown hK (hP 0 _ rfl) 8 (by decide) rfl (hts (.fieldLink RX5 23 "CranePermitsModel" "got" "[I") (List.mem_of_getElem? (i := 10) rfl)) rfl rfl (hnm.trans rfl) rfl (by decide +kernel) (rfl) rfl (Nat.le_of_ble_eq_true rfl) dX5_init_43 (fun H10 x1 hU hV => ?_)
  have hS := hS.upd (x := x1) hU (blk_0 (by decide))
  have hP2 := hP.upd (q0 := 0) hD rfl hU hV
  have hP : va_P D vwCl [(m, .inr (5, [.ref (m + 1), .ref (m + 2), .int 0, .ref (m + 3), .ref (m + 4), .int 0, .int 0, .int 0, .ref (m + 5)])), (m + 1, .inl (y.1, 1445, .inl (fun _ => 0))), (m + 2, .inl (y.1, 5780, .inl (fun _ => 0))), (m + 3, .inl (y.1, 1445, .inl (fun _ => 0))), (m + 4, .inl (y.2.1, 80, .inl (fun _ => 0))), (m + 5, .inl (y.1, 5, .inl (fun _ => 0)))] H10 := hP2
  have hD : va_D (blk m 6) [(m, .inr (5, [.ref (m + 1), .ref (m + 2), .int 0, .ref (m + 3), .ref (m + 4), .int 0, .int 0, .int 0, .ref (m + 5)])), (m + 1, .inl (y.1, 1445, .inl (fun _ => 0))), (m + 2, .inl (y.1, 5780, .inl (fun _ => 0))), (m + 3, .inl (y.1, 1445, .inl (fun _ => 0))), (m + 4, .inl (y.2.1, 80, .inl (fun _ => 0))), (m + 5, .inl (y.1, 5, .inl (fun _ => 0)))] := hD.set (p := 0) rfl
  clear hP2
  have hz := hU.1.trans hz
  clear hU hV
  refine lv_aload_n hx hb dX5_init_46 rfl (lv_at hl 0 rfl) ?_
  refine z_get (fs := [.ref (m + 1), .ref (m + 2), .int 0, .ref (m + 3), .ref (m + 4), .int 0, .int 0, .int 0, .ref (m + 5)]) (ref := "CranePermitsModel") (C := RX5) (T := TX5) (N := 9) (ci := 5) (v := .ref (m + 1)) hx hb hts i_c_X5_init_X5 hown hK (hP 0 _ rfl) 0 (by decide) rfl (hts (.fieldLink RX5 7 "CranePermitsModel" "d" "[I") (List.mem_of_getElem? (i := 5) rfl)) rfl rfl dX5_init_47 ?_
  refine lv_iconst (v := (nI 1)) hx hb dX5_init_50 (by decide) ?_
  refine lv_bipush (v := (nI 100)) hx hb dX5_init_51 (by decide) ?_
  refine y_iast (a := (m + 1)) (f := (fun _ => 0)) (i := 1) hx hb hK (hP 1 _ rfl) (by omega) (by omega) dX5_init_53 (fun H11 hU hV => ?_)
  have hS := hS.upd (x := 1) hU (blk_k (by decide))
  have hP2 := hP.upd (q0 := 1) hD rfl hU hV
  have hP : va_P D vwCl [(m, .inr (5, [.ref (m + 1), .ref (m + 2), .int 0, .ref (m + 3), .ref (m + 4), .int 0, .int 0, .int 0, .ref (m + 5)])), (m + 1, .inl (y.1, 1445, .inl (upd (fun _ => 0) 1 (nI 100)))), (m + 2, .inl (y.1, 5780, .inl (fun _ => 0))), (m + 3, .inl (y.1, 1445, .inl (fun _ => 0))), (m + 4, .inl (y.2.1, 80, .inl (fun _ => 0))), (m + 5, .inl (y.1, 5, .inl (fun _ => 0)))] H11 := hP2
  have hD : va_D (blk m 6) [(m, .inr (5, [.ref (m + 1), .ref (m + 2), .int 0, .ref (m + 3), .ref (m + 4), .int 0, .int 0, .int 0, .ref (m + 5)])), (m + 1, .inl (y.1, 1445, .inl (upd (fun _ => 0) 1 (nI 100)))), (m + 2, .inl (y.1, 5780, .inl (fun _ => 0))), (m + 3, .inl (y.1, 1445, .inl (fun _ => 0))), (m + 4, .inl (y.2.1, 80, .inl (fun _ => 0))), (m + 5, .inl (y.1, 5, .inl (fun _ => 0)))] := hD.set (p := 1) rfl
  clear hP2
  have hz := hU.1.trans hz
  clear hU hV
  refine lv_aload_n hx hb dX5_init_54 rfl (lv_at hl 0 rfl) ?_
  refine z_get (fs := [.ref (m + 1), .ref (m + 2), .int 0, .ref (m + 3), .ref (m + 4), .int 0, .int 0, .int 0, .ref (m + 5)]) (ref := "CranePermitsModel") (C := RX5) (T := TX5) (N := 9) (ci := 5) (v := .ref (m + 1)) hx hb hts i_c_X5_init_X5 hown hK (hP 0 _ rfl) 0 (by decide) rfl (hts (.fieldLink RX5 7 "CranePermitsModel" "d" "[I") (List.mem_of_getElem? (i := 5) rfl)) rfl rfl dX5_init_55 ?_
  refine lv_iconst (v := (nI 2)) hx hb dX5_init_58 (by decide) ?_
  refine lv_bipush (v := (nI 40)) hx hb dX5_init_59 (by decide) ?_
  refine y_iast (a := (m + 1)) (f := (upd (fun _ => 0) 1 (nI 100))) (i := 2) hx hb hK (hP 1 _ rfl) (by omega) (by omega) dX5_init_61 (fun H12 hU hV => ?_)
  have hS := hS.upd (x := 2) hU (blk_k (by decide))
  have hP2 := hP.upd (q0 := 1) hD rfl hU hV
  have hP : va_P D vwCl [(m, .inr (5, [.ref (m + 1), .ref (m + 2), .int 0, .ref (m + 3), .ref (m + 4), .int 0, .int 0, .int 0, .ref (m + 5)])), (m + 1, .inl (y.1, 1445, .inl (upd (upd (fun _ => 0) 1 (nI 100)) 2 (nI 40)))), (m + 2, .inl (y.1, 5780, .inl (fun _ => 0))), (m + 3, .inl (y.1, 1445, .inl (fun _ => 0))), (m + 4, .inl (y.2.1, 80, .inl (fun _ => 0))), (m + 5, .inl (y.1, 5, .inl (fun _ => 0)))] H12 := hP2
  have hD : va_D (blk m 6) [(m, .inr (5, [.ref (m + 1), .ref (m + 2), .int 0, .ref (m + 3), .ref (m + 4), .int 0, .int 0, .int 0, .ref (m + 5)])), (m + 1, .inl (y.1, 1445, .inl (upd (upd (fun _ => 0) 1 (nI 100)) 2 (nI 40)))), (m + 2, .inl (y.1, 5780, .inl (fun _ => 0))), (m + 3, .inl (y.1, 1445, .inl (fun _ => 0))), (m + 4, .inl (y.2.1, 80, .inl (fun _ => 0))), (m + 5, .inl (y.1, 5, .inl (fun _ => 0)))] := hD.set (p := 1) rfl
  clear hP2
  have hz := hU.1.trans hz
  clear hU hV
  refine lv_aload_n hx hb dX5_init_62 rfl (lv_at hl 0 rfl) ?_
  refine z_get (fs := [.ref (m + 1), .ref (m + 2), .int 0, .ref (m + 3), .ref (m + 4), .int 0, .int 0, .int 0, .ref (m + 5)]) (ref := "CranePermitsModel") (C := RX5) (T := TX5) (N := 9) (ci := 5) (v := .ref (m + 1)) hx hb hts i_c_X5_init_X5 hown hK (hP 0 _ rfl) 0 (by decide) rfl (hts (.fieldLink RX5 7 "CranePermitsModel" "d" "[I") (List.mem_of_getElem? (i := 5) rfl)) rfl rfl dX5_init_63 ?_
  refine lv_iconst (v := (nI 3)) hx hb dX5_init_66 (by decide) ?_
  refine lv_iconst (v := (nI 5)) hx hb dX5_init_67 (by decide) ?_
  refine y_iast (a := (m + 1)) (f := (upd (upd (fun _ => 0) 1 (nI 100)) 2 (nI 40))) (i := 3) hx hb hK (hP 1 _ rfl) (by omega) (by omega) dX5_init_68 (fun H13 hU hV => ?_)
  have hS := hS.upd (x := 3) hU (blk_k (by decide))
  have hP2 := hP.upd (q0 := 1) hD rfl hU hV
  have hP : va_P D vwCl [(m, .inr (5, [.ref (m + 1), .ref (m + 2), .int 0, .ref (m + 3), .ref (m + 4), .int 0, .int 0, .int 0, .ref (m + 5)])), (m + 1, .inl (y.1, 1445, .inl (upd (upd (upd (fun _ => 0) 1 (nI 100)) 2 (nI 40)) 3 (nI 5)))), (m + 2, .inl (y.1, 5780, .inl (fun _ => 0))), (m + 3, .inl (y.1, 1445, .inl (fun _ => 0))), (m + 4, .inl (y.2.1, 80, .inl (fun _ => 0))), (m + 5, .inl (y.1, 5, .inl (fun _ => 0)))] H13 := hP2
  have hD : va_D (blk m 6) [(m, .inr (5, [.ref (m + 1), .ref (m + 2), .int 0, .ref (m + 3), .ref (m + 4), .int 0, .int 0, .int 0, .ref (m + 5)])), (m + 1, .inl (y.1, 1445, .inl (upd (upd (upd (fun _ => 0) 1 (nI 100)) 2 (nI 40)) 3 (nI 5)))), (m + 2, .inl (y.1, 5780, .inl (fun _ => 0))), (m + 3, .inl (y.1, 1445, .inl (fun _ => 0))), (m + 4, .inl (y.2.1, 80, .inl (fun _ => 0))), (m + 5, .inl (y.1, 5, .inl (fun _ => 0)))] := hD.set (p := 1) rfl
  clear hP2
  have hz := hU.1.trans hz
  clear hU hV
  refine lv_iconst (v := (nI 0)) hx hb dX5_init_69 (by decide) ?_
  refine lv_istore_n (lv' := [(1, .int (nI 0)), (0, .ref m)]) hx hb dX5_init_70 rfl hl (by decide) rfl (fun ls hl => ?_)
  refine z_loopW (S := Nat) (nL := 2) (fun (i : Nat) => 120 - i) (fun (i : Nat) => [(1, .int (nI i)), (0, .ref m)]) (fun (i : Nat) (H : Heap) (locs : List Loc) => va_P D vwCl [(m, .inr (5, [.ref (m + 1), .ref (m + 2), .int 0, .ref (m + 3), .ref (m + 4), .int 0, .int 0, .int 0, .ref (m + 5)])), (m + 1, .inl (y.1, 1445, .inl (iniD i))), (m + 2, .inl (y.1, 5780, .inl (fun _ => 0))), (m + 3, .inl (y.1, 1445, .inl (fun _ => 0))), (m + 4, .inl (y.2.1, 80, .inl (fun _ => 0))), (m + 5, .inl (y.1, 5, .inl (fun _ => 0)))] H ∧ va_S (blk m 6) s.heap H locs ∧ (i ≤ 120 ∧ H.size = m + 6)) 0 ⟨by rw [ini_z]; exact hP, hS, ⟨by omega, hz⟩⟩ (lv_sub hl [0, 1] rfl) ?_
  clear hl hP hS
  rintro i H14 locs ls ⟨hP, hS, hI_71⟩ hl ih_71
  obtain ⟨hi, hz⟩ := hI_71
  have hD : va_D (blk m 6) [(m, .inr (5, [.ref (m + 1), .ref (m + 2), .int 0, .ref (m + 3), .ref (m + 4), .int 0, .int 0, .int 0, .ref (m + 5)])), (m + 1, .inl (y.1, 1445, .inl (iniD i))), (m + 2, .inl (y.1, 5780, .inl (fun _ => 0))), (m + 3, .inl (y.1, 1445, .inl (fun _ => 0))), (m + 4, .inl (y.2.1, 80, .inl (fun _ => 0))), (m + 5, .inl (y.1, 5, .inl (fun _ => 0)))] := hD.set (p := 1) rfl
  refine lv_iload_n hx hb dX5_init_71 rfl (lv_at hl 0 rfl) ?_
  refine lv_bipush (v := (nI 120)) hx hb dX5_init_72 (by decide) ?_
  refine z_ge (tgt := 93) hx hb (by omega) (by omega) dX5_init_74 (by decide) (fun c74 => ?_) (fun c74 => ?_)
  · exact w_retv hx hb hr hlocks hS (⟨by rw [show i = 120 by omega] at hP; exact hP, hz⟩) dX5_init_93
  · refine lv_aload_n hx hb dX5_init_77 rfl (lv_at hl 1 rfl) ?_
    refine z_get (fs := [.ref (m + 1), .ref (m + 2), .int 0, .ref (m + 3), .ref (m + 4), .int 0, .int 0, .int 0, .ref (m + 5)]) (ref := "CranePermitsModel") (C := RX5) (T := TX5) (N := 9) (ci := 5) (v := .ref (m + 1)) hx hb hts i_c_X5_init_X5 hown hK (hP 0 _ rfl) 0 (by decide) rfl (hts (.fieldLink RX5 7 "CranePermitsModel" "d" "[I") (List.mem_of_getElem? (i := 5) rfl)) rfl rfl dX5_init_78 ?_
    refine lv_bipush (v := (nI 82)) hx hb dX5_init_81 (by decide) ?_
    refine lv_iload_n hx hb dX5_init_83 rfl (lv_at hl 0 rfl) ?_
    refine z_iadd hx hb dX5_init_84 ?_
    refine lv_iconst (v := (-1)) hx hb dX5_init_85 (by decide) ?_
    refine y_iast (a := (m + 1)) (f := (iniD i)) (i := (82 + i)) hx hb hK (hP 1 _ rfl) (by omega) (by omega) dX5_init_86 (fun H15 hU hV => ?_)
    have hS := hS.upd (x := (82 + i)) hU (blk_k (by decide))
    have hP2 := hP.upd (q0 := 1) hD rfl hU hV
    have hP : va_P D vwCl [(m, .inr (5, [.ref (m + 1), .ref (m + 2), .int 0, .ref (m + 3), .ref (m + 4), .int 0, .int 0, .int 0, .ref (m + 5)])), (m + 1, .inl (y.1, 1445, .inl (upd (iniD i) (82 + i) (-1)))), (m + 2, .inl (y.1, 5780, .inl (fun _ => 0))), (m + 3, .inl (y.1, 1445, .inl (fun _ => 0))), (m + 4, .inl (y.2.1, 80, .inl (fun _ => 0))), (m + 5, .inl (y.1, 5, .inl (fun _ => 0)))] H15 := hP2
    have hD : va_D (blk m 6) [(m, .inr (5, [.ref (m + 1), .ref (m + 2), .int 0, .ref (m + 3), .ref (m + 4), .int 0, .int 0, .int 0, .ref (m + 5)])), (m + 1, .inl (y.1, 1445, .inl (upd (iniD i) (82 + i) (-1)))), (m + 2, .inl (y.1, 5780, .inl (fun _ => 0))), (m + 3, .inl (y.1, 1445, .inl (fun _ => 0))), (m + 4, .inl (y.2.1, 80, .inl (fun _ => 0))), (m + 5, .inl (y.1, 5, .inl (fun _ => 0)))] := hD.set (p := 1) rfl
    clear hP2
    have hz := hU.1.trans hz
    clear hU hV
    refine lv_iinc (v := (nI (i + 1))) (lv' := [(1, .int (nI (i + 1))), (0, .ref m)]) hx hb dX5_init_87 hl (k := 0) rfl (in1 _) (by decide) rfl (fun ls hl => ?_)
    refine lv_goto (tgt := 71) hx hb dX5_init_90 (by decide) ?_
    exact ih_71 (i + 1) _ _ _ (by omega) ⟨by rw [ini_s] at hP; exact hP, hS, ⟨by omega, hz⟩⟩ (lv_sub hl [0, 1] rfl)
