/-! CONSTRUCTORS: a site -/
theorem i_c_X2_init_X2 : ∀ w ∈ wsX20, w ∈ wsX2_init := fun w h => (List.mem_cons_of_mem _ (List.mem_append_right _ h))
set_option maxRecDepth 100000 in
set_option maxHeartbeats 4000000 in
theorem c_X2_init (l : Launch) (D : va_G) (y : zY) (a : Nat) (bd : Nat) (ca : Nat → Nat) (pa : Nat → Nat) (pk : Nat → Nat)  : Met l yX2_init wsX2_init ({ frames := 1, cells := 10, slots := 833, locals := 40 }) (zP [.ref a] (fun H => va_P D vwCl [(a, .inr (2, [.null, .int 0, .null, .null, .null, .null, .null, .null, .null, .int 0, .null, .null, .int 0]))] H ∧ H.size = a + 1) D y) (zW none (fun H => sD D y bd a (iniD 120) ca pa pk H ∧ H.size = a + 11) (blk a 11)) 10 833 (blk a 11) := by
  refine z_body (cc := cX2_init) (maxL := 1) (ret := none) (la := [(0, .ref a)]) (by decide) rfl (Nat.le_of_ble_eq_true rfl) rfl ?_
  intro pg ev s mm below meth c0 ls hx hb hr hF hlocks hΦ hK hl hnm
  have hts := hF.2.2.2.2
  have hown : s.vm.findClass RX2 = some mm.cls := hF.2.2.2.1
  have hS : va_S (blk a 11) s.heap s.heap [] := va_S.rf
  obtain ⟨hP, hz⟩ := hΦ
  have hD : va_D (blk a 11) [(a, .inr (2, [.null, .int 0, .null, .null, .null, .null, .null, .null, .null, .int 0, .null, .null, .int 0]))] := va_D_one (blk_in (by omega) (by omega))
  refine lv_aload_n hx hb dX2_init_0 rfl (lv_at hl 0 rfl) ?_
  refine y_obj (a := a) hx hb (hF.2.2.1.trans hl.1.symm) hown (hts (.methodLink RX2 3 objectInit) (List.mem_of_getElem? (i := 1) rfl)) (hts (.instanceMethod objectInit) (List.mem_of_getElem? (i := 2) rfl)) (hts (.code objectInit ⟨#[0xb1]⟩ 1 none) (List.mem_of_getElem? (i := 3) rfl)) (by decide) (by decide) dX2_init_1 ?_
  refine lv_aload_n hx hb dX2_init_4 rfl (lv_at hl 0 rfl) ?_
  refine lv_bipush (v := (nI 8)) hx hb dX2_init_5 (by decide) ?_
  refine y_newq (k := 3) (N := 8) hx hb rfl hown (hts (.classLink RX2 9 RX0) (List.mem_of_getElem? (i := 4) rfl)) hK.2.2.2.2.2.2.1 hK (by decide) (by decide) (by decide) hz (by decide) (by decide) dX2_init_7 (fun H1 hz1 hk hV => ?_)
  have hD2 := hD.push (e := .inl (y.2.2.2.1, 8, .inr (.inr (.inr (.inr (fun _ => none)))))) hP hz.symm (blk_k (by decide))
  have hD : va_D (blk a 11) [(a, .inr (2, [.null, .int 0, .null, .null, .null, .null, .null, .null, .null, .int 0, .null, .null, .int 0])), (a + 1, .inl (y.2.2.2.1, 8, .inr (.inr (.inr (.inr (fun _ => none))))))] := hD2
  have hP2 := (hP.grow hk).app (z_one hV)
  have hP : va_P D vwCl [(a, .inr (2, [.null, .int 0, .null, .null, .null, .null, .null, .null, .null, .int 0, .null, .null, .int 0])), (a + 1, .inl (y.2.2.2.1, 8, .inr (.inr (.inr (.inr (fun _ => none))))))] H1 := hP2
  clear hD2 hP2
  have hS := hS.grow hz1 hk
  have hz : H1.size = a + 2 := hz1.trans (congrArg (fun n => n + 1) hz)
  clear hz1 hk hV
  refine y_putF (a := a) (fs := [.null, .int 0, .null, .null, .null, .null, .null, .null, .null, .int 0, .null, .null, .int 0]) (ref := "CranePermits$Site") (C := RX2) (T := TX2) (N := 13) (ci := 2) (v := .ref (a + 1)) (ty := (.array (.object "CranePermits$Crane"))) hx hb hts i_c_X2_init_X2 tyX2 tyX2_ok nmX2 hown hK (hP 0 _ rfl) 0 (by decide) rfl (hts (.fieldLink RX2 11 "CranePermits$Site" "cranes" "[LCranePermits$Crane;") (List.mem_of_getElem? (i := 5) rfl)) rfl rfl (hnm.trans rfl) rfl (by decide +kernel) (rfl) rfl (Nat.le_of_ble_eq_true rfl) dX2_init_10 (fun H2 x1 hU hV => ?_)
  have hS := hS.upd (x := x1) hU (blk_0 (by decide))
  have hP2 := hP.upd (q0 := 0) hD rfl hU hV
  have hP : va_P D vwCl [(a, .inr (2, [.ref (a + 1), .int 0, .null, .null, .null, .null, .null, .null, .null, .int 0, .null, .null, .int 0])), (a + 1, .inl (y.2.2.2.1, 8, .inr (.inr (.inr (.inr (fun _ => none))))))] H2 := hP2
  have hD : va_D (blk a 11) [(a, .inr (2, [.ref (a + 1), .int 0, .null, .null, .null, .null, .null, .null, .null, .int 0, .null, .null, .int 0])), (a + 1, .inl (y.2.2.2.1, 8, .inr (.inr (.inr (.inr (fun _ => none))))))] := hD.set (p := 0) rfl
  clear hP2
  have hz := hU.1.trans hz
  clear hU hV
  refine lv_aload_n hx hb dX2_init_13 rfl (lv_at hl 0 rfl) ?_
  refine lv_iconst (v := (nI 0)) hx hb dX2_init_14 (by decide) ?_
  refine y_put (a := a) (fs := [.ref (a + 1), .int 0, .null, .null, .null, .null, .null, .null, .null, .int 0, .null, .null, .int 0]) (ref := "CranePermits$Site") (C := RX2) (T := TX2) (N := 13) (ci := 2) (v := .int (nI 0)) (ty := .int) hx hb hts i_c_X2_init_X2 tyX2 tyX2_ok nmX2 hown hK (hP 0 _ rfl) 1 (by decide) rfl (hts (.fieldLink RX2 17 "CranePermits$Site" "craneCount" "I") (List.mem_of_getElem? (i := 6) rfl)) rfl rfl (by decide +kernel) (rfl) rfl (Nat.le_of_ble_eq_true rfl) dX2_init_15 (fun H3 x1 hU hV => ?_)
  have hS := hS.upd (x := x1) hU (blk_0 (by decide))
  have hP2 := hP.upd (q0 := 0) hD rfl hU hV
  have hP : va_P D vwCl [(a, .inr (2, [.ref (a + 1), .int (nI 0), .null, .null, .null, .null, .null, .null, .null, .int 0, .null, .null, .int 0])), (a + 1, .inl (y.2.2.2.1, 8, .inr (.inr (.inr (.inr (fun _ => none))))))] H3 := hP2
  have hD : va_D (blk a 11) [(a, .inr (2, [.ref (a + 1), .int (nI 0), .null, .null, .null, .null, .null, .null, .null, .int 0, .null, .null, .int 0])), (a + 1, .inl (y.2.2.2.1, 8, .inr (.inr (.inr (.inr (fun _ => none))))))] := hD.set (p := 0) rfl
  clear hP2
  have hz := hU.1.trans hz
  clear hU hV
  refine lv_aload_n hx hb dX2_init_18 rfl (lv_at hl 0 rfl) ?_
  refine lv_bipush (v := (nI 8)) hx hb dX2_init_19 (by decide) ?_
  refine y_newi (N := 8) hx hb (hts (.arrayClass .int) (by decide +kernel)) hK (by decide) (by decide) (by decide) hz (by decide) (by decide) dX2_init_21 (fun H4 hz1 hk hV => ?_)
  have hD2 := hD.push (e := .inl (y.1, 8, .inl (fun _ => 0))) hP hz.symm (blk_k (by decide))
  have hD : va_D (blk a 11) [(a, .inr (2, [.ref (a + 1), .int (nI 0), .null, .null, .null, .null, .null, .null, .null, .int 0, .null, .null, .int 0])), (a + 1, .inl (y.2.2.2.1, 8, .inr (.inr (.inr (.inr (fun _ => none)))))), (a + 2, .inl (y.1, 8, .inl (fun _ => 0)))] := hD2
  have hP2 := (hP.grow hk).app (z_one hV)
  have hP : va_P D vwCl [(a, .inr (2, [.ref (a + 1), .int (nI 0), .null, .null, .null, .null, .null, .null, .null, .int 0, .null, .null, .int 0])), (a + 1, .inl (y.2.2.2.1, 8, .inr (.inr (.inr (.inr (fun _ => none)))))), (a + 2, .inl (y.1, 8, .inl (fun _ => 0)))] H4 := hP2
  clear hD2 hP2
  have hS := hS.grow hz1 hk
  have hz : H4.size = a + 3 := hz1.trans (congrArg (fun n => n + 1) hz)
  clear hz1 hk hV
  refine y_putF (a := a) (fs := [.ref (a + 1), .int (nI 0), .null, .null, .null, .null, .null, .null, .null, .int 0, .null, .null, .int 0]) (ref := "CranePermits$Site") (C := RX2) (T := TX2) (N := 13) (ci := 2) (v := .ref (a + 2)) (ty := (.array .int)) hx hb hts i_c_X2_init_X2 tyX2 tyX2_ok nmX2 hown hK (hP 0 _ rfl) 2 (by decide) rfl (hts (.fieldLink RX2 21 "CranePermits$Site" "noises" "[I") (List.mem_of_getElem? (i := 8) rfl)) rfl rfl (hnm.trans rfl) rfl (by decide +kernel) (rfl) rfl (Nat.le_of_ble_eq_true rfl) dX2_init_23 (fun H5 x1 hU hV => ?_)
  have hS := hS.upd (x := x1) hU (blk_0 (by decide))
  have hP2 := hP.upd (q0 := 0) hD rfl hU hV
  have hP : va_P D vwCl [(a, .inr (2, [.ref (a + 1), .int (nI 0), .ref (a + 2), .null, .null, .null, .null, .null, .null, .int 0, .null, .null, .int 0])), (a + 1, .inl (y.2.2.2.1, 8, .inr (.inr (.inr (.inr (fun _ => none)))))), (a + 2, .inl (y.1, 8, .inl (fun _ => 0)))] H5 := hP2
  have hD : va_D (blk a 11) [(a, .inr (2, [.ref (a + 1), .int (nI 0), .ref (a + 2), .null, .null, .null, .null, .null, .null, .int 0, .null, .null, .int 0])), (a + 1, .inl (y.2.2.2.1, 8, .inr (.inr (.inr (.inr (fun _ => none)))))), (a + 2, .inl (y.1, 8, .inl (fun _ => 0)))] := hD.set (p := 0) rfl
  clear hP2
  have hz := hU.1.trans hz
  clear hU hV
  refine lv_aload_n hx hb dX2_init_26 rfl (lv_at hl 0 rfl) ?_
  refine lv_iconst (v := (nI 3)) hx hb dX2_init_27 (by decide) ?_
  refine y_newi (N := 3) hx hb (hts (.arrayClass .int) (by decide +kernel)) hK (by decide) (by decide) (by decide) hz (by decide) (by decide) dX2_init_28 (fun H6 hz1 hk hV => ?_)
  have hD2 := hD.push (e := .inl (y.1, 3, .inl (fun _ => 0))) hP hz.symm (blk_k (by decide))
  have hD : va_D (blk a 11) [(a, .inr (2, [.ref (a + 1), .int (nI 0), .ref (a + 2), .null, .null, .null, .null, .null, .null, .int 0, .null, .null, .int 0])), (a + 1, .inl (y.2.2.2.1, 8, .inr (.inr (.inr (.inr (fun _ => none)))))), (a + 2, .inl (y.1, 8, .inl (fun _ => 0))), (a + 3, .inl (y.1, 3, .inl (fun _ => 0)))] := hD2
  have hP2 := (hP.grow hk).app (z_one hV)
  have hP : va_P D vwCl [(a, .inr (2, [.ref (a + 1), .int (nI 0), .ref (a + 2), .null, .null, .null, .null, .null, .null, .int 0, .null, .null, .int 0])), (a + 1, .inl (y.2.2.2.1, 8, .inr (.inr (.inr (.inr (fun _ => none)))))), (a + 2, .inl (y.1, 8, .inl (fun _ => 0))), (a + 3, .inl (y.1, 3, .inl (fun _ => 0)))] H6 := hP2
  clear hD2 hP2
  have hS := hS.grow hz1 hk
  have hz : H6.size = a + 4 := hz1.trans (congrArg (fun n => n + 1) hz)
  clear hz1 hk hV
  refine lv_dup hx hb dX2_init_30 rfl ?_
  refine lv_iconst (v := (nI 0)) hx hb dX2_init_31 (by decide) ?_
  refine lv_bipush (v := (nI 100)) hx hb dX2_init_32 (by decide) ?_
  refine y_iast (a := (a + 3)) (f := (fun _ => 0)) (i := 0) hx hb hK (hP 3 _ rfl) (by omega) (by omega) dX2_init_34 (fun H7 hU hV => ?_)
  have hS := hS.upd (x := 0) hU (blk_k (by decide))
  have hP2 := hP.upd (q0 := 3) hD rfl hU hV
  have hP : va_P D vwCl [(a, .inr (2, [.ref (a + 1), .int (nI 0), .ref (a + 2), .null, .null, .null, .null, .null, .null, .int 0, .null, .null, .int 0])), (a + 1, .inl (y.2.2.2.1, 8, .inr (.inr (.inr (.inr (fun _ => none)))))), (a + 2, .inl (y.1, 8, .inl (fun _ => 0))), (a + 3, .inl (y.1, 3, .inl (upd (fun _ => 0) 0 (nI 100))))] H7 := hP2
  have hD : va_D (blk a 11) [(a, .inr (2, [.ref (a + 1), .int (nI 0), .ref (a + 2), .null, .null, .null, .null, .null, .null, .int 0, .null, .null, .int 0])), (a + 1, .inl (y.2.2.2.1, 8, .inr (.inr (.inr (.inr (fun _ => none)))))), (a + 2, .inl (y.1, 8, .inl (fun _ => 0))), (a + 3, .inl (y.1, 3, .inl (upd (fun _ => 0) 0 (nI 100))))] := hD.set (p := 3) rfl
  clear hP2
  have hz := hU.1.trans hz
  clear hU hV
  refine lv_dup hx hb dX2_init_35 rfl ?_
  refine lv_iconst (v := (nI 1)) hx hb dX2_init_36 (by decide) ?_
  refine lv_bipush (v := (nI 40)) hx hb dX2_init_37 (by decide) ?_
  refine y_iast (a := (a + 3)) (f := (upd (fun _ => 0) 0 (nI 100))) (i := 1) hx hb hK (hP 3 _ rfl) (by omega) (by omega) dX2_init_39 (fun H8 hU hV => ?_)
  have hS := hS.upd (x := 1) hU (blk_k (by decide))
  have hP2 := hP.upd (q0 := 3) hD rfl hU hV
  have hP : va_P D vwCl [(a, .inr (2, [.ref (a + 1), .int (nI 0), .ref (a + 2), .null, .null, .null, .null, .null, .null, .int 0, .null, .null, .int 0])), (a + 1, .inl (y.2.2.2.1, 8, .inr (.inr (.inr (.inr (fun _ => none)))))), (a + 2, .inl (y.1, 8, .inl (fun _ => 0))), (a + 3, .inl (y.1, 3, .inl (upd (upd (fun _ => 0) 0 (nI 100)) 1 (nI 40))))] H8 := hP2
  have hD : va_D (blk a 11) [(a, .inr (2, [.ref (a + 1), .int (nI 0), .ref (a + 2), .null, .null, .null, .null, .null, .null, .int 0, .null, .null, .int 0])), (a + 1, .inl (y.2.2.2.1, 8, .inr (.inr (.inr (.inr (fun _ => none)))))), (a + 2, .inl (y.1, 8, .inl (fun _ => 0))), (a + 3, .inl (y.1, 3, .inl (upd (upd (fun _ => 0) 0 (nI 100)) 1 (nI 40))))] := hD.set (p := 3) rfl
  clear hP2
  have hz := hU.1.trans hz
  clear hU hV
  refine lv_dup hx hb dX2_init_40 rfl ?_
  refine lv_iconst (v := (nI 2)) hx hb dX2_init_41 (by decide) ?_
  refine lv_iconst (v := (nI 5)) hx hb dX2_init_42 (by decide) ?_
  refine y_iast (a := (a + 3)) (f := (upd (upd (fun _ => 0) 0 (nI 100)) 1 (nI 40))) (i := 2) hx hb hK (hP 3 _ rfl) (by omega) (by omega) dX2_init_43 (fun H9 hU hV => ?_)
  have hS := hS.upd (x := 2) hU (blk_k (by decide))
  have hP2 := hP.upd (q0 := 3) hD rfl hU hV
  have hP : va_P D vwCl [(a, .inr (2, [.ref (a + 1), .int (nI 0), .ref (a + 2), .null, .null, .null, .null, .null, .null, .int 0, .null, .null, .int 0])), (a + 1, .inl (y.2.2.2.1, 8, .inr (.inr (.inr (.inr (fun _ => none)))))), (a + 2, .inl (y.1, 8, .inl (fun _ => 0))), (a + 3, .inl (y.1, 3, .inl (upd (upd (upd (fun _ => 0) 0 (nI 100)) 1 (nI 40)) 2 (nI 5))))] H9 := hP2
  have hD : va_D (blk a 11) [(a, .inr (2, [.ref (a + 1), .int (nI 0), .ref (a + 2), .null, .null, .null, .null, .null, .null, .int 0, .null, .null, .int 0])), (a + 1, .inl (y.2.2.2.1, 8, .inr (.inr (.inr (.inr (fun _ => none)))))), (a + 2, .inl (y.1, 8, .inl (fun _ => 0))), (a + 3, .inl (y.1, 3, .inl (upd (upd (upd (fun _ => 0) 0 (nI 100)) 1 (nI 40)) 2 (nI 5))))] := hD.set (p := 3) rfl
  clear hP2
  have hz := hU.1.trans hz
  clear hU hV
  refine y_putF (a := a) (fs := [.ref (a + 1), .int (nI 0), .ref (a + 2), .null, .null, .null, .null, .null, .null, .int 0, .null, .null, .int 0]) (ref := "CranePermits$Site") (C := RX2) (T := TX2) (N := 13) (ci := 2) (v := .ref (a + 3)) (ty := (.array .int)) hx hb hts i_c_X2_init_X2 tyX2 tyX2_ok nmX2 hown hK (hP 0 _ rfl) 3 (by decide) rfl (hts (.fieldLink RX2 25 "CranePermits$Site" "settings" "[I") (List.mem_of_getElem? (i := 9) rfl)) rfl rfl (hnm.trans rfl) rfl (by decide +kernel) (rfl) rfl (Nat.le_of_ble_eq_true rfl) dX2_init_44 (fun H10 x1 hU hV => ?_)
  have hS := hS.upd (x := x1) hU (blk_0 (by decide))
  have hP2 := hP.upd (q0 := 0) hD rfl hU hV
  have hP : va_P D vwCl [(a, .inr (2, [.ref (a + 1), .int (nI 0), .ref (a + 2), .ref (a + 3), .null, .null, .null, .null, .null, .int 0, .null, .null, .int 0])), (a + 1, .inl (y.2.2.2.1, 8, .inr (.inr (.inr (.inr (fun _ => none)))))), (a + 2, .inl (y.1, 8, .inl (fun _ => 0))), (a + 3, .inl (y.1, 3, .inl (upd (upd (upd (fun _ => 0) 0 (nI 100)) 1 (nI 40)) 2 (nI 5))))] H10 := hP2
  have hD : va_D (blk a 11) [(a, .inr (2, [.ref (a + 1), .int (nI 0), .ref (a + 2), .ref (a + 3), .null, .null, .null, .null, .null, .int 0, .null, .null, .int 0])), (a + 1, .inl (y.2.2.2.1, 8, .inr (.inr (.inr (.inr (fun _ => none)))))), (a + 2, .inl (y.1, 8, .inl (fun _ => 0))), (a + 3, .inl (y.1, 3, .inl (upd (upd (upd (fun _ => 0) 0 (nI 100)) 1 (nI 40)) 2 (nI 5))))] := hD.set (p := 0) rfl
  clear hP2
  have hz := hU.1.trans hz
  clear hU hV
  refine lv_aload_n hx hb dX2_init_47 rfl (lv_at hl 0 rfl) ?_
  refine lv_bipush (v := (nI 30)) hx hb dX2_init_48 (by decide) ?_
  refine y_newi (N := 30) hx hb (hts (.arrayClass .int) (by decide +kernel)) hK (by decide) (by decide) (by decide) hz (by decide) (by decide) dX2_init_50 (fun H11 hz1 hk hV => ?_)
  have hD2 := hD.push (e := .inl (y.1, 30, .inl (fun _ => 0))) hP hz.symm (blk_k (by decide))
  have hD : va_D (blk a 11) [(a, .inr (2, [.ref (a + 1), .int (nI 0), .ref (a + 2), .ref (a + 3), .null, .null, .null, .null, .null, .int 0, .null, .null, .int 0])), (a + 1, .inl (y.2.2.2.1, 8, .inr (.inr (.inr (.inr (fun _ => none)))))), (a + 2, .inl (y.1, 8, .inl (fun _ => 0))), (a + 3, .inl (y.1, 3, .inl (upd (upd (upd (fun _ => 0) 0 (nI 100)) 1 (nI 40)) 2 (nI 5)))), (a + 4, .inl (y.1, 30, .inl (fun _ => 0)))] := hD2
  have hP2 := (hP.grow hk).app (z_one hV)
  have hP : va_P D vwCl [(a, .inr (2, [.ref (a + 1), .int (nI 0), .ref (a + 2), .ref (a + 3), .null, .null, .null, .null, .null, .int 0, .null, .null, .int 0])), (a + 1, .inl (y.2.2.2.1, 8, .inr (.inr (.inr (.inr (fun _ => none)))))), (a + 2, .inl (y.1, 8, .inl (fun _ => 0))), (a + 3, .inl (y.1, 3, .inl (upd (upd (upd (fun _ => 0) 0 (nI 100)) 1 (nI 40)) 2 (nI 5)))), (a + 4, .inl (y.1, 30, .inl (fun _ => 0)))] H11 := hP2
  clear hD2 hP2
  have hS := hS.grow hz1 hk
  have hz : H11.size = a + 5 := hz1.trans (congrArg (fun n => n + 1) hz)
  clear hz1 hk hV
  refine y_putF (a := a) (fs := [.ref (a + 1), .int (nI 0), .ref (a + 2), .ref (a + 3), .null, .null, .null, .null, .null, .int 0, .null, .null, .int 0]) (ref := "CranePermits$Site") (C := RX2) (T := TX2) (N := 13) (ci := 2) (v := .ref (a + 4)) (ty := (.array .int)) hx hb hts i_c_X2_init_X2 tyX2 tyX2_ok nmX2 hown hK (hP 0 _ rfl) 4 (by decide) rfl (hts (.fieldLink RX2 28 "CranePermits$Site" "winds" "[I") (List.mem_of_getElem? (i := 10) rfl)) rfl rfl (hnm.trans rfl) rfl (by decide +kernel) (rfl) rfl (Nat.le_of_ble_eq_true rfl) dX2_init_52 (fun H12 x1 hU hV => ?_)
  have hS := hS.upd (x := x1) hU (blk_0 (by decide))
  have hP2 := hP.upd (q0 := 0) hD rfl hU hV
  have hP : va_P D vwCl [(a, .inr (2, [.ref (a + 1), .int (nI 0), .ref (a + 2), .ref (a + 3), .ref (a + 4), .null, .null, .null, .null, .int 0, .null, .null, .int 0])), (a + 1, .inl (y.2.2.2.1, 8, .inr (.inr (.inr (.inr (fun _ => none)))))), (a + 2, .inl (y.1, 8, .inl (fun _ => 0))), (a + 3, .inl (y.1, 3, .inl (upd (upd (upd (fun _ => 0) 0 (nI 100)) 1 (nI 40)) 2 (nI 5)))), (a + 4, .inl (y.1, 30, .inl (fun _ => 0)))] H12 := hP2
  have hD : va_D (blk a 11) [(a, .inr (2, [.ref (a + 1), .int (nI 0), .ref (a + 2), .ref (a + 3), .ref (a + 4), .null, .null, .null, .null, .int 0, .null, .null, .int 0])), (a + 1, .inl (y.2.2.2.1, 8, .inr (.inr (.inr (.inr (fun _ => none)))))), (a + 2, .inl (y.1, 8, .inl (fun _ => 0))), (a + 3, .inl (y.1, 3, .inl (upd (upd (upd (fun _ => 0) 0 (nI 100)) 1 (nI 40)) 2 (nI 5)))), (a + 4, .inl (y.1, 30, .inl (fun _ => 0)))] := hD.set (p := 0) rfl
  clear hP2
  have hz := hU.1.trans hz
  clear hU hV
  refine lv_aload_n hx hb dX2_init_55 rfl (lv_at hl 0 rfl) ?_
  refine lv_bipush (v := (nI 120)) hx hb dX2_init_56 (by decide) ?_
  refine y_newi (N := 120) hx hb (hts (.arrayClass .int) (by decide +kernel)) hK (by decide) (by decide) (by decide) hz (by decide) (by decide) dX2_init_58 (fun H13 hz1 hk hV => ?_)
  have hD2 := hD.push (e := .inl (y.1, 120, .inl (fun _ => 0))) hP hz.symm (blk_k (by decide))
  have hD : va_D (blk a 11) [(a, .inr (2, [.ref (a + 1), .int (nI 0), .ref (a + 2), .ref (a + 3), .ref (a + 4), .null, .null, .null, .null, .int 0, .null, .null, .int 0])), (a + 1, .inl (y.2.2.2.1, 8, .inr (.inr (.inr (.inr (fun _ => none)))))), (a + 2, .inl (y.1, 8, .inl (fun _ => 0))), (a + 3, .inl (y.1, 3, .inl (upd (upd (upd (fun _ => 0) 0 (nI 100)) 1 (nI 40)) 2 (nI 5)))), (a + 4, .inl (y.1, 30, .inl (fun _ => 0))), (a + 5, .inl (y.1, 120, .inl (fun _ => 0)))] := hD2
  have hP2 := (hP.grow hk).app (z_one hV)
  have hP : va_P D vwCl [(a, .inr (2, [.ref (a + 1), .int (nI 0), .ref (a + 2), .ref (a + 3), .ref (a + 4), .null, .null, .null, .null, .int 0, .null, .null, .int 0])), (a + 1, .inl (y.2.2.2.1, 8, .inr (.inr (.inr (.inr (fun _ => none)))))), (a + 2, .inl (y.1, 8, .inl (fun _ => 0))), (a + 3, .inl (y.1, 3, .inl (upd (upd (upd (fun _ => 0) 0 (nI 100)) 1 (nI 40)) 2 (nI 5)))), (a + 4, .inl (y.1, 30, .inl (fun _ => 0))), (a + 5, .inl (y.1, 120, .inl (fun _ => 0)))] H13 := hP2
  clear hD2 hP2
  have hS := hS.grow hz1 hk
  have hz : H13.size = a + 6 := hz1.trans (congrArg (fun n => n + 1) hz)
  clear hz1 hk hV
  refine y_putF (a := a) (fs := [.ref (a + 1), .int (nI 0), .ref (a + 2), .ref (a + 3), .ref (a + 4), .null, .null, .null, .null, .int 0, .null, .null, .int 0]) (ref := "CranePermits$Site") (C := RX2) (T := TX2) (N := 13) (ci := 2) (v := .ref (a + 5)) (ty := (.array .int)) hx hb hts i_c_X2_init_X2 tyX2 tyX2_ok nmX2 hown hK (hP 0 _ rfl) 5 (by decide) rfl (hts (.fieldLink RX2 31 "CranePermits$Site" "allowances" "[I") (List.mem_of_getElem? (i := 11) rfl)) rfl rfl (hnm.trans rfl) rfl (by decide +kernel) (rfl) rfl (Nat.le_of_ble_eq_true rfl) dX2_init_60 (fun H14 x1 hU hV => ?_)
  have hS := hS.upd (x := x1) hU (blk_0 (by decide))
  have hP2 := hP.upd (q0 := 0) hD rfl hU hV
  have hP : va_P D vwCl [(a, .inr (2, [.ref (a + 1), .int (nI 0), .ref (a + 2), .ref (a + 3), .ref (a + 4), .ref (a + 5), .null, .null, .null, .int 0, .null, .null, .int 0])), (a + 1, .inl (y.2.2.2.1, 8, .inr (.inr (.inr (.inr (fun _ => none)))))), (a + 2, .inl (y.1, 8, .inl (fun _ => 0))), (a + 3, .inl (y.1, 3, .inl (upd (upd (upd (fun _ => 0) 0 (nI 100)) 1 (nI 40)) 2 (nI 5)))), (a + 4, .inl (y.1, 30, .inl (fun _ => 0))), (a + 5, .inl (y.1, 120, .inl (fun _ => 0)))] H14 := hP2
  have hD : va_D (blk a 11) [(a, .inr (2, [.ref (a + 1), .int (nI 0), .ref (a + 2), .ref (a + 3), .ref (a + 4), .ref (a + 5), .null, .null, .null, .int 0, .null, .null, .int 0])), (a + 1, .inl (y.2.2.2.1, 8, .inr (.inr (.inr (.inr (fun _ => none)))))), (a + 2, .inl (y.1, 8, .inl (fun _ => 0))), (a + 3, .inl (y.1, 3, .inl (upd (upd (upd (fun _ => 0) 0 (nI 100)) 1 (nI 40)) 2 (nI 5)))), (a + 4, .inl (y.1, 30, .inl (fun _ => 0))), (a + 5, .inl (y.1, 120, .inl (fun _ => 0)))] := hD.set (p := 0) rfl
  clear hP2
  have hz := hU.1.trans hz
  clear hU hV
  refine lv_aload_n hx hb dX2_init_63 rfl (lv_at hl 0 rfl) ?_
  refine lv_bipush (v := (nI 120)) hx hb dX2_init_64 (by decide) ?_
  refine y_newi (N := 120) hx hb (hts (.arrayClass .int) (by decide +kernel)) hK (by decide) (by decide) (by decide) hz (by decide) (by decide) dX2_init_66 (fun H15 hz1 hk hV => ?_)
  have hD2 := hD.push (e := .inl (y.1, 120, .inl (fun _ => 0))) hP hz.symm (blk_k (by decide))
  have hD : va_D (blk a 11) [(a, .inr (2, [.ref (a + 1), .int (nI 0), .ref (a + 2), .ref (a + 3), .ref (a + 4), .ref (a + 5), .null, .null, .null, .int 0, .null, .null, .int 0])), (a + 1, .inl (y.2.2.2.1, 8, .inr (.inr (.inr (.inr (fun _ => none)))))), (a + 2, .inl (y.1, 8, .inl (fun _ => 0))), (a + 3, .inl (y.1, 3, .inl (upd (upd (upd (fun _ => 0) 0 (nI 100)) 1 (nI 40)) 2 (nI 5)))), (a + 4, .inl (y.1, 30, .inl (fun _ => 0))), (a + 5, .inl (y.1, 120, .inl (fun _ => 0))), (a + 6, .inl (y.1, 120, .inl (fun _ => 0)))] := hD2
  have hP2 := (hP.grow hk).app (z_one hV)
  have hP : va_P D vwCl [(a, .inr (2, [.ref (a + 1), .int (nI 0), .ref (a + 2), .ref (a + 3), .ref (a + 4), .ref (a + 5), .null, .null, .null, .int 0, .null, .null, .int 0])), (a + 1, .inl (y.2.2.2.1, 8, .inr (.inr (.inr (.inr (fun _ => none)))))), (a + 2, .inl (y.1, 8, .inl (fun _ => 0))), (a + 3, .inl (y.1, 3, .inl (upd (upd (upd (fun _ => 0) 0 (nI 100)) 1 (nI 40)) 2 (nI 5)))), (a + 4, .inl (y.1, 30, .inl (fun _ => 0))), (a + 5, .inl (y.1, 120, .inl (fun _ => 0))), (a + 6, .inl (y.1, 120, .inl (fun _ => 0)))] H15 := hP2
  clear hD2 hP2
  have hS := hS.grow hz1 hk
  have hz : H15.size = a + 7 := hz1.trans (congrArg (fun n => n + 1) hz)
  clear hz1 hk hV
  refine y_putF (a := a) (fs := [.ref (a + 1), .int (nI 0), .ref (a + 2), .ref (a + 3), .ref (a + 4), .ref (a + 5), .null, .null, .null, .int 0, .null, .null, .int 0]) (ref := "CranePermits$Site") (C := RX2) (T := TX2) (N := 13) (ci := 2) (v := .ref (a + 6)) (ty := (.array .int)) hx hb hts i_c_X2_init_X2 tyX2 tyX2_ok nmX2 hown hK (hP 0 _ rfl) 6 (by decide) rfl (hts (.fieldLink RX2 34 "CranePermits$Site" "received" "[I") (List.mem_of_getElem? (i := 12) rfl)) rfl rfl (hnm.trans rfl) rfl (by decide +kernel) (rfl) rfl (Nat.le_of_ble_eq_true rfl) dX2_init_68 (fun H16 x1 hU hV => ?_)
  have hS := hS.upd (x := x1) hU (blk_0 (by decide))
  have hP2 := hP.upd (q0 := 0) hD rfl hU hV
  have hP : va_P D vwCl [(a, .inr (2, [.ref (a + 1), .int (nI 0), .ref (a + 2), .ref (a + 3), .ref (a + 4), .ref (a + 5), .ref (a + 6), .null, .null, .int 0, .null, .null, .int 0])), (a + 1, .inl (y.2.2.2.1, 8, .inr (.inr (.inr (.inr (fun _ => none)))))), (a + 2, .inl (y.1, 8, .inl (fun _ => 0))), (a + 3, .inl (y.1, 3, .inl (upd (upd (upd (fun _ => 0) 0 (nI 100)) 1 (nI 40)) 2 (nI 5)))), (a + 4, .inl (y.1, 30, .inl (fun _ => 0))), (a + 5, .inl (y.1, 120, .inl (fun _ => 0))), (a + 6, .inl (y.1, 120, .inl (fun _ => 0)))] H16 := hP2
  have hD : va_D (blk a 11) [(a, .inr (2, [.ref (a + 1), .int (nI 0), .ref (a + 2), .ref (a + 3), .ref (a + 4), .ref (a + 5), .ref (a + 6), .null, .null, .int 0, .null, .null, .int 0])), (a + 1, .inl (y.2.2.2.1, 8, .inr (.inr (.inr (.inr (fun _ => none)))))), (a + 2, .inl (y.1, 8, .inl (fun _ => 0))), (a + 3, .inl (y.1, 3, .inl (upd (upd (upd (fun _ => 0) 0 (nI 100)) 1 (nI 40)) 2 (nI 5)))), (a + 4, .inl (y.1, 30, .inl (fun _ => 0))), (a + 5, .inl (y.1, 120, .inl (fun _ => 0))), (a + 6, .inl (y.1, 120, .inl (fun _ => 0)))] := hD.set (p := 0) rfl
  clear hP2
  have hz := hU.1.trans hz
  clear hU hV
  refine lv_aload_n hx hb dX2_init_71 rfl (lv_at hl 0 rfl) ?_
  refine lv_bipush (v := (nI 120)) hx hb dX2_init_72 (by decide) ?_
  refine y_newi (N := 120) hx hb (hts (.arrayClass .int) (by decide +kernel)) hK (by decide) (by decide) (by decide) hz (by decide) (by decide) dX2_init_74 (fun H17 hz1 hk hV => ?_)
  have hD2 := hD.push (e := .inl (y.1, 120, .inl (fun _ => 0))) hP hz.symm (blk_k (by decide))
  have hD : va_D (blk a 11) [(a, .inr (2, [.ref (a + 1), .int (nI 0), .ref (a + 2), .ref (a + 3), .ref (a + 4), .ref (a + 5), .ref (a + 6), .null, .null, .int 0, .null, .null, .int 0])), (a + 1, .inl (y.2.2.2.1, 8, .inr (.inr (.inr (.inr (fun _ => none)))))), (a + 2, .inl (y.1, 8, .inl (fun _ => 0))), (a + 3, .inl (y.1, 3, .inl (upd (upd (upd (fun _ => 0) 0 (nI 100)) 1 (nI 40)) 2 (nI 5)))), (a + 4, .inl (y.1, 30, .inl (fun _ => 0))), (a + 5, .inl (y.1, 120, .inl (fun _ => 0))), (a + 6, .inl (y.1, 120, .inl (fun _ => 0))), (a + 7, .inl (y.1, 120, .inl (fun _ => 0)))] := hD2
  have hP2 := (hP.grow hk).app (z_one hV)
  have hP : va_P D vwCl [(a, .inr (2, [.ref (a + 1), .int (nI 0), .ref (a + 2), .ref (a + 3), .ref (a + 4), .ref (a + 5), .ref (a + 6), .null, .null, .int 0, .null, .null, .int 0])), (a + 1, .inl (y.2.2.2.1, 8, .inr (.inr (.inr (.inr (fun _ => none)))))), (a + 2, .inl (y.1, 8, .inl (fun _ => 0))), (a + 3, .inl (y.1, 3, .inl (upd (upd (upd (fun _ => 0) 0 (nI 100)) 1 (nI 40)) 2 (nI 5)))), (a + 4, .inl (y.1, 30, .inl (fun _ => 0))), (a + 5, .inl (y.1, 120, .inl (fun _ => 0))), (a + 6, .inl (y.1, 120, .inl (fun _ => 0))), (a + 7, .inl (y.1, 120, .inl (fun _ => 0)))] H17 := hP2
  clear hD2 hP2
  have hS := hS.grow hz1 hk
  have hz : H17.size = a + 8 := hz1.trans (congrArg (fun n => n + 1) hz)
  clear hz1 hk hV
  refine y_putF (a := a) (fs := [.ref (a + 1), .int (nI 0), .ref (a + 2), .ref (a + 3), .ref (a + 4), .ref (a + 5), .ref (a + 6), .null, .null, .int 0, .null, .null, .int 0]) (ref := "CranePermits$Site") (C := RX2) (T := TX2) (N := 13) (ci := 2) (v := .ref (a + 7)) (ty := (.array .int)) hx hb hts i_c_X2_init_X2 tyX2 tyX2_ok nmX2 hown hK (hP 0 _ rfl) 7 (by decide) rfl (hts (.fieldLink RX2 37 "CranePermits$Site" "given" "[I") (List.mem_of_getElem? (i := 13) rfl)) rfl rfl (hnm.trans rfl) rfl (by decide +kernel) (rfl) rfl (Nat.le_of_ble_eq_true rfl) dX2_init_76 (fun H18 x1 hU hV => ?_)
  have hS := hS.upd (x := x1) hU (blk_0 (by decide))
  have hP2 := hP.upd (q0 := 0) hD rfl hU hV
  have hP : va_P D vwCl [(a, .inr (2, [.ref (a + 1), .int (nI 0), .ref (a + 2), .ref (a + 3), .ref (a + 4), .ref (a + 5), .ref (a + 6), .ref (a + 7), .null, .int 0, .null, .null, .int 0])), (a + 1, .inl (y.2.2.2.1, 8, .inr (.inr (.inr (.inr (fun _ => none)))))), (a + 2, .inl (y.1, 8, .inl (fun _ => 0))), (a + 3, .inl (y.1, 3, .inl (upd (upd (upd (fun _ => 0) 0 (nI 100)) 1 (nI 40)) 2 (nI 5)))), (a + 4, .inl (y.1, 30, .inl (fun _ => 0))), (a + 5, .inl (y.1, 120, .inl (fun _ => 0))), (a + 6, .inl (y.1, 120, .inl (fun _ => 0))), (a + 7, .inl (y.1, 120, .inl (fun _ => 0)))] H18 := hP2
  have hD : va_D (blk a 11) [(a, .inr (2, [.ref (a + 1), .int (nI 0), .ref (a + 2), .ref (a + 3), .ref (a + 4), .ref (a + 5), .ref (a + 6), .ref (a + 7), .null, .int 0, .null, .null, .int 0])), (a + 1, .inl (y.2.2.2.1, 8, .inr (.inr (.inr (.inr (fun _ => none)))))), (a + 2, .inl (y.1, 8, .inl (fun _ => 0))), (a + 3, .inl (y.1, 3, .inl (upd (upd (upd (fun _ => 0) 0 (nI 100)) 1 (nI 40)) 2 (nI 5)))), (a + 4, .inl (y.1, 30, .inl (fun _ => 0))), (a + 5, .inl (y.1, 120, .inl (fun _ => 0))), (a + 6, .inl (y.1, 120, .inl (fun _ => 0))), (a + 7, .inl (y.1, 120, .inl (fun _ => 0)))] := hD.set (p := 0) rfl
  clear hP2
  have hz := hU.1.trans hz
  clear hU hV
  refine lv_aload_n hx hb dX2_init_79 rfl (lv_at hl 0 rfl) ?_
  refine lv_sipush (v := (nI 200)) hx hb dX2_init_80 (by decide) ?_
  refine y_newq (k := 4) (N := 200) hx hb rfl hown (hts (.classLink RX2 40 RX1) (List.mem_of_getElem? (i := 14) rfl)) hK.2.2.2.2.2.2.2.1 hK (by decide) (by decide) (by decide) hz (by decide) (by decide) dX2_init_83 (fun H19 hz1 hk hV => ?_)
  have hD2 := hD.push (e := .inl (y.2.2.2.2.1, 200, .inr (.inr (.inr (.inr (fun _ => none)))))) hP hz.symm (blk_k (by decide))
  have hD : va_D (blk a 11) [(a, .inr (2, [.ref (a + 1), .int (nI 0), .ref (a + 2), .ref (a + 3), .ref (a + 4), .ref (a + 5), .ref (a + 6), .ref (a + 7), .null, .int 0, .null, .null, .int 0])), (a + 1, .inl (y.2.2.2.1, 8, .inr (.inr (.inr (.inr (fun _ => none)))))), (a + 2, .inl (y.1, 8, .inl (fun _ => 0))), (a + 3, .inl (y.1, 3, .inl (upd (upd (upd (fun _ => 0) 0 (nI 100)) 1 (nI 40)) 2 (nI 5)))), (a + 4, .inl (y.1, 30, .inl (fun _ => 0))), (a + 5, .inl (y.1, 120, .inl (fun _ => 0))), (a + 6, .inl (y.1, 120, .inl (fun _ => 0))), (a + 7, .inl (y.1, 120, .inl (fun _ => 0))), (a + 8, .inl (y.2.2.2.2.1, 200, .inr (.inr (.inr (.inr (fun _ => none))))))] := hD2
  have hP2 := (hP.grow hk).app (z_one hV)
  have hP : va_P D vwCl [(a, .inr (2, [.ref (a + 1), .int (nI 0), .ref (a + 2), .ref (a + 3), .ref (a + 4), .ref (a + 5), .ref (a + 6), .ref (a + 7), .null, .int 0, .null, .null, .int 0])), (a + 1, .inl (y.2.2.2.1, 8, .inr (.inr (.inr (.inr (fun _ => none)))))), (a + 2, .inl (y.1, 8, .inl (fun _ => 0))), (a + 3, .inl (y.1, 3, .inl (upd (upd (upd (fun _ => 0) 0 (nI 100)) 1 (nI 40)) 2 (nI 5)))), (a + 4, .inl (y.1, 30, .inl (fun _ => 0))), (a + 5, .inl (y.1, 120, .inl (fun _ => 0))), (a + 6, .inl (y.1, 120, .inl (fun _ => 0))), (a + 7, .inl (y.1, 120, .inl (fun _ => 0))), (a + 8, .inl (y.2.2.2.2.1, 200, .inr (.inr (.inr (.inr (fun _ => none))))))] H19 := hP2
  clear hD2 hP2
  have hS := hS.grow hz1 hk
  have hz : H19.size = a + 9 := hz1.trans (congrArg (fun n => n + 1) hz)
  clear hz1 hk hV
  refine y_putF (a := a) (fs := [.ref (a + 1), .int (nI 0), .ref (a + 2), .ref (a + 3), .ref (a + 4), .ref (a + 5), .ref (a + 6), .ref (a + 7), .null, .int 0, .null, .null, .int 0]) (ref := "CranePermits$Site") (C := RX2) (T := TX2) (N := 13) (ci := 2) (v := .ref (a + 8)) (ty := (.array (.object "CranePermits$Permit"))) hx hb hts i_c_X2_init_X2 tyX2 tyX2_ok nmX2 hown hK (hP 0 _ rfl) 8 (by decide) rfl (hts (.fieldLink RX2 42 "CranePermits$Site" "permits" "[LCranePermits$Permit;") (List.mem_of_getElem? (i := 15) rfl)) rfl rfl (hnm.trans rfl) rfl (by decide +kernel) (rfl) rfl (Nat.le_of_ble_eq_true rfl) dX2_init_86 (fun H20 x1 hU hV => ?_)
  have hS := hS.upd (x := x1) hU (blk_0 (by decide))
  have hP2 := hP.upd (q0 := 0) hD rfl hU hV
  have hP : va_P D vwCl [(a, .inr (2, [.ref (a + 1), .int (nI 0), .ref (a + 2), .ref (a + 3), .ref (a + 4), .ref (a + 5), .ref (a + 6), .ref (a + 7), .ref (a + 8), .int 0, .null, .null, .int 0])), (a + 1, .inl (y.2.2.2.1, 8, .inr (.inr (.inr (.inr (fun _ => none)))))), (a + 2, .inl (y.1, 8, .inl (fun _ => 0))), (a + 3, .inl (y.1, 3, .inl (upd (upd (upd (fun _ => 0) 0 (nI 100)) 1 (nI 40)) 2 (nI 5)))), (a + 4, .inl (y.1, 30, .inl (fun _ => 0))), (a + 5, .inl (y.1, 120, .inl (fun _ => 0))), (a + 6, .inl (y.1, 120, .inl (fun _ => 0))), (a + 7, .inl (y.1, 120, .inl (fun _ => 0))), (a + 8, .inl (y.2.2.2.2.1, 200, .inr (.inr (.inr (.inr (fun _ => none))))))] H20 := hP2
  have hD : va_D (blk a 11) [(a, .inr (2, [.ref (a + 1), .int (nI 0), .ref (a + 2), .ref (a + 3), .ref (a + 4), .ref (a + 5), .ref (a + 6), .ref (a + 7), .ref (a + 8), .int 0, .null, .null, .int 0])), (a + 1, .inl (y.2.2.2.1, 8, .inr (.inr (.inr (.inr (fun _ => none)))))), (a + 2, .inl (y.1, 8, .inl (fun _ => 0))), (a + 3, .inl (y.1, 3, .inl (upd (upd (upd (fun _ => 0) 0 (nI 100)) 1 (nI 40)) 2 (nI 5)))), (a + 4, .inl (y.1, 30, .inl (fun _ => 0))), (a + 5, .inl (y.1, 120, .inl (fun _ => 0))), (a + 6, .inl (y.1, 120, .inl (fun _ => 0))), (a + 7, .inl (y.1, 120, .inl (fun _ => 0))), (a + 8, .inl (y.2.2.2.2.1, 200, .inr (.inr (.inr (.inr (fun _ => none))))))] := hD.set (p := 0) rfl
  clear hP2
  have hz := hU.1.trans hz
  clear hU hV
  refine lv_aload_n hx hb dX2_init_89 rfl (lv_at hl 0 rfl) ?_
  refine lv_iconst (v := (nI 0)) hx hb dX2_init_90 (by decide) ?_
  refine y_put (a := a) (fs := [.ref (a + 1), .int (nI 0), .ref (a + 2), .ref (a + 3), .ref (a + 4), .ref (a + 5), .ref (a + 6), .ref (a + 7), .ref (a + 8), .int 0, .null, .null, .int 0]) (ref := "CranePermits$Site") (C := RX2) (T := TX2) (N := 13) (ci := 2) (v := .int (nI 0)) (ty := .int) hx hb hts i_c_X2_init_X2 tyX2 tyX2_ok nmX2 hown hK (hP 0 _ rfl) 9 (by decide) rfl (hts (.fieldLink RX2 46 "CranePermits$Site" "permitCount" "I") (List.mem_of_getElem? (i := 16) rfl)) rfl rfl (by decide +kernel) (rfl) rfl (Nat.le_of_ble_eq_true rfl) dX2_init_91 (fun H21 x1 hU hV => ?_)
  have hS := hS.upd (x := x1) hU (blk_0 (by decide))
  have hP2 := hP.upd (q0 := 0) hD rfl hU hV
  have hP : va_P D vwCl [(a, .inr (2, [.ref (a + 1), .int (nI 0), .ref (a + 2), .ref (a + 3), .ref (a + 4), .ref (a + 5), .ref (a + 6), .ref (a + 7), .ref (a + 8), .int (nI 0), .null, .null, .int 0])), (a + 1, .inl (y.2.2.2.1, 8, .inr (.inr (.inr (.inr (fun _ => none)))))), (a + 2, .inl (y.1, 8, .inl (fun _ => 0))), (a + 3, .inl (y.1, 3, .inl (upd (upd (upd (fun _ => 0) 0 (nI 100)) 1 (nI 40)) 2 (nI 5)))), (a + 4, .inl (y.1, 30, .inl (fun _ => 0))), (a + 5, .inl (y.1, 120, .inl (fun _ => 0))), (a + 6, .inl (y.1, 120, .inl (fun _ => 0))), (a + 7, .inl (y.1, 120, .inl (fun _ => 0))), (a + 8, .inl (y.2.2.2.2.1, 200, .inr (.inr (.inr (.inr (fun _ => none))))))] H21 := hP2
  have hD : va_D (blk a 11) [(a, .inr (2, [.ref (a + 1), .int (nI 0), .ref (a + 2), .ref (a + 3), .ref (a + 4), .ref (a + 5), .ref (a + 6), .ref (a + 7), .ref (a + 8), .int (nI 0), .null, .null, .int 0])), (a + 1, .inl (y.2.2.2.1, 8, .inr (.inr (.inr (.inr (fun _ => none)))))), (a + 2, .inl (y.1, 8, .inl (fun _ => 0))), (a + 3, .inl (y.1, 3, .inl (upd (upd (upd (fun _ => 0) 0 (nI 100)) 1 (nI 40)) 2 (nI 5)))), (a + 4, .inl (y.1, 30, .inl (fun _ => 0))), (a + 5, .inl (y.1, 120, .inl (fun _ => 0))), (a + 6, .inl (y.1, 120, .inl (fun _ => 0))), (a + 7, .inl (y.1, 120, .inl (fun _ => 0))), (a + 8, .inl (y.2.2.2.2.1, 200, .inr (.inr (.inr (.inr (fun _ => none))))))] := hD.set (p := 0) rfl
  clear hP2
  have hz := hU.1.trans hz
  clear hU hV
  refine lv_aload_n hx hb dX2_init_94 rfl (lv_at hl 0 rfl) ?_
  refine lv_sipush (v := (nI 200)) hx hb dX2_init_95 (by decide) ?_
  refine y_newi (N := 200) hx hb (hts (.arrayClass .int) (by decide +kernel)) hK (by decide) (by decide) (by decide) hz (by decide) (by decide) dX2_init_98 (fun H22 hz1 hk hV => ?_)
  have hD2 := hD.push (e := .inl (y.1, 200, .inl (fun _ => 0))) hP hz.symm (blk_k (by decide))
  have hD : va_D (blk a 11) [(a, .inr (2, [.ref (a + 1), .int (nI 0), .ref (a + 2), .ref (a + 3), .ref (a + 4), .ref (a + 5), .ref (a + 6), .ref (a + 7), .ref (a + 8), .int (nI 0), .null, .null, .int 0])), (a + 1, .inl (y.2.2.2.1, 8, .inr (.inr (.inr (.inr (fun _ => none)))))), (a + 2, .inl (y.1, 8, .inl (fun _ => 0))), (a + 3, .inl (y.1, 3, .inl (upd (upd (upd (fun _ => 0) 0 (nI 100)) 1 (nI 40)) 2 (nI 5)))), (a + 4, .inl (y.1, 30, .inl (fun _ => 0))), (a + 5, .inl (y.1, 120, .inl (fun _ => 0))), (a + 6, .inl (y.1, 120, .inl (fun _ => 0))), (a + 7, .inl (y.1, 120, .inl (fun _ => 0))), (a + 8, .inl (y.2.2.2.2.1, 200, .inr (.inr (.inr (.inr (fun _ => none)))))), (a + 9, .inl (y.1, 200, .inl (fun _ => 0)))] := hD2
  have hP2 := (hP.grow hk).app (z_one hV)
  have hP : va_P D vwCl [(a, .inr (2, [.ref (a + 1), .int (nI 0), .ref (a + 2), .ref (a + 3), .ref (a + 4), .ref (a + 5), .ref (a + 6), .ref (a + 7), .ref (a + 8), .int (nI 0), .null, .null, .int 0])), (a + 1, .inl (y.2.2.2.1, 8, .inr (.inr (.inr (.inr (fun _ => none)))))), (a + 2, .inl (y.1, 8, .inl (fun _ => 0))), (a + 3, .inl (y.1, 3, .inl (upd (upd (upd (fun _ => 0) 0 (nI 100)) 1 (nI 40)) 2 (nI 5)))), (a + 4, .inl (y.1, 30, .inl (fun _ => 0))), (a + 5, .inl (y.1, 120, .inl (fun _ => 0))), (a + 6, .inl (y.1, 120, .inl (fun _ => 0))), (a + 7, .inl (y.1, 120, .inl (fun _ => 0))), (a + 8, .inl (y.2.2.2.2.1, 200, .inr (.inr (.inr (.inr (fun _ => none)))))), (a + 9, .inl (y.1, 200, .inl (fun _ => 0)))] H22 := hP2
  clear hD2 hP2
  have hS := hS.grow hz1 hk
  have hz : H22.size = a + 10 := hz1.trans (congrArg (fun n => n + 1) hz)
  clear hz1 hk hV
  refine y_putF (a := a) (fs := [.ref (a + 1), .int (nI 0), .ref (a + 2), .ref (a + 3), .ref (a + 4), .ref (a + 5), .ref (a + 6), .ref (a + 7), .ref (a + 8), .int (nI 0), .null, .null, .int 0]) (ref := "CranePermits$Site") (C := RX2) (T := TX2) (N := 13) (ci := 2) (v := .ref (a + 9)) (ty := (.array .int)) hx hb hts i_c_X2_init_X2 tyX2 tyX2_ok nmX2 hown hK (hP 0 _ rfl) 10 (by decide) rfl (hts (.fieldLink RX2 49 "CranePermits$Site" "states" "[I") (List.mem_of_getElem? (i := 17) rfl)) rfl rfl (hnm.trans rfl) rfl (by decide +kernel) (rfl) rfl (Nat.le_of_ble_eq_true rfl) dX2_init_100 (fun H23 x1 hU hV => ?_)
  have hS := hS.upd (x := x1) hU (blk_0 (by decide))
  have hP2 := hP.upd (q0 := 0) hD rfl hU hV
  have hP : va_P D vwCl [(a, .inr (2, [.ref (a + 1), .int (nI 0), .ref (a + 2), .ref (a + 3), .ref (a + 4), .ref (a + 5), .ref (a + 6), .ref (a + 7), .ref (a + 8), .int (nI 0), .ref (a + 9), .null, .int 0])), (a + 1, .inl (y.2.2.2.1, 8, .inr (.inr (.inr (.inr (fun _ => none)))))), (a + 2, .inl (y.1, 8, .inl (fun _ => 0))), (a + 3, .inl (y.1, 3, .inl (upd (upd (upd (fun _ => 0) 0 (nI 100)) 1 (nI 40)) 2 (nI 5)))), (a + 4, .inl (y.1, 30, .inl (fun _ => 0))), (a + 5, .inl (y.1, 120, .inl (fun _ => 0))), (a + 6, .inl (y.1, 120, .inl (fun _ => 0))), (a + 7, .inl (y.1, 120, .inl (fun _ => 0))), (a + 8, .inl (y.2.2.2.2.1, 200, .inr (.inr (.inr (.inr (fun _ => none)))))), (a + 9, .inl (y.1, 200, .inl (fun _ => 0)))] H23 := hP2
  have hD : va_D (blk a 11) [(a, .inr (2, [.ref (a + 1), .int (nI 0), .ref (a + 2), .ref (a + 3), .ref (a + 4), .ref (a + 5), .ref (a + 6), .ref (a + 7), .ref (a + 8), .int (nI 0), .ref (a + 9), .null, .int 0])), (a + 1, .inl (y.2.2.2.1, 8, .inr (.inr (.inr (.inr (fun _ => none)))))), (a + 2, .inl (y.1, 8, .inl (fun _ => 0))), (a + 3, .inl (y.1, 3, .inl (upd (upd (upd (fun _ => 0) 0 (nI 100)) 1 (nI 40)) 2 (nI 5)))), (a + 4, .inl (y.1, 30, .inl (fun _ => 0))), (a + 5, .inl (y.1, 120, .inl (fun _ => 0))), (a + 6, .inl (y.1, 120, .inl (fun _ => 0))), (a + 7, .inl (y.1, 120, .inl (fun _ => 0))), (a + 8, .inl (y.2.2.2.2.1, 200, .inr (.inr (.inr (.inr (fun _ => none)))))), (a + 9, .inl (y.1, 200, .inl (fun _ => 0)))] := hD.set (p := 0) rfl
  clear hP2
  have hz := hU.1.trans hz
  clear hU hV
  refine lv_aload_n hx hb dX2_init_103 rfl (lv_at hl 0 rfl) ?_
  refine lv_bipush (v := (nI 24)) hx hb dX2_init_104 (by decide) ?_
  refine y_newq (k := 4) (N := 24) hx hb rfl hown (hts (.classLink RX2 40 RX1) (List.mem_of_getElem? (i := 14) rfl)) hK.2.2.2.2.2.2.2.1 hK (by decide) (by decide) (by decide) hz (by decide) (by decide) dX2_init_106 (fun H24 hz1 hk hV => ?_)
  have hD2 := hD.push (e := .inl (y.2.2.2.2.1, 24, .inr (.inr (.inr (.inr (fun _ => none)))))) hP hz.symm (blk_k (by decide))
  have hD : va_D (blk a 11) [(a, .inr (2, [.ref (a + 1), .int (nI 0), .ref (a + 2), .ref (a + 3), .ref (a + 4), .ref (a + 5), .ref (a + 6), .ref (a + 7), .ref (a + 8), .int (nI 0), .ref (a + 9), .null, .int 0])), (a + 1, .inl (y.2.2.2.1, 8, .inr (.inr (.inr (.inr (fun _ => none)))))), (a + 2, .inl (y.1, 8, .inl (fun _ => 0))), (a + 3, .inl (y.1, 3, .inl (upd (upd (upd (fun _ => 0) 0 (nI 100)) 1 (nI 40)) 2 (nI 5)))), (a + 4, .inl (y.1, 30, .inl (fun _ => 0))), (a + 5, .inl (y.1, 120, .inl (fun _ => 0))), (a + 6, .inl (y.1, 120, .inl (fun _ => 0))), (a + 7, .inl (y.1, 120, .inl (fun _ => 0))), (a + 8, .inl (y.2.2.2.2.1, 200, .inr (.inr (.inr (.inr (fun _ => none)))))), (a + 9, .inl (y.1, 200, .inl (fun _ => 0))), (a + 10, .inl (y.2.2.2.2.1, 24, .inr (.inr (.inr (.inr (fun _ => none))))))] := hD2
  have hP2 := (hP.grow hk).app (z_one hV)
  have hP : va_P D vwCl [(a, .inr (2, [.ref (a + 1), .int (nI 0), .ref (a + 2), .ref (a + 3), .ref (a + 4), .ref (a + 5), .ref (a + 6), .ref (a + 7), .ref (a + 8), .int (nI 0), .ref (a + 9), .null, .int 0])), (a + 1, .inl (y.2.2.2.1, 8, .inr (.inr (.inr (.inr (fun _ => none)))))), (a + 2, .inl (y.1, 8, .inl (fun _ => 0))), (a + 3, .inl (y.1, 3, .inl (upd (upd (upd (fun _ => 0) 0 (nI 100)) 1 (nI 40)) 2 (nI 5)))), (a + 4, .inl (y.1, 30, .inl (fun _ => 0))), (a + 5, .inl (y.1, 120, .inl (fun _ => 0))), (a + 6, .inl (y.1, 120, .inl (fun _ => 0))), (a + 7, .inl (y.1, 120, .inl (fun _ => 0))), (a + 8, .inl (y.2.2.2.2.1, 200, .inr (.inr (.inr (.inr (fun _ => none)))))), (a + 9, .inl (y.1, 200, .inl (fun _ => 0))), (a + 10, .inl (y.2.2.2.2.1, 24, .inr (.inr (.inr (.inr (fun _ => none))))))] H24 := hP2
  clear hD2 hP2
  have hS := hS.grow hz1 hk
  have hz : H24.size = a + 11 := hz1.trans (congrArg (fun n => n + 1) hz)
  clear hz1 hk hV
  refine y_putF (a := a) (fs := [.ref (a + 1), .int (nI 0), .ref (a + 2), .ref (a + 3), .ref (a + 4), .ref (a + 5), .ref (a + 6), .ref (a + 7), .ref (a + 8), .int (nI 0), .ref (a + 9), .null, .int 0]) (ref := "CranePermits$Site") (C := RX2) (T := TX2) (N := 13) (ci := 2) (v := .ref (a + 10)) (ty := (.array (.object "CranePermits$Permit"))) hx hb hts i_c_X2_init_X2 tyX2 tyX2_ok nmX2 hown hK (hP 0 _ rfl) 11 (by decide) rfl (hts (.fieldLink RX2 52 "CranePermits$Site" "valid" "[LCranePermits$Permit;") (List.mem_of_getElem? (i := 18) rfl)) rfl rfl (hnm.trans rfl) rfl (by decide +kernel) (rfl) rfl (Nat.le_of_ble_eq_true rfl) dX2_init_109 (fun H25 x1 hU hV => ?_)
  have hS := hS.upd (x := x1) hU (blk_0 (by decide))
  have hP2 := hP.upd (q0 := 0) hD rfl hU hV
  have hP : va_P D vwCl [(a, .inr (2, [.ref (a + 1), .int (nI 0), .ref (a + 2), .ref (a + 3), .ref (a + 4), .ref (a + 5), .ref (a + 6), .ref (a + 7), .ref (a + 8), .int (nI 0), .ref (a + 9), .ref (a + 10), .int 0])), (a + 1, .inl (y.2.2.2.1, 8, .inr (.inr (.inr (.inr (fun _ => none)))))), (a + 2, .inl (y.1, 8, .inl (fun _ => 0))), (a + 3, .inl (y.1, 3, .inl (upd (upd (upd (fun _ => 0) 0 (nI 100)) 1 (nI 40)) 2 (nI 5)))), (a + 4, .inl (y.1, 30, .inl (fun _ => 0))), (a + 5, .inl (y.1, 120, .inl (fun _ => 0))), (a + 6, .inl (y.1, 120, .inl (fun _ => 0))), (a + 7, .inl (y.1, 120, .inl (fun _ => 0))), (a + 8, .inl (y.2.2.2.2.1, 200, .inr (.inr (.inr (.inr (fun _ => none)))))), (a + 9, .inl (y.1, 200, .inl (fun _ => 0))), (a + 10, .inl (y.2.2.2.2.1, 24, .inr (.inr (.inr (.inr (fun _ => none))))))] H25 := hP2
  have hD : va_D (blk a 11) [(a, .inr (2, [.ref (a + 1), .int (nI 0), .ref (a + 2), .ref (a + 3), .ref (a + 4), .ref (a + 5), .ref (a + 6), .ref (a + 7), .ref (a + 8), .int (nI 0), .ref (a + 9), .ref (a + 10), .int 0])), (a + 1, .inl (y.2.2.2.1, 8, .inr (.inr (.inr (.inr (fun _ => none)))))), (a + 2, .inl (y.1, 8, .inl (fun _ => 0))), (a + 3, .inl (y.1, 3, .inl (upd (upd (upd (fun _ => 0) 0 (nI 100)) 1 (nI 40)) 2 (nI 5)))), (a + 4, .inl (y.1, 30, .inl (fun _ => 0))), (a + 5, .inl (y.1, 120, .inl (fun _ => 0))), (a + 6, .inl (y.1, 120, .inl (fun _ => 0))), (a + 7, .inl (y.1, 120, .inl (fun _ => 0))), (a + 8, .inl (y.2.2.2.2.1, 200, .inr (.inr (.inr (.inr (fun _ => none)))))), (a + 9, .inl (y.1, 200, .inl (fun _ => 0))), (a + 10, .inl (y.2.2.2.2.1, 24, .inr (.inr (.inr (.inr (fun _ => none))))))] := hD.set (p := 0) rfl
  clear hP2
  have hz := hU.1.trans hz
  clear hU hV
  refine lv_aload_n hx hb dX2_init_112 rfl (lv_at hl 0 rfl) ?_
  refine lv_iconst (v := (nI 0)) hx hb dX2_init_113 (by decide) ?_
  refine y_put (a := a) (fs := [.ref (a + 1), .int (nI 0), .ref (a + 2), .ref (a + 3), .ref (a + 4), .ref (a + 5), .ref (a + 6), .ref (a + 7), .ref (a + 8), .int (nI 0), .ref (a + 9), .ref (a + 10), .int 0]) (ref := "CranePermits$Site") (C := RX2) (T := TX2) (N := 13) (ci := 2) (v := .int (nI 0)) (ty := .int) hx hb hts i_c_X2_init_X2 tyX2 tyX2_ok nmX2 hown hK (hP 0 _ rfl) 12 (by decide) rfl (hts (.fieldLink RX2 55 "CranePermits$Site" "validCount" "I") (List.mem_of_getElem? (i := 19) rfl)) rfl rfl (by decide +kernel) (rfl) rfl (Nat.le_of_ble_eq_true rfl) dX2_init_114 (fun H26 x1 hU hV => ?_)
  have hS := hS.upd (x := x1) hU (blk_0 (by decide))
  have hP2 := hP.upd (q0 := 0) hD rfl hU hV
  have hP : va_P D vwCl [(a, .inr (2, [.ref (a + 1), .int (nI 0), .ref (a + 2), .ref (a + 3), .ref (a + 4), .ref (a + 5), .ref (a + 6), .ref (a + 7), .ref (a + 8), .int (nI 0), .ref (a + 9), .ref (a + 10), .int (nI 0)])), (a + 1, .inl (y.2.2.2.1, 8, .inr (.inr (.inr (.inr (fun _ => none)))))), (a + 2, .inl (y.1, 8, .inl (fun _ => 0))), (a + 3, .inl (y.1, 3, .inl (upd (upd (upd (fun _ => 0) 0 (nI 100)) 1 (nI 40)) 2 (nI 5)))), (a + 4, .inl (y.1, 30, .inl (fun _ => 0))), (a + 5, .inl (y.1, 120, .inl (fun _ => 0))), (a + 6, .inl (y.1, 120, .inl (fun _ => 0))), (a + 7, .inl (y.1, 120, .inl (fun _ => 0))), (a + 8, .inl (y.2.2.2.2.1, 200, .inr (.inr (.inr (.inr (fun _ => none)))))), (a + 9, .inl (y.1, 200, .inl (fun _ => 0))), (a + 10, .inl (y.2.2.2.2.1, 24, .inr (.inr (.inr (.inr (fun _ => none))))))] H26 := hP2
  have hD : va_D (blk a 11) [(a, .inr (2, [.ref (a + 1), .int (nI 0), .ref (a + 2), .ref (a + 3), .ref (a + 4), .ref (a + 5), .ref (a + 6), .ref (a + 7), .ref (a + 8), .int (nI 0), .ref (a + 9), .ref (a + 10), .int (nI 0)])), (a + 1, .inl (y.2.2.2.1, 8, .inr (.inr (.inr (.inr (fun _ => none)))))), (a + 2, .inl (y.1, 8, .inl (fun _ => 0))), (a + 3, .inl (y.1, 3, .inl (upd (upd (upd (fun _ => 0) 0 (nI 100)) 1 (nI 40)) 2 (nI 5)))), (a + 4, .inl (y.1, 30, .inl (fun _ => 0))), (a + 5, .inl (y.1, 120, .inl (fun _ => 0))), (a + 6, .inl (y.1, 120, .inl (fun _ => 0))), (a + 7, .inl (y.1, 120, .inl (fun _ => 0))), (a + 8, .inl (y.2.2.2.2.1, 200, .inr (.inr (.inr (.inr (fun _ => none)))))), (a + 9, .inl (y.1, 200, .inl (fun _ => 0))), (a + 10, .inl (y.2.2.2.2.1, 24, .inr (.inr (.inr (.inr (fun _ => none))))))] := hD.set (p := 0) rfl
  clear hP2
  have hz := hU.1.trans hz
  clear hU hV
  refine lv_aload_n hx hb dX2_init_117 rfl (lv_at hl 0 rfl) ?_
  refine z_get (fs := [.ref (a + 1), .int (nI 0), .ref (a + 2), .ref (a + 3), .ref (a + 4), .ref (a + 5), .ref (a + 6), .ref (a + 7), .ref (a + 8), .int (nI 0), .ref (a + 9), .ref (a + 10), .int (nI 0)]) (ref := "CranePermits$Site") (C := RX2) (T := TX2) (N := 13) (ci := 2) (v := .ref (a + 5)) hx hb hts i_c_X2_init_X2 hown hK (hP 0 _ rfl) 5 (by decide) rfl (hts (.fieldLink RX2 31 "CranePermits$Site" "allowances" "[I") (List.mem_of_getElem? (i := 11) rfl)) rfl rfl dX2_init_118 ?_
  refine lv_iconst (v := (-1)) hx hb dX2_init_121 (by decide) ?_
  refine w_callS (As := [.ref (a + 5), .int (-1)]) (rest := []) hF hK (c_J7_fill_53178 l D y (a + 5) 120 (fun _ => 0) (-1) (a + 11) (by decide)) (va_cwS 2 hts gX2_init_J7_fill_53178 rfl rfl rfl (by decide +kernel) ⟨Nat.le_of_ble_eq_true rfl, Nat.le_of_ble_eq_true rfl⟩) ⟨z_one (hP 5 _ rfl), hz⟩ hS (fun q h => blk_1 (by decide) h) rfl hl.1 rfl (Nat.le_of_ble_eq_true rfl) dX2_init_122 ⟨Nat.le_of_ble_eq_true rfl, Nat.le_of_ble_eq_true rfl⟩ (fun H27 locs1 hP1 hz1 hk hS => ?_)
  obtain ⟨hP1, hz⟩ := hP1
  have hP : va_P D vwCl [(a, .inr (2, [.ref (a + 1), .int (nI 0), .ref (a + 2), .ref (a + 3), .ref (a + 4), .ref (a + 5), .ref (a + 6), .ref (a + 7), .ref (a + 8), .int (nI 0), .ref (a + 9), .ref (a + 10), .int (nI 0)])), (a + 1, .inl (y.2.2.2.1, 8, .inr (.inr (.inr (.inr (fun _ => none)))))), (a + 2, .inl (y.1, 8, .inl (fun _ => 0))), (a + 3, .inl (y.1, 3, .inl (upd (upd (upd (fun _ => 0) 0 (nI 100)) 1 (nI 40)) 2 (nI 5)))), (a + 4, .inl (y.1, 30, .inl (fun _ => 0))), (a + 5, .inl (y.1, 120, .inl (filN (fun _ => 0) (-1) 120))), (a + 6, .inl (y.1, 120, .inl (fun _ => 0))), (a + 7, .inl (y.1, 120, .inl (fun _ => 0))), (a + 8, .inl (y.2.2.2.2.1, 200, .inr (.inr (.inr (.inr (fun _ => none)))))), (a + 9, .inl (y.1, 200, .inl (fun _ => 0))), (a + 10, .inl (y.2.2.2.2.1, 24, .inr (.inr (.inr (.inr (fun _ => none))))))] H27 := hP.callset (q0 := 5) hD rfl (fun q hq hn => hk q hq (fun z => hn (blk_e z))) (hP1 0 _ rfl)
  have hD : va_D (blk a 11) [(a, .inr (2, [.ref (a + 1), .int (nI 0), .ref (a + 2), .ref (a + 3), .ref (a + 4), .ref (a + 5), .ref (a + 6), .ref (a + 7), .ref (a + 8), .int (nI 0), .ref (a + 9), .ref (a + 10), .int (nI 0)])), (a + 1, .inl (y.2.2.2.1, 8, .inr (.inr (.inr (.inr (fun _ => none)))))), (a + 2, .inl (y.1, 8, .inl (fun _ => 0))), (a + 3, .inl (y.1, 3, .inl (upd (upd (upd (fun _ => 0) 0 (nI 100)) 1 (nI 40)) 2 (nI 5)))), (a + 4, .inl (y.1, 30, .inl (fun _ => 0))), (a + 5, .inl (y.1, 120, .inl (filN (fun _ => 0) (-1) 120))), (a + 6, .inl (y.1, 120, .inl (fun _ => 0))), (a + 7, .inl (y.1, 120, .inl (fun _ => 0))), (a + 8, .inl (y.2.2.2.2.1, 200, .inr (.inr (.inr (.inr (fun _ => none)))))), (a + 9, .inl (y.1, 200, .inl (fun _ => 0))), (a + 10, .inl (y.2.2.2.2.1, 24, .inr (.inr (.inr (.inr (fun _ => none))))))] := hD.set (p := 5) rfl
  clear hP1 hz1 hk
  exact w_retv hx hb hr hlocks hS (⟨ini_site hP, hz⟩) dX2_init_125
