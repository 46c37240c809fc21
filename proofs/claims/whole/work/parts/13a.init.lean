/-! THE CLASS: constructors of permits and cranes -/
theorem i_c_X1_init_X1 : ∀ w ∈ wsX10, w ∈ wsX1_init := fun w h => (List.mem_cons_of_mem _ (List.mem_append_right _ h))
set_option maxRecDepth 100000 in
set_option maxHeartbeats 4000000 in
theorem c_X1_init (l : Launch) (D : va_G) (y : zY) (q : Nat) (p : Nat) (cr : Nat) (n : Int32) (h : Int32) (sw : Int32)  : Met l yX1_init wsX1_init ({ frames := 1, cells := 0, slots := 0, locals := 40 }) (zP [.ref q, .int (nI p), .ref cr, .int n, .int h, .int sw] (fun H => va_P D vwCl [(q, .inr (1, [.int 0, .null, .int 0, .int 0, .int 0, .int 0, .int 0]))] H ∧ H.size = q + 1) D y) (zW none (fun H => va_at D vwCl (q, .inr (1, [.int (nI p), .ref cr, .int n, .int h, .int (h / nI 10), .int (h - h / nI 10 * nI 10), .int sw])) H ∧ H.size = q + 1) (blk q 1)) 0 0 (blk q 1) := by
  refine z_body (cc := cX1_init) (maxL := 6) (ret := none) (la := [(0, .ref q), (1, .int (nI p)), (2, .ref cr), (3, .int n), (4, .int h), (5, .int sw)]) (by decide) rfl (Nat.le_of_ble_eq_true rfl) rfl ?_
  intro pg ev s mm below meth c0 ls hx hb hr hF hlocks hΦ hK hl hnm
  have hts := hF.2.2.2.2
  have hown : s.vm.findClass RX1 = some mm.cls := hF.2.2.2.1
  have hS : va_S (blk q 1) s.heap s.heap [] := va_S.rf
  obtain ⟨hP, hz⟩ := hΦ
  have hD : va_D (blk q 1) [(q, .inr (1, [.int 0, .null, .int 0, .int 0, .int 0, .int 0, .int 0]))] := va_D_one (blk_in (by omega) (by omega))
  refine lv_aload_n hx hb dX1_init_0 rfl (lv_at hl 0 rfl) ?_
  refine y_obj (a := q) hx hb (hF.2.2.1.trans hl.1.symm) hown (hts (.methodLink RX1 1 objectInit) (List.mem_of_getElem? (i := 1) rfl)) (hts (.instanceMethod objectInit) (List.mem_of_getElem? (i := 2) rfl)) (hts (.code objectInit ⟨#[0xb1]⟩ 1 none) (List.mem_of_getElem? (i := 3) rfl)) (by decide) (by decide) dX1_init_1 ?_
  refine lv_aload_n hx hb dX1_init_4 rfl (lv_at hl 0 rfl) ?_
  refine lv_iload_n hx hb dX1_init_5 rfl (lv_at hl 1 rfl) ?_
  refine y_putF (a := q) (fs := [.int 0, .null, .int 0, .int 0, .int 0, .int 0, .int 0]) (ref := "CranePermits$Permit") (C := RX1) (T := TX1) (N := 7) (ci := 1) (v := .int (nI p)) (ty := .int) hx hb hts i_c_X1_init_X1 tyX1 tyX1_ok nmX1 hown hK (hP 0 _ rfl) 0 (by decide) rfl (hts (.fieldLink RX1 7 "CranePermits$Permit" "number" "I") (List.mem_of_getElem? (i := 4) rfl)) rfl rfl (hnm.trans rfl) rfl (by decide +kernel) (rfl) rfl (Nat.le_of_ble_eq_true rfl) dX1_init_6 (fun H1 x1 hU hV => ?_)
  have hS := hS.upd (x := x1) hU (blk_0 (by decide))
  have hP2 := hP.upd (q0 := 0) hD rfl hU hV
  have hP : va_P D vwCl [(q, .inr (1, [.int (nI p), .null, .int 0, .int 0, .int 0, .int 0, .int 0]))] H1 := hP2
  have hD : va_D (blk q 1) [(q, .inr (1, [.int (nI p), .null, .int 0, .int 0, .int 0, .int 0, .int 0]))] := hD.set (p := 0) rfl
  clear hP2
  have hz := hU.1.trans hz
  clear hU hV
  refine lv_aload_n hx hb dX1_init_9 rfl (lv_at hl 0 rfl) ?_
  refine lv_aload_n hx hb dX1_init_10 rfl (lv_at hl 2 rfl) ?_
  refine y_putF (a := q) (fs := [.int (nI p), .null, .int 0, .int 0, .int 0, .int 0, .int 0]) (ref := "CranePermits$Permit") (C := RX1) (T := TX1) (N := 7) (ci := 1) (v := .ref cr) (ty := (.object "CranePermits$Crane")) hx hb hts i_c_X1_init_X1 tyX1 tyX1_ok nmX1 hown hK (hP 0 _ rfl) 1 (by decide) rfl (hts (.fieldLink RX1 13 "CranePermits$Permit" "crane" "LCranePermits$Crane;") (List.mem_of_getElem? (i := 5) rfl)) rfl rfl (hnm.trans rfl) rfl (by decide +kernel) (rfl) rfl (Nat.le_of_ble_eq_true rfl) dX1_init_11 (fun H2 x1 hU hV => ?_)
  have hS := hS.upd (x := x1) hU (blk_0 (by decide))
  have hP2 := hP.upd (q0 := 0) hD rfl hU hV
  have hP : va_P D vwCl [(q, .inr (1, [.int (nI p), .ref cr, .int 0, .int 0, .int 0, .int 0, .int 0]))] H2 := hP2
  have hD : va_D (blk q 1) [(q, .inr (1, [.int (nI p), .ref cr, .int 0, .int 0, .int 0, .int 0, .int 0]))] := hD.set (p := 0) rfl
  clear hP2
  have hz := hU.1.trans hz
  clear hU hV
  refine lv_aload_n hx hb dX1_init_14 rfl (lv_at hl 0 rfl) ?_
  refine lv_iload_n hx hb dX1_init_15 rfl (lv_at hl 3 rfl) ?_
  refine y_putF (a := q) (fs := [.int (nI p), .ref cr, .int 0, .int 0, .int 0, .int 0, .int 0]) (ref := "CranePermits$Permit") (C := RX1) (T := TX1) (N := 7) (ci := 1) (v := .int n) (ty := .int) hx hb hts i_c_X1_init_X1 tyX1 tyX1_ok nmX1 hown hK (hP 0 _ rfl) 2 (by decide) rfl (hts (.fieldLink RX1 17 "CranePermits$Permit" "night" "I") (List.mem_of_getElem? (i := 6) rfl)) rfl rfl (hnm.trans rfl) rfl (by decide +kernel) (rfl) rfl (Nat.le_of_ble_eq_true rfl) dX1_init_16 (fun H3 x1 hU hV => ?_)
  have hS := hS.upd (x := x1) hU (blk_0 (by decide))
  have hP2 := hP.upd (q0 := 0) hD rfl hU hV
  have hP : va_P D vwCl [(q, .inr (1, [.int (nI p), .ref cr, .int n, .int 0, .int 0, .int 0, .int 0]))] H3 := hP2
  have hD : va_D (blk q 1) [(q, .inr (1, [.int (nI p), .ref cr, .int n, .int 0, .int 0, .int 0, .int 0]))] := hD.set (p := 0) rfl
  clear hP2
  have hz := hU.1.trans hz
  clear hU hV
  refine lv_aload_n hx hb dX1_init_19 rfl (lv_at hl 0 rfl) ?_
  refine lv_iload hx hb dX1_init_20 (lv_at hl 4 rfl) ?_
  refine y_putF (a := q) (fs := [.int (nI p), .ref cr, .int n, .int 0, .int 0, .int 0, .int 0]) (ref := "CranePermits$Permit") (C := RX1) (T := TX1) (N := 7) (ci := 1) (v := .int h) (ty := .int) hx hb hts i_c_X1_init_X1 tyX1 tyX1_ok nmX1 hown hK (hP 0 _ rfl) 3 (by decide) rfl (hts (.fieldLink RX1 20 "CranePermits$Permit" "hours" "I") (List.mem_of_getElem? (i := 7) rfl)) rfl rfl (hnm.trans rfl) rfl (by decide +kernel) (rfl) rfl (Nat.le_of_ble_eq_true rfl) dX1_init_22 (fun H4 x1 hU hV => ?_)
  have hS := hS.upd (x := x1) hU (blk_0 (by decide))
  have hP2 := hP.upd (q0 := 0) hD rfl hU hV
  have hP : va_P D vwCl [(q, .inr (1, [.int (nI p), .ref cr, .int n, .int h, .int 0, .int 0, .int 0]))] H4 := hP2
  have hD : va_D (blk q 1) [(q, .inr (1, [.int (nI p), .ref cr, .int n, .int h, .int 0, .int 0, .int 0]))] := hD.set (p := 0) rfl
  clear hP2
  have hz := hU.1.trans hz
  clear hU hV
  refine lv_aload_n hx hb dX1_init_25 rfl (lv_at hl 0 rfl) ?_
  refine lv_iload hx hb dX1_init_26 (lv_at hl 4 rfl) ?_
  refine lv_bipush (v := (nI 10)) hx hb dX1_init_28 (by decide) ?_
  refine lv_idiv hx hb dX1_init_30 (by decide) ?_
  refine y_putF (a := q) (fs := [.int (nI p), .ref cr, .int n, .int h, .int 0, .int 0, .int 0]) (ref := "CranePermits$Permit") (C := RX1) (T := TX1) (N := 7) (ci := 1) (v := .int (h / (nI 10))) (ty := .int) hx hb hts i_c_X1_init_X1 tyX1 tyX1_ok nmX1 hown hK (hP 0 _ rfl) 4 (by decide) rfl (hts (.fieldLink RX1 23 "CranePermits$Permit" "first" "I") (List.mem_of_getElem? (i := 8) rfl)) rfl rfl (hnm.trans rfl) rfl (by decide +kernel) (rfl) rfl (Nat.le_of_ble_eq_true rfl) dX1_init_31 (fun H5 x1 hU hV => ?_)
  have hS := hS.upd (x := x1) hU (blk_0 (by decide))
  have hP2 := hP.upd (q0 := 0) hD rfl hU hV
  have hP : va_P D vwCl [(q, .inr (1, [.int (nI p), .ref cr, .int n, .int h, .int (h / (nI 10)), .int 0, .int 0]))] H5 := hP2
  have hD : va_D (blk q 1) [(q, .inr (1, [.int (nI p), .ref cr, .int n, .int h, .int (h / (nI 10)), .int 0, .int 0]))] := hD.set (p := 0) rfl
  clear hP2
  have hz := hU.1.trans hz
  clear hU hV
  refine lv_aload_n hx hb dX1_init_34 rfl (lv_at hl 0 rfl) ?_
  refine lv_iload hx hb dX1_init_35 (lv_at hl 4 rfl) ?_
  refine lv_bipush (v := (nI 10)) hx hb dX1_init_37 (by decide) ?_
  refine lv_irem hx hb dX1_init_39 (by decide) ?_
  refine y_putF (a := q) (fs := [.int (nI p), .ref cr, .int n, .int h, .int (h / (nI 10)), .int 0, .int 0]) (ref := "CranePermits$Permit") (C := RX1) (T := TX1) (N := 7) (ci := 1) (v := .int (h - h / (nI 10) * (nI 10))) (ty := .int) hx hb hts i_c_X1_init_X1 tyX1 tyX1_ok nmX1 hown hK (hP 0 _ rfl) 5 (by decide) rfl (hts (.fieldLink RX1 26 "CranePermits$Permit" "last" "I") (List.mem_of_getElem? (i := 9) rfl)) rfl rfl (hnm.trans rfl) rfl (by decide +kernel) (rfl) rfl (Nat.le_of_ble_eq_true rfl) dX1_init_40 (fun H6 x1 hU hV => ?_)
  have hS := hS.upd (x := x1) hU (blk_0 (by decide))
  have hP2 := hP.upd (q0 := 0) hD rfl hU hV
  have hP : va_P D vwCl [(q, .inr (1, [.int (nI p), .ref cr, .int n, .int h, .int (h / (nI 10)), .int (h - h / (nI 10) * (nI 10)), .int 0]))] H6 := hP2
  have hD : va_D (blk q 1) [(q, .inr (1, [.int (nI p), .ref cr, .int n, .int h, .int (h / (nI 10)), .int (h - h / (nI 10) * (nI 10)), .int 0]))] := hD.set (p := 0) rfl
  clear hP2
  have hz := hU.1.trans hz
  clear hU hV
  refine lv_aload_n hx hb dX1_init_43 rfl (lv_at hl 0 rfl) ?_
  refine lv_iload hx hb dX1_init_44 (lv_at hl 5 rfl) ?_
  refine y_putF (a := q) (fs := [.int (nI p), .ref cr, .int n, .int h, .int (h / (nI 10)), .int (h - h / (nI 10) * (nI 10)), .int 0]) (ref := "CranePermits$Permit") (C := RX1) (T := TX1) (N := 7) (ci := 1) (v := .int sw) (ty := .int) hx hb hts i_c_X1_init_X1 tyX1 tyX1_ok nmX1 hown hK (hP 0 _ rfl) 6 (by decide) rfl (hts (.fieldLink RX1 29 "CranePermits$Permit" "swing" "I") (List.mem_of_getElem? (i := 10) rfl)) rfl rfl (hnm.trans rfl) rfl (by decide +kernel) (rfl) rfl (Nat.le_of_ble_eq_true rfl) dX1_init_46 (fun H7 x1 hU hV => ?_)
  have hS := hS.upd (x := x1) hU (blk_0 (by decide))
  have hP2 := hP.upd (q0 := 0) hD rfl hU hV
  have hP : va_P D vwCl [(q, .inr (1, [.int (nI p), .ref cr, .int n, .int h, .int (h / (nI 10)), .int (h - h / (nI 10) * (nI 10)), .int sw]))] H7 := hP2
  have hD : va_D (blk q 1) [(q, .inr (1, [.int (nI p), .ref cr, .int n, .int h, .int (h / (nI 10)), .int (h - h / (nI 10) * (nI 10)), .int sw]))] := hD.set (p := 0) rfl
  clear hP2
  have hz := hU.1.trans hz
  clear hU hV
  exact w_retv hx hb hr hlocks hS (⟨hP 0 _ rfl, hz⟩) dX1_init_49
theorem i_c_X0_mark_X0 : ∀ w ∈ wsX00, w ∈ wsX0_mark := fun w h => (List.mem_cons_of_mem _ (List.mem_append_right _ h))
set_option maxRecDepth 100000 in
set_option maxHeartbeats 4000000 in
theorem c_X0_mark (l : Launch) (D : va_G) (y : zY) (q : Nat) (v0 : Value) (v1 : Value) (v2 : Value) (v3 : Value) (v4 : Value) (v5 : Value) (f : Nat → Int64) (e : Nat) (i : Nat) (he : e < 8) (hi : i < 256) : Met l yX0_mark wsX0_mark ({ frames := 0, cells := 0, slots := 0, locals := 0 }) (zP [.ref q, .int (nI e), .int (nI i)] (fun H => va_P D vwCl [(q, .inr (0, [v0, v1, v2, v3, v4, v5, .ref (q + 1)])), (q + 1, .inl (y.2.2.1, 32, .inr (.inl f)))] H ∧ H.size = q + 2) D y) (zW none (fun H => va_P D vwCl [(q, .inr (0, [v0, v1, v2, v3, v4, v5, .ref (q + 1)])), (q + 1, .inl (y.2.2.1, 32, .inr (.inl (mkL f e i))))] H ∧ H.size = q + 2) (blk q 2)) 0 0 (blk q 2) := by
  refine z_body (cc := cX0_mark) (maxL := 4) (ret := none) (la := [(0, .ref q), (1, .int (nI e)), (2, .int (nI i))]) (by decide) rfl (Nat.le_of_ble_eq_true rfl) rfl ?_
  intro pg ev s mm below meth c0 ls hx hb hr hF hlocks hΦ hK hl hnm
  have hts := hF.2.2.2.2
  have hown : s.vm.findClass RX0 = some mm.cls := hF.2.2.2.1
  have hS : va_S (blk q 2) s.heap s.heap [] := va_S.rf
  obtain ⟨hP, hz⟩ := hΦ
  have hD : va_D (blk q 2) [(q, .inr (0, [v0, v1, v2, v3, v4, v5, .ref (q + 1)])), (q + 1, .inl (y.2.2.1, 32, .inr (.inl f)))] := va_D_blk (fun k q hk => match k, hk with | 0, hk => by cases hk; rfl | 1, hk => by cases hk; rfl | k + 2, hk => by simp at hk) (Nat.le_of_ble_eq_true rfl)
  refine lv_iconst (v := (nI 4)) hx hb dX0_mark_0 (by decide) ?_
  refine lv_iload_n hx hb dX0_mark_1 rfl (lv_at hl 1 rfl) ?_
  refine z_imul hx hb dX0_mark_2 ?_
  refine lv_iload_n hx hb dX0_mark_3 rfl (lv_at hl 2 rfl) ?_
  refine lv_bipush (v := (nI 64)) hx hb dX0_mark_4 (by decide) ?_
  refine z_idiv hx hb (by omega) (by omega) (by omega) dX0_mark_6 ?_
  refine z_iadd hx hb dX0_mark_7 ?_
  refine lv_istore_n (lv' := [(3, .int (nI ((4 * e) + (i / 64)))), (0, .ref q), (1, .int (nI e)), (2, .int (nI i))]) hx hb dX0_mark_8 rfl hl (by decide) rfl (fun ls hl => ?_)
  refine lv_iload_n hx hb dX0_mark_9 rfl (lv_at hl 0 rfl) ?_
  refine n_if_lt (tgt := 37) hx hb (by omega) dX0_mark_10 (by decide) ?_
  refine lv_iload_n hx hb dX0_mark_13 rfl (lv_at hl 0 rfl) ?_
  refine lv_aload_n hx hb dX0_mark_14 rfl (lv_at hl 1 rfl) ?_
  refine z_get (fs := [v0, v1, v2, v3, v4, v5, .ref (q + 1)]) (ref := "CranePermits$Crane") (C := RX0) (T := TX0) (N := 7) (ci := 0) (v := .ref (q + 1)) hx hb hts i_c_X0_mark_X0 hown hK (hP 0 _ rfl) 6 (by decide) rfl (hts (.fieldLink RX0 9 "CranePermits$Crane" "eighths" "[J") (List.mem_of_getElem? (i := 1) rfl)) rfl rfl dX0_mark_15 ?_
  refine z_alen 2 (n := 32) hx hb hK rfl (hP 1 _ rfl) rfl dX0_mark_18 ?_
  refine z_ge (tgt := 37) hx hb (by omega) (by omega) dX0_mark_19 (by decide) (fun c19 => ?_) (fun c19 => ?_)
  · exact absurd c19 (by omega)
  · refine lv_aload_n hx hb dX0_mark_22 rfl (lv_at hl 1 rfl) ?_
    refine z_get (fs := [v0, v1, v2, v3, v4, v5, .ref (q + 1)]) (ref := "CranePermits$Crane") (C := RX0) (T := TX0) (N := 7) (ci := 0) (v := .ref (q + 1)) hx hb hts i_c_X0_mark_X0 hown hK (hP 0 _ rfl) 6 (by decide) rfl (hts (.fieldLink RX0 9 "CranePermits$Crane" "eighths" "[J") (List.mem_of_getElem? (i := 1) rfl)) rfl rfl dX0_mark_23 ?_
    refine lv_iload_n hx hb dX0_mark_26 rfl (lv_at hl 0 rfl) ?_
    refine lv_dup2_11 hx hb dX0_mark_27 rfl rfl ?_
    refine z_lald (f := f) hx hb hK (hP 1 _ rfl) (by omega) (by omega) dX0_mark_28 ?_
    refine lv_lconst (v := 1) hx hb dX0_mark_29 (by decide) ?_
    refine lv_iload_n hx hb dX0_mark_30 rfl (lv_at hl 3 rfl) ?_
    refine lv_bipush (v := (nI 64)) hx hb dX0_mark_31 (by decide) ?_
    refine z_irem hx hb (by omega) (by omega) (by omega) dX0_mark_33 ?_
    refine lv_lshl (v := (1) <<< ((nI (i % 64)).toInt64 &&& 63)) hx hb dX0_mark_34 rfl ?_
    refine lv_lor hx hb dX0_mark_35 ?_
    refine y_last (a := (q + 1)) (f := f) (i := ((4 * e) + (i / 64))) hx hb hK (hP 1 _ rfl) (by omega) (by omega) dX0_mark_36 (fun H1 hU hV => ?_)
    have hS := hS.upd (x := ((4 * e) + (i / 64))) hU (blk_k (by decide))
    have hP2 := hP.upd (q0 := 1) hD rfl hU hV
    have hP : va_P D vwCl [(q, .inr (0, [v0, v1, v2, v3, v4, v5, .ref (q + 1)])), (q + 1, .inl (y.2.2.1, 32, .inr (.inl (vp_updL f ((4 * e) + (i / 64)) ((f ((4 * e) + (i / 64))) ||| ((1) <<< ((nI (i % 64)).toInt64 &&& 63)))))))] H1 := hP2
    have hD : va_D (blk q 2) [(q, .inr (0, [v0, v1, v2, v3, v4, v5, .ref (q + 1)])), (q + 1, .inl (y.2.2.1, 32, .inr (.inl (vp_updL f ((4 * e) + (i / 64)) ((f ((4 * e) + (i / 64))) ||| ((1) <<< ((nI (i % 64)).toInt64 &&& 63)))))))] := hD.set (p := 1) rfl
    clear hP2
    have hz := hU.1.trans hz
    clear hU hV
    exact w_retv hx hb hr hlocks hS (⟨hP, hz⟩) dX0_mark_37
set_option maxRecDepth 100000 in
set_option maxHeartbeats 4000000 in
theorem c_X0_markOwnCell (l : Launch) (D : va_G) (y : zY) (q : Nat) (v0 : Value) (v1 : Value) (v2 : Value) (v3 : Value) (v4 : Value) (v5 : Value) (f : Nat → Int64) (i : Nat) (hi : i < 256) : Met l yX0_markOwnCell wsX0_markOwnCell ({ frames := 1, cells := 0, slots := 0, locals := 23 }) (zP [.ref q, .int (nI i)] (fun H => va_P D vwCl [(q, .inr (0, [v0, v1, v2, v3, v4, v5, .ref (q + 1)])), (q + 1, .inl (y.2.2.1, 32, .inr (.inl f)))] H ∧ H.size = q + 2) D y) (zW none (fun H => va_P D vwCl [(q, .inr (0, [v0, v1, v2, v3, v4, v5, .ref (q + 1)])), (q + 1, .inl (y.2.2.1, 32, .inr (.inl (mkN f i 8))))] H ∧ H.size = q + 2) (blk q 2)) 0 0 (blk q 2) := by
  refine z_body (cc := cX0_markOwnCell) (maxL := 3) (ret := none) (la := [(0, .ref q), (1, .int (nI i))]) (by decide) rfl (Nat.le_of_ble_eq_true rfl) rfl ?_
  intro pg ev s mm below meth c0 ls hx hb hr hF hlocks hΦ hK hl hnm
  have hts := hF.2.2.2.2
  have hown : s.vm.findClass RX0 = some mm.cls := hF.2.2.2.1
  have hS : va_S (blk q 2) s.heap s.heap [] := va_S.rf
  obtain ⟨hP, hz⟩ := hΦ
  have hD : va_D (blk q 2) [(q, .inr (0, [v0, v1, v2, v3, v4, v5, .ref (q + 1)])), (q + 1, .inl (y.2.2.1, 32, .inr (.inl f)))] := va_D_blk (fun k q hk => match k, hk with | 0, hk => by cases hk; rfl | 1, hk => by cases hk; rfl | k + 2, hk => by simp at hk) (Nat.le_of_ble_eq_true rfl)
  refine lv_iconst (v := (nI 0)) hx hb dX0_markOwnCell_0 (by decide) ?_
  refine lv_istore_n (lv' := [(2, .int (nI 0)), (0, .ref q), (1, .int (nI i))]) hx hb dX0_markOwnCell_1 rfl hl (by decide) rfl (fun ls hl => ?_)
  refine z_loopW (S := Nat) (nL := 3) (fun (n : Nat) => 8 - n) (fun (n : Nat) => [(2, .int (nI n)), (0, .ref q), (1, .int (nI i))]) (fun (n : Nat) (H : Heap) (locs : List Loc) => va_P D vwCl [(q, .inr (0, [v0, v1, v2, v3, v4, v5, .ref (q + 1)])), (q + 1, .inl (y.2.2.1, 32, .inr (.inl (mkN f i n))))] H ∧ va_S (blk q 2) s.heap H locs ∧ (n ≤ 8 ∧ H.size = q + 2)) 0 ⟨hP, hS, ⟨by omega, hz⟩⟩ (lv_sub hl [0, 1, 2] rfl) ?_
  clear hl hP hS
  rintro n H1 locs ls ⟨hP, hS, hI_2⟩ hl ih_2
  obtain ⟨hn, hz⟩ := hI_2
  have hD : va_D (blk q 2) [(q, .inr (0, [v0, v1, v2, v3, v4, v5, .ref (q + 1)])), (q + 1, .inl (y.2.2.1, 32, .inr (.inl (mkN f i n))))] := hD.set (p := 1) rfl
  refine lv_iload_n hx hb dX0_markOwnCell_2 rfl (lv_at hl 0 rfl) ?_
  refine lv_bipush (v := (nI 8)) hx hb dX0_markOwnCell_3 (by decide) ?_
  refine z_ge (tgt := 20) hx hb (by omega) (by omega) dX0_markOwnCell_5 (by decide) (fun c5 => ?_) (fun c5 => ?_)
  · exact w_retv hx hb hr hlocks hS (⟨by rw [show n = 8 by omega] at hP; exact hP, hz⟩) dX0_markOwnCell_20
  · refine lv_aload_n hx hb dX0_markOwnCell_8 rfl (lv_at hl 1 rfl) ?_
    refine lv_iload_n hx hb dX0_markOwnCell_9 rfl (lv_at hl 0 rfl) ?_
    refine lv_iload_n hx hb dX0_markOwnCell_10 rfl (lv_at hl 2 rfl) ?_
    refine w_callV (As := [.int (nI n), .int (nI i)]) (rest := []) hF hK (c_X0_mark l D y q v0 v1 v2 v3 v4 v5 (mkN f i n) n i (by omega) (by omega)) (cwV 2 hts gX0_markOwnCell_X0_mark rfl rfl rfl (by decide +kernel) ⟨Nat.le_of_ble_eq_true rfl, Nat.le_of_ble_eq_true rfl⟩) (z_recv (q := (RX0, TX0, 7)) hK (hP 0 _ rfl) rfl) ⟨hP, hz⟩ hS (fun q h => h) rfl hl.1 rfl (Nat.le_of_ble_eq_true rfl) dX0_markOwnCell_11 ⟨Nat.zero_le _, Nat.zero_le _⟩ (fun H2 locs1 hP hz1 hk hS => ?_)
    obtain ⟨hP, hz⟩ := hP
    have hP : va_P D vwCl [(q, .inr (0, [v0, v1, v2, v3, v4, v5, .ref (q + 1)])), (q + 1, .inl (y.2.2.1, 32, .inr (.inl (mkL (mkN f i n) n i))))] H2 := hP
    have hD : va_D (blk q 2) [(q, .inr (0, [v0, v1, v2, v3, v4, v5, .ref (q + 1)])), (q + 1, .inl (y.2.2.1, 32, .inr (.inl (mkL (mkN f i n) n i))))] := hD.set (p := 1) rfl
    clear hz1 hk
    refine lv_iinc (v := (nI (n + 1))) (lv' := [(2, .int (nI (n + 1))), (0, .ref q), (1, .int (nI i))]) hx hb dX0_markOwnCell_14 hl (k := 0) rfl (in1 _) (by decide) rfl (fun ls hl => ?_)
    refine lv_goto (tgt := 2) hx hb dX0_markOwnCell_17 (by decide) ?_
    exact ih_2 (n + 1) _ _ _ (by omega) ⟨hP, hS, ⟨by omega, hz⟩⟩ (lv_sub hl [0, 1, 2] rfl)
theorem i_c_X0_init_X0 : ∀ w ∈ wsX00, w ∈ wsX0_init := fun w h => (List.mem_cons_of_mem _ (List.mem_append_right _ h))
set_option maxRecDepth 100000 in
set_option maxHeartbeats 4000000 in
theorem c_X0_init (l : Launch) (D : va_G) (y : zY) (q : Nat) (c : Nat) (x : Int32) (z : Int32) (r : Int32) (h : Int32) (st : Int32)  : Met l yX0_init wsX0_init ({ frames := 2, cells := 1, slots := 32, locals := 45 }) (zP [.ref q, .int (nI c), .int x, .int z, .int r, .int h, .int st] (fun H => va_P D vwCl [(q, .inr (0, [.int 0, .int 0, .int 0, .int 0, .int 0, .int 0, .null]))] H ∧ H.size = q + 1) D y) (zW none (fun H => va_P D vwCl [(q, .inr (0, [.int (nI c), .int x, .int z, .int r, .int h, .int st, .ref (q + 1)])), (q + 1, .inl (y.2.2.1, 32, .inr (.inl (eiS x z r 256))))] H ∧ H.size = q + 2) (blk q 2)) 1 32 (blk q 2) := by
  refine z_body (cc := cX0_init) (maxL := 10) (ret := none) (la := [(0, .ref q), (1, .int (nI c)), (2, .int x), (3, .int z), (4, .int r), (5, .int h), (6, .int st)]) (by decide) rfl (Nat.le_of_ble_eq_true rfl) rfl ?_
  intro pg ev s mm below meth c0 ls hx hb hr hF hlocks hΦ hK hl hnm
  have hts := hF.2.2.2.2
  have hown : s.vm.findClass RX0 = some mm.cls := hF.2.2.2.1
  have hS : va_S (blk q 2) s.heap s.heap [] := va_S.rf
  obtain ⟨hP, hz⟩ := hΦ
  have hD : va_D (blk q 2) [(q, .inr (0, [.int 0, .int 0, .int 0, .int 0, .int 0, .int 0, .null]))] := va_D_one (blk_in (by omega) (by omega))
  refine lv_aload_n hx hb dX0_init_0 rfl (lv_at hl 0 rfl) ?_
  refine y_obj (a := q) hx hb (hF.2.2.1.trans hl.1.symm) hown (hts (.methodLink RX0 3 objectInit) (List.mem_of_getElem? (i := 1) rfl)) (hts (.instanceMethod objectInit) (List.mem_of_getElem? (i := 2) rfl)) (hts (.code objectInit ⟨#[0xb1]⟩ 1 none) (List.mem_of_getElem? (i := 3) rfl)) (by decide) (by decide) dX0_init_1 ?_
  refine lv_aload_n hx hb dX0_init_4 rfl (lv_at hl 0 rfl) ?_
  refine lv_bipush (v := (nI 32)) hx hb dX0_init_5 (by decide) ?_
  refine y_newl (N := 32) hx hb (hts (.arrayClass .long) (by decide +kernel)) hK (by decide) (by decide) (by decide) hz (by decide) (by decide) dX0_init_7 (fun H1 hz1 hk hV => ?_)
  have hD2 := hD.push (e := .inl (y.2.2.1, 32, .inr (.inl (fun _ => 0)))) hP hz.symm (blk_k (by decide))
  have hD : va_D (blk q 2) [(q, .inr (0, [.int 0, .int 0, .int 0, .int 0, .int 0, .int 0, .null])), (q + 1, .inl (y.2.2.1, 32, .inr (.inl (fun _ => 0))))] := hD2
  have hP2 := (hP.grow hk).app (z_one hV)
  have hP : va_P D vwCl [(q, .inr (0, [.int 0, .int 0, .int 0, .int 0, .int 0, .int 0, .null])), (q + 1, .inl (y.2.2.1, 32, .inr (.inl (fun _ => 0))))] H1 := hP2
  clear hD2 hP2
  have hS := hS.grow hz1 hk
  have hz : H1.size = q + 2 := hz1.trans (congrArg (fun n => n + 1) hz)
  clear hz1 hk hV
  refine y_putF (a := q) (fs := [.int 0, .int 0, .int 0, .int 0, .int 0, .int 0, .null]) (ref := "CranePermits$Crane") (C := RX0) (T := TX0) (N := 7) (ci := 0) (v := .ref (q + 1)) (ty := (.array .long)) hx hb hts i_c_X0_init_X0 tyX0 tyX0_ok nmX0 hown hK (hP 0 _ rfl) 6 (by decide) rfl (hts (.fieldLink RX0 9 "CranePermits$Crane" "eighths" "[J") (List.mem_of_getElem? (i := 5) rfl)) rfl rfl (hnm.trans rfl) rfl (by decide +kernel) (rfl) rfl (Nat.le_of_ble_eq_true rfl) dX0_init_9 (fun H2 x1 hU hV => ?_)
  have hS := hS.upd (x := x1) hU (blk_0 (by decide))
  have hP2 := hP.upd (q0 := 0) hD rfl hU hV
  have hP : va_P D vwCl [(q, .inr (0, [.int 0, .int 0, .int 0, .int 0, .int 0, .int 0, .ref (q + 1)])), (q + 1, .inl (y.2.2.1, 32, .inr (.inl (fun _ => 0))))] H2 := hP2
  have hD : va_D (blk q 2) [(q, .inr (0, [.int 0, .int 0, .int 0, .int 0, .int 0, .int 0, .ref (q + 1)])), (q + 1, .inl (y.2.2.1, 32, .inr (.inl (fun _ => 0))))] := hD.set (p := 0) rfl
  clear hP2
  have hz := hU.1.trans hz
  clear hU hV
  refine lv_aload_n hx hb dX0_init_12 rfl (lv_at hl 0 rfl) ?_
  refine lv_iload_n hx hb dX0_init_13 rfl (lv_at hl 1 rfl) ?_
  refine y_putF (a := q) (fs := [.int 0, .int 0, .int 0, .int 0, .int 0, .int 0, .ref (q + 1)]) (ref := "CranePermits$Crane") (C := RX0) (T := TX0) (N := 7) (ci := 0) (v := .int (nI c)) (ty := .int) hx hb hts i_c_X0_init_X0 tyX0 tyX0_ok nmX0 hown hK (hP 0 _ rfl) 0 (by decide) rfl (hts (.fieldLink RX0 15 "CranePermits$Crane" "number" "I") (List.mem_of_getElem? (i := 6) rfl)) rfl rfl (hnm.trans rfl) rfl (by decide +kernel) (rfl) rfl (Nat.le_of_ble_eq_true rfl) dX0_init_14 (fun H3 x1 hU hV => ?_)
  have hS := hS.upd (x := x1) hU (blk_0 (by decide))
  have hP2 := hP.upd (q0 := 0) hD rfl hU hV
  have hP : va_P D vwCl [(q, .inr (0, [.int (nI c), .int 0, .int 0, .int 0, .int 0, .int 0, .ref (q + 1)])), (q + 1, .inl (y.2.2.1, 32, .inr (.inl (fun _ => 0))))] H3 := hP2
  have hD : va_D (blk q 2) [(q, .inr (0, [.int (nI c), .int 0, .int 0, .int 0, .int 0, .int 0, .ref (q + 1)])), (q + 1, .inl (y.2.2.1, 32, .inr (.inl (fun _ => 0))))] := hD.set (p := 0) rfl
  clear hP2
  have hz := hU.1.trans hz
  clear hU hV
  refine lv_aload_n hx hb dX0_init_17 rfl (lv_at hl 0 rfl) ?_
  refine lv_iload_n hx hb dX0_init_18 rfl (lv_at hl 2 rfl) ?_
  refine y_putF (a := q) (fs := [.int (nI c), .int 0, .int 0, .int 0, .int 0, .int 0, .ref (q + 1)]) (ref := "CranePermits$Crane") (C := RX0) (T := TX0) (N := 7) (ci := 0) (v := .int x) (ty := .int) hx hb hts i_c_X0_init_X0 tyX0 tyX0_ok nmX0 hown hK (hP 0 _ rfl) 1 (by decide) rfl (hts (.fieldLink RX0 19 "CranePermits$Crane" "x" "I") (List.mem_of_getElem? (i := 7) rfl)) rfl rfl (hnm.trans rfl) rfl (by decide +kernel) (rfl) rfl (Nat.le_of_ble_eq_true rfl) dX0_init_19 (fun H4 x1 hU hV => ?_)
  have hS := hS.upd (x := x1) hU (blk_0 (by decide))
  have hP2 := hP.upd (q0 := 0) hD rfl hU hV
  have hP : va_P D vwCl [(q, .inr (0, [.int (nI c), .int x, .int 0, .int 0, .int 0, .int 0, .ref (q + 1)])), (q + 1, .inl (y.2.2.1, 32, .inr (.inl (fun _ => 0))))] H4 := hP2
  have hD : va_D (blk q 2) [(q, .inr (0, [.int (nI c), .int x, .int 0, .int 0, .int 0, .int 0, .ref (q + 1)])), (q + 1, .inl (y.2.2.1, 32, .inr (.inl (fun _ => 0))))] := hD.set (p := 0) rfl
  clear hP2
  have hz := hU.1.trans hz
  clear hU hV
  refine lv_aload_n hx hb dX0_init_22 rfl (lv_at hl 0 rfl) ?_
  refine lv_iload_n hx hb dX0_init_23 rfl (lv_at hl 3 rfl) ?_
  refine y_putF (a := q) (fs := [.int (nI c), .int x, .int 0, .int 0, .int 0, .int 0, .ref (q + 1)]) (ref := "CranePermits$Crane") (C := RX0) (T := TX0) (N := 7) (ci := 0) (v := .int z) (ty := .int) hx hb hts i_c_X0_init_X0 tyX0 tyX0_ok nmX0 hown hK (hP 0 _ rfl) 2 (by decide) rfl (hts (.fieldLink RX0 22 "CranePermits$Crane" "y" "I") (List.mem_of_getElem? (i := 8) rfl)) rfl rfl (hnm.trans rfl) rfl (by decide +kernel) (rfl) rfl (Nat.le_of_ble_eq_true rfl) dX0_init_24 (fun H5 x1 hU hV => ?_)
  have hS := hS.upd (x := x1) hU (blk_0 (by decide))
  have hP2 := hP.upd (q0 := 0) hD rfl hU hV
  have hP : va_P D vwCl [(q, .inr (0, [.int (nI c), .int x, .int z, .int 0, .int 0, .int 0, .ref (q + 1)])), (q + 1, .inl (y.2.2.1, 32, .inr (.inl (fun _ => 0))))] H5 := hP2
  have hD : va_D (blk q 2) [(q, .inr (0, [.int (nI c), .int x, .int z, .int 0, .int 0, .int 0, .ref (q + 1)])), (q + 1, .inl (y.2.2.1, 32, .inr (.inl (fun _ => 0))))] := hD.set (p := 0) rfl
  clear hP2
  have hz := hU.1.trans hz
  clear hU hV
  refine lv_aload_n hx hb dX0_init_27 rfl (lv_at hl 0 rfl) ?_
  refine lv_iload hx hb dX0_init_28 (lv_at hl 4 rfl) ?_
  refine y_putF (a := q) (fs := [.int (nI c), .int x, .int z, .int 0, .int 0, .int 0, .ref (q + 1)]) (ref := "CranePermits$Crane") (C := RX0) (T := TX0) (N := 7) (ci := 0) (v := .int r) (ty := .int) hx hb hts i_c_X0_init_X0 tyX0 tyX0_ok nmX0 hown hK (hP 0 _ rfl) 3 (by decide) rfl (hts (.fieldLink RX0 25 "CranePermits$Crane" "reach" "I") (List.mem_of_getElem? (i := 9) rfl)) rfl rfl (hnm.trans rfl) rfl (by decide +kernel) (rfl) rfl (Nat.le_of_ble_eq_true rfl) dX0_init_30 (fun H6 x1 hU hV => ?_)
  have hS := hS.upd (x := x1) hU (blk_0 (by decide))
  have hP2 := hP.upd (q0 := 0) hD rfl hU hV
  have hP : va_P D vwCl [(q, .inr (0, [.int (nI c), .int x, .int z, .int r, .int 0, .int 0, .ref (q + 1)])), (q + 1, .inl (y.2.2.1, 32, .inr (.inl (fun _ => 0))))] H6 := hP2
  have hD : va_D (blk q 2) [(q, .inr (0, [.int (nI c), .int x, .int z, .int r, .int 0, .int 0, .ref (q + 1)])), (q + 1, .inl (y.2.2.1, 32, .inr (.inl (fun _ => 0))))] := hD.set (p := 0) rfl
  clear hP2
  have hz := hU.1.trans hz
  clear hU hV
  refine lv_aload_n hx hb dX0_init_33 rfl (lv_at hl 0 rfl) ?_
  refine lv_iload hx hb dX0_init_34 (lv_at hl 5 rfl) ?_
  refine y_putF (a := q) (fs := [.int (nI c), .int x, .int z, .int r, .int 0, .int 0, .ref (q + 1)]) (ref := "CranePermits$Crane") (C := RX0) (T := TX0) (N := 7) (ci := 0) (v := .int h) (ty := .int) hx hb hts i_c_X0_init_X0 tyX0 tyX0_ok nmX0 hown hK (hP 0 _ rfl) 4 (by decide) rfl (hts (.fieldLink RX0 28 "CranePermits$Crane" "height" "I") (List.mem_of_getElem? (i := 10) rfl)) rfl rfl (hnm.trans rfl) rfl (by decide +kernel) (rfl) rfl (Nat.le_of_ble_eq_true rfl) dX0_init_36 (fun H7 x1 hU hV => ?_)
  have hS := hS.upd (x := x1) hU (blk_0 (by decide))
  have hP2 := hP.upd (q0 := 0) hD rfl hU hV
  have hP : va_P D vwCl [(q, .inr (0, [.int (nI c), .int x, .int z, .int r, .int h, .int 0, .ref (q + 1)])), (q + 1, .inl (y.2.2.1, 32, .inr (.inl (fun _ => 0))))] H7 := hP2
  have hD : va_D (blk q 2) [(q, .inr (0, [.int (nI c), .int x, .int z, .int r, .int h, .int 0, .ref (q + 1)])), (q + 1, .inl (y.2.2.1, 32, .inr (.inl (fun _ => 0))))] := hD.set (p := 0) rfl
  clear hP2
  have hz := hU.1.trans hz
  clear hU hV
  refine lv_aload_n hx hb dX0_init_39 rfl (lv_at hl 0 rfl) ?_
  refine lv_iload hx hb dX0_init_40 (lv_at hl 6 rfl) ?_
  refine y_putF (a := q) (fs := [.int (nI c), .int x, .int z, .int r, .int h, .int 0, .ref (q + 1)]) (ref := "CranePermits$Crane") (C := RX0) (T := TX0) (N := 7) (ci := 0) (v := .int st) (ty := .int) hx hb hts i_c_X0_init_X0 tyX0 tyX0_ok nmX0 hown hK (hP 0 _ rfl) 5 (by decide) rfl (hts (.fieldLink RX0 31 "CranePermits$Crane" "street" "I") (List.mem_of_getElem? (i := 11) rfl)) rfl rfl (hnm.trans rfl) rfl (by decide +kernel) (rfl) rfl (Nat.le_of_ble_eq_true rfl) dX0_init_42 (fun H8 x1 hU hV => ?_)
  have hS := hS.upd (x := x1) hU (blk_0 (by decide))
  have hP2 := hP.upd (q0 := 0) hD rfl hU hV
  have hP : va_P D vwCl [(q, .inr (0, [.int (nI c), .int x, .int z, .int r, .int h, .int st, .ref (q + 1)])), (q + 1, .inl (y.2.2.1, 32, .inr (.inl (fun _ => 0))))] H8 := hP2
  have hD : va_D (blk q 2) [(q, .inr (0, [.int (nI c), .int x, .int z, .int r, .int h, .int st, .ref (q + 1)])), (q + 1, .inl (y.2.2.1, 32, .inr (.inl (fun _ => 0))))] := hD.set (p := 0) rfl
  clear hP2
  have hz := hU.1.trans hz
  clear hU hV
  refine lv_iconst (v := (nI 0)) hx hb dX0_init_45 (by decide) ?_
  refine lv_istore (lv' := [(7, .int (nI 0)), (0, .ref q), (1, .int (nI c)), (2, .int x), (3, .int z), (4, .int r), (5, .int h), (6, .int st)]) hx hb dX0_init_46 hl (by decide) rfl (fun ls hl => ?_)
  refine z_loopW (S := Nat) (nL := 10) (fun (i : Nat) => 256 - i) (fun (i : Nat) => [(7, .int (nI i)), (0, .ref q), (1, .int (nI c)), (2, .int x), (3, .int z), (4, .int r), (5, .int h), (6, .int st)]) (fun (i : Nat) (H : Heap) (locs : List Loc) => va_P D vwCl [(q, .inr (0, [.int (nI c), .int x, .int z, .int r, .int h, .int st, .ref (q + 1)])), (q + 1, .inl (y.2.2.1, 32, .inr (.inl (eiS x z r i))))] H ∧ va_S (blk q 2) s.heap H locs ∧ (i ≤ 256 ∧ H.size = q + 2)) 0 ⟨hP, hS, ⟨by omega, hz⟩⟩ (lv_sub hl [0, 1, 2, 3, 4, 5, 6, 7] rfl) ?_
  clear hl hP hS
  rintro i H9 locs ls ⟨hP, hS, hI_48⟩ hl ih_48
  obtain ⟨hi, hz⟩ := hI_48
  have hD : va_D (blk q 2) [(q, .inr (0, [.int (nI c), .int x, .int z, .int r, .int h, .int st, .ref (q + 1)])), (q + 1, .inl (y.2.2.1, 32, .inr (.inl (eiS x z r i))))] := hD.set (p := 1) rfl
  refine lv_iload hx hb dX0_init_48 (lv_at hl 0 rfl) ?_
  refine lv_sipush (v := (nI 256)) hx hb dX0_init_50 (by decide) ?_
  refine z_ge (tgt := 131) hx hb (by omega) (by omega) dX0_init_53 (by decide) (fun c53 => ?_) (fun c53 => ?_)
  · exact w_retv hx hb hr hlocks hS (⟨by rw [show i = 256 by omega] at hP; exact hP, by omega⟩) dX0_init_131
  · refine lv_iload hx hb dX0_init_56 (lv_at hl 0 rfl) ?_
    refine lv_bipush (v := (nI 16)) hx hb dX0_init_58 (by decide) ?_
    refine z_irem hx hb (by omega) (by omega) (by omega) dX0_init_60 ?_
    refine lv_iload_n hx hb dX0_init_61 rfl (lv_at hl 3 rfl) ?_
    refine lv_isub hx hb dX0_init_62 ?_
    refine lv_istore (lv' := [(8, .int ((nI (i % 16)) - x)), (7, .int (nI i)), (0, .ref q), (1, .int (nI c)), (2, .int x), (3, .int z), (4, .int r), (5, .int h), (6, .int st)]) hx hb dX0_init_63 hl (by decide) rfl (fun ls hl => ?_)
    refine lv_iload hx hb dX0_init_65 (lv_at hl 1 rfl) ?_
    refine lv_bipush (v := (nI 16)) hx hb dX0_init_67 (by decide) ?_
    refine z_idiv hx hb (by omega) (by omega) (by omega) dX0_init_69 ?_
    refine lv_iload_n hx hb dX0_init_70 rfl (lv_at hl 5 rfl) ?_
    refine lv_isub hx hb dX0_init_71 ?_
    refine lv_istore (lv' := [(9, .int ((nI (i / 16)) - z)), (8, .int ((nI (i % 16)) - x)), (7, .int (nI i)), (0, .ref q), (1, .int (nI c)), (2, .int x), (3, .int z), (4, .int r), (5, .int h), (6, .int st)]) hx hb dX0_init_72 hl (by decide) rfl (fun ls hl => ?_)
    refine lv_iload hx hb dX0_init_74 (lv_at hl 1 rfl) ?_
    refine lv_if_ne (tgt := 93) hx hb dX0_init_76 (by decide) (fun c76 => ?_) (fun c76 => ?_)
    · refine lv_iload hx hb dX0_init_93 (lv_at hl 1 rfl) ?_
      refine lv_iload hx hb dX0_init_95 (lv_at hl 1 rfl) ?_
      refine lv_imul hx hb dX0_init_97 ?_
      refine lv_iload hx hb dX0_init_98 (lv_at hl 0 rfl) ?_
      refine lv_iload hx hb dX0_init_100 (lv_at hl 0 rfl) ?_
      refine lv_imul hx hb dX0_init_102 ?_
      refine lv_iadd hx hb dX0_init_103 ?_
      refine lv_iload hx hb dX0_init_104 (lv_at hl 7 rfl) ?_
      refine lv_iload hx hb dX0_init_106 (lv_at hl 7 rfl) ?_
      refine lv_imul hx hb dX0_init_108 ?_
      refine lv_icmp_gt (tgt := 125) hx hb dX0_init_109 (by decide) (fun c109 => ?_) (fun c109 => ?_)
      · refine lv_iinc (v := (nI (i + 1))) (lv' := [(7, .int (nI (i + 1))), (9, .int ((nI (i / 16)) - z)), (8, .int ((nI (i % 16)) - x)), (0, .ref q), (1, .int (nI c)), (2, .int x), (3, .int z), (4, .int r), (5, .int h), (6, .int st)]) hx hb dX0_init_125 hl (k := 2) rfl (in1 _) (by decide) rfl (fun ls hl => ?_)
        refine lv_goto (tgt := 48) hx hb dX0_init_128 (by decide) ?_
        exact ih_48 (i + 1) _ _ _ (by omega) ⟨by first | (rw [ei_own ⟨c76, c81⟩]; exact hP) | (rw [ei_far (fun z => c76 z.1) c109]; exact hP) | (rw [ei_far (fun z => c81 z.2) c109]; exact hP) | (rw [ei_dir (fun z => c76 z.1) c109]; exact hP) | (rw [ei_dir (fun z => c81 z.2) c109]; exact hP), hS, ⟨by omega, hz⟩⟩ (lv_sub hl [0, 3, 4, 5, 6, 7, 8, 9] rfl)
      · refine lv_aload_n hx hb dX0_init_112 rfl (lv_at hl 3 rfl) ?_
        refine lv_iload hx hb dX0_init_113 (lv_at hl 1 rfl) ?_
        refine lv_iload hx hb dX0_init_115 (lv_at hl 0 rfl) ?_
        refine z_callS (As := [.int ((nI (i % 16)) - x), .int ((nI (i / 16)) - z)]) (rest := [.ref q]) hF hK (c_X0_directionOf l D y ((nI (i % 16)) - x) ((nI (i / 16)) - z) ) (va_cwS 2 hts gX0_init_X0_directionOf rfl rfl rfl (by decide +kernel) ⟨Nat.le_of_ble_eq_true rfl, Nat.le_of_ble_eq_true rfl⟩) trivial rfl hl.1 rfl (Nat.le_of_ble_eq_true rfl) dX0_init_117 ⟨Nat.le_of_ble_eq_true rfl, Nat.le_of_ble_eq_true rfl⟩ ?_
        refine z_topi (z := (nI (cl (dirC (nI (i % 16) - x) (nI (i / 16) - z))))) ((dirC_n _ _).1) ?_
        refine lv_iload hx hb dX0_init_120 (lv_at hl 2 rfl) ?_
        refine w_callV (As := [.int (nI (cl (dirC (nI (i % 16) - x) (nI (i / 16) - z)))), .int (nI i)]) (rest := []) hF hK (c_X0_mark l D y q (.int (nI c)) (.int x) (.int z) (.int r) (.int h) (.int st) (eiS x z r i) (cl (dirC (nI (i % 16) - x) (nI (i / 16) - z))) i ((dirC_n _ _).2) (by omega)) (cwV 2 hts gX0_init_X0_mark rfl rfl rfl (by decide +kernel) ⟨Nat.le_of_ble_eq_true rfl, Nat.le_of_ble_eq_true rfl⟩) (z_recv (q := (RX0, TX0, 7)) hK (hP 0 _ rfl) rfl) ⟨hP, hz⟩ hS (fun q h => h) rfl hl.1 rfl (Nat.le_of_ble_eq_true rfl) dX0_init_122 ⟨Nat.le_of_ble_eq_true rfl, Nat.le_of_ble_eq_true rfl⟩ (fun H10 locs1 hP hz1 hk hS => ?_)
        obtain ⟨hP, hz⟩ := hP
        have hP : va_P D vwCl [(q, .inr (0, [.int (nI c), .int x, .int z, .int r, .int h, .int st, .ref (q + 1)])), (q + 1, .inl (y.2.2.1, 32, .inr (.inl (mkL (eiS x z r i) (cl (dirC (nI (i % 16) - x) (nI (i / 16) - z))) i))))] H10 := hP
        have hD : va_D (blk q 2) [(q, .inr (0, [.int (nI c), .int x, .int z, .int r, .int h, .int st, .ref (q + 1)])), (q + 1, .inl (y.2.2.1, 32, .inr (.inl (mkL (eiS x z r i) (cl (dirC (nI (i % 16) - x) (nI (i / 16) - z))) i))))] := hD.set (p := 1) rfl
        clear hz1 hk
        refine lv_iinc (v := (nI (i + 1))) (lv' := [(7, .int (nI (i + 1))), (9, .int ((nI (i / 16)) - z)), (8, .int ((nI (i % 16)) - x)), (0, .ref q), (1, .int (nI c)), (2, .int x), (3, .int z), (4, .int r), (5, .int h), (6, .int st)]) hx hb dX0_init_125 hl (k := 2) rfl (in1 _) (by decide) rfl (fun ls hl => ?_)
        refine lv_goto (tgt := 48) hx hb dX0_init_128 (by decide) ?_
        exact ih_48 (i + 1) _ _ _ (by omega) ⟨by first | (rw [ei_own ⟨c76, c81⟩]; exact hP) | (rw [ei_far (fun z => c76 z.1) c109]; exact hP) | (rw [ei_far (fun z => c81 z.2) c109]; exact hP) | (rw [ei_dir (fun z => c76 z.1) c109]; exact hP) | (rw [ei_dir (fun z => c81 z.2) c109]; exact hP), hS, ⟨by omega, hz⟩⟩ (lv_sub hl [0, 3, 4, 5, 6, 7, 8, 9] rfl)
    · refine lv_iload hx hb dX0_init_79 (lv_at hl 0 rfl) ?_
      refine lv_if_ne (tgt := 93) hx hb dX0_init_81 (by decide) (fun c81 => ?_) (fun c81 => ?_)
      · refine lv_iload hx hb dX0_init_93 (lv_at hl 1 rfl) ?_
        refine lv_iload hx hb dX0_init_95 (lv_at hl 1 rfl) ?_
        refine lv_imul hx hb dX0_init_97 ?_
        refine lv_iload hx hb dX0_init_98 (lv_at hl 0 rfl) ?_
        refine lv_iload hx hb dX0_init_100 (lv_at hl 0 rfl) ?_
        refine lv_imul hx hb dX0_init_102 ?_
        refine lv_iadd hx hb dX0_init_103 ?_
        refine lv_iload hx hb dX0_init_104 (lv_at hl 7 rfl) ?_
        refine lv_iload hx hb dX0_init_106 (lv_at hl 7 rfl) ?_
        refine lv_imul hx hb dX0_init_108 ?_
        refine lv_icmp_gt (tgt := 125) hx hb dX0_init_109 (by decide) (fun c109 => ?_) (fun c109 => ?_)
        · refine lv_iinc (v := (nI (i + 1))) (lv' := [(7, .int (nI (i + 1))), (9, .int ((nI (i / 16)) - z)), (8, .int ((nI (i % 16)) - x)), (0, .ref q), (1, .int (nI c)), (2, .int x), (3, .int z), (4, .int r), (5, .int h), (6, .int st)]) hx hb dX0_init_125 hl (k := 2) rfl (in1 _) (by decide) rfl (fun ls hl => ?_)
          refine lv_goto (tgt := 48) hx hb dX0_init_128 (by decide) ?_
          exact ih_48 (i + 1) _ _ _ (by omega) ⟨by first | (rw [ei_own ⟨c76, c81⟩]; exact hP) | (rw [ei_far (fun z => c76 z.1) c109]; exact hP) | (rw [ei_far (fun z => c81 z.2) c109]; exact hP) | (rw [ei_dir (fun z => c76 z.1) c109]; exact hP) | (rw [ei_dir (fun z => c81 z.2) c109]; exact hP), hS, ⟨by omega, hz⟩⟩ (lv_sub hl [0, 3, 4, 5, 6, 7, 8, 9] rfl)
        · refine lv_aload_n hx hb dX0_init_112 rfl (lv_at hl 3 rfl) ?_
          refine lv_iload hx hb dX0_init_113 (lv_at hl 1 rfl) ?_
          refine lv_iload hx hb dX0_init_115 (lv_at hl 0 rfl) ?_
          refine z_callS (As := [.int ((nI (i % 16)) - x), .int ((nI (i / 16)) - z)]) (rest := [.ref q]) hF hK (c_X0_directionOf l D y ((nI (i % 16)) - x) ((nI (i / 16)) - z) ) (va_cwS 2 hts gX0_init_X0_directionOf rfl rfl rfl (by decide +kernel) ⟨Nat.le_of_ble_eq_true rfl, Nat.le_of_ble_eq_true rfl⟩) trivial rfl hl.1 rfl (Nat.le_of_ble_eq_true rfl) dX0_init_117 ⟨Nat.le_of_ble_eq_true rfl, Nat.le_of_ble_eq_true rfl⟩ ?_
          refine z_topi (z := (nI (cl (dirC (nI (i % 16) - x) (nI (i / 16) - z))))) ((dirC_n _ _).1) ?_
          refine lv_iload hx hb dX0_init_120 (lv_at hl 2 rfl) ?_
          refine w_callV (As := [.int (nI (cl (dirC (nI (i % 16) - x) (nI (i / 16) - z)))), .int (nI i)]) (rest := []) hF hK (c_X0_mark l D y q (.int (nI c)) (.int x) (.int z) (.int r) (.int h) (.int st) (eiS x z r i) (cl (dirC (nI (i % 16) - x) (nI (i / 16) - z))) i ((dirC_n _ _).2) (by omega)) (cwV 2 hts gX0_init_X0_mark rfl rfl rfl (by decide +kernel) ⟨Nat.le_of_ble_eq_true rfl, Nat.le_of_ble_eq_true rfl⟩) (z_recv (q := (RX0, TX0, 7)) hK (hP 0 _ rfl) rfl) ⟨hP, hz⟩ hS (fun q h => h) rfl hl.1 rfl (Nat.le_of_ble_eq_true rfl) dX0_init_122 ⟨Nat.le_of_ble_eq_true rfl, Nat.le_of_ble_eq_true rfl⟩ (fun H11 locs1 hP hz1 hk hS => ?_)
          obtain ⟨hP, hz⟩ := hP
          have hP : va_P D vwCl [(q, .inr (0, [.int (nI c), .int x, .int z, .int r, .int h, .int st, .ref (q + 1)])), (q + 1, .inl (y.2.2.1, 32, .inr (.inl (mkL (eiS x z r i) (cl (dirC (nI (i % 16) - x) (nI (i / 16) - z))) i))))] H11 := hP
          have hD : va_D (blk q 2) [(q, .inr (0, [.int (nI c), .int x, .int z, .int r, .int h, .int st, .ref (q + 1)])), (q + 1, .inl (y.2.2.1, 32, .inr (.inl (mkL (eiS x z r i) (cl (dirC (nI (i % 16) - x) (nI (i / 16) - z))) i))))] := hD.set (p := 1) rfl
          clear hz1 hk
          refine lv_iinc (v := (nI (i + 1))) (lv' := [(7, .int (nI (i + 1))), (9, .int ((nI (i / 16)) - z)), (8, .int ((nI (i % 16)) - x)), (0, .ref q), (1, .int (nI c)), (2, .int x), (3, .int z), (4, .int r), (5, .int h), (6, .int st)]) hx hb dX0_init_125 hl (k := 2) rfl (in1 _) (by decide) rfl (fun ls hl => ?_)
          refine lv_goto (tgt := 48) hx hb dX0_init_128 (by decide) ?_
          exact ih_48 (i + 1) _ _ _ (by omega) ⟨by first | (rw [ei_own ⟨c76, c81⟩]; exact hP) | (rw [ei_far (fun z => c76 z.1) c109]; exact hP) | (rw [ei_far (fun z => c81 z.2) c109]; exact hP) | (rw [ei_dir (fun z => c76 z.1) c109]; exact hP) | (rw [ei_dir (fun z => c81 z.2) c109]; exact hP), hS, ⟨by omega, hz⟩⟩ (lv_sub hl [0, 3, 4, 5, 6, 7, 8, 9] rfl)
      · refine lv_aload_n hx hb dX0_init_84 rfl (lv_at hl 3 rfl) ?_
        refine lv_iload hx hb dX0_init_85 (lv_at hl 2 rfl) ?_
        refine w_callV (As := [.int (nI i)]) (rest := []) hF hK (c_X0_markOwnCell l D y q (.int (nI c)) (.int x) (.int z) (.int r) (.int h) (.int st) (eiS x z r i) i (by omega)) (cwV 1 hts gX0_init_X0_markOwnCell rfl rfl rfl (by decide +kernel) ⟨Nat.le_of_ble_eq_true rfl, Nat.le_of_ble_eq_true rfl⟩) (z_recv (q := (RX0, TX0, 7)) hK (hP 0 _ rfl) rfl) ⟨hP, hz⟩ hS (fun q h => h) rfl hl.1 rfl (Nat.le_of_ble_eq_true rfl) dX0_init_87 ⟨Nat.le_of_ble_eq_true rfl, Nat.le_of_ble_eq_true rfl⟩ (fun H12 locs1 hP hz1 hk hS => ?_)
        obtain ⟨hP, hz⟩ := hP
        have hP : va_P D vwCl [(q, .inr (0, [.int (nI c), .int x, .int z, .int r, .int h, .int st, .ref (q + 1)])), (q + 1, .inl (y.2.2.1, 32, .inr (.inl (mkN (eiS x z r i) i 8))))] H12 := hP
        have hD : va_D (blk q 2) [(q, .inr (0, [.int (nI c), .int x, .int z, .int r, .int h, .int st, .ref (q + 1)])), (q + 1, .inl (y.2.2.1, 32, .inr (.inl (mkN (eiS x z r i) i 8))))] := hD.set (p := 1) rfl
        clear hz1 hk
        refine lv_goto (tgt := 125) hx hb dX0_init_90 (by decide) ?_
        refine lv_iinc (v := (nI (i + 1))) (lv' := [(7, .int (nI (i + 1))), (9, .int ((nI (i / 16)) - z)), (8, .int ((nI (i % 16)) - x)), (0, .ref q), (1, .int (nI c)), (2, .int x), (3, .int z), (4, .int r), (5, .int h), (6, .int st)]) hx hb dX0_init_125 hl (k := 2) rfl (in1 _) (by decide) rfl (fun ls hl => ?_)
        refine lv_goto (tgt := 48) hx hb dX0_init_128 (by decide) ?_
        exact ih_48 (i + 1) _ _ _ (by omega) ⟨by first | (rw [ei_own ⟨c76, c81⟩]; exact hP) | (rw [ei_far (fun z => c76 z.1) c109]; exact hP) | (rw [ei_far (fun z => c81 z.2) c109]; exact hP) | (rw [ei_dir (fun z => c76 z.1) c109]; exact hP) | (rw [ei_dir (fun z => c81 z.2) c109]; exact hP), hS, ⟨by omega, hz⟩⟩ (lv_sub hl [0, 3, 4, 5, 6, 7, 8, 9] rfl)
