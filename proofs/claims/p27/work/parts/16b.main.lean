/-! THE CLASS: remember -/
theorem i_c_X4_pastAt_in_X4 : ∀ w ∈ wsX40, w ∈ wsX4_pastAt := fun w h => (List.mem_cons_of_mem _ (List.mem_append_right _ h))
set_option maxRecDepth 100000 in
set_option maxHeartbeats 4000000 in
theorem c_X4_pastAt_in (l : Launch) (D : va_G) (y : zY) (x : Nat) (kk : Int32) (pf : Nat → Option Nat) (i : Nat) (r : Nat) (hi : i < 4) (hvr : pf i = some r) : Met l yX4_pastAt wsX4_pastAt ({ frames := 0, cells := 0, slots := 0, locals := 0 }) (zP [.ref x, .int (nI i)] (fun H => va_at D vwCl (x, .inr (4, [.ref (x + 1), .ref (x + 12), .ref (x + 23), .int kk, .ref (x + 24)])) H ∧ va_at D vwCl (x + 23, .inl (y.2.2.2.2.2, 4, .inr (.inr (.inr (.inr pf))))) H) D y) (zQ (some (.ref r))) 0 0 nofree := by
  refine z_body (cc := cX4_pastAt) (maxL := 2) (ret := (some (.object "CranePermits$Site"))) (la := [(0, .ref x), (1, .int (nI i))]) (by decide) rfl (Nat.le_of_ble_eq_true rfl) rfl ?_
  intro pg ev s mm below meth c0 ls hx hb hr hF hlocks hΦ hK hl _
  have hts := hF.2.2.2.2
  have hown : s.vm.findClass RX4 = some mm.cls := hF.2.2.2.1
  refine lv_iload_n hx hb dX4_pastAt_0 rfl (lv_at hl 1 rfl) ?_
  refine n_if_lt (tgt := 22) hx hb (by omega) dX4_pastAt_1 (by decide) ?_
  refine lv_iload_n hx hb dX4_pastAt_4 rfl (lv_at hl 1 rfl) ?_
  refine lv_aload_n hx hb dX4_pastAt_5 rfl (lv_at hl 0 rfl) ?_
  refine z_get (fs := [.ref (x + 1), .ref (x + 12), .ref (x + 23), .int kk, .ref (x + 24)]) (ref := "CranePermits") (C := RX4) (T := TX4) (N := 5) (ci := 4) (v := .ref (x + 23)) hx hb hts i_c_X4_pastAt_in_X4 hown hK hΦ.1 2 (by decide) rfl (hts (.fieldLink RX4 19 "CranePermits" "past" "[LCranePermits$Site;") (List.mem_of_getElem? (i := 1) rfl)) rfl rfl dX4_pastAt_6 ?_
  refine z_alen 5 (n := 4) hx hb hK rfl hΦ.2 rfl dX4_pastAt_9 ?_
  refine z_ge (tgt := 22) hx hb (by omega) (by omega) dX4_pastAt_10 (by decide) (fun c10 => ?_) (fun c10 => ?_)
  · exact absurd c10 (by omega)
  · refine lv_aload_n hx hb dX4_pastAt_13 rfl (lv_at hl 0 rfl) ?_
    refine z_get (fs := [.ref (x + 1), .ref (x + 12), .ref (x + 23), .int kk, .ref (x + 24)]) (ref := "CranePermits") (C := RX4) (T := TX4) (N := 5) (ci := 4) (v := .ref (x + 23)) hx hb hts i_c_X4_pastAt_in_X4 hown hK hΦ.1 2 (by decide) rfl (hts (.fieldLink RX4 19 "CranePermits" "past" "[LCranePermits$Site;") (List.mem_of_getElem? (i := 1) rfl)) rfl rfl dX4_pastAt_14 ?_
    refine lv_iload_n hx hb dX4_pastAt_17 rfl (lv_at hl 1 rfl) ?_
    refine z_aald (k := 5) (f := pf) (r := r) hx hb hK rfl hΦ.2 (by omega) (by decide) (hvr) dX4_pastAt_18 ?_
    refine lv_goto (tgt := 23) hx hb dX4_pastAt_19 (by decide) ?_
    exact z_reta (r := some (r)) hx hb hr hlocks rfl (rfl) dX4_pastAt_23
set_option maxRecDepth 100000 in
set_option maxHeartbeats 4000000 in
theorem c_X4_pastAt_neg (l : Launch) (D : va_G) (y : zY) (x : Nat) (c : Int32) (hneg : c < 0) : Met l yX4_pastAt wsX4_pastAt ({ frames := 0, cells := 0, slots := 0, locals := 0 }) (zP [.ref x, .int c] zT0 D y) (zQ (some (.null))) 0 0 nofree := by
  refine z_body (cc := cX4_pastAt) (maxL := 2) (ret := (some (.object "CranePermits$Site"))) (la := [(0, .ref x), (1, .int c)]) (by decide) rfl (Nat.le_of_ble_eq_true rfl) rfl ?_
  intro pg ev s mm below meth c0 ls hx hb hr hF hlocks hΦ hK hl _
  have hts := hF.2.2.2.2
  have hown : s.vm.findClass RX4 = some mm.cls := hF.2.2.2.1
  refine lv_iload_n hx hb dX4_pastAt_0 rfl (lv_at hl 1 rfl) ?_
  refine lv_if_lt (tgt := 22) hx hb dX4_pastAt_1 (by decide) (fun c1 => ?_) (fun c1 => ?_)
  · refine lv_null hx hb dX4_pastAt_22 ?_
    exact z_reta (r := none) hx hb hr hlocks rfl (rfl) dX4_pastAt_23
  · exact absurd hneg c1
theorem i_c_X4_dropOldest_X4 : ∀ w ∈ wsX40, w ∈ wsX4_dropOldest := fun w h => (List.mem_cons_of_mem _ (List.mem_append_right _ h))
set_option maxRecDepth 100000 in
set_option maxHeartbeats 4000000 in
theorem c_X4_dropOldest (l : Launch) (D : va_G) (y : zY) (x : Nat) (bd : Nat) (kk : Int32) (pf : Nat → Option Nat) (rot : Nat) (N : Pic) (T : Pic) (P : Nat → Pic) (hps : ∀ j, j < 4 → pf j = some (x + 26 + 11 * ((j + rot) % 4))) : Met l yX4_dropOldest wsX4_dropOldest ({ frames := 1, cells := 0, slots := 0, locals := 21 }) (zP [.ref x] (fun H => va_P D vwCl (oW y x kk pf) H ∧ xS D y bd x N T P H) D y) (zW none (fun H => va_P D vwCl (oW y x (nI (4 - 1)) (va_up (shP x rot pf 3) (4 - 1) (some (x + 26 + 11 * ((0 + rot) % 4))))) H) (oB x)) 0 0 (oB x) := by
  refine z_body (cc := cX4_dropOldest) (maxL := 3) (ret := none) (la := [(0, .ref x)]) (by decide) rfl (Nat.le_of_ble_eq_true rfl) rfl ?_
  intro pg ev s mm below meth c0 ls hx hb hr hF hlocks hΦ hK hl _
  have hts := hF.2.2.2.2
  have hown : s.vm.findClass RX4 = some mm.cls := hF.2.2.2.1
  have hS : va_S (oB x) s.heap s.heap [] := va_S.rf
  have hP : va_P D vwCl (oW y x kk pf) s.heap := hΦ.1
  refine lv_aload_n hx hb dX4_dropOldest_0 rfl (lv_at hl 0 rfl) ?_
  refine lv_iconst (v := (nI 0)) hx hb dX4_dropOldest_1 (by decide) ?_
  refine z_callV (As := [.int (nI 0)]) (rest := []) hF hK (c_X4_pastAt_in l D y x kk pf 0 (x + 26 + 11 * ((0 + rot) % 4)) (by omega) (hps 0 (by omega))) (cwV 1 hts gX4_dropOldest_X4_pastAt rfl rfl rfl (by decide +kernel) ⟨Nat.le_of_ble_eq_true rfl, Nat.le_of_ble_eq_true rfl⟩) (z_recv (q := (RX4, TX4, 5)) hK (hP 0 _ rfl) rfl) ⟨hP 0 _ rfl, hP 1 _ rfl⟩ rfl hl.1 rfl (Nat.le_of_ble_eq_true rfl) dX4_dropOldest_2 ⟨Nat.zero_le _, Nat.zero_le _⟩ ?_
  refine lv_astore_n (lv' := [(1, .ref (x + 26 + 11 * ((0 + rot) % 4))), (0, .ref x)]) hx hb dX4_dropOldest_5 rfl hl (by decide) rfl (fun ls hl => ?_)
  refine lv_iconst (v := (nI 1)) hx hb dX4_dropOldest_6 (by decide) ?_
  refine lv_istore_n (lv' := [(2, .int (nI 1)), (1, .ref (x + 26 + 11 * ((0 + rot) % 4))), (0, .ref x)]) hx hb dX4_dropOldest_7 rfl hl (by decide) rfl (fun ls hl => ?_)
  have hl := lv_repl (l' := [(2, .int (nI (0 + 1))), (1, .ref (x + 26 + 11 * ((0 + rot) % 4))), (0, .ref x)]) hl 0 rfl (congrArg Value.int (show (nI 1) = (nI (0 + 1)) from rfl)) rfl
  refine z_loopW (S := Nat) (nL := 3) (fun (j : Nat) => 3 - j) (fun (j : Nat) => [(2, .int (nI (j + 1))), (0, .ref x), (1, .ref (x + 26 + 11 * ((0 + rot) % 4)))]) (fun (j : Nat) (H : Heap) (locs : List Loc) => va_P D vwCl (oW y x kk (shP x rot pf j)) H ∧ va_S (oB x) s.heap H locs ∧ (j ≤ 3)) 0 ⟨hP, hS, by omega⟩ (lv_sub hl [0, 2, 1] rfl) ?_
  clear hl hP hS
  rintro j H1 locs ls ⟨hP, hS, hI_8⟩ hl ih_8
  have hj := hI_8
  refine lv_iload_n hx hb dX4_dropOldest_8 rfl (lv_at hl 0 rfl) ?_
  refine lv_aload_n hx hb dX4_dropOldest_9 rfl (lv_at hl 1 rfl) ?_
  refine z_get (fs := [.ref (x + 1), .ref (x + 12), .ref (x + 23), .int kk, .ref (x + 24)]) (ref := "CranePermits") (C := RX4) (T := TX4) (N := 5) (ci := 4) (v := .ref (x + 23)) hx hb hts i_c_X4_dropOldest_X4 hown hK (hP 0 _ rfl) 2 (by decide) rfl (hts (.fieldLink RX4 19 "CranePermits" "past" "[LCranePermits$Site;") (List.mem_of_getElem? (i := 1) rfl)) rfl rfl dX4_dropOldest_10 ?_
  refine z_alen 5 (n := 4) hx hb hK rfl (hP 1 _ rfl) rfl dX4_dropOldest_13 ?_
  refine z_ge (tgt := 37) hx hb (by omega) (by omega) dX4_dropOldest_14 (by decide) (fun c14 => ?_) (fun c14 => ?_)
  · have hj3 : j = 3 := by omega
    subst hj3
    refine lv_aload_n hx hb dX4_dropOldest_37 rfl (lv_at hl 2 rfl) ?_
    refine lv_ifnull hx hb dX4_dropOldest_38 ?_
    refine lv_aload_n hx hb dX4_dropOldest_41 rfl (lv_at hl 1 rfl) ?_
    refine z_get (fs := [.ref (x + 1), .ref (x + 12), .ref (x + 23), .int kk, .ref (x + 24)]) (ref := "CranePermits") (C := RX4) (T := TX4) (N := 5) (ci := 4) (v := .ref (x + 23)) hx hb hts i_c_X4_dropOldest_X4 hown hK (hP 0 _ rfl) 2 (by decide) rfl (hts (.fieldLink RX4 19 "CranePermits" "past" "[LCranePermits$Site;") (List.mem_of_getElem? (i := 1) rfl)) rfl rfl dX4_dropOldest_42 ?_
    refine lv_aload_n hx hb dX4_dropOldest_45 rfl (lv_at hl 1 rfl) ?_
    refine z_get (fs := [.ref (x + 1), .ref (x + 12), .ref (x + 23), .int kk, .ref (x + 24)]) (ref := "CranePermits") (C := RX4) (T := TX4) (N := 5) (ci := 4) (v := .ref (x + 23)) hx hb hts i_c_X4_dropOldest_X4 hown hK (hP 0 _ rfl) 2 (by decide) rfl (hts (.fieldLink RX4 19 "CranePermits" "past" "[LCranePermits$Site;") (List.mem_of_getElem? (i := 1) rfl)) rfl rfl dX4_dropOldest_46 ?_
    refine z_alen 5 (n := 4) hx hb hK rfl (hP 1 _ rfl) rfl dX4_dropOldest_49 ?_
    refine lv_iconst (v := (nI 1)) hx hb dX4_dropOldest_50 (by decide) ?_
    refine z_isub hx hb (by omega) dX4_dropOldest_51 ?_
    refine lv_aload_n hx hb dX4_dropOldest_52 rfl (lv_at hl 2 rfl) ?_
    refine y_aast (a := (x + 23)) (k := 5) (f := (shP x rot pf 3)) (i := (4 - 1)) (v := (x + 26 + 11 * ((0 + rot) % 4))) hx hb hK rfl (hP 1 _ rfl) (recv_S (sD_recv hK (hΦ.2.2.2 ((0 + rot) % 4) (Nat.mod_lt _ (by decide)))) hS (oB_no (by omega))) (by omega) (by omega) dX4_dropOldest_53 (fun H2 hU hV => ?_)
    have hS := hS.upd (x := (4 - 1)) hU (Or.inr rfl)
    have hP : va_P D vwCl (oW y x kk (va_up (shP x rot pf 3) (4 - 1) (some (x + 26 + 11 * ((0 + rot) % 4))))) H2 := hP.upd (q0 := 1) oW_D rfl hU hV
    clear hU hV
    refine lv_aload_n hx hb dX4_dropOldest_54 rfl (lv_at hl 1 rfl) ?_
    refine lv_aload_n hx hb dX4_dropOldest_55 rfl (lv_at hl 1 rfl) ?_
    refine z_get (fs := [.ref (x + 1), .ref (x + 12), .ref (x + 23), .int kk, .ref (x + 24)]) (ref := "CranePermits") (C := RX4) (T := TX4) (N := 5) (ci := 4) (v := .ref (x + 23)) hx hb hts i_c_X4_dropOldest_X4 hown hK (hP 0 _ rfl) 2 (by decide) rfl (hts (.fieldLink RX4 19 "CranePermits" "past" "[LCranePermits$Site;") (List.mem_of_getElem? (i := 1) rfl)) rfl rfl dX4_dropOldest_56 ?_
    refine z_alen 5 (n := 4) hx hb hK rfl (hP 1 _ rfl) rfl dX4_dropOldest_59 ?_
    refine lv_iconst (v := (nI 1)) hx hb dX4_dropOldest_60 (by decide) ?_
    refine z_isub hx hb (by omega) dX4_dropOldest_61 ?_
    refine y_put (a := x) (fs := [.ref (x + 1), .ref (x + 12), .ref (x + 23), .int kk, .ref (x + 24)]) (ref := "CranePermits") (C := RX4) (T := TX4) (N := 5) (ci := 4) (v := .int (nI (4 - 1))) (ty := .int) hx hb hts i_c_X4_dropOldest_X4 tyX4 tyX4_ok nmX4 hown hK (hP 0 _ rfl) 3 (by decide) rfl (hts (.fieldLink RX4 23 "CranePermits" "pastCount" "I") (List.mem_of_getElem? (i := 2) rfl)) rfl rfl (by decide +kernel) (rfl) rfl (Nat.le_of_ble_eq_true rfl) dX4_dropOldest_62 (fun H3 x1 hU hV => ?_)
    have hS := hS.upd (x := x1) hU (Or.inl rfl)
    have hP : va_P D vwCl (oW y x (nI (4 - 1)) (va_up (shP x rot pf 3) (4 - 1) (some (x + 26 + 11 * ((0 + rot) % 4))))) H3 := hP.upd (q0 := 0) oW_D rfl hU hV
    clear hU hV
    exact w_retv hx hb hr hlocks hS (hP) dX4_dropOldest_65
  · refine lv_aload_n hx hb dX4_dropOldest_17 rfl (lv_at hl 1 rfl) ?_
    refine z_get (fs := [.ref (x + 1), .ref (x + 12), .ref (x + 23), .int kk, .ref (x + 24)]) (ref := "CranePermits") (C := RX4) (T := TX4) (N := 5) (ci := 4) (v := .ref (x + 23)) hx hb hts i_c_X4_dropOldest_X4 hown hK (hP 0 _ rfl) 2 (by decide) rfl (hts (.fieldLink RX4 19 "CranePermits" "past" "[LCranePermits$Site;") (List.mem_of_getElem? (i := 1) rfl)) rfl rfl dX4_dropOldest_18 ?_
    refine lv_iload_n hx hb dX4_dropOldest_21 rfl (lv_at hl 0 rfl) ?_
    refine lv_iconst (v := (nI 1)) hx hb dX4_dropOldest_22 (by decide) ?_
    refine z_isub hx hb (by omega) dX4_dropOldest_23 ?_
    refine z_topi (z := (nI j)) (rfl) ?_
    refine lv_aload_n hx hb dX4_dropOldest_24 rfl (lv_at hl 1 rfl) ?_
    refine z_get (fs := [.ref (x + 1), .ref (x + 12), .ref (x + 23), .int kk, .ref (x + 24)]) (ref := "CranePermits") (C := RX4) (T := TX4) (N := 5) (ci := 4) (v := .ref (x + 23)) hx hb hts i_c_X4_dropOldest_X4 hown hK (hP 0 _ rfl) 2 (by decide) rfl (hts (.fieldLink RX4 19 "CranePermits" "past" "[LCranePermits$Site;") (List.mem_of_getElem? (i := 1) rfl)) rfl rfl dX4_dropOldest_25 ?_
    refine lv_iload_n hx hb dX4_dropOldest_28 rfl (lv_at hl 0 rfl) ?_
    refine z_aald (k := 5) (f := (shP x rot pf j)) (r := (x + 26 + 11 * ((j + 1 + rot) % 4))) hx hb hK rfl (hP 1 _ rfl) (by omega) (by decide) (sh_at hps (by omega)) dX4_dropOldest_29 ?_
    refine y_aast (a := (x + 23)) (k := 5) (f := (shP x rot pf j)) (i := j) (v := (x + 26 + 11 * ((j + 1 + rot) % 4))) hx hb hK rfl (hP 1 _ rfl) (recv_S (sD_recv hK (hΦ.2.2.2 ((j + 1 + rot) % 4) (Nat.mod_lt _ (by decide)))) hS (oB_no (by omega))) (by omega) (by omega) dX4_dropOldest_30 (fun H4 hU hV => ?_)
    have hS := hS.upd (x := j) hU (Or.inr rfl)
    have hP : va_P D vwCl (oW y x kk (va_up (shP x rot pf j) j (some (x + 26 + 11 * ((j + 1 + rot) % 4))))) H4 := hP.upd (q0 := 1) oW_D rfl hU hV
    clear hU hV
    refine lv_iinc (v := (nI (j + 1 + 1))) (lv' := [(2, .int (nI (j + 1 + 1))), (0, .ref x), (1, .ref (x + 26 + 11 * ((0 + rot) % 4)))]) hx hb dX4_dropOldest_31 hl (k := 0) rfl (in1 _) (by decide) rfl (fun ls hl => ?_)
    refine lv_goto (tgt := 8) hx hb dX4_dropOldest_34 (by decide) ?_
    have hl := lv_repl (l' := [(2, .int (nI ((j + 1) + 1))), (0, .ref x), (1, .ref (x + 26 + 11 * ((0 + rot) % 4)))]) hl 0 rfl (congrArg Value.int (show (nI (j + 1 + 1)) = (nI ((j + 1) + 1)) from rfl)) rfl
    exact ih_8 (j + 1) _ _ _ (by omega) ⟨hP, hS, by omega⟩ (lv_sub hl [0, 1, 2] rfl)
theorem i_c_X4_remember_X4 : ∀ w ∈ wsX40, w ∈ wsX4_remember := fun w h => (List.mem_cons_of_mem _ (List.mem_append_left _ (List.mem_append_right _ h)))
set_option maxRecDepth 100000 in
set_option maxHeartbeats 4000000 in
theorem c_X4_remember (l : Launch) (D : va_G) (y : zY) (x : Nat) (bd : Nat) (d : Nat → Int32) (ca : Nat → Nat) (pa : Nat → Nat) (pk : Nat → Nat) (T : Pic) (P : Nat → Pic) (k : Nat) (rot : Nat) (len : Nat) (ts : Int32) (tn : Nat) (tx : Nat → Int32) (hJ : rJ d) (hk4 : k ≤ 4) (hbd : x + 70 ≤ bd) : Met l yX4_remember wsX4_remember ({ frames := 2, cells := 0, slots := 0, locals := 61 }) (zP [.ref x] (fun H => xO D y bd x (d, ca, pa, pk) T P k rot len ts tn tx H) D y) (zW none (fun H => xO D y bd x (d, ca, pa, pk) T (remP P k rot (d, ca, pa, pk)) (recN k) (remR k rot) len ts tn tx H) (xB x bd)) 0 0 (xB x bd) := by
  refine z_body (cc := cX4_remember) (maxL := 2) (ret := none) (la := [(0, .ref x)]) (by decide) rfl (Nat.le_of_ble_eq_true rfl) rfl ?_
  intro pg ev s mm below meth c0 ls hx hb hr hF hlocks hΦ hK hl _
  have hts := hF.2.2.2.2
  have hown : s.vm.findClass RX4 = some mm.cls := hF.2.2.2.1
  have hS : va_S (xB x bd) s.heap s.heap [] := va_S.rf
  have hI := hJ.1
  have hv24 := hJ.2.1
  have hpl := hJ.2.2.1
  have hS9 := hpl.w
  have hG2 := hI.ng2
  have hC8 := hI.nc8
  obtain ⟨pf, f2, f3, f4, f5, f6, hP, hps, hX⟩ := hΦ
  refine lv_aload_n hx hb dX4_remember_0 rfl (lv_at hl 0 rfl) ?_
  refine z_get (fs := [.ref (x + 1), .ref (x + 12), .ref (x + 23), .int (nI k), .ref (x + 24)]) (ref := "CranePermits") (C := RX4) (T := TX4) (N := 5) (ci := 4) (v := .int (nI k)) hx hb hts i_c_X4_remember_X4 hown hK (hP 0 _ rfl) 3 (by decide) rfl (hts (.fieldLink RX4 23 "CranePermits" "pastCount" "I") (List.mem_of_getElem? (i := 1) rfl)) rfl rfl dX4_remember_1 ?_
  refine lv_aload_n hx hb dX4_remember_4 rfl (lv_at hl 0 rfl) ?_
  refine z_get (fs := [.ref (x + 1), .ref (x + 12), .ref (x + 23), .int (nI k), .ref (x + 24)]) (ref := "CranePermits") (C := RX4) (T := TX4) (N := 5) (ci := 4) (v := .ref (x + 23)) hx hb hts i_c_X4_remember_X4 hown hK (hP 0 _ rfl) 2 (by decide) rfl (hts (.fieldLink RX4 19 "CranePermits" "past" "[LCranePermits$Site;") (List.mem_of_getElem? (i := 2) rfl)) rfl rfl dX4_remember_5 ?_
  refine z_alen 5 (n := 4) hx hb hK rfl (hP 1 _ rfl) rfl dX4_remember_8 ?_
  refine z_lt (tgt := 16) hx hb (by omega) (by omega) dX4_remember_9 (by decide) (fun c9 => ?_) (fun c9 => ?_)
  · refine lv_aload_n hx hb dX4_remember_16 rfl (lv_at hl 0 rfl) ?_
    refine lv_aload_n hx hb dX4_remember_17 rfl (lv_at hl 0 rfl) ?_
    refine z_get (fs := [.ref (x + 1), .ref (x + 12), .ref (x + 23), .int (nI k), .ref (x + 24)]) (ref := "CranePermits") (C := RX4) (T := TX4) (N := 5) (ci := 4) (v := .int (nI k)) hx hb hts i_c_X4_remember_X4 hown hK (hP 0 _ rfl) 3 (by decide) rfl (hts (.fieldLink RX4 23 "CranePermits" "pastCount" "I") (List.mem_of_getElem? (i := 1) rfl)) rfl rfl dX4_remember_18 ?_
    refine z_callV (As := [.int (nI k)]) (rest := []) hF hK (c_X4_pastAt_in l D y x (nI k) pf k (x + 26 + 11 * ((k + rot) % 4)) (by omega) (hps k (by omega))) (cwV 1 hts gX4_remember_X4_pastAt rfl rfl rfl (by decide +kernel) ⟨Nat.le_of_ble_eq_true rfl, Nat.le_of_ble_eq_true rfl⟩) (z_recv (q := (RX4, TX4, 5)) hK (hP 0 _ rfl) rfl) ⟨hP 0 _ rfl, hP 1 _ rfl⟩ rfl hl.1 rfl (Nat.le_of_ble_eq_true rfl) dX4_remember_21 ⟨Nat.zero_le _, Nat.zero_le _⟩ ?_
    refine lv_astore_n (lv' := [(1, .ref (x + 26 + 11 * ((k + rot) % 4))), (0, .ref x)]) hx hb dX4_remember_24 rfl hl (by decide) rfl (fun ls hl => ?_)
    refine lv_aload_n hx hb dX4_remember_25 rfl (lv_at hl 0 rfl) ?_
    refine lv_ifnull hx hb dX4_remember_26 ?_
    refine lv_aload_n hx hb dX4_remember_29 rfl (lv_at hl 0 rfl) ?_
    refine lv_aload_n hx hb dX4_remember_30 rfl (lv_at hl 1 rfl) ?_
    refine z_get (fs := [.ref (x + 1), .ref (x + 12), .ref (x + 23), .int (nI k), .ref (x + 24)]) (ref := "CranePermits") (C := RX4) (T := TX4) (N := 5) (ci := 4) (v := .ref (x + 1)) hx hb hts i_c_X4_remember_X4 hown hK (hP 0 _ rfl) 0 (by decide) rfl (hts (.fieldLink RX4 10 "CranePermits" "now" "LCranePermits$Site;") (List.mem_of_getElem? (i := 3) rfl)) rfl rfl dX4_remember_31 ?_
    refine w_callV (As := [.ref (x + 1)]) (rest := []) hF hK (c_X2_copyFrom l D y bd (x + 26 + 11 * ((k + rot) % 4)) (x + 1) ((P ((k + rot) % 4)).1) ((P ((k + rot) % 4)).2.1) ((P ((k + rot) % 4)).2.2.1) ((P ((k + rot) % 4)).2.2.2) d ca pa pk (by omega) (by omega) (by omega) (hC8) (hG2) (hv24)) (cwV 1 hts gX4_remember_X2_copyFrom rfl rfl rfl (by decide +kernel) ⟨Nat.le_of_ble_eq_true rfl, Nat.le_of_ble_eq_true rfl⟩) (sD_recv hK (hX.2.2 ((k + rot) % 4) (Nat.mod_lt _ (by decide)))) ⟨(hX.2.2 ((k + rot) % 4) (Nat.mod_lt _ (by decide))), hX.1⟩ hS (fun q h => xb_2 (by omega) (by omega) (by omega) (by omega) h) rfl hl.1 rfl (Nat.le_of_ble_eq_true rfl) dX4_remember_34 ⟨Nat.zero_le _, Nat.zero_le _⟩ (fun H1 locs1 hq hz1 hk hS => ?_)
    have hP := xW7_k hP hk (nA_PN ((k + rot) % 4))
    have hX : xS D y bd x (d, ca, pa, pk) T (va_up P ((k + rot) % 4) (d, ca, pa, pk)) H1 := hX.setPN hbd ((k + rot) % 4) (Nat.mod_lt _ (by decide)) hk (show sP D y bd (x + 26 + 11 * ((k + rot) % 4)) (d, ca, pa, pk) H1 from hq.1) (show sP D y bd (x + 1) (d, ca, pa, pk) H1 from hq.2)
    clear hq hz1 hk
    refine lv_aload_n hx hb dX4_remember_37 rfl (lv_at hl 1 rfl) ?_
    refine lv_dup hx hb dX4_remember_38 rfl ?_
    refine z_get (fs := [.ref (x + 1), .ref (x + 12), .ref (x + 23), .int (nI k), .ref (x + 24)]) (ref := "CranePermits") (C := RX4) (T := TX4) (N := 5) (ci := 4) (v := .int (nI k)) hx hb hts i_c_X4_remember_X4 hown hK (hP 0 _ rfl) 3 (by decide) rfl (hts (.fieldLink RX4 23 "CranePermits" "pastCount" "I") (List.mem_of_getElem? (i := 1) rfl)) rfl rfl dX4_remember_39 ?_
    refine lv_iconst (v := (nI 1)) hx hb dX4_remember_42 (by decide) ?_
    refine z_iadd hx hb dX4_remember_43 ?_
    refine y_put (a := x) (fs := [.ref (x + 1), .ref (x + 12), .ref (x + 23), .int (nI k), .ref (x + 24)]) (ref := "CranePermits") (C := RX4) (T := TX4) (N := 5) (ci := 4) (v := .int (nI (k + 1))) (ty := .int) hx hb hts i_c_X4_remember_X4 tyX4 tyX4_ok nmX4 hown hK (hP 0 _ rfl) 3 (by decide) rfl (hts (.fieldLink RX4 23 "CranePermits" "pastCount" "I") (List.mem_of_getElem? (i := 1) rfl)) rfl rfl (by decide +kernel) (rfl) rfl (Nat.le_of_ble_eq_true rfl) dX4_remember_44 (fun H2 x1 hU hV => ?_)
    have hS := hS.upd (x := x1) hU (xb_0)
    have hX := hX.upd hbd 0 (by decide) hU
    have hP : va_P D vwCl (xW7 y x (nI (k + 1)) pf (nI len) ts (nI tn) (bI f2) f3 f4 f5 f6 tx) H2 := hP.upd (q0 := 0) xW7_D rfl hU hV
    clear hU hV
    exact w_retv hx hb hr hlocks hS (by first | (rw [(rem_n (P := P) (rot := rot) (N := (d, ca, pa, pk)) c9).1, (rem_n (P := P) (rot := rot) (N := (d, ca, pa, pk)) c9).2.1, (rem_n (P := P) (rot := rot) (N := (d, ca, pa, pk)) c9).2.2]; exact ⟨_, _, _, _, _, _, hP, hps, hX⟩) | exact ⟨_, _, _, _, _, _, hP, hps, hX⟩) dX4_remember_47
  · have hk4e : k = 4 := by omega
    subst hk4e
    refine lv_aload_n hx hb dX4_remember_12 rfl (lv_at hl 0 rfl) ?_
    refine w_callV (As := []) (rest := []) hF hK (c_X4_dropOldest l D y x bd (nI 4) pf rot (d, ca, pa, pk) T P (hps)) (cwV 0 hts gX4_remember_X4_dropOldest rfl rfl rfl (by decide +kernel) ⟨Nat.le_of_ble_eq_true rfl, Nat.le_of_ble_eq_true rfl⟩) (z_recv (q := (RX4, TX4, 5)) hK (hP 0 _ rfl) rfl) ⟨xW7_o hP, hX⟩ hS (fun q h => h.elim (fun e => by rw [e]; exact xb_0) (fun e => by rw [e]; exact xb_k (by decide))) rfl hl.1 rfl (Nat.le_of_ble_eq_true rfl) dX4_remember_13 ⟨Nat.zero_le _, Nat.zero_le _⟩ (fun H3 locs1 hq hz1 hk hS => ?_)
    have hP : va_P D vwCl (xW7 y x (nI (4 - 1)) (va_up (shP x rot pf 3) (4 - 1) (some (x + 26 + 11 * ((0 + rot) % 4)))) (nI len) ts (nI tn) (bI f2) f3 f4 f5 f6 tx) H3 := xW7_so hP hk hq
    have hX := hX.keep hk (fun q a b => oB_no (by omega)) (fun q a b => oB_no (by omega)) (fun q a => oB_no (by omega))
    have hps := sh_rot hps
    clear hq hz1 hk
    refine lv_aload_n hx hb dX4_remember_16 rfl (lv_at hl 0 rfl) ?_
    refine lv_aload_n hx hb dX4_remember_17 rfl (lv_at hl 0 rfl) ?_
    refine z_get (fs := [.ref (x + 1), .ref (x + 12), .ref (x + 23), .int (nI (4 - 1)), .ref (x + 24)]) (ref := "CranePermits") (C := RX4) (T := TX4) (N := 5) (ci := 4) (v := .int (nI (4 - 1))) hx hb hts i_c_X4_remember_X4 hown hK (hP 0 _ rfl) 3 (by decide) rfl (hts (.fieldLink RX4 23 "CranePermits" "pastCount" "I") (List.mem_of_getElem? (i := 1) rfl)) rfl rfl dX4_remember_18 ?_
    refine z_callV (As := [.int (nI (4 - 1))]) (rest := []) hF hK (c_X4_pastAt_in l D y x (nI (4 - 1)) (va_up (shP x rot pf 3) (4 - 1) (some (x + 26 + 11 * ((0 + rot) % 4)))) (4 - 1) (x + 26 + 11 * ((4 - 1 + (rot + 1)) % 4)) (by omega) (hps (4 - 1) (by omega))) (cwV 1 hts gX4_remember_X4_pastAt rfl rfl rfl (by decide +kernel) ⟨Nat.le_of_ble_eq_true rfl, Nat.le_of_ble_eq_true rfl⟩) (z_recv (q := (RX4, TX4, 5)) hK (hP 0 _ rfl) rfl) ⟨hP 0 _ rfl, hP 1 _ rfl⟩ rfl hl.1 rfl (Nat.le_of_ble_eq_true rfl) dX4_remember_21 ⟨Nat.zero_le _, Nat.zero_le _⟩ ?_
    refine lv_astore_n (lv' := [(1, .ref (x + 26 + 11 * ((4 - 1 + (rot + 1)) % 4))), (0, .ref x)]) hx hb dX4_remember_24 rfl hl (by decide) rfl (fun ls hl => ?_)
    refine lv_aload_n hx hb dX4_remember_25 rfl (lv_at hl 0 rfl) ?_
    refine lv_ifnull hx hb dX4_remember_26 ?_
    refine lv_aload_n hx hb dX4_remember_29 rfl (lv_at hl 0 rfl) ?_
    refine lv_aload_n hx hb dX4_remember_30 rfl (lv_at hl 1 rfl) ?_
    refine z_get (fs := [.ref (x + 1), .ref (x + 12), .ref (x + 23), .int (nI (4 - 1)), .ref (x + 24)]) (ref := "CranePermits") (C := RX4) (T := TX4) (N := 5) (ci := 4) (v := .ref (x + 1)) hx hb hts i_c_X4_remember_X4 hown hK (hP 0 _ rfl) 0 (by decide) rfl (hts (.fieldLink RX4 10 "CranePermits" "now" "LCranePermits$Site;") (List.mem_of_getElem? (i := 3) rfl)) rfl rfl dX4_remember_31 ?_
    refine w_callV (As := [.ref (x + 1)]) (rest := []) hF hK (c_X2_copyFrom l D y bd (x + 26 + 11 * ((4 - 1 + (rot + 1)) % 4)) (x + 1) ((P ((4 - 1 + (rot + 1)) % 4)).1) ((P ((4 - 1 + (rot + 1)) % 4)).2.1) ((P ((4 - 1 + (rot + 1)) % 4)).2.2.1) ((P ((4 - 1 + (rot + 1)) % 4)).2.2.2) d ca pa pk (by omega) (by omega) (by omega) (hC8) (hG2) (hv24)) (cwV 1 hts gX4_remember_X2_copyFrom rfl rfl rfl (by decide +kernel) ⟨Nat.le_of_ble_eq_true rfl, Nat.le_of_ble_eq_true rfl⟩) (sD_recv hK (hX.2.2 ((4 - 1 + (rot + 1)) % 4) (Nat.mod_lt _ (by decide)))) ⟨(hX.2.2 ((4 - 1 + (rot + 1)) % 4) (Nat.mod_lt _ (by decide))), hX.1⟩ hS (fun q h => xb_2 (by omega) (by omega) (by omega) (by omega) h) rfl hl.1 rfl (Nat.le_of_ble_eq_true rfl) dX4_remember_34 ⟨Nat.zero_le _, Nat.zero_le _⟩ (fun H4 locs1 hq hz1 hk hS => ?_)
    have hP := xW7_k hP hk (nA_PN ((4 - 1 + (rot + 1)) % 4))
    have hX : xS D y bd x (d, ca, pa, pk) T (va_up P ((4 - 1 + (rot + 1)) % 4) (d, ca, pa, pk)) H4 := hX.setPN hbd ((4 - 1 + (rot + 1)) % 4) (Nat.mod_lt _ (by decide)) hk (show sP D y bd (x + 26 + 11 * ((4 - 1 + (rot + 1)) % 4)) (d, ca, pa, pk) H4 from hq.1) (show sP D y bd (x + 1) (d, ca, pa, pk) H4 from hq.2)
    clear hq hz1 hk
    refine lv_aload_n hx hb dX4_remember_37 rfl (lv_at hl 1 rfl) ?_
    refine lv_dup hx hb dX4_remember_38 rfl ?_
    refine z_get (fs := [.ref (x + 1), .ref (x + 12), .ref (x + 23), .int (nI (4 - 1)), .ref (x + 24)]) (ref := "CranePermits") (C := RX4) (T := TX4) (N := 5) (ci := 4) (v := .int (nI (4 - 1))) hx hb hts i_c_X4_remember_X4 hown hK (hP 0 _ rfl) 3 (by decide) rfl (hts (.fieldLink RX4 23 "CranePermits" "pastCount" "I") (List.mem_of_getElem? (i := 1) rfl)) rfl rfl dX4_remember_39 ?_
    refine lv_iconst (v := (nI 1)) hx hb dX4_remember_42 (by decide) ?_
    refine z_iadd hx hb dX4_remember_43 ?_
    refine y_put (a := x) (fs := [.ref (x + 1), .ref (x + 12), .ref (x + 23), .int (nI (4 - 1)), .ref (x + 24)]) (ref := "CranePermits") (C := RX4) (T := TX4) (N := 5) (ci := 4) (v := .int (nI ((4 - 1) + 1))) (ty := .int) hx hb hts i_c_X4_remember_X4 tyX4 tyX4_ok nmX4 hown hK (hP 0 _ rfl) 3 (by decide) rfl (hts (.fieldLink RX4 23 "CranePermits" "pastCount" "I") (List.mem_of_getElem? (i := 1) rfl)) rfl rfl (by decide +kernel) (rfl) rfl (Nat.le_of_ble_eq_true rfl) dX4_remember_44 (fun H5 x1 hU hV => ?_)
    have hS := hS.upd (x := x1) hU (xb_0)
    have hX := hX.upd hbd 0 (by decide) hU
    have hP : va_P D vwCl (xW7 y x (nI ((4 - 1) + 1)) (va_up (shP x rot pf 3) (4 - 1) (some (x + 26 + 11 * ((0 + rot) % 4)))) (nI len) ts (nI tn) (bI f2) f3 f4 f5 f6 tx) H5 := hP.upd (q0 := 0) xW7_D rfl hU hV
    clear hU hV
    exact w_retv hx hb hr hlocks hS (by first | (rw [(rem_n (P := P) (rot := rot) (N := (d, ca, pa, pk)) c9).1, (rem_n (P := P) (rot := rot) (N := (d, ca, pa, pk)) c9).2.1, (rem_n (P := P) (rot := rot) (N := (d, ca, pa, pk)) c9).2.2]; exact ⟨_, _, _, _, _, _, hP, hps, hX⟩) | exact ⟨_, _, _, _, _, _, hP, hps, hX⟩) dX4_remember_47
