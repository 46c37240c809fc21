/-! THE CLASS: remember -/
theorem i_c_X4_remember_X4 : ∀ w ∈ wsX40, w ∈ wsX4_remember := fun w h => (List.mem_cons_of_mem _ (List.mem_append_left _ (List.mem_append_right _ h)))
set_option maxRecDepth 100000 in
set_option maxHeartbeats 4000000 in
theorem c_X4_remember (l : Launch) (D : va_G) (y : zY) (x : Nat) (bd : Nat) (d : Nat → Int32) (ca : Nat → Nat) (pa : Nat → Nat) (pk : Nat → Nat) (T : Pic) (P : Nat → Pic) (k : Nat) (rot : Nat) (len : Nat) (ts : Int32) (tn : Nat) (tx : Nat → Int32) (hJ : rJ d) (hk4 : k ≤ 4) (hbd : x + 70 ≤ bd) : Met l yX4_remember wsX4_remember ({ frames := 2, cells := 0, slots := 0, locals := 61 }) (zP [.ref x] (fun H => xO D y bd x (d, ca, pa, pk) T P k rot len ts tn tx H) D y) (zW none (fun H => xO D y bd x (d, ca, pa, pk) T (remP P k rot (d, ca, pa, pk)) (recN k) (remR k rot) len ts tn tx H) (xB x bd)) 0 0 (xB x bd) := by
  refine z_body (cc := cX4_remember) (maxL := 2) (ret := none) (la := [(0, .ref x)]) (by decide) rfl (Nat.le_of_ble_eq_true rfl) rfl ?_
  intro pg ev s mm below meth c0 ls hx hb hr hF hlocks hΦ hK hl _
  have hts := hF.2.2.2.2
  have hown : s.vm.findClass RX4 = some mm.cls := hF.2.2.2.1
  have hS : va_S (xB x bd) s.heap s.heap [] := va_S.rf
  have hI := hJ.1
  have hv24 := hJ.2.1
  have hpl := hJ.2.2.1
  have hS9 := hpl.w
  have hG2 := hI.ng2
  have hC8 := hI.nc8
  obtain ⟨pf, f2, f3, f4, f5, f6, hP, hps, hX⟩ := hΦ
  refine lv_aload_n hx hb dX4_remember_0 rfl (lv_at hl 0 rfl) ?_
  refine z_get (fs := [.ref (x + 1), .ref (x + 12), .ref (x + 23), .int (nI k), .ref (x + 24)]) (ref := "CranePermits") (C := RX4) (T := TX4) (N := 5) (ci := 4) (v := .int (nI k)) hx hb hts i_c_X4_remember_X4 hown hK (hP 0 _ rfl) 3 (by decide) rfl (hts (.fieldLink RX4 23 "CranePermits" "pastCount" "I") (List.mem_of_getElem? (i := 1) rfl)) rfl rfl dX4_remember_1 ?_
  refine lv_aload_n hx hb dX4_remember_4 rfl (lv_at hl 0 rfl) ?_
  refine z_get (fs := [.ref (x + 1), .ref (x + 12), .ref (x + 23), .int (nI k), .ref (x + 24)]) (ref := "CranePermits") (C := RX4) (T := TX4) (N := 5) (ci := 4) (v := .ref (x + 23)) hx hb hts i_c_X4_remember_X4 hown hK (hP 0 _ rfl) 2 (by decide) rfl (hts (.fieldLink RX4 19 "CranePermits" "past" "[LCranePermits$Site;") (List.mem_of_getElem? (i := 2) rfl)) rfl rfl dX4_remember_5 ?_
  refine z_alen 5 (n := 4) hx hb hK rfl (hP 1 _ rfl) rfl dX4_remember_8 ?_
  refine z_lt (tgt := 63) hx hb (by omega) (by omega) dX4_remember_9 (by decide) (fun c9 => ?_) (fun c9 => ?_)
  · refine lv_aload_n hx hb dX4_remember_63 rfl (lv_at hl 0 rfl) ?_
    refine z_get (fs := [.ref (x + 1), .ref (x + 12), .ref (x + 23), .int (nI k), .ref (x + 24)]) (ref := "CranePermits") (C := RX4) (T := TX4) (N := 5) (ci := 4) (v := .int (nI k)) hx hb hts i_c_X4_remember_X4 hown hK (hP 0 _ rfl) 3 (by decide) rfl (hts (.fieldLink RX4 23 "CranePermits" "pastCount" "I") (List.mem_of_getElem? (i := 1) rfl)) rfl rfl dX4_remember_64 ?_
    refine n_if_lt (tgt := 96) hx hb (by omega) dX4_remember_67 (by decide) ?_
    refine lv_aload_n hx hb dX4_remember_70 rfl (lv_at hl 0 rfl) ?_
    refine z_get (fs := [.ref (x + 1), .ref (x + 12), .ref (x + 23), .int (nI k), .ref (x + 24)]) (ref := "CranePermits") (C := RX4) (T := TX4) (N := 5) (ci := 4) (v := .ref (x + 23)) hx hb hts i_c_X4_remember_X4 hown hK (hP 0 _ rfl) 2 (by decide) rfl (hts (.fieldLink RX4 19 "CranePermits" "past" "[LCranePermits$Site;") (List.mem_of_getElem? (i := 2) rfl)) rfl rfl dX4_remember_71 ?_
    refine lv_aload_n hx hb dX4_remember_74 rfl (lv_at hl 0 rfl) ?_
    refine z_get (fs := [.ref (x + 1), .ref (x + 12), .ref (x + 23), .int (nI k), .ref (x + 24)]) (ref := "CranePermits") (C := RX4) (T := TX4) (N := 5) (ci := 4) (v := .int (nI k)) hx hb hts i_c_X4_remember_X4 hown hK (hP 0 _ rfl) 3 (by decide) rfl (hts (.fieldLink RX4 23 "CranePermits" "pastCount" "I") (List.mem_of_getElem? (i := 1) rfl)) rfl rfl dX4_remember_75 ?_
    refine z_aald (k := 5) (f := pf) (r := (x + 26 + 11 * ((k + rot) % 4))) hx hb hK rfl (hP 1 _ rfl) (by omega) (by decide) (hps k (by omega)) dX4_remember_78 ?_
    refine lv_aload_n hx hb dX4_remember_79 rfl (lv_at hl 0 rfl) ?_
    refine z_get (fs := [.ref (x + 1), .ref (x + 12), .ref (x + 23), .int (nI k), .ref (x + 24)]) (ref := "CranePermits") (C := RX4) (T := TX4) (N := 5) (ci := 4) (v := .ref (x + 1)) hx hb hts i_c_X4_remember_X4 hown hK (hP 0 _ rfl) 0 (by decide) rfl (hts (.fieldLink RX4 10 "CranePermits" "now" "LCranePermits$Site;") (List.mem_of_getElem? (i := 7) rfl)) rfl rfl dX4_remember_80 ?_
    refine w_callV (As := [.ref (x + 1)]) (rest := []) hF hK (c_X2_copyFrom l D y bd (x + 26 + 11 * ((k + rot) % 4)) (x + 1) ((P ((k + rot) % 4)).1) ((P ((k + rot) % 4)).2.1) ((P ((k + rot) % 4)).2.2.1) ((P ((k + rot) % 4)).2.2.2) d ca pa pk (by omega) (by omega) (by omega) (hC8) (hG2) (hv24)) (cwV 1 hts gX4_remember_X2_copyFrom rfl rfl rfl (by decide +kernel) ⟨Nat.le_of_ble_eq_true rfl, Nat.le_of_ble_eq_true rfl⟩) (sD_recv hK (hX.2.2 ((k + rot) % 4) (Nat.mod_lt _ (by decide)))) ⟨(hX.2.2 ((k + rot) % 4) (Nat.mod_lt _ (by decide))), hX.1⟩ hS (fun q h => xb_2 (by omega) (by omega) (by omega) (by omega) h) rfl hl.1 rfl (Nat.le_of_ble_eq_true rfl) dX4_remember_83 ⟨Nat.zero_le _, Nat.zero_le _⟩ (fun H1 locs1 hq hz1 hk hS => ?_)
    have hP := xW7_k hP hk (nA_PN ((k + rot) % 4))
    have hX : xS D y bd x (d, ca, pa, pk) T (va_up P ((k + rot) % 4) (d, ca, pa, pk)) H1 := hX.setPN hbd ((k + rot) % 4) (Nat.mod_lt _ (by decide)) hk (show sP D y bd (x + 26 + 11 * ((k + rot) % 4)) (d, ca, pa, pk) H1 from hq.1) (show sP D y bd (x + 1) (d, ca, pa, pk) H1 from hq.2)
    clear hq hz1 hk
    refine lv_aload_n hx hb dX4_remember_86 rfl (lv_at hl 0 rfl) ?_
    refine lv_dup hx hb dX4_remember_87 rfl ?_
    refine z_get (fs := [.ref (x + 1), .ref (x + 12), .ref (x + 23), .int (nI k), .ref (x + 24)]) (ref := "CranePermits") (C := RX4) (T := TX4) (N := 5) (ci := 4) (v := .int (nI k)) hx hb hts i_c_X4_remember_X4 hown hK (hP 0 _ rfl) 3 (by decide) rfl (hts (.fieldLink RX4 23 "CranePermits" "pastCount" "I") (List.mem_of_getElem? (i := 1) rfl)) rfl rfl dX4_remember_88 ?_
    refine lv_iconst (v := (nI 1)) hx hb dX4_remember_91 (by decide) ?_
    refine z_iadd hx hb dX4_remember_92 ?_
    refine y_put (a := x) (fs := [.ref (x + 1), .ref (x + 12), .ref (x + 23), .int (nI k), .ref (x + 24)]) (ref := "CranePermits") (C := RX4) (T := TX4) (N := 5) (ci := 4) (v := .int (nI (k + 1))) (ty := .int) hx hb hts i_c_X4_remember_X4 tyX4 tyX4_ok nmX4 hown hK (hP 0 _ rfl) 3 (by decide) rfl (hts (.fieldLink RX4 23 "CranePermits" "pastCount" "I") (List.mem_of_getElem? (i := 1) rfl)) rfl rfl (by decide +kernel) (rfl) rfl (Nat.le_of_ble_eq_true rfl) dX4_remember_93 (fun H2 x1 hU hV => ?_)
    have hS := hS.upd (x := x1) hU (xb_0)
    have hX := hX.upd hbd 0 (by decide) hU
    have hP : va_P D vwCl (xW7 y x (nI (k + 1)) pf (nI len) ts (nI tn) (bI f2) f3 f4 f5 f6 tx) H2 := hP.upd (q0 := 0) xW7_D rfl hU hV
    clear hU hV
    exact w_retv hx hb hr hlocks hS (by first | (rw [(rem_n (P := P) (rot := rot) (N := (d, ca, pa, pk)) c9).1, (rem_n (P := P) (rot := rot) (N := (d, ca, pa, pk)) c9).2.1, (rem_n (P := P) (rot := rot) (N := (d, ca, pa, pk)) c9).2.2]; exact ⟨_, _, _, _, _, _, hP, hps, hX⟩) | exact ⟨_, _, _, _, _, _, hP, hps, hX⟩) dX4_remember_96
  · have hk4e : k = 4 := by omega
    subst hk4e
    refine lv_aload_n hx hb dX4_remember_12 rfl (lv_at hl 0 rfl) ?_
    refine z_get (fs := [.ref (x + 1), .ref (x + 12), .ref (x + 23), .int (nI 4), .ref (x + 24)]) (ref := "CranePermits") (C := RX4) (T := TX4) (N := 5) (ci := 4) (v := .ref (x + 23)) hx hb hts i_c_X4_remember_X4 hown hK (hP 0 _ rfl) 2 (by decide) rfl (hts (.fieldLink RX4 19 "CranePermits" "past" "[LCranePermits$Site;") (List.mem_of_getElem? (i := 2) rfl)) rfl rfl dX4_remember_13 ?_
    refine lv_iconst (v := (nI 0)) hx hb dX4_remember_16 (by decide) ?_
    refine z_aald (k := 5) (f := pf) (r := (x + 26 + 11 * ((0 + rot) % 4))) hx hb hK rfl (hP 1 _ rfl) (by omega) (by decide) (hps 0 (by omega)) dX4_remember_17 ?_
    refine lv_astore_n (lv' := [(1, .ref (x + 26 + 11 * ((0 + rot) % 4))), (0, .ref x)]) hx hb dX4_remember_18 rfl hl (by decide) rfl (fun ls hl => ?_)
    refine lv_aload_n hx hb dX4_remember_19 rfl (lv_at hl 1 rfl) ?_
    refine z_get (fs := [.ref (x + 1), .ref (x + 12), .ref (x + 23), .int (nI 4), .ref (x + 24)]) (ref := "CranePermits") (C := RX4) (T := TX4) (N := 5) (ci := 4) (v := .ref (x + 23)) hx hb hts i_c_X4_remember_X4 hown hK (hP 0 _ rfl) 2 (by decide) rfl (hts (.fieldLink RX4 19 "CranePermits" "past" "[LCranePermits$Site;") (List.mem_of_getElem? (i := 2) rfl)) rfl rfl dX4_remember_20 ?_
    refine lv_iconst (v := (nI 1)) hx hb dX4_remember_23 (by decide) ?_
    refine lv_aload_n hx hb dX4_remember_24 rfl (lv_at hl 1 rfl) ?_
    refine z_get (fs := [.ref (x + 1), .ref (x + 12), .ref (x + 23), .int (nI 4), .ref (x + 24)]) (ref := "CranePermits") (C := RX4) (T := TX4) (N := 5) (ci := 4) (v := .ref (x + 23)) hx hb hts i_c_X4_remember_X4 hown hK (hP 0 _ rfl) 2 (by decide) rfl (hts (.fieldLink RX4 19 "CranePermits" "past" "[LCranePermits$Site;") (List.mem_of_getElem? (i := 2) rfl)) rfl rfl dX4_remember_25 ?_
    refine lv_iconst (v := (nI 0)) hx hb dX4_remember_28 (by decide) ?_
    refine lv_aload_n hx hb dX4_remember_29 rfl (lv_at hl 1 rfl) ?_
    refine z_get (fs := [.ref (x + 1), .ref (x + 12), .ref (x + 23), .int (nI 4), .ref (x + 24)]) (ref := "CranePermits") (C := RX4) (T := TX4) (N := 5) (ci := 4) (v := .ref (x + 23)) hx hb hts i_c_X4_remember_X4 hown hK (hP 0 _ rfl) 2 (by decide) rfl (hts (.fieldLink RX4 19 "CranePermits" "past" "[LCranePermits$Site;") (List.mem_of_getElem? (i := 2) rfl)) rfl rfl dX4_remember_30 ?_
    refine z_alen 5 (n := 4) hx hb hK rfl (hP 1 _ rfl) rfl dX4_remember_33 ?_
    refine lv_iconst (v := (nI 1)) hx hb dX4_remember_34 (by decide) ?_
    refine z_isub hx hb (by omega) dX4_remember_35 ?_
    have hP9 : va_P D vwCl [(x + 23, .inl (y.2.2.2.2.2, 4, .inr (.inr (.inr (.inr pf)))))] s.heap := z_one (hP 1 _ rfl)
    refine va_copyq hx hb (hF.2.2.1.trans hl.1.symm) hown (hts (.methodLink RX4 261 arraycopyName) (List.mem_of_getElem? (i := 3) rfl)) (hts (.native arraycopyName) (List.mem_of_getElem? (i := 4) rfl)) (hts (.static arraycopyName) (List.mem_of_getElem? (i := 5) rfl)) (hts (.initialized "java/lang/System") (List.mem_of_getElem? (i := 6) rfl)) hK.1 hP9 (va_D_one (A := fun q => q = x + 23) rfl) va_S.rf 0 0 5 5 (f := pf) (g := pf) (C := RX2) rfl rfl rfl rfl (by decide) (by decide) (by decide) (by decide) (by decide) (fun i hi q hq => past_el hK hps hX (j := 1 + i) (by have : i < 3 := hi; omega) hq) (fun comp c0 h1 h2 => by rw [Option.some.inj (h2.symm.trans h1)]; exact va_asg _ _) (by decide) (by decide) dX4_remember_36 (fun H3 locs1 hP8 _ hS8 => ?_)
    have hk : ∀ q : Nat, q < s.heap.size → ¬ (q = x + 23) → H3[q]? = s.heap[q]? := fun q h1 h2 => hS8.2.1 q h1 h2
    have hS : va_S (xB x bd) s.heap H3 locs1 := hS8.mono (fun q h => by rw [h]; exact xb_k (by decide))
    have hX := hX.keep hk (fun q a b => by omega) (fun q a b => by omega) (fun q a => by omega)
    have hP : va_P D vwCl (xW7 y x (nI 4) (va_cpy pf pf 1 0 (4 - 1)) (nI len) ts (nI tn) (bI f2) f3 f4 f5 f6 tx) H3 := hP.callset (q0 := 1) xW7_D rfl hk (hP8 0 _ rfl)
    clear hP8 hP9 hS8 hk
    refine lv_aload_n hx hb dX4_remember_39 rfl (lv_at hl 1 rfl) ?_
    refine z_get (fs := [.ref (x + 1), .ref (x + 12), .ref (x + 23), .int (nI 4), .ref (x + 24)]) (ref := "CranePermits") (C := RX4) (T := TX4) (N := 5) (ci := 4) (v := .ref (x + 23)) hx hb hts i_c_X4_remember_X4 hown hK (hP 0 _ rfl) 2 (by decide) rfl (hts (.fieldLink RX4 19 "CranePermits" "past" "[LCranePermits$Site;") (List.mem_of_getElem? (i := 2) rfl)) rfl rfl dX4_remember_40 ?_
    refine lv_aload_n hx hb dX4_remember_43 rfl (lv_at hl 1 rfl) ?_
    refine z_get (fs := [.ref (x + 1), .ref (x + 12), .ref (x + 23), .int (nI 4), .ref (x + 24)]) (ref := "CranePermits") (C := RX4) (T := TX4) (N := 5) (ci := 4) (v := .ref (x + 23)) hx hb hts i_c_X4_remember_X4 hown hK (hP 0 _ rfl) 2 (by decide) rfl (hts (.fieldLink RX4 19 "CranePermits" "past" "[LCranePermits$Site;") (List.mem_of_getElem? (i := 2) rfl)) rfl rfl dX4_remember_44 ?_
    refine z_alen 5 (n := 4) hx hb hK rfl (hP 1 _ rfl) rfl dX4_remember_47 ?_
    refine lv_iconst (v := (nI 1)) hx hb dX4_remember_48 (by decide) ?_
    refine z_isub hx hb (by omega) dX4_remember_49 ?_
    refine lv_aload_n hx hb dX4_remember_50 rfl (lv_at hl 0 rfl) ?_
    refine y_aast (a := (x + 23)) (k := 5) (f := (va_cpy pf pf 1 0 (4 - 1))) (i := (4 - 1)) (v := (x + 26 + 11 * ((0 + rot) % 4))) hx hb hK rfl (hP 1 _ rfl) (sD_recv hK (hX.2.2 ((0 + rot) % 4) (Nat.mod_lt _ (by decide)))) (by omega) (by omega) dX4_remember_51 (fun H4 hU hV => ?_)
    have hS := hS.upd (x := (4 - 1)) hU (xb_k (by decide))
    have hX := hX.upd hbd 23 (by decide) hU
    have hP : va_P D vwCl (xW7 y x (nI 4) (va_up (va_cpy pf pf 1 0 (4 - 1)) (4 - 1) (some (x + 26 + 11 * ((0 + rot) % 4)))) (nI len) ts (nI tn) (bI f2) f3 f4 f5 f6 tx) H4 := hP.upd (q0 := 1) xW7_D rfl hU hV
    clear hU hV
    have hps := ps_rot hps
    refine lv_aload_n hx hb dX4_remember_52 rfl (lv_at hl 1 rfl) ?_
    refine lv_aload_n hx hb dX4_remember_53 rfl (lv_at hl 1 rfl) ?_
    refine z_get (fs := [.ref (x + 1), .ref (x + 12), .ref (x + 23), .int (nI 4), .ref (x + 24)]) (ref := "CranePermits") (C := RX4) (T := TX4) (N := 5) (ci := 4) (v := .ref (x + 23)) hx hb hts i_c_X4_remember_X4 hown hK (hP 0 _ rfl) 2 (by decide) rfl (hts (.fieldLink RX4 19 "CranePermits" "past" "[LCranePermits$Site;") (List.mem_of_getElem? (i := 2) rfl)) rfl rfl dX4_remember_54 ?_
    refine z_alen 5 (n := 4) hx hb hK rfl (hP 1 _ rfl) rfl dX4_remember_57 ?_
    refine lv_iconst (v := (nI 1)) hx hb dX4_remember_58 (by decide) ?_
    refine z_isub hx hb (by omega) dX4_remember_59 ?_
    refine y_put (a := x) (fs := [.ref (x + 1), .ref (x + 12), .ref (x + 23), .int (nI 4), .ref (x + 24)]) (ref := "CranePermits") (C := RX4) (T := TX4) (N := 5) (ci := 4) (v := .int (nI (4 - 1))) (ty := .int) hx hb hts i_c_X4_remember_X4 tyX4 tyX4_ok nmX4 hown hK (hP 0 _ rfl) 3 (by decide) rfl (hts (.fieldLink RX4 23 "CranePermits" "pastCount" "I") (List.mem_of_getElem? (i := 1) rfl)) rfl rfl (by decide +kernel) (rfl) rfl (Nat.le_of_ble_eq_true rfl) dX4_remember_60 (fun H5 x1 hU hV => ?_)
    have hS := hS.upd (x := x1) hU (xb_0)
    have hX := hX.upd hbd 0 (by decide) hU
    have hP : va_P D vwCl (xW7 y x (nI (4 - 1)) (va_up (va_cpy pf pf 1 0 (4 - 1)) (4 - 1) (some (x + 26 + 11 * ((0 + rot) % 4)))) (nI len) ts (nI tn) (bI f2) f3 f4 f5 f6 tx) H5 := hP.upd (q0 := 0) xW7_D rfl hU hV
    clear hU hV
    refine lv_aload_n hx hb dX4_remember_63 rfl (lv_at hl 1 rfl) ?_
    refine z_get (fs := [.ref (x + 1), .ref (x + 12), .ref (x + 23), .int (nI (4 - 1)), .ref (x + 24)]) (ref := "CranePermits") (C := RX4) (T := TX4) (N := 5) (ci := 4) (v := .int (nI (4 - 1))) hx hb hts i_c_X4_remember_X4 hown hK (hP 0 _ rfl) 3 (by decide) rfl (hts (.fieldLink RX4 23 "CranePermits" "pastCount" "I") (List.mem_of_getElem? (i := 1) rfl)) rfl rfl dX4_remember_64 ?_
    refine n_if_lt (tgt := 96) hx hb (by omega) dX4_remember_67 (by decide) ?_
    refine lv_aload_n hx hb dX4_remember_70 rfl (lv_at hl 1 rfl) ?_
    refine z_get (fs := [.ref (x + 1), .ref (x + 12), .ref (x + 23), .int (nI (4 - 1)), .ref (x + 24)]) (ref := "CranePermits") (C := RX4) (T := TX4) (N := 5) (ci := 4) (v := .ref (x + 23)) hx hb hts i_c_X4_remember_X4 hown hK (hP 0 _ rfl) 2 (by decide) rfl (hts (.fieldLink RX4 19 "CranePermits" "past" "[LCranePermits$Site;") (List.mem_of_getElem? (i := 2) rfl)) rfl rfl dX4_remember_71 ?_
    refine lv_aload_n hx hb dX4_remember_74 rfl (lv_at hl 1 rfl) ?_
    refine z_get (fs := [.ref (x + 1), .ref (x + 12), .ref (x + 23), .int (nI (4 - 1)), .ref (x + 24)]) (ref := "CranePermits") (C := RX4) (T := TX4) (N := 5) (ci := 4) (v := .int (nI (4 - 1))) hx hb hts i_c_X4_remember_X4 hown hK (hP 0 _ rfl) 3 (by decide) rfl (hts (.fieldLink RX4 23 "CranePermits" "pastCount" "I") (List.mem_of_getElem? (i := 1) rfl)) rfl rfl dX4_remember_75 ?_
    refine z_aald (k := 5) (f := (va_up (va_cpy pf pf 1 0 (4 - 1)) (4 - 1) (some (x + 26 + 11 * ((0 + rot) % 4))))) (r := (x + 26 + 11 * ((4 - 1 + (rot + 1)) % 4))) hx hb hK rfl (hP 1 _ rfl) (by omega) (by decide) (hps (4 - 1) (by omega)) dX4_remember_78 ?_
    refine lv_aload_n hx hb dX4_remember_79 rfl (lv_at hl 1 rfl) ?_
    refine z_get (fs := [.ref (x + 1), .ref (x + 12), .ref (x + 23), .int (nI (4 - 1)), .ref (x + 24)]) (ref := "CranePermits") (C := RX4) (T := TX4) (N := 5) (ci := 4) (v := .ref (x + 1)) hx hb hts i_c_X4_remember_X4 hown hK (hP 0 _ rfl) 0 (by decide) rfl (hts (.fieldLink RX4 10 "CranePermits" "now" "LCranePermits$Site;") (List.mem_of_getElem? (i := 7) rfl)) rfl rfl dX4_remember_80 ?_
    refine w_callV (As := [.ref (x + 1)]) (rest := []) hF hK (c_X2_copyFrom l D y bd (x + 26 + 11 * ((4 - 1 + (rot + 1)) % 4)) (x + 1) ((P ((4 - 1 + (rot + 1)) % 4)).1) ((P ((4 - 1 + (rot + 1)) % 4)).2.1) ((P ((4 - 1 + (rot + 1)) % 4)).2.2.1) ((P ((4 - 1 + (rot + 1)) % 4)).2.2.2) d ca pa pk (by omega) (by omega) (by omega) (hC8) (hG2) (hv24)) (cwV 1 hts gX4_remember_X2_copyFrom rfl rfl rfl (by decide +kernel) ⟨Nat.le_of_ble_eq_true rfl, Nat.le_of_ble_eq_true rfl⟩) (sD_recv hK (hX.2.2 ((4 - 1 + (rot + 1)) % 4) (Nat.mod_lt _ (by decide)))) ⟨(hX.2.2 ((4 - 1 + (rot + 1)) % 4) (Nat.mod_lt _ (by decide))), hX.1⟩ hS (fun q h => xb_2 (by omega) (by omega) (by omega) (by omega) h) rfl hl.1 rfl (Nat.le_of_ble_eq_true rfl) dX4_remember_83 ⟨Nat.zero_le _, Nat.zero_le _⟩ (fun H6 locs1 hq hz1 hk hS => ?_)
    have hP := xW7_k hP hk (nA_PN ((4 - 1 + (rot + 1)) % 4))
    have hX : xS D y bd x (d, ca, pa, pk) T (va_up P ((4 - 1 + (rot + 1)) % 4) (d, ca, pa, pk)) H6 := hX.setPN hbd ((4 - 1 + (rot + 1)) % 4) (Nat.mod_lt _ (by decide)) hk (show sP D y bd (x + 26 + 11 * ((4 - 1 + (rot + 1)) % 4)) (d, ca, pa, pk) H6 from hq.1) (show sP D y bd (x + 1) (d, ca, pa, pk) H6 from hq.2)
    clear hq hz1 hk
    refine lv_aload_n hx hb dX4_remember_86 rfl (lv_at hl 1 rfl) ?_
    refine lv_dup hx hb dX4_remember_87 rfl ?_
    refine z_get (fs := [.ref (x + 1), .ref (x + 12), .ref (x + 23), .int (nI (4 - 1)), .ref (x + 24)]) (ref := "CranePermits") (C := RX4) (T := TX4) (N := 5) (ci := 4) (v := .int (nI (4 - 1))) hx hb hts i_c_X4_remember_X4 hown hK (hP 0 _ rfl) 3 (by decide) rfl (hts (.fieldLink RX4 23 "CranePermits" "pastCount" "I") (List.mem_of_getElem? (i := 1) rfl)) rfl rfl dX4_remember_88 ?_
    refine lv_iconst (v := (nI 1)) hx hb dX4_remember_91 (by decide) ?_
    refine z_iadd hx hb dX4_remember_92 ?_
    refine y_put (a := x) (fs := [.ref (x + 1), .ref (x + 12), .ref (x + 23), .int (nI (4 - 1)), .ref (x + 24)]) (ref := "CranePermits") (C := RX4) (T := TX4) (N := 5) (ci := 4) (v := .int (nI ((4 - 1) + 1))) (ty := .int) hx hb hts i_c_X4_remember_X4 tyX4 tyX4_ok nmX4 hown hK (hP 0 _ rfl) 3 (by decide) rfl (hts (.fieldLink RX4 23 "CranePermits" "pastCount" "I") (List.mem_of_getElem? (i := 1) rfl)) rfl rfl (by decide +kernel) (rfl) rfl (Nat.le_of_ble_eq_true rfl) dX4_remember_93 (fun H7 x1 hU hV => ?_)
    have hS := hS.upd (x := x1) hU (xb_0)
    have hX := hX.upd hbd 0 (by decide) hU
    have hP : va_P D vwCl (xW7 y x (nI ((4 - 1) + 1)) (va_up (va_cpy pf pf 1 0 (4 - 1)) (4 - 1) (some (x + 26 + 11 * ((0 + rot) % 4)))) (nI len) ts (nI tn) (bI f2) f3 f4 f5 f6 tx) H7 := hP.upd (q0 := 0) xW7_D rfl hU hV
    clear hU hV
    exact w_retv hx hb hr hlocks hS (by first | (rw [(rem_n (P := P) (rot := rot) (N := (d, ca, pa, pk)) c9).1, (rem_n (P := P) (rot := rot) (N := (d, ca, pa, pk)) c9).2.1, (rem_n (P := P) (rot := rot) (N := (d, ca, pa, pk)) c9).2.2]; exact ⟨_, _, _, _, _, _, hP, hps, hX⟩) | exact ⟨_, _, _, _, _, _, hP, hps, hX⟩) dX4_remember_96
