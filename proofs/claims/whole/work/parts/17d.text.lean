/-! THE CLASS: fault, enter -/
theorem try_p {d tx : Nat → Int32} {len : Nat} (h : ¬ tryR d tx len = 0) : ¬ fPl d tx len = (-1004) := fun q => h (by unfold tryR; rw [if_pos q]; rfl)
theorem flt_z {d tx : Nat → Int32} {len : Nat} {w : Int32} (hw : inB w (nI 0) (nI 1) = true) (h : tryR d tx len = 0) : (-1004 : Int32) = aFault d tx len w := by
  by_cases q : fPl d tx len = (-1004)
  · unfold aFault; rw [if_pos hw, if_pos q, q]
  · exact absurd h (try_0 q)
theorem flt_p {d tx : Nat → Int32} {len : Nat} {w t9 : Int32} (hw : inB w (nI 0) (nI 1) = true) (h : ¬ tryR d tx len = 0) (hz : w = 0) (ht : ¬ fPl d tx len = (-1004) → t9 = fPl d tx len) : t9 = aFault d tx len w := by
  have q := try_p h
  unfold aFault; rw [if_pos hw, if_neg q, if_pos hz]; exact ht q
theorem flt_r {d tx : Nat → Int32} {len : Nat} {w : Int32} (hw : inB w (nI 0) (nI 1) = true) (h : ¬ tryR d tx len = 0) (hz : ¬ w = 0) : tryR d tx len = aFault d tx len w := by
  have q := try_p h
  unfold aFault; rw [if_pos hw, if_neg q, if_neg hz]
  unfold tryR; rw [if_neg q]
theorem i_c_X4_fault_ok_X4 : ∀ w ∈ wsX40, w ∈ wsX4_fault := fun w h => (List.mem_cons_of_mem _ (List.mem_append_left _ (List.mem_append_left _ (List.mem_append_left _ (List.mem_append_left _ (List.mem_append_right _ h))))))
theorem i_c_X4_fault_ok_X3 : ∀ w ∈ wsX30, w ∈ wsX4_fault := fun w h => (List.mem_cons_of_mem _ (List.mem_append_left _ (List.mem_append_left _ (List.mem_append_left _ (List.mem_append_right _ h)))))
set_option maxRecDepth 100000 in
set_option maxHeartbeats 4000000 in
theorem c_X4_fault_ok (l : Launch) (D : va_G) (y : zY) (x : Nat) (bd : Nat) (d : Nat → Int32) (ca : Nat → Nat) (pa : Nat → Nat) (pk : Nat → Nat) (T : Pic) (P : Nat → Pic) (k : Nat) (rot : Nat) (len : Nat) (ts : Int32) (tn : Nat) (tx : Nat → Int32) (w : Int32) (hJ : rJ d) (hk4 : k ≤ 4) (hbd : x + 70 ≤ bd) (hl80 : len ≤ 80) (hw : inB w (nI 0) (nI 1) = true) : Met l yX4_fault wsX4_fault ({ frames := 6, cells := 16, slots := 112, locals := 149 }) (zP [.ref x, .int w] (fun H => xO D y bd x (d, ca, pa, pk) T P k rot len ts tn tx H ∧ bd ≤ H.size) D y) (zW (some (.int (aFault d tx len w))) (fun H => ∃ (c1 p1 k1 : Nat → Nat) (t9 : Int32) (n9 : Nat), xO D y bd x (d, ca, pa, pk) (fD d tx len (fN d tx len), c1, p1, k1) P k rot len t9 n9 tx H) (xB x bd)) 16 112 (xB x bd) := by
  refine z_body (cc := cX4_fault) (maxL := 3) (ret := (some .int)) (la := [(0, .ref x), (1, .int w)]) (by decide) rfl (Nat.le_of_ble_eq_true rfl) rfl ?_
  intro pg ev s mm below meth c0 ls hx hb hr hF hlocks hΦ hK hl _
  have hts := hF.2.2.2.2
  have hown : s.vm.findClass RX4 = some mm.cls := hF.2.2.2.1
  have hS : va_S (xB x bd) s.heap s.heap [] := va_S.rf
  have hI := hJ.1
  have hv24 := hJ.2.1
  have hpl := hJ.2.2.1
  have hS9 := hpl.w
  have hG2 := hI.ng2
  have hC8 := hI.nc8
  have hb0 := hΦ.2
  obtain ⟨pf, f2, f3, f4, f5, f6, hP, hps, hX⟩ := hΦ.1
  obtain ⟨cs, ns, se, wi, al, re, gi, ps, ss, vs, hQ, hR, hC, hE, hT⟩ := (show sD D y bd (x + 1) d ca pa pk s.heap from hX.1)
  refine lv_iload_n hx hb dX4_fault_0 rfl (lv_at hl 1 rfl) ?_
  refine lv_iconst (v := (nI 0)) hx hb dX4_fault_1 (by decide) ?_
  refine lv_iconst (v := (nI 1)) hx hb dX4_fault_2 (by decide) ?_
  refine z_callS (As := [.int w, .int (nI 0), .int (nI 1)]) (rest := []) hF hK (c_X4_isIn l D y w (nI 0) (nI 1) ) (va_cwS 3 hts gX4_fault_X4_isIn rfl rfl rfl (by decide +kernel) ⟨Nat.le_of_ble_eq_true rfl, Nat.le_of_ble_eq_true rfl⟩) trivial rfl hl.1 rfl (Nat.le_of_ble_eq_true rfl) dX4_fault_3 ⟨Nat.le_of_ble_eq_true rfl, Nat.le_of_ble_eq_true rfl⟩ ?_
  refine z_ifne (tgt := 13) hx hb dX4_fault_6 (by decide) (fun c6 => ?_) (fun c6 => ?_)
  · refine lv_aload_n hx hb dX4_fault_13 rfl (lv_at hl 0 rfl) ?_
    refine z_get (fs := [.ref (x + 1), .ref (x + 12), .ref (x + 23), .int (nI k), .ref (x + 24)]) (ref := "CranePermits") (C := RX4) (T := TX4) (N := 5) (ci := 4) (v := .ref (x + 12)) hx hb hts i_c_X4_fault_ok_X4 hown hK (hP 0 _ rfl) 1 (by decide) rfl (hts (.fieldLink RX4 16 "CranePermits" "trial" "LCranePermits$Site;") (List.mem_of_getElem? (i := 1) rfl)) rfl rfl dX4_fault_14 ?_
    refine lv_aload_n hx hb dX4_fault_17 rfl (lv_at hl 0 rfl) ?_
    refine z_get (fs := [.ref (x + 1), .ref (x + 12), .ref (x + 23), .int (nI k), .ref (x + 24)]) (ref := "CranePermits") (C := RX4) (T := TX4) (N := 5) (ci := 4) (v := .ref (x + 1)) hx hb hts i_c_X4_fault_ok_X4 hown hK (hP 0 _ rfl) 0 (by decide) rfl (hts (.fieldLink RX4 10 "CranePermits" "now" "LCranePermits$Site;") (List.mem_of_getElem? (i := 2) rfl)) rfl rfl dX4_fault_18 ?_
    refine w_callV (As := [.ref (x + 1)]) (rest := []) hF hK (c_X2_copyFrom l D y bd (x + 12) (x + 1) T.1 T.2.1 T.2.2.1 T.2.2.2 d ca pa pk (by omega) (by omega) (by omega) (hC8) (hG2) (hv24)) (cwV 1 hts gX4_fault_X2_copyFrom rfl rfl rfl (by decide +kernel) ⟨Nat.le_of_ble_eq_true rfl, Nat.le_of_ble_eq_true rfl⟩) (sD_recv hK hX.2.1) ⟨hX.2.1, hX.1⟩ hS (fun q h => xb_2 (by omega) (by omega) (by omega) (by omega) h) rfl hl.1 rfl (Nat.le_of_ble_eq_true rfl) dX4_fault_21 ⟨Nat.le_of_ble_eq_true rfl, Nat.le_of_ble_eq_true rfl⟩ (fun H1 locs1 hq hz1 hk hS => ?_)
    have hP := xW7_k hP hk (nA_TN)
    have hX : xS D y bd x (d, ca, pa, pk) (d, ca, pa, pk) P H1 := hX.setTN hbd hk (show sP D y bd (x + 12) (d, ca, pa, pk) H1 from hq.1) (show sP D y bd (x + 1) (d, ca, pa, pk) H1 from hq.2)
    clear hq hz1 hk
    obtain ⟨cs, ns, se, wi, al, re, gi, ps, ss, vs, hQ, hR, hC, hE, hT⟩ := (show sD D y bd (x + 1) d ca pa pk H1 from hX.1)
    refine lv_aload_n hx hb dX4_fault_24 rfl (lv_at hl 0 rfl) ?_
    refine w_callV (As := []) (rest := []) hF hK (c_X4_tryText l D y x bd (d, ca, pa, pk) d ca pa pk P k rot len ts tn tx (hJ) (hk4) (hbd) (hl80)) (cwV 0 hts gX4_fault_X4_tryText rfl rfl rfl (by decide +kernel) ⟨Nat.le_of_ble_eq_true rfl, Nat.le_of_ble_eq_true rfl⟩) (z_recv (q := (RX4, TX4, 5)) hK (hP 0 _ rfl) rfl) ⟨⟨_, _, _, _, _, _, hP, hps, hX⟩, Nat.le_trans hb0 hS.1⟩ hS (fun q h => h) rfl hl.1 rfl (Nat.le_of_ble_eq_true rfl) dX4_fault_25 ⟨Nat.le_of_ble_eq_true rfl, Nat.le_of_ble_eq_true rfl⟩ (fun H2 locs1 hq hz1 hk hS => ?_)
    clear hP hX hps
    obtain ⟨c1, p1, k1, t9, n9, hq, ht9⟩ := hq
    obtain ⟨pf, f2, f3, f4, f5, f6, hP, hps, hX⟩ := hq
    clear hz1 hk
    obtain ⟨cs, ns, se, wi, al, re, gi, ps, ss, vs, hQ, hR, hC, hE, hT⟩ := (show sD D y bd (x + 1) d ca pa pk H2 from hX.1)
    refine lv_istore_n (lv' := [(2, .int (tryR d tx len)), (0, .ref x), (1, .int w)]) hx hb dX4_fault_28 rfl hl (by decide) rfl (fun ls hl => ?_)
    refine lv_iload_n hx hb dX4_fault_29 rfl (lv_at hl 0 rfl) ?_
    refine lv_if_ne (tgt := 37) hx hb dX4_fault_30 (by decide) (fun c30 => ?_) (fun c30 => ?_)
    · refine lv_iload_n hx hb dX4_fault_37 rfl (lv_at hl 2 rfl) ?_
      refine lv_if_ne (tgt := 51) hx hb dX4_fault_38 (by decide) (fun c38 => ?_) (fun c38 => ?_)
      · refine lv_iload_n hx hb dX4_fault_51 rfl (lv_at hl 0 rfl) ?_
        exact w_reti hx hb hr hlocks hS (⟨_, _, _, _, _, _, _, _, _, _, _, hP, hps, hX⟩) (by first | exact flt_p hw c30 c38 ht9 | exact flt_r hw c30 c38) dX4_fault_52
      · refine lv_aload_n hx hb dX4_fault_41 rfl (lv_at hl 1 rfl) ?_
        refine z_get (fs := [.ref (x + 1), .ref (x + 12), .ref (x + 23), .int (nI k), .ref (x + 24)]) (ref := "CranePermits") (C := RX4) (T := TX4) (N := 5) (ci := 4) (v := .ref (x + 24)) hx hb hts i_c_X4_fault_ok_X4 hown hK (hP 0 _ rfl) 4 (by decide) rfl (hts (.fieldLink RX4 30 "CranePermits" "text" "LCranePermits$Text;") (List.mem_of_getElem? (i := 3) rfl)) rfl rfl dX4_fault_42 ?_
        refine z_get (fs := [.ref (x + 25), .int (nI len), .int t9, .int (nI n9), .int (bI f2), .int f3, .int f4, .int f5, .int f6]) (ref := "CranePermits$Text") (C := RX3) (T := TX3) (N := 9) (ci := 3) (v := .int t9) hx hb hts i_c_X4_fault_ok_X3 hown hK (hP 2 _ rfl) 2 (by decide) rfl (hts (.fieldLink RX4 262 "CranePermits$Text" "start" "I") (List.mem_of_getElem? (i := 4) rfl)) rfl rfl dX4_fault_45 ?_
        refine lv_goto (tgt := 52) hx hb dX4_fault_48 (by decide) ?_
        exact w_reti hx hb hr hlocks hS (⟨_, _, _, _, _, _, _, _, _, _, _, hP, hps, hX⟩) (by first | exact flt_p hw c30 c38 ht9 | exact flt_r hw c30 c38) dX4_fault_52
    · refine lv_sipush (v := (-1004)) hx hb dX4_fault_33 (by decide) ?_
      exact w_reti hx hb hr hlocks hS (⟨_, _, _, _, _, _, _, _, _, _, _, hP, hps, hX⟩) (flt_z hw c30) dX4_fault_36
  · exact absurd hw (bf c6)
theorem i_c_X4_enter_ok_X4 : ∀ w ∈ wsX40, w ∈ wsX4_enter := fun w h => (List.mem_cons_of_mem _ (List.mem_append_left _ (List.mem_append_left _ (List.mem_append_left _ (List.mem_append_left _ (List.mem_append_right _ h))))))
theorem i_c_X4_enter_ok_X2 : ∀ w ∈ wsX20, w ∈ wsX4_enter := fun w h => (List.mem_cons_of_mem _ (List.mem_append_left _ (List.mem_append_left _ (List.mem_append_left _ (List.mem_append_right _ h)))))
set_option maxRecDepth 100000 in
set_option maxHeartbeats 4000000 in
theorem c_X4_enter_ok (l : Launch) (D : va_G) (y : zY) (x : Nat) (bd : Nat) (d : Nat → Int32) (ca : Nat → Nat) (pa : Nat → Nat) (pk : Nat → Nat) (T : Pic) (P : Nat → Pic) (k : Nat) (rot : Nat) (len : Nat) (ts : Int32) (tn : Nat) (tx : Nat → Int32) (hJ : rJ d) (hk4 : k ≤ 4) (hbd : x + 70 ≤ bd) (hl80 : len ≤ 80) (hok : fPl d tx len = (-1004)) : Met l yX4_enter wsX4_enter ({ frames := 6, cells := 16, slots := 112, locals := 149 }) (zP [.ref x] (fun H => xO D y bd x (d, ca, pa, pk) T P k rot len ts tn tx H ∧ bd ≤ H.size) D y) (zW (some (.int (nI (fN d tx len)))) (fun H => ∃ (c1 p1 k1 : Nat → Nat) (t9 : Int32) (n9 : Nat), xO D y bd x (fD d tx len (fN d tx len), c1, p1, k1) (fD d tx len (fN d tx len), c1, p1, k1) (remP P k rot (d, ca, pa, pk)) (recN k) (remR k rot) len t9 n9 tx H) (xB x bd)) 16 112 (xB x bd) := by
  refine z_body (cc := cX4_enter) (maxL := 2) (ret := (some .int)) (la := [(0, .ref x)]) (by decide) rfl (Nat.le_of_ble_eq_true rfl) rfl ?_
  intro pg ev s mm below meth c0 ls hx hb hr hF hlocks hΦ hK hl _
  have hts := hF.2.2.2.2
  have hown : s.vm.findClass RX4 = some mm.cls := hF.2.2.2.1
  have hS : va_S (xB x bd) s.heap s.heap [] := va_S.rf
  have hI := hJ.1
  have hv24 := hJ.2.1
  have hpl := hJ.2.2.1
  have hS9 := hpl.w
  have hG2 := hI.ng2
  have hC8 := hI.nc8
  have hb0 := hΦ.2
  obtain ⟨pf, f2, f3, f4, f5, f6, hP, hps, hX⟩ := hΦ.1
  obtain ⟨cs, ns, se, wi, al, re, gi, ps, ss, vs, hQ, hR, hC, hE, hT⟩ := (show sD D y bd (x + 1) d ca pa pk s.heap from hX.1)
  have hFJ := fD_J (tx := tx) (len := len) hJ fall
  have hgN := hFJ.2
  refine lv_aload_n hx hb dX4_enter_0 rfl (lv_at hl 0 rfl) ?_
  refine z_get (fs := [.ref (x + 1), .ref (x + 12), .ref (x + 23), .int (nI k), .ref (x + 24)]) (ref := "CranePermits") (C := RX4) (T := TX4) (N := 5) (ci := 4) (v := .ref (x + 12)) hx hb hts i_c_X4_enter_ok_X4 hown hK (hP 0 _ rfl) 1 (by decide) rfl (hts (.fieldLink RX4 16 "CranePermits" "trial" "LCranePermits$Site;") (List.mem_of_getElem? (i := 1) rfl)) rfl rfl dX4_enter_1 ?_
  refine lv_aload_n hx hb dX4_enter_4 rfl (lv_at hl 0 rfl) ?_
  refine z_get (fs := [.ref (x + 1), .ref (x + 12), .ref (x + 23), .int (nI k), .ref (x + 24)]) (ref := "CranePermits") (C := RX4) (T := TX4) (N := 5) (ci := 4) (v := .ref (x + 1)) hx hb hts i_c_X4_enter_ok_X4 hown hK (hP 0 _ rfl) 0 (by decide) rfl (hts (.fieldLink RX4 10 "CranePermits" "now" "LCranePermits$Site;") (List.mem_of_getElem? (i := 2) rfl)) rfl rfl dX4_enter_5 ?_
  refine w_callV (As := [.ref (x + 1)]) (rest := []) hF hK (c_X2_copyFrom l D y bd (x + 12) (x + 1) T.1 T.2.1 T.2.2.1 T.2.2.2 d ca pa pk (by omega) (by omega) (by omega) (hC8) (hG2) (hv24)) (cwV 1 hts gX4_enter_X2_copyFrom rfl rfl rfl (by decide +kernel) ⟨Nat.le_of_ble_eq_true rfl, Nat.le_of_ble_eq_true rfl⟩) (sD_recv hK hX.2.1) ⟨hX.2.1, hX.1⟩ hS (fun q h => xb_2 (by omega) (by omega) (by omega) (by omega) h) rfl hl.1 rfl (Nat.le_of_ble_eq_true rfl) dX4_enter_8 ⟨Nat.le_of_ble_eq_true rfl, Nat.le_of_ble_eq_true rfl⟩ (fun H1 locs1 hq hz1 hk hS => ?_)
  have hP := xW7_k hP hk (nA_TN)
  have hX : xS D y bd x (d, ca, pa, pk) (d, ca, pa, pk) P H1 := hX.setTN hbd hk (show sP D y bd (x + 12) (d, ca, pa, pk) H1 from hq.1) (show sP D y bd (x + 1) (d, ca, pa, pk) H1 from hq.2)
  clear hq hz1 hk
  obtain ⟨cs, ns, se, wi, al, re, gi, ps, ss, vs, hQ, hR, hC, hE, hT⟩ := (show sD D y bd (x + 1) d ca pa pk H1 from hX.1)
  refine lv_aload_n hx hb dX4_enter_11 rfl (lv_at hl 0 rfl) ?_
  refine w_callV (As := []) (rest := []) hF hK (c_X4_tryText l D y x bd (d, ca, pa, pk) d ca pa pk P k rot len ts tn tx (hJ) (hk4) (hbd) (hl80)) (cwV 0 hts gX4_enter_X4_tryText rfl rfl rfl (by decide +kernel) ⟨Nat.le_of_ble_eq_true rfl, Nat.le_of_ble_eq_true rfl⟩) (z_recv (q := (RX4, TX4, 5)) hK (hP 0 _ rfl) rfl) ⟨⟨_, _, _, _, _, _, hP, hps, hX⟩, Nat.le_trans hb0 hS.1⟩ hS (fun q h => h) rfl hl.1 rfl (Nat.le_of_ble_eq_true rfl) dX4_enter_12 ⟨Nat.le_of_ble_eq_true rfl, Nat.le_of_ble_eq_true rfl⟩ (fun H2 locs1 hq hz1 hk hS => ?_)
  clear hP hX hps
  obtain ⟨c1, p1, k1, t9, n9, hq, ht9⟩ := hq
  obtain ⟨pf, f2, f3, f4, f5, f6, hP, hps, hX⟩ := hq
  clear hz1 hk
  obtain ⟨cs, ns, se, wi, al, re, gi, ps, ss, vs, hQ, hR, hC, hE, hT⟩ := (show sD D y bd (x + 1) d ca pa pk H2 from hX.1)
  refine lv_if_eq (tgt := 22) hx hb dX4_enter_15 (by decide) (fun c15 => ?_) (fun c15 => ?_)
  · refine lv_aload_n hx hb dX4_enter_22 rfl (lv_at hl 0 rfl) ?_
    refine w_callV (As := []) (rest := []) hF hK (c_X4_remember l D y x bd d ca pa pk (fD d tx len (fN d tx len), c1, p1, k1) P k rot len t9 n9 tx (hJ) (hk4) (hbd)) (cwV 0 hts gX4_enter_X4_remember rfl rfl rfl (by decide +kernel) ⟨Nat.le_of_ble_eq_true rfl, Nat.le_of_ble_eq_true rfl⟩) (z_recv (q := (RX4, TX4, 5)) hK (hP 0 _ rfl) rfl) ⟨_, _, _, _, _, _, hP, hps, hX⟩ hS (fun q h => h) rfl hl.1 rfl (Nat.le_of_ble_eq_true rfl) dX4_enter_23 ⟨Nat.le_of_ble_eq_true rfl, Nat.le_of_ble_eq_true rfl⟩ (fun H3 locs1 hq hz1 hk hS => ?_)
    clear hP hX hps
    obtain ⟨pf, f2, f3, f4, f5, f6, hP, hps, hX⟩ := hq
    clear hz1 hk
    obtain ⟨cs, ns, se, wi, al, re, gi, ps, ss, vs, hQ, hR, hC, hE, hT⟩ := (show sD D y bd (x + 1) d ca pa pk H3 from hX.1)
    obtain ⟨_, _, _, _, _, _, _, _, _, _, hQt, -⟩ := (show sD D y bd (x + 12) (fD d tx len (fN d tx len)) c1 p1 k1 H3 from hX.2.1)
    refine lv_aload_n hx hb dX4_enter_26 rfl (lv_at hl 0 rfl) ?_
    refine z_get (fs := [.ref (x + 1), .ref (x + 12), .ref (x + 23), .int (nI (recN k)), .ref (x + 24)]) (ref := "CranePermits") (C := RX4) (T := TX4) (N := 5) (ci := 4) (v := .ref (x + 12)) hx hb hts i_c_X4_enter_ok_X4 hown hK (hP 0 _ rfl) 1 (by decide) rfl (hts (.fieldLink RX4 16 "CranePermits" "trial" "LCranePermits$Site;") (List.mem_of_getElem? (i := 1) rfl)) rfl rfl dX4_enter_27 ?_
    refine z_get (fs := [.ref ((x + 12) + 1), .int (nI (nC (fD d tx len (fN d tx len)))), .ref ((x + 12) + 2), .ref ((x + 12) + 3), .ref ((x + 12) + 4), .ref ((x + 12) + 5), .ref ((x + 12) + 6), .ref ((x + 12) + 7), .ref ((x + 12) + 8), .int (nI (nG (fD d tx len (fN d tx len)))), .ref ((x + 12) + 9), .ref ((x + 12) + 10), .int (nI (vn (fD d tx len (fN d tx len))))]) (ref := "CranePermits$Site") (C := RX2) (T := TX2) (N := 13) (ci := 2) (v := .int (nI (nG (fD d tx len (fN d tx len))))) hx hb hts i_c_X4_enter_ok_X2 hown hK (hQt 0 _ rfl) 9 (by decide) rfl (hts (.fieldLink RX4 155 "CranePermits$Site" "permitCount" "I") (List.mem_of_getElem? (i := 3) rfl)) rfl rfl dX4_enter_30 ?_
    refine lv_aload_n hx hb dX4_enter_33 rfl (lv_at hl 0 rfl) ?_
    refine z_get (fs := [.ref (x + 1), .ref (x + 12), .ref (x + 23), .int (nI (recN k)), .ref (x + 24)]) (ref := "CranePermits") (C := RX4) (T := TX4) (N := 5) (ci := 4) (v := .ref (x + 1)) hx hb hts i_c_X4_enter_ok_X4 hown hK (hP 0 _ rfl) 0 (by decide) rfl (hts (.fieldLink RX4 10 "CranePermits" "now" "LCranePermits$Site;") (List.mem_of_getElem? (i := 2) rfl)) rfl rfl dX4_enter_34 ?_
    refine z_get (fs := [.ref ((x + 1) + 1), .int (nI (nC d)), .ref ((x + 1) + 2), .ref ((x + 1) + 3), .ref ((x + 1) + 4), .ref ((x + 1) + 5), .ref ((x + 1) + 6), .ref ((x + 1) + 7), .ref ((x + 1) + 8), .int (nI (nG d)), .ref ((x + 1) + 9), .ref ((x + 1) + 10), .int (nI (vn d))]) (ref := "CranePermits$Site") (C := RX2) (T := TX2) (N := 13) (ci := 2) (v := .int (nI (nG d))) hx hb hts i_c_X4_enter_ok_X2 hown hK (hQ 0 _ rfl) 9 (by decide) rfl (hts (.fieldLink RX4 155 "CranePermits$Site" "permitCount" "I") (List.mem_of_getElem? (i := 3) rfl)) rfl rfl dX4_enter_37 ?_
    refine z_isub hx hb (by omega) dX4_enter_40 ?_
    refine z_topi (z := (nI (fN d tx len))) (congrArg nI (by omega)) ?_
    refine lv_istore_n (lv' := [(1, .int (nI (fN d tx len))), (0, .ref x)]) hx hb dX4_enter_41 rfl hl (by decide) rfl (fun ls hl => ?_)
    refine lv_aload_n hx hb dX4_enter_42 rfl (lv_at hl 1 rfl) ?_
    refine z_get (fs := [.ref (x + 1), .ref (x + 12), .ref (x + 23), .int (nI (recN k)), .ref (x + 24)]) (ref := "CranePermits") (C := RX4) (T := TX4) (N := 5) (ci := 4) (v := .ref (x + 1)) hx hb hts i_c_X4_enter_ok_X4 hown hK (hP 0 _ rfl) 0 (by decide) rfl (hts (.fieldLink RX4 10 "CranePermits" "now" "LCranePermits$Site;") (List.mem_of_getElem? (i := 2) rfl)) rfl rfl dX4_enter_43 ?_
    refine lv_aload_n hx hb dX4_enter_46 rfl (lv_at hl 1 rfl) ?_
    refine z_get (fs := [.ref (x + 1), .ref (x + 12), .ref (x + 23), .int (nI (recN k)), .ref (x + 24)]) (ref := "CranePermits") (C := RX4) (T := TX4) (N := 5) (ci := 4) (v := .ref (x + 12)) hx hb hts i_c_X4_enter_ok_X4 hown hK (hP 0 _ rfl) 1 (by decide) rfl (hts (.fieldLink RX4 16 "CranePermits" "trial" "LCranePermits$Site;") (List.mem_of_getElem? (i := 1) rfl)) rfl rfl dX4_enter_47 ?_
    refine w_callV (As := [.ref (x + 12)]) (rest := []) hF hK (c_X2_copyFrom l D y bd (x + 1) (x + 12) d ca pa pk (fD d tx len (fN d tx len)) c1 p1 k1 (by omega) (by omega) (by omega) (hFJ.1.1.nc8) (hFJ.1.1.ng2) (hFJ.1.2.1)) (cwV 1 hts gX4_enter_X2_copyFrom rfl rfl rfl (by decide +kernel) ⟨Nat.le_of_ble_eq_true rfl, Nat.le_of_ble_eq_true rfl⟩) (sD_recv hK hX.1) ⟨hX.1, hX.2.1⟩ hS (fun q h => xb_2 (by omega) (by omega) (by omega) (by omega) h) rfl hl.1 rfl (Nat.le_of_ble_eq_true rfl) dX4_enter_50 ⟨Nat.le_of_ble_eq_true rfl, Nat.le_of_ble_eq_true rfl⟩ (fun H4 locs1 hq hz1 hk hS => ?_)
    have hP := xW7_k hP hk (nA_NT)
    have hX : xS D y bd x (fD d tx len (fN d tx len), c1, p1, k1) (fD d tx len (fN d tx len), c1, p1, k1) (remP P k rot (d, ca, pa, pk)) H4 := hX.setNT hbd hk (show sP D y bd (x + 1) (fD d tx len (fN d tx len), c1, p1, k1) H4 from hq.1) (show sP D y bd (x + 12) (fD d tx len (fN d tx len), c1, p1, k1) H4 from hq.2)
    clear hq hz1 hk
    obtain ⟨cs, ns, se, wi, al, re, gi, ps, ss, vs, hQ, hR, hC, hE, hT⟩ := (show sD D y bd (x + 1) (fD d tx len (fN d tx len)) c1 p1 k1 H4 from hX.1)
    refine lv_iload_n hx hb dX4_enter_53 rfl (lv_at hl 0 rfl) ?_
    exact w_reti hx hb hr hlocks hS (⟨_, _, _, _, _, _, _, _, _, _, _, hP, hps, hX⟩) (rfl) dX4_enter_54
  · exact absurd (by unfold tryR; rw [if_pos hok]; rfl) c15
theorem i_c_X4_enter_no_X4 : ∀ w ∈ wsX40, w ∈ wsX4_enter := fun w h => (List.mem_cons_of_mem _ (List.mem_append_left _ (List.mem_append_left _ (List.mem_append_left _ (List.mem_append_left _ (List.mem_append_right _ h))))))
set_option maxRecDepth 100000 in
set_option maxHeartbeats 4000000 in
theorem c_X4_enter_no (l : Launch) (D : va_G) (y : zY) (x : Nat) (bd : Nat) (d : Nat → Int32) (ca : Nat → Nat) (pa : Nat → Nat) (pk : Nat → Nat) (T : Pic) (P : Nat → Pic) (k : Nat) (rot : Nat) (len : Nat) (ts : Int32) (tn : Nat) (tx : Nat → Int32) (hJ : rJ d) (hk4 : k ≤ 4) (hbd : x + 70 ≤ bd) (hl80 : len ≤ 80) (hno : ¬ fPl d tx len = (-1004)) : Met l yX4_enter wsX4_enter ({ frames := 6, cells := 16, slots := 112, locals := 149 }) (zP [.ref x] (fun H => xO D y bd x (d, ca, pa, pk) T P k rot len ts tn tx H ∧ bd ≤ H.size) D y) (zW (some (.int (-1002))) (fun H => ∃ (c1 p1 k1 : Nat → Nat) (t9 : Int32) (n9 : Nat), xO D y bd x (d, ca, pa, pk) (fD d tx len (fN d tx len), c1, p1, k1) P k rot len t9 n9 tx H) (xB x bd)) 16 112 (xB x bd) := by
  refine z_body (cc := cX4_enter) (maxL := 2) (ret := (some .int)) (la := [(0, .ref x)]) (by decide) rfl (Nat.le_of_ble_eq_true rfl) rfl ?_
  intro pg ev s mm below meth c0 ls hx hb hr hF hlocks hΦ hK hl _
  have hts := hF.2.2.2.2
  have hown : s.vm.findClass RX4 = some mm.cls := hF.2.2.2.1
  have hS : va_S (xB x bd) s.heap s.heap [] := va_S.rf
  have hI := hJ.1
  have hv24 := hJ.2.1
  have hpl := hJ.2.2.1
  have hS9 := hpl.w
  have hG2 := hI.ng2
  have hC8 := hI.nc8
  have hb0 := hΦ.2
  obtain ⟨pf, f2, f3, f4, f5, f6, hP, hps, hX⟩ := hΦ.1
  obtain ⟨cs, ns, se, wi, al, re, gi, ps, ss, vs, hQ, hR, hC, hE, hT⟩ := (show sD D y bd (x + 1) d ca pa pk s.heap from hX.1)
  refine lv_aload_n hx hb dX4_enter_0 rfl (lv_at hl 0 rfl) ?_
  refine z_get (fs := [.ref (x + 1), .ref (x + 12), .ref (x + 23), .int (nI k), .ref (x + 24)]) (ref := "CranePermits") (C := RX4) (T := TX4) (N := 5) (ci := 4) (v := .ref (x + 12)) hx hb hts i_c_X4_enter_no_X4 hown hK (hP 0 _ rfl) 1 (by decide) rfl (hts (.fieldLink RX4 16 "CranePermits" "trial" "LCranePermits$Site;") (List.mem_of_getElem? (i := 1) rfl)) rfl rfl dX4_enter_1 ?_
  refine lv_aload_n hx hb dX4_enter_4 rfl (lv_at hl 0 rfl) ?_
  refine z_get (fs := [.ref (x + 1), .ref (x + 12), .ref (x + 23), .int (nI k), .ref (x + 24)]) (ref := "CranePermits") (C := RX4) (T := TX4) (N := 5) (ci := 4) (v := .ref (x + 1)) hx hb hts i_c_X4_enter_no_X4 hown hK (hP 0 _ rfl) 0 (by decide) rfl (hts (.fieldLink RX4 10 "CranePermits" "now" "LCranePermits$Site;") (List.mem_of_getElem? (i := 2) rfl)) rfl rfl dX4_enter_5 ?_
  refine w_callV (As := [.ref (x + 1)]) (rest := []) hF hK (c_X2_copyFrom l D y bd (x + 12) (x + 1) T.1 T.2.1 T.2.2.1 T.2.2.2 d ca pa pk (by omega) (by omega) (by omega) (hC8) (hG2) (hv24)) (cwV 1 hts gX4_enter_X2_copyFrom rfl rfl rfl (by decide +kernel) ⟨Nat.le_of_ble_eq_true rfl, Nat.le_of_ble_eq_true rfl⟩) (sD_recv hK hX.2.1) ⟨hX.2.1, hX.1⟩ hS (fun q h => xb_2 (by omega) (by omega) (by omega) (by omega) h) rfl hl.1 rfl (Nat.le_of_ble_eq_true rfl) dX4_enter_8 ⟨Nat.le_of_ble_eq_true rfl, Nat.le_of_ble_eq_true rfl⟩ (fun H1 locs1 hq hz1 hk hS => ?_)
  have hP := xW7_k hP hk (nA_TN)
  have hX : xS D y bd x (d, ca, pa, pk) (d, ca, pa, pk) P H1 := hX.setTN hbd hk (show sP D y bd (x + 12) (d, ca, pa, pk) H1 from hq.1) (show sP D y bd (x + 1) (d, ca, pa, pk) H1 from hq.2)
  clear hq hz1 hk
  obtain ⟨cs, ns, se, wi, al, re, gi, ps, ss, vs, hQ, hR, hC, hE, hT⟩ := (show sD D y bd (x + 1) d ca pa pk H1 from hX.1)
  refine lv_aload_n hx hb dX4_enter_11 rfl (lv_at hl 0 rfl) ?_
  refine w_callV (As := []) (rest := []) hF hK (c_X4_tryText l D y x bd (d, ca, pa, pk) d ca pa pk P k rot len ts tn tx (hJ) (hk4) (hbd) (hl80)) (cwV 0 hts gX4_enter_X4_tryText rfl rfl rfl (by decide +kernel) ⟨Nat.le_of_ble_eq_true rfl, Nat.le_of_ble_eq_true rfl⟩) (z_recv (q := (RX4, TX4, 5)) hK (hP 0 _ rfl) rfl) ⟨⟨_, _, _, _, _, _, hP, hps, hX⟩, Nat.le_trans hb0 hS.1⟩ hS (fun q h => h) rfl hl.1 rfl (Nat.le_of_ble_eq_true rfl) dX4_enter_12 ⟨Nat.le_of_ble_eq_true rfl, Nat.le_of_ble_eq_true rfl⟩ (fun H2 locs1 hq hz1 hk hS => ?_)
  clear hP hX hps
  obtain ⟨c1, p1, k1, t9, n9, hq, ht9⟩ := hq
  obtain ⟨pf, f2, f3, f4, f5, f6, hP, hps, hX⟩ := hq
  clear hz1 hk
  obtain ⟨cs, ns, se, wi, al, re, gi, ps, ss, vs, hQ, hR, hC, hE, hT⟩ := (show sD D y bd (x + 1) d ca pa pk H2 from hX.1)
  refine lv_if_eq (tgt := 22) hx hb dX4_enter_15 (by decide) (fun c15 => ?_) (fun c15 => ?_)
  · exact absurd c15 (try_0 hno)
  · refine lv_sipush (v := (-1002)) hx hb dX4_enter_18 (by decide) ?_
    exact w_reti hx hb hr hlocks hS (⟨_, _, _, _, _, _, _, _, _, _, _, hP, hps, hX⟩) (rfl) dX4_enter_21
