/-! THE CLASS: calls that change -/
theorem vn_keep {d d' : Nat → Int32} (h4 : d' 442 = d 442) (hp : ∀ p, pm d' p 4 = pm d p 4) : vn d' = vn d := vn_cong (vL_cong (show nG d' = nG d by unfold nG; rw [h4]) (fun p _ => hp p))
theorem rJ_upd {d : Nat → Int32} (hJ : rJ d) {k : Nat} {v : Int32} (hk : k < 442) (h0 : k ≠ 0) : vn (upd d k v) ≤ 24 ∧ plJ (upd d k v) := by
  have e : ∀ p j, pm (upd d k v) p j = pm d p j := fun p j => u_ne (by omega)
  have eg : nG (upd d k v) = nG d := by unfold nG; rw [u_ne (by omega)]
  refine ⟨by rw [vn_keep (u_ne (by omega)) (fun p => e p 4)]; exact hJ.2.1, fun p hp => ?_⟩
  rw [e p 1, e p 2, e p 3]
  exact hJ.2.2.1 p (by omega)
theorem end_v24 {d : Nat → Int32} (hI : zI d) (hv24 : vn d ≤ 24) {p : Nat} (hp : p < nG d) (hv : pm d p 4 = nI 1) : vn (upd d (445 + 5 * p + 4) (nI 2)) ≤ 24 := by
  obtain ⟨i, hi, e⟩ := vx_onto hp hv
  have h := vn_end (d := d) (v := nI 2) (by decide) (e ▸ vx_mem hi)
  have h2 : vn (upd d (445 + 5 * p + 4) (nI 2)) + 1 = vn d := h
  omega
theorem us_end {d : Nat → Int32} (hI : zI d) {p : Nat} (hp : p < nG d) : hrsI (pm (upd d (445 + 5 * p + 4) (nI 2)) p 2) * gr (upd d (445 + 5 * p + 4) (nI 2)) (pC (upd d (445 + 5 * p + 4) (nI 2)) p) 5 = usI d p := by
  have g2 := hI.ng2
  have c8 := hI.pc8 hp
  have e1 : pm (upd d (445 + 5 * p + 4) (nI 2)) p 2 = pm d p 2 := pm_far d (by omega)
  have e0 : pm (upd d (445 + 5 * p + 4) (nI 2)) p 0 = pm d p 0 := pm_far d (by omega)
  have ec : pC (upd d (445 + 5 * p + 4) (nI 2)) p = pC d p := by unfold pC; rw [e0]
  unfold usI
  rw [e1, ec, show gr (upd d (445 + 5 * p + 4) (nI 2)) (pC d p) 5 = gr d (pC d p) 5 from gr_far d (by omega)]
theorem i_c_X4_noise_ok_X4 : ∀ w ∈ wsX40, w ∈ wsX4_noise := fun w h => (List.mem_cons_of_mem _ (List.mem_append_left _ (List.mem_append_left _ (List.mem_append_left _ (List.mem_append_right _ h)))))
theorem i_c_X4_noise_ok_X2 : ∀ w ∈ wsX20, w ∈ wsX4_noise := fun w h => (List.mem_cons_of_mem _ (List.mem_append_left _ (List.mem_append_left _ (List.mem_append_right _ h))))
theorem i_c_X4_noise_ok_X0 : ∀ w ∈ wsX00, w ∈ wsX4_noise := fun w h => (List.mem_cons_of_mem _ (List.mem_append_left _ (List.mem_append_right _ h)))
set_option maxRecDepth 100000 in
set_option maxHeartbeats 4000000 in
theorem c_X4_noise_ok (l : Launch) (D : va_G) (y : zY) (x : Nat) (bd : Nat) (d : Nat → Int32) (ca : Nat → Nat) (pa : Nat → Nat) (pk : Nat → Nat) (T : Pic) (P : Nat → Pic) (k : Nat) (rot : Nat) (len : Nat) (ts : Int32) (tn : Nat) (tx : Nat → Int32) (c : Nat) (v : Int32) (hJ : rJ d) (hk4 : k ≤ 4) (hbd : x + 70 ≤ bd) (hc : c < nC d) (hv : inB v (nI 1) (nI 9) = true) : Met l yX4_noise wsX4_noise ({ frames := 5, cells := 0, slots := 0, locals := 113 }) (zP [.ref x, .int (nI c), .int v] (fun H => xO D y bd x (d, ca, pa, pk) T P k rot len ts tn tx H) D y) (zW (some (.int (wfC (upd d (4 + 6 * c + 5) v) (vn (upd d (4 + 6 * c + 5) v))))) (fun H => xO D y bd x (wfD (upd d (4 + 6 * c + 5) v) (vn (upd d (4 + 6 * c + 5) v)), ca, pa, pk) T (remP P k rot (d, ca, pa, pk)) (recN k) (remR k rot) len ts tn tx H) (xB x bd)) 0 0 (xB x bd) := by
  refine z_body (cc := cX4_noise) (maxL := 4) (ret := (some .int)) (la := [(0, .ref x), (1, .int (nI c)), (2, .int v)]) (by decide) rfl (Nat.le_of_ble_eq_true rfl) rfl ?_
  intro pg ev s mm below meth c0 ls hx hb hr hF hlocks hΦ hK hl _
  have hts := hF.2.2.2.2
  have hown : s.vm.findClass RX4 = some mm.cls := hF.2.2.2.1
  have hS : va_S (xB x bd) s.heap s.heap [] := va_S.rf
  have hI := hJ.1
  have hv24 := hJ.2.1
  have hpl := hJ.2.2.1
  have hS9 := hpl.w
  have hG2 := hI.ng2
  have hC8 := hI.nc8
  obtain ⟨pf, f2, f3, f4, f5, f6, hP, hps, hX⟩ := hΦ
  obtain ⟨cs, ns, se, wi, al, re, gi, ps, ss, vs, hQ, hR, hC, hE, hT⟩ := (show sD D y bd (x + 1) d ca pa pk s.heap from hX.1)
  refine lv_aload_n hx hb dX4_noise_0 rfl (lv_at hl 0 rfl) ?_
  refine z_get (fs := [.ref (x + 1), .ref (x + 12), .ref (x + 23), .int (nI k), .ref (x + 24)]) (ref := "CranePermits") (C := RX4) (T := TX4) (N := 5) (ci := 4) (v := .ref (x + 1)) hx hb hts i_c_X4_noise_ok_X4 hown hK (hP 0 _ rfl) 0 (by decide) rfl (hts (.fieldLink RX4 10 "CranePermits" "now" "LCranePermits$Site;") (List.mem_of_getElem? (i := 1) rfl)) rfl rfl dX4_noise_1 ?_
  refine lv_iload_n hx hb dX4_noise_4 rfl (lv_at hl 1 rfl) ?_
  refine z_callV (As := [.int (nI c)]) (rest := []) hF hK (c_X2_craneAt_in l D y bd (x + 1) d ca pa pk c (hI) (hv24) (by omega)) (cwV 1 hts gX4_noise_X2_craneAt rfl rfl rfl (by decide +kernel) ⟨Nat.le_of_ble_eq_true rfl, Nat.le_of_ble_eq_true rfl⟩) (sD_recv hK hX.1) hX.1 rfl hl.1 rfl (Nat.le_of_ble_eq_true rfl) dX4_noise_5 ⟨Nat.zero_le _, Nat.zero_le _⟩ ?_
  refine lv_astore_n (lv' := [(3, .ref (ca c)), (0, .ref x), (1, .int (nI c)), (2, .int v)]) hx hb dX4_noise_8 rfl hl (by decide) rfl (fun ls hl => ?_)
  refine lv_aload_n hx hb dX4_noise_9 rfl (lv_at hl 0 rfl) ?_
  refine lv_ifnull hx hb dX4_noise_10 ?_
  refine lv_iload_n hx hb dX4_noise_13 rfl (lv_at hl 3 rfl) ?_
  refine lv_iconst (v := (nI 1)) hx hb dX4_noise_14 (by decide) ?_
  refine lv_bipush (v := (nI 9)) hx hb dX4_noise_15 (by decide) ?_
  refine z_callS (As := [.int v, .int (nI 1), .int (nI 9)]) (rest := []) hF hK (c_X4_isIn l D y v (nI 1) (nI 9) ) (va_cwS 3 hts gX4_noise_X4_isIn rfl rfl rfl (by decide +kernel) ⟨Nat.le_of_ble_eq_true rfl, Nat.le_of_ble_eq_true rfl⟩) trivial rfl hl.1 rfl (Nat.le_of_ble_eq_true rfl) dX4_noise_17 ⟨Nat.zero_le _, Nat.zero_le _⟩ ?_
  refine z_ifne (tgt := 27) hx hb dX4_noise_20 (by decide) (fun c20 => ?_) (fun c20 => ?_)
  · refine lv_aload_n hx hb dX4_noise_27 rfl (lv_at hl 1 rfl) ?_
    refine w_callV (As := []) (rest := []) hF hK (c_X4_remember l D y x bd d ca pa pk T P k rot len ts tn tx (hJ) (hk4) (hbd)) (cwV 0 hts gX4_noise_X4_remember rfl rfl rfl (by decide +kernel) ⟨Nat.le_of_ble_eq_true rfl, Nat.le_of_ble_eq_true rfl⟩) (z_recv (q := (RX4, TX4, 5)) hK (hP 0 _ rfl) rfl) ⟨_, _, _, _, _, _, hP, hps, hX⟩ hS (fun q h => h) rfl hl.1 rfl (Nat.le_of_ble_eq_true rfl) dX4_noise_28 ⟨Nat.zero_le _, Nat.zero_le _⟩ (fun H1 locs1 hq hz1 hk hS => ?_)
    clear hP hX hps
    obtain ⟨pf, f2, f3, f4, f5, f6, hP, hps, hX⟩ := hq
    clear hz1 hk
    obtain ⟨cs, ns, se, wi, al, re, gi, ps, ss, vs, hQ, hR, hC, hE, hT⟩ := (show sD D y bd (x + 1) d ca pa pk H1 from hX.1)
    refine lv_aload_n hx hb dX4_noise_31 rfl (lv_at hl 1 rfl) ?_
    refine z_get (fs := [.ref (x + 1), .ref (x + 12), .ref (x + 23), .int (nI (recN k)), .ref (x + 24)]) (ref := "CranePermits") (C := RX4) (T := TX4) (N := 5) (ci := 4) (v := .ref (x + 1)) hx hb hts i_c_X4_noise_ok_X4 hown hK (hP 0 _ rfl) 0 (by decide) rfl (hts (.fieldLink RX4 10 "CranePermits" "now" "LCranePermits$Site;") (List.mem_of_getElem? (i := 1) rfl)) rfl rfl dX4_noise_32 ?_
    refine z_get (fs := [.ref ((x + 1) + 1), .int (nI (nC d)), .ref ((x + 1) + 2), .ref ((x + 1) + 3), .ref ((x + 1) + 4), .ref ((x + 1) + 5), .ref ((x + 1) + 6), .ref ((x + 1) + 7), .ref ((x + 1) + 8), .int (nI (nG d)), .ref ((x + 1) + 9), .ref ((x + 1) + 10), .int (nI (vn d))]) (ref := "CranePermits$Site") (C := RX2) (T := TX2) (N := 13) (ci := 2) (v := .ref ((x + 1) + 2)) hx hb hts i_c_X4_noise_ok_X2 hown hK (hQ 0 _ rfl) 2 (by decide) rfl (hts (.fieldLink RX4 71 "CranePermits$Site" "noises" "[I") (List.mem_of_getElem? (i := 2) rfl)) rfl rfl dX4_noise_35 ?_
    refine lv_aload_n hx hb dX4_noise_38 rfl (lv_at hl 0 rfl) ?_
    refine z_get (fs := [.int (nI c), .int (gr d c 0), .int (gr d c 1), .int (gr d c 2), .int (gr d c 3), .int (gr d c 4), .ref ((ca c) + 1)]) (ref := "CranePermits$Crane") (C := RX0) (T := TX0) (N := 7) (ci := 0) (v := .int (nI c)) hx hb hts i_c_X4_noise_ok_X0 hown hK (hC c (by omega)).2.1 0 (by decide) rfl (hts (.fieldLink RX4 64 "CranePermits$Crane" "number" "I") (List.mem_of_getElem? (i := 3) rfl)) rfl rfl dX4_noise_39 ?_
    refine lv_iload_n hx hb dX4_noise_42 rfl (lv_at hl 3 rfl) ?_
    refine w_callS (As := [.ref ((x + 1) + 2), .int (nI c), .int v]) (rest := []) hF hK (c_X4_put l D y ((x + 1) + 2) 8 ns c v (by omega) (by decide)) (va_cwS 3 hts gX4_noise_X4_put rfl rfl rfl (by decide +kernel) ⟨Nat.le_of_ble_eq_true rfl, Nat.le_of_ble_eq_true rfl⟩) (pw_P (hQ 2 _ rfl)) hS (fun q h => by rw [show q = _ from h]; exact xb_k (k := 3) (by decide)) rfl hl.1 rfl (Nat.le_of_ble_eq_true rfl) dX4_noise_43 ⟨Nat.zero_le _, Nat.zero_le _⟩ (fun H2 locs1 hq hz1 hk hS => ?_)
    have hN1 : sD D y bd (x + 1) (upd d (4 + 6 * c + 5) v) ca pa pk H2 := put_ns hQ hR hC hE hT hI (by omega) (by omega) hk hq
    have hk1 : ∀ q : Nat, q < H1.size → ¬ blk (x + 1) 11 q → H2[q]? = H1[q]? := fun q h1 h2 => hk q h1 (fun e => h2 (by rw [e]; exact blk_k (by decide)))
    have hP := xW7_k hP hk1 nA_N
    have hX := hX.setN hbd hk1 (show sP D y bd (x + 1) (upd d (4 + 6 * c + 5) v, ca, pa, pk) H2 from hN1)
    clear hq hz1 hk hk1 hN1
    obtain ⟨cs, ns, se, wi, al, re, gi, ps, ss, vs, hQ, hR, hC, hE, hT⟩ := (show sD D y bd (x + 1) (upd d (4 + 6 * c + 5) v) ca pa pk H2 from hX.1)
    refine lv_aload_n hx hb dX4_noise_46 rfl (lv_at hl 1 rfl) ?_
    refine z_get (fs := [.ref (x + 1), .ref (x + 12), .ref (x + 23), .int (nI (recN k)), .ref (x + 24)]) (ref := "CranePermits") (C := RX4) (T := TX4) (N := 5) (ci := 4) (v := .ref (x + 1)) hx hb hts i_c_X4_noise_ok_X4 hown hK (hP 0 _ rfl) 0 (by decide) rfl (hts (.fieldLink RX4 10 "CranePermits" "now" "LCranePermits$Site;") (List.mem_of_getElem? (i := 1) rfl)) rfl rfl dX4_noise_47 ?_
    refine w_callV (As := []) (rest := []) hF hK (c_X2_withdrawFailing l D y bd (x + 1) (upd d (4 + 6 * c + 5) v) ca pa pk ((hI.noise c (by omega) v).1) ((rJ_upd hJ (k := 4 + 6 * c + 5) (by omega) (by omega)).1) ((rJ_upd hJ (k := 4 + 6 * c + 5) (by omega) (by omega)).2) (by omega)) (cwV 0 hts gX4_noise_X2_withdrawFailing rfl rfl rfl (by decide +kernel) ⟨Nat.le_of_ble_eq_true rfl, Nat.le_of_ble_eq_true rfl⟩) (sD_recv hK hX.1) hX.1 hS (fun q h => xb_b (by omega) (by omega) h) rfl hl.1 rfl (Nat.le_of_ble_eq_true rfl) dX4_noise_50 ⟨Nat.zero_le _, Nat.zero_le _⟩ (fun H3 locs1 hq hz1 hk hS => ?_)
    have hP := xW7_k hP hk nA_N
    have hX := hX.setN hbd hk (show sP D y bd (x + 1) (wfD (upd d (4 + 6 * c + 5) v) (vn (upd d (4 + 6 * c + 5) v)), ca, pa, pk) H3 from hq)
    clear hq hz1 hk
    exact w_reti hx hb hr hlocks hS (⟨_, _, _, _, _, _, hP, hps, hX⟩) (rfl) dX4_noise_53
  · exact absurd hv (bf c20)
theorem i_c_X4_wind_ok_X4 : ∀ w ∈ wsX40, w ∈ wsX4_wind := fun w h => (List.mem_cons_of_mem _ (List.mem_append_left _ (List.mem_append_left _ (List.mem_append_left _ (List.mem_append_right _ h)))))
theorem i_c_X4_wind_ok_X2 : ∀ w ∈ wsX20, w ∈ wsX4_wind := fun w h => (List.mem_cons_of_mem _ (List.mem_append_left _ (List.mem_append_left _ (List.mem_append_right _ h))))
set_option maxRecDepth 100000 in
set_option maxHeartbeats 4000000 in
theorem c_X4_wind_ok (l : Launch) (D : va_G) (y : zY) (x : Nat) (bd : Nat) (d : Nat → Int32) (ca : Nat → Nat) (pa : Nat → Nat) (pk : Nat → Nat) (T : Pic) (P : Nat → Pic) (k : Nat) (rot : Nat) (len : Nat) (ts : Int32) (tn : Nat) (tx : Nat → Int32) (n : Nat) (v : Int32) (hJ : rJ d) (hk4 : k ≤ 4) (hbd : x + 70 ≤ bd) (hn : n < 30) (hv : inB v (nI 0) (nI 99) = true) : Met l yX4_wind wsX4_wind ({ frames := 5, cells := 0, slots := 0, locals := 113 }) (zP [.ref x, .int (nI n), .int v] (fun H => xO D y bd x (d, ca, pa, pk) T P k rot len ts tn tx H) D y) (zW (some (.int (wfC (upd d (52 + n) v) (vn (upd d (52 + n) v))))) (fun H => xO D y bd x (wfD (upd d (52 + n) v) (vn (upd d (52 + n) v)), ca, pa, pk) T (remP P k rot (d, ca, pa, pk)) (recN k) (remR k rot) len ts tn tx H) (xB x bd)) 0 0 (xB x bd) := by
  refine z_body (cc := cX4_wind) (maxL := 3) (ret := (some .int)) (la := [(0, .ref x), (1, .int (nI n)), (2, .int v)]) (by decide) rfl (Nat.le_of_ble_eq_true rfl) rfl ?_
  intro pg ev s mm below meth c0 ls hx hb hr hF hlocks hΦ hK hl _
  have hts := hF.2.2.2.2
  have hown : s.vm.findClass RX4 = some mm.cls := hF.2.2.2.1
  have hS : va_S (xB x bd) s.heap s.heap [] := va_S.rf
  have hI := hJ.1
  have hv24 := hJ.2.1
  have hpl := hJ.2.2.1
  have hS9 := hpl.w
  have hG2 := hI.ng2
  have hC8 := hI.nc8
  obtain ⟨pf, f2, f3, f4, f5, f6, hP, hps, hX⟩ := hΦ
  obtain ⟨cs, ns, se, wi, al, re, gi, ps, ss, vs, hQ, hR, hC, hE, hT⟩ := (show sD D y bd (x + 1) d ca pa pk s.heap from hX.1)
  refine lv_iload_n hx hb dX4_wind_0 rfl (lv_at hl 1 rfl) ?_
  refine z_callS (As := [.int (nI n)]) (rest := []) hF hK (c_X4_isNight l D y (nI n) ) (va_cwS 1 hts gX4_wind_X4_isNight rfl rfl rfl (by decide +kernel) ⟨Nat.le_of_ble_eq_true rfl, Nat.le_of_ble_eq_true rfl⟩) trivial rfl hl.1 rfl (Nat.le_of_ble_eq_true rfl) dX4_wind_1 ⟨Nat.zero_le _, Nat.zero_le _⟩ ?_
  refine z_ifeq (tgt := 17) hx hb dX4_wind_4 (by decide) (fun c4 => ?_) (fun c4 => ?_)
  · first | exact absurd (inB_of (lo := 0) (hi := 29) (Nat.zero_le n) (by omega) (by decide)) (bf c4) | exact absurd hv (bf c14)
  · refine lv_iload_n hx hb dX4_wind_7 rfl (lv_at hl 2 rfl) ?_
    refine lv_iconst (v := (nI 0)) hx hb dX4_wind_8 (by decide) ?_
    refine lv_bipush (v := (nI 99)) hx hb dX4_wind_9 (by decide) ?_
    refine z_callS (As := [.int v, .int (nI 0), .int (nI 99)]) (rest := []) hF hK (c_X4_isIn l D y v (nI 0) (nI 99) ) (va_cwS 3 hts gX4_wind_X4_isIn rfl rfl rfl (by decide +kernel) ⟨Nat.le_of_ble_eq_true rfl, Nat.le_of_ble_eq_true rfl⟩) trivial rfl hl.1 rfl (Nat.le_of_ble_eq_true rfl) dX4_wind_11 ⟨Nat.zero_le _, Nat.zero_le _⟩ ?_
    refine z_ifne (tgt := 21) hx hb dX4_wind_14 (by decide) (fun c14 => ?_) (fun c14 => ?_)
    · refine lv_aload_n hx hb dX4_wind_21 rfl (lv_at hl 0 rfl) ?_
      refine w_callV (As := []) (rest := []) hF hK (c_X4_remember l D y x bd d ca pa pk T P k rot len ts tn tx (hJ) (hk4) (hbd)) (cwV 0 hts gX4_wind_X4_remember rfl rfl rfl (by decide +kernel) ⟨Nat.le_of_ble_eq_true rfl, Nat.le_of_ble_eq_true rfl⟩) (z_recv (q := (RX4, TX4, 5)) hK (hP 0 _ rfl) rfl) ⟨_, _, _, _, _, _, hP, hps, hX⟩ hS (fun q h => h) rfl hl.1 rfl (Nat.le_of_ble_eq_true rfl) dX4_wind_22 ⟨Nat.zero_le _, Nat.zero_le _⟩ (fun H1 locs1 hq hz1 hk hS => ?_)
      clear hP hX hps
      obtain ⟨pf, f2, f3, f4, f5, f6, hP, hps, hX⟩ := hq
      clear hz1 hk
      obtain ⟨cs, ns, se, wi, al, re, gi, ps, ss, vs, hQ, hR, hC, hE, hT⟩ := (show sD D y bd (x + 1) d ca pa pk H1 from hX.1)
      refine lv_aload_n hx hb dX4_wind_25 rfl (lv_at hl 0 rfl) ?_
      refine z_get (fs := [.ref (x + 1), .ref (x + 12), .ref (x + 23), .int (nI (recN k)), .ref (x + 24)]) (ref := "CranePermits") (C := RX4) (T := TX4) (N := 5) (ci := 4) (v := .ref (x + 1)) hx hb hts i_c_X4_wind_ok_X4 hown hK (hP 0 _ rfl) 0 (by decide) rfl (hts (.fieldLink RX4 10 "CranePermits" "now" "LCranePermits$Site;") (List.mem_of_getElem? (i := 1) rfl)) rfl rfl dX4_wind_26 ?_
      refine z_get (fs := [.ref ((x + 1) + 1), .int (nI (nC d)), .ref ((x + 1) + 2), .ref ((x + 1) + 3), .ref ((x + 1) + 4), .ref ((x + 1) + 5), .ref ((x + 1) + 6), .ref ((x + 1) + 7), .ref ((x + 1) + 8), .int (nI (nG d)), .ref ((x + 1) + 9), .ref ((x + 1) + 10), .int (nI (vn d))]) (ref := "CranePermits$Site") (C := RX2) (T := TX2) (N := 13) (ci := 2) (v := .ref ((x + 1) + 4)) hx hb hts i_c_X4_wind_ok_X2 hown hK (hQ 0 _ rfl) 4 (by decide) rfl (hts (.fieldLink RX4 121 "CranePermits$Site" "winds" "[I") (List.mem_of_getElem? (i := 2) rfl)) rfl rfl dX4_wind_29 ?_
      refine lv_iload_n hx hb dX4_wind_32 rfl (lv_at hl 1 rfl) ?_
      refine lv_iload_n hx hb dX4_wind_33 rfl (lv_at hl 2 rfl) ?_
      refine w_callS (As := [.ref ((x + 1) + 4), .int (nI n), .int v]) (rest := []) hF hK (c_X4_put l D y ((x + 1) + 4) 30 wi n v (by omega) (by decide)) (va_cwS 3 hts gX4_wind_X4_put rfl rfl rfl (by decide +kernel) ⟨Nat.le_of_ble_eq_true rfl, Nat.le_of_ble_eq_true rfl⟩) (pw_P (hQ 4 _ rfl)) hS (fun q h => by rw [show q = _ from h]; exact xb_k (k := 5) (by decide)) rfl hl.1 rfl (Nat.le_of_ble_eq_true rfl) dX4_wind_34 ⟨Nat.zero_le _, Nat.zero_le _⟩ (fun H2 locs1 hq hz1 hk hS => ?_)
      have hN1 : sD D y bd (x + 1) (upd d (52 + n) v) ca pa pk H2 := put_wi hQ hR hC hE hT hI (by omega) (by omega) hk hq
      have hk1 : ∀ q : Nat, q < H1.size → ¬ blk (x + 1) 11 q → H2[q]? = H1[q]? := fun q h1 h2 => hk q h1 (fun e => h2 (by rw [e]; exact blk_k (by decide)))
      have hP := xW7_k hP hk1 nA_N
      have hX := hX.setN hbd hk1 (show sP D y bd (x + 1) (upd d (52 + n) v, ca, pa, pk) H2 from hN1)
      clear hq hz1 hk hk1 hN1
      obtain ⟨cs, ns, se, wi, al, re, gi, ps, ss, vs, hQ, hR, hC, hE, hT⟩ := (show sD D y bd (x + 1) (upd d (52 + n) v) ca pa pk H2 from hX.1)
      refine lv_aload_n hx hb dX4_wind_37 rfl (lv_at hl 0 rfl) ?_
      refine z_get (fs := [.ref (x + 1), .ref (x + 12), .ref (x + 23), .int (nI (recN k)), .ref (x + 24)]) (ref := "CranePermits") (C := RX4) (T := TX4) (N := 5) (ci := 4) (v := .ref (x + 1)) hx hb hts i_c_X4_wind_ok_X4 hown hK (hP 0 _ rfl) 0 (by decide) rfl (hts (.fieldLink RX4 10 "CranePermits" "now" "LCranePermits$Site;") (List.mem_of_getElem? (i := 1) rfl)) rfl rfl dX4_wind_38 ?_
      refine w_callV (As := []) (rest := []) hF hK (c_X2_withdrawFailing l D y bd (x + 1) (upd d (52 + n) v) ca pa pk ((hI.low (52 + n) (by omega) v).1) ((rJ_upd hJ (k := 52 + n) (by omega) (by omega)).1) ((rJ_upd hJ (k := 52 + n) (by omega) (by omega)).2) (by omega)) (cwV 0 hts gX4_wind_X2_withdrawFailing rfl rfl rfl (by decide +kernel) ⟨Nat.le_of_ble_eq_true rfl, Nat.le_of_ble_eq_true rfl⟩) (sD_recv hK hX.1) hX.1 hS (fun q h => xb_b (by omega) (by omega) h) rfl hl.1 rfl (Nat.le_of_ble_eq_true rfl) dX4_wind_41 ⟨Nat.zero_le _, Nat.zero_le _⟩ (fun H3 locs1 hq hz1 hk hS => ?_)
      have hP := xW7_k hP hk nA_N
      have hX := hX.setN hbd hk (show sP D y bd (x + 1) (wfD (upd d (52 + n) v) (vn (upd d (52 + n) v)), ca, pa, pk) H3 from hq)
      clear hq hz1 hk
      exact w_reti hx hb hr hlocks hS (⟨_, _, _, _, _, _, hP, hps, hX⟩) (rfl) dX4_wind_44
    · first | exact absurd (inB_of (lo := 0) (hi := 29) (Nat.zero_le n) (by omega) (by decide)) (bf c4) | exact absurd hv (bf c14)
theorem i_c_X4_allow_ok_X4 : ∀ w ∈ wsX40, w ∈ wsX4_allow := fun w h => (List.mem_cons_of_mem _ (List.mem_append_left _ (List.mem_append_left _ (List.mem_append_left _ (List.mem_append_right _ h)))))
theorem i_c_X4_allow_ok_X2 : ∀ w ∈ wsX20, w ∈ wsX4_allow := fun w h => (List.mem_cons_of_mem _ (List.mem_append_left _ (List.mem_append_left _ (List.mem_append_right _ h))))
set_option maxRecDepth 100000 in
set_option maxHeartbeats 4000000 in
theorem c_X4_allow_ok (l : Launch) (D : va_G) (y : zY) (x : Nat) (bd : Nat) (d : Nat → Int32) (ca : Nat → Nat) (pa : Nat → Nat) (pk : Nat → Nat) (T : Pic) (P : Nat → Pic) (k : Nat) (rot : Nat) (len : Nat) (ts : Int32) (tn : Nat) (tx : Nat → Int32) (a : Nat) (n : Nat) (v : Int32) (hJ : rJ d) (hk4 : k ≤ 4) (hbd : x + 70 ≤ bd) (ha : a < 4) (hn : n < 30) (hv : inB v (nI 0) (nI 200) = true) : Met l yX4_allow wsX4_allow ({ frames := 5, cells := 0, slots := 0, locals := 113 }) (zP [.ref x, .int (nI a), .int (nI n), .int v] (fun H => xO D y bd x (d, ca, pa, pk) T P k rot len ts tn tx H) D y) (zW (some (.int (wfC (upd d (82 + (30 * a + n)) v) (vn (upd d (82 + (30 * a + n)) v))))) (fun H => xO D y bd x (wfD (upd d (82 + (30 * a + n)) v) (vn (upd d (82 + (30 * a + n)) v)), ca, pa, pk) T (remP P k rot (d, ca, pa, pk)) (recN k) (remR k rot) len ts tn tx H) (xB x bd)) 0 0 (xB x bd) := by
  refine z_body (cc := cX4_allow) (maxL := 4) (ret := (some .int)) (la := [(0, .ref x), (1, .int (nI a)), (2, .int (nI n)), (3, .int v)]) (by decide) rfl (Nat.le_of_ble_eq_true rfl) rfl ?_
  intro pg ev s mm below meth c0 ls hx hb hr hF hlocks hΦ hK hl _
  have hts := hF.2.2.2.2
  have hown : s.vm.findClass RX4 = some mm.cls := hF.2.2.2.1
  have hS : va_S (xB x bd) s.heap s.heap [] := va_S.rf
  have hI := hJ.1
  have hv24 := hJ.2.1
  have hpl := hJ.2.2.1
  have hS9 := hpl.w
  have hG2 := hI.ng2
  have hC8 := hI.nc8
  obtain ⟨pf, f2, f3, f4, f5, f6, hP, hps, hX⟩ := hΦ
  obtain ⟨cs, ns, se, wi, al, re, gi, ps, ss, vs, hQ, hR, hC, hE, hT⟩ := (show sD D y bd (x + 1) d ca pa pk s.heap from hX.1)
  refine lv_iload_n hx hb dX4_allow_0 rfl (lv_at hl 1 rfl) ?_
  refine z_callS (As := [.int (nI a)]) (rest := []) hF hK (c_X4_isStreet l D y (nI a) ) (va_cwS 1 hts gX4_allow_X4_isStreet rfl rfl rfl (by decide +kernel) ⟨Nat.le_of_ble_eq_true rfl, Nat.le_of_ble_eq_true rfl⟩) trivial rfl hl.1 rfl (Nat.le_of_ble_eq_true rfl) dX4_allow_1 ⟨Nat.zero_le _, Nat.zero_le _⟩ ?_
  refine z_ifeq (tgt := 25) hx hb dX4_allow_4 (by decide) (fun c4 => ?_) (fun c4 => ?_)
  · first | exact absurd (inB_of (lo := 0) (hi := 3) (Nat.zero_le a) (by omega) (by decide)) (bf c4) | exact absurd (inB_of (lo := 0) (hi := 29) (Nat.zero_le n) (by omega) (by decide)) (bf c11) | exact absurd hv (bf c22)
  · refine lv_iload_n hx hb dX4_allow_7 rfl (lv_at hl 2 rfl) ?_
    refine z_callS (As := [.int (nI n)]) (rest := []) hF hK (c_X4_isNight l D y (nI n) ) (va_cwS 1 hts gX4_allow_X4_isNight rfl rfl rfl (by decide +kernel) ⟨Nat.le_of_ble_eq_true rfl, Nat.le_of_ble_eq_true rfl⟩) trivial rfl hl.1 rfl (Nat.le_of_ble_eq_true rfl) dX4_allow_8 ⟨Nat.zero_le _, Nat.zero_le _⟩ ?_
    refine z_ifeq (tgt := 25) hx hb dX4_allow_11 (by decide) (fun c11 => ?_) (fun c11 => ?_)
    · first | exact absurd (inB_of (lo := 0) (hi := 3) (Nat.zero_le a) (by omega) (by decide)) (bf c4) | exact absurd (inB_of (lo := 0) (hi := 29) (Nat.zero_le n) (by omega) (by decide)) (bf c11) | exact absurd hv (bf c22)
    · refine lv_iload_n hx hb dX4_allow_14 rfl (lv_at hl 3 rfl) ?_
      refine lv_iconst (v := (nI 0)) hx hb dX4_allow_15 (by decide) ?_
      refine lv_sipush (v := (nI 200)) hx hb dX4_allow_16 (by decide) ?_
      refine z_callS (As := [.int v, .int (nI 0), .int (nI 200)]) (rest := []) hF hK (c_X4_isIn l D y v (nI 0) (nI 200) ) (va_cwS 3 hts gX4_allow_X4_isIn rfl rfl rfl (by decide +kernel) ⟨Nat.le_of_ble_eq_true rfl, Nat.le_of_ble_eq_true rfl⟩) trivial rfl hl.1 rfl (Nat.le_of_ble_eq_true rfl) dX4_allow_19 ⟨Nat.zero_le _, Nat.zero_le _⟩ ?_
      refine z_ifne (tgt := 29) hx hb dX4_allow_22 (by decide) (fun c22 => ?_) (fun c22 => ?_)
      · refine lv_aload_n hx hb dX4_allow_29 rfl (lv_at hl 0 rfl) ?_
        refine w_callV (As := []) (rest := []) hF hK (c_X4_remember l D y x bd d ca pa pk T P k rot len ts tn tx (hJ) (hk4) (hbd)) (cwV 0 hts gX4_allow_X4_remember rfl rfl rfl (by decide +kernel) ⟨Nat.le_of_ble_eq_true rfl, Nat.le_of_ble_eq_true rfl⟩) (z_recv (q := (RX4, TX4, 5)) hK (hP 0 _ rfl) rfl) ⟨_, _, _, _, _, _, hP, hps, hX⟩ hS (fun q h => h) rfl hl.1 rfl (Nat.le_of_ble_eq_true rfl) dX4_allow_30 ⟨Nat.zero_le _, Nat.zero_le _⟩ (fun H1 locs1 hq hz1 hk hS => ?_)
        clear hP hX hps
        obtain ⟨pf, f2, f3, f4, f5, f6, hP, hps, hX⟩ := hq
        clear hz1 hk
        obtain ⟨cs, ns, se, wi, al, re, gi, ps, ss, vs, hQ, hR, hC, hE, hT⟩ := (show sD D y bd (x + 1) d ca pa pk H1 from hX.1)
        refine lv_aload_n hx hb dX4_allow_33 rfl (lv_at hl 0 rfl) ?_
        refine z_get (fs := [.ref (x + 1), .ref (x + 12), .ref (x + 23), .int (nI (recN k)), .ref (x + 24)]) (ref := "CranePermits") (C := RX4) (T := TX4) (N := 5) (ci := 4) (v := .ref (x + 1)) hx hb hts i_c_X4_allow_ok_X4 hown hK (hP 0 _ rfl) 0 (by decide) rfl (hts (.fieldLink RX4 10 "CranePermits" "now" "LCranePermits$Site;") (List.mem_of_getElem? (i := 1) rfl)) rfl rfl dX4_allow_34 ?_
        refine z_get (fs := [.ref ((x + 1) + 1), .int (nI (nC d)), .ref ((x + 1) + 2), .ref ((x + 1) + 3), .ref ((x + 1) + 4), .ref ((x + 1) + 5), .ref ((x + 1) + 6), .ref ((x + 1) + 7), .ref ((x + 1) + 8), .int (nI (nG d)), .ref ((x + 1) + 9), .ref ((x + 1) + 10), .int (nI (vn d))]) (ref := "CranePermits$Site") (C := RX2) (T := TX2) (N := 13) (ci := 2) (v := .ref ((x + 1) + 5)) hx hb hts i_c_X4_allow_ok_X2 hown hK (hQ 0 _ rfl) 5 (by decide) rfl (hts (.fieldLink RX4 124 "CranePermits$Site" "allowances" "[I") (List.mem_of_getElem? (i := 2) rfl)) rfl rfl dX4_allow_37 ?_
        refine lv_iload_n hx hb dX4_allow_40 rfl (lv_at hl 1 rfl) ?_
        refine lv_iload_n hx hb dX4_allow_41 rfl (lv_at hl 2 rfl) ?_
        refine z_callS (As := [.int (nI a), .int (nI n)]) (rest := [.ref ((x + 1) + 5)]) hF hK (c_X4_streetNight l D y a n ) (va_cwS 2 hts gX4_allow_X4_streetNight rfl rfl rfl (by decide +kernel) ⟨Nat.le_of_ble_eq_true rfl, Nat.le_of_ble_eq_true rfl⟩) trivial rfl hl.1 rfl (Nat.le_of_ble_eq_true rfl) dX4_allow_42 ⟨Nat.zero_le _, Nat.zero_le _⟩ ?_
        refine lv_iload_n hx hb dX4_allow_45 rfl (lv_at hl 3 rfl) ?_
        refine w_callS (As := [.ref ((x + 1) + 5), .int (nI (30 * a + n)), .int v]) (rest := []) hF hK (c_X4_put l D y ((x + 1) + 5) 120 al (30 * a + n) v (by omega) (by decide)) (va_cwS 3 hts gX4_allow_X4_put rfl rfl rfl (by decide +kernel) ⟨Nat.le_of_ble_eq_true rfl, Nat.le_of_ble_eq_true rfl⟩) (pw_P (hQ 5 _ rfl)) hS (fun q h => by rw [show q = _ from h]; exact xb_k (k := 6) (by decide)) rfl hl.1 rfl (Nat.le_of_ble_eq_true rfl) dX4_allow_46 ⟨Nat.zero_le _, Nat.zero_le _⟩ (fun H2 locs1 hq hz1 hk hS => ?_)
        have hN1 : sD D y bd (x + 1) (upd d (82 + (30 * a + n)) v) ca pa pk H2 := put_al hQ hR hC hE hT hI (by omega) (by omega) hk hq
        have hk1 : ∀ q : Nat, q < H1.size → ¬ blk (x + 1) 11 q → H2[q]? = H1[q]? := fun q h1 h2 => hk q h1 (fun e => h2 (by rw [e]; exact blk_k (by decide)))
        have hP := xW7_k hP hk1 nA_N
        have hX := hX.setN hbd hk1 (show sP D y bd (x + 1) (upd d (82 + (30 * a + n)) v, ca, pa, pk) H2 from hN1)
        clear hq hz1 hk hk1 hN1
        obtain ⟨cs, ns, se, wi, al, re, gi, ps, ss, vs, hQ, hR, hC, hE, hT⟩ := (show sD D y bd (x + 1) (upd d (82 + (30 * a + n)) v) ca pa pk H2 from hX.1)
        refine lv_aload_n hx hb dX4_allow_49 rfl (lv_at hl 0 rfl) ?_
        refine z_get (fs := [.ref (x + 1), .ref (x + 12), .ref (x + 23), .int (nI (recN k)), .ref (x + 24)]) (ref := "CranePermits") (C := RX4) (T := TX4) (N := 5) (ci := 4) (v := .ref (x + 1)) hx hb hts i_c_X4_allow_ok_X4 hown hK (hP 0 _ rfl) 0 (by decide) rfl (hts (.fieldLink RX4 10 "CranePermits" "now" "LCranePermits$Site;") (List.mem_of_getElem? (i := 1) rfl)) rfl rfl dX4_allow_50 ?_
        refine w_callV (As := []) (rest := []) hF hK (c_X2_withdrawFailing l D y bd (x + 1) (upd d (82 + (30 * a + n)) v) ca pa pk ((hI.low (82 + (30 * a + n)) (by omega) v).1) ((rJ_upd hJ (k := 82 + (30 * a + n)) (by omega) (by omega)).1) ((rJ_upd hJ (k := 82 + (30 * a + n)) (by omega) (by omega)).2) (by omega)) (cwV 0 hts gX4_allow_X2_withdrawFailing rfl rfl rfl (by decide +kernel) ⟨Nat.le_of_ble_eq_true rfl, Nat.le_of_ble_eq_true rfl⟩) (sD_recv hK hX.1) hX.1 hS (fun q h => xb_b (by omega) (by omega) h) rfl hl.1 rfl (Nat.le_of_ble_eq_true rfl) dX4_allow_53 ⟨Nat.zero_le _, Nat.zero_le _⟩ (fun H3 locs1 hq hz1 hk hS => ?_)
        have hP := xW7_k hP hk nA_N
        have hX := hX.setN hbd hk (show sP D y bd (x + 1) (wfD (upd d (82 + (30 * a + n)) v) (vn (upd d (82 + (30 * a + n)) v)), ca, pa, pk) H3 from hq)
        clear hq hz1 hk
        exact w_reti hx hb hr hlocks hS (⟨_, _, _, _, _, _, hP, hps, hX⟩) (rfl) dX4_allow_56
      · first | exact absurd (inB_of (lo := 0) (hi := 3) (Nat.zero_le a) (by omega) (by decide)) (bf c4) | exact absurd (inB_of (lo := 0) (hi := 29) (Nat.zero_le n) (by omega) (by decide)) (bf c11) | exact absurd hv (bf c22)
theorem i_c_X4_transfer_ok_X4 : ∀ w ∈ wsX40, w ∈ wsX4_transfer := fun w h => (List.mem_cons_of_mem _ (List.mem_append_left _ (List.mem_append_left _ (List.mem_append_left _ (List.mem_append_right _ h)))))
theorem i_c_X4_transfer_ok_X2 : ∀ w ∈ wsX20, w ∈ wsX4_transfer := fun w h => (List.mem_cons_of_mem _ (List.mem_append_left _ (List.mem_append_left _ (List.mem_append_right _ h))))
set_option maxRecDepth 100000 in
set_option maxHeartbeats 4000000 in
theorem c_X4_transfer_ok (l : Launch) (D : va_G) (y : zY) (x : Nat) (bd : Nat) (d : Nat → Int32) (ca : Nat → Nat) (pa : Nat → Nat) (pk : Nat → Nat) (T : Pic) (P : Nat → Pic) (k : Nat) (rot : Nat) (len : Nat) (ts : Int32) (tn : Nat) (tx : Nat → Int32) (a : Nat) (b : Nat) (n : Nat) (c : Int32) (hJ : rJ d) (hk4 : k ≤ 4) (hbd : x + 70 ≤ bd) (ha : a < 4) (hb4 : b < 4) (hab : a ≠ b) (hn : n < 30) (hc : inB c (nI 1) (nI 200) = true) (hf : 0 ≤ freI d a n - c) : Met l yX4_transfer wsX4_transfer ({ frames := 4, cells := 0, slots := 0, locals := 90 }) (zP [.ref x, .int (nI a), .int (nI b), .int (nI n), .int c] (fun H => xO D y bd x (d, ca, pa, pk) T P k rot len ts tn tx H) D y) (zW (some (.int (freI d a n - c))) (fun H => xO D y bd x (traD d a b n c, ca, pa, pk) T (remP P k rot (d, ca, pa, pk)) (recN k) (remR k rot) len ts tn tx H) (xB x bd)) 0 0 (xB x bd) := by
  refine z_body (cc := cX4_transfer) (maxL := 8) (ret := (some .int)) (la := [(0, .ref x), (1, .int (nI a)), (2, .int (nI b)), (3, .int (nI n)), (4, .int c)]) (by decide) rfl (Nat.le_of_ble_eq_true rfl) rfl ?_
  intro pg ev s mm below meth c0 ls hx hb hr hF hlocks hΦ hK hl _
  have hts := hF.2.2.2.2
  have hown : s.vm.findClass RX4 = some mm.cls := hF.2.2.2.1
  have hS : va_S (xB x bd) s.heap s.heap [] := va_S.rf
  have hI := hJ.1
  have hv24 := hJ.2.1
  have hpl := hJ.2.2.1
  have hS9 := hpl.w
  have hG2 := hI.ng2
  have hC8 := hI.nc8
  obtain ⟨pf, f2, f3, f4, f5, f6, hP, hps, hX⟩ := hΦ
  obtain ⟨cs, ns, se, wi, al, re, gi, ps, ss, vs, hQ, hR, hC, hE, hT⟩ := (show sD D y bd (x + 1) d ca pa pk s.heap from hX.1)
  refine lv_iload_n hx hb dX4_transfer_0 rfl (lv_at hl 1 rfl) ?_
  refine z_callS (As := [.int (nI a)]) (rest := []) hF hK (c_X4_isStreet l D y (nI a) ) (va_cwS 1 hts gX4_transfer_X4_isStreet rfl rfl rfl (by decide +kernel) ⟨Nat.le_of_ble_eq_true rfl, Nat.le_of_ble_eq_true rfl⟩) trivial rfl hl.1 rfl (Nat.le_of_ble_eq_true rfl) dX4_transfer_1 ⟨Nat.zero_le _, Nat.zero_le _⟩ ?_
  refine z_ifeq (tgt := 38) hx hb dX4_transfer_4 (by decide) (fun c4 => ?_) (fun c4 => ?_)
  · first | exact absurd (inB_of (lo := 0) (hi := 3) (Nat.zero_le a) (by omega) (by decide)) (bf c4) | exact absurd (inB_of (lo := 0) (hi := 3) (Nat.zero_le b) (by omega) (by decide)) (bf c11) | exact absurd c16 hab | exact absurd (inB_of (lo := 0) (hi := 29) (Nat.zero_le n) (by omega) (by decide)) (bf c23) | exact absurd hc (bf c35)
  · refine lv_iload_n hx hb dX4_transfer_7 rfl (lv_at hl 2 rfl) ?_
    refine z_callS (As := [.int (nI b)]) (rest := []) hF hK (c_X4_isStreet l D y (nI b) ) (va_cwS 1 hts gX4_transfer_X4_isStreet rfl rfl rfl (by decide +kernel) ⟨Nat.le_of_ble_eq_true rfl, Nat.le_of_ble_eq_true rfl⟩) trivial rfl hl.1 rfl (Nat.le_of_ble_eq_true rfl) dX4_transfer_8 ⟨Nat.zero_le _, Nat.zero_le _⟩ ?_
    refine z_ifeq (tgt := 38) hx hb dX4_transfer_11 (by decide) (fun c11 => ?_) (fun c11 => ?_)
    · first | exact absurd (inB_of (lo := 0) (hi := 3) (Nat.zero_le a) (by omega) (by decide)) (bf c4) | exact absurd (inB_of (lo := 0) (hi := 3) (Nat.zero_le b) (by omega) (by decide)) (bf c11) | exact absurd c16 hab | exact absurd (inB_of (lo := 0) (hi := 29) (Nat.zero_le n) (by omega) (by decide)) (bf c23) | exact absurd hc (bf c35)
    · refine lv_iload_n hx hb dX4_transfer_14 rfl (lv_at hl 1 rfl) ?_
      refine lv_iload_n hx hb dX4_transfer_15 rfl (lv_at hl 2 rfl) ?_
      refine z_eq (tgt := 38) hx hb (by omega) (by omega) dX4_transfer_16 (by decide) (fun c16 => ?_) (fun c16 => ?_)
      · first | exact absurd (inB_of (lo := 0) (hi := 3) (Nat.zero_le a) (by omega) (by decide)) (bf c4) | exact absurd (inB_of (lo := 0) (hi := 3) (Nat.zero_le b) (by omega) (by decide)) (bf c11) | exact absurd c16 hab | exact absurd (inB_of (lo := 0) (hi := 29) (Nat.zero_le n) (by omega) (by decide)) (bf c23) | exact absurd hc (bf c35)
      · refine lv_iload_n hx hb dX4_transfer_19 rfl (lv_at hl 3 rfl) ?_
        refine z_callS (As := [.int (nI n)]) (rest := []) hF hK (c_X4_isNight l D y (nI n) ) (va_cwS 1 hts gX4_transfer_X4_isNight rfl rfl rfl (by decide +kernel) ⟨Nat.le_of_ble_eq_true rfl, Nat.le_of_ble_eq_true rfl⟩) trivial rfl hl.1 rfl (Nat.le_of_ble_eq_true rfl) dX4_transfer_20 ⟨Nat.zero_le _, Nat.zero_le _⟩ ?_
        refine z_ifeq (tgt := 38) hx hb dX4_transfer_23 (by decide) (fun c23 => ?_) (fun c23 => ?_)
        · first | exact absurd (inB_of (lo := 0) (hi := 3) (Nat.zero_le a) (by omega) (by decide)) (bf c4) | exact absurd (inB_of (lo := 0) (hi := 3) (Nat.zero_le b) (by omega) (by decide)) (bf c11) | exact absurd c16 hab | exact absurd (inB_of (lo := 0) (hi := 29) (Nat.zero_le n) (by omega) (by decide)) (bf c23) | exact absurd hc (bf c35)
        · refine lv_iload hx hb dX4_transfer_26 (lv_at hl 4 rfl) ?_
          refine lv_iconst (v := (nI 1)) hx hb dX4_transfer_28 (by decide) ?_
          refine lv_sipush (v := (nI 200)) hx hb dX4_transfer_29 (by decide) ?_
          refine z_callS (As := [.int c, .int (nI 1), .int (nI 200)]) (rest := []) hF hK (c_X4_isIn l D y c (nI 1) (nI 200) ) (va_cwS 3 hts gX4_transfer_X4_isIn rfl rfl rfl (by decide +kernel) ⟨Nat.le_of_ble_eq_true rfl, Nat.le_of_ble_eq_true rfl⟩) trivial rfl hl.1 rfl (Nat.le_of_ble_eq_true rfl) dX4_transfer_32 ⟨Nat.zero_le _, Nat.zero_le _⟩ ?_
          refine z_ifne (tgt := 42) hx hb dX4_transfer_35 (by decide) (fun c35 => ?_) (fun c35 => ?_)
          · refine lv_aload_n hx hb dX4_transfer_42 rfl (lv_at hl 0 rfl) ?_
            refine z_get (fs := [.ref (x + 1), .ref (x + 12), .ref (x + 23), .int (nI k), .ref (x + 24)]) (ref := "CranePermits") (C := RX4) (T := TX4) (N := 5) (ci := 4) (v := .ref (x + 1)) hx hb hts i_c_X4_transfer_ok_X4 hown hK (hP 0 _ rfl) 0 (by decide) rfl (hts (.fieldLink RX4 10 "CranePermits" "now" "LCranePermits$Site;") (List.mem_of_getElem? (i := 1) rfl)) rfl rfl dX4_transfer_43 ?_
            refine lv_iload_n hx hb dX4_transfer_46 rfl (lv_at hl 1 rfl) ?_
            refine lv_iload_n hx hb dX4_transfer_47 rfl (lv_at hl 3 rfl) ?_
            refine z_callV (As := [.int (nI a), .int (nI n)]) (rest := []) hF hK (c_X2_freeOf l D y bd (x + 1) d ca pa pk a n (hI) (hv24) (by omega) (by omega)) (cwV 2 hts gX4_transfer_X2_freeOf rfl rfl rfl (by decide +kernel) ⟨Nat.le_of_ble_eq_true rfl, Nat.le_of_ble_eq_true rfl⟩) (sD_recv hK hX.1) hX.1 rfl hl.1 rfl (Nat.le_of_ble_eq_true rfl) dX4_transfer_48 ⟨Nat.zero_le _, Nat.zero_le _⟩ ?_
            refine lv_iload hx hb dX4_transfer_51 (lv_at hl 4 rfl) ?_
            refine lv_isub hx hb dX4_transfer_53 ?_
            refine lv_istore (lv' := [(5, .int ((freI d a n) - c)), (0, .ref x), (1, .int (nI a)), (2, .int (nI b)), (3, .int (nI n)), (4, .int c)]) hx hb dX4_transfer_54 hl (by decide) rfl (fun ls hl => ?_)
            refine lv_iload hx hb dX4_transfer_56 (lv_at hl 0 rfl) ?_
            refine lv_if_ge (tgt := 65) hx hb dX4_transfer_58 (by decide) (fun c58 => ?_) (fun c58 => ?_)
            · refine lv_aload_n hx hb dX4_transfer_65 rfl (lv_at hl 1 rfl) ?_
              refine w_callV (As := []) (rest := []) hF hK (c_X4_remember l D y x bd d ca pa pk T P k rot len ts tn tx (hJ) (hk4) (hbd)) (cwV 0 hts gX4_transfer_X4_remember rfl rfl rfl (by decide +kernel) ⟨Nat.le_of_ble_eq_true rfl, Nat.le_of_ble_eq_true rfl⟩) (z_recv (q := (RX4, TX4, 5)) hK (hP 0 _ rfl) rfl) ⟨_, _, _, _, _, _, hP, hps, hX⟩ hS (fun q h => h) rfl hl.1 rfl (Nat.le_of_ble_eq_true rfl) dX4_transfer_66 ⟨Nat.zero_le _, Nat.zero_le _⟩ (fun H1 locs1 hq hz1 hk hS => ?_)
              clear hP hX hps
              obtain ⟨pf, f2, f3, f4, f5, f6, hP, hps, hX⟩ := hq
              clear hz1 hk
              obtain ⟨cs, ns, se, wi, al, re, gi, ps, ss, vs, hQ, hR, hC, hE, hT⟩ := (show sD D y bd (x + 1) d ca pa pk H1 from hX.1)
              refine lv_iload_n hx hb dX4_transfer_69 rfl (lv_at hl 2 rfl) ?_
              refine lv_iload_n hx hb dX4_transfer_70 rfl (lv_at hl 4 rfl) ?_
              refine z_callS (As := [.int (nI a), .int (nI n)]) (rest := []) hF hK (c_X4_streetNight l D y a n ) (va_cwS 2 hts gX4_transfer_X4_streetNight rfl rfl rfl (by decide +kernel) ⟨Nat.le_of_ble_eq_true rfl, Nat.le_of_ble_eq_true rfl⟩) trivial rfl hl.1 rfl (Nat.le_of_ble_eq_true rfl) dX4_transfer_71 ⟨Nat.zero_le _, Nat.zero_le _⟩ ?_
              refine lv_istore (lv' := [(6, .int (nI (30 * a + n))), (5, .int ((freI d a n) - c)), (0, .ref x), (1, .int (nI a)), (2, .int (nI b)), (3, .int (nI n)), (4, .int c)]) hx hb dX4_transfer_74 hl (by decide) rfl (fun ls hl => ?_)
              refine lv_iload_n hx hb dX4_transfer_76 rfl (lv_at hl 4 rfl) ?_
              refine lv_iload_n hx hb dX4_transfer_77 rfl (lv_at hl 5 rfl) ?_
              refine z_callS (As := [.int (nI b), .int (nI n)]) (rest := []) hF hK (c_X4_streetNight l D y b n ) (va_cwS 2 hts gX4_transfer_X4_streetNight rfl rfl rfl (by decide +kernel) ⟨Nat.le_of_ble_eq_true rfl, Nat.le_of_ble_eq_true rfl⟩) trivial rfl hl.1 rfl (Nat.le_of_ble_eq_true rfl) dX4_transfer_78 ⟨Nat.zero_le _, Nat.zero_le _⟩ ?_
              refine lv_istore (lv' := [(7, .int (nI (30 * b + n))), (6, .int (nI (30 * a + n))), (5, .int ((freI d a n) - c)), (0, .ref x), (1, .int (nI a)), (2, .int (nI b)), (3, .int (nI n)), (4, .int c)]) hx hb dX4_transfer_81 hl (by decide) rfl (fun ls hl => ?_)
              refine lv_aload_n hx hb dX4_transfer_83 rfl (lv_at hl 3 rfl) ?_
              refine z_get (fs := [.ref (x + 1), .ref (x + 12), .ref (x + 23), .int (nI (recN k)), .ref (x + 24)]) (ref := "CranePermits") (C := RX4) (T := TX4) (N := 5) (ci := 4) (v := .ref (x + 1)) hx hb hts i_c_X4_transfer_ok_X4 hown hK (hP 0 _ rfl) 0 (by decide) rfl (hts (.fieldLink RX4 10 "CranePermits" "now" "LCranePermits$Site;") (List.mem_of_getElem? (i := 1) rfl)) rfl rfl dX4_transfer_84 ?_
              refine z_get (fs := [.ref ((x + 1) + 1), .int (nI (nC d)), .ref ((x + 1) + 2), .ref ((x + 1) + 3), .ref ((x + 1) + 4), .ref ((x + 1) + 5), .ref ((x + 1) + 6), .ref ((x + 1) + 7), .ref ((x + 1) + 8), .int (nI (nG d)), .ref ((x + 1) + 9), .ref ((x + 1) + 10), .int (nI (vn d))]) (ref := "CranePermits$Site") (C := RX2) (T := TX2) (N := 13) (ci := 2) (v := .ref ((x + 1) + 7)) hx hb hts i_c_X4_transfer_ok_X2 hown hK (hQ 0 _ rfl) 7 (by decide) rfl (hts (.fieldLink RX4 134 "CranePermits$Site" "given" "[I") (List.mem_of_getElem? (i := 2) rfl)) rfl rfl dX4_transfer_87 ?_
              refine lv_iload hx hb dX4_transfer_90 (lv_at hl 1 rfl) ?_
              refine lv_aload_n hx hb dX4_transfer_92 rfl (lv_at hl 3 rfl) ?_
              refine z_get (fs := [.ref (x + 1), .ref (x + 12), .ref (x + 23), .int (nI (recN k)), .ref (x + 24)]) (ref := "CranePermits") (C := RX4) (T := TX4) (N := 5) (ci := 4) (v := .ref (x + 1)) hx hb hts i_c_X4_transfer_ok_X4 hown hK (hP 0 _ rfl) 0 (by decide) rfl (hts (.fieldLink RX4 10 "CranePermits" "now" "LCranePermits$Site;") (List.mem_of_getElem? (i := 1) rfl)) rfl rfl dX4_transfer_93 ?_
              refine z_get (fs := [.ref ((x + 1) + 1), .int (nI (nC d)), .ref ((x + 1) + 2), .ref ((x + 1) + 3), .ref ((x + 1) + 4), .ref ((x + 1) + 5), .ref ((x + 1) + 6), .ref ((x + 1) + 7), .ref ((x + 1) + 8), .int (nI (nG d)), .ref ((x + 1) + 9), .ref ((x + 1) + 10), .int (nI (vn d))]) (ref := "CranePermits$Site") (C := RX2) (T := TX2) (N := 13) (ci := 2) (v := .ref ((x + 1) + 7)) hx hb hts i_c_X4_transfer_ok_X2 hown hK (hQ 0 _ rfl) 7 (by decide) rfl (hts (.fieldLink RX4 134 "CranePermits$Site" "given" "[I") (List.mem_of_getElem? (i := 2) rfl)) rfl rfl dX4_transfer_96 ?_
              refine lv_iload hx hb dX4_transfer_99 (lv_at hl 1 rfl) ?_
              refine z_callS (As := [.ref ((x + 1) + 7), .int (nI (30 * a + n))]) (rest := [.int (nI (30 * a + n)), .ref ((x + 1) + 7)]) hF hK (c_X4_at l D y ((x + 1) + 7) 120 gi (30 * a + n) (by omega) (by decide)) (va_cwS 2 hts gX4_transfer_X4_at rfl rfl rfl (by decide +kernel) ⟨Nat.le_of_ble_eq_true rfl, Nat.le_of_ble_eq_true rfl⟩) (hQ 7 _ rfl) rfl hl.1 rfl (Nat.le_of_ble_eq_true rfl) dX4_transfer_101 ⟨Nat.zero_le _, Nat.zero_le _⟩ ?_
              refine z_topi (z := (d (322 + (30 * a + n)))) (hR.2.2.2.2.2.2.1 (30 * a + n) (by omega)) ?_
              refine lv_iload hx hb dX4_transfer_104 (lv_at hl 7 rfl) ?_
              refine lv_iadd hx hb dX4_transfer_106 ?_
              refine w_callS (As := [.ref ((x + 1) + 7), .int (nI (30 * a + n)), .int ((d (322 + (30 * a + n))) + c)]) (rest := []) hF hK (c_X4_put l D y ((x + 1) + 7) 120 gi (30 * a + n) ((d (322 + (30 * a + n))) + c) (by omega) (by decide)) (va_cwS 3 hts gX4_transfer_X4_put rfl rfl rfl (by decide +kernel) ⟨Nat.le_of_ble_eq_true rfl, Nat.le_of_ble_eq_true rfl⟩) (pw_P (hQ 7 _ rfl)) hS (fun q h => by rw [show q = _ from h]; exact xb_k (k := 8) (by decide)) rfl hl.1 rfl (Nat.le_of_ble_eq_true rfl) dX4_transfer_107 ⟨Nat.zero_le _, Nat.zero_le _⟩ (fun H2 locs1 hq hz1 hk hS => ?_)
              have hN1 : sD D y bd (x + 1) (upd d (322 + (30 * a + n)) ((d (322 + (30 * a + n))) + c)) ca pa pk H2 := put_gi hQ hR hC hE hT hI (by omega) (by omega) hk hq
              have hk1 : ∀ q : Nat, q < H1.size → ¬ blk (x + 1) 11 q → H2[q]? = H1[q]? := fun q h1 h2 => hk q h1 (fun e => h2 (by rw [e]; exact blk_k (by decide)))
              have hP := xW7_k hP hk1 nA_N
              have hX := hX.setN hbd hk1 (show sP D y bd (x + 1) (upd d (322 + (30 * a + n)) ((d (322 + (30 * a + n))) + c), ca, pa, pk) H2 from hN1)
              clear hq hz1 hk hk1 hN1
              obtain ⟨cs, ns, se, wi, al, re, gi, ps, ss, vs, hQ, hR, hC, hE, hT⟩ := (show sD D y bd (x + 1) (upd d (322 + (30 * a + n)) ((d (322 + (30 * a + n))) + c)) ca pa pk H2 from hX.1)
              refine lv_aload_n hx hb dX4_transfer_110 rfl (lv_at hl 3 rfl) ?_
              refine z_get (fs := [.ref (x + 1), .ref (x + 12), .ref (x + 23), .int (nI (recN k)), .ref (x + 24)]) (ref := "CranePermits") (C := RX4) (T := TX4) (N := 5) (ci := 4) (v := .ref (x + 1)) hx hb hts i_c_X4_transfer_ok_X4 hown hK (hP 0 _ rfl) 0 (by decide) rfl (hts (.fieldLink RX4 10 "CranePermits" "now" "LCranePermits$Site;") (List.mem_of_getElem? (i := 1) rfl)) rfl rfl dX4_transfer_111 ?_
              refine z_get (fs := [.ref ((x + 1) + 1), .int (nI (nC (upd d (322 + (30 * a + n)) ((d (322 + (30 * a + n))) + c)))), .ref ((x + 1) + 2), .ref ((x + 1) + 3), .ref ((x + 1) + 4), .ref ((x + 1) + 5), .ref ((x + 1) + 6), .ref ((x + 1) + 7), .ref ((x + 1) + 8), .int (nI (nG (upd d (322 + (30 * a + n)) ((d (322 + (30 * a + n))) + c)))), .ref ((x + 1) + 9), .ref ((x + 1) + 10), .int (nI (vn (upd d (322 + (30 * a + n)) ((d (322 + (30 * a + n))) + c))))]) (ref := "CranePermits$Site") (C := RX2) (T := TX2) (N := 13) (ci := 2) (v := .ref ((x + 1) + 6)) hx hb hts i_c_X4_transfer_ok_X2 hown hK (hQ 0 _ rfl) 6 (by decide) rfl (hts (.fieldLink RX4 137 "CranePermits$Site" "received" "[I") (List.mem_of_getElem? (i := 3) rfl)) rfl rfl dX4_transfer_114 ?_
              refine lv_iload hx hb dX4_transfer_117 (lv_at hl 0 rfl) ?_
              refine lv_aload_n hx hb dX4_transfer_119 rfl (lv_at hl 3 rfl) ?_
              refine z_get (fs := [.ref (x + 1), .ref (x + 12), .ref (x + 23), .int (nI (recN k)), .ref (x + 24)]) (ref := "CranePermits") (C := RX4) (T := TX4) (N := 5) (ci := 4) (v := .ref (x + 1)) hx hb hts i_c_X4_transfer_ok_X4 hown hK (hP 0 _ rfl) 0 (by decide) rfl (hts (.fieldLink RX4 10 "CranePermits" "now" "LCranePermits$Site;") (List.mem_of_getElem? (i := 1) rfl)) rfl rfl dX4_transfer_120 ?_
              refine z_get (fs := [.ref ((x + 1) + 1), .int (nI (nC (upd d (322 + (30 * a + n)) ((d (322 + (30 * a + n))) + c)))), .ref ((x + 1) + 2), .ref ((x + 1) + 3), .ref ((x + 1) + 4), .ref ((x + 1) + 5), .ref ((x + 1) + 6), .ref ((x + 1) + 7), .ref ((x + 1) + 8), .int (nI (nG (upd d (322 + (30 * a + n)) ((d (322 + (30 * a + n))) + c)))), .ref ((x + 1) + 9), .ref ((x + 1) + 10), .int (nI (vn (upd d (322 + (30 * a + n)) ((d (322 + (30 * a + n))) + c))))]) (ref := "CranePermits$Site") (C := RX2) (T := TX2) (N := 13) (ci := 2) (v := .ref ((x + 1) + 6)) hx hb hts i_c_X4_transfer_ok_X2 hown hK (hQ 0 _ rfl) 6 (by decide) rfl (hts (.fieldLink RX4 137 "CranePermits$Site" "received" "[I") (List.mem_of_getElem? (i := 3) rfl)) rfl rfl dX4_transfer_123 ?_
              refine lv_iload hx hb dX4_transfer_126 (lv_at hl 0 rfl) ?_
              refine z_callS (As := [.ref ((x + 1) + 6), .int (nI (30 * b + n))]) (rest := [.int (nI (30 * b + n)), .ref ((x + 1) + 6)]) hF hK (c_X4_at l D y ((x + 1) + 6) 120 re (30 * b + n) (by omega) (by decide)) (va_cwS 2 hts gX4_transfer_X4_at rfl rfl rfl (by decide +kernel) ⟨Nat.le_of_ble_eq_true rfl, Nat.le_of_ble_eq_true rfl⟩) (hQ 6 _ rfl) rfl hl.1 rfl (Nat.le_of_ble_eq_true rfl) dX4_transfer_128 ⟨Nat.zero_le _, Nat.zero_le _⟩ ?_
              refine z_topi (z := ((upd d (322 + (30 * a + n)) ((d (322 + (30 * a + n))) + c)) (202 + (30 * b + n)))) (hR.2.2.2.2.2.1 (30 * b + n) (by omega)) ?_
              refine lv_iload hx hb dX4_transfer_131 (lv_at hl 7 rfl) ?_
              refine lv_iadd hx hb dX4_transfer_133 ?_
              refine w_callS (As := [.ref ((x + 1) + 6), .int (nI (30 * b + n)), .int (((upd d (322 + (30 * a + n)) ((d (322 + (30 * a + n))) + c)) (202 + (30 * b + n))) + c)]) (rest := []) hF hK (c_X4_put l D y ((x + 1) + 6) 120 re (30 * b + n) (((upd d (322 + (30 * a + n)) ((d (322 + (30 * a + n))) + c)) (202 + (30 * b + n))) + c) (by omega) (by decide)) (va_cwS 3 hts gX4_transfer_X4_put rfl rfl rfl (by decide +kernel) ⟨Nat.le_of_ble_eq_true rfl, Nat.le_of_ble_eq_true rfl⟩) (pw_P (hQ 6 _ rfl)) hS (fun q h => by rw [show q = _ from h]; exact xb_k (k := 7) (by decide)) rfl hl.1 rfl (Nat.le_of_ble_eq_true rfl) dX4_transfer_134 ⟨Nat.zero_le _, Nat.zero_le _⟩ (fun H3 locs1 hq hz1 hk hS => ?_)
              have hN1 : sD D y bd (x + 1) (upd (upd d (322 + (30 * a + n)) ((d (322 + (30 * a + n))) + c)) (202 + (30 * b + n)) (((upd d (322 + (30 * a + n)) ((d (322 + (30 * a + n))) + c)) (202 + (30 * b + n))) + c)) ca pa pk H3 := put_re hQ hR hC hE hT ((hI.low (322 + (30 * a + n)) (by omega) _).1) (by omega) (by omega) hk hq
              have hk1 : ∀ q : Nat, q < H2.size → ¬ blk (x + 1) 11 q → H3[q]? = H2[q]? := fun q h1 h2 => hk q h1 (fun e => h2 (by rw [e]; exact blk_k (by decide)))
              have hP := xW7_k hP hk1 nA_N
              have hX := hX.setN hbd hk1 (show sP D y bd (x + 1) (upd (upd d (322 + (30 * a + n)) ((d (322 + (30 * a + n))) + c)) (202 + (30 * b + n)) (((upd d (322 + (30 * a + n)) ((d (322 + (30 * a + n))) + c)) (202 + (30 * b + n))) + c), ca, pa, pk) H3 from hN1)
              clear hq hz1 hk hk1 hN1
              obtain ⟨cs, ns, se, wi, al, re, gi, ps, ss, vs, hQ, hR, hC, hE, hT⟩ := (show sD D y bd (x + 1) (upd (upd d (322 + (30 * a + n)) ((d (322 + (30 * a + n))) + c)) (202 + (30 * b + n)) (((upd d (322 + (30 * a + n)) ((d (322 + (30 * a + n))) + c)) (202 + (30 * b + n))) + c)) ca pa pk H3 from hX.1)
              refine lv_iload hx hb dX4_transfer_137 (lv_at hl 2 rfl) ?_
              exact w_reti hx hb hr hlocks hS (⟨_, _, _, _, _, _, hP, hps, hX⟩) (rfl) dX4_transfer_139
            · exact absurd hf c58
          · first | exact absurd (inB_of (lo := 0) (hi := 3) (Nat.zero_le a) (by omega) (by decide)) (bf c4) | exact absurd (inB_of (lo := 0) (hi := 3) (Nat.zero_le b) (by omega) (by decide)) (bf c11) | exact absurd c16 hab | exact absurd (inB_of (lo := 0) (hi := 29) (Nat.zero_le n) (by omega) (by decide)) (bf c23) | exact absurd hc (bf c35)
theorem i_c_X4_undo_ok_X4 : ∀ w ∈ wsX40, w ∈ wsX4_undo := fun w h => (List.mem_cons_of_mem _ (List.mem_append_left _ (List.mem_append_right _ h)))
set_option maxRecDepth 100000 in
set_option maxHeartbeats 4000000 in
theorem c_X4_undo_ok (l : Launch) (D : va_G) (y : zY) (x : Nat) (bd : Nat) (d : Nat → Int32) (ca : Nat → Nat) (pa : Nat → Nat) (pk : Nat → Nat) (T : Pic) (P : Nat → Pic) (k : Nat) (rot : Nat) (len : Nat) (ts : Int32) (tn : Nat) (tx : Nat → Int32) (hJ : rJ d) (hk4 : k ≤ 4) (hbd : x + 70 ≤ bd) (hk : k < 4) (hu8 : nC (P ((k + rot) % 4)).1 ≤ 8) (hu2 : nG (P ((k + rot) % 4)).1 ≤ 200) (huv : vn (P ((k + rot) % 4)).1 ≤ 24) : Met l yX4_undo wsX4_undo ({ frames := 2, cells := 0, slots := 0, locals := 61 }) (zP [.ref x] (fun H => xO D y bd x (d, ca, pa, pk) T P (k + 1) rot len ts tn tx H) D y) (zW (some (.int (nI k))) (fun H => xO D y bd x (P ((k + rot) % 4)) T P k rot len ts tn tx H) (xB x bd)) 0 0 (xB x bd) := by
  refine z_body (cc := cX4_undo) (maxL := 2) (ret := (some .int)) (la := [(0, .ref x)]) (by decide) rfl (Nat.le_of_ble_eq_true rfl) rfl ?_
  intro pg ev s mm below meth c0 ls hx hb hr hF hlocks hΦ hK hl _
  have hts := hF.2.2.2.2
  have hown : s.vm.findClass RX4 = some mm.cls := hF.2.2.2.1
  have hS : va_S (xB x bd) s.heap s.heap [] := va_S.rf
  have hI := hJ.1
  have hv24 := hJ.2.1
  have hpl := hJ.2.2.1
  have hS9 := hpl.w
  have hG2 := hI.ng2
  have hC8 := hI.nc8
  obtain ⟨pf, f2, f3, f4, f5, f6, hP, hps, hX⟩ := hΦ
  refine lv_aload_n hx hb dX4_undo_0 rfl (lv_at hl 0 rfl) ?_
  refine lv_aload_n hx hb dX4_undo_1 rfl (lv_at hl 0 rfl) ?_
  refine z_get (fs := [.ref (x + 1), .ref (x + 12), .ref (x + 23), .int (nI (k + 1)), .ref (x + 24)]) (ref := "CranePermits") (C := RX4) (T := TX4) (N := 5) (ci := 4) (v := .int (nI (k + 1))) hx hb hts i_c_X4_undo_ok_X4 hown hK (hP 0 _ rfl) 3 (by decide) rfl (hts (.fieldLink RX4 23 "CranePermits" "pastCount" "I") (List.mem_of_getElem? (i := 1) rfl)) rfl rfl dX4_undo_2 ?_
  refine lv_iconst (v := (nI 1)) hx hb dX4_undo_5 (by decide) ?_
  refine z_isub hx hb (by omega) dX4_undo_6 ?_
  refine z_topi (z := (nI k)) (rfl) ?_
  refine z_callV (As := [.int (nI k)]) (rest := []) hF hK (c_X4_pastAt_in l D y x (nI (k + 1)) pf k (x + 26 + 11 * ((k + rot) % 4)) (by omega) (hps k (by omega))) (cwV 1 hts gX4_undo_X4_pastAt rfl rfl rfl (by decide +kernel) ⟨Nat.le_of_ble_eq_true rfl, Nat.le_of_ble_eq_true rfl⟩) (z_recv (q := (RX4, TX4, 5)) hK (hP 0 _ rfl) rfl) ⟨hP 0 _ rfl, hP 1 _ rfl⟩ rfl hl.1 rfl (Nat.le_of_ble_eq_true rfl) dX4_undo_7 ⟨Nat.zero_le _, Nat.zero_le _⟩ ?_
  refine lv_astore_n (lv' := [(1, .ref (x + 26 + 11 * ((k + rot) % 4))), (0, .ref x)]) hx hb dX4_undo_10 rfl hl (by decide) rfl (fun ls hl => ?_)
  refine lv_aload_n hx hb dX4_undo_11 rfl (lv_at hl 0 rfl) ?_
  refine lv_ifnonnull (tgt := 19) hx hb dX4_undo_12 (by decide) ?_
  refine lv_aload_n hx hb dX4_undo_19 rfl (lv_at hl 1 rfl) ?_
  refine lv_dup hx hb dX4_undo_20 rfl ?_
  refine z_get (fs := [.ref (x + 1), .ref (x + 12), .ref (x + 23), .int (nI (k + 1)), .ref (x + 24)]) (ref := "CranePermits") (C := RX4) (T := TX4) (N := 5) (ci := 4) (v := .int (nI (k + 1))) hx hb hts i_c_X4_undo_ok_X4 hown hK (hP 0 _ rfl) 3 (by decide) rfl (hts (.fieldLink RX4 23 "CranePermits" "pastCount" "I") (List.mem_of_getElem? (i := 1) rfl)) rfl rfl dX4_undo_21 ?_
  refine lv_iconst (v := (nI 1)) hx hb dX4_undo_24 (by decide) ?_
  refine z_isub hx hb (by omega) dX4_undo_25 ?_
  refine z_topi (z := (nI k)) (rfl) ?_
  refine y_put (a := x) (fs := [.ref (x + 1), .ref (x + 12), .ref (x + 23), .int (nI (k + 1)), .ref (x + 24)]) (ref := "CranePermits") (C := RX4) (T := TX4) (N := 5) (ci := 4) (v := .int (nI k)) (ty := .int) hx hb hts i_c_X4_undo_ok_X4 tyX4 tyX4_ok nmX4 hown hK (hP 0 _ rfl) 3 (by decide) rfl (hts (.fieldLink RX4 23 "CranePermits" "pastCount" "I") (List.mem_of_getElem? (i := 1) rfl)) rfl rfl (by decide +kernel) (rfl) rfl (Nat.le_of_ble_eq_true rfl) dX4_undo_26 (fun H1 x1 hU hV => ?_)
  have hS := hS.upd (x := x1) hU (xb_0)
  have hX := hX.upd hbd 0 (by decide) hU
  have hP : va_P D vwCl (xW7 y x (nI k) pf (nI len) ts (nI tn) (bI f2) f3 f4 f5 f6 tx) H1 := hP.upd (q0 := 0) xW7_D rfl hU hV
  clear hU hV
  refine lv_aload_n hx hb dX4_undo_29 rfl (lv_at hl 1 rfl) ?_
  refine z_get (fs := [.ref (x + 1), .ref (x + 12), .ref (x + 23), .int (nI k), .ref (x + 24)]) (ref := "CranePermits") (C := RX4) (T := TX4) (N := 5) (ci := 4) (v := .ref (x + 1)) hx hb hts i_c_X4_undo_ok_X4 hown hK (hP 0 _ rfl) 0 (by decide) rfl (hts (.fieldLink RX4 10 "CranePermits" "now" "LCranePermits$Site;") (List.mem_of_getElem? (i := 2) rfl)) rfl rfl dX4_undo_30 ?_
  refine lv_aload_n hx hb dX4_undo_33 rfl (lv_at hl 0 rfl) ?_
  refine w_callV (As := [.ref (x + 26 + 11 * ((k + rot) % 4))]) (rest := []) hF hK (c_X2_copyFrom l D y bd (x + 1) (x + 26 + 11 * ((k + rot) % 4)) d ca pa pk ((P ((k + rot) % 4)).1) ((P ((k + rot) % 4)).2.1) ((P ((k + rot) % 4)).2.2.1) ((P ((k + rot) % 4)).2.2.2) (by omega) (by omega) (by omega) (hu8) (hu2) (huv)) (cwV 1 hts gX4_undo_X2_copyFrom rfl rfl rfl (by decide +kernel) ⟨Nat.le_of_ble_eq_true rfl, Nat.le_of_ble_eq_true rfl⟩) (sD_recv hK hX.1) ⟨hX.1, (hX.2.2 ((k + rot) % 4) (Nat.mod_lt _ (by decide)))⟩ hS (fun q h => xb_2 (by omega) (by omega) (by omega) (by omega) h) rfl hl.1 rfl (Nat.le_of_ble_eq_true rfl) dX4_undo_34 ⟨Nat.zero_le _, Nat.zero_le _⟩ (fun H2 locs1 hq hz1 hk hS => ?_)
  have hP := xW7_k hP hk (nA_NP ((k + rot) % 4))
  have hX : xS D y bd x ((P ((k + rot) % 4)).1, (P ((k + rot) % 4)).2.1, (P ((k + rot) % 4)).2.2.1, (P ((k + rot) % 4)).2.2.2) T P H2 := hX.setNP hbd ((k + rot) % 4) (Nat.mod_lt _ (by decide)) hk (show sP D y bd (x + 1) ((P ((k + rot) % 4)).1, (P ((k + rot) % 4)).2.1, (P ((k + rot) % 4)).2.2.1, (P ((k + rot) % 4)).2.2.2) H2 from hq.1) (show sP D y bd (x + 26 + 11 * ((k + rot) % 4)) ((P ((k + rot) % 4)).1, (P ((k + rot) % 4)).2.1, (P ((k + rot) % 4)).2.2.1, (P ((k + rot) % 4)).2.2.2) H2 from hq.2)
  clear hq hz1 hk
  refine lv_aload_n hx hb dX4_undo_37 rfl (lv_at hl 1 rfl) ?_
  refine z_get (fs := [.ref (x + 1), .ref (x + 12), .ref (x + 23), .int (nI k), .ref (x + 24)]) (ref := "CranePermits") (C := RX4) (T := TX4) (N := 5) (ci := 4) (v := .int (nI k)) hx hb hts i_c_X4_undo_ok_X4 hown hK (hP 0 _ rfl) 3 (by decide) rfl (hts (.fieldLink RX4 23 "CranePermits" "pastCount" "I") (List.mem_of_getElem? (i := 1) rfl)) rfl rfl dX4_undo_38 ?_
  exact w_reti hx hb hr hlocks hS (⟨_, _, _, _, _, _, hP, hps, hX⟩) (rfl) dX4_undo_41
theorem i_c_X4_withdraw_ok_X4 : ∀ w ∈ wsX40, w ∈ wsX4_withdraw := fun w h => (List.mem_cons_of_mem _ (List.mem_append_left _ (List.mem_append_left _ (List.mem_append_left _ (List.mem_append_right _ h)))))
theorem i_c_X4_withdraw_ok_X2 : ∀ w ∈ wsX20, w ∈ wsX4_withdraw := fun w h => (List.mem_cons_of_mem _ (List.mem_append_left _ (List.mem_append_left _ (List.mem_append_right _ h))))
theorem i_c_X4_withdraw_ok_X1 : ∀ w ∈ wsX10, w ∈ wsX4_withdraw := fun w h => (List.mem_cons_of_mem _ (List.mem_append_left _ (List.mem_append_right _ h)))
set_option maxRecDepth 100000 in
set_option maxHeartbeats 4000000 in
theorem c_X4_withdraw_ok (l : Launch) (D : va_G) (y : zY) (x : Nat) (bd : Nat) (d : Nat → Int32) (ca : Nat → Nat) (pa : Nat → Nat) (pk : Nat → Nat) (T : Pic) (P : Nat → Pic) (k : Nat) (rot : Nat) (len : Nat) (ts : Int32) (tn : Nat) (tx : Nat → Int32) (p : Nat) (hJ : rJ d) (hk4 : k ≤ 4) (hbd : x + 70 ≤ bd) (hp : p < nG d) (hv : pm d p 4 = nI 1) : Met l yX4_withdraw wsX4_withdraw ({ frames := 3, cells := 0, slots := 0, locals := 82 }) (zP [.ref x, .int (nI p)] (fun H => xO D y bd x (d, ca, pa, pk) T P k rot len ts tn tx H) D y) (zW (some (.int (usI d p))) (fun H => xO D y bd x (upd d (445 + 5 * p + 4) (nI 2), ca, pa, pk) T (remP P k rot (d, ca, pa, pk)) (recN k) (remR k rot) len ts tn tx H) (xB x bd)) 0 0 (xB x bd) := by
  refine z_body (cc := cX4_withdraw) (maxL := 3) (ret := (some .int)) (la := [(0, .ref x), (1, .int (nI p))]) (by decide) rfl (Nat.le_of_ble_eq_true rfl) rfl ?_
  intro pg ev s mm below meth c0 ls hx hb hr hF hlocks hΦ hK hl _
  have hts := hF.2.2.2.2
  have hown : s.vm.findClass RX4 = some mm.cls := hF.2.2.2.1
  have hS : va_S (xB x bd) s.heap s.heap [] := va_S.rf
  have hI := hJ.1
  have hv24 := hJ.2.1
  have hpl := hJ.2.2.1
  have hS9 := hpl.w
  have hG2 := hI.ng2
  have hC8 := hI.nc8
  obtain ⟨pf, f2, f3, f4, f5, f6, hP, hps, hX⟩ := hΦ
  obtain ⟨cs, ns, se, wi, al, re, gi, ps, ss, vs, hQ, hR, hC, hE, hT⟩ := (show sD D y bd (x + 1) d ca pa pk s.heap from hX.1)
  refine lv_aload_n hx hb dX4_withdraw_0 rfl (lv_at hl 0 rfl) ?_
  refine z_get (fs := [.ref (x + 1), .ref (x + 12), .ref (x + 23), .int (nI k), .ref (x + 24)]) (ref := "CranePermits") (C := RX4) (T := TX4) (N := 5) (ci := 4) (v := .ref (x + 1)) hx hb hts i_c_X4_withdraw_ok_X4 hown hK (hP 0 _ rfl) 0 (by decide) rfl (hts (.fieldLink RX4 10 "CranePermits" "now" "LCranePermits$Site;") (List.mem_of_getElem? (i := 1) rfl)) rfl rfl dX4_withdraw_1 ?_
  refine lv_iload_n hx hb dX4_withdraw_4 rfl (lv_at hl 1 rfl) ?_
  refine z_callV (As := [.int (nI p)]) (rest := []) hF hK (c_X2_permitAt_in l D y bd (x + 1) d ca pa pk p (hI) (hv24) (by omega)) (cwV 1 hts gX4_withdraw_X2_permitAt rfl rfl rfl (by decide +kernel) ⟨Nat.le_of_ble_eq_true rfl, Nat.le_of_ble_eq_true rfl⟩) (sD_recv hK hX.1) hX.1 rfl hl.1 rfl (Nat.le_of_ble_eq_true rfl) dX4_withdraw_5 ⟨Nat.zero_le _, Nat.zero_le _⟩ ?_
  refine lv_astore_n (lv' := [(2, .ref (pa p)), (0, .ref x), (1, .int (nI p))]) hx hb dX4_withdraw_8 rfl hl (by decide) rfl (fun ls hl => ?_)
  refine lv_aload_n hx hb dX4_withdraw_9 rfl (lv_at hl 0 rfl) ?_
  refine lv_ifnonnull (tgt := 17) hx hb dX4_withdraw_10 (by decide) ?_
  refine lv_aload_n hx hb dX4_withdraw_17 rfl (lv_at hl 1 rfl) ?_
  refine z_get (fs := [.ref (x + 1), .ref (x + 12), .ref (x + 23), .int (nI k), .ref (x + 24)]) (ref := "CranePermits") (C := RX4) (T := TX4) (N := 5) (ci := 4) (v := .ref (x + 1)) hx hb hts i_c_X4_withdraw_ok_X4 hown hK (hP 0 _ rfl) 0 (by decide) rfl (hts (.fieldLink RX4 10 "CranePermits" "now" "LCranePermits$Site;") (List.mem_of_getElem? (i := 1) rfl)) rfl rfl dX4_withdraw_18 ?_
  refine z_get (fs := [.ref ((x + 1) + 1), .int (nI (nC d)), .ref ((x + 1) + 2), .ref ((x + 1) + 3), .ref ((x + 1) + 4), .ref ((x + 1) + 5), .ref ((x + 1) + 6), .ref ((x + 1) + 7), .ref ((x + 1) + 8), .int (nI (nG d)), .ref ((x + 1) + 9), .ref ((x + 1) + 10), .int (nI (vn d))]) (ref := "CranePermits$Site") (C := RX2) (T := TX2) (N := 13) (ci := 2) (v := .ref ((x + 1) + 9)) hx hb hts i_c_X4_withdraw_ok_X2 hown hK (hQ 0 _ rfl) 10 (by decide) rfl (hts (.fieldLink RX4 217 "CranePermits$Site" "states" "[I") (List.mem_of_getElem? (i := 2) rfl)) rfl rfl dX4_withdraw_21 ?_
  refine lv_aload_n hx hb dX4_withdraw_24 rfl (lv_at hl 0 rfl) ?_
  refine z_get (fs := [.int (nI p), .ref (pk p), .int (pm d p 1), .int (pm d p 2), .int (pm d p 2 / nI 10), .int (pm d p 2 - pm d p 2 / nI 10 * nI 10), .int (pm d p 3)]) (ref := "CranePermits$Permit") (C := RX1) (T := TX1) (N := 7) (ci := 1) (v := .int (nI p)) hx hb hts i_c_X4_withdraw_ok_X1 hown hK (hE p (by omega)).2.2.1 0 (by decide) rfl (hts (.fieldLink RX4 212 "CranePermits$Permit" "number" "I") (List.mem_of_getElem? (i := 3) rfl)) rfl rfl dX4_withdraw_25 ?_
  refine z_callS (As := [.ref ((x + 1) + 9), .int (nI p)]) (rest := []) hF hK (c_X4_at l D y ((x + 1) + 9) 200 ss p (by omega) (by decide)) (va_cwS 2 hts gX4_withdraw_X4_at rfl rfl rfl (by decide +kernel) ⟨Nat.le_of_ble_eq_true rfl, Nat.le_of_ble_eq_true rfl⟩) (hQ 9 _ rfl) rfl hl.1 rfl (Nat.le_of_ble_eq_true rfl) dX4_withdraw_28 ⟨Nat.zero_le _, Nat.zero_le _⟩ ?_
  refine z_topi (z := (pm d p 4)) (hR.2.2.2.2.2.2.2.2.1 p (by omega)) ?_
  refine lv_iconst (v := (nI 1)) hx hb dX4_withdraw_31 (by decide) ?_
  refine lv_icmp_eq (tgt := 39) hx hb dX4_withdraw_32 (by decide) (fun c32 => ?_) (fun c32 => ?_)
  · refine lv_aload_n hx hb dX4_withdraw_39 rfl (lv_at hl 1 rfl) ?_
    refine w_callV (As := []) (rest := []) hF hK (c_X4_remember l D y x bd d ca pa pk T P k rot len ts tn tx (hJ) (hk4) (hbd)) (cwV 0 hts gX4_withdraw_X4_remember rfl rfl rfl (by decide +kernel) ⟨Nat.le_of_ble_eq_true rfl, Nat.le_of_ble_eq_true rfl⟩) (z_recv (q := (RX4, TX4, 5)) hK (hP 0 _ rfl) rfl) ⟨_, _, _, _, _, _, hP, hps, hX⟩ hS (fun q h => h) rfl hl.1 rfl (Nat.le_of_ble_eq_true rfl) dX4_withdraw_40 ⟨Nat.zero_le _, Nat.zero_le _⟩ (fun H1 locs1 hq hz1 hk hS => ?_)
    clear hP hX hps
    obtain ⟨pf, f2, f3, f4, f5, f6, hP, hps, hX⟩ := hq
    clear hz1 hk
    obtain ⟨cs, ns, se, wi, al, re, gi, ps, ss, vs, hQ, hR, hC, hE, hT⟩ := (show sD D y bd (x + 1) d ca pa pk H1 from hX.1)
    refine lv_aload_n hx hb dX4_withdraw_43 rfl (lv_at hl 1 rfl) ?_
    refine z_get (fs := [.ref (x + 1), .ref (x + 12), .ref (x + 23), .int (nI (recN k)), .ref (x + 24)]) (ref := "CranePermits") (C := RX4) (T := TX4) (N := 5) (ci := 4) (v := .ref (x + 1)) hx hb hts i_c_X4_withdraw_ok_X4 hown hK (hP 0 _ rfl) 0 (by decide) rfl (hts (.fieldLink RX4 10 "CranePermits" "now" "LCranePermits$Site;") (List.mem_of_getElem? (i := 1) rfl)) rfl rfl dX4_withdraw_44 ?_
    refine lv_aload_n hx hb dX4_withdraw_47 rfl (lv_at hl 0 rfl) ?_
    refine lv_iconst (v := (nI 2)) hx hb dX4_withdraw_48 (by decide) ?_
    refine w_callV (As := [.ref (pa p), .int (nI 2)]) (rest := []) hF hK (c_X2_end l D y bd (x + 1) d ca pa pk p (nI 2) (hI) (hv24) (by omega) (hp) (by decide)) (cwV 2 hts gX4_withdraw_X2_end rfl rfl rfl (by decide +kernel) ⟨Nat.le_of_ble_eq_true rfl, Nat.le_of_ble_eq_true rfl⟩) (sD_recv hK hX.1) hX.1 hS (fun q h => xb_b (by omega) (by omega) h) rfl hl.1 rfl (Nat.le_of_ble_eq_true rfl) dX4_withdraw_49 ⟨Nat.zero_le _, Nat.zero_le _⟩ (fun H2 locs1 hq hz1 hk hS => ?_)
    have hP := xW7_k hP hk nA_N
    have hX := hX.setN hbd hk (show sP D y bd (x + 1) (upd d (445 + 5 * p + 4) (nI 2), ca, pa, pk) H2 from hq)
    clear hq hz1 hk
    have hp1 : p < nG (upd d (445 + 5 * p + 4) (nI 2)) := by rw [show nG (upd d (445 + 5 * p + 4) (nI 2)) = nG d from (endD_g d p (nI 2)).1]; exact hp
    obtain ⟨cs, ns, se, wi, al, re, gi, ps, ss, vs, hQ, hR, hC, hE, hT⟩ := (show sD D y bd (x + 1) (upd d (445 + 5 * p + 4) (nI 2)) ca pa pk H2 from hX.1)
    refine lv_aload_n hx hb dX4_withdraw_52 rfl (lv_at hl 1 rfl) ?_
    refine z_get (fs := [.ref (x + 1), .ref (x + 12), .ref (x + 23), .int (nI (recN k)), .ref (x + 24)]) (ref := "CranePermits") (C := RX4) (T := TX4) (N := 5) (ci := 4) (v := .ref (x + 1)) hx hb hts i_c_X4_withdraw_ok_X4 hown hK (hP 0 _ rfl) 0 (by decide) rfl (hts (.fieldLink RX4 10 "CranePermits" "now" "LCranePermits$Site;") (List.mem_of_getElem? (i := 1) rfl)) rfl rfl dX4_withdraw_53 ?_
    refine lv_aload_n hx hb dX4_withdraw_56 rfl (lv_at hl 0 rfl) ?_
    refine z_get (fs := [.int (nI p), .ref (pk p), .int (pm (upd d (445 + 5 * p + 4) (nI 2)) p 1), .int (pm (upd d (445 + 5 * p + 4) (nI 2)) p 2), .int (pm (upd d (445 + 5 * p + 4) (nI 2)) p 2 / nI 10), .int (pm (upd d (445 + 5 * p + 4) (nI 2)) p 2 - pm (upd d (445 + 5 * p + 4) (nI 2)) p 2 / nI 10 * nI 10), .int (pm (upd d (445 + 5 * p + 4) (nI 2)) p 3)]) (ref := "CranePermits$Permit") (C := RX1) (T := TX1) (N := 7) (ci := 1) (v := .ref (pk p)) hx hb hts i_c_X4_withdraw_ok_X1 hown hK (hE p (by omega)).2.2.1 1 (by decide) rfl (hts (.fieldLink RX4 224 "CranePermits$Permit" "crane" "LCranePermits$Crane;") (List.mem_of_getElem? (i := 4) rfl)) rfl rfl dX4_withdraw_57 ?_
    refine lv_aload_n hx hb dX4_withdraw_60 rfl (lv_at hl 0 rfl) ?_
    refine z_get (fs := [.int (nI p), .ref (pk p), .int (pm (upd d (445 + 5 * p + 4) (nI 2)) p 1), .int (pm (upd d (445 + 5 * p + 4) (nI 2)) p 2), .int (pm (upd d (445 + 5 * p + 4) (nI 2)) p 2 / nI 10), .int (pm (upd d (445 + 5 * p + 4) (nI 2)) p 2 - pm (upd d (445 + 5 * p + 4) (nI 2)) p 2 / nI 10 * nI 10), .int (pm (upd d (445 + 5 * p + 4) (nI 2)) p 3)]) (ref := "CranePermits$Permit") (C := RX1) (T := TX1) (N := 7) (ci := 1) (v := .int (pm (upd d (445 + 5 * p + 4) (nI 2)) p 2)) hx hb hts i_c_X4_withdraw_ok_X1 hown hK (hE p (by omega)).2.2.1 3 (by decide) rfl (hts (.fieldLink RX4 228 "CranePermits$Permit" "hours" "I") (List.mem_of_getElem? (i := 5) rfl)) rfl rfl dX4_withdraw_61 ?_
    refine z_callV (As := [.ref (pk p), .int (pm (upd d (445 + 5 * p + 4) (nI 2)) p 2)]) (rest := []) hF hK (c_X2_useOf l D y bd (x + 1) (upd d (445 + 5 * p + 4) (nI 2)) ca pa pk (pk p) (pC (upd d (445 + 5 * p + 4) (nI 2)) p) (pm (upd d (445 + 5 * p + 4) (nI 2)) p 2) ((hI.upd4 p (nI 2)).1) (end_v24 hI hv24 hp hv) ((hI.upd4 p (nI 2)).1.pcn hp1)) (cwV 2 hts gX4_withdraw_X2_useOf rfl rfl rfl (by decide +kernel) ⟨Nat.le_of_ble_eq_true rfl, Nat.le_of_ble_eq_true rfl⟩) (sD_recv hK hX.1) ⟨hX.1, (hE p (by omega)).2.2.2⟩ rfl hl.1 rfl (Nat.le_of_ble_eq_true rfl) dX4_withdraw_64 ⟨Nat.zero_le _, Nat.zero_le _⟩ ?_
    exact w_reti hx hb hr hlocks hS (⟨_, _, _, _, _, _, hP, hps, hX⟩) (us_end hI hp) dX4_withdraw_67
  · exact absurd hv c32
theorem i_c_X4_type_ok_X4 : ∀ w ∈ wsX40, w ∈ wsX4_type := fun w h => (List.mem_cons_of_mem _ (List.mem_append_left _ (List.mem_append_right _ h)))
theorem i_c_X4_type_ok_X3 : ∀ w ∈ wsX30, w ∈ wsX4_type := fun w h => (List.mem_cons_of_mem _ (List.mem_append_right _ h))
set_option maxRecDepth 100000 in
set_option maxHeartbeats 4000000 in
theorem c_X4_type_ok (l : Launch) (D : va_G) (y : zY) (x : Nat) (bd : Nat) (d : Nat → Int32) (ca : Nat → Nat) (pa : Nat → Nat) (pk : Nat → Nat) (T : Pic) (P : Nat → Pic) (k : Nat) (rot : Nat) (len : Nat) (ts : Int32) (tn : Nat) (tx : Nat → Int32) (v : Int32) (hJ : rJ d) (hk4 : k ≤ 4) (hbd : x + 70 ≤ bd) (hv : inB v (nI 32) (nI 126) = true) (hlen : len < 80) : Met l yX4_type wsX4_type ({ frames := 1, cells := 0, slots := 0, locals := 22 }) (zP [.ref x, .int v] (fun H => xO D y bd x (d, ca, pa, pk) T P k rot len ts tn tx H) D y) (zW (some (.int (nI (len + 1)))) (fun H => xO D y bd x (d, ca, pa, pk) T P k rot (len + 1) ts tn (upd tx len (vp_nar .char ((v.toUInt32 % 65536).toInt32))) H) (xB x bd)) 0 0 (xB x bd) := by
  refine z_body (cc := cX4_type) (maxL := 2) (ret := (some .int)) (la := [(0, .ref x), (1, .int v)]) (by decide) rfl (Nat.le_of_ble_eq_true rfl) rfl ?_
  intro pg ev s mm below meth c0 ls hx hb hr hF hlocks hΦ hK hl _
  have hts := hF.2.2.2.2
  have hown : s.vm.findClass RX4 = some mm.cls := hF.2.2.2.1
  have hS : va_S (xB x bd) s.heap s.heap [] := va_S.rf
  have hI := hJ.1
  have hv24 := hJ.2.1
  have hpl := hJ.2.2.1
  have hS9 := hpl.w
  have hG2 := hI.ng2
  have hC8 := hI.nc8
  obtain ⟨pf, f2, f3, f4, f5, f6, hP, hps, hX⟩ := hΦ
  refine lv_iload_n hx hb dX4_type_0 rfl (lv_at hl 1 rfl) ?_
  refine lv_bipush (v := (nI 32)) hx hb dX4_type_1 (by decide) ?_
  refine lv_bipush (v := (nI 126)) hx hb dX4_type_3 (by decide) ?_
  refine z_callS (As := [.int v, .int (nI 32), .int (nI 126)]) (rest := []) hF hK (c_X4_isIn l D y v (nI 32) (nI 126) ) (va_cwS 3 hts gX4_type_X4_isIn rfl rfl rfl (by decide +kernel) ⟨Nat.le_of_ble_eq_true rfl, Nat.le_of_ble_eq_true rfl⟩) trivial rfl hl.1 rfl (Nat.le_of_ble_eq_true rfl) dX4_type_5 ⟨Nat.zero_le _, Nat.zero_le _⟩ ?_
  refine z_ifne (tgt := 15) hx hb dX4_type_8 (by decide) (fun c8 => ?_) (fun c8 => ?_)
  · refine lv_aload_n hx hb dX4_type_15 rfl (lv_at hl 0 rfl) ?_
    refine z_get (fs := [.ref (x + 1), .ref (x + 12), .ref (x + 23), .int (nI k), .ref (x + 24)]) (ref := "CranePermits") (C := RX4) (T := TX4) (N := 5) (ci := 4) (v := .ref (x + 24)) hx hb hts i_c_X4_type_ok_X4 hown hK (hP 0 _ rfl) 4 (by decide) rfl (hts (.fieldLink RX4 30 "CranePermits" "text" "LCranePermits$Text;") (List.mem_of_getElem? (i := 1) rfl)) rfl rfl dX4_type_16 ?_
    refine z_get (fs := [.ref (x + 25), .int (nI len), .int ts, .int (nI tn), .int (bI f2), .int f3, .int f4, .int f5, .int f6]) (ref := "CranePermits$Text") (C := RX3) (T := TX3) (N := 9) (ci := 3) (v := .int (nI len)) hx hb hts i_c_X4_type_ok_X3 hown hK (hP 2 _ rfl) 1 (by decide) rfl (hts (.fieldLink RX4 168 "CranePermits$Text" "length" "I") (List.mem_of_getElem? (i := 2) rfl)) rfl rfl dX4_type_19 ?_
    refine lv_bipush (v := (nI 80)) hx hb dX4_type_22 (by decide) ?_
    refine z_lt (tgt := 31) hx hb (by omega) (by omega) dX4_type_24 (by decide) (fun c24 => ?_) (fun c24 => ?_)
    · refine lv_aload_n hx hb dX4_type_31 rfl (lv_at hl 0 rfl) ?_
      refine z_get (fs := [.ref (x + 1), .ref (x + 12), .ref (x + 23), .int (nI k), .ref (x + 24)]) (ref := "CranePermits") (C := RX4) (T := TX4) (N := 5) (ci := 4) (v := .ref (x + 24)) hx hb hts i_c_X4_type_ok_X4 hown hK (hP 0 _ rfl) 4 (by decide) rfl (hts (.fieldLink RX4 30 "CranePermits" "text" "LCranePermits$Text;") (List.mem_of_getElem? (i := 1) rfl)) rfl rfl dX4_type_32 ?_
      refine lv_iload_n hx hb dX4_type_35 rfl (lv_at hl 1 rfl) ?_
      refine lv_i2c (v := (v.toUInt32 % 65536).toInt32) hx hb dX4_type_36 rfl ?_
      refine w_callV (As := [.int ((v.toUInt32 % 65536).toInt32)]) (rest := []) hF hK (c_X3_append l D y (x + 24) len ts tn f2 f3 f4 f5 f6 tx ((v.toUInt32 % 65536).toInt32) (by omega)) (cwV 1 hts gX4_type_X3_append rfl rfl rfl (by decide +kernel) ⟨Nat.le_of_ble_eq_true rfl, Nat.le_of_ble_eq_true rfl⟩) (z_recv (q := (RX3, TX3, 9)) hK (hP 2 _ rfl) rfl) (xW7_t hP) hS (fun q h => xb_b (by omega) (by omega) h) rfl hl.1 rfl (Nat.le_of_ble_eq_true rfl) dX4_type_37 ⟨Nat.zero_le _, Nat.zero_le _⟩ (fun H1 locs1 hq hz1 hk hS => ?_)
      have hP := xW7_st hP hk hq
      have hX := hX.text hbd hk
      clear hq hz1 hk
      refine lv_aload_n hx hb dX4_type_40 rfl (lv_at hl 0 rfl) ?_
      refine z_get (fs := [.ref (x + 1), .ref (x + 12), .ref (x + 23), .int (nI k), .ref (x + 24)]) (ref := "CranePermits") (C := RX4) (T := TX4) (N := 5) (ci := 4) (v := .ref (x + 24)) hx hb hts i_c_X4_type_ok_X4 hown hK (hP 0 _ rfl) 4 (by decide) rfl (hts (.fieldLink RX4 30 "CranePermits" "text" "LCranePermits$Text;") (List.mem_of_getElem? (i := 1) rfl)) rfl rfl dX4_type_41 ?_
      refine z_get (fs := [.ref (x + 25), .int (nI (len + 1)), .int ts, .int (nI tn), .int (bI f2), .int f3, .int f4, .int f5, .int f6]) (ref := "CranePermits$Text") (C := RX3) (T := TX3) (N := 9) (ci := 3) (v := .int (nI (len + 1))) hx hb hts i_c_X4_type_ok_X3 hown hK (hP 2 _ rfl) 1 (by decide) rfl (hts (.fieldLink RX4 168 "CranePermits$Text" "length" "I") (List.mem_of_getElem? (i := 2) rfl)) rfl rfl dX4_type_44 ?_
      exact w_reti hx hb hr hlocks hS (⟨_, _, _, _, _, _, hP, hps, hX⟩) (rfl) dX4_type_47
    · exact absurd c24 (by omega)
  · exact absurd hv (bf c8)
theorem i_c_X4_clearText_X4 : ∀ w ∈ wsX40, w ∈ wsX4_clearText := fun w h => (List.mem_cons_of_mem _ (List.mem_append_left _ (List.mem_append_right _ h)))
theorem i_c_X4_clearText_X3 : ∀ w ∈ wsX30, w ∈ wsX4_clearText := fun w h => (List.mem_cons_of_mem _ (List.mem_append_right _ h))
set_option maxRecDepth 100000 in
set_option maxHeartbeats 4000000 in
theorem c_X4_clearText (l : Launch) (D : va_G) (y : zY) (x : Nat) (bd : Nat) (d : Nat → Int32) (ca : Nat → Nat) (pa : Nat → Nat) (pk : Nat → Nat) (T : Pic) (P : Nat → Pic) (k : Nat) (rot : Nat) (len : Nat) (ts : Int32) (tn : Nat) (tx : Nat → Int32) (hJ : rJ d) (hk4 : k ≤ 4) (hbd : x + 70 ≤ bd) (hl80 : len ≤ 80) : Met l yX4_clearText wsX4_clearText ({ frames := 0, cells := 0, slots := 0, locals := 0 }) (zP [.ref x] (fun H => xO D y bd x (d, ca, pa, pk) T P k rot len ts tn tx H) D y) (zW (some (.int (nI len))) (fun H => xO D y bd x (d, ca, pa, pk) T P k rot 0 ts tn tx H) (xB x bd)) 0 0 (xB x bd) := by
  refine z_body (cc := cX4_clearText) (maxL := 2) (ret := (some .int)) (la := [(0, .ref x)]) (by decide) rfl (Nat.le_of_ble_eq_true rfl) rfl ?_
  intro pg ev s mm below meth c0 ls hx hb hr hF hlocks hΦ hK hl _
  have hts := hF.2.2.2.2
  have hown : s.vm.findClass RX4 = some mm.cls := hF.2.2.2.1
  have hS : va_S (xB x bd) s.heap s.heap [] := va_S.rf
  have hI := hJ.1
  have hv24 := hJ.2.1
  have hpl := hJ.2.2.1
  have hS9 := hpl.w
  have hG2 := hI.ng2
  have hC8 := hI.nc8
  obtain ⟨pf, f2, f3, f4, f5, f6, hP, hps, hX⟩ := hΦ
  refine lv_aload_n hx hb dX4_clearText_0 rfl (lv_at hl 0 rfl) ?_
  refine z_get (fs := [.ref (x + 1), .ref (x + 12), .ref (x + 23), .int (nI k), .ref (x + 24)]) (ref := "CranePermits") (C := RX4) (T := TX4) (N := 5) (ci := 4) (v := .ref (x + 24)) hx hb hts i_c_X4_clearText_X4 hown hK (hP 0 _ rfl) 4 (by decide) rfl (hts (.fieldLink RX4 30 "CranePermits" "text" "LCranePermits$Text;") (List.mem_of_getElem? (i := 1) rfl)) rfl rfl dX4_clearText_1 ?_
  refine z_get (fs := [.ref (x + 25), .int (nI len), .int ts, .int (nI tn), .int (bI f2), .int f3, .int f4, .int f5, .int f6]) (ref := "CranePermits$Text") (C := RX3) (T := TX3) (N := 9) (ci := 3) (v := .int (nI len)) hx hb hts i_c_X4_clearText_X3 hown hK (hP 2 _ rfl) 1 (by decide) rfl (hts (.fieldLink RX4 168 "CranePermits$Text" "length" "I") (List.mem_of_getElem? (i := 2) rfl)) rfl rfl dX4_clearText_4 ?_
  refine lv_istore_n (lv' := [(1, .int (nI len)), (0, .ref x)]) hx hb dX4_clearText_7 rfl hl (by decide) rfl (fun ls hl => ?_)
  refine lv_aload_n hx hb dX4_clearText_8 rfl (lv_at hl 1 rfl) ?_
  refine z_get (fs := [.ref (x + 1), .ref (x + 12), .ref (x + 23), .int (nI k), .ref (x + 24)]) (ref := "CranePermits") (C := RX4) (T := TX4) (N := 5) (ci := 4) (v := .ref (x + 24)) hx hb hts i_c_X4_clearText_X4 hown hK (hP 0 _ rfl) 4 (by decide) rfl (hts (.fieldLink RX4 30 "CranePermits" "text" "LCranePermits$Text;") (List.mem_of_getElem? (i := 1) rfl)) rfl rfl dX4_clearText_9 ?_
  refine lv_iconst (v := (nI 0)) hx hb dX4_clearText_12 (by decide) ?_
  refine y_put (a := (x + 24)) (fs := [.ref (x + 25), .int (nI len), .int ts, .int (nI tn), .int (bI f2), .int f3, .int f4, .int f5, .int f6]) (ref := "CranePermits$Text") (C := RX3) (T := TX3) (N := 9) (ci := 3) (v := .int (nI 0)) (ty := .int) hx hb hts i_c_X4_clearText_X3 tyX3 tyX3_ok nmX3 hown hK (hP 2 _ rfl) 1 (by decide) rfl (hts (.fieldLink RX4 168 "CranePermits$Text" "length" "I") (List.mem_of_getElem? (i := 2) rfl)) rfl rfl (by decide +kernel) (rfl) rfl (Nat.le_of_ble_eq_true rfl) dX4_clearText_13 (fun H1 x1 hU hV => ?_)
  have hS := hS.upd (x := x1) hU (xb_k (by decide))
  have hX := hX.upd hbd 24 (by decide) hU
  have hP : va_P D vwCl (xW7 y x (nI k) pf (nI 0) ts (nI tn) (bI f2) f3 f4 f5 f6 tx) H1 := hP.upd (q0 := 2) xW7_D rfl hU hV
  clear hU hV
  refine lv_iload_n hx hb dX4_clearText_16 rfl (lv_at hl 0 rfl) ?_
  exact w_reti hx hb hr hlocks hS (⟨_, _, _, _, _, _, hP, hps, hX⟩) (rfl) dX4_clearText_17
