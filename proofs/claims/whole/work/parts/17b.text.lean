/-! THE CLASS: an application, tried -/
theorem i_c_X4_tryApplication_ok_X4 : ∀ w ∈ wsX40, w ∈ wsX4_tryApplication := fun w h => (List.mem_cons_of_mem _ (List.mem_append_left _ (List.mem_append_left _ (List.mem_append_left _ (List.mem_append_left _ (List.mem_append_right _ h))))))
theorem i_c_X4_tryApplication_ok_X3 : ∀ w ∈ wsX30, w ∈ wsX4_tryApplication := fun w h => (List.mem_cons_of_mem _ (List.mem_append_left _ (List.mem_append_left _ (List.mem_append_left _ (List.mem_append_right _ h)))))
theorem i_c_X4_tryApplication_ok_X1 : ∀ w ∈ wsX10, w ∈ wsX4_tryApplication := fun w h => (List.mem_cons_of_mem _ (List.mem_append_left _ (List.mem_append_left _ (List.mem_append_right _ h))))
theorem i_c_X4_tryApplication_ok_X2 : ∀ w ∈ wsX20, w ∈ wsX4_tryApplication := fun w h => (List.mem_cons_of_mem _ (List.mem_append_left _ (List.mem_append_right _ h)))
set_option maxRecDepth 100000 in
set_option maxHeartbeats 4000000 in
theorem c_X4_tryApplication_ok (l : Launch) (D : va_G) (y : zY) (x : Nat) (bd : Nat) (N : Pic) (d : Nat → Int32) (ca : Nat → Nat) (pa : Nat → Nat) (pk : Nat → Nat) (P : Nat → Pic) (k : Nat) (rot : Nat) (len : Nat) (ts : Int32) (tn : Nat) (tx : Nat → Int32) (hJ : rJ d) (hk4 : k ≤ 4) (hbd : x + 70 ≤ bd) (hl80 : len ≤ 80) (htn : tn ≤ len) (hok : oneB d tx len tn = true) : Met l yX4_tryApplication wsX4_tryApplication ({ frames := 4, cells := 1, slots := 7, locals := 105 }) (zP [.ref x] (fun H => xO D y bd x N (d, ca, pa, pk) P k rot len ts tn tx H ∧ bd ≤ H.size) D y) (zW (some (.int (nI 0))) (fun H => ∃ q : Nat, xO D y bd x N (oneD d tx len tn, ca, va_up pa (nG d) q, va_up pk (nG d) (ca (cl (V0 tx len tn)))) P k rot len (nI tn) (nxA tx len tn) tx H) (xB x bd)) 1 7 (xB x bd) := by
  refine z_body (cc := cX4_tryApplication) (maxL := 3) (ret := (some .int)) (la := [(0, .ref x)]) (by decide) rfl (Nat.le_of_ble_eq_true rfl) rfl ?_
  intro pg ev s mm below meth c0 ls hx hb hr hF hlocks hΦ hK hl _
  have hts := hF.2.2.2.2
  have hown : s.vm.findClass RX4 = some mm.cls := hF.2.2.2.1
  have hS : va_S (xB x bd) s.heap s.heap [] := va_S.rf
  have hI := hJ.1
  have hv24 := hJ.2.1
  have hpl := hJ.2.2.1
  have hS9 := hpl.w
  have hG2 := hI.ng2
  have hC8 := hI.nc8
  have hb0 := hΦ.2
  obtain ⟨pf, f2, f3, f4, f5, f6, hP, hps, hX⟩ := hΦ.1
  obtain ⟨cs, ns, se, wi, al, re, gi, ps, ss, vs, hQ, hR, hC, hE, hT⟩ := (show sD D y bd (x + 12) d ca pa pk s.heap from hX.2.1)
  obtain ⟨p1, p2, p3, p4⟩ := one_parts hok
  obtain ⟨h0, e0, h1, e1⟩ := one_nat hI p2
  obtain ⟨eU0, eU1, eUH, eU4, eQ5⟩ := fm_U p1
  have hG9 : G9 tx len tn = true := (fm_G tx len tn).trans p1
  have hpn : planB (nI (cl (V1 tx len tn))) (VH tx len tn) (V4 tx len tn) = true := by rw [← e1]; exact (apl_2 p2).2
  have hrm : romB d = true := by rw [rom_ful hJ, p4]; rfl
  obtain ⟨hvn, hg200⟩ := rom_2 hrm
  refine lv_aload_n hx hb dX4_tryApplication_0 rfl (lv_at hl 0 rfl) ?_
  refine z_get (fs := [.ref (x + 1), .ref (x + 12), .ref (x + 23), .int (nI k), .ref (x + 24)]) (ref := "CranePermits") (C := RX4) (T := TX4) (N := 5) (ci := 4) (v := .ref (x + 24)) hx hb hts i_c_X4_tryApplication_ok_X4 hown hK (hP 0 _ rfl) 4 (by decide) rfl (hts (.fieldLink RX4 30 "CranePermits" "text" "LCranePermits$Text;") (List.mem_of_getElem? (i := 1) rfl)) rfl rfl dX4_tryApplication_1 ?_
  refine w_callV (As := []) (rest := []) hF hK (c_X3_readApplication l D y (x + 24) len ts tn f2 f3 f4 f5 f6 tx (hl80) (htn)) (cwV 0 hts gX4_tryApplication_X3_readApplication rfl rfl rfl (by decide +kernel) ⟨Nat.le_of_ble_eq_true rfl, Nat.le_of_ble_eq_true rfl⟩) (z_recv (q := (RX3, TX3, 9)) hK (hP 2 _ rfl) rfl) (xW7_t hP) hS (fun q h => xb_b (by omega) (by omega) h) rfl hl.1 rfl (Nat.le_of_ble_eq_true rfl) dX4_tryApplication_4 ⟨Nat.le_of_ble_eq_true rfl, Nat.le_of_ble_eq_true rfl⟩ (fun H1 locs1 hq hz1 hk hS => ?_)
  have hP := xW7_st hP hk hq
  have hX := hX.text hbd hk
  clear hq hz1 hk
  rw [eQ5, eU0, eU1, eUH, eU4, e0, e1] at hP
  have hP : va_P D vwCl (xW7 y x (nI k) pf (nI len) (nI tn) (nI (nxA tx len tn)) (bI (G9 tx len tn)) (nI (cl (V0 tx len tn))) (nI (cl (V1 tx len tn))) (VH tx len tn) (V4 tx len tn) tx) H1 := hP
  obtain ⟨cs, ns, se, wi, al, re, gi, ps, ss, vs, hQ, hR, hC, hE, hT⟩ := (show sD D y bd (x + 12) d ca pa pk H1 from hX.2.1)
  refine z_ifne (tgt := 13) hx hb dX4_tryApplication_7 (by decide) (fun c7 => ?_) (fun c7 => ?_)
  · refine lv_aload_n hx hb dX4_tryApplication_13 rfl (lv_at hl 0 rfl) ?_
    refine z_get (fs := [.ref (x + 1), .ref (x + 12), .ref (x + 23), .int (nI k), .ref (x + 24)]) (ref := "CranePermits") (C := RX4) (T := TX4) (N := 5) (ci := 4) (v := .ref (x + 12)) hx hb hts i_c_X4_tryApplication_ok_X4 hown hK (hP 0 _ rfl) 1 (by decide) rfl (hts (.fieldLink RX4 16 "CranePermits" "trial" "LCranePermits$Site;") (List.mem_of_getElem? (i := 2) rfl)) rfl rfl dX4_tryApplication_14 ?_
    refine lv_aload_n hx hb dX4_tryApplication_17 rfl (lv_at hl 0 rfl) ?_
    refine z_get (fs := [.ref (x + 1), .ref (x + 12), .ref (x + 23), .int (nI k), .ref (x + 24)]) (ref := "CranePermits") (C := RX4) (T := TX4) (N := 5) (ci := 4) (v := .ref (x + 24)) hx hb hts i_c_X4_tryApplication_ok_X4 hown hK (hP 0 _ rfl) 4 (by decide) rfl (hts (.fieldLink RX4 30 "CranePermits" "text" "LCranePermits$Text;") (List.mem_of_getElem? (i := 1) rfl)) rfl rfl dX4_tryApplication_18 ?_
    refine z_get (fs := [.ref (x + 25), .int (nI len), .int (nI tn), .int (nI (nxA tx len tn)), .int (bI (G9 tx len tn)), .int (nI (cl (V0 tx len tn))), .int (nI (cl (V1 tx len tn))), .int (VH tx len tn), .int (V4 tx len tn)]) (ref := "CranePermits$Text") (C := RX3) (T := TX3) (N := 9) (ci := 3) (v := .int (nI (cl (V0 tx len tn)))) hx hb hts i_c_X4_tryApplication_ok_X3 hown hK (hP 2 _ rfl) 5 (by decide) rfl (hts (.fieldLink RX4 277 "CranePermits$Text" "crane" "I") (List.mem_of_getElem? (i := 3) rfl)) rfl rfl dX4_tryApplication_21 ?_
    refine z_callV (As := [.int (nI (cl (V0 tx len tn)))]) (rest := []) hF hK (c_X2_craneAt_in l D y bd (x + 12) d ca pa pk (cl (V0 tx len tn)) (hI) (hv24) (by omega)) (cwV 1 hts gX4_tryApplication_X2_craneAt rfl rfl rfl (by decide +kernel) ⟨Nat.le_of_ble_eq_true rfl, Nat.le_of_ble_eq_true rfl⟩) (sD_recv hK hX.2.1) hX.2.1 rfl hl.1 rfl (Nat.le_of_ble_eq_true rfl) dX4_tryApplication_24 ⟨Nat.le_of_ble_eq_true rfl, Nat.le_of_ble_eq_true rfl⟩ ?_
    refine lv_astore_n (lv' := [(1, .ref (ca (cl (V0 tx len tn)))), (0, .ref x)]) hx hb dX4_tryApplication_27 rfl hl (by decide) rfl (fun ls hl => ?_)
    refine lv_aload_n hx hb dX4_tryApplication_28 rfl (lv_at hl 0 rfl) ?_
    refine lv_ifnull hx hb dX4_tryApplication_29 ?_
    refine lv_aload_n hx hb dX4_tryApplication_32 rfl (lv_at hl 1 rfl) ?_
    refine z_get (fs := [.ref (x + 1), .ref (x + 12), .ref (x + 23), .int (nI k), .ref (x + 24)]) (ref := "CranePermits") (C := RX4) (T := TX4) (N := 5) (ci := 4) (v := .ref (x + 24)) hx hb hts i_c_X4_tryApplication_ok_X4 hown hK (hP 0 _ rfl) 4 (by decide) rfl (hts (.fieldLink RX4 30 "CranePermits" "text" "LCranePermits$Text;") (List.mem_of_getElem? (i := 1) rfl)) rfl rfl dX4_tryApplication_33 ?_
    refine z_get (fs := [.ref (x + 25), .int (nI len), .int (nI tn), .int (nI (nxA tx len tn)), .int (bI (G9 tx len tn)), .int (nI (cl (V0 tx len tn))), .int (nI (cl (V1 tx len tn))), .int (VH tx len tn), .int (V4 tx len tn)]) (ref := "CranePermits$Text") (C := RX3) (T := TX3) (N := 9) (ci := 3) (v := .int (nI (cl (V1 tx len tn)))) hx hb hts i_c_X4_tryApplication_ok_X3 hown hK (hP 2 _ rfl) 6 (by decide) rfl (hts (.fieldLink RX4 279 "CranePermits$Text" "night" "I") (List.mem_of_getElem? (i := 4) rfl)) rfl rfl dX4_tryApplication_36 ?_
    refine lv_aload_n hx hb dX4_tryApplication_39 rfl (lv_at hl 1 rfl) ?_
    refine z_get (fs := [.ref (x + 1), .ref (x + 12), .ref (x + 23), .int (nI k), .ref (x + 24)]) (ref := "CranePermits") (C := RX4) (T := TX4) (N := 5) (ci := 4) (v := .ref (x + 24)) hx hb hts i_c_X4_tryApplication_ok_X4 hown hK (hP 0 _ rfl) 4 (by decide) rfl (hts (.fieldLink RX4 30 "CranePermits" "text" "LCranePermits$Text;") (List.mem_of_getElem? (i := 1) rfl)) rfl rfl dX4_tryApplication_40 ?_
    refine z_get (fs := [.ref (x + 25), .int (nI len), .int (nI tn), .int (nI (nxA tx len tn)), .int (bI (G9 tx len tn)), .int (nI (cl (V0 tx len tn))), .int (nI (cl (V1 tx len tn))), .int (VH tx len tn), .int (V4 tx len tn)]) (ref := "CranePermits$Text") (C := RX3) (T := TX3) (N := 9) (ci := 3) (v := .int (VH tx len tn)) hx hb hts i_c_X4_tryApplication_ok_X3 hown hK (hP 2 _ rfl) 7 (by decide) rfl (hts (.fieldLink RX4 280 "CranePermits$Text" "hours" "I") (List.mem_of_getElem? (i := 5) rfl)) rfl rfl dX4_tryApplication_43 ?_
    refine lv_aload_n hx hb dX4_tryApplication_46 rfl (lv_at hl 1 rfl) ?_
    refine z_get (fs := [.ref (x + 1), .ref (x + 12), .ref (x + 23), .int (nI k), .ref (x + 24)]) (ref := "CranePermits") (C := RX4) (T := TX4) (N := 5) (ci := 4) (v := .ref (x + 24)) hx hb hts i_c_X4_tryApplication_ok_X4 hown hK (hP 0 _ rfl) 4 (by decide) rfl (hts (.fieldLink RX4 30 "CranePermits" "text" "LCranePermits$Text;") (List.mem_of_getElem? (i := 1) rfl)) rfl rfl dX4_tryApplication_47 ?_
    refine z_get (fs := [.ref (x + 25), .int (nI len), .int (nI tn), .int (nI (nxA tx len tn)), .int (bI (G9 tx len tn)), .int (nI (cl (V0 tx len tn))), .int (nI (cl (V1 tx len tn))), .int (VH tx len tn), .int (V4 tx len tn)]) (ref := "CranePermits$Text") (C := RX3) (T := TX3) (N := 9) (ci := 3) (v := .int (V4 tx len tn)) hx hb hts i_c_X4_tryApplication_ok_X3 hown hK (hP 2 _ rfl) 8 (by decide) rfl (hts (.fieldLink RX4 281 "CranePermits$Text" "swing" "I") (List.mem_of_getElem? (i := 6) rfl)) rfl rfl dX4_tryApplication_50 ?_
    refine z_callS (As := [.int (nI (cl (V1 tx len tn))), .int (VH tx len tn), .int (V4 tx len tn)]) (rest := []) hF hK (c_X4_isPlan l D y (nI (cl (V1 tx len tn))) (VH tx len tn) (V4 tx len tn) ) (va_cwS 3 hts gX4_tryApplication_X4_isPlan rfl rfl rfl (by decide +kernel) ⟨Nat.le_of_ble_eq_true rfl, Nat.le_of_ble_eq_true rfl⟩) trivial rfl hl.1 rfl (Nat.le_of_ble_eq_true rfl) dX4_tryApplication_53 ⟨Nat.le_of_ble_eq_true rfl, Nat.le_of_ble_eq_true rfl⟩ ?_
    refine z_ifne (tgt := 62) hx hb dX4_tryApplication_56 (by decide) (fun c56 => ?_) (fun c56 => ?_)
    · refine lv_aload_n hx hb dX4_tryApplication_62 rfl (lv_at hl 1 rfl) ?_
      refine z_get (fs := [.ref (x + 1), .ref (x + 12), .ref (x + 23), .int (nI k), .ref (x + 24)]) (ref := "CranePermits") (C := RX4) (T := TX4) (N := 5) (ci := 4) (v := .ref (x + 12)) hx hb hts i_c_X4_tryApplication_ok_X4 hown hK (hP 0 _ rfl) 1 (by decide) rfl (hts (.fieldLink RX4 16 "CranePermits" "trial" "LCranePermits$Site;") (List.mem_of_getElem? (i := 2) rfl)) rfl rfl dX4_tryApplication_63 ?_
      refine lv_aload_n hx hb dX4_tryApplication_66 rfl (lv_at hl 0 rfl) ?_
      refine lv_aload_n hx hb dX4_tryApplication_67 rfl (lv_at hl 1 rfl) ?_
      refine z_get (fs := [.ref (x + 1), .ref (x + 12), .ref (x + 23), .int (nI k), .ref (x + 24)]) (ref := "CranePermits") (C := RX4) (T := TX4) (N := 5) (ci := 4) (v := .ref (x + 24)) hx hb hts i_c_X4_tryApplication_ok_X4 hown hK (hP 0 _ rfl) 4 (by decide) rfl (hts (.fieldLink RX4 30 "CranePermits" "text" "LCranePermits$Text;") (List.mem_of_getElem? (i := 1) rfl)) rfl rfl dX4_tryApplication_68 ?_
      refine z_get (fs := [.ref (x + 25), .int (nI len), .int (nI tn), .int (nI (nxA tx len tn)), .int (bI (G9 tx len tn)), .int (nI (cl (V0 tx len tn))), .int (nI (cl (V1 tx len tn))), .int (VH tx len tn), .int (V4 tx len tn)]) (ref := "CranePermits$Text") (C := RX3) (T := TX3) (N := 9) (ci := 3) (v := .int (nI (cl (V1 tx len tn)))) hx hb hts i_c_X4_tryApplication_ok_X3 hown hK (hP 2 _ rfl) 6 (by decide) rfl (hts (.fieldLink RX4 279 "CranePermits$Text" "night" "I") (List.mem_of_getElem? (i := 4) rfl)) rfl rfl dX4_tryApplication_71 ?_
      refine lv_aload_n hx hb dX4_tryApplication_74 rfl (lv_at hl 1 rfl) ?_
      refine z_get (fs := [.ref (x + 1), .ref (x + 12), .ref (x + 23), .int (nI k), .ref (x + 24)]) (ref := "CranePermits") (C := RX4) (T := TX4) (N := 5) (ci := 4) (v := .ref (x + 24)) hx hb hts i_c_X4_tryApplication_ok_X4 hown hK (hP 0 _ rfl) 4 (by decide) rfl (hts (.fieldLink RX4 30 "CranePermits" "text" "LCranePermits$Text;") (List.mem_of_getElem? (i := 1) rfl)) rfl rfl dX4_tryApplication_75 ?_
      refine z_get (fs := [.ref (x + 25), .int (nI len), .int (nI tn), .int (nI (nxA tx len tn)), .int (bI (G9 tx len tn)), .int (nI (cl (V0 tx len tn))), .int (nI (cl (V1 tx len tn))), .int (VH tx len tn), .int (V4 tx len tn)]) (ref := "CranePermits$Text") (C := RX3) (T := TX3) (N := 9) (ci := 3) (v := .int (VH tx len tn)) hx hb hts i_c_X4_tryApplication_ok_X3 hown hK (hP 2 _ rfl) 7 (by decide) rfl (hts (.fieldLink RX4 280 "CranePermits$Text" "hours" "I") (List.mem_of_getElem? (i := 5) rfl)) rfl rfl dX4_tryApplication_78 ?_
      refine lv_aload_n hx hb dX4_tryApplication_81 rfl (lv_at hl 1 rfl) ?_
      refine z_get (fs := [.ref (x + 1), .ref (x + 12), .ref (x + 23), .int (nI k), .ref (x + 24)]) (ref := "CranePermits") (C := RX4) (T := TX4) (N := 5) (ci := 4) (v := .ref (x + 24)) hx hb hts i_c_X4_tryApplication_ok_X4 hown hK (hP 0 _ rfl) 4 (by decide) rfl (hts (.fieldLink RX4 30 "CranePermits" "text" "LCranePermits$Text;") (List.mem_of_getElem? (i := 1) rfl)) rfl rfl dX4_tryApplication_82 ?_
      refine z_get (fs := [.ref (x + 25), .int (nI len), .int (nI tn), .int (nI (nxA tx len tn)), .int (bI (G9 tx len tn)), .int (nI (cl (V0 tx len tn))), .int (nI (cl (V1 tx len tn))), .int (VH tx len tn), .int (V4 tx len tn)]) (ref := "CranePermits$Text") (C := RX3) (T := TX3) (N := 9) (ci := 3) (v := .int (V4 tx len tn)) hx hb hts i_c_X4_tryApplication_ok_X3 hown hK (hP 2 _ rfl) 8 (by decide) rfl (hts (.fieldLink RX4 281 "CranePermits$Text" "swing" "I") (List.mem_of_getElem? (i := 6) rfl)) rfl rfl dX4_tryApplication_85 ?_
      refine z_callV (As := [.ref (ca (cl (V0 tx len tn))), .int (nI (cl (V1 tx len tn))), .int (VH tx len tn), .int (V4 tx len tn)]) (rest := []) hF hK (c_X2_refusalOf l D y bd (x + 12) d ca pa pk (ca (cl (V0 tx len tn))) (cl (V0 tx len tn)) (cl (V1 tx len tn)) (VH tx len tn) (V4 tx len tn) (hI) (hv24) (by omega) (by omega) (sw_of (plan_3 hpn).2.2) (hS9)) (cwV 4 hts gX4_tryApplication_X2_refusalOf rfl rfl rfl (by decide +kernel) ⟨Nat.le_of_ble_eq_true rfl, Nat.le_of_ble_eq_true rfl⟩) (sD_recv hK hX.2.1) ⟨hX.2.1, (hC (cl (V0 tx len tn)) (by omega)).2⟩ rfl hl.1 rfl (Nat.le_of_ble_eq_true rfl) dX4_tryApplication_88 ⟨Nat.le_of_ble_eq_true rfl, Nat.le_of_ble_eq_true rfl⟩ ?_
      refine lv_istore_n (lv' := [(2, .int (rfsI d (cl (V0 tx len tn)) (cl (V1 tx len tn)) (VH tx len tn) (V4 tx len tn))), (1, .ref (ca (cl (V0 tx len tn)))), (0, .ref x)]) hx hb dX4_tryApplication_91 rfl hl (by decide) rfl (fun ls hl => ?_)
      refine lv_iload_n hx hb dX4_tryApplication_92 rfl (lv_at hl 0 rfl) ?_
      refine lv_if_eq (tgt := 98) hx hb dX4_tryApplication_93 (by decide) (fun c93 => ?_) (fun c93 => ?_)
      · refine lv_aload_n hx hb dX4_tryApplication_98 rfl (lv_at hl 2 rfl) ?_
        refine z_get (fs := [.ref (x + 1), .ref (x + 12), .ref (x + 23), .int (nI k), .ref (x + 24)]) (ref := "CranePermits") (C := RX4) (T := TX4) (N := 5) (ci := 4) (v := .ref (x + 12)) hx hb hts i_c_X4_tryApplication_ok_X4 hown hK (hP 0 _ rfl) 1 (by decide) rfl (hts (.fieldLink RX4 16 "CranePermits" "trial" "LCranePermits$Site;") (List.mem_of_getElem? (i := 2) rfl)) rfl rfl dX4_tryApplication_99 ?_
        refine z_callV (As := []) (rest := []) hF hK (c_X2_hasRoom l D y bd (x + 12) d ca pa pk (hI) (hv24)) (cwV 0 hts gX4_tryApplication_X2_hasRoom rfl rfl rfl (by decide +kernel) ⟨Nat.le_of_ble_eq_true rfl, Nat.le_of_ble_eq_true rfl⟩) (sD_recv hK hX.2.1) hX.2.1 rfl hl.1 rfl (Nat.le_of_ble_eq_true rfl) dX4_tryApplication_102 ⟨Nat.le_of_ble_eq_true rfl, Nat.le_of_ble_eq_true rfl⟩ ?_
        refine z_ifne (tgt := 110) hx hb dX4_tryApplication_105 (by decide) (fun c105 => ?_) (fun c105 => ?_)
        · refine lv_aload_n hx hb dX4_tryApplication_110 rfl (lv_at hl 2 rfl) ?_
          refine z_get (fs := [.ref (x + 1), .ref (x + 12), .ref (x + 23), .int (nI k), .ref (x + 24)]) (ref := "CranePermits") (C := RX4) (T := TX4) (N := 5) (ci := 4) (v := .ref (x + 12)) hx hb hts i_c_X4_tryApplication_ok_X4 hown hK (hP 0 _ rfl) 1 (by decide) rfl (hts (.fieldLink RX4 16 "CranePermits" "trial" "LCranePermits$Site;") (List.mem_of_getElem? (i := 2) rfl)) rfl rfl dX4_tryApplication_111 ?_
          have hbH : bd ≤ H1.size := Nat.le_trans hb0 hS.1
          have hXo := hX
          have hPo := hP
          refine y_new (a := H1.size) (C := RX1) (T := TX1) (N := 7) (ci := 1) (fs := [.int 0, .null, .int 0, .int 0, .int 0, .int 0, .int 0]) hx hb hts i_c_X4_tryApplication_ok_X1 tyX1 tyX1_ok hown (hts (.classLink RX4 203 RX1) (List.mem_of_getElem? (i := 7) rfl)) (hts (.instantiable RX1 7) (List.mem_of_getElem? (i := 8) rfl)) (hts (.initialized RX1) (List.mem_of_getElem? (i := 9) rfl)) hK rfl (fun j hj => by rcases (show j = 0 ∨ j = 1 ∨ j = 2 ∨ j = 3 ∨ j = 4 ∨ j = 5 ∨ j = 6 by omega) with rfl | rfl | rfl | rfl | rfl | rfl | rfl <;> rfl) rfl (by decide) (by decide) dX4_tryApplication_114 (fun H2 hz1 hk hV => ?_)
          have hS := hS.grow hz1 hk
          have hP := xW7_grow hP hk
          have hX := hX.grow hk
          obtain ⟨cs, ns, se, wi, al, re, gi, ps, ss, vs, hQ, hR, hC, hE, hT⟩ := (show sD D y bd (x + 12) d ca pa pk H2 from hX.2.1)
          refine lv_dup hx hb dX4_tryApplication_117 rfl ?_
          refine lv_aload_n hx hb dX4_tryApplication_118 rfl (lv_at hl 2 rfl) ?_
          refine z_get (fs := [.ref (x + 1), .ref (x + 12), .ref (x + 23), .int (nI k), .ref (x + 24)]) (ref := "CranePermits") (C := RX4) (T := TX4) (N := 5) (ci := 4) (v := .ref (x + 12)) hx hb hts i_c_X4_tryApplication_ok_X4 hown hK (hP 0 _ rfl) 1 (by decide) rfl (hts (.fieldLink RX4 16 "CranePermits" "trial" "LCranePermits$Site;") (List.mem_of_getElem? (i := 2) rfl)) rfl rfl dX4_tryApplication_119 ?_
          refine z_get (fs := [.ref ((x + 12) + 1), .int (nI (nC d)), .ref ((x + 12) + 2), .ref ((x + 12) + 3), .ref ((x + 12) + 4), .ref ((x + 12) + 5), .ref ((x + 12) + 6), .ref ((x + 12) + 7), .ref ((x + 12) + 8), .int (nI (nG d)), .ref ((x + 12) + 9), .ref ((x + 12) + 10), .int (nI (vn d))]) (ref := "CranePermits$Site") (C := RX2) (T := TX2) (N := 13) (ci := 2) (v := .int (nI (nG d))) hx hb hts i_c_X4_tryApplication_ok_X2 hown hK (hQ 0 _ rfl) 9 (by decide) rfl (hts (.fieldLink RX4 155 "CranePermits$Site" "permitCount" "I") (List.mem_of_getElem? (i := 10) rfl)) rfl rfl dX4_tryApplication_122 ?_
          refine lv_aload_n hx hb dX4_tryApplication_125 rfl (lv_at hl 1 rfl) ?_
          refine lv_aload_n hx hb dX4_tryApplication_126 rfl (lv_at hl 2 rfl) ?_
          refine z_get (fs := [.ref (x + 1), .ref (x + 12), .ref (x + 23), .int (nI k), .ref (x + 24)]) (ref := "CranePermits") (C := RX4) (T := TX4) (N := 5) (ci := 4) (v := .ref (x + 24)) hx hb hts i_c_X4_tryApplication_ok_X4 hown hK (hP 0 _ rfl) 4 (by decide) rfl (hts (.fieldLink RX4 30 "CranePermits" "text" "LCranePermits$Text;") (List.mem_of_getElem? (i := 1) rfl)) rfl rfl dX4_tryApplication_127 ?_
          refine z_get (fs := [.ref (x + 25), .int (nI len), .int (nI tn), .int (nI (nxA tx len tn)), .int (bI (G9 tx len tn)), .int (nI (cl (V0 tx len tn))), .int (nI (cl (V1 tx len tn))), .int (VH tx len tn), .int (V4 tx len tn)]) (ref := "CranePermits$Text") (C := RX3) (T := TX3) (N := 9) (ci := 3) (v := .int (nI (cl (V1 tx len tn)))) hx hb hts i_c_X4_tryApplication_ok_X3 hown hK (hP 2 _ rfl) 6 (by decide) rfl (hts (.fieldLink RX4 279 "CranePermits$Text" "night" "I") (List.mem_of_getElem? (i := 4) rfl)) rfl rfl dX4_tryApplication_130 ?_
          refine lv_aload_n hx hb dX4_tryApplication_133 rfl (lv_at hl 2 rfl) ?_
          refine z_get (fs := [.ref (x + 1), .ref (x + 12), .ref (x + 23), .int (nI k), .ref (x + 24)]) (ref := "CranePermits") (C := RX4) (T := TX4) (N := 5) (ci := 4) (v := .ref (x + 24)) hx hb hts i_c_X4_tryApplication_ok_X4 hown hK (hP 0 _ rfl) 4 (by decide) rfl (hts (.fieldLink RX4 30 "CranePermits" "text" "LCranePermits$Text;") (List.mem_of_getElem? (i := 1) rfl)) rfl rfl dX4_tryApplication_134 ?_
          refine z_get (fs := [.ref (x + 25), .int (nI len), .int (nI tn), .int (nI (nxA tx len tn)), .int (bI (G9 tx len tn)), .int (nI (cl (V0 tx len tn))), .int (nI (cl (V1 tx len tn))), .int (VH tx len tn), .int (V4 tx len tn)]) (ref := "CranePermits$Text") (C := RX3) (T := TX3) (N := 9) (ci := 3) (v := .int (VH tx len tn)) hx hb hts i_c_X4_tryApplication_ok_X3 hown hK (hP 2 _ rfl) 7 (by decide) rfl (hts (.fieldLink RX4 280 "CranePermits$Text" "hours" "I") (List.mem_of_getElem? (i := 5) rfl)) rfl rfl dX4_tryApplication_137 ?_
          refine lv_aload_n hx hb dX4_tryApplication_140 rfl (lv_at hl 2 rfl) ?_
          refine z_get (fs := [.ref (x + 1), .ref (x + 12), .ref (x + 23), .int (nI k), .ref (x + 24)]) (ref := "CranePermits") (C := RX4) (T := TX4) (N := 5) (ci := 4) (v := .ref (x + 24)) hx hb hts i_c_X4_tryApplication_ok_X4 hown hK (hP 0 _ rfl) 4 (by decide) rfl (hts (.fieldLink RX4 30 "CranePermits" "text" "LCranePermits$Text;") (List.mem_of_getElem? (i := 1) rfl)) rfl rfl dX4_tryApplication_141 ?_
          refine z_get (fs := [.ref (x + 25), .int (nI len), .int (nI tn), .int (nI (nxA tx len tn)), .int (bI (G9 tx len tn)), .int (nI (cl (V0 tx len tn))), .int (nI (cl (V1 tx len tn))), .int (VH tx len tn), .int (V4 tx len tn)]) (ref := "CranePermits$Text") (C := RX3) (T := TX3) (N := 9) (ci := 3) (v := .int (V4 tx len tn)) hx hb hts i_c_X4_tryApplication_ok_X3 hown hK (hP 2 _ rfl) 8 (by decide) rfl (hts (.fieldLink RX4 281 "CranePermits$Text" "swing" "I") (List.mem_of_getElem? (i := 6) rfl)) rfl rfl dX4_tryApplication_144 ?_
          refine w_callI (b := H1.size) (As := [.int (nI (nG d)), .ref (ca (cl (V0 tx len tn))), .int (nI (cl (V1 tx len tn))), .int (VH tx len tn), .int (V4 tx len tn)]) (rest := [.ref H1.size, .ref (x + 12)]) hF hK (c_X1_init l D y H1.size (nG d) (ca (cl (V0 tx len tn))) (nI (cl (V1 tx len tn))) (VH tx len tn) (V4 tx len tn) ) (cwI 5 hts gX4_tryApplication_X1_init rfl rfl rfl (hts (.initialized RX1) (List.mem_of_getElem? (i := 9) rfl)) (hts (.methodLink RX4 205 yX1_init) (List.mem_of_getElem? (i := 153) rfl)) (hts (.instanceMethod yX1_init) (List.mem_of_getElem? (i := 154) rfl)) rfl (by decide +kernel) ⟨Nat.le_of_ble_eq_true rfl, Nat.le_of_ble_eq_true rfl⟩) ⟨z_one hV, hz1⟩ hS (fun q h => xb_n hbH h) rfl hl.1 rfl (Nat.le_of_ble_eq_true rfl) dX4_tryApplication_147 ⟨Nat.le_of_ble_eq_true rfl, Nat.le_of_ble_eq_true rfl⟩ (fun H3 locs1 hq hz2 hk2 hS => ?_)
          have hk3 : ∀ q : Nat, q < H1.size → H3[q]? = H1[q]? := fun q h => (hk2 q (by rw [hz1]; exact Nat.lt_succ_of_lt h) (nblk (Or.inl h))).trans (hk q h)
          have hP := xW7_grow hPo hk3
          have hX := hXo.grow hk3
          obtain ⟨cs, ns, se, wi, al, re, gi, ps, ss, vs, hQ, hR, hC, hE, hT⟩ := (show sD D y bd (x + 12) d ca pa pk H3 from hX.2.1)
          have hpe : peA D y H1.size (nG d) (ca (cl (V0 tx len tn))) (graD d (cl (V0 tx len tn)) (cl (V1 tx len tn)) (VH tx len tn) (V4 tx len tn)) H3 := gra_pe hI hg200 h0 hq.1 (hC _ h0).2
          clear hPo hXo hz1 hz2 hk hk2 hk3 hV hq
          refine w_callV (As := [.ref H1.size]) (rest := []) hF hK (c_X2_grant l D y bd (x + 12) d ca pa pk H1.size (ca (cl (V0 tx len tn))) (graD d (cl (V0 tx len tn)) (cl (V1 tx len tn)) (VH tx len tn) (V4 tx len tn)) (hI) (hv24) (by omega) (hg200) (hvn) (hbH) ((hC _ h0).1) (gra_H hI)) (cwV 1 hts gX4_tryApplication_X2_grant rfl rfl rfl (by decide +kernel) ⟨Nat.le_of_ble_eq_true rfl, Nat.le_of_ble_eq_true rfl⟩) (sD_recv hK hX.2.1) ⟨hX.2.1, hpe⟩ hS (fun q h => xb_b (by omega) (by omega) h) rfl hl.1 rfl (Nat.le_of_ble_eq_true rfl) dX4_tryApplication_150 ⟨Nat.le_of_ble_eq_true rfl, Nat.le_of_ble_eq_true rfl⟩ (fun H4 locs1 hq hz1 hk hS => ?_)
          have hP := xW7_k hP hk nA_T
          have hX := hX.setT hbd hk (show sP D y bd (x + 12) (graD d (cl (V0 tx len tn)) (cl (V1 tx len tn)) (VH tx len tn) (V4 tx len tn), ca, va_up pa (nG d) H1.size, va_up pk (nG d) (ca (cl (V0 tx len tn)))) H4 from hq)
          clear hq hz1 hk hpe
          refine lv_iconst (v := (nI 0)) hx hb dX4_tryApplication_153 (by decide) ?_
          exact w_reti hx hb hr hlocks hS (⟨_, _, _, _, _, _, _, hP, hps, hX⟩) (rfl) dX4_tryApplication_154
        · exact absurd hrm (bf c105)
      · exact absurd (by rw [p3]; decide) c93
    · exact absurd hpn (bf c56)
  · exact absurd hG9 (bf c7)
theorem i_c_X4_tryApplication_no_X4 : ∀ w ∈ wsX40, w ∈ wsX4_tryApplication := fun w h => (List.mem_cons_of_mem _ (List.mem_append_left _ (List.mem_append_left _ (List.mem_append_left _ (List.mem_append_left _ (List.mem_append_right _ h))))))
theorem i_c_X4_tryApplication_no_X3 : ∀ w ∈ wsX30, w ∈ wsX4_tryApplication := fun w h => (List.mem_cons_of_mem _ (List.mem_append_left _ (List.mem_append_left _ (List.mem_append_left _ (List.mem_append_right _ h)))))
set_option maxRecDepth 100000 in
set_option maxHeartbeats 4000000 in
theorem c_X4_tryApplication_no (l : Launch) (D : va_G) (y : zY) (x : Nat) (bd : Nat) (N : Pic) (d : Nat → Int32) (ca : Nat → Nat) (pa : Nat → Nat) (pk : Nat → Nat) (P : Nat → Pic) (k : Nat) (rot : Nat) (len : Nat) (ts : Int32) (tn : Nat) (tx : Nat → Int32) (hJ : rJ d) (hk4 : k ≤ 4) (hbd : x + 70 ≤ bd) (hl80 : len ≤ 80) (htn : tn ≤ len) (hno : oneB d tx len tn = false) : Met l yX4_tryApplication wsX4_tryApplication ({ frames := 4, cells := 0, slots := 0, locals := 105 }) (zP [.ref x] (fun H => xO D y bd x N (d, ca, pa, pk) P k rot len ts tn tx H ∧ bd ≤ H.size) D y) (zW (some (.int (eOne d tx len tn))) (fun H => ∃ t9 : Nat, xO D y bd x N (d, ca, pa, pk) P k rot len (nI tn) t9 tx H) (xB x bd)) 0 0 (xB x bd) := by
  refine z_body (cc := cX4_tryApplication) (maxL := 3) (ret := (some .int)) (la := [(0, .ref x)]) (by decide) rfl (Nat.le_of_ble_eq_true rfl) rfl ?_
  intro pg ev s mm below meth c0 ls hx hb hr hF hlocks hΦ hK hl _
  have hts := hF.2.2.2.2
  have hown : s.vm.findClass RX4 = some mm.cls := hF.2.2.2.1
  have hS : va_S (xB x bd) s.heap s.heap [] := va_S.rf
  have hI := hJ.1
  have hv24 := hJ.2.1
  have hpl := hJ.2.2.1
  have hS9 := hpl.w
  have hG2 := hI.ng2
  have hC8 := hI.nc8
  have hb0 := hΦ.2
  obtain ⟨pf, f2, f3, f4, f5, f6, hP, hps, hX⟩ := hΦ.1
  obtain ⟨cs, ns, se, wi, al, re, gi, ps, ss, vs, hQ, hR, hC, hE, hT⟩ := (show sD D y bd (x + 12) d ca pa pk s.heap from hX.2.1)
  refine lv_aload_n hx hb dX4_tryApplication_0 rfl (lv_at hl 0 rfl) ?_
  refine z_get (fs := [.ref (x + 1), .ref (x + 12), .ref (x + 23), .int (nI k), .ref (x + 24)]) (ref := "CranePermits") (C := RX4) (T := TX4) (N := 5) (ci := 4) (v := .ref (x + 24)) hx hb hts i_c_X4_tryApplication_no_X4 hown hK (hP 0 _ rfl) 4 (by decide) rfl (hts (.fieldLink RX4 30 "CranePermits" "text" "LCranePermits$Text;") (List.mem_of_getElem? (i := 1) rfl)) rfl rfl dX4_tryApplication_1 ?_
  refine w_callV (As := []) (rest := []) hF hK (c_X3_readApplication l D y (x + 24) len ts tn f2 f3 f4 f5 f6 tx (hl80) (htn)) (cwV 0 hts gX4_tryApplication_X3_readApplication rfl rfl rfl (by decide +kernel) ⟨Nat.le_of_ble_eq_true rfl, Nat.le_of_ble_eq_true rfl⟩) (z_recv (q := (RX3, TX3, 9)) hK (hP 2 _ rfl) rfl) (xW7_t hP) hS (fun q h => xb_b (by omega) (by omega) h) rfl hl.1 rfl (Nat.le_of_ble_eq_true rfl) dX4_tryApplication_4 ⟨Nat.zero_le _, Nat.zero_le _⟩ (fun H1 locs1 hq hz1 hk hS => ?_)
  have hP := xW7_st hP hk hq
  have hX := hX.text hbd hk
  clear hq hz1 hk
  have hP : va_P D vwCl (xW7 y x (nI k) pf (nI len) (nI tn) (nI (Q5 tx len tn)) (bI (G9 tx len tn)) (U0 tx len tn) (U1 tx len tn) (UH tx len tn) (U4 tx len tn) tx) H1 := hP
  obtain ⟨cs, ns, se, wi, al, re, gi, ps, ss, vs, hQ, hR, hC, hE, hT⟩ := (show sD D y bd (x + 12) d ca pa pk H1 from hX.2.1)
  refine z_ifne (tgt := 13) hx hb dX4_tryApplication_7 (by decide) (fun c7 => ?_) (fun c7 => ?_)
  · have hfm : fmB tx len tn = true := (fm_G tx len tn).symm.trans c7
    obtain ⟨eU0, eU1, eUH, eU4, eQ5⟩ := fm_U hfm
    rw [eQ5, eU0, eU1, eUH, eU4] at hP
    have hP : va_P D vwCl (xW7 y x (nI k) pf (nI len) (nI tn) (nI (nxA tx len tn)) (bI (G9 tx len tn)) (V0 tx len tn) (V1 tx len tn) (VH tx len tn) (V4 tx len tn) tx) H1 := hP
    refine lv_aload_n hx hb dX4_tryApplication_13 rfl (lv_at hl 0 rfl) ?_
    refine z_get (fs := [.ref (x + 1), .ref (x + 12), .ref (x + 23), .int (nI k), .ref (x + 24)]) (ref := "CranePermits") (C := RX4) (T := TX4) (N := 5) (ci := 4) (v := .ref (x + 12)) hx hb hts i_c_X4_tryApplication_no_X4 hown hK (hP 0 _ rfl) 1 (by decide) rfl (hts (.fieldLink RX4 16 "CranePermits" "trial" "LCranePermits$Site;") (List.mem_of_getElem? (i := 2) rfl)) rfl rfl dX4_tryApplication_14 ?_
    refine lv_aload_n hx hb dX4_tryApplication_17 rfl (lv_at hl 0 rfl) ?_
    refine z_get (fs := [.ref (x + 1), .ref (x + 12), .ref (x + 23), .int (nI k), .ref (x + 24)]) (ref := "CranePermits") (C := RX4) (T := TX4) (N := 5) (ci := 4) (v := .ref (x + 24)) hx hb hts i_c_X4_tryApplication_no_X4 hown hK (hP 0 _ rfl) 4 (by decide) rfl (hts (.fieldLink RX4 30 "CranePermits" "text" "LCranePermits$Text;") (List.mem_of_getElem? (i := 1) rfl)) rfl rfl dX4_tryApplication_18 ?_
    refine z_get (fs := [.ref (x + 25), .int (nI len), .int (nI tn), .int (nI (nxA tx len tn)), .int (bI (G9 tx len tn)), .int (V0 tx len tn), .int (V1 tx len tn), .int (VH tx len tn), .int (V4 tx len tn)]) (ref := "CranePermits$Text") (C := RX3) (T := TX3) (N := 9) (ci := 3) (v := .int (V0 tx len tn)) hx hb hts i_c_X4_tryApplication_no_X3 hown hK (hP 2 _ rfl) 5 (by decide) rfl (hts (.fieldLink RX4 277 "CranePermits$Text" "crane" "I") (List.mem_of_getElem? (i := 3) rfl)) rfl rfl dX4_tryApplication_21 ?_
    rcases Bool.eq_false_or_eq_true (inB (V0 tx len tn) (nI 0) (d 0 - nI 1)) with c24 | c24
    · obtain ⟨j, hj, ej⟩ := in_nc hI c24
      refine z_topi (z := (nI j)) (ej) ?_
      refine z_callV (As := [.int (nI j)]) (rest := []) hF hK (c_X2_craneAt_in l D y bd (x + 12) d ca pa pk j (hI) (hv24) (by omega)) (cwV 1 hts gX4_tryApplication_X2_craneAt rfl rfl rfl (by decide +kernel) ⟨Nat.le_of_ble_eq_true rfl, Nat.le_of_ble_eq_true rfl⟩) (sD_recv hK hX.2.1) hX.2.1 rfl hl.1 rfl (Nat.le_of_ble_eq_true rfl) dX4_tryApplication_24 ⟨Nat.zero_le _, Nat.zero_le _⟩ ?_
      refine lv_astore_n (lv' := [(1, .ref (ca j)), (0, .ref x)]) hx hb dX4_tryApplication_27 rfl hl (by decide) rfl (fun ls hl => ?_)
      refine lv_aload_n hx hb dX4_tryApplication_28 rfl (lv_at hl 0 rfl) ?_
      refine lv_ifnull hx hb dX4_tryApplication_29 ?_
      refine lv_aload_n hx hb dX4_tryApplication_32 rfl (lv_at hl 1 rfl) ?_
      refine z_get (fs := [.ref (x + 1), .ref (x + 12), .ref (x + 23), .int (nI k), .ref (x + 24)]) (ref := "CranePermits") (C := RX4) (T := TX4) (N := 5) (ci := 4) (v := .ref (x + 24)) hx hb hts i_c_X4_tryApplication_no_X4 hown hK (hP 0 _ rfl) 4 (by decide) rfl (hts (.fieldLink RX4 30 "CranePermits" "text" "LCranePermits$Text;") (List.mem_of_getElem? (i := 1) rfl)) rfl rfl dX4_tryApplication_33 ?_
      refine z_get (fs := [.ref (x + 25), .int (nI len), .int (nI tn), .int (nI (nxA tx len tn)), .int (bI (G9 tx len tn)), .int (V0 tx len tn), .int (V1 tx len tn), .int (VH tx len tn), .int (V4 tx len tn)]) (ref := "CranePermits$Text") (C := RX3) (T := TX3) (N := 9) (ci := 3) (v := .int (V1 tx len tn)) hx hb hts i_c_X4_tryApplication_no_X3 hown hK (hP 2 _ rfl) 6 (by decide) rfl (hts (.fieldLink RX4 279 "CranePermits$Text" "night" "I") (List.mem_of_getElem? (i := 4) rfl)) rfl rfl dX4_tryApplication_36 ?_
      refine lv_aload_n hx hb dX4_tryApplication_39 rfl (lv_at hl 1 rfl) ?_
      refine z_get (fs := [.ref (x + 1), .ref (x + 12), .ref (x + 23), .int (nI k), .ref (x + 24)]) (ref := "CranePermits") (C := RX4) (T := TX4) (N := 5) (ci := 4) (v := .ref (x + 24)) hx hb hts i_c_X4_tryApplication_no_X4 hown hK (hP 0 _ rfl) 4 (by decide) rfl (hts (.fieldLink RX4 30 "CranePermits" "text" "LCranePermits$Text;") (List.mem_of_getElem? (i := 1) rfl)) rfl rfl dX4_tryApplication_40 ?_
      refine z_get (fs := [.ref (x + 25), .int (nI len), .int (nI tn), .int (nI (nxA tx len tn)), .int (bI (G9 tx len tn)), .int (V0 tx len tn), .int (V1 tx len tn), .int (VH tx len tn), .int (V4 tx len tn)]) (ref := "CranePermits$Text") (C := RX3) (T := TX3) (N := 9) (ci := 3) (v := .int (VH tx len tn)) hx hb hts i_c_X4_tryApplication_no_X3 hown hK (hP 2 _ rfl) 7 (by decide) rfl (hts (.fieldLink RX4 280 "CranePermits$Text" "hours" "I") (List.mem_of_getElem? (i := 5) rfl)) rfl rfl dX4_tryApplication_43 ?_
      refine lv_aload_n hx hb dX4_tryApplication_46 rfl (lv_at hl 1 rfl) ?_
      refine z_get (fs := [.ref (x + 1), .ref (x + 12), .ref (x + 23), .int (nI k), .ref (x + 24)]) (ref := "CranePermits") (C := RX4) (T := TX4) (N := 5) (ci := 4) (v := .ref (x + 24)) hx hb hts i_c_X4_tryApplication_no_X4 hown hK (hP 0 _ rfl) 4 (by decide) rfl (hts (.fieldLink RX4 30 "CranePermits" "text" "LCranePermits$Text;") (List.mem_of_getElem? (i := 1) rfl)) rfl rfl dX4_tryApplication_47 ?_
      refine z_get (fs := [.ref (x + 25), .int (nI len), .int (nI tn), .int (nI (nxA tx len tn)), .int (bI (G9 tx len tn)), .int (V0 tx len tn), .int (V1 tx len tn), .int (VH tx len tn), .int (V4 tx len tn)]) (ref := "CranePermits$Text") (C := RX3) (T := TX3) (N := 9) (ci := 3) (v := .int (V4 tx len tn)) hx hb hts i_c_X4_tryApplication_no_X3 hown hK (hP 2 _ rfl) 8 (by decide) rfl (hts (.fieldLink RX4 281 "CranePermits$Text" "swing" "I") (List.mem_of_getElem? (i := 6) rfl)) rfl rfl dX4_tryApplication_50 ?_
      refine z_callS (As := [.int (V1 tx len tn), .int (VH tx len tn), .int (V4 tx len tn)]) (rest := []) hF hK (c_X4_isPlan l D y (V1 tx len tn) (VH tx len tn) (V4 tx len tn) ) (va_cwS 3 hts gX4_tryApplication_X4_isPlan rfl rfl rfl (by decide +kernel) ⟨Nat.le_of_ble_eq_true rfl, Nat.le_of_ble_eq_true rfl⟩) trivial rfl hl.1 rfl (Nat.le_of_ble_eq_true rfl) dX4_tryApplication_53 ⟨Nat.zero_le _, Nat.zero_le _⟩ ?_
      refine z_ifne (tgt := 62) hx hb dX4_tryApplication_56 (by decide) (fun c56 => ?_) (fun c56 => ?_)
      · have hap : aplB d (V0 tx len tn) (V1 tx len tn) (VH tx len tn) (V4 tx len tn) = true := apl_y c24 c56
        obtain ⟨cn, ch, cs2⟩ := plan_3 c56
        obtain ⟨u, lu, hu, eu⟩ := inB_nat (by decide) cn (by decide)
        have ecj : cl (V0 tx len tn) = j := by rw [ej, cl_nI (by omega)]
        have ecu : cl (V1 tx len tn) = u := by rw [eu, cl_nI (by omega)]
        refine lv_aload_n hx hb dX4_tryApplication_62 rfl (lv_at hl 1 rfl) ?_
        refine z_get (fs := [.ref (x + 1), .ref (x + 12), .ref (x + 23), .int (nI k), .ref (x + 24)]) (ref := "CranePermits") (C := RX4) (T := TX4) (N := 5) (ci := 4) (v := .ref (x + 12)) hx hb hts i_c_X4_tryApplication_no_X4 hown hK (hP 0 _ rfl) 1 (by decide) rfl (hts (.fieldLink RX4 16 "CranePermits" "trial" "LCranePermits$Site;") (List.mem_of_getElem? (i := 2) rfl)) rfl rfl dX4_tryApplication_63 ?_
        refine lv_aload_n hx hb dX4_tryApplication_66 rfl (lv_at hl 0 rfl) ?_
        refine lv_aload_n hx hb dX4_tryApplication_67 rfl (lv_at hl 1 rfl) ?_
        refine z_get (fs := [.ref (x + 1), .ref (x + 12), .ref (x + 23), .int (nI k), .ref (x + 24)]) (ref := "CranePermits") (C := RX4) (T := TX4) (N := 5) (ci := 4) (v := .ref (x + 24)) hx hb hts i_c_X4_tryApplication_no_X4 hown hK (hP 0 _ rfl) 4 (by decide) rfl (hts (.fieldLink RX4 30 "CranePermits" "text" "LCranePermits$Text;") (List.mem_of_getElem? (i := 1) rfl)) rfl rfl dX4_tryApplication_68 ?_
        refine z_get (fs := [.ref (x + 25), .int (nI len), .int (nI tn), .int (nI (nxA tx len tn)), .int (bI (G9 tx len tn)), .int (V0 tx len tn), .int (V1 tx len tn), .int (VH tx len tn), .int (V4 tx len tn)]) (ref := "CranePermits$Text") (C := RX3) (T := TX3) (N := 9) (ci := 3) (v := .int (V1 tx len tn)) hx hb hts i_c_X4_tryApplication_no_X3 hown hK (hP 2 _ rfl) 6 (by decide) rfl (hts (.fieldLink RX4 279 "CranePermits$Text" "night" "I") (List.mem_of_getElem? (i := 4) rfl)) rfl rfl dX4_tryApplication_71 ?_
        refine z_topi (z := (nI u)) (eu) ?_
        refine lv_aload_n hx hb dX4_tryApplication_74 rfl (lv_at hl 1 rfl) ?_
        refine z_get (fs := [.ref (x + 1), .ref (x + 12), .ref (x + 23), .int (nI k), .ref (x + 24)]) (ref := "CranePermits") (C := RX4) (T := TX4) (N := 5) (ci := 4) (v := .ref (x + 24)) hx hb hts i_c_X4_tryApplication_no_X4 hown hK (hP 0 _ rfl) 4 (by decide) rfl (hts (.fieldLink RX4 30 "CranePermits" "text" "LCranePermits$Text;") (List.mem_of_getElem? (i := 1) rfl)) rfl rfl dX4_tryApplication_75 ?_
        refine z_get (fs := [.ref (x + 25), .int (nI len), .int (nI tn), .int (nI (nxA tx len tn)), .int (bI (G9 tx len tn)), .int (V0 tx len tn), .int (V1 tx len tn), .int (VH tx len tn), .int (V4 tx len tn)]) (ref := "CranePermits$Text") (C := RX3) (T := TX3) (N := 9) (ci := 3) (v := .int (VH tx len tn)) hx hb hts i_c_X4_tryApplication_no_X3 hown hK (hP 2 _ rfl) 7 (by decide) rfl (hts (.fieldLink RX4 280 "CranePermits$Text" "hours" "I") (List.mem_of_getElem? (i := 5) rfl)) rfl rfl dX4_tryApplication_78 ?_
        refine lv_aload_n hx hb dX4_tryApplication_81 rfl (lv_at hl 1 rfl) ?_
        refine z_get (fs := [.ref (x + 1), .ref (x + 12), .ref (x + 23), .int (nI k), .ref (x + 24)]) (ref := "CranePermits") (C := RX4) (T := TX4) (N := 5) (ci := 4) (v := .ref (x + 24)) hx hb hts i_c_X4_tryApplication_no_X4 hown hK (hP 0 _ rfl) 4 (by decide) rfl (hts (.fieldLink RX4 30 "CranePermits" "text" "LCranePermits$Text;") (List.mem_of_getElem? (i := 1) rfl)) rfl rfl dX4_tryApplication_82 ?_
        refine z_get (fs := [.ref (x + 25), .int (nI len), .int (nI tn), .int (nI (nxA tx len tn)), .int (bI (G9 tx len tn)), .int (V0 tx len tn), .int (V1 tx len tn), .int (VH tx len tn), .int (V4 tx len tn)]) (ref := "CranePermits$Text") (C := RX3) (T := TX3) (N := 9) (ci := 3) (v := .int (V4 tx len tn)) hx hb hts i_c_X4_tryApplication_no_X3 hown hK (hP 2 _ rfl) 8 (by decide) rfl (hts (.fieldLink RX4 281 "CranePermits$Text" "swing" "I") (List.mem_of_getElem? (i := 6) rfl)) rfl rfl dX4_tryApplication_85 ?_
        refine z_callV (As := [.ref (ca j), .int (nI u), .int (VH tx len tn), .int (V4 tx len tn)]) (rest := []) hF hK (c_X2_refusalOf l D y bd (x + 12) d ca pa pk (ca j) j u (VH tx len tn) (V4 tx len tn) (hI) (hv24) (by omega) (by omega) (sw_of cs2) (hS9)) (cwV 4 hts gX4_tryApplication_X2_refusalOf rfl rfl rfl (by decide +kernel) ⟨Nat.le_of_ble_eq_true rfl, Nat.le_of_ble_eq_true rfl⟩) (sD_recv hK hX.2.1) ⟨hX.2.1, (hC j (by omega)).2⟩ rfl hl.1 rfl (Nat.le_of_ble_eq_true rfl) dX4_tryApplication_88 ⟨Nat.zero_le _, Nat.zero_le _⟩ ?_
        refine lv_istore_n (lv' := [(2, .int (rfsI d j u (VH tx len tn) (V4 tx len tn))), (1, .ref (ca j)), (0, .ref x)]) hx hb dX4_tryApplication_91 rfl hl (by decide) rfl (fun ls hl => ?_)
        refine lv_iload_n hx hb dX4_tryApplication_92 rfl (lv_at hl 0 rfl) ?_
        refine lv_if_eq (tgt := 98) hx hb dX4_tryApplication_93 (by decide) (fun c93 => ?_) (fun c93 => ?_)
        · refine lv_aload_n hx hb dX4_tryApplication_98 rfl (lv_at hl 2 rfl) ?_
          refine z_get (fs := [.ref (x + 1), .ref (x + 12), .ref (x + 23), .int (nI k), .ref (x + 24)]) (ref := "CranePermits") (C := RX4) (T := TX4) (N := 5) (ci := 4) (v := .ref (x + 12)) hx hb hts i_c_X4_tryApplication_no_X4 hown hK (hP 0 _ rfl) 1 (by decide) rfl (hts (.fieldLink RX4 16 "CranePermits" "trial" "LCranePermits$Site;") (List.mem_of_getElem? (i := 2) rfl)) rfl rfl dX4_tryApplication_99 ?_
          refine z_callV (As := []) (rest := []) hF hK (c_X2_hasRoom l D y bd (x + 12) d ca pa pk (hI) (hv24)) (cwV 0 hts gX4_tryApplication_X2_hasRoom rfl rfl rfl (by decide +kernel) ⟨Nat.le_of_ble_eq_true rfl, Nat.le_of_ble_eq_true rfl⟩) (sD_recv hK hX.2.1) hX.2.1 rfl hl.1 rfl (Nat.le_of_ble_eq_true rfl) dX4_tryApplication_102 ⟨Nat.zero_le _, Nat.zero_le _⟩ ?_
          refine z_ifne (tgt := 110) hx hb dX4_tryApplication_105 (by decide) (fun c105 => ?_) (fun c105 => ?_)
          · exact absurd (show oneB d tx len tn = true by unfold oneB; rw [hfm, hap, ecj, ecu, decide_eq_true (show _ = nI 0 from c93), ← rom_ful hJ, c105]; rfl) (bf hno)
          · refine lv_iconst (v := (nI 5)) hx hb dX4_tryApplication_108 (by decide) ?_
            exact w_reti hx hb hr hlocks hS (⟨_, _, _, _, _, _, _, hP, hps, hX⟩) (by unfold eOne; rw [if_pos hfm, if_pos hap, ecj, ecu, if_pos (show _ = nI 0 from c93)]) dX4_tryApplication_109
        · refine lv_iload_n hx hb dX4_tryApplication_96 rfl (lv_at hl 0 rfl) ?_
          exact w_reti hx hb hr hlocks hS (⟨_, _, _, _, _, _, _, hP, hps, hX⟩) (by unfold eOne; rw [if_pos hfm, if_pos hap, ecj, ecu, if_neg (fun q => c93 (by rw [q]; decide))]) dX4_tryApplication_97
      · refine lv_bipush (v := (nI 12)) hx hb dX4_tryApplication_59 (by decide) ?_
        exact w_reti hx hb hr hlocks hS (⟨_, _, _, _, _, _, _, hP, hps, hX⟩) (by unfold eOne; rw [if_pos hfm, if_neg (fun q => by have q := apl_2 q; first | exact bf c24 q.1 | exact bf c56 q.2)]) dX4_tryApplication_61
    · refine z_callV (As := [.int (V0 tx len tn)]) (rest := []) hF hK (c_X2_craneAt_out l D y bd (x + 12) d ca pa pk (V0 tx len tn) (hI) (hv24) (c24)) (cwV 1 hts gX4_tryApplication_X2_craneAt rfl rfl rfl (by decide +kernel) ⟨Nat.le_of_ble_eq_true rfl, Nat.le_of_ble_eq_true rfl⟩) (sD_recv hK hX.2.1) hX.2.1 rfl hl.1 rfl (Nat.le_of_ble_eq_true rfl) dX4_tryApplication_24 ⟨Nat.zero_le _, Nat.zero_le _⟩ ?_
      refine lv_astore_nN (lv' := [(1, .null), (0, .ref x)]) hx hb dX4_tryApplication_27 rfl hl (by decide) rfl (fun ls hl => ?_)
      refine lv_aload_nN hx hb dX4_tryApplication_28 rfl (lv_at hl 0 rfl) ?_
      refine lv_ifnullN (tgt := 59) hx hb dX4_tryApplication_29 (by decide) ?_
      refine lv_bipush (v := (nI 12)) hx hb dX4_tryApplication_59 (by decide) ?_
      exact w_reti hx hb hr hlocks hS (⟨_, _, _, _, _, _, _, hP, hps, hX⟩) (by unfold eOne; rw [if_pos hfm, if_neg (fun q => by have q := apl_2 q; first | exact bf c24 q.1 | exact bf c56 q.2)]) dX4_tryApplication_61
  · refine lv_bipush (v := (nI 11)) hx hb dX4_tryApplication_10 (by decide) ?_
    exact w_reti hx hb hr hlocks hS (⟨_, _, _, _, _, _, _, hP, hps, hX⟩) (by unfold eOne; rw [if_neg (bf ((fm_G tx len tn).symm.trans c7))]) dX4_tryApplication_12
