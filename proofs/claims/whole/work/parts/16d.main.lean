/-! THE CLASS: calls that make objects -/
theorem add_H {d : Nat → Int32} {x z r h st no : Int32} (h8 : nC d < 8) : addH d (addC d x z r h st no) no := by
  have e0 : addC d x z r h st no 0 = nI (nC d + 1) := pk_us.trans (nI_add _ _)
  have lo : ∀ i, i ≠ 0 → (i < 4 + 6 * nC d ∨ 4 + 6 * nC d + 6 ≤ i) → addC d x z r h st no i = d i := fun i h0 hi =>
    (pk_un h0).trans ((pk_un (by omega)).trans ((pk_un (by omega)).trans ((pk_un (by omega)).trans ((pk_un (by omega)).trans ((pk_un (by omega)).trans (pk_un (by omega)))))))
  refine ⟨?_, fun c k hc hk => lo _ (by omega) (by omega), ?_, fun i h1 h2 => lo i (by omega) (by omega), fun i h1 h2 => lo i (by omega) (by omega), fun i h1 => lo i (by omega) (by omega)⟩
  · show cl (addC d x z r h st no 0) = nC d + 1
    rw [e0, cl_nI (by omega)]
  · show addC d x z r h st no (4 + 6 * nC d + 5) = no
    unfold addC; rw [pk_un (by omega), pk_us]
theorem add_cr {D : va_G} {y : zY} {q : Nat} {H : Heap} {d : Nat → Int32} {x z r h st no : Int32} (h8 : nC d < 8) (hP : va_P D vwCl [(q, .inr (0, [.int (nI (nC d)), .int x, .int z, .int r, .int h, .int st, .ref (q + 1)])), (q + 1, .inl (y.2.2.1, 32, .inr (.inl (eiS x z r 256))))] H) : crA D y q (nC d) (addC d x z r h st no) H := by
  have e0 : gr (addC d x z r h st no) (nC d) 0 = x := by
    show addC d x z r h st no (4 + 6 * nC d) = x
    unfold addC; rw [pk_un (by omega), pk_un (by omega), pk_un (by omega), pk_un (by omega), pk_un (by omega), pk_un (by omega), pk_us]
  have e1 : gr (addC d x z r h st no) (nC d) 1 = z := by
    show addC d x z r h st no (4 + 6 * nC d + 1) = z
    unfold addC; rw [pk_un (by omega), pk_un (by omega), pk_un (by omega), pk_un (by omega), pk_un (by omega), pk_us]
  have e2 : gr (addC d x z r h st no) (nC d) 2 = r := by
    show addC d x z r h st no (4 + 6 * nC d + 2) = r
    unfold addC; rw [pk_un (by omega), pk_un (by omega), pk_un (by omega), pk_un (by omega), pk_us]
  have e3 : gr (addC d x z r h st no) (nC d) 3 = h := by
    show addC d x z r h st no (4 + 6 * nC d + 3) = h
    unfold addC; rw [pk_un (by omega), pk_un (by omega), pk_un (by omega), pk_us]
  have e4 : gr (addC d x z r h st no) (nC d) 4 = st := by
    show addC d x z r h st no (4 + 6 * nC d + 4) = st
    unfold addC; rw [pk_un (by omega), pk_un (by omega), pk_us]
  unfold crA eiF
  rw [e0, e1, e2, e3, e4]
  exact ⟨hP 0 _ rfl, hP 1 _ rfl⟩
theorem rom_2 {d : Nat → Int32} (h : romB d = true) : vn d < 24 ∧ nG d < 200 := by
  unfold romB at h
  simp only [Bool.and_eq_true, decide_eq_true_eq] at h
  exact h
theorem gra_pm {d : Nat → Int32} {c n : Nat} {h sw : Int32} : pm (graD d c n h sw) (nG d) 0 = nI c ∧ pm (graD d c n h sw) (nG d) 1 = nI n ∧ pm (graD d c n h sw) (nG d) 2 = h ∧ pm (graD d c n h sw) (nG d) 3 = sw ∧ pm (graD d c n h sw) (nG d) 4 = nI 1 :=
  ⟨(pk_un (by omega)).trans ((pk_un (by omega)).trans ((pk_un (by omega)).trans ((pk_un (by omega)).trans ((pk_un (by omega)).trans pk_us)))), (pk_un (by omega)).trans ((pk_un (by omega)).trans ((pk_un (by omega)).trans ((pk_un (by omega)).trans pk_us))), (pk_un (by omega)).trans ((pk_un (by omega)).trans ((pk_un (by omega)).trans pk_us)), (pk_un (by omega)).trans ((pk_un (by omega)).trans pk_us), (pk_un (by omega)).trans pk_us⟩
theorem gra_lo {d : Nat → Int32} {c n : Nat} {h sw : Int32} {i : Nat} (h1 : i ≠ 442) (h2 : i < 445 + 5 * nG d) : graD d c n h sw i = d i :=
  (pk_un h1).trans ((pk_un (by omega)).trans ((pk_un (by omega)).trans ((pk_un (by omega)).trans ((pk_un (by omega)).trans (pk_un (by omega))))))
theorem gra_H {d : Nat → Int32} (hI : zI d) {c n : Nat} {h sw : Int32} : graH d (graD d c n h sw) := by
  have g2 := hI.ng2
  refine ⟨?_, fun i hi => gra_lo (by omega) (by omega), fun p k hp hk => gra_lo (by omega) (by omega), gra_pm.2.2.2.2⟩
  have e : graD d c n h sw 442 = nI (nG d + 1) := pk_us.trans (nI_add _ _)
  show cl (graD d c n h sw 442) = nG d + 1
  rw [e, cl_nI (by omega)]
theorem gra_pe {D : va_G} {y : zY} {q cq : Nat} {H : Heap} {d : Nat → Int32} (hI : zI d) (hg : nG d < 200) {c n : Nat} {h sw : Int32} (hc : c < nC d) (hv : va_at D vwCl (q, .inr (1, [.int (nI (nG d)), .ref cq, .int (nI n), .int h, .int (h / nI 10), .int (h - h / nI 10 * nI 10), .int sw])) H) (hcr : crA D y cq c d H) : peA D y q (nG d) cq (graD d c n h sw) H := by
  have h8 := hI.nc8
  obtain ⟨e0, e1, e2, e3, -⟩ := @gra_pm d c n h sw
  have ec : pC (graD d c n h sw) (nG d) = c := by unfold pC; rw [e0, cl_nI (by omega)]
  unfold peA
  rw [e1, e2, e3, ec]
  exact ⟨hv, hcr.cong5 (fun k hk => gra_lo (by omega) (by omega))⟩
theorem i_c_X4_crane_ok_X4 : ∀ w ∈ wsX40, w ∈ wsX4_crane := fun w h => (List.mem_cons_of_mem _ (List.mem_append_left _ (List.mem_append_left _ (List.mem_append_right _ h))))
theorem i_c_X4_crane_ok_X2 : ∀ w ∈ wsX20, w ∈ wsX4_crane := fun w h => (List.mem_cons_of_mem _ (List.mem_append_left _ (List.mem_append_right _ h)))
theorem i_c_X4_crane_ok_X0 : ∀ w ∈ wsX00, w ∈ wsX4_crane := fun w h => (List.mem_cons_of_mem _ (List.mem_append_right _ h))
set_option maxRecDepth 100000 in
set_option maxHeartbeats 4000000 in
theorem c_X4_crane_ok (l : Launch) (D : va_G) (y : zY) (x : Nat) (bd : Nat) (d : Nat → Int32) (ca : Nat → Nat) (pa : Nat → Nat) (pk : Nat → Nat) (T : Pic) (P : Nat → Pic) (k : Nat) (rot : Nat) (len : Nat) (ts : Int32) (tn : Nat) (tx : Nat → Int32) (u : Int32) (z : Int32) (r : Int32) (h : Int32) (sg : Int32) (no : Int32) (hJ : rJ d) (hk4 : k ≤ 4) (hbd : x + 70 ≤ bd) (hok : okCr u z r h sg no = true) (hh : hasC d u z = false) (h8 : nC d < 8) : Met l yX4_crane wsX4_crane ({ frames := 3, cells := 2, slots := 39, locals := 82 }) (zP [.ref x, .int u, .int z, .int r, .int h, .int sg, .int no] (fun H => xO D y bd x (d, ca, pa, pk) T P k rot len ts tn tx H ∧ bd ≤ H.size) D y) (zW (some (.int (nI (nC d)))) (fun H => ∃ q : Nat, xO D y bd x (addC d u z r h sg no, va_up ca (nC d) q, pa, pk) T (remP P k rot (d, ca, pa, pk)) (recN k) (remR k rot) len ts tn tx H) (xB x bd)) 2 39 (xB x bd) := by
  refine z_body (cc := cX4_crane) (maxL := 8) (ret := (some .int)) (la := [(0, .ref x), (1, .int u), (2, .int z), (3, .int r), (4, .int h), (5, .int sg), (6, .int no)]) (by decide) rfl (Nat.le_of_ble_eq_true rfl) rfl ?_
  intro pg ev s mm below meth c0 ls hx hb hr hF hlocks hΦ hK hl _
  have hts := hF.2.2.2.2
  have hown : s.vm.findClass RX4 = some mm.cls := hF.2.2.2.1
  have hS : va_S (xB x bd) s.heap s.heap [] := va_S.rf
  have hI := hJ.1
  have hv24 := hJ.2.1
  have hpl := hJ.2.2.1
  have hS9 := hpl.w
  have hG2 := hI.ng2
  have hC8 := hI.nc8
  have hb0 := hΦ.2
  obtain ⟨pf, f2, f3, f4, f5, f6, hP, hps, hX⟩ := hΦ.1
  obtain ⟨cs, ns, se, wi, al, re, gi, ps, ss, vs, hQ, hR, hC, hE, hT⟩ := (show sD D y bd (x + 1) d ca pa pk s.heap from hX.1)
  refine lv_iload_n hx hb dX4_crane_0 rfl (lv_at hl 1 rfl) ?_
  refine lv_iload_n hx hb dX4_crane_1 rfl (lv_at hl 2 rfl) ?_
  refine z_callS (As := [.int u, .int z]) (rest := []) hF hK (c_X4_isCell l D y u z ) (va_cwS 2 hts gX4_crane_X4_isCell rfl rfl rfl (by decide +kernel) ⟨Nat.le_of_ble_eq_true rfl, Nat.le_of_ble_eq_true rfl⟩) trivial rfl hl.1 rfl (Nat.le_of_ble_eq_true rfl) dX4_crane_2 ⟨Nat.le_of_ble_eq_true rfl, Nat.le_of_ble_eq_true rfl⟩ ?_
  refine z_ifeq (tgt := 49) hx hb dX4_crane_5 (by decide) (fun c5 => ?_) (fun c5 => ?_)
  · exfalso
    unfold okCr at hok
    simp only [Bool.and_eq_true] at hok
    obtain ⟨q1, q2, q3, q4, q5, q6⟩ := hok
    first | exact bf c5 (by rw [q1, q2]; rfl) | exact bf c15 q3 | exact bf c27 q4 | exact bf c35 q5 | exact bf c46 q6
  · refine lv_iload_n hx hb dX4_crane_8 rfl (lv_at hl 3 rfl) ?_
    refine lv_iconst (v := (nI 1)) hx hb dX4_crane_9 (by decide) ?_
    refine lv_bipush (v := (nI 8)) hx hb dX4_crane_10 (by decide) ?_
    refine z_callS (As := [.int r, .int (nI 1), .int (nI 8)]) (rest := []) hF hK (c_X4_isIn l D y r (nI 1) (nI 8) ) (va_cwS 3 hts gX4_crane_X4_isIn rfl rfl rfl (by decide +kernel) ⟨Nat.le_of_ble_eq_true rfl, Nat.le_of_ble_eq_true rfl⟩) trivial rfl hl.1 rfl (Nat.le_of_ble_eq_true rfl) dX4_crane_12 ⟨Nat.le_of_ble_eq_true rfl, Nat.le_of_ble_eq_true rfl⟩ ?_
    refine z_ifeq (tgt := 49) hx hb dX4_crane_15 (by decide) (fun c15 => ?_) (fun c15 => ?_)
    · exfalso
      unfold okCr at hok
      simp only [Bool.and_eq_true] at hok
      obtain ⟨q1, q2, q3, q4, q5, q6⟩ := hok
      first | exact bf c5 (by rw [q1, q2]; rfl) | exact bf c15 q3 | exact bf c27 q4 | exact bf c35 q5 | exact bf c46 q6
    · refine lv_iload hx hb dX4_crane_18 (lv_at hl 4 rfl) ?_
      refine lv_bipush (v := (nI 10)) hx hb dX4_crane_20 (by decide) ?_
      refine lv_bipush (v := (nI 99)) hx hb dX4_crane_22 (by decide) ?_
      refine z_callS (As := [.int h, .int (nI 10), .int (nI 99)]) (rest := []) hF hK (c_X4_isIn l D y h (nI 10) (nI 99) ) (va_cwS 3 hts gX4_crane_X4_isIn rfl rfl rfl (by decide +kernel) ⟨Nat.le_of_ble_eq_true rfl, Nat.le_of_ble_eq_true rfl⟩) trivial rfl hl.1 rfl (Nat.le_of_ble_eq_true rfl) dX4_crane_24 ⟨Nat.le_of_ble_eq_true rfl, Nat.le_of_ble_eq_true rfl⟩ ?_
      refine z_ifeq (tgt := 49) hx hb dX4_crane_27 (by decide) (fun c27 => ?_) (fun c27 => ?_)
      · exfalso
        unfold okCr at hok
        simp only [Bool.and_eq_true] at hok
        obtain ⟨q1, q2, q3, q4, q5, q6⟩ := hok
        first | exact bf c5 (by rw [q1, q2]; rfl) | exact bf c15 q3 | exact bf c27 q4 | exact bf c35 q5 | exact bf c46 q6
      · refine lv_iload hx hb dX4_crane_30 (lv_at hl 5 rfl) ?_
        refine z_callS (As := [.int sg]) (rest := []) hF hK (c_X4_isStreet l D y sg ) (va_cwS 1 hts gX4_crane_X4_isStreet rfl rfl rfl (by decide +kernel) ⟨Nat.le_of_ble_eq_true rfl, Nat.le_of_ble_eq_true rfl⟩) trivial rfl hl.1 rfl (Nat.le_of_ble_eq_true rfl) dX4_crane_32 ⟨Nat.le_of_ble_eq_true rfl, Nat.le_of_ble_eq_true rfl⟩ ?_
        refine z_ifeq (tgt := 49) hx hb dX4_crane_35 (by decide) (fun c35 => ?_) (fun c35 => ?_)
        · exfalso
          unfold okCr at hok
          simp only [Bool.and_eq_true] at hok
          obtain ⟨q1, q2, q3, q4, q5, q6⟩ := hok
          first | exact bf c5 (by rw [q1, q2]; rfl) | exact bf c15 q3 | exact bf c27 q4 | exact bf c35 q5 | exact bf c46 q6
        · refine lv_iload hx hb dX4_crane_38 (lv_at hl 6 rfl) ?_
          refine lv_iconst (v := (nI 1)) hx hb dX4_crane_40 (by decide) ?_
          refine lv_bipush (v := (nI 9)) hx hb dX4_crane_41 (by decide) ?_
          refine z_callS (As := [.int no, .int (nI 1), .int (nI 9)]) (rest := []) hF hK (c_X4_isIn l D y no (nI 1) (nI 9) ) (va_cwS 3 hts gX4_crane_X4_isIn rfl rfl rfl (by decide +kernel) ⟨Nat.le_of_ble_eq_true rfl, Nat.le_of_ble_eq_true rfl⟩) trivial rfl hl.1 rfl (Nat.le_of_ble_eq_true rfl) dX4_crane_43 ⟨Nat.le_of_ble_eq_true rfl, Nat.le_of_ble_eq_true rfl⟩ ?_
          refine z_ifne (tgt := 53) hx hb dX4_crane_46 (by decide) (fun c46 => ?_) (fun c46 => ?_)
          · refine lv_aload_n hx hb dX4_crane_53 rfl (lv_at hl 0 rfl) ?_
            refine z_get (fs := [.ref (x + 1), .ref (x + 12), .ref (x + 23), .int (nI k), .ref (x + 24)]) (ref := "CranePermits") (C := RX4) (T := TX4) (N := 5) (ci := 4) (v := .ref (x + 1)) hx hb hts i_c_X4_crane_ok_X4 hown hK (hP 0 _ rfl) 0 (by decide) rfl (hts (.fieldLink RX4 10 "CranePermits" "now" "LCranePermits$Site;") (List.mem_of_getElem? (i := 1) rfl)) rfl rfl dX4_crane_54 ?_
            refine lv_iload_n hx hb dX4_crane_57 rfl (lv_at hl 1 rfl) ?_
            refine lv_iload_n hx hb dX4_crane_58 rfl (lv_at hl 2 rfl) ?_
            refine z_callV (As := [.int u, .int z]) (rest := []) hF hK (c_X2_hasCraneIn l D y bd (x + 1) d ca pa pk u z (hI) (hv24)) (cwV 2 hts gX4_crane_X2_hasCraneIn rfl rfl rfl (by decide +kernel) ⟨Nat.le_of_ble_eq_true rfl, Nat.le_of_ble_eq_true rfl⟩) (sD_recv hK hX.1) hX.1 rfl hl.1 rfl (Nat.le_of_ble_eq_true rfl) dX4_crane_59 ⟨Nat.le_of_ble_eq_true rfl, Nat.le_of_ble_eq_true rfl⟩ ?_
            refine z_ifeq (tgt := 69) hx hb dX4_crane_62 (by decide) (fun c62 => ?_) (fun c62 => ?_)
            · refine lv_aload_n hx hb dX4_crane_69 rfl (lv_at hl 0 rfl) ?_
              refine z_get (fs := [.ref (x + 1), .ref (x + 12), .ref (x + 23), .int (nI k), .ref (x + 24)]) (ref := "CranePermits") (C := RX4) (T := TX4) (N := 5) (ci := 4) (v := .ref (x + 1)) hx hb hts i_c_X4_crane_ok_X4 hown hK (hP 0 _ rfl) 0 (by decide) rfl (hts (.fieldLink RX4 10 "CranePermits" "now" "LCranePermits$Site;") (List.mem_of_getElem? (i := 1) rfl)) rfl rfl dX4_crane_70 ?_
              refine z_get (fs := [.ref ((x + 1) + 1), .int (nI (nC d)), .ref ((x + 1) + 2), .ref ((x + 1) + 3), .ref ((x + 1) + 4), .ref ((x + 1) + 5), .ref ((x + 1) + 6), .ref ((x + 1) + 7), .ref ((x + 1) + 8), .int (nI (nG d)), .ref ((x + 1) + 9), .ref ((x + 1) + 10), .int (nI (vn d))]) (ref := "CranePermits$Site") (C := RX2) (T := TX2) (N := 13) (ci := 2) (v := .int (nI (nC d))) hx hb hts i_c_X4_crane_ok_X2 hown hK (hQ 0 _ rfl) 1 (by decide) rfl (hts (.fieldLink RX4 49 "CranePermits$Site" "craneCount" "I") (List.mem_of_getElem? (i := 2) rfl)) rfl rfl dX4_crane_73 ?_
              refine lv_bipush (v := (nI 8)) hx hb dX4_crane_76 (by decide) ?_
              refine z_lt (tgt := 85) hx hb (by omega) (by omega) dX4_crane_78 (by decide) (fun c78 => ?_) (fun c78 => ?_)
              · refine lv_aload_n hx hb dX4_crane_85 rfl (lv_at hl 0 rfl) ?_
                refine w_callV (As := []) (rest := []) hF hK (c_X4_remember l D y x bd d ca pa pk T P k rot len ts tn tx (hJ) (hk4) (hbd)) (cwV 0 hts gX4_crane_X4_remember rfl rfl rfl (by decide +kernel) ⟨Nat.le_of_ble_eq_true rfl, Nat.le_of_ble_eq_true rfl⟩) (z_recv (q := (RX4, TX4, 5)) hK (hP 0 _ rfl) rfl) ⟨_, _, _, _, _, _, hP, hps, hX⟩ hS (fun q h => h) rfl hl.1 rfl (Nat.le_of_ble_eq_true rfl) dX4_crane_86 ⟨Nat.le_of_ble_eq_true rfl, Nat.le_of_ble_eq_true rfl⟩ (fun H1 locs1 hq hz1 hk hS => ?_)
                clear hP hX hps
                obtain ⟨pf, f2, f3, f4, f5, f6, hP, hps, hX⟩ := hq
                clear hz1 hk
                obtain ⟨cs, ns, se, wi, al, re, gi, ps, ss, vs, hQ, hR, hC, hE, hT⟩ := (show sD D y bd (x + 1) d ca pa pk H1 from hX.1)
                have hbH : bd ≤ H1.size := Nat.le_trans hb0 hS.1
                have hXo := hX
                have hPo := hP
                refine y_new (a := H1.size) (C := RX0) (T := TX0) (N := 7) (ci := 0) (fs := [.int 0, .int 0, .int 0, .int 0, .int 0, .int 0, .null]) hx hb hts i_c_X4_crane_ok_X0 tyX0 tyX0_ok hown (hts (.classLink RX4 55 RX0) (List.mem_of_getElem? (i := 3) rfl)) (hts (.instantiable RX0 7) (List.mem_of_getElem? (i := 4) rfl)) (hts (.initialized RX0) (List.mem_of_getElem? (i := 5) rfl)) hK rfl (fun j hj => by rcases (show j = 0 ∨ j = 1 ∨ j = 2 ∨ j = 3 ∨ j = 4 ∨ j = 5 ∨ j = 6 by omega) with rfl | rfl | rfl | rfl | rfl | rfl | rfl <;> rfl) rfl (by decide) (by decide) dX4_crane_89 (fun H2 hz1 hk hV => ?_)
                have hS := hS.grow hz1 hk
                have hP := xW7_grow hP hk
                have hX := hX.grow hk
                obtain ⟨cs, ns, se, wi, al, re, gi, ps, ss, vs, hQ, hR, hC, hE, hT⟩ := (show sD D y bd (x + 1) d ca pa pk H2 from hX.1)
                refine lv_dup hx hb dX4_crane_92 rfl ?_
                refine lv_aload_n hx hb dX4_crane_93 rfl (lv_at hl 0 rfl) ?_
                refine z_get (fs := [.ref (x + 1), .ref (x + 12), .ref (x + 23), .int (nI (recN k)), .ref (x + 24)]) (ref := "CranePermits") (C := RX4) (T := TX4) (N := 5) (ci := 4) (v := .ref (x + 1)) hx hb hts i_c_X4_crane_ok_X4 hown hK (hP 0 _ rfl) 0 (by decide) rfl (hts (.fieldLink RX4 10 "CranePermits" "now" "LCranePermits$Site;") (List.mem_of_getElem? (i := 1) rfl)) rfl rfl dX4_crane_94 ?_
                refine z_get (fs := [.ref ((x + 1) + 1), .int (nI (nC d)), .ref ((x + 1) + 2), .ref ((x + 1) + 3), .ref ((x + 1) + 4), .ref ((x + 1) + 5), .ref ((x + 1) + 6), .ref ((x + 1) + 7), .ref ((x + 1) + 8), .int (nI (nG d)), .ref ((x + 1) + 9), .ref ((x + 1) + 10), .int (nI (vn d))]) (ref := "CranePermits$Site") (C := RX2) (T := TX2) (N := 13) (ci := 2) (v := .int (nI (nC d))) hx hb hts i_c_X4_crane_ok_X2 hown hK (hQ 0 _ rfl) 1 (by decide) rfl (hts (.fieldLink RX4 49 "CranePermits$Site" "craneCount" "I") (List.mem_of_getElem? (i := 2) rfl)) rfl rfl dX4_crane_97 ?_
                refine lv_iload_n hx hb dX4_crane_100 rfl (lv_at hl 1 rfl) ?_
                refine lv_iload_n hx hb dX4_crane_101 rfl (lv_at hl 2 rfl) ?_
                refine lv_iload_n hx hb dX4_crane_102 rfl (lv_at hl 3 rfl) ?_
                refine lv_iload hx hb dX4_crane_103 (lv_at hl 4 rfl) ?_
                refine lv_iload hx hb dX4_crane_105 (lv_at hl 5 rfl) ?_
                refine w_callI (b := H1.size) (As := [.int (nI (nC d)), .int u, .int z, .int r, .int h, .int sg]) (rest := [.ref H1.size]) hF hK (c_X0_init l D y H1.size (nC d) u z r h sg ) (cwI 6 hts gX4_crane_X0_init rfl rfl rfl (hts (.initialized RX0) (List.mem_of_getElem? (i := 5) rfl)) (hts (.methodLink RX4 57 yX0_init) (List.mem_of_getElem? (i := 63) rfl)) (hts (.instanceMethod yX0_init) (List.mem_of_getElem? (i := 64) rfl)) rfl (by decide +kernel) ⟨Nat.le_of_ble_eq_true rfl, Nat.le_of_ble_eq_true rfl⟩) ⟨z_one hV, hz1⟩ hS (fun q h => xb_n hbH h) rfl hl.1 rfl (Nat.le_of_ble_eq_true rfl) dX4_crane_107 ⟨Nat.le_of_ble_eq_true rfl, Nat.le_of_ble_eq_true rfl⟩ (fun H3 locs1 hq hz2 hk2 hS => ?_)
                have hk3 : ∀ q : Nat, q < H1.size → H3[q]? = H1[q]? := fun q h => (hk2 q (by rw [hz1]; exact Nat.lt_succ_of_lt h) (nblk (Or.inl h))).trans (hk q h)
                have hP := xW7_grow hPo hk3
                have hX := hXo.grow hk3
                have hcr : crA D y H1.size (nC d) (addC d u z r h sg no) H3 := add_cr h8 hq.1
                clear hPo hXo hz1 hz2 hk hk2 hk3 hV hq
                obtain ⟨cs, ns, se, wi, al, re, gi, ps, ss, vs, hQ, hR, hC, hE, hT⟩ := (show sD D y bd (x + 1) d ca pa pk H3 from hX.1)
                refine lv_astore (lv' := [(7, .ref H1.size), (0, .ref x), (1, .int u), (2, .int z), (3, .int r), (4, .int h), (5, .int sg), (6, .int no)]) hx hb dX4_crane_110 hl (by decide) rfl (fun ls hl => ?_)
                refine lv_aload_n hx hb dX4_crane_112 rfl (lv_at hl 1 rfl) ?_
                refine z_get (fs := [.ref (x + 1), .ref (x + 12), .ref (x + 23), .int (nI (recN k)), .ref (x + 24)]) (ref := "CranePermits") (C := RX4) (T := TX4) (N := 5) (ci := 4) (v := .ref (x + 1)) hx hb hts i_c_X4_crane_ok_X4 hown hK (hP 0 _ rfl) 0 (by decide) rfl (hts (.fieldLink RX4 10 "CranePermits" "now" "LCranePermits$Site;") (List.mem_of_getElem? (i := 1) rfl)) rfl rfl dX4_crane_113 ?_
                refine lv_aload hx hb dX4_crane_116 (lv_at hl 0 rfl) ?_
                refine lv_iload hx hb dX4_crane_118 (lv_at hl 7 rfl) ?_
                refine w_callV (As := [.ref H1.size, .int no]) (rest := []) hF hK (c_X2_addCrane l D y bd (x + 1) d ca pa pk H1.size (addC d u z r h sg no) no (hI) (hv24) (by omega) (h8) (hbH) (add_H h8)) (cwV 2 hts gX4_crane_X2_addCrane rfl rfl rfl (by decide +kernel) ⟨Nat.le_of_ble_eq_true rfl, Nat.le_of_ble_eq_true rfl⟩) (sD_recv hK hX.1) ⟨hX.1, hcr⟩ hS (fun q h => xb_b (by omega) (by omega) h) rfl hl.1 rfl (Nat.le_of_ble_eq_true rfl) dX4_crane_120 ⟨Nat.le_of_ble_eq_true rfl, Nat.le_of_ble_eq_true rfl⟩ (fun H4 locs1 hq hz1 hk hS => ?_)
                have hP := xW7_k hP hk nA_N
                have hX := hX.setN hbd hk (show sP D y bd (x + 1) (addC d u z r h sg no, va_up ca (nC d) H1.size, pa, pk) H4 from hq)
                have hcr := hcr.1.kept (hk _ hcr.1.lt (nblk (by omega)))
                clear hq hz1 hk
                refine lv_aload hx hb dX4_crane_123 (lv_at hl 0 rfl) ?_
                refine z_get (fs := [.int (nI (nC d)), .int (gr (addC d u z r h sg no) (nC d) 0), .int (gr (addC d u z r h sg no) (nC d) 1), .int (gr (addC d u z r h sg no) (nC d) 2), .int (gr (addC d u z r h sg no) (nC d) 3), .int (gr (addC d u z r h sg no) (nC d) 4), .ref (H1.size + 1)]) (ref := "CranePermits$Crane") (C := RX0) (T := TX0) (N := 7) (ci := 0) (v := .int (nI (nC d))) hx hb hts i_c_X4_crane_ok_X0 hown hK hcr 0 (by decide) rfl (hts (.fieldLink RX4 64 "CranePermits$Crane" "number" "I") (List.mem_of_getElem? (i := 6) rfl)) rfl rfl dX4_crane_125 ?_
                exact w_reti hx hb hr hlocks hS (⟨_, _, _, _, _, _, _, hP, hps, hX⟩) (rfl) dX4_crane_128
              · exact absurd c78 (by omega)
            · exact absurd (hh.symm.trans c62) (by decide)
          · exfalso
            unfold okCr at hok
            simp only [Bool.and_eq_true] at hok
            obtain ⟨q1, q2, q3, q4, q5, q6⟩ := hok
            first | exact bf c5 (by rw [q1, q2]; rfl) | exact bf c15 q3 | exact bf c27 q4 | exact bf c35 q5 | exact bf c46 q6
theorem i_c_X4_apply_ok_X4 : ∀ w ∈ wsX40, w ∈ wsX4_apply := fun w h => (List.mem_cons_of_mem _ (List.mem_append_left _ (List.mem_append_left _ (List.mem_append_left _ (List.mem_append_right _ h)))))
theorem i_c_X4_apply_ok_X1 : ∀ w ∈ wsX10, w ∈ wsX4_apply := fun w h => (List.mem_cons_of_mem _ (List.mem_append_left _ (List.mem_append_left _ (List.mem_append_right _ h))))
theorem i_c_X4_apply_ok_X2 : ∀ w ∈ wsX20, w ∈ wsX4_apply := fun w h => (List.mem_cons_of_mem _ (List.mem_append_left _ (List.mem_append_right _ h)))
set_option maxRecDepth 100000 in
set_option maxHeartbeats 4000000 in
theorem c_X4_apply_ok (l : Launch) (D : va_G) (y : zY) (x : Nat) (bd : Nat) (d : Nat → Int32) (ca : Nat → Nat) (pa : Nat → Nat) (pk : Nat → Nat) (T : Pic) (P : Nat → Pic) (k : Nat) (rot : Nat) (len : Nat) (ts : Int32) (tn : Nat) (tx : Nat → Int32) (c : Nat) (n : Nat) (h : Int32) (sw : Int32) (hJ : rJ d) (hk4 : k ≤ 4) (hbd : x + 70 ≤ bd) (hc : c < nC d) (hpn : planB (nI n) h sw = true) (hn : n < 30) (hr0 : rfsI d c n h sw = nI 0) (hrm : romB d = true) : Met l yX4_apply wsX4_apply ({ frames := 4, cells := 1, slots := 7, locals := 105 }) (zP [.ref x, .int (nI c), .int (nI n), .int h, .int sw] (fun H => xO D y bd x (d, ca, pa, pk) T P k rot len ts tn tx H ∧ bd ≤ H.size) D y) (zW (some (.int (nI (nG d)))) (fun H => ∃ q : Nat, xO D y bd x (graD d c n h sw, ca, va_up pa (nG d) q, va_up pk (nG d) (ca c)) T (remP P k rot (d, ca, pa, pk)) (recN k) (remR k rot) len ts tn tx H) (xB x bd)) 1 7 (xB x bd) := by
  refine z_body (cc := cX4_apply) (maxL := 7) (ret := (some .int)) (la := [(0, .ref x), (1, .int (nI c)), (2, .int (nI n)), (3, .int h), (4, .int sw)]) (by decide) rfl (Nat.le_of_ble_eq_true rfl) rfl ?_
  intro pg ev s mm below meth c0 ls hx hb hr hF hlocks hΦ hK hl _
  have hts := hF.2.2.2.2
  have hown : s.vm.findClass RX4 = some mm.cls := hF.2.2.2.1
  have hS : va_S (xB x bd) s.heap s.heap [] := va_S.rf
  have hI := hJ.1
  have hv24 := hJ.2.1
  have hpl := hJ.2.2.1
  have hS9 := hpl.w
  have hG2 := hI.ng2
  have hC8 := hI.nc8
  have hb0 := hΦ.2
  obtain ⟨pf, f2, f3, f4, f5, f6, hP, hps, hX⟩ := hΦ.1
  obtain ⟨cs, ns, se, wi, al, re, gi, ps, ss, vs, hQ, hR, hC, hE, hT⟩ := (show sD D y bd (x + 1) d ca pa pk s.heap from hX.1)
  obtain ⟨hvn, hg200⟩ := rom_2 hrm
  refine lv_aload_n hx hb dX4_apply_0 rfl (lv_at hl 0 rfl) ?_
  refine z_get (fs := [.ref (x + 1), .ref (x + 12), .ref (x + 23), .int (nI k), .ref (x + 24)]) (ref := "CranePermits") (C := RX4) (T := TX4) (N := 5) (ci := 4) (v := .ref (x + 1)) hx hb hts i_c_X4_apply_ok_X4 hown hK (hP 0 _ rfl) 0 (by decide) rfl (hts (.fieldLink RX4 10 "CranePermits" "now" "LCranePermits$Site;") (List.mem_of_getElem? (i := 1) rfl)) rfl rfl dX4_apply_1 ?_
  refine lv_iload_n hx hb dX4_apply_4 rfl (lv_at hl 1 rfl) ?_
  refine z_callV (As := [.int (nI c)]) (rest := []) hF hK (c_X2_craneAt_in l D y bd (x + 1) d ca pa pk c (hI) (hv24) (by omega)) (cwV 1 hts gX4_apply_X2_craneAt rfl rfl rfl (by decide +kernel) ⟨Nat.le_of_ble_eq_true rfl, Nat.le_of_ble_eq_true rfl⟩) (sD_recv hK hX.1) hX.1 rfl hl.1 rfl (Nat.le_of_ble_eq_true rfl) dX4_apply_5 ⟨Nat.le_of_ble_eq_true rfl, Nat.le_of_ble_eq_true rfl⟩ ?_
  refine lv_astore (lv' := [(5, .ref (ca c)), (0, .ref x), (1, .int (nI c)), (2, .int (nI n)), (3, .int h), (4, .int sw)]) hx hb dX4_apply_8 hl (by decide) rfl (fun ls hl => ?_)
  refine lv_aload hx hb dX4_apply_10 (lv_at hl 0 rfl) ?_
  refine lv_ifnull hx hb dX4_apply_12 ?_
  refine lv_iload_n hx hb dX4_apply_15 rfl (lv_at hl 3 rfl) ?_
  refine lv_iload_n hx hb dX4_apply_16 rfl (lv_at hl 4 rfl) ?_
  refine lv_iload hx hb dX4_apply_17 (lv_at hl 5 rfl) ?_
  refine z_callS (As := [.int (nI n), .int h, .int sw]) (rest := []) hF hK (c_X4_isPlan l D y (nI n) h sw ) (va_cwS 3 hts gX4_apply_X4_isPlan rfl rfl rfl (by decide +kernel) ⟨Nat.le_of_ble_eq_true rfl, Nat.le_of_ble_eq_true rfl⟩) trivial rfl hl.1 rfl (Nat.le_of_ble_eq_true rfl) dX4_apply_19 ⟨Nat.le_of_ble_eq_true rfl, Nat.le_of_ble_eq_true rfl⟩ ?_
  refine z_ifne (tgt := 29) hx hb dX4_apply_22 (by decide) (fun c22 => ?_) (fun c22 => ?_)
  · refine lv_aload_n hx hb dX4_apply_29 rfl (lv_at hl 1 rfl) ?_
    refine z_get (fs := [.ref (x + 1), .ref (x + 12), .ref (x + 23), .int (nI k), .ref (x + 24)]) (ref := "CranePermits") (C := RX4) (T := TX4) (N := 5) (ci := 4) (v := .ref (x + 1)) hx hb hts i_c_X4_apply_ok_X4 hown hK (hP 0 _ rfl) 0 (by decide) rfl (hts (.fieldLink RX4 10 "CranePermits" "now" "LCranePermits$Site;") (List.mem_of_getElem? (i := 1) rfl)) rfl rfl dX4_apply_30 ?_
    refine lv_aload hx hb dX4_apply_33 (lv_at hl 0 rfl) ?_
    refine lv_iload_n hx hb dX4_apply_35 rfl (lv_at hl 3 rfl) ?_
    refine lv_iload_n hx hb dX4_apply_36 rfl (lv_at hl 4 rfl) ?_
    refine lv_iload hx hb dX4_apply_37 (lv_at hl 5 rfl) ?_
    refine z_callV (As := [.ref (ca c), .int (nI n), .int h, .int sw]) (rest := []) hF hK (c_X2_refusalOf l D y bd (x + 1) d ca pa pk (ca c) c n h sw (hI) (hv24) (by omega) (by omega) (sw_of (plan_3 hpn).2.2) (hS9)) (cwV 4 hts gX4_apply_X2_refusalOf rfl rfl rfl (by decide +kernel) ⟨Nat.le_of_ble_eq_true rfl, Nat.le_of_ble_eq_true rfl⟩) (sD_recv hK hX.1) ⟨hX.1, (hC c (by omega)).2⟩ rfl hl.1 rfl (Nat.le_of_ble_eq_true rfl) dX4_apply_39 ⟨Nat.le_of_ble_eq_true rfl, Nat.le_of_ble_eq_true rfl⟩ ?_
    refine lv_if_eq (tgt := 49) hx hb dX4_apply_42 (by decide) (fun c42 => ?_) (fun c42 => ?_)
    · refine lv_aload_n hx hb dX4_apply_49 rfl (lv_at hl 1 rfl) ?_
      refine z_get (fs := [.ref (x + 1), .ref (x + 12), .ref (x + 23), .int (nI k), .ref (x + 24)]) (ref := "CranePermits") (C := RX4) (T := TX4) (N := 5) (ci := 4) (v := .ref (x + 1)) hx hb hts i_c_X4_apply_ok_X4 hown hK (hP 0 _ rfl) 0 (by decide) rfl (hts (.fieldLink RX4 10 "CranePermits" "now" "LCranePermits$Site;") (List.mem_of_getElem? (i := 1) rfl)) rfl rfl dX4_apply_50 ?_
      refine z_callV (As := []) (rest := []) hF hK (c_X2_hasRoom l D y bd (x + 1) d ca pa pk (hI) (hv24)) (cwV 0 hts gX4_apply_X2_hasRoom rfl rfl rfl (by decide +kernel) ⟨Nat.le_of_ble_eq_true rfl, Nat.le_of_ble_eq_true rfl⟩) (sD_recv hK hX.1) hX.1 rfl hl.1 rfl (Nat.le_of_ble_eq_true rfl) dX4_apply_53 ⟨Nat.le_of_ble_eq_true rfl, Nat.le_of_ble_eq_true rfl⟩ ?_
      refine z_ifne (tgt := 63) hx hb dX4_apply_56 (by decide) (fun c56 => ?_) (fun c56 => ?_)
      · refine lv_aload_n hx hb dX4_apply_63 rfl (lv_at hl 1 rfl) ?_
        refine w_callV (As := []) (rest := []) hF hK (c_X4_remember l D y x bd d ca pa pk T P k rot len ts tn tx (hJ) (hk4) (hbd)) (cwV 0 hts gX4_apply_X4_remember rfl rfl rfl (by decide +kernel) ⟨Nat.le_of_ble_eq_true rfl, Nat.le_of_ble_eq_true rfl⟩) (z_recv (q := (RX4, TX4, 5)) hK (hP 0 _ rfl) rfl) ⟨_, _, _, _, _, _, hP, hps, hX⟩ hS (fun q h => h) rfl hl.1 rfl (Nat.le_of_ble_eq_true rfl) dX4_apply_64 ⟨Nat.le_of_ble_eq_true rfl, Nat.le_of_ble_eq_true rfl⟩ (fun H1 locs1 hq hz1 hk hS => ?_)
        clear hP hX hps
        obtain ⟨pf, f2, f3, f4, f5, f6, hP, hps, hX⟩ := hq
        clear hz1 hk
        obtain ⟨cs, ns, se, wi, al, re, gi, ps, ss, vs, hQ, hR, hC, hE, hT⟩ := (show sD D y bd (x + 1) d ca pa pk H1 from hX.1)
        have hbH : bd ≤ H1.size := Nat.le_trans hb0 hS.1
        have hXo := hX
        have hPo := hP
        refine y_new (a := H1.size) (C := RX1) (T := TX1) (N := 7) (ci := 1) (fs := [.int 0, .null, .int 0, .int 0, .int 0, .int 0, .int 0]) hx hb hts i_c_X4_apply_ok_X1 tyX1 tyX1_ok hown (hts (.classLink RX4 203 RX1) (List.mem_of_getElem? (i := 2) rfl)) (hts (.instantiable RX1 7) (List.mem_of_getElem? (i := 3) rfl)) (hts (.initialized RX1) (List.mem_of_getElem? (i := 4) rfl)) hK rfl (fun j hj => by rcases (show j = 0 ∨ j = 1 ∨ j = 2 ∨ j = 3 ∨ j = 4 ∨ j = 5 ∨ j = 6 by omega) with rfl | rfl | rfl | rfl | rfl | rfl | rfl <;> rfl) rfl (by decide) (by decide) dX4_apply_67 (fun H2 hz1 hk hV => ?_)
        have hS := hS.grow hz1 hk
        have hP := xW7_grow hP hk
        have hX := hX.grow hk
        obtain ⟨cs, ns, se, wi, al, re, gi, ps, ss, vs, hQ, hR, hC, hE, hT⟩ := (show sD D y bd (x + 1) d ca pa pk H2 from hX.1)
        refine lv_dup hx hb dX4_apply_70 rfl ?_
        refine lv_aload_n hx hb dX4_apply_71 rfl (lv_at hl 1 rfl) ?_
        refine z_get (fs := [.ref (x + 1), .ref (x + 12), .ref (x + 23), .int (nI (recN k)), .ref (x + 24)]) (ref := "CranePermits") (C := RX4) (T := TX4) (N := 5) (ci := 4) (v := .ref (x + 1)) hx hb hts i_c_X4_apply_ok_X4 hown hK (hP 0 _ rfl) 0 (by decide) rfl (hts (.fieldLink RX4 10 "CranePermits" "now" "LCranePermits$Site;") (List.mem_of_getElem? (i := 1) rfl)) rfl rfl dX4_apply_72 ?_
        refine z_get (fs := [.ref ((x + 1) + 1), .int (nI (nC d)), .ref ((x + 1) + 2), .ref ((x + 1) + 3), .ref ((x + 1) + 4), .ref ((x + 1) + 5), .ref ((x + 1) + 6), .ref ((x + 1) + 7), .ref ((x + 1) + 8), .int (nI (nG d)), .ref ((x + 1) + 9), .ref ((x + 1) + 10), .int (nI (vn d))]) (ref := "CranePermits$Site") (C := RX2) (T := TX2) (N := 13) (ci := 2) (v := .int (nI (nG d))) hx hb hts i_c_X4_apply_ok_X2 hown hK (hQ 0 _ rfl) 9 (by decide) rfl (hts (.fieldLink RX4 155 "CranePermits$Site" "permitCount" "I") (List.mem_of_getElem? (i := 5) rfl)) rfl rfl dX4_apply_75 ?_
        refine lv_aload hx hb dX4_apply_78 (lv_at hl 0 rfl) ?_
        refine lv_iload_n hx hb dX4_apply_80 rfl (lv_at hl 3 rfl) ?_
        refine lv_iload_n hx hb dX4_apply_81 rfl (lv_at hl 4 rfl) ?_
        refine lv_iload hx hb dX4_apply_82 (lv_at hl 5 rfl) ?_
        refine w_callI (b := H1.size) (As := [.int (nI (nG d)), .ref (ca c), .int (nI n), .int h, .int sw]) (rest := [.ref H1.size]) hF hK (c_X1_init l D y H1.size (nG d) (ca c) (nI n) h sw ) (cwI 5 hts gX4_apply_X1_init rfl rfl rfl (hts (.initialized RX1) (List.mem_of_getElem? (i := 4) rfl)) (hts (.methodLink RX4 205 yX1_init) (List.mem_of_getElem? (i := 147) rfl)) (hts (.instanceMethod yX1_init) (List.mem_of_getElem? (i := 148) rfl)) rfl (by decide +kernel) ⟨Nat.le_of_ble_eq_true rfl, Nat.le_of_ble_eq_true rfl⟩) ⟨z_one hV, hz1⟩ hS (fun q h => xb_n hbH h) rfl hl.1 rfl (Nat.le_of_ble_eq_true rfl) dX4_apply_84 ⟨Nat.le_of_ble_eq_true rfl, Nat.le_of_ble_eq_true rfl⟩ (fun H3 locs1 hq hz2 hk2 hS => ?_)
        have hk3 : ∀ q : Nat, q < H1.size → H3[q]? = H1[q]? := fun q h => (hk2 q (by rw [hz1]; exact Nat.lt_succ_of_lt h) (nblk (Or.inl h))).trans (hk q h)
        have hP := xW7_grow hPo hk3
        have hX := hXo.grow hk3
        obtain ⟨cs, ns, se, wi, al, re, gi, ps, ss, vs, hQ, hR, hC, hE, hT⟩ := (show sD D y bd (x + 1) d ca pa pk H3 from hX.1)
        have hpe : peA D y H1.size (nG d) (ca c) (graD d c n h sw) H3 := gra_pe hI hg200 hc hq.1 (hC _ hc).2
        clear hPo hXo hz1 hz2 hk hk2 hk3 hV hq
        refine lv_astore (lv' := [(6, .ref H1.size), (5, .ref (ca c)), (0, .ref x), (1, .int (nI c)), (2, .int (nI n)), (3, .int h), (4, .int sw)]) hx hb dX4_apply_87 hl (by decide) rfl (fun ls hl => ?_)
        refine lv_aload_n hx hb dX4_apply_89 rfl (lv_at hl 2 rfl) ?_
        refine z_get (fs := [.ref (x + 1), .ref (x + 12), .ref (x + 23), .int (nI (recN k)), .ref (x + 24)]) (ref := "CranePermits") (C := RX4) (T := TX4) (N := 5) (ci := 4) (v := .ref (x + 1)) hx hb hts i_c_X4_apply_ok_X4 hown hK (hP 0 _ rfl) 0 (by decide) rfl (hts (.fieldLink RX4 10 "CranePermits" "now" "LCranePermits$Site;") (List.mem_of_getElem? (i := 1) rfl)) rfl rfl dX4_apply_90 ?_
        refine lv_aload hx hb dX4_apply_93 (lv_at hl 0 rfl) ?_
        refine w_callV (As := [.ref H1.size]) (rest := []) hF hK (c_X2_grant l D y bd (x + 1) d ca pa pk H1.size (ca c) (graD d c n h sw) (hI) (hv24) (by omega) (hg200) (hvn) (hbH) ((hC _ hc).1) (gra_H hI)) (cwV 1 hts gX4_apply_X2_grant rfl rfl rfl (by decide +kernel) ⟨Nat.le_of_ble_eq_true rfl, Nat.le_of_ble_eq_true rfl⟩) (sD_recv hK hX.1) ⟨hX.1, hpe⟩ hS (fun q h => xb_b (by omega) (by omega) h) rfl hl.1 rfl (Nat.le_of_ble_eq_true rfl) dX4_apply_95 ⟨Nat.le_of_ble_eq_true rfl, Nat.le_of_ble_eq_true rfl⟩ (fun H4 locs1 hq hz1 hk hS => ?_)
        have hP := xW7_k hP hk nA_N
        have hX := hX.setN hbd hk (show sP D y bd (x + 1) (graD d c n h sw, ca, va_up pa (nG d) H1.size, va_up pk (nG d) (ca c)) H4 from hq)
        have hpe := hpe.1.kept (hk _ hpe.1.lt (nblk (by omega)))
        clear hq hz1 hk
        refine lv_aload hx hb dX4_apply_98 (lv_at hl 0 rfl) ?_
        refine z_get (fs := [.int (nI (nG d)), .ref (ca c), .int (pm (graD d c n h sw) (nG d) 1), .int (pm (graD d c n h sw) (nG d) 2), .int (pm (graD d c n h sw) (nG d) 2 / nI 10), .int (pm (graD d c n h sw) (nG d) 2 - pm (graD d c n h sw) (nG d) 2 / nI 10 * nI 10), .int (pm (graD d c n h sw) (nG d) 3)]) (ref := "CranePermits$Permit") (C := RX1) (T := TX1) (N := 7) (ci := 1) (v := .int (nI (nG d))) hx hb hts i_c_X4_apply_ok_X1 hown hK hpe 0 (by decide) rfl (hts (.fieldLink RX4 212 "CranePermits$Permit" "number" "I") (List.mem_of_getElem? (i := 6) rfl)) rfl rfl dX4_apply_100 ?_
        exact w_reti hx hb hr hlocks hS (⟨_, _, _, _, _, _, _, hP, hps, hX⟩) (rfl) dX4_apply_103
      · exact absurd hrm (bf c56)
    · exact absurd (by rw [hr0]; decide) c42
  · exact absurd hpn (bf c22)
