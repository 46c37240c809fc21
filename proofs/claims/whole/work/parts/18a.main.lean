/-! THE CLASS: refusals -/
theorem i_c_X4_crane_no_X4 : ∀ w ∈ wsX40, w ∈ wsX4_crane := fun w h => (List.mem_cons_of_mem _ (List.mem_append_left _ (List.mem_append_left _ (List.mem_append_right _ h))))
theorem i_c_X4_crane_no_X2 : ∀ w ∈ wsX20, w ∈ wsX4_crane := fun w h => (List.mem_cons_of_mem _ (List.mem_append_left _ (List.mem_append_right _ h)))
set_option maxRecDepth 100000 in
set_option maxHeartbeats 4000000 in
theorem c_X4_crane_no (l : Launch) (D : va_G) (y : zY) (x : Nat) (bd : Nat) (d : Nat → Int32) (ca : Nat → Nat) (pa : Nat → Nat) (pk : Nat → Nat) (k : Nat) (len : Nat) (tf : Nat → Int32) (u : Int32) (z : Int32) (r : Int32) (h : Int32) (sg : Int32) (no : Int32) (hJ : rJ d) (hk4 : k ≤ 4) (hl80 : len ≤ 80) (hno : ¬ (okCr u z r h sg no = true ∧ hasC d u z = false ∧ nC d < 8)) : Met l yX4_crane wsX4_crane ({ frames := 2, cells := 0, slots := 0, locals := 46 }) (zP [.ref x, .int u, .int z, .int r, .int h, .int sg, .int no] (fun H => clR D y x bd d ca pa pk k len tf H) D y) (zQ (some (.int (eCrane d u z r h sg no)))) 0 0 nofree := by
  refine z_body (cc := cX4_crane) (maxL := 8) (ret := (some .int)) (la := [(0, .ref x), (1, .int u), (2, .int z), (3, .int r), (4, .int h), (5, .int sg), (6, .int no)]) (by decide) rfl (Nat.le_of_ble_eq_true rfl) rfl ?_
  intro pg ev s mm below meth c0 ls hx hb hr hF hlocks hΦ hK hl _
  have hts := hF.2.2.2.2
  have hown : s.vm.findClass RX4 = some mm.cls := hF.2.2.2.1
  have hI := hJ.1
  have hv24 := hJ.2.1
  have hpl := hJ.2.2.1
  have hS := hpl.w
  have hG2 := hI.ng2
  have hC8 := hI.nc8
  have hS0 := hΦ.2.2
  obtain ⟨cs, ns, se, wi, al, re, gi, ps, ss, vs, hP, hR, hC, hE, hT⟩ := hS0
  refine lv_iload_n hx hb dX4_crane_0 rfl (lv_at hl 1 rfl) ?_
  refine lv_iload_n hx hb dX4_crane_1 rfl (lv_at hl 2 rfl) ?_
  refine z_callS (As := [.int u, .int z]) (rest := []) hF hK (c_X4_isCell l D y u z ) (va_cwS 2 hts gX4_crane_X4_isCell rfl rfl rfl (by decide +kernel) ⟨Nat.le_of_ble_eq_true rfl, Nat.le_of_ble_eq_true rfl⟩) trivial rfl hl.1 rfl (Nat.le_of_ble_eq_true rfl) dX4_crane_2 ⟨Nat.zero_le _, Nat.zero_le _⟩ ?_
  refine z_ifeq (tgt := 49) hx hb dX4_crane_5 (by decide) (fun c5 => ?_) (fun c5 => ?_)
  · refine lv_sipush (v := (-1001)) hx hb dX4_crane_49 (by decide) ?_
    exact z_reti hx hb hr hlocks rfl (by unfold eCrane; rw [if_neg (show ¬ okCr u z r h sg no = true from bf (by unfold okCr; rw [← Bool.and_assoc]; first | (rw [c5]; rfl) | (rw [c5, c15]; rfl) | (rw [c5, c15, c27]; rfl) | (rw [c5, c15, c27, c35]; rfl) | (rw [c5, c15, c27, c35, c46]; rfl)))]) dX4_crane_52
  · refine lv_iload_n hx hb dX4_crane_8 rfl (lv_at hl 3 rfl) ?_
    refine lv_iconst (v := (nI 1)) hx hb dX4_crane_9 (by decide) ?_
    refine lv_bipush (v := (nI 8)) hx hb dX4_crane_10 (by decide) ?_
    refine z_callS (As := [.int r, .int (nI 1), .int (nI 8)]) (rest := []) hF hK (c_X4_isIn l D y r (nI 1) (nI 8) ) (va_cwS 3 hts gX4_crane_X4_isIn rfl rfl rfl (by decide +kernel) ⟨Nat.le_of_ble_eq_true rfl, Nat.le_of_ble_eq_true rfl⟩) trivial rfl hl.1 rfl (Nat.le_of_ble_eq_true rfl) dX4_crane_12 ⟨Nat.zero_le _, Nat.zero_le _⟩ ?_
    refine z_ifeq (tgt := 49) hx hb dX4_crane_15 (by decide) (fun c15 => ?_) (fun c15 => ?_)
    · refine lv_sipush (v := (-1001)) hx hb dX4_crane_49 (by decide) ?_
      exact z_reti hx hb hr hlocks rfl (by unfold eCrane; rw [if_neg (show ¬ okCr u z r h sg no = true from bf (by unfold okCr; rw [← Bool.and_assoc]; first | (rw [c5]; rfl) | (rw [c5, c15]; rfl) | (rw [c5, c15, c27]; rfl) | (rw [c5, c15, c27, c35]; rfl) | (rw [c5, c15, c27, c35, c46]; rfl)))]) dX4_crane_52
    · refine lv_iload hx hb dX4_crane_18 (lv_at hl 4 rfl) ?_
      refine lv_bipush (v := (nI 10)) hx hb dX4_crane_20 (by decide) ?_
      refine lv_bipush (v := (nI 99)) hx hb dX4_crane_22 (by decide) ?_
      refine z_callS (As := [.int h, .int (nI 10), .int (nI 99)]) (rest := []) hF hK (c_X4_isIn l D y h (nI 10) (nI 99) ) (va_cwS 3 hts gX4_crane_X4_isIn rfl rfl rfl (by decide +kernel) ⟨Nat.le_of_ble_eq_true rfl, Nat.le_of_ble_eq_true rfl⟩) trivial rfl hl.1 rfl (Nat.le_of_ble_eq_true rfl) dX4_crane_24 ⟨Nat.zero_le _, Nat.zero_le _⟩ ?_
      refine z_ifeq (tgt := 49) hx hb dX4_crane_27 (by decide) (fun c27 => ?_) (fun c27 => ?_)
      · refine lv_sipush (v := (-1001)) hx hb dX4_crane_49 (by decide) ?_
        exact z_reti hx hb hr hlocks rfl (by unfold eCrane; rw [if_neg (show ¬ okCr u z r h sg no = true from bf (by unfold okCr; rw [← Bool.and_assoc]; first | (rw [c5]; rfl) | (rw [c5, c15]; rfl) | (rw [c5, c15, c27]; rfl) | (rw [c5, c15, c27, c35]; rfl) | (rw [c5, c15, c27, c35, c46]; rfl)))]) dX4_crane_52
      · refine lv_iload hx hb dX4_crane_30 (lv_at hl 5 rfl) ?_
        refine z_callS (As := [.int sg]) (rest := []) hF hK (c_X4_isStreet l D y sg ) (va_cwS 1 hts gX4_crane_X4_isStreet rfl rfl rfl (by decide +kernel) ⟨Nat.le_of_ble_eq_true rfl, Nat.le_of_ble_eq_true rfl⟩) trivial rfl hl.1 rfl (Nat.le_of_ble_eq_true rfl) dX4_crane_32 ⟨Nat.zero_le _, Nat.zero_le _⟩ ?_
        refine z_ifeq (tgt := 49) hx hb dX4_crane_35 (by decide) (fun c35 => ?_) (fun c35 => ?_)
        · refine lv_sipush (v := (-1001)) hx hb dX4_crane_49 (by decide) ?_
          exact z_reti hx hb hr hlocks rfl (by unfold eCrane; rw [if_neg (show ¬ okCr u z r h sg no = true from bf (by unfold okCr; rw [← Bool.and_assoc]; first | (rw [c5]; rfl) | (rw [c5, c15]; rfl) | (rw [c5, c15, c27]; rfl) | (rw [c5, c15, c27, c35]; rfl) | (rw [c5, c15, c27, c35, c46]; rfl)))]) dX4_crane_52
        · refine lv_iload hx hb dX4_crane_38 (lv_at hl 6 rfl) ?_
          refine lv_iconst (v := (nI 1)) hx hb dX4_crane_40 (by decide) ?_
          refine lv_bipush (v := (nI 9)) hx hb dX4_crane_41 (by decide) ?_
          refine z_callS (As := [.int no, .int (nI 1), .int (nI 9)]) (rest := []) hF hK (c_X4_isIn l D y no (nI 1) (nI 9) ) (va_cwS 3 hts gX4_crane_X4_isIn rfl rfl rfl (by decide +kernel) ⟨Nat.le_of_ble_eq_true rfl, Nat.le_of_ble_eq_true rfl⟩) trivial rfl hl.1 rfl (Nat.le_of_ble_eq_true rfl) dX4_crane_43 ⟨Nat.zero_le _, Nat.zero_le _⟩ ?_
          refine z_ifne (tgt := 53) hx hb dX4_crane_46 (by decide) (fun c46 => ?_) (fun c46 => ?_)
          · refine lv_aload_n hx hb dX4_crane_53 rfl (lv_at hl 0 rfl) ?_
            refine z_get (fs := [.ref (x + 1), .ref (x + 12), .ref (x + 23), .int (nI k), .ref (x + 24)]) (ref := "CranePermits") (C := RX4) (T := TX4) (N := 5) (ci := 4) (v := .ref (x + 1)) hx hb hts i_c_X4_crane_no_X4 hown hK hΦ.1 0 (by decide) rfl (hts (.fieldLink RX4 10 "CranePermits" "now" "LCranePermits$Site;") (List.mem_of_getElem? (i := 1) rfl)) rfl rfl dX4_crane_54 ?_
            refine lv_iload_n hx hb dX4_crane_57 rfl (lv_at hl 1 rfl) ?_
            refine lv_iload_n hx hb dX4_crane_58 rfl (lv_at hl 2 rfl) ?_
            refine z_callV (As := [.int u, .int z]) (rest := []) hF hK (c_X2_hasCraneIn l D y bd (x + 1) d ca pa pk u z (hI) (hv24)) (cwV 2 hts gX4_crane_X2_hasCraneIn rfl rfl rfl (by decide +kernel) ⟨Nat.le_of_ble_eq_true rfl, Nat.le_of_ble_eq_true rfl⟩) (z_recv (q := (RX2, TX2, 13)) hK (hP 0 _ rfl) rfl) hΦ.2.2 rfl hl.1 rfl (Nat.le_of_ble_eq_true rfl) dX4_crane_59 ⟨Nat.zero_le _, Nat.zero_le _⟩ ?_
            refine z_ifeq (tgt := 69) hx hb dX4_crane_62 (by decide) (fun c62 => ?_) (fun c62 => ?_)
            · refine lv_aload_n hx hb dX4_crane_69 rfl (lv_at hl 0 rfl) ?_
              refine z_get (fs := [.ref (x + 1), .ref (x + 12), .ref (x + 23), .int (nI k), .ref (x + 24)]) (ref := "CranePermits") (C := RX4) (T := TX4) (N := 5) (ci := 4) (v := .ref (x + 1)) hx hb hts i_c_X4_crane_no_X4 hown hK hΦ.1 0 (by decide) rfl (hts (.fieldLink RX4 10 "CranePermits" "now" "LCranePermits$Site;") (List.mem_of_getElem? (i := 1) rfl)) rfl rfl dX4_crane_70 ?_
              refine z_get (fs := [.ref ((x + 1) + 1), .int (nI (nC d)), .ref ((x + 1) + 2), .ref ((x + 1) + 3), .ref ((x + 1) + 4), .ref ((x + 1) + 5), .ref ((x + 1) + 6), .ref ((x + 1) + 7), .ref ((x + 1) + 8), .int (nI (nG d)), .ref ((x + 1) + 9), .ref ((x + 1) + 10), .int (nI (vn d))]) (ref := "CranePermits$Site") (C := RX2) (T := TX2) (N := 13) (ci := 2) (v := .int (nI (nC d))) hx hb hts i_c_X4_crane_no_X2 hown hK (hP 0 _ rfl) 1 (by decide) rfl (hts (.fieldLink RX4 49 "CranePermits$Site" "craneCount" "I") (List.mem_of_getElem? (i := 2) rfl)) rfl rfl dX4_crane_73 ?_
              refine lv_bipush (v := (nI 8)) hx hb dX4_crane_76 (by decide) ?_
              refine z_lt (tgt := 85) hx hb (by omega) (by omega) dX4_crane_78 (by decide) (fun c78 => ?_) (fun c78 => ?_)
              · exfalso
                exact hno ⟨by unfold okCr; rw [← Bool.and_assoc, c5, c15, c27, c35, c46]; rfl, c62, c78⟩
              · refine lv_sipush (v := (-1003)) hx hb dX4_crane_81 (by decide) ?_
                exact z_reti hx hb hr hlocks rfl (by unfold eCrane; rw [if_pos (show okCr u z r h sg no = true by unfold okCr; rw [← Bool.and_assoc, c5, c15, c27, c35, c46]; rfl), if_neg (bf c62)]) dX4_crane_84
            · refine lv_sipush (v := (-1002)) hx hb dX4_crane_65 (by decide) ?_
              exact z_reti hx hb hr hlocks rfl (by unfold eCrane; rw [if_pos (show okCr u z r h sg no = true by unfold okCr; rw [← Bool.and_assoc, c5, c15, c27, c35, c46]; rfl), if_pos c62]) dX4_crane_68
          · refine lv_sipush (v := (-1001)) hx hb dX4_crane_49 (by decide) ?_
            exact z_reti hx hb hr hlocks rfl (by unfold eCrane; rw [if_neg (show ¬ okCr u z r h sg no = true from bf (by unfold okCr; rw [← Bool.and_assoc]; first | (rw [c5]; rfl) | (rw [c5, c15]; rfl) | (rw [c5, c15, c27]; rfl) | (rw [c5, c15, c27, c35]; rfl) | (rw [c5, c15, c27, c35, c46]; rfl)))]) dX4_crane_52
theorem i_c_X4_noise_no_X4 : ∀ w ∈ wsX40, w ∈ wsX4_noise := fun w h => (List.mem_cons_of_mem _ (List.mem_append_left _ (List.mem_append_left _ (List.mem_append_left _ (List.mem_append_right _ h)))))
set_option maxRecDepth 100000 in
set_option maxHeartbeats 4000000 in
theorem c_X4_noise_no (l : Launch) (D : va_G) (y : zY) (x : Nat) (bd : Nat) (d : Nat → Int32) (ca : Nat → Nat) (pa : Nat → Nat) (pk : Nat → Nat) (k : Nat) (len : Nat) (tf : Nat → Int32) (c : Int32) (v : Int32) (hJ : rJ d) (hk4 : k ≤ 4) (hl80 : len ≤ 80) (hno : ¬ (inB c (nI 0) (d 0 - nI 1) = true ∧ inB v (nI 1) (nI 9) = true)) : Met l yX4_noise wsX4_noise ({ frames := 1, cells := 0, slots := 0, locals := 22 }) (zP [.ref x, .int c, .int v] (fun H => clR D y x bd d ca pa pk k len tf H) D y) (zQ (some (.int (-1001)))) 0 0 nofree := by
  refine z_body (cc := cX4_noise) (maxL := 4) (ret := (some .int)) (la := [(0, .ref x), (1, .int c), (2, .int v)]) (by decide) rfl (Nat.le_of_ble_eq_true rfl) rfl ?_
  intro pg ev s mm below meth c0 ls hx hb hr hF hlocks hΦ hK hl _
  have hts := hF.2.2.2.2
  have hown : s.vm.findClass RX4 = some mm.cls := hF.2.2.2.1
  have hI := hJ.1
  have hv24 := hJ.2.1
  have hpl := hJ.2.2.1
  have hS := hpl.w
  have hG2 := hI.ng2
  have hC8 := hI.nc8
  have hS0 := hΦ.2.2
  obtain ⟨cs, ns, se, wi, al, re, gi, ps, ss, vs, hP, hR, hC, hE, hT⟩ := hS0
  refine lv_aload_n hx hb dX4_noise_0 rfl (lv_at hl 0 rfl) ?_
  refine z_get (fs := [.ref (x + 1), .ref (x + 12), .ref (x + 23), .int (nI k), .ref (x + 24)]) (ref := "CranePermits") (C := RX4) (T := TX4) (N := 5) (ci := 4) (v := .ref (x + 1)) hx hb hts i_c_X4_noise_no_X4 hown hK hΦ.1 0 (by decide) rfl (hts (.fieldLink RX4 10 "CranePermits" "now" "LCranePermits$Site;") (List.mem_of_getElem? (i := 1) rfl)) rfl rfl dX4_noise_1 ?_
  refine lv_iload_n hx hb dX4_noise_4 rfl (lv_at hl 1 rfl) ?_
  rcases Bool.eq_false_or_eq_true (inB c (nI 0) (d 0 - nI 1)) with c5 | c5
  · obtain ⟨j, hj, rfl⟩ := in_nc hI c5
    have ej : cl (nI j) = j := cl_nI (by omega)
    refine z_callV (As := [.int (nI j)]) (rest := []) hF hK (c_X2_craneAt_in l D y bd (x + 1) d ca pa pk j (hI) (hv24) (by omega)) (cwV 1 hts gX4_noise_X2_craneAt rfl rfl rfl (by decide +kernel) ⟨Nat.le_of_ble_eq_true rfl, Nat.le_of_ble_eq_true rfl⟩) (z_recv (q := (RX2, TX2, 13)) hK (hP 0 _ rfl) rfl) hΦ.2.2 rfl hl.1 rfl (Nat.le_of_ble_eq_true rfl) dX4_noise_5 ⟨Nat.zero_le _, Nat.zero_le _⟩ ?_
    refine lv_astore_n (lv' := [(3, .ref (ca j)), (0, .ref x), (1, .int (nI j)), (2, .int v)]) hx hb dX4_noise_8 rfl hl (by decide) rfl (fun ls hl => ?_)
    refine lv_aload_n hx hb dX4_noise_9 rfl (lv_at hl 0 rfl) ?_
    refine lv_ifnull hx hb dX4_noise_10 ?_
    refine lv_iload_n hx hb dX4_noise_13 rfl (lv_at hl 3 rfl) ?_
    refine lv_iconst (v := (nI 1)) hx hb dX4_noise_14 (by decide) ?_
    refine lv_bipush (v := (nI 9)) hx hb dX4_noise_15 (by decide) ?_
    refine z_callS (As := [.int v, .int (nI 1), .int (nI 9)]) (rest := []) hF hK (c_X4_isIn l D y v (nI 1) (nI 9) ) (va_cwS 3 hts gX4_noise_X4_isIn rfl rfl rfl (by decide +kernel) ⟨Nat.le_of_ble_eq_true rfl, Nat.le_of_ble_eq_true rfl⟩) trivial rfl hl.1 rfl (Nat.le_of_ble_eq_true rfl) dX4_noise_17 ⟨Nat.zero_le _, Nat.zero_le _⟩ ?_
    refine z_ifne (tgt := 27) hx hb dX4_noise_20 (by decide) (fun c20 => ?_) (fun c20 => ?_)
    · exact absurd ⟨c5, c20⟩ hno
    · refine lv_sipush (v := (-1001)) hx hb dX4_noise_23 (by decide) ?_
      exact z_reti hx hb hr hlocks rfl (rfl) dX4_noise_26
  · refine z_callV (As := [.int c]) (rest := []) hF hK (c_X2_craneAt_out l D y bd (x + 1) d ca pa pk c (hI) (hv24) (c5)) (cwV 1 hts gX4_noise_X2_craneAt rfl rfl rfl (by decide +kernel) ⟨Nat.le_of_ble_eq_true rfl, Nat.le_of_ble_eq_true rfl⟩) (z_recv (q := (RX2, TX2, 13)) hK (hP 0 _ rfl) rfl) hΦ.2.2 rfl hl.1 rfl (Nat.le_of_ble_eq_true rfl) dX4_noise_5 ⟨Nat.zero_le _, Nat.zero_le _⟩ ?_
    refine lv_astore_nN (lv' := [(3, .null), (0, .ref x), (1, .int c), (2, .int v)]) hx hb dX4_noise_8 rfl hl (by decide) rfl (fun ls hl => ?_)
    refine lv_aload_nN hx hb dX4_noise_9 rfl (lv_at hl 0 rfl) ?_
    refine lv_ifnullN (tgt := 23) hx hb dX4_noise_10 (by decide) ?_
    refine lv_sipush (v := (-1001)) hx hb dX4_noise_23 (by decide) ?_
    exact z_reti hx hb hr hlocks rfl (rfl) dX4_noise_26
set_option maxRecDepth 100000 in
set_option maxHeartbeats 4000000 in
theorem c_X4_wind_no (l : Launch) (D : va_G) (y : zY) (x : Nat) (bd : Nat) (d : Nat → Int32) (ca : Nat → Nat) (pa : Nat → Nat) (pk : Nat → Nat) (k : Nat) (len : Nat) (tf : Nat → Int32) (n : Int32) (v : Int32) (hJ : rJ d) (hk4 : k ≤ 4) (hl80 : len ≤ 80) (hno : ¬ (inB n (nI 0) (nI 29) = true ∧ inB v (nI 0) (nI 99) = true)) : Met l yX4_wind wsX4_wind ({ frames := 2, cells := 0, slots := 0, locals := 42 }) (zP [.ref x, .int n, .int v] (fun H => clR D y x bd d ca pa pk k len tf H) D y) (zQ (some (.int (-1001)))) 0 0 nofree := by
  refine z_body (cc := cX4_wind) (maxL := 3) (ret := (some .int)) (la := [(0, .ref x), (1, .int n), (2, .int v)]) (by decide) rfl (Nat.le_of_ble_eq_true rfl) rfl ?_
  intro pg ev s mm below meth c0 ls hx hb hr hF hlocks hΦ hK hl _
  have hts := hF.2.2.2.2
  have hown : s.vm.findClass RX4 = some mm.cls := hF.2.2.2.1
  have hI := hJ.1
  have hv24 := hJ.2.1
  have hpl := hJ.2.2.1
  have hS := hpl.w
  have hG2 := hI.ng2
  have hC8 := hI.nc8
  have hS0 := hΦ.2.2
  obtain ⟨cs, ns, se, wi, al, re, gi, ps, ss, vs, hP, hR, hC, hE, hT⟩ := hS0
  refine lv_iload_n hx hb dX4_wind_0 rfl (lv_at hl 1 rfl) ?_
  refine z_callS (As := [.int n]) (rest := []) hF hK (c_X4_isNight l D y n ) (va_cwS 1 hts gX4_wind_X4_isNight rfl rfl rfl (by decide +kernel) ⟨Nat.le_of_ble_eq_true rfl, Nat.le_of_ble_eq_true rfl⟩) trivial rfl hl.1 rfl (Nat.le_of_ble_eq_true rfl) dX4_wind_1 ⟨Nat.zero_le _, Nat.zero_le _⟩ ?_
  refine z_ifeq (tgt := 17) hx hb dX4_wind_4 (by decide) (fun c4 => ?_) (fun c4 => ?_)
  · refine lv_sipush (v := (-1001)) hx hb dX4_wind_17 (by decide) ?_
    exact z_reti hx hb hr hlocks rfl (rfl) dX4_wind_20
  · refine lv_iload_n hx hb dX4_wind_7 rfl (lv_at hl 2 rfl) ?_
    refine lv_iconst (v := (nI 0)) hx hb dX4_wind_8 (by decide) ?_
    refine lv_bipush (v := (nI 99)) hx hb dX4_wind_9 (by decide) ?_
    refine z_callS (As := [.int v, .int (nI 0), .int (nI 99)]) (rest := []) hF hK (c_X4_isIn l D y v (nI 0) (nI 99) ) (va_cwS 3 hts gX4_wind_X4_isIn rfl rfl rfl (by decide +kernel) ⟨Nat.le_of_ble_eq_true rfl, Nat.le_of_ble_eq_true rfl⟩) trivial rfl hl.1 rfl (Nat.le_of_ble_eq_true rfl) dX4_wind_11 ⟨Nat.zero_le _, Nat.zero_le _⟩ ?_
    refine z_ifne (tgt := 21) hx hb dX4_wind_14 (by decide) (fun c14 => ?_) (fun c14 => ?_)
    · exact absurd ⟨c4, c14⟩ hno
    · refine lv_sipush (v := (-1001)) hx hb dX4_wind_17 (by decide) ?_
      exact z_reti hx hb hr hlocks rfl (rfl) dX4_wind_20
set_option maxRecDepth 100000 in
set_option maxHeartbeats 4000000 in
theorem c_X4_allow_no (l : Launch) (D : va_G) (y : zY) (x : Nat) (bd : Nat) (d : Nat → Int32) (ca : Nat → Nat) (pa : Nat → Nat) (pk : Nat → Nat) (k : Nat) (len : Nat) (tf : Nat → Int32) (a : Int32) (n : Int32) (v : Int32) (hJ : rJ d) (hk4 : k ≤ 4) (hl80 : len ≤ 80) (hno : ¬ (inB a (nI 0) (nI 3) = true ∧ inB n (nI 0) (nI 29) = true ∧ inB v (nI 0) (nI 200) = true)) : Met l yX4_allow wsX4_allow ({ frames := 2, cells := 0, slots := 0, locals := 42 }) (zP [.ref x, .int a, .int n, .int v] (fun H => clR D y x bd d ca pa pk k len tf H) D y) (zQ (some (.int (-1001)))) 0 0 nofree := by
  refine z_body (cc := cX4_allow) (maxL := 4) (ret := (some .int)) (la := [(0, .ref x), (1, .int a), (2, .int n), (3, .int v)]) (by decide) rfl (Nat.le_of_ble_eq_true rfl) rfl ?_
  intro pg ev s mm below meth c0 ls hx hb hr hF hlocks hΦ hK hl _
  have hts := hF.2.2.2.2
  have hown : s.vm.findClass RX4 = some mm.cls := hF.2.2.2.1
  have hI := hJ.1
  have hv24 := hJ.2.1
  have hpl := hJ.2.2.1
  have hS := hpl.w
  have hG2 := hI.ng2
  have hC8 := hI.nc8
  have hS0 := hΦ.2.2
  obtain ⟨cs, ns, se, wi, al, re, gi, ps, ss, vs, hP, hR, hC, hE, hT⟩ := hS0
  refine lv_iload_n hx hb dX4_allow_0 rfl (lv_at hl 1 rfl) ?_
  refine z_callS (As := [.int a]) (rest := []) hF hK (c_X4_isStreet l D y a ) (va_cwS 1 hts gX4_allow_X4_isStreet rfl rfl rfl (by decide +kernel) ⟨Nat.le_of_ble_eq_true rfl, Nat.le_of_ble_eq_true rfl⟩) trivial rfl hl.1 rfl (Nat.le_of_ble_eq_true rfl) dX4_allow_1 ⟨Nat.zero_le _, Nat.zero_le _⟩ ?_
  refine z_ifeq (tgt := 25) hx hb dX4_allow_4 (by decide) (fun c4 => ?_) (fun c4 => ?_)
  · refine lv_sipush (v := (-1001)) hx hb dX4_allow_25 (by decide) ?_
    exact z_reti hx hb hr hlocks rfl (rfl) dX4_allow_28
  · refine lv_iload_n hx hb dX4_allow_7 rfl (lv_at hl 2 rfl) ?_
    refine z_callS (As := [.int n]) (rest := []) hF hK (c_X4_isNight l D y n ) (va_cwS 1 hts gX4_allow_X4_isNight rfl rfl rfl (by decide +kernel) ⟨Nat.le_of_ble_eq_true rfl, Nat.le_of_ble_eq_true rfl⟩) trivial rfl hl.1 rfl (Nat.le_of_ble_eq_true rfl) dX4_allow_8 ⟨Nat.zero_le _, Nat.zero_le _⟩ ?_
    refine z_ifeq (tgt := 25) hx hb dX4_allow_11 (by decide) (fun c11 => ?_) (fun c11 => ?_)
    · refine lv_sipush (v := (-1001)) hx hb dX4_allow_25 (by decide) ?_
      exact z_reti hx hb hr hlocks rfl (rfl) dX4_allow_28
    · refine lv_iload_n hx hb dX4_allow_14 rfl (lv_at hl 3 rfl) ?_
      refine lv_iconst (v := (nI 0)) hx hb dX4_allow_15 (by decide) ?_
      refine lv_sipush (v := (nI 200)) hx hb dX4_allow_16 (by decide) ?_
      refine z_callS (As := [.int v, .int (nI 0), .int (nI 200)]) (rest := []) hF hK (c_X4_isIn l D y v (nI 0) (nI 200) ) (va_cwS 3 hts gX4_allow_X4_isIn rfl rfl rfl (by decide +kernel) ⟨Nat.le_of_ble_eq_true rfl, Nat.le_of_ble_eq_true rfl⟩) trivial rfl hl.1 rfl (Nat.le_of_ble_eq_true rfl) dX4_allow_19 ⟨Nat.zero_le _, Nat.zero_le _⟩ ?_
      refine z_ifne (tgt := 29) hx hb dX4_allow_22 (by decide) (fun c22 => ?_) (fun c22 => ?_)
      · exact absurd ⟨c4, c11, c22⟩ hno
      · refine lv_sipush (v := (-1001)) hx hb dX4_allow_25 (by decide) ?_
        exact z_reti hx hb hr hlocks rfl (rfl) dX4_allow_28
theorem i_c_X4_transfer_no_X4 : ∀ w ∈ wsX40, w ∈ wsX4_transfer := fun w h => (List.mem_cons_of_mem _ (List.mem_append_left _ (List.mem_append_left _ (List.mem_append_left _ (List.mem_append_right _ h)))))
set_option maxRecDepth 100000 in
set_option maxHeartbeats 4000000 in
theorem c_X4_transfer_no (l : Launch) (D : va_G) (y : zY) (x : Nat) (bd : Nat) (d : Nat → Int32) (ca : Nat → Nat) (pa : Nat → Nat) (pk : Nat → Nat) (k : Nat) (len : Nat) (tf : Nat → Int32) (a : Int32) (b : Int32) (n : Int32) (c : Int32) (hJ : rJ d) (hk4 : k ≤ 4) (hl80 : len ≤ 80) (hno : ¬ (okTr a b n c = true ∧ 0 ≤ freI d (cl a) (cl n) - c)) : Met l yX4_transfer wsX4_transfer ({ frames := 4, cells := 0, slots := 0, locals := 90 }) (zP [.ref x, .int a, .int b, .int n, .int c] (fun H => clR D y x bd d ca pa pk k len tf H) D y) (zQ (some (.int (eIf (okTr a b n c) (-1002))))) 0 0 nofree := by
  refine z_body (cc := cX4_transfer) (maxL := 8) (ret := (some .int)) (la := [(0, .ref x), (1, .int a), (2, .int b), (3, .int n), (4, .int c)]) (by decide) rfl (Nat.le_of_ble_eq_true rfl) rfl ?_
  intro pg ev s mm below meth c0 ls hx hb hr hF hlocks hΦ hK hl _
  have hts := hF.2.2.2.2
  have hown : s.vm.findClass RX4 = some mm.cls := hF.2.2.2.1
  have hI := hJ.1
  have hv24 := hJ.2.1
  have hpl := hJ.2.2.1
  have hS := hpl.w
  have hG2 := hI.ng2
  have hC8 := hI.nc8
  have hS0 := hΦ.2.2
  obtain ⟨cs, ns, se, wi, al, re, gi, ps, ss, vs, hP, hR, hC, hE, hT⟩ := hS0
  refine lv_iload_n hx hb dX4_transfer_0 rfl (lv_at hl 1 rfl) ?_
  refine z_callS (As := [.int a]) (rest := []) hF hK (c_X4_isStreet l D y a ) (va_cwS 1 hts gX4_transfer_X4_isStreet rfl rfl rfl (by decide +kernel) ⟨Nat.le_of_ble_eq_true rfl, Nat.le_of_ble_eq_true rfl⟩) trivial rfl hl.1 rfl (Nat.le_of_ble_eq_true rfl) dX4_transfer_1 ⟨Nat.zero_le _, Nat.zero_le _⟩ ?_
  refine z_ifeq (tgt := 38) hx hb dX4_transfer_4 (by decide) (fun c4 => ?_) (fun c4 => ?_)
  · refine lv_sipush (v := (-1001)) hx hb dX4_transfer_38 (by decide) ?_
    exact z_reti hx hb hr hlocks rfl (by unfold eIf; rw [if_neg (bf _)]; unfold okTr; first | (rw [c4]; rfl) | (rw [c4, c11]; rfl) | (rw [c4, c11, decide_eq_true c16]; rfl) | (rw [c4, c11, c23, decide_eq_false c16]; rfl) | (rw [c4, c11, c23, c35, decide_eq_false c16]; rfl)) dX4_transfer_41
  · refine lv_iload_n hx hb dX4_transfer_7 rfl (lv_at hl 2 rfl) ?_
    refine z_callS (As := [.int b]) (rest := []) hF hK (c_X4_isStreet l D y b ) (va_cwS 1 hts gX4_transfer_X4_isStreet rfl rfl rfl (by decide +kernel) ⟨Nat.le_of_ble_eq_true rfl, Nat.le_of_ble_eq_true rfl⟩) trivial rfl hl.1 rfl (Nat.le_of_ble_eq_true rfl) dX4_transfer_8 ⟨Nat.zero_le _, Nat.zero_le _⟩ ?_
    refine z_ifeq (tgt := 38) hx hb dX4_transfer_11 (by decide) (fun c11 => ?_) (fun c11 => ?_)
    · refine lv_sipush (v := (-1001)) hx hb dX4_transfer_38 (by decide) ?_
      exact z_reti hx hb hr hlocks rfl (by unfold eIf; rw [if_neg (bf _)]; unfold okTr; first | (rw [c4]; rfl) | (rw [c4, c11]; rfl) | (rw [c4, c11, decide_eq_true c16]; rfl) | (rw [c4, c11, c23, decide_eq_false c16]; rfl) | (rw [c4, c11, c23, c35, decide_eq_false c16]; rfl)) dX4_transfer_41
    · refine lv_iload_n hx hb dX4_transfer_14 rfl (lv_at hl 1 rfl) ?_
      refine lv_iload_n hx hb dX4_transfer_15 rfl (lv_at hl 2 rfl) ?_
      refine lv_icmp_eq (tgt := 38) hx hb dX4_transfer_16 (by decide) (fun c16 => ?_) (fun c16 => ?_)
      · refine lv_sipush (v := (-1001)) hx hb dX4_transfer_38 (by decide) ?_
        exact z_reti hx hb hr hlocks rfl (by unfold eIf; rw [if_neg (bf _)]; unfold okTr; first | (rw [c4]; rfl) | (rw [c4, c11]; rfl) | (rw [c4, c11, decide_eq_true c16]; rfl) | (rw [c4, c11, c23, decide_eq_false c16]; rfl) | (rw [c4, c11, c23, c35, decide_eq_false c16]; rfl)) dX4_transfer_41
      · refine lv_iload_n hx hb dX4_transfer_19 rfl (lv_at hl 3 rfl) ?_
        refine z_callS (As := [.int n]) (rest := []) hF hK (c_X4_isNight l D y n ) (va_cwS 1 hts gX4_transfer_X4_isNight rfl rfl rfl (by decide +kernel) ⟨Nat.le_of_ble_eq_true rfl, Nat.le_of_ble_eq_true rfl⟩) trivial rfl hl.1 rfl (Nat.le_of_ble_eq_true rfl) dX4_transfer_20 ⟨Nat.zero_le _, Nat.zero_le _⟩ ?_
        refine z_ifeq (tgt := 38) hx hb dX4_transfer_23 (by decide) (fun c23 => ?_) (fun c23 => ?_)
        · refine lv_sipush (v := (-1001)) hx hb dX4_transfer_38 (by decide) ?_
          exact z_reti hx hb hr hlocks rfl (by unfold eIf; rw [if_neg (bf _)]; unfold okTr; first | (rw [c4]; rfl) | (rw [c4, c11]; rfl) | (rw [c4, c11, decide_eq_true c16]; rfl) | (rw [c4, c11, c23, decide_eq_false c16]; rfl) | (rw [c4, c11, c23, c35, decide_eq_false c16]; rfl)) dX4_transfer_41
        · refine lv_iload hx hb dX4_transfer_26 (lv_at hl 4 rfl) ?_
          refine lv_iconst (v := (nI 1)) hx hb dX4_transfer_28 (by decide) ?_
          refine lv_sipush (v := (nI 200)) hx hb dX4_transfer_29 (by decide) ?_
          refine z_callS (As := [.int c, .int (nI 1), .int (nI 200)]) (rest := []) hF hK (c_X4_isIn l D y c (nI 1) (nI 200) ) (va_cwS 3 hts gX4_transfer_X4_isIn rfl rfl rfl (by decide +kernel) ⟨Nat.le_of_ble_eq_true rfl, Nat.le_of_ble_eq_true rfl⟩) trivial rfl hl.1 rfl (Nat.le_of_ble_eq_true rfl) dX4_transfer_32 ⟨Nat.zero_le _, Nat.zero_le _⟩ ?_
          refine z_ifne (tgt := 42) hx hb dX4_transfer_35 (by decide) (fun c35 => ?_) (fun c35 => ?_)
          · obtain ⟨j, lj, hj, rfl⟩ := inB_nat (by decide) c4 (by decide)
            have ej : cl (nI j) = j := cl_nI (by omega)
            obtain ⟨i, li, hi, rfl⟩ := inB_nat (by decide) c23 (by decide)
            have ei : cl (nI i) = i := cl_nI (by omega)
            refine lv_aload_n hx hb dX4_transfer_42 rfl (lv_at hl 0 rfl) ?_
            refine z_get (fs := [.ref (x + 1), .ref (x + 12), .ref (x + 23), .int (nI k), .ref (x + 24)]) (ref := "CranePermits") (C := RX4) (T := TX4) (N := 5) (ci := 4) (v := .ref (x + 1)) hx hb hts i_c_X4_transfer_no_X4 hown hK hΦ.1 0 (by decide) rfl (hts (.fieldLink RX4 10 "CranePermits" "now" "LCranePermits$Site;") (List.mem_of_getElem? (i := 1) rfl)) rfl rfl dX4_transfer_43 ?_
            refine lv_iload_n hx hb dX4_transfer_46 rfl (lv_at hl 1 rfl) ?_
            refine lv_iload_n hx hb dX4_transfer_47 rfl (lv_at hl 3 rfl) ?_
            refine z_callV (As := [.int (nI j), .int (nI i)]) (rest := []) hF hK (c_X2_freeOf l D y bd (x + 1) d ca pa pk j i (hI) (hv24) (by omega) (by omega)) (cwV 2 hts gX4_transfer_X2_freeOf rfl rfl rfl (by decide +kernel) ⟨Nat.le_of_ble_eq_true rfl, Nat.le_of_ble_eq_true rfl⟩) (z_recv (q := (RX2, TX2, 13)) hK (hP 0 _ rfl) rfl) hΦ.2.2 rfl hl.1 rfl (Nat.le_of_ble_eq_true rfl) dX4_transfer_48 ⟨Nat.zero_le _, Nat.zero_le _⟩ ?_
            refine lv_iload hx hb dX4_transfer_51 (lv_at hl 4 rfl) ?_
            refine lv_isub hx hb dX4_transfer_53 ?_
            refine lv_istore (lv' := [(5, .int ((freI d j i) - c)), (0, .ref x), (1, .int (nI j)), (2, .int b), (3, .int (nI i)), (4, .int c)]) hx hb dX4_transfer_54 hl (by decide) rfl (fun ls hl => ?_)
            refine lv_iload hx hb dX4_transfer_56 (lv_at hl 0 rfl) ?_
            refine lv_if_ge (tgt := 65) hx hb dX4_transfer_58 (by decide) (fun c58 => ?_) (fun c58 => ?_)
            · exact absurd ⟨by unfold okTr; rw [c4, c11, c23, c35, decide_eq_false c16]; rfl, by rw [ej, ei]; exact c58⟩ hno
            · refine lv_sipush (v := (-1002)) hx hb dX4_transfer_61 (by decide) ?_
              exact z_reti hx hb hr hlocks rfl (by unfold eIf; rw [if_pos (show okTr (nI j) b (nI i) c = true by unfold okTr; rw [c4, c11, c23, c35, decide_eq_false c16]; rfl)]) dX4_transfer_64
          · refine lv_sipush (v := (-1001)) hx hb dX4_transfer_38 (by decide) ?_
            exact z_reti hx hb hr hlocks rfl (by unfold eIf; rw [if_neg (bf _)]; unfold okTr; first | (rw [c4]; rfl) | (rw [c4, c11]; rfl) | (rw [c4, c11, decide_eq_true c16]; rfl) | (rw [c4, c11, c23, decide_eq_false c16]; rfl) | (rw [c4, c11, c23, c35, decide_eq_false c16]; rfl)) dX4_transfer_41
theorem i_c_X4_undo_no_X4 : ∀ w ∈ wsX40, w ∈ wsX4_undo := fun w h => (List.mem_cons_of_mem _ (List.mem_append_left _ (List.mem_append_right _ h)))
set_option maxRecDepth 100000 in
set_option maxHeartbeats 4000000 in
theorem c_X4_undo_no (l : Launch) (D : va_G) (y : zY) (x : Nat) (bd : Nat) (d : Nat → Int32) (ca : Nat → Nat) (pa : Nat → Nat) (pk : Nat → Nat) (k : Nat) (len : Nat) (tf : Nat → Int32) (hJ : rJ d) (hk4 : k ≤ 4) (hl80 : len ≤ 80) (hk0 : k = 0) : Met l yX4_undo wsX4_undo ({ frames := 1, cells := 0, slots := 0, locals := 21 }) (zP [.ref x] (fun H => clR D y x bd d ca pa pk k len tf H) D y) (zQ (some (.int (-1002)))) 0 0 nofree := by
  refine z_body (cc := cX4_undo) (maxL := 2) (ret := (some .int)) (la := [(0, .ref x)]) (by decide) rfl (Nat.le_of_ble_eq_true rfl) rfl ?_
  intro pg ev s mm below meth c0 ls hx hb hr hF hlocks hΦ hK hl _
  have hts := hF.2.2.2.2
  have hown : s.vm.findClass RX4 = some mm.cls := hF.2.2.2.1
  have hI := hJ.1
  have hv24 := hJ.2.1
  have hpl := hJ.2.2.1
  have hS := hpl.w
  have hG2 := hI.ng2
  have hC8 := hI.nc8
  have hS0 := hΦ.2.2
  obtain ⟨cs, ns, se, wi, al, re, gi, ps, ss, vs, hP, hR, hC, hE, hT⟩ := hS0
  refine lv_aload_n hx hb dX4_undo_0 rfl (lv_at hl 0 rfl) ?_
  refine lv_aload_n hx hb dX4_undo_1 rfl (lv_at hl 0 rfl) ?_
  refine z_get (fs := [.ref (x + 1), .ref (x + 12), .ref (x + 23), .int (nI k), .ref (x + 24)]) (ref := "CranePermits") (C := RX4) (T := TX4) (N := 5) (ci := 4) (v := .int (nI k)) hx hb hts i_c_X4_undo_no_X4 hown hK hΦ.1 3 (by decide) rfl (hts (.fieldLink RX4 23 "CranePermits" "pastCount" "I") (List.mem_of_getElem? (i := 1) rfl)) rfl rfl dX4_undo_2 ?_
  refine lv_iconst (v := (nI 1)) hx hb dX4_undo_5 (by decide) ?_
  refine lv_isub hx hb dX4_undo_6 ?_
  refine z_callV (As := [.int ((nI k) - (nI 1))]) (rest := []) hF hK (c_X4_pastAt_neg l D y x ((nI k) - (nI 1)) (by rw [hk0]; decide)) (cwV 1 hts gX4_undo_X4_pastAt rfl rfl rfl (by decide +kernel) ⟨Nat.le_of_ble_eq_true rfl, Nat.le_of_ble_eq_true rfl⟩) (z_recv (q := (RX4, TX4, 5)) hK hΦ.1 rfl) trivial rfl hl.1 rfl (Nat.le_of_ble_eq_true rfl) dX4_undo_7 ⟨Nat.zero_le _, Nat.zero_le _⟩ ?_
  refine lv_astore_nN (lv' := [(1, .null), (0, .ref x)]) hx hb dX4_undo_10 rfl hl (by decide) rfl (fun ls hl => ?_)
  refine lv_aload_nN hx hb dX4_undo_11 rfl (lv_at hl 0 rfl) ?_
  refine lv_ifnonnullN hx hb dX4_undo_12 ?_
  refine lv_sipush (v := (-1002)) hx hb dX4_undo_15 (by decide) ?_
  exact z_reti hx hb hr hlocks rfl (rfl) dX4_undo_18
theorem i_c_X4_apply_no_X4 : ∀ w ∈ wsX40, w ∈ wsX4_apply := fun w h => (List.mem_cons_of_mem _ (List.mem_append_left _ (List.mem_append_left _ (List.mem_append_left _ (List.mem_append_right _ h)))))
set_option maxRecDepth 100000 in
set_option maxHeartbeats 4000000 in
theorem c_X4_apply_no (l : Launch) (D : va_G) (y : zY) (x : Nat) (bd : Nat) (d : Nat → Int32) (ca : Nat → Nat) (pa : Nat → Nat) (pk : Nat → Nat) (k : Nat) (len : Nat) (tf : Nat → Int32) (c : Int32) (n : Int32) (h : Int32) (sw : Int32) (hJ : rJ d) (hk4 : k ≤ 4) (hl80 : len ≤ 80) (hno : ¬ (aplB d c n h sw = true ∧ rfsI d (cl c) (cl n) h sw = nI 0 ∧ romB d = true)) : Met l yX4_apply wsX4_apply ({ frames := 4, cells := 0, slots := 0, locals := 105 }) (zP [.ref x, .int c, .int n, .int h, .int sw] (fun H => clR D y x bd d ca pa pk k len tf H) D y) (zQ (some (.int (eApply d c n h sw)))) 0 0 nofree := by
  refine z_body (cc := cX4_apply) (maxL := 7) (ret := (some .int)) (la := [(0, .ref x), (1, .int c), (2, .int n), (3, .int h), (4, .int sw)]) (by decide) rfl (Nat.le_of_ble_eq_true rfl) rfl ?_
  intro pg ev s mm below meth c0 ls hx hb hr hF hlocks hΦ hK hl _
  have hts := hF.2.2.2.2
  have hown : s.vm.findClass RX4 = some mm.cls := hF.2.2.2.1
  have hI := hJ.1
  have hv24 := hJ.2.1
  have hpl := hJ.2.2.1
  have hS := hpl.w
  have hG2 := hI.ng2
  have hC8 := hI.nc8
  have hS0 := hΦ.2.2
  obtain ⟨cs, ns, se, wi, al, re, gi, ps, ss, vs, hP, hR, hC, hE, hT⟩ := hS0
  refine lv_aload_n hx hb dX4_apply_0 rfl (lv_at hl 0 rfl) ?_
  refine z_get (fs := [.ref (x + 1), .ref (x + 12), .ref (x + 23), .int (nI k), .ref (x + 24)]) (ref := "CranePermits") (C := RX4) (T := TX4) (N := 5) (ci := 4) (v := .ref (x + 1)) hx hb hts i_c_X4_apply_no_X4 hown hK hΦ.1 0 (by decide) rfl (hts (.fieldLink RX4 10 "CranePermits" "now" "LCranePermits$Site;") (List.mem_of_getElem? (i := 1) rfl)) rfl rfl dX4_apply_1 ?_
  refine lv_iload_n hx hb dX4_apply_4 rfl (lv_at hl 1 rfl) ?_
  rcases Bool.eq_false_or_eq_true (inB c (nI 0) (d 0 - nI 1)) with c5 | c5
  · obtain ⟨j, hj, rfl⟩ := in_nc hI c5
    have ej : cl (nI j) = j := cl_nI (by omega)
    refine z_callV (As := [.int (nI j)]) (rest := []) hF hK (c_X2_craneAt_in l D y bd (x + 1) d ca pa pk j (hI) (hv24) (by omega)) (cwV 1 hts gX4_apply_X2_craneAt rfl rfl rfl (by decide +kernel) ⟨Nat.le_of_ble_eq_true rfl, Nat.le_of_ble_eq_true rfl⟩) (z_recv (q := (RX2, TX2, 13)) hK (hP 0 _ rfl) rfl) hΦ.2.2 rfl hl.1 rfl (Nat.le_of_ble_eq_true rfl) dX4_apply_5 ⟨Nat.zero_le _, Nat.zero_le _⟩ ?_
    refine lv_astore (lv' := [(5, .ref (ca j)), (0, .ref x), (1, .int (nI j)), (2, .int n), (3, .int h), (4, .int sw)]) hx hb dX4_apply_8 hl (by decide) rfl (fun ls hl => ?_)
    refine lv_aload hx hb dX4_apply_10 (lv_at hl 0 rfl) ?_
    refine lv_ifnull hx hb dX4_apply_12 ?_
    refine lv_iload_n hx hb dX4_apply_15 rfl (lv_at hl 3 rfl) ?_
    refine lv_iload_n hx hb dX4_apply_16 rfl (lv_at hl 4 rfl) ?_
    refine lv_iload hx hb dX4_apply_17 (lv_at hl 5 rfl) ?_
    refine z_callS (As := [.int n, .int h, .int sw]) (rest := []) hF hK (c_X4_isPlan l D y n h sw ) (va_cwS 3 hts gX4_apply_X4_isPlan rfl rfl rfl (by decide +kernel) ⟨Nat.le_of_ble_eq_true rfl, Nat.le_of_ble_eq_true rfl⟩) trivial rfl hl.1 rfl (Nat.le_of_ble_eq_true rfl) dX4_apply_19 ⟨Nat.zero_le _, Nat.zero_le _⟩ ?_
    refine z_ifne (tgt := 29) hx hb dX4_apply_22 (by decide) (fun c22 => ?_) (fun c22 => ?_)
    · obtain ⟨cn, ch, cs2⟩ := plan_3 c22
      obtain ⟨u, lu, hu, rfl⟩ := inB_nat (by decide) cn (by decide)
      have eu : cl (nI u) = u := cl_nI (by omega)
      refine lv_aload_n hx hb dX4_apply_29 rfl (lv_at hl 1 rfl) ?_
      refine z_get (fs := [.ref (x + 1), .ref (x + 12), .ref (x + 23), .int (nI k), .ref (x + 24)]) (ref := "CranePermits") (C := RX4) (T := TX4) (N := 5) (ci := 4) (v := .ref (x + 1)) hx hb hts i_c_X4_apply_no_X4 hown hK hΦ.1 0 (by decide) rfl (hts (.fieldLink RX4 10 "CranePermits" "now" "LCranePermits$Site;") (List.mem_of_getElem? (i := 1) rfl)) rfl rfl dX4_apply_30 ?_
      refine lv_aload hx hb dX4_apply_33 (lv_at hl 0 rfl) ?_
      refine lv_iload_n hx hb dX4_apply_35 rfl (lv_at hl 3 rfl) ?_
      refine lv_iload_n hx hb dX4_apply_36 rfl (lv_at hl 4 rfl) ?_
      refine lv_iload hx hb dX4_apply_37 (lv_at hl 5 rfl) ?_
      refine z_callV (As := [.ref (ca j), .int (nI u), .int h, .int sw]) (rest := []) hF hK (c_X2_refusalOf l D y bd (x + 1) d ca pa pk (ca j) j u h sw (hI) (hv24) (by omega) (by omega) (sw_of cs2) (hS)) (cwV 4 hts gX4_apply_X2_refusalOf rfl rfl rfl (by decide +kernel) ⟨Nat.le_of_ble_eq_true rfl, Nat.le_of_ble_eq_true rfl⟩) (z_recv (q := (RX2, TX2, 13)) hK (hP 0 _ rfl) rfl) ⟨hΦ.2.2, (hC j (by omega)).2⟩ rfl hl.1 rfl (Nat.le_of_ble_eq_true rfl) dX4_apply_39 ⟨Nat.zero_le _, Nat.zero_le _⟩ ?_
      refine lv_if_eq (tgt := 49) hx hb dX4_apply_42 (by decide) (fun c42 => ?_) (fun c42 => ?_)
      · refine lv_aload_n hx hb dX4_apply_49 rfl (lv_at hl 1 rfl) ?_
        refine z_get (fs := [.ref (x + 1), .ref (x + 12), .ref (x + 23), .int (nI k), .ref (x + 24)]) (ref := "CranePermits") (C := RX4) (T := TX4) (N := 5) (ci := 4) (v := .ref (x + 1)) hx hb hts i_c_X4_apply_no_X4 hown hK hΦ.1 0 (by decide) rfl (hts (.fieldLink RX4 10 "CranePermits" "now" "LCranePermits$Site;") (List.mem_of_getElem? (i := 1) rfl)) rfl rfl dX4_apply_50 ?_
        refine z_callV (As := []) (rest := []) hF hK (c_X2_hasRoom l D y bd (x + 1) d ca pa pk (hI) (hv24)) (cwV 0 hts gX4_apply_X2_hasRoom rfl rfl rfl (by decide +kernel) ⟨Nat.le_of_ble_eq_true rfl, Nat.le_of_ble_eq_true rfl⟩) (z_recv (q := (RX2, TX2, 13)) hK (hP 0 _ rfl) rfl) hΦ.2.2 rfl hl.1 rfl (Nat.le_of_ble_eq_true rfl) dX4_apply_53 ⟨Nat.zero_le _, Nat.zero_le _⟩ ?_
        refine z_ifne (tgt := 63) hx hb dX4_apply_56 (by decide) (fun c56 => ?_) (fun c56 => ?_)
        · exact absurd ⟨apl_y c5 c22, by rw [ej, eu]; exact c42, c56⟩ hno
        · refine lv_sipush (v := (-1003)) hx hb dX4_apply_59 (by decide) ?_
          exact z_reti hx hb hr hlocks rfl (by unfold eApply; rw [if_pos (apl_y c5 c22), ej, eu, if_pos (show _ = nI 0 from c42)]) dX4_apply_62
      · refine lv_sipush (v := (-1002)) hx hb dX4_apply_45 (by decide) ?_
        exact z_reti hx hb hr hlocks rfl (by unfold eApply; rw [if_pos (apl_y c5 c22), ej, eu, if_neg (show ¬ _ = nI 0 from c42)]) dX4_apply_48
    · refine lv_sipush (v := (-1001)) hx hb dX4_apply_25 (by decide) ?_
      exact z_reti hx hb hr hlocks rfl (by unfold eApply; rw [if_neg]; first | exact apl_c c5 | exact apl_p c22) dX4_apply_28
  · refine z_callV (As := [.int c]) (rest := []) hF hK (c_X2_craneAt_out l D y bd (x + 1) d ca pa pk c (hI) (hv24) (c5)) (cwV 1 hts gX4_apply_X2_craneAt rfl rfl rfl (by decide +kernel) ⟨Nat.le_of_ble_eq_true rfl, Nat.le_of_ble_eq_true rfl⟩) (z_recv (q := (RX2, TX2, 13)) hK (hP 0 _ rfl) rfl) hΦ.2.2 rfl hl.1 rfl (Nat.le_of_ble_eq_true rfl) dX4_apply_5 ⟨Nat.zero_le _, Nat.zero_le _⟩ ?_
    refine lv_astoreN (lv' := [(5, .null), (0, .ref x), (1, .int c), (2, .int n), (3, .int h), (4, .int sw)]) hx hb dX4_apply_8 hl (by decide) rfl (fun ls hl => ?_)
    refine lv_aloadN hx hb dX4_apply_10 (lv_at hl 0 rfl) ?_
    refine lv_ifnullN (tgt := 25) hx hb dX4_apply_12 (by decide) ?_
    refine lv_sipush (v := (-1001)) hx hb dX4_apply_25 (by decide) ?_
    exact z_reti hx hb hr hlocks rfl (by unfold eApply; rw [if_neg]; first | exact apl_c c5 | exact apl_p c22) dX4_apply_28
theorem i_c_X4_withdraw_no_X4 : ∀ w ∈ wsX40, w ∈ wsX4_withdraw := fun w h => (List.mem_cons_of_mem _ (List.mem_append_left _ (List.mem_append_left _ (List.mem_append_left _ (List.mem_append_right _ h)))))
theorem i_c_X4_withdraw_no_X2 : ∀ w ∈ wsX20, w ∈ wsX4_withdraw := fun w h => (List.mem_cons_of_mem _ (List.mem_append_left _ (List.mem_append_left _ (List.mem_append_right _ h))))
theorem i_c_X4_withdraw_no_X1 : ∀ w ∈ wsX10, w ∈ wsX4_withdraw := fun w h => (List.mem_cons_of_mem _ (List.mem_append_left _ (List.mem_append_right _ h)))
set_option maxRecDepth 100000 in
set_option maxHeartbeats 4000000 in
theorem c_X4_withdraw_no (l : Launch) (D : va_G) (y : zY) (x : Nat) (bd : Nat) (d : Nat → Int32) (ca : Nat → Nat) (pa : Nat → Nat) (pk : Nat → Nat) (k : Nat) (len : Nat) (tf : Nat → Int32) (p : Int32) (hJ : rJ d) (hk4 : k ≤ 4) (hl80 : len ≤ 80) (hno : ¬ (inB p (nI 0) (d 442 - nI 1) = true ∧ pm d (cl p) 4 = nI 1)) : Met l yX4_withdraw wsX4_withdraw ({ frames := 1, cells := 0, slots := 0, locals := 22 }) (zP [.ref x, .int p] (fun H => clR D y x bd d ca pa pk k len tf H) D y) (zQ (some (.int (eIf (inB p (nI 0) (d 442 - nI 1)) (-1002))))) 0 0 nofree := by
  refine z_body (cc := cX4_withdraw) (maxL := 3) (ret := (some .int)) (la := [(0, .ref x), (1, .int p)]) (by decide) rfl (Nat.le_of_ble_eq_true rfl) rfl ?_
  intro pg ev s mm below meth c0 ls hx hb hr hF hlocks hΦ hK hl _
  have hts := hF.2.2.2.2
  have hown : s.vm.findClass RX4 = some mm.cls := hF.2.2.2.1
  have hI := hJ.1
  have hv24 := hJ.2.1
  have hpl := hJ.2.2.1
  have hS := hpl.w
  have hG2 := hI.ng2
  have hC8 := hI.nc8
  have hS0 := hΦ.2.2
  obtain ⟨cs, ns, se, wi, al, re, gi, ps, ss, vs, hP, hR, hC, hE, hT⟩ := hS0
  refine lv_aload_n hx hb dX4_withdraw_0 rfl (lv_at hl 0 rfl) ?_
  refine z_get (fs := [.ref (x + 1), .ref (x + 12), .ref (x + 23), .int (nI k), .ref (x + 24)]) (ref := "CranePermits") (C := RX4) (T := TX4) (N := 5) (ci := 4) (v := .ref (x + 1)) hx hb hts i_c_X4_withdraw_no_X4 hown hK hΦ.1 0 (by decide) rfl (hts (.fieldLink RX4 10 "CranePermits" "now" "LCranePermits$Site;") (List.mem_of_getElem? (i := 1) rfl)) rfl rfl dX4_withdraw_1 ?_
  refine lv_iload_n hx hb dX4_withdraw_4 rfl (lv_at hl 1 rfl) ?_
  rcases Bool.eq_false_or_eq_true (inB p (nI 0) (d 442 - nI 1)) with c5 | c5
  · obtain ⟨j, hj, rfl⟩ := in_ng hI c5
    have ej : cl (nI j) = j := cl_nI (by omega)
    refine z_callV (As := [.int (nI j)]) (rest := []) hF hK (c_X2_permitAt_in l D y bd (x + 1) d ca pa pk j (hI) (hv24) (by omega)) (cwV 1 hts gX4_withdraw_X2_permitAt rfl rfl rfl (by decide +kernel) ⟨Nat.le_of_ble_eq_true rfl, Nat.le_of_ble_eq_true rfl⟩) (z_recv (q := (RX2, TX2, 13)) hK (hP 0 _ rfl) rfl) hΦ.2.2 rfl hl.1 rfl (Nat.le_of_ble_eq_true rfl) dX4_withdraw_5 ⟨Nat.zero_le _, Nat.zero_le _⟩ ?_
    refine lv_astore_n (lv' := [(2, .ref (pa j)), (0, .ref x), (1, .int (nI j))]) hx hb dX4_withdraw_8 rfl hl (by decide) rfl (fun ls hl => ?_)
    refine lv_aload_n hx hb dX4_withdraw_9 rfl (lv_at hl 0 rfl) ?_
    refine lv_ifnonnull (tgt := 17) hx hb dX4_withdraw_10 (by decide) ?_
    refine lv_aload_n hx hb dX4_withdraw_17 rfl (lv_at hl 1 rfl) ?_
    refine z_get (fs := [.ref (x + 1), .ref (x + 12), .ref (x + 23), .int (nI k), .ref (x + 24)]) (ref := "CranePermits") (C := RX4) (T := TX4) (N := 5) (ci := 4) (v := .ref (x + 1)) hx hb hts i_c_X4_withdraw_no_X4 hown hK hΦ.1 0 (by decide) rfl (hts (.fieldLink RX4 10 "CranePermits" "now" "LCranePermits$Site;") (List.mem_of_getElem? (i := 1) rfl)) rfl rfl dX4_withdraw_18 ?_
    refine z_get (fs := [.ref ((x + 1) + 1), .int (nI (nC d)), .ref ((x + 1) + 2), .ref ((x + 1) + 3), .ref ((x + 1) + 4), .ref ((x + 1) + 5), .ref ((x + 1) + 6), .ref ((x + 1) + 7), .ref ((x + 1) + 8), .int (nI (nG d)), .ref ((x + 1) + 9), .ref ((x + 1) + 10), .int (nI (vn d))]) (ref := "CranePermits$Site") (C := RX2) (T := TX2) (N := 13) (ci := 2) (v := .ref ((x + 1) + 9)) hx hb hts i_c_X4_withdraw_no_X2 hown hK (hP 0 _ rfl) 10 (by decide) rfl (hts (.fieldLink RX4 217 "CranePermits$Site" "states" "[I") (List.mem_of_getElem? (i := 2) rfl)) rfl rfl dX4_withdraw_21 ?_
    refine lv_aload_n hx hb dX4_withdraw_24 rfl (lv_at hl 0 rfl) ?_
    refine z_get (fs := [.int (nI j), .ref (pk j), .int (pm d j 1), .int (pm d j 2), .int (pm d j 2 / nI 10), .int (pm d j 2 - pm d j 2 / nI 10 * nI 10), .int (pm d j 3)]) (ref := "CranePermits$Permit") (C := RX1) (T := TX1) (N := 7) (ci := 1) (v := .int (nI j)) hx hb hts i_c_X4_withdraw_no_X1 hown hK (hE j (by omega)).2.2.1 0 (by decide) rfl (hts (.fieldLink RX4 212 "CranePermits$Permit" "number" "I") (List.mem_of_getElem? (i := 3) rfl)) rfl rfl dX4_withdraw_25 ?_
    refine z_callS (As := [.ref ((x + 1) + 9), .int (nI j)]) (rest := []) hF hK (c_X4_at l D y ((x + 1) + 9) 200 ss j (by omega) (by decide)) (va_cwS 2 hts gX4_withdraw_X4_at rfl rfl rfl (by decide +kernel) ⟨Nat.le_of_ble_eq_true rfl, Nat.le_of_ble_eq_true rfl⟩) (hP 9 _ rfl) rfl hl.1 rfl (Nat.le_of_ble_eq_true rfl) dX4_withdraw_28 ⟨Nat.zero_le _, Nat.zero_le _⟩ ?_
    refine z_topi (z := (pm d j 4)) (hR.2.2.2.2.2.2.2.2.1 j (by omega)) ?_
    refine lv_iconst (v := (nI 1)) hx hb dX4_withdraw_31 (by decide) ?_
    refine lv_icmp_eq (tgt := 39) hx hb dX4_withdraw_32 (by decide) (fun c32 => ?_) (fun c32 => ?_)
    · exact absurd ⟨c5, by rw [ej]; exact c32⟩ hno
    · refine lv_sipush (v := (-1002)) hx hb dX4_withdraw_35 (by decide) ?_
      exact z_reti hx hb hr hlocks rfl (by unfold eIf; rw [if_pos c5]) dX4_withdraw_38
  · refine z_callV (As := [.int p]) (rest := []) hF hK (c_X2_permitAt_out l D y bd (x + 1) d ca pa pk p (hI) (hv24) (c5)) (cwV 1 hts gX4_withdraw_X2_permitAt rfl rfl rfl (by decide +kernel) ⟨Nat.le_of_ble_eq_true rfl, Nat.le_of_ble_eq_true rfl⟩) (z_recv (q := (RX2, TX2, 13)) hK (hP 0 _ rfl) rfl) hΦ.2.2 rfl hl.1 rfl (Nat.le_of_ble_eq_true rfl) dX4_withdraw_5 ⟨Nat.zero_le _, Nat.zero_le _⟩ ?_
    refine lv_astore_nN (lv' := [(2, .null), (0, .ref x), (1, .int p)]) hx hb dX4_withdraw_8 rfl hl (by decide) rfl (fun ls hl => ?_)
    refine lv_aload_nN hx hb dX4_withdraw_9 rfl (lv_at hl 0 rfl) ?_
    refine lv_ifnonnullN hx hb dX4_withdraw_10 ?_
    refine lv_sipush (v := (-1001)) hx hb dX4_withdraw_13 (by decide) ?_
    exact z_reti hx hb hr hlocks rfl (by unfold eIf; rw [if_neg (bf c5)]) dX4_withdraw_16
theorem i_c_X4_type_no_X4 : ∀ w ∈ wsX40, w ∈ wsX4_type := fun w h => (List.mem_cons_of_mem _ (List.mem_append_left _ (List.mem_append_right _ h)))
theorem i_c_X4_type_no_X3 : ∀ w ∈ wsX30, w ∈ wsX4_type := fun w h => (List.mem_cons_of_mem _ (List.mem_append_right _ h))
set_option maxRecDepth 100000 in
set_option maxHeartbeats 4000000 in
theorem c_X4_type_no (l : Launch) (D : va_G) (y : zY) (x : Nat) (bd : Nat) (d : Nat → Int32) (ca : Nat → Nat) (pa : Nat → Nat) (pk : Nat → Nat) (k : Nat) (len : Nat) (tf : Nat → Int32) (v : Int32) (hJ : rJ d) (hk4 : k ≤ 4) (hl80 : len ≤ 80) (hno : ¬ (inB v (nI 32) (nI 126) = true ∧ len < 80)) : Met l yX4_type wsX4_type ({ frames := 1, cells := 0, slots := 0, locals := 22 }) (zP [.ref x, .int v] (fun H => clR D y x bd d ca pa pk k len tf H) D y) (zQ (some (.int (eIf (inB v (nI 32) (nI 126)) (-1003))))) 0 0 nofree := by
  refine z_body (cc := cX4_type) (maxL := 2) (ret := (some .int)) (la := [(0, .ref x), (1, .int v)]) (by decide) rfl (Nat.le_of_ble_eq_true rfl) rfl ?_
  intro pg ev s mm below meth c0 ls hx hb hr hF hlocks hΦ hK hl _
  have hts := hF.2.2.2.2
  have hown : s.vm.findClass RX4 = some mm.cls := hF.2.2.2.1
  have hI := hJ.1
  have hv24 := hJ.2.1
  have hpl := hJ.2.2.1
  have hS := hpl.w
  have hG2 := hI.ng2
  have hC8 := hI.nc8
  have hS0 := hΦ.2.2
  obtain ⟨cs, ns, se, wi, al, re, gi, ps, ss, vs, hP, hR, hC, hE, hT⟩ := hS0
  refine lv_iload_n hx hb dX4_type_0 rfl (lv_at hl 1 rfl) ?_
  refine lv_bipush (v := (nI 32)) hx hb dX4_type_1 (by decide) ?_
  refine lv_bipush (v := (nI 126)) hx hb dX4_type_3 (by decide) ?_
  refine z_callS (As := [.int v, .int (nI 32), .int (nI 126)]) (rest := []) hF hK (c_X4_isIn l D y v (nI 32) (nI 126) ) (va_cwS 3 hts gX4_type_X4_isIn rfl rfl rfl (by decide +kernel) ⟨Nat.le_of_ble_eq_true rfl, Nat.le_of_ble_eq_true rfl⟩) trivial rfl hl.1 rfl (Nat.le_of_ble_eq_true rfl) dX4_type_5 ⟨Nat.zero_le _, Nat.zero_le _⟩ ?_
  refine z_ifne (tgt := 15) hx hb dX4_type_8 (by decide) (fun c8 => ?_) (fun c8 => ?_)
  · refine lv_aload_n hx hb dX4_type_15 rfl (lv_at hl 0 rfl) ?_
    refine z_get (fs := [.ref (x + 1), .ref (x + 12), .ref (x + 23), .int (nI k), .ref (x + 24)]) (ref := "CranePermits") (C := RX4) (T := TX4) (N := 5) (ci := 4) (v := .ref (x + 24)) hx hb hts i_c_X4_type_no_X4 hown hK hΦ.1 4 (by decide) rfl (hts (.fieldLink RX4 30 "CranePermits" "text" "LCranePermits$Text;") (List.mem_of_getElem? (i := 1) rfl)) rfl rfl dX4_type_16 ?_
    refine z_get (fs := [.ref (x + 25), .int (nI len), .int (tf 0), .int (tf 1), .int (tf 2), .int (tf 3), .int (tf 4), .int (tf 5), .int (tf 6)]) (ref := "CranePermits$Text") (C := RX3) (T := TX3) (N := 9) (ci := 3) (v := .int (nI len)) hx hb hts i_c_X4_type_no_X3 hown hK hΦ.2.1 1 (by decide) rfl (hts (.fieldLink RX4 168 "CranePermits$Text" "length" "I") (List.mem_of_getElem? (i := 2) rfl)) rfl rfl dX4_type_19 ?_
    refine lv_bipush (v := (nI 80)) hx hb dX4_type_22 (by decide) ?_
    refine z_lt (tgt := 31) hx hb (by omega) (by omega) dX4_type_24 (by decide) (fun c24 => ?_) (fun c24 => ?_)
    · exact absurd ⟨c8, by omega⟩ hno
    · refine lv_sipush (v := (-1003)) hx hb dX4_type_27 (by decide) ?_
      exact z_reti hx hb hr hlocks rfl (by unfold eIf; rw [if_pos c8]) dX4_type_30
  · refine lv_sipush (v := (-1001)) hx hb dX4_type_11 (by decide) ?_
    exact z_reti hx hb hr hlocks rfl (by unfold eIf; rw [if_neg (bf c8)]) dX4_type_14
set_option maxRecDepth 100000 in
set_option maxHeartbeats 4000000 in
theorem c_X4_fault_no (l : Launch) (D : va_G) (y : zY) (x : Nat) (bd : Nat) (d : Nat → Int32) (ca : Nat → Nat) (pa : Nat → Nat) (pk : Nat → Nat) (k : Nat) (len : Nat) (tf : Nat → Int32) (w : Int32) (hJ : rJ d) (hk4 : k ≤ 4) (hl80 : len ≤ 80) (hno : inB w (nI 0) (nI 1) = false) : Met l yX4_fault wsX4_fault ({ frames := 1, cells := 0, slots := 0, locals := 22 }) (zP [.ref x, .int w] (fun H => clR D y x bd d ca pa pk k len tf H) D y) (zQ (some (.int (-1001)))) 0 0 nofree := by
  refine z_body (cc := cX4_fault) (maxL := 3) (ret := (some .int)) (la := [(0, .ref x), (1, .int w)]) (by decide) rfl (Nat.le_of_ble_eq_true rfl) rfl ?_
  intro pg ev s mm below meth c0 ls hx hb hr hF hlocks hΦ hK hl _
  have hts := hF.2.2.2.2
  have hown : s.vm.findClass RX4 = some mm.cls := hF.2.2.2.1
  have hI := hJ.1
  have hv24 := hJ.2.1
  have hpl := hJ.2.2.1
  have hS := hpl.w
  have hG2 := hI.ng2
  have hC8 := hI.nc8
  have hS0 := hΦ.2.2
  obtain ⟨cs, ns, se, wi, al, re, gi, ps, ss, vs, hP, hR, hC, hE, hT⟩ := hS0
  refine lv_iload_n hx hb dX4_fault_0 rfl (lv_at hl 1 rfl) ?_
  refine lv_iconst (v := (nI 0)) hx hb dX4_fault_1 (by decide) ?_
  refine lv_iconst (v := (nI 1)) hx hb dX4_fault_2 (by decide) ?_
  refine z_callS (As := [.int w, .int (nI 0), .int (nI 1)]) (rest := []) hF hK (c_X4_isIn l D y w (nI 0) (nI 1) ) (va_cwS 3 hts gX4_fault_X4_isIn rfl rfl rfl (by decide +kernel) ⟨Nat.le_of_ble_eq_true rfl, Nat.le_of_ble_eq_true rfl⟩) trivial rfl hl.1 rfl (Nat.le_of_ble_eq_true rfl) dX4_fault_3 ⟨Nat.zero_le _, Nat.zero_le _⟩ ?_
  refine z_ifne (tgt := 13) hx hb dX4_fault_6 (by decide) (fun c6 => ?_) (fun c6 => ?_)
  · exact absurd c6 (bf hno)
  · refine lv_sipush (v := (-1001)) hx hb dX4_fault_9 (by decide) ?_
    exact z_reti hx hb hr hlocks rfl (rfl) dX4_fault_12
