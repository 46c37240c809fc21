/-! THE CLASS: its calls that only read -/
def clR (D : va_G) (y : zY) (x bd : Nat) (d : Nat → Int32) (ca pa pk : Nat → Nat) (k len : Nat) (tf : Nat → Int32) (H : Heap) : Prop := va_at D vwCl (x, .inr (4, [.ref (x + 1), .ref (x + 12), .ref (x + 23), .int (nI k), .ref (x + 24)])) H ∧ va_at D vwCl (x + 24, .inr (3, [.ref (x + 25), .int (nI len), .int (tf 0), .int (tf 1), .int (tf 2), .int (tf 3), .int (tf 4), .int (tf 5), .int (tf 6)])) H ∧ sD D y bd (x + 1) d ca pa pk H
def rJ (d : Nat → Int32) : Prop := zI d ∧ vn d ≤ 24 ∧ plJ d ∧ d 443 = sumN (cntF d (nI 2)) (nG d) ∧ d 444 = sumN (cntF d (nI 3)) (nG d)
theorem if_2 {a b : Bool} {X Y : Int32} (h : (a && b) = false) : Y = if a = true then (if b = true then X else Y) else Y := by
  cases a <;> cases b <;> simp_all
theorem plan_3 {n h sw : Int32} (hh : planB n h sw = true) : inB n (nI 0) (nI 29) = true ∧ ahrB h = true ∧ inB sw (nI 1) (nI 255) = true := by
  unfold planB at hh
  simp only [Bool.and_eq_true] at hh
  exact ⟨hh.1, hh.2.1, hh.2.2⟩
theorem apl_e (d : Nat → Int32) (c n h sw : Int32) : aplB d c n h sw = (inB c (nI 0) (d 0 - nI 1) && planB n h sw) := rfl
theorem apl_y {d : Nat → Int32} {c n h sw : Int32} (h1 : inB c (nI 0) (d 0 - nI 1) = true) (h2 : planB n h sw = true) : aplB d c n h sw = true := by rw [apl_e, h1, h2]; rfl
theorem apl_c {d : Nat → Int32} {c n h sw : Int32} (h1 : inB c (nI 0) (d 0 - nI 1) = false) : ¬ aplB d c n h sw = true := by rw [apl_e, h1]; exact Bool.false_ne_true
theorem apl_p {d : Nat → Int32} {c n h sw : Int32} (h1 : planB n h sw = false) : ¬ aplB d c n h sw = true := by rw [apl_e, h1, Bool.and_false]; exact Bool.false_ne_true
theorem io_y {d : Nat → Int32} (hP : plJ d) {w : Int32} {i : Nat} (hi : i < vn d) (h : sumN (vahF d (vx d i)) (vn d) = w) : ioF d w (vx d i) = true := by
  unfold ioF
  rw [← vah_o hP (vx_in hi).1]
  exact decide_eq_true h
theorem io_n {d : Nat → Int32} (hP : plJ d) {w : Int32} {i : Nat} (hi : i < vn d) (h : ¬ sumN (vahF d (vx d i)) (vn d) = w) : ioF d w (vx d i) = false := by
  unfold ioF
  rw [← vah_o hP (vx_in hi).1]
  exact decide_eq_false h
theorem cov_cell {d : Nat → Int32} {c : Nat} {sw : Int32} (hsw : swW sw) {m1 m2 : Nat} (h1 : m1 < 16) (h2 : m2 < 16) : bL (airS (eiF d c) sw ((16 * m2 + m1) / 64) 8) ((16 * m2 + m1) % 64) = covB d c sw (nI m1) (nI m2) := by
  rw [cov_bit hsw (by omega) (by omega), show 64 * ((16 * m2 + m1) / 64) + (16 * m2 + m1) % 64 = 16 * m2 + m1 by omega]
  unfold covC
  rw [show (16 * m2 + m1) % 16 = m1 by omega, show (16 * m2 + m1) / 16 = m2 by omega]
theorem cov_n {d : Nat → Int32} {c : Nat} {sw : Int32} (hsw : swW sw) {m1 m2 : Nat} (h1 : m1 < 16) (h2 : m2 < 16) (h : lg_cmp (((airS (eiF d c) sw ((16 * m2 + m1) / 64) 8).toUInt64 >>> ((nI ((16 * m2 + m1) % 64)).toInt64.toUInt64 &&& Int64.toUInt64 63)).toInt64 &&& 1) (0) = 0) : nI 0 = if covB d c sw (nI m1) (nI m2) = true then nI 1 else nI 0 := by
  have q := (bit_z _ _ (Nat.mod_lt _ (by decide))).mp (lcmp_0 h)
  rw [cov_cell hsw h1 h2] at q
  rw [if_neg (bf q)]
theorem cov_y {d : Nat → Int32} {c : Nat} {sw : Int32} (hsw : swW sw) {m1 m2 : Nat} (h1 : m1 < 16) (h2 : m2 < 16) (h : ¬ lg_cmp (((airS (eiF d c) sw ((16 * m2 + m1) / 64) 8).toUInt64 >>> ((nI ((16 * m2 + m1) % 64)).toInt64.toUInt64 &&& Int64.toUInt64 63)).toInt64 &&& 1) (0) = 0) : nI 1 = if covB d c sw (nI m1) (nI m2) = true then nI 1 else nI 0 := by
  cases q : covB d c sw (nI m1) (nI m2) with
  | true => rfl
  | false =>
    exfalso
    rw [← cov_cell hsw h1 h2] at q
    apply h
    rw [(bit_z _ _ (Nat.mod_lt _ (by decide))).mpr q]
    decide
theorem i_c_X2_sharingPairs_X2 : ∀ w ∈ wsX20, w ∈ wsX2_sharingPairs := fun w h => (List.mem_cons_of_mem _ (List.mem_append_left _ (List.mem_append_left _ (List.mem_append_right _ h))))
theorem i_c_X2_sharingPairs_X1 : ∀ w ∈ wsX10, w ∈ wsX2_sharingPairs := fun w h => (List.mem_cons_of_mem _ (List.mem_append_left _ (List.mem_append_right _ h)))
set_option maxRecDepth 100000 in
set_option maxHeartbeats 4000000 in
theorem c_X2_sharingPairs (l : Launch) (D : va_G) (y : zY) (bd : Nat) (a : Nat) (d : Nat → Int32) (ca : Nat → Nat) (pa : Nat → Nat) (pk : Nat → Nat) (hI : zI d) (hv24 : vn d ≤ 24) (hS : ∀ p, p < nG d → swW (pm d p 3)) : Met l yX2_sharingPairs wsX2_sharingPairs ({ frames := 2, cells := 0, slots := 0, locals := 54 }) (zP [.ref a] (fun H => sD D y bd a d ca pa pk H) D y) (zQ (some (.int (togI d true)))) 0 0 nofree := by
  refine z_body (cc := cX2_sharingPairs) (maxL := 6) (ret := (some .int)) (la := [(0, .ref a)]) (by decide) rfl (Nat.le_of_ble_eq_true rfl) rfl ?_
  intro pg ev s mm below meth c0 ls hx hb hr hF hlocks hΦ hK hl _
  have hts := hF.2.2.2.2
  have hown : s.vm.findClass RX2 = some mm.cls := hF.2.2.2.1
  have hG2 := hI.ng2
  have hC8 := hI.nc8
  have hS0 := hΦ
  obtain ⟨cs, ns, se, wi, al, re, gi, ps, ss, vs, hP, hR, hC, hE, hT⟩ := hS0
  refine lv_iconst (v := (nI 0)) hx hb dX2_sharingPairs_0 (by decide) ?_
  refine lv_istore_n (lv' := [(1, .int (nI 0)), (0, .ref a)]) hx hb dX2_sharingPairs_1 rfl hl (by decide) rfl (fun ls hl => ?_)
  refine lv_iconst (v := (nI 0)) hx hb dX2_sharingPairs_2 (by decide) ?_
  refine lv_istore_n (lv' := [(2, .int (nI 0)), (1, .int (nI 0)), (0, .ref a)]) hx hb dX2_sharingPairs_3 rfl hl (by decide) rfl (fun ls hl => ?_)
  have hl := lv_repl (l' := [(2, .int (nI 0)), (1, .int (shS d (vn d) 0)), (0, .ref a)]) hl 1 rfl (congrArg Value.int (show (nI 0) = (shS d (vn d) 0) from rfl)) rfl
  refine z_loop (S := Nat) (nL := 6) (fun (i : Nat) => vn d - i) (fun (i : Nat) => [(2, .int (nI i)), (1, .int (shS d (vn d) i)), (0, .ref a)]) (fun (i : Nat) => i ≤ vn d) 0 (by omega) (lv_sub hl [0, 1, 2] rfl) ?_
  clear hl
  rintro i ls hI_4 hl ih_4
  have hi := hI_4
  refine lv_iload_n hx hb dX2_sharingPairs_4 rfl (lv_at hl 0 rfl) ?_
  refine lv_aload_n hx hb dX2_sharingPairs_5 rfl (lv_at hl 2 rfl) ?_
  refine z_get (fs := [.ref (a + 1), .int (nI (nC d)), .ref (a + 2), .ref (a + 3), .ref (a + 4), .ref (a + 5), .ref (a + 6), .ref (a + 7), .ref (a + 8), .int (nI (nG d)), .ref (a + 9), .ref (a + 10), .int (nI (vn d))]) (ref := "CranePermits$Site") (C := RX2) (T := TX2) (N := 13) (ci := 2) (v := .int (nI (vn d))) hx hb hts i_c_X2_sharingPairs_X2 hown hK (hP 0 _ rfl) 12 (by decide) rfl (hts (.fieldLink RX2 55 "CranePermits$Site" "validCount" "I") (List.mem_of_getElem? (i := 1) rfl)) rfl rfl dX2_sharingPairs_6 ?_
  refine z_ge (tgt := 89) hx hb (by omega) (by omega) dX2_sharingPairs_9 (by decide) (fun c9 => ?_) (fun c9 => ?_)
  · refine lv_iload_n hx hb dX2_sharingPairs_89 rfl (lv_at hl 1 rfl) ?_
    exact z_reti hx hb hr hlocks rfl (by rw [show i = vn d by omega]; exact shS_t d) dX2_sharingPairs_90
  · refine lv_aload_n hx hb dX2_sharingPairs_12 rfl (lv_at hl 2 rfl) ?_
    refine lv_iload_n hx hb dX2_sharingPairs_13 rfl (lv_at hl 0 rfl) ?_
    refine z_callV (As := [.int (nI i)]) (rest := []) hF hK (c_X2_validAt_in l D y bd a d ca pa pk i (hI) (hv24) (by omega)) (cwV 1 hts gX2_sharingPairs_X2_validAt rfl rfl rfl (by decide +kernel) ⟨Nat.le_of_ble_eq_true rfl, Nat.le_of_ble_eq_true rfl⟩) (z_recv (q := (RX2, TX2, 13)) hK (hP 0 _ rfl) rfl) hΦ rfl hl.1 rfl (Nat.le_of_ble_eq_true rfl) dX2_sharingPairs_14 ⟨Nat.zero_le _, Nat.zero_le _⟩ ?_
    refine lv_astore_n (lv' := [(3, .ref (pa (vx d i))), (2, .int (nI i)), (1, .int (shS d (vn d) i)), (0, .ref a)]) hx hb dX2_sharingPairs_17 rfl hl (by decide) rfl (fun ls hl => ?_)
    refine lv_iload_n hx hb dX2_sharingPairs_18 rfl (lv_at hl 1 rfl) ?_
    refine lv_iconst (v := (nI 1)) hx hb dX2_sharingPairs_19 (by decide) ?_
    refine z_iadd hx hb dX2_sharingPairs_20 ?_
    refine lv_istore (lv' := [(4, .int (nI (i + 1))), (3, .ref (pa (vx d i))), (2, .int (nI i)), (1, .int (shS d (vn d) i)), (0, .ref a)]) hx hb dX2_sharingPairs_21 hl (by decide) rfl (fun ls hl => ?_)
    have hl := lv_repl (l' := [(4, .int (nI (i + 1 + 0))), (3, .ref (pa (vx d i))), (2, .int (nI i)), (1, .int (shS d (vn d) i)), (0, .ref a)]) hl 0 rfl (congrArg Value.int (show (nI (i + 1)) = (nI (i + 1 + 0)) from rfl)) rfl
    have hl := lv_repl (l' := [(4, .int (nI (i + 1 + 0))), (3, .ref (pa (vx d i))), (2, .int (nI i)), (1, .int (accN (fun u => aiF d (vx d i) (vx d (i + 1 + u))) (shS d (vn d) i) 0)), (0, .ref a)]) hl 3 rfl (congrArg Value.int (show (shS d (vn d) i) = (accN (fun u => aiF d (vx d i) (vx d (i + 1 + u))) (shS d (vn d) i) 0) from rfl)) rfl
    refine z_loop (S := Nat) (nL := 6) (fun (k : Nat) => vn d - (i + 1 + k)) (fun (k : Nat) => [(4, .int (nI (i + 1 + k))), (1, .int (accN (fun u => aiF d (vx d i) (vx d (i + 1 + u))) (shS d (vn d) i) k)), (2, .int (nI i)), (3, .ref (pa (vx d i))), (0, .ref a)]) (fun (k : Nat) => i + 1 + k ≤ vn d) 0 (by omega) (lv_sub hl [0, 3, 2, 1, 4] rfl) ?_
    clear hl
    rintro k ls hI_23 hl ih_23
    have hk := hI_23
    refine lv_aload_n hx hb dX2_sharingPairs_23 rfl (lv_at hl 3 rfl) ?_
    refine lv_ifnull hx hb dX2_sharingPairs_24 ?_
    refine lv_iload hx hb dX2_sharingPairs_27 (lv_at hl 0 rfl) ?_
    refine lv_aload_n hx hb dX2_sharingPairs_29 rfl (lv_at hl 4 rfl) ?_
    refine z_get (fs := [.ref (a + 1), .int (nI (nC d)), .ref (a + 2), .ref (a + 3), .ref (a + 4), .ref (a + 5), .ref (a + 6), .ref (a + 7), .ref (a + 8), .int (nI (nG d)), .ref (a + 9), .ref (a + 10), .int (nI (vn d))]) (ref := "CranePermits$Site") (C := RX2) (T := TX2) (N := 13) (ci := 2) (v := .int (nI (vn d))) hx hb hts i_c_X2_sharingPairs_X2 hown hK (hP 0 _ rfl) 12 (by decide) rfl (hts (.fieldLink RX2 55 "CranePermits$Site" "validCount" "I") (List.mem_of_getElem? (i := 1) rfl)) rfl rfl dX2_sharingPairs_30 ?_
    refine z_ge (tgt := 83) hx hb (by omega) (by omega) dX2_sharingPairs_33 (by decide) (fun c33 => ?_) (fun c33 => ?_)
    · refine lv_iinc (v := (nI (i + 1))) (lv' := [(2, .int (nI (i + 1))), (4, .int (nI (i + 1 + k))), (1, .int (accN (fun u => aiF d (vx d i) (vx d (i + 1 + u))) (shS d (vn d) i) k)), (3, .ref (pa (vx d i))), (0, .ref a)]) hx hb dX2_sharingPairs_83 hl (k := 2) rfl (in1 _) (by decide) rfl (fun ls hl => ?_)
      refine lv_goto (tgt := 4) hx hb dX2_sharingPairs_86 (by decide) ?_
      have hl := lv_repl (l' := [(2, .int (nI (i + 1))), (4, .int (nI (i + 1 + k))), (1, .int (shS d (vn d) (i + 1))), (3, .ref (pa (vx d i))), (0, .ref a)]) hl 2 rfl (congrArg Value.int (show (accN (fun u => aiF d (vx d i) (vx d (i + 1 + u))) (shS d (vn d) i) k) = (shS d (vn d) (i + 1)) from by rw [shS, show vn d - (i + 1) = k by omega])) rfl
      exact ih_4 (i + 1) _ (by omega) (by omega) (lv_sub hl [0, 2, 4] rfl)
    · refine lv_aload_n hx hb dX2_sharingPairs_36 rfl (lv_at hl 4 rfl) ?_
      refine lv_iload hx hb dX2_sharingPairs_37 (lv_at hl 0 rfl) ?_
      refine z_callV (As := [.int (nI (i + 1 + k))]) (rest := []) hF hK (c_X2_validAt_in l D y bd a d ca pa pk (i + 1 + k) (hI) (hv24) (by omega)) (cwV 1 hts gX2_sharingPairs_X2_validAt rfl rfl rfl (by decide +kernel) ⟨Nat.le_of_ble_eq_true rfl, Nat.le_of_ble_eq_true rfl⟩) (z_recv (q := (RX2, TX2, 13)) hK (hP 0 _ rfl) rfl) hΦ rfl hl.1 rfl (Nat.le_of_ble_eq_true rfl) dX2_sharingPairs_39 ⟨Nat.zero_le _, Nat.zero_le _⟩ ?_
      refine lv_astore (lv' := [(5, .ref (pa (vx d (i + 1 + k)))), (4, .int (nI (i + 1 + k))), (1, .int (accN (fun u => aiF d (vx d i) (vx d (i + 1 + u))) (shS d (vn d) i) k)), (2, .int (nI i)), (3, .ref (pa (vx d i))), (0, .ref a)]) hx hb dX2_sharingPairs_42 hl (by decide) rfl (fun ls hl => ?_)
      refine lv_aload hx hb dX2_sharingPairs_44 (lv_at hl 0 rfl) ?_
      refine lv_ifnull hx hb dX2_sharingPairs_46 ?_
      refine lv_aload_n hx hb dX2_sharingPairs_49 rfl (lv_at hl 5 rfl) ?_
      refine lv_aload_n hx hb dX2_sharingPairs_50 rfl (lv_at hl 4 rfl) ?_
      refine z_get (fs := [.int (nI (vx d i)), .ref (pk (vx d i)), .int (pm d (vx d i) 1), .int (pm d (vx d i) 2), .int (pm d (vx d i) 2 / nI 10), .int (pm d (vx d i) 2 - pm d (vx d i) 2 / nI 10 * nI 10), .int (pm d (vx d i) 3)]) (ref := "CranePermits$Permit") (C := RX1) (T := TX1) (N := 7) (ci := 1) (v := .ref (pk (vx d i))) hx hb hts i_c_X2_sharingPairs_X1 hown hK (hE (vx d i) (vx_in (by omega)).1).2.2.1 1 (by decide) rfl (hts (.fieldLink RX2 113 "CranePermits$Permit" "crane" "LCranePermits$Crane;") (List.mem_of_getElem? (i := 2) rfl)) rfl rfl dX2_sharingPairs_51 ?_
      refine lv_aload_n hx hb dX2_sharingPairs_54 rfl (lv_at hl 4 rfl) ?_
      refine z_get (fs := [.int (nI (vx d i)), .ref (pk (vx d i)), .int (pm d (vx d i) 1), .int (pm d (vx d i) 2), .int (pm d (vx d i) 2 / nI 10), .int (pm d (vx d i) 2 - pm d (vx d i) 2 / nI 10 * nI 10), .int (pm d (vx d i) 3)]) (ref := "CranePermits$Permit") (C := RX1) (T := TX1) (N := 7) (ci := 1) (v := .int (pm d (vx d i) 1)) hx hb hts i_c_X2_sharingPairs_X1 hown hK (hE (vx d i) (vx_in (by omega)).1).2.2.1 2 (by decide) rfl (hts (.fieldLink RX2 159 "CranePermits$Permit" "night" "I") (List.mem_of_getElem? (i := 3) rfl)) rfl rfl dX2_sharingPairs_55 ?_
      refine lv_aload_n hx hb dX2_sharingPairs_58 rfl (lv_at hl 4 rfl) ?_
      refine z_get (fs := [.int (nI (vx d i)), .ref (pk (vx d i)), .int (pm d (vx d i) 1), .int (pm d (vx d i) 2), .int (pm d (vx d i) 2 / nI 10), .int (pm d (vx d i) 2 - pm d (vx d i) 2 / nI 10 * nI 10), .int (pm d (vx d i) 3)]) (ref := "CranePermits$Permit") (C := RX1) (T := TX1) (N := 7) (ci := 1) (v := .int (pm d (vx d i) 2)) hx hb hts i_c_X2_sharingPairs_X1 hown hK (hE (vx d i) (vx_in (by omega)).1).2.2.1 3 (by decide) rfl (hts (.fieldLink RX2 117 "CranePermits$Permit" "hours" "I") (List.mem_of_getElem? (i := 4) rfl)) rfl rfl dX2_sharingPairs_59 ?_
      refine lv_aload_n hx hb dX2_sharingPairs_62 rfl (lv_at hl 4 rfl) ?_
      refine z_get (fs := [.int (nI (vx d i)), .ref (pk (vx d i)), .int (pm d (vx d i) 1), .int (pm d (vx d i) 2), .int (pm d (vx d i) 2 / nI 10), .int (pm d (vx d i) 2 - pm d (vx d i) 2 / nI 10 * nI 10), .int (pm d (vx d i) 3)]) (ref := "CranePermits$Permit") (C := RX1) (T := TX1) (N := 7) (ci := 1) (v := .int (pm d (vx d i) 3)) hx hb hts i_c_X2_sharingPairs_X1 hown hK (hE (vx d i) (vx_in (by omega)).1).2.2.1 6 (by decide) rfl (hts (.fieldLink RX2 151 "CranePermits$Permit" "swing" "I") (List.mem_of_getElem? (i := 5) rfl)) rfl rfl dX2_sharingPairs_63 ?_
      refine lv_aload hx hb dX2_sharingPairs_66 (lv_at hl 0 rfl) ?_
      refine z_callV (As := [.ref (pk (vx d i)), .int (pm d (vx d i) 1), .int (pm d (vx d i) 2), .int (pm d (vx d i) 3), .ref (pa (vx d (i + 1 + k)))]) (rest := []) hF hK (c_X2_shareAir l D y bd a d ca pa pk (pk (vx d i)) (pC d (vx d i)) (pa (vx d (i + 1 + k))) (vx d (i + 1 + k)) (pk (vx d (i + 1 + k))) (pm d (vx d i) 1) (pm d (vx d i) 2) (pm d (vx d i) 3) (hI) (hv24) (hI.pc8 (vx_in (by omega)).1) ((vx_in (by omega)).1) (hS _ (vx_in (by omega)).1) (hS _ (vx_in (by omega)).1)) (cwV 5 hts gX2_sharingPairs_X2_shareAir rfl rfl rfl (by decide +kernel) ⟨Nat.le_of_ble_eq_true rfl, Nat.le_of_ble_eq_true rfl⟩) (z_recv (q := (RX2, TX2, 13)) hK (hP 0 _ rfl) rfl) ⟨hΦ, (hE (vx d i) (vx_in (by omega)).1).2.2.2, (hE (vx d (i + 1 + k)) (vx_in (by omega)).1).2.2⟩ rfl hl.1 rfl (Nat.le_of_ble_eq_true rfl) dX2_sharingPairs_68 ⟨Nat.zero_le _, Nat.zero_le _⟩ ?_
      refine z_ifeq (tgt := 77) hx hb dX2_sharingPairs_71 (by decide) (fun c71 => ?_) (fun c71 => ?_)
      · refine lv_iinc (v := (nI (i + 1 + k + 1))) (lv' := [(4, .int (nI (i + 1 + k + 1))), (5, .ref (pa (vx d (i + 1 + k)))), (1, .int (accN (fun u => aiF d (vx d i) (vx d (i + 1 + u))) (shS d (vn d) i) k)), (2, .int (nI i)), (3, .ref (pa (vx d i))), (0, .ref a)]) hx hb dX2_sharingPairs_77 hl (k := 1) rfl (in1 _) (by decide) rfl (fun ls hl => ?_)
        refine lv_goto (tgt := 23) hx hb dX2_sharingPairs_80 (by decide) ?_
        have hl := lv_repl (l' := [(4, .int (nI (i + 1 + (k + 1)))), (5, .ref (pa (vx d (i + 1 + k)))), (1, .int (accN (fun u => aiF d (vx d i) (vx d (i + 1 + u))) (shS d (vn d) i) k)), (2, .int (nI i)), (3, .ref (pa (vx d i))), (0, .ref a)]) hl 0 rfl (congrArg Value.int (show (nI (i + 1 + k + 1)) = (nI (i + 1 + (k + 1))) from rfl)) rfl
        have hl := lv_repl (l' := [(4, .int (nI (i + 1 + (k + 1)))), (5, .ref (pa (vx d (i + 1 + k)))), (1, .int (accN (fun u => aiF d (vx d i) (vx d (i + 1 + u))) (shS d (vn d) i) (k + 1))), (2, .int (nI i)), (3, .ref (pa (vx d i))), (0, .ref a)]) hl 2 rfl (congrArg Value.int (show (accN (fun u => aiF d (vx d i) (vx d (i + 1 + u))) (shS d (vn d) i) k) = (accN (fun u => aiF d (vx d i) (vx d (i + 1 + u))) (shS d (vn d) i) (k + 1)) from by rw [accN_s, aiF]; first | (rw [if_pos (show aiP d (vx d i) (vx d (i + 1 + k)) = true from c71)]; rfl) | (rw [if_neg (bf (show aiP d (vx d i) (vx d (i + 1 + k)) = false from c71))]; exact (add_z _).symm))) rfl
        exact ih_23 (k + 1) _ (by omega) (by omega) (lv_sub hl [0, 2, 3, 4, 5] rfl)
      · refine lv_iinc (v := ((accN (fun u => aiF d (vx d i) (vx d (i + 1 + u))) (shS d (vn d) i) k) + 1)) (lv' := [(1, .int ((accN (fun u => aiF d (vx d i) (vx d (i + 1 + u))) (shS d (vn d) i) k) + 1)), (5, .ref (pa (vx d (i + 1 + k)))), (4, .int (nI (i + 1 + k))), (2, .int (nI i)), (3, .ref (pa (vx d i))), (0, .ref a)]) hx hb dX2_sharingPairs_74 hl (k := 2) rfl (rfl) (by decide) rfl (fun ls hl => ?_)
        refine lv_iinc (v := (nI (i + 1 + k + 1))) (lv' := [(4, .int (nI (i + 1 + k + 1))), (1, .int ((accN (fun u => aiF d (vx d i) (vx d (i + 1 + u))) (shS d (vn d) i) k) + 1)), (5, .ref (pa (vx d (i + 1 + k)))), (2, .int (nI i)), (3, .ref (pa (vx d i))), (0, .ref a)]) hx hb dX2_sharingPairs_77 hl (k := 2) rfl (in1 _) (by decide) rfl (fun ls hl => ?_)
        refine lv_goto (tgt := 23) hx hb dX2_sharingPairs_80 (by decide) ?_
        have hl := lv_repl (l' := [(4, .int (nI (i + 1 + (k + 1)))), (1, .int ((accN (fun u => aiF d (vx d i) (vx d (i + 1 + u))) (shS d (vn d) i) k) + 1)), (5, .ref (pa (vx d (i + 1 + k)))), (2, .int (nI i)), (3, .ref (pa (vx d i))), (0, .ref a)]) hl 0 rfl (congrArg Value.int (show (nI (i + 1 + k + 1)) = (nI (i + 1 + (k + 1))) from rfl)) rfl
        have hl := lv_repl (l' := [(4, .int (nI (i + 1 + (k + 1)))), (1, .int (accN (fun u => aiF d (vx d i) (vx d (i + 1 + u))) (shS d (vn d) i) (k + 1))), (5, .ref (pa (vx d (i + 1 + k)))), (2, .int (nI i)), (3, .ref (pa (vx d i))), (0, .ref a)]) hl 1 rfl (congrArg Value.int (show ((accN (fun u => aiF d (vx d i) (vx d (i + 1 + u))) (shS d (vn d) i) k) + 1) = (accN (fun u => aiF d (vx d i) (vx d (i + 1 + u))) (shS d (vn d) i) (k + 1)) from by rw [accN_s, aiF]; first | (rw [if_pos (show aiP d (vx d i) (vx d (i + 1 + k)) = true from c71)]; rfl) | (rw [if_neg (bf (show aiP d (vx d i) (vx d (i + 1 + k)) = false from c71))]; exact (add_z _).symm))) rfl
        exact ih_23 (k + 1) _ (by omega) (by omega) (lv_sub hl [0, 1, 3, 4, 5] rfl)
theorem i_c_X4_craneOf_X4 : ∀ w ∈ wsX40, w ∈ wsX4_craneOf := fun w h => (List.mem_cons_of_mem _ (List.mem_append_left _ (List.mem_append_left _ (List.mem_append_left _ (List.mem_append_right _ h)))))
theorem i_c_X4_craneOf_X0 : ∀ w ∈ wsX00, w ∈ wsX4_craneOf := fun w h => (List.mem_cons_of_mem _ (List.mem_append_left _ (List.mem_append_left _ (List.mem_append_right _ h))))
theorem i_c_X4_craneOf_X2 : ∀ w ∈ wsX20, w ∈ wsX4_craneOf := fun w h => (List.mem_cons_of_mem _ (List.mem_append_left _ (List.mem_append_right _ h)))
set_option maxRecDepth 100000 in
set_option maxHeartbeats 4000000 in
theorem c_X4_craneOf (l : Launch) (D : va_G) (y : zY) (x : Nat) (bd : Nat) (d : Nat → Int32) (ca : Nat → Nat) (pa : Nat → Nat) (pk : Nat → Nat) (k : Nat) (len : Nat) (tf : Nat → Int32) (c : Int32) (w : Int32) (hJ : rJ d) (hk4 : k ≤ 4) (hl80 : len ≤ 80) : Met l yX4_craneOf wsX4_craneOf ({ frames := 2, cells := 0, slots := 0, locals := 46 }) (zP [.ref x, .int c, .int w] (fun H => clR D y x bd d ca pa pk k len tf H) D y) (zQ (some (.int (aCraneOf d c w)))) 0 0 nofree := by
  refine z_body (cc := cX4_craneOf) (maxL := 4) (ret := (some .int)) (la := [(0, .ref x), (1, .int c), (2, .int w)]) (by decide) rfl (Nat.le_of_ble_eq_true rfl) rfl ?_
  intro pg ev s mm below meth c0 ls hx hb hr hF hlocks hΦ hK hl _
  have hts := hF.2.2.2.2
  have hown : s.vm.findClass RX4 = some mm.cls := hF.2.2.2.1
  have hI := hJ.1
  have hv24 := hJ.2.1
  have hpl := hJ.2.2.1
  have hS := hpl.w
  have hG2 := hI.ng2
  have hC8 := hI.nc8
  have hS0 := hΦ.2.2
  obtain ⟨cs, ns, se, wi, al, re, gi, ps, ss, vs, hP, hR, hC, hE, hT⟩ := hS0
  refine lv_aload_n hx hb dX4_craneOf_0 rfl (lv_at hl 0 rfl) ?_
  refine z_get (fs := [.ref (x + 1), .ref (x + 12), .ref (x + 23), .int (nI k), .ref (x + 24)]) (ref := "CranePermits") (C := RX4) (T := TX4) (N := 5) (ci := 4) (v := .ref (x + 1)) hx hb hts i_c_X4_craneOf_X4 hown hK hΦ.1 0 (by decide) rfl (hts (.fieldLink RX4 10 "CranePermits" "now" "LCranePermits$Site;") (List.mem_of_getElem? (i := 1) rfl)) rfl rfl dX4_craneOf_1 ?_
  refine lv_iload_n hx hb dX4_craneOf_4 rfl (lv_at hl 1 rfl) ?_
  rcases Bool.eq_false_or_eq_true (inB c (nI 0) (d 0 - nI 1)) with c5 | c5
  · obtain ⟨j, hj, rfl⟩ := in_nc hI c5
    have ej : cl (nI j) = j := cl_nI (by omega)
    refine z_callV (As := [.int (nI j)]) (rest := []) hF hK (c_X2_craneAt_in l D y bd (x + 1) d ca pa pk j (hI) (hv24) (by omega)) (cwV 1 hts gX4_craneOf_X2_craneAt rfl rfl rfl (by decide +kernel) ⟨Nat.le_of_ble_eq_true rfl, Nat.le_of_ble_eq_true rfl⟩) (z_recv (q := (RX2, TX2, 13)) hK (hP 0 _ rfl) rfl) hΦ.2.2 rfl hl.1 rfl (Nat.le_of_ble_eq_true rfl) dX4_craneOf_5 ⟨Nat.zero_le _, Nat.zero_le _⟩ ?_
    refine lv_astore_n (lv' := [(3, .ref (ca j)), (0, .ref x), (1, .int (nI j)), (2, .int w)]) hx hb dX4_craneOf_8 rfl hl (by decide) rfl (fun ls hl => ?_)
    refine lv_aload_n hx hb dX4_craneOf_9 rfl (lv_at hl 0 rfl) ?_
    refine lv_ifnonnull (tgt := 17) hx hb dX4_craneOf_10 (by decide) ?_
    refine lv_iload_n hx hb dX4_craneOf_17 rfl (lv_at hl 3 rfl) ?_
    rcases sw_0_7 w with c18 | c18 | c18 | c18 | c18 | c18 | c18 | c18 | ⟨c18_0, c18_1, c18_2, c18_3, c18_4, c18_5, c18_6, c18_7⟩
    · refine lv_tableIn (off := 46) (tgt := 64) hx hb dX4_craneOf_18 (by rw [c18]; decide) (by rw [c18]; decide) (by rw [c18]; rfl) (by decide) ?_
      refine lv_aload_n hx hb dX4_craneOf_64 rfl (lv_at hl 0 rfl) ?_
      refine z_get (fs := [.int (nI j), .int (gr d j 0), .int (gr d j 1), .int (gr d j 2), .int (gr d j 3), .int (gr d j 4), .ref ((ca j) + 1)]) (ref := "CranePermits$Crane") (C := RX0) (T := TX0) (N := 7) (ci := 0) (v := .int (gr d j 0)) hx hb hts i_c_X4_craneOf_X0 hown hK (hC j (by omega)).2.1 1 (by decide) rfl (hts (.fieldLink RX4 83 "CranePermits$Crane" "x" "I") (List.mem_of_getElem? (i := 2) rfl)) rfl rfl dX4_craneOf_65 ?_
      exact z_reti hx hb hr hlocks rfl (by unfold aCraneOf; rw [if_pos c5, c18, if_pos (by decide), ej]; rfl) dX4_craneOf_68
    · refine lv_tableIn (off := 51) (tgt := 69) hx hb dX4_craneOf_18 (by rw [c18]; decide) (by rw [c18]; decide) (by rw [c18]; rfl) (by decide) ?_
      refine lv_aload_n hx hb dX4_craneOf_69 rfl (lv_at hl 0 rfl) ?_
      refine z_get (fs := [.int (nI j), .int (gr d j 0), .int (gr d j 1), .int (gr d j 2), .int (gr d j 3), .int (gr d j 4), .ref ((ca j) + 1)]) (ref := "CranePermits$Crane") (C := RX0) (T := TX0) (N := 7) (ci := 0) (v := .int (gr d j 1)) hx hb hts i_c_X4_craneOf_X0 hown hK (hC j (by omega)).2.1 2 (by decide) rfl (hts (.fieldLink RX4 86 "CranePermits$Crane" "y" "I") (List.mem_of_getElem? (i := 3) rfl)) rfl rfl dX4_craneOf_70 ?_
      exact z_reti hx hb hr hlocks rfl (by unfold aCraneOf; rw [if_pos c5, c18, if_pos (by decide), ej]; rfl) dX4_craneOf_73
    · refine lv_tableIn (off := 56) (tgt := 74) hx hb dX4_craneOf_18 (by rw [c18]; decide) (by rw [c18]; decide) (by rw [c18]; rfl) (by decide) ?_
      refine lv_aload_n hx hb dX4_craneOf_74 rfl (lv_at hl 0 rfl) ?_
      refine z_get (fs := [.int (nI j), .int (gr d j 0), .int (gr d j 1), .int (gr d j 2), .int (gr d j 3), .int (gr d j 4), .ref ((ca j) + 1)]) (ref := "CranePermits$Crane") (C := RX0) (T := TX0) (N := 7) (ci := 0) (v := .int (gr d j 2)) hx hb hts i_c_X4_craneOf_X0 hown hK (hC j (by omega)).2.1 3 (by decide) rfl (hts (.fieldLink RX4 89 "CranePermits$Crane" "reach" "I") (List.mem_of_getElem? (i := 4) rfl)) rfl rfl dX4_craneOf_75 ?_
      exact z_reti hx hb hr hlocks rfl (by unfold aCraneOf; rw [if_pos c5, c18, if_pos (by decide), ej]; rfl) dX4_craneOf_78
    · refine lv_tableIn (off := 61) (tgt := 79) hx hb dX4_craneOf_18 (by rw [c18]; decide) (by rw [c18]; decide) (by rw [c18]; rfl) (by decide) ?_
      refine lv_aload_n hx hb dX4_craneOf_79 rfl (lv_at hl 0 rfl) ?_
      refine z_get (fs := [.int (nI j), .int (gr d j 0), .int (gr d j 1), .int (gr d j 2), .int (gr d j 3), .int (gr d j 4), .ref ((ca j) + 1)]) (ref := "CranePermits$Crane") (C := RX0) (T := TX0) (N := 7) (ci := 0) (v := .int (gr d j 3)) hx hb hts i_c_X4_craneOf_X0 hown hK (hC j (by omega)).2.1 4 (by decide) rfl (hts (.fieldLink RX4 92 "CranePermits$Crane" "height" "I") (List.mem_of_getElem? (i := 5) rfl)) rfl rfl dX4_craneOf_80 ?_
      exact z_reti hx hb hr hlocks rfl (by unfold aCraneOf; rw [if_pos c5, c18, if_pos (by decide), ej]; rfl) dX4_craneOf_83
    · refine lv_tableIn (off := 66) (tgt := 84) hx hb dX4_craneOf_18 (by rw [c18]; decide) (by rw [c18]; decide) (by rw [c18]; rfl) (by decide) ?_
      refine lv_aload_n hx hb dX4_craneOf_84 rfl (lv_at hl 0 rfl) ?_
      refine z_get (fs := [.int (nI j), .int (gr d j 0), .int (gr d j 1), .int (gr d j 2), .int (gr d j 3), .int (gr d j 4), .ref ((ca j) + 1)]) (ref := "CranePermits$Crane") (C := RX0) (T := TX0) (N := 7) (ci := 0) (v := .int (gr d j 4)) hx hb hts i_c_X4_craneOf_X0 hown hK (hC j (by omega)).2.1 5 (by decide) rfl (hts (.fieldLink RX4 95 "CranePermits$Crane" "street" "I") (List.mem_of_getElem? (i := 6) rfl)) rfl rfl dX4_craneOf_85 ?_
      exact z_reti hx hb hr hlocks rfl (by unfold aCraneOf; rw [if_pos c5, c18, if_pos (by decide), ej]; rfl) dX4_craneOf_88
    · refine lv_tableIn (off := 71) (tgt := 89) hx hb dX4_craneOf_18 (by rw [c18]; decide) (by rw [c18]; decide) (by rw [c18]; rfl) (by decide) ?_
      refine lv_aload_n hx hb dX4_craneOf_89 rfl (lv_at hl 1 rfl) ?_
      refine z_get (fs := [.ref (x + 1), .ref (x + 12), .ref (x + 23), .int (nI k), .ref (x + 24)]) (ref := "CranePermits") (C := RX4) (T := TX4) (N := 5) (ci := 4) (v := .ref (x + 1)) hx hb hts i_c_X4_craneOf_X4 hown hK hΦ.1 0 (by decide) rfl (hts (.fieldLink RX4 10 "CranePermits" "now" "LCranePermits$Site;") (List.mem_of_getElem? (i := 1) rfl)) rfl rfl dX4_craneOf_90 ?_
      refine z_get (fs := [.ref ((x + 1) + 1), .int (nI (nC d)), .ref ((x + 1) + 2), .ref ((x + 1) + 3), .ref ((x + 1) + 4), .ref ((x + 1) + 5), .ref ((x + 1) + 6), .ref ((x + 1) + 7), .ref ((x + 1) + 8), .int (nI (nG d)), .ref ((x + 1) + 9), .ref ((x + 1) + 10), .int (nI (vn d))]) (ref := "CranePermits$Site") (C := RX2) (T := TX2) (N := 13) (ci := 2) (v := .ref ((x + 1) + 2)) hx hb hts i_c_X4_craneOf_X2 hown hK (hP 0 _ rfl) 2 (by decide) rfl (hts (.fieldLink RX4 71 "CranePermits$Site" "noises" "[I") (List.mem_of_getElem? (i := 7) rfl)) rfl rfl dX4_craneOf_93 ?_
      refine lv_aload_n hx hb dX4_craneOf_96 rfl (lv_at hl 0 rfl) ?_
      refine z_get (fs := [.int (nI j), .int (gr d j 0), .int (gr d j 1), .int (gr d j 2), .int (gr d j 3), .int (gr d j 4), .ref ((ca j) + 1)]) (ref := "CranePermits$Crane") (C := RX0) (T := TX0) (N := 7) (ci := 0) (v := .int (nI j)) hx hb hts i_c_X4_craneOf_X0 hown hK (hC j (by omega)).2.1 0 (by decide) rfl (hts (.fieldLink RX4 64 "CranePermits$Crane" "number" "I") (List.mem_of_getElem? (i := 8) rfl)) rfl rfl dX4_craneOf_97 ?_
      refine z_callS (As := [.ref ((x + 1) + 2), .int (nI j)]) (rest := []) hF hK (c_X4_at l D y ((x + 1) + 2) 8 ns j (by omega) (by decide)) (va_cwS 2 hts gX4_craneOf_X4_at rfl rfl rfl (by decide +kernel) ⟨Nat.le_of_ble_eq_true rfl, Nat.le_of_ble_eq_true rfl⟩) (hP 2 _ rfl) rfl hl.1 rfl (Nat.le_of_ble_eq_true rfl) dX4_craneOf_100 ⟨Nat.zero_le _, Nat.zero_le _⟩ ?_
      refine z_topi (z := (gr d j 5)) (hR.2.1 j (by omega)) ?_
      exact z_reti hx hb hr hlocks rfl (by unfold aCraneOf; rw [if_pos c5, c18, if_pos (by decide), ej]; rfl) dX4_craneOf_103
    · refine lv_tableIn (off := 86) (tgt := 104) hx hb dX4_craneOf_18 (by rw [c18]; decide) (by rw [c18]; decide) (by rw [c18]; rfl) (by decide) ?_
      refine lv_aload_n hx hb dX4_craneOf_104 rfl (lv_at hl 1 rfl) ?_
      refine z_get (fs := [.ref (x + 1), .ref (x + 12), .ref (x + 23), .int (nI k), .ref (x + 24)]) (ref := "CranePermits") (C := RX4) (T := TX4) (N := 5) (ci := 4) (v := .ref (x + 1)) hx hb hts i_c_X4_craneOf_X4 hown hK hΦ.1 0 (by decide) rfl (hts (.fieldLink RX4 10 "CranePermits" "now" "LCranePermits$Site;") (List.mem_of_getElem? (i := 1) rfl)) rfl rfl dX4_craneOf_105 ?_
      refine lv_aload_n hx hb dX4_craneOf_108 rfl (lv_at hl 0 rfl) ?_
      refine z_callV (As := [.ref (ca j)]) (rest := []) hF hK (c_X2_validOfCrane l D y bd (x + 1) d ca pa pk (ca j) j (hI) (hv24) (by omega)) (cwV 1 hts gX4_craneOf_X2_validOfCrane rfl rfl rfl (by decide +kernel) ⟨Nat.le_of_ble_eq_true rfl, Nat.le_of_ble_eq_true rfl⟩) (z_recv (q := (RX2, TX2, 13)) hK (hP 0 _ rfl) rfl) ⟨hΦ.2.2, (hC j (by omega)).2⟩ rfl hl.1 rfl (Nat.le_of_ble_eq_true rfl) dX4_craneOf_109 ⟨Nat.zero_le _, Nat.zero_le _⟩ ?_
      exact z_reti hx hb hr hlocks rfl (by unfold aCraneOf; rw [if_pos c5, c18, if_pos (by decide), ej]; rfl) dX4_craneOf_112
    · refine lv_tableIn (off := 95) (tgt := 113) hx hb dX4_craneOf_18 (by rw [c18]; decide) (by rw [c18]; decide) (by rw [c18]; rfl) (by decide) ?_
      refine lv_aload_n hx hb dX4_craneOf_113 rfl (lv_at hl 1 rfl) ?_
      refine z_get (fs := [.ref (x + 1), .ref (x + 12), .ref (x + 23), .int (nI k), .ref (x + 24)]) (ref := "CranePermits") (C := RX4) (T := TX4) (N := 5) (ci := 4) (v := .ref (x + 1)) hx hb hts i_c_X4_craneOf_X4 hown hK hΦ.1 0 (by decide) rfl (hts (.fieldLink RX4 10 "CranePermits" "now" "LCranePermits$Site;") (List.mem_of_getElem? (i := 1) rfl)) rfl rfl dX4_craneOf_114 ?_
      refine lv_aload_n hx hb dX4_craneOf_117 rfl (lv_at hl 0 rfl) ?_
      refine z_callV (As := [.ref (ca j)]) (rest := []) hF hK (c_X2_stopWindOf l D y bd (x + 1) d ca pa pk (ca j) j (hI) (hv24)) (cwV 1 hts gX4_craneOf_X2_stopWindOf rfl rfl rfl (by decide +kernel) ⟨Nat.le_of_ble_eq_true rfl, Nat.le_of_ble_eq_true rfl⟩) (z_recv (q := (RX2, TX2, 13)) hK (hP 0 _ rfl) rfl) ⟨hΦ.2.2, (hC j (by omega)).2⟩ rfl hl.1 rfl (Nat.le_of_ble_eq_true rfl) dX4_craneOf_118 ⟨Nat.zero_le _, Nat.zero_le _⟩ ?_
      exact z_reti hx hb hr hlocks rfl (by unfold aCraneOf; rw [if_pos c5, c18, if_pos (by decide), ej]; rfl) dX4_craneOf_121
    · refine lv_tableOut (tgt := 122) hx hb dX4_craneOf_18 (swOut_0_7 c18_0 c18_1 c18_2 c18_3 c18_4 c18_5 c18_6 c18_7) (by decide) ?_
      refine lv_sipush (v := (-1001)) hx hb dX4_craneOf_122 (by decide) ?_
      exact z_reti hx hb hr hlocks rfl (by unfold aCraneOf; rw [if_pos c5, no_7 c18_0 c18_1 c18_2 c18_3 c18_4 c18_5 c18_6 c18_7]; rfl) dX4_craneOf_125
  · refine z_callV (As := [.int c]) (rest := []) hF hK (c_X2_craneAt_out l D y bd (x + 1) d ca pa pk c (hI) (hv24) (c5)) (cwV 1 hts gX4_craneOf_X2_craneAt rfl rfl rfl (by decide +kernel) ⟨Nat.le_of_ble_eq_true rfl, Nat.le_of_ble_eq_true rfl⟩) (z_recv (q := (RX2, TX2, 13)) hK (hP 0 _ rfl) rfl) hΦ.2.2 rfl hl.1 rfl (Nat.le_of_ble_eq_true rfl) dX4_craneOf_5 ⟨Nat.zero_le _, Nat.zero_le _⟩ ?_
    refine lv_astore_nN (lv' := [(3, .null), (0, .ref x), (1, .int c), (2, .int w)]) hx hb dX4_craneOf_8 rfl hl (by decide) rfl (fun ls hl => ?_)
    refine lv_aload_nN hx hb dX4_craneOf_9 rfl (lv_at hl 0 rfl) ?_
    refine lv_ifnonnullN hx hb dX4_craneOf_10 ?_
    refine lv_sipush (v := (-1001)) hx hb dX4_craneOf_13 (by decide) ?_
    exact z_reti hx hb hr hlocks rfl (by unfold aCraneOf; rw [if_neg (bf c5)]) dX4_craneOf_16
theorem i_c_X4_street_X4 : ∀ w ∈ wsX40, w ∈ wsX4_street := fun w h => (List.mem_cons_of_mem _ (List.mem_append_left _ (List.mem_append_left _ (List.mem_append_left _ (List.mem_append_right _ h)))))
theorem i_c_X4_street_X2 : ∀ w ∈ wsX20, w ∈ wsX4_street := fun w h => (List.mem_cons_of_mem _ (List.mem_append_left _ (List.mem_append_left _ (List.mem_append_right _ h))))
set_option maxRecDepth 100000 in
set_option maxHeartbeats 4000000 in
theorem c_X4_street (l : Launch) (D : va_G) (y : zY) (x : Nat) (bd : Nat) (d : Nat → Int32) (ca : Nat → Nat) (pa : Nat → Nat) (pk : Nat → Nat) (k : Nat) (len : Nat) (tf : Nat → Int32) (a : Int32) (n : Int32) (w : Int32) (hJ : rJ d) (hk4 : k ≤ 4) (hl80 : len ≤ 80) : Met l yX4_street wsX4_street ({ frames := 3, cells := 0, slots := 0, locals := 68 }) (zP [.ref x, .int a, .int n, .int w] (fun H => clR D y x bd d ca pa pk k len tf H) D y) (zQ (some (.int (aStreet d a n w)))) 0 0 nofree := by
  refine z_body (cc := cX4_street) (maxL := 4) (ret := (some .int)) (la := [(0, .ref x), (1, .int a), (2, .int n), (3, .int w)]) (by decide) rfl (Nat.le_of_ble_eq_true rfl) rfl ?_
  intro pg ev s mm below meth c0 ls hx hb hr hF hlocks hΦ hK hl _
  have hts := hF.2.2.2.2
  have hown : s.vm.findClass RX4 = some mm.cls := hF.2.2.2.1
  have hI := hJ.1
  have hv24 := hJ.2.1
  have hpl := hJ.2.2.1
  have hS := hpl.w
  have hG2 := hI.ng2
  have hC8 := hI.nc8
  have hS0 := hΦ.2.2
  obtain ⟨cs, ns, se, wi, al, re, gi, ps, ss, vs, hP, hR, hC, hE, hT⟩ := hS0
  refine lv_iload_n hx hb dX4_street_0 rfl (lv_at hl 1 rfl) ?_
  refine z_callS (As := [.int a]) (rest := []) hF hK (c_X4_isStreet l D y a ) (va_cwS 1 hts gX4_street_X4_isStreet rfl rfl rfl (by decide +kernel) ⟨Nat.le_of_ble_eq_true rfl, Nat.le_of_ble_eq_true rfl⟩) trivial rfl hl.1 rfl (Nat.le_of_ble_eq_true rfl) dX4_street_1 ⟨Nat.zero_le _, Nat.zero_le _⟩ ?_
  refine z_ifeq (tgt := 14) hx hb dX4_street_4 (by decide) (fun c4 => ?_) (fun c4 => ?_)
  · refine lv_sipush (v := (-1001)) hx hb dX4_street_14 (by decide) ?_
    exact z_reti hx hb hr hlocks rfl (by unfold aStreet; first | (rw [if_neg (bf c4)]; done) | (rw [if_pos c4, if_neg (bf c11)]; done)) dX4_street_17
  · refine lv_iload_n hx hb dX4_street_7 rfl (lv_at hl 2 rfl) ?_
    refine z_callS (As := [.int n]) (rest := []) hF hK (c_X4_isNight l D y n ) (va_cwS 1 hts gX4_street_X4_isNight rfl rfl rfl (by decide +kernel) ⟨Nat.le_of_ble_eq_true rfl, Nat.le_of_ble_eq_true rfl⟩) trivial rfl hl.1 rfl (Nat.le_of_ble_eq_true rfl) dX4_street_8 ⟨Nat.zero_le _, Nat.zero_le _⟩ ?_
    refine z_ifne (tgt := 18) hx hb dX4_street_11 (by decide) (fun c11 => ?_) (fun c11 => ?_)
    · obtain ⟨j, lj, hj, rfl⟩ := inB_nat (by decide) c4 (by decide)
      have ej : cl (nI j) = j := cl_nI (by omega)
      obtain ⟨u, lu, hu, rfl⟩ := inB_nat (by decide) c11 (by decide)
      have eu : cl (nI u) = u := cl_nI (by omega)
      refine lv_iload_n hx hb dX4_street_18 rfl (lv_at hl 3 rfl) ?_
      rcases sw_0_6 w with c19 | c19 | c19 | c19 | c19 | c19 | c19 | ⟨c19_0, c19_1, c19_2, c19_3, c19_4, c19_5, c19_6⟩
      · refine lv_tableIn (off := 41) (tgt := 60) hx hb dX4_street_19 (by rw [c19]; decide) (by rw [c19]; decide) (by rw [c19]; rfl) (by decide) ?_
        refine lv_aload_n hx hb dX4_street_60 rfl (lv_at hl 0 rfl) ?_
        refine z_get (fs := [.ref (x + 1), .ref (x + 12), .ref (x + 23), .int (nI k), .ref (x + 24)]) (ref := "CranePermits") (C := RX4) (T := TX4) (N := 5) (ci := 4) (v := .ref (x + 1)) hx hb hts i_c_X4_street_X4 hown hK hΦ.1 0 (by decide) rfl (hts (.fieldLink RX4 10 "CranePermits" "now" "LCranePermits$Site;") (List.mem_of_getElem? (i := 1) rfl)) rfl rfl dX4_street_61 ?_
        refine lv_iload_n hx hb dX4_street_64 rfl (lv_at hl 1 rfl) ?_
        refine lv_iload_n hx hb dX4_street_65 rfl (lv_at hl 2 rfl) ?_
        refine z_callV (As := [.int (nI j), .int (nI u)]) (rest := []) hF hK (c_X2_allowanceOf l D y bd (x + 1) d ca pa pk j u (hI) (hv24) (by omega) (by omega)) (cwV 2 hts gX4_street_X2_allowanceOf rfl rfl rfl (by decide +kernel) ⟨Nat.le_of_ble_eq_true rfl, Nat.le_of_ble_eq_true rfl⟩) (z_recv (q := (RX2, TX2, 13)) hK (hP 0 _ rfl) rfl) hΦ.2.2 rfl hl.1 rfl (Nat.le_of_ble_eq_true rfl) dX4_street_66 ⟨Nat.zero_le _, Nat.zero_le _⟩ ?_
        exact z_reti hx hb hr hlocks rfl (by unfold aStreet; rw [if_pos c4, if_pos c11, c19, if_pos (by decide), ej, eu]; rfl) dX4_street_69
      · refine lv_tableIn (off := 51) (tgt := 70) hx hb dX4_street_19 (by rw [c19]; decide) (by rw [c19]; decide) (by rw [c19]; rfl) (by decide) ?_
        refine lv_aload_n hx hb dX4_street_70 rfl (lv_at hl 0 rfl) ?_
        refine z_get (fs := [.ref (x + 1), .ref (x + 12), .ref (x + 23), .int (nI k), .ref (x + 24)]) (ref := "CranePermits") (C := RX4) (T := TX4) (N := 5) (ci := 4) (v := .ref (x + 1)) hx hb hts i_c_X4_street_X4 hown hK hΦ.1 0 (by decide) rfl (hts (.fieldLink RX4 10 "CranePermits" "now" "LCranePermits$Site;") (List.mem_of_getElem? (i := 1) rfl)) rfl rfl dX4_street_71 ?_
        refine z_get (fs := [.ref ((x + 1) + 1), .int (nI (nC d)), .ref ((x + 1) + 2), .ref ((x + 1) + 3), .ref ((x + 1) + 4), .ref ((x + 1) + 5), .ref ((x + 1) + 6), .ref ((x + 1) + 7), .ref ((x + 1) + 8), .int (nI (nG d)), .ref ((x + 1) + 9), .ref ((x + 1) + 10), .int (nI (vn d))]) (ref := "CranePermits$Site") (C := RX2) (T := TX2) (N := 13) (ci := 2) (v := .ref ((x + 1) + 6)) hx hb hts i_c_X4_street_X2 hown hK (hP 0 _ rfl) 6 (by decide) rfl (hts (.fieldLink RX4 137 "CranePermits$Site" "received" "[I") (List.mem_of_getElem? (i := 2) rfl)) rfl rfl dX4_street_74 ?_
        refine lv_iload_n hx hb dX4_street_77 rfl (lv_at hl 1 rfl) ?_
        refine lv_iload_n hx hb dX4_street_78 rfl (lv_at hl 2 rfl) ?_
        refine z_callS (As := [.int (nI j), .int (nI u)]) (rest := [.ref ((x + 1) + 6)]) hF hK (c_X4_streetNight l D y j u ) (va_cwS 2 hts gX4_street_X4_streetNight rfl rfl rfl (by decide +kernel) ⟨Nat.le_of_ble_eq_true rfl, Nat.le_of_ble_eq_true rfl⟩) trivial rfl hl.1 rfl (Nat.le_of_ble_eq_true rfl) dX4_street_79 ⟨Nat.zero_le _, Nat.zero_le _⟩ ?_
        refine z_callS (As := [.ref ((x + 1) + 6), .int (nI (30 * j + u))]) (rest := []) hF hK (c_X4_at l D y ((x + 1) + 6) 120 re (30 * j + u) (by omega) (by decide)) (va_cwS 2 hts gX4_street_X4_at rfl rfl rfl (by decide +kernel) ⟨Nat.le_of_ble_eq_true rfl, Nat.le_of_ble_eq_true rfl⟩) (hP 6 _ rfl) rfl hl.1 rfl (Nat.le_of_ble_eq_true rfl) dX4_street_82 ⟨Nat.zero_le _, Nat.zero_le _⟩ ?_
        refine z_topi (z := (d (202 + (30 * j + u)))) (hR.2.2.2.2.2.1 (30 * j + u) (by omega)) ?_
        exact z_reti hx hb hr hlocks rfl (by unfold aStreet; rw [if_pos c4, if_pos c11, c19, if_pos (by decide), ej, eu]; rfl) dX4_street_85
      · refine lv_tableIn (off := 67) (tgt := 86) hx hb dX4_street_19 (by rw [c19]; decide) (by rw [c19]; decide) (by rw [c19]; rfl) (by decide) ?_
        refine lv_aload_n hx hb dX4_street_86 rfl (lv_at hl 0 rfl) ?_
        refine z_get (fs := [.ref (x + 1), .ref (x + 12), .ref (x + 23), .int (nI k), .ref (x + 24)]) (ref := "CranePermits") (C := RX4) (T := TX4) (N := 5) (ci := 4) (v := .ref (x + 1)) hx hb hts i_c_X4_street_X4 hown hK hΦ.1 0 (by decide) rfl (hts (.fieldLink RX4 10 "CranePermits" "now" "LCranePermits$Site;") (List.mem_of_getElem? (i := 1) rfl)) rfl rfl dX4_street_87 ?_
        refine z_get (fs := [.ref ((x + 1) + 1), .int (nI (nC d)), .ref ((x + 1) + 2), .ref ((x + 1) + 3), .ref ((x + 1) + 4), .ref ((x + 1) + 5), .ref ((x + 1) + 6), .ref ((x + 1) + 7), .ref ((x + 1) + 8), .int (nI (nG d)), .ref ((x + 1) + 9), .ref ((x + 1) + 10), .int (nI (vn d))]) (ref := "CranePermits$Site") (C := RX2) (T := TX2) (N := 13) (ci := 2) (v := .ref ((x + 1) + 7)) hx hb hts i_c_X4_street_X2 hown hK (hP 0 _ rfl) 7 (by decide) rfl (hts (.fieldLink RX4 134 "CranePermits$Site" "given" "[I") (List.mem_of_getElem? (i := 3) rfl)) rfl rfl dX4_street_90 ?_
        refine lv_iload_n hx hb dX4_street_93 rfl (lv_at hl 1 rfl) ?_
        refine lv_iload_n hx hb dX4_street_94 rfl (lv_at hl 2 rfl) ?_
        refine z_callS (As := [.int (nI j), .int (nI u)]) (rest := [.ref ((x + 1) + 7)]) hF hK (c_X4_streetNight l D y j u ) (va_cwS 2 hts gX4_street_X4_streetNight rfl rfl rfl (by decide +kernel) ⟨Nat.le_of_ble_eq_true rfl, Nat.le_of_ble_eq_true rfl⟩) trivial rfl hl.1 rfl (Nat.le_of_ble_eq_true rfl) dX4_street_95 ⟨Nat.zero_le _, Nat.zero_le _⟩ ?_
        refine z_callS (As := [.ref ((x + 1) + 7), .int (nI (30 * j + u))]) (rest := []) hF hK (c_X4_at l D y ((x + 1) + 7) 120 gi (30 * j + u) (by omega) (by decide)) (va_cwS 2 hts gX4_street_X4_at rfl rfl rfl (by decide +kernel) ⟨Nat.le_of_ble_eq_true rfl, Nat.le_of_ble_eq_true rfl⟩) (hP 7 _ rfl) rfl hl.1 rfl (Nat.le_of_ble_eq_true rfl) dX4_street_98 ⟨Nat.zero_le _, Nat.zero_le _⟩ ?_
        refine z_topi (z := (d (322 + (30 * j + u)))) (hR.2.2.2.2.2.2.1 (30 * j + u) (by omega)) ?_
        exact z_reti hx hb hr hlocks rfl (by unfold aStreet; rw [if_pos c4, if_pos c11, c19, if_pos (by decide), ej, eu]; rfl) dX4_street_101
      · refine lv_tableIn (off := 83) (tgt := 102) hx hb dX4_street_19 (by rw [c19]; decide) (by rw [c19]; decide) (by rw [c19]; rfl) (by decide) ?_
        refine lv_aload_n hx hb dX4_street_102 rfl (lv_at hl 0 rfl) ?_
        refine z_get (fs := [.ref (x + 1), .ref (x + 12), .ref (x + 23), .int (nI k), .ref (x + 24)]) (ref := "CranePermits") (C := RX4) (T := TX4) (N := 5) (ci := 4) (v := .ref (x + 1)) hx hb hts i_c_X4_street_X4 hown hK hΦ.1 0 (by decide) rfl (hts (.fieldLink RX4 10 "CranePermits" "now" "LCranePermits$Site;") (List.mem_of_getElem? (i := 1) rfl)) rfl rfl dX4_street_103 ?_
        refine lv_iload_n hx hb dX4_street_106 rfl (lv_at hl 1 rfl) ?_
        refine lv_iload_n hx hb dX4_street_107 rfl (lv_at hl 2 rfl) ?_
        refine z_callV (As := [.int (nI j), .int (nI u)]) (rest := []) hF hK (c_X2_creditsOf l D y bd (x + 1) d ca pa pk j u (hI) (hv24) (by omega) (by omega)) (cwV 2 hts gX4_street_X2_creditsOf rfl rfl rfl (by decide +kernel) ⟨Nat.le_of_ble_eq_true rfl, Nat.le_of_ble_eq_true rfl⟩) (z_recv (q := (RX2, TX2, 13)) hK (hP 0 _ rfl) rfl) hΦ.2.2 rfl hl.1 rfl (Nat.le_of_ble_eq_true rfl) dX4_street_108 ⟨Nat.zero_le _, Nat.zero_le _⟩ ?_
        exact z_reti hx hb hr hlocks rfl (by unfold aStreet; rw [if_pos c4, if_pos c11, c19, if_pos (by decide), ej, eu]; rfl) dX4_street_111
      · refine lv_tableIn (off := 93) (tgt := 112) hx hb dX4_street_19 (by rw [c19]; decide) (by rw [c19]; decide) (by rw [c19]; rfl) (by decide) ?_
        refine lv_aload_n hx hb dX4_street_112 rfl (lv_at hl 0 rfl) ?_
        refine z_get (fs := [.ref (x + 1), .ref (x + 12), .ref (x + 23), .int (nI k), .ref (x + 24)]) (ref := "CranePermits") (C := RX4) (T := TX4) (N := 5) (ci := 4) (v := .ref (x + 1)) hx hb hts i_c_X4_street_X4 hown hK hΦ.1 0 (by decide) rfl (hts (.fieldLink RX4 10 "CranePermits" "now" "LCranePermits$Site;") (List.mem_of_getElem? (i := 1) rfl)) rfl rfl dX4_street_113 ?_
        refine lv_iload_n hx hb dX4_street_116 rfl (lv_at hl 1 rfl) ?_
        refine lv_iload_n hx hb dX4_street_117 rfl (lv_at hl 2 rfl) ?_
        refine z_callV (As := [.int (nI j), .int (nI u)]) (rest := []) hF hK (c_X2_usedOf l D y bd (x + 1) d ca pa pk (nI j) (nI u) (hI) (hv24)) (cwV 2 hts gX4_street_X2_usedOf rfl rfl rfl (by decide +kernel) ⟨Nat.le_of_ble_eq_true rfl, Nat.le_of_ble_eq_true rfl⟩) (z_recv (q := (RX2, TX2, 13)) hK (hP 0 _ rfl) rfl) hΦ.2.2 rfl hl.1 rfl (Nat.le_of_ble_eq_true rfl) dX4_street_118 ⟨Nat.zero_le _, Nat.zero_le _⟩ ?_
        exact z_reti hx hb hr hlocks rfl (by unfold aStreet; rw [if_pos c4, if_pos c11, c19, if_pos (by decide), ej, eu]; rfl) dX4_street_121
      · refine lv_tableIn (off := 103) (tgt := 122) hx hb dX4_street_19 (by rw [c19]; decide) (by rw [c19]; decide) (by rw [c19]; rfl) (by decide) ?_
        refine lv_aload_n hx hb dX4_street_122 rfl (lv_at hl 0 rfl) ?_
        refine z_get (fs := [.ref (x + 1), .ref (x + 12), .ref (x + 23), .int (nI k), .ref (x + 24)]) (ref := "CranePermits") (C := RX4) (T := TX4) (N := 5) (ci := 4) (v := .ref (x + 1)) hx hb hts i_c_X4_street_X4 hown hK hΦ.1 0 (by decide) rfl (hts (.fieldLink RX4 10 "CranePermits" "now" "LCranePermits$Site;") (List.mem_of_getElem? (i := 1) rfl)) rfl rfl dX4_street_123 ?_
        refine lv_iload_n hx hb dX4_street_126 rfl (lv_at hl 1 rfl) ?_
        refine lv_iload_n hx hb dX4_street_127 rfl (lv_at hl 2 rfl) ?_
        refine z_callV (As := [.int (nI j), .int (nI u)]) (rest := []) hF hK (c_X2_validOfStreet l D y bd (x + 1) d ca pa pk (nI j) (nI u) (hI) (hv24)) (cwV 2 hts gX4_street_X2_validOfStreet rfl rfl rfl (by decide +kernel) ⟨Nat.le_of_ble_eq_true rfl, Nat.le_of_ble_eq_true rfl⟩) (z_recv (q := (RX2, TX2, 13)) hK (hP 0 _ rfl) rfl) hΦ.2.2 rfl hl.1 rfl (Nat.le_of_ble_eq_true rfl) dX4_street_128 ⟨Nat.zero_le _, Nat.zero_le _⟩ ?_
        exact z_reti hx hb hr hlocks rfl (by unfold aStreet; rw [if_pos c4, if_pos c11, c19, if_pos (by decide), ej, eu]; rfl) dX4_street_131
      · refine lv_tableIn (off := 113) (tgt := 132) hx hb dX4_street_19 (by rw [c19]; decide) (by rw [c19]; decide) (by rw [c19]; rfl) (by decide) ?_
        refine lv_aload_n hx hb dX4_street_132 rfl (lv_at hl 0 rfl) ?_
        refine z_get (fs := [.ref (x + 1), .ref (x + 12), .ref (x + 23), .int (nI k), .ref (x + 24)]) (ref := "CranePermits") (C := RX4) (T := TX4) (N := 5) (ci := 4) (v := .ref (x + 1)) hx hb hts i_c_X4_street_X4 hown hK hΦ.1 0 (by decide) rfl (hts (.fieldLink RX4 10 "CranePermits" "now" "LCranePermits$Site;") (List.mem_of_getElem? (i := 1) rfl)) rfl rfl dX4_street_133 ?_
        refine z_get (fs := [.ref ((x + 1) + 1), .int (nI (nC d)), .ref ((x + 1) + 2), .ref ((x + 1) + 3), .ref ((x + 1) + 4), .ref ((x + 1) + 5), .ref ((x + 1) + 6), .ref ((x + 1) + 7), .ref ((x + 1) + 8), .int (nI (nG d)), .ref ((x + 1) + 9), .ref ((x + 1) + 10), .int (nI (vn d))]) (ref := "CranePermits$Site") (C := RX2) (T := TX2) (N := 13) (ci := 2) (v := .ref ((x + 1) + 4)) hx hb hts i_c_X4_street_X2 hown hK (hP 0 _ rfl) 4 (by decide) rfl (hts (.fieldLink RX4 121 "CranePermits$Site" "winds" "[I") (List.mem_of_getElem? (i := 4) rfl)) rfl rfl dX4_street_136 ?_
        refine lv_iload_n hx hb dX4_street_139 rfl (lv_at hl 2 rfl) ?_
        refine z_callS (As := [.ref ((x + 1) + 4), .int (nI u)]) (rest := []) hF hK (c_X4_at l D y ((x + 1) + 4) 30 wi u (by omega) (by decide)) (va_cwS 2 hts gX4_street_X4_at rfl rfl rfl (by decide +kernel) ⟨Nat.le_of_ble_eq_true rfl, Nat.le_of_ble_eq_true rfl⟩) (hP 4 _ rfl) rfl hl.1 rfl (Nat.le_of_ble_eq_true rfl) dX4_street_140 ⟨Nat.zero_le _, Nat.zero_le _⟩ ?_
        refine z_topi (z := (d (52 + u))) (hR.2.2.2.1 u (by omega)) ?_
        exact z_reti hx hb hr hlocks rfl (by unfold aStreet; rw [if_pos c4, if_pos c11, c19, if_pos (by decide), ej, eu]; rfl) dX4_street_143
      · refine lv_tableOut (tgt := 144) hx hb dX4_street_19 (swOut_0_6 c19_0 c19_1 c19_2 c19_3 c19_4 c19_5 c19_6) (by decide) ?_
        refine lv_sipush (v := (-1001)) hx hb dX4_street_144 (by decide) ?_
        exact z_reti hx hb hr hlocks rfl (by unfold aStreet; rw [if_pos c4, if_pos c11, no_6 c19_0 c19_1 c19_2 c19_3 c19_4 c19_5 c19_6]; rfl) dX4_street_147
    · refine lv_sipush (v := (-1001)) hx hb dX4_street_14 (by decide) ?_
      exact z_reti hx hb hr hlocks rfl (by unfold aStreet; first | (rw [if_neg (bf c4)]; done) | (rw [if_pos c4, if_neg (bf c11)]; done)) dX4_street_17
theorem i_c_X4_count_X4 : ∀ w ∈ wsX40, w ∈ wsX4_count := fun w h => (List.mem_cons_of_mem _ (List.mem_append_left _ (List.mem_append_left _ (List.mem_append_left _ (List.mem_append_left _ (List.mem_append_right _ h))))))
theorem i_c_X4_count_X2 : ∀ w ∈ wsX20, w ∈ wsX4_count := fun w h => (List.mem_cons_of_mem _ (List.mem_append_left _ (List.mem_append_left _ (List.mem_append_left _ (List.mem_append_right _ h)))))
theorem i_c_X4_count_X3 : ∀ w ∈ wsX30, w ∈ wsX4_count := fun w h => (List.mem_cons_of_mem _ (List.mem_append_left _ (List.mem_append_left _ (List.mem_append_right _ h))))
set_option maxRecDepth 100000 in
set_option maxHeartbeats 4000000 in
theorem c_X4_count (l : Launch) (D : va_G) (y : zY) (x : Nat) (bd : Nat) (d : Nat → Int32) (ca : Nat → Nat) (pa : Nat → Nat) (pk : Nat → Nat) (k : Nat) (len : Nat) (tf : Nat → Int32) (w : Int32) (hJ : rJ d) (hk4 : k ≤ 4) (hl80 : len ≤ 80) : Met l yX4_count wsX4_count ({ frames := 3, cells := 0, slots := 0, locals := 79 }) (zP [.ref x, .int w] (fun H => clR D y x bd d ca pa pk k len tf H) D y) (zQ (some (.int (aCount d k len w)))) 0 0 nofree := by
  refine z_body (cc := cX4_count) (maxL := 2) (ret := (some .int)) (la := [(0, .ref x), (1, .int w)]) (by decide) rfl (Nat.le_of_ble_eq_true rfl) rfl ?_
  intro pg ev s mm below meth c0 ls hx hb hr hF hlocks hΦ hK hl _
  have hts := hF.2.2.2.2
  have hown : s.vm.findClass RX4 = some mm.cls := hF.2.2.2.1
  have hI := hJ.1
  have hv24 := hJ.2.1
  have hpl := hJ.2.2.1
  have hS := hpl.w
  have hG2 := hI.ng2
  have hC8 := hI.nc8
  have hS0 := hΦ.2.2
  obtain ⟨cs, ns, se, wi, al, re, gi, ps, ss, vs, hP, hR, hC, hE, hT⟩ := hS0
  refine lv_iload_n hx hb dX4_count_0 rfl (lv_at hl 1 rfl) ?_
  rcases sw_0_12 w with c1 | c1 | c1 | c1 | c1 | c1 | c1 | c1 | c1 | c1 | c1 | c1 | c1 | ⟨c1_0, c1_1, c1_2, c1_3, c1_4, c1_5, c1_6, c1_7, c1_8, c1_9, c1_10, c1_11, c1_12⟩
  · refine lv_tableIn (off := 67) (tgt := 68) hx hb dX4_count_1 (by rw [c1]; decide) (by rw [c1]; decide) (by rw [c1]; rfl) (by decide) ?_
    refine lv_aload_n hx hb dX4_count_68 rfl (lv_at hl 0 rfl) ?_
    refine z_get (fs := [.ref (x + 1), .ref (x + 12), .ref (x + 23), .int (nI k), .ref (x + 24)]) (ref := "CranePermits") (C := RX4) (T := TX4) (N := 5) (ci := 4) (v := .ref (x + 1)) hx hb hts i_c_X4_count_X4 hown hK hΦ.1 0 (by decide) rfl (hts (.fieldLink RX4 10 "CranePermits" "now" "LCranePermits$Site;") (List.mem_of_getElem? (i := 1) rfl)) rfl rfl dX4_count_69 ?_
    refine z_get (fs := [.ref ((x + 1) + 1), .int (nI (nC d)), .ref ((x + 1) + 2), .ref ((x + 1) + 3), .ref ((x + 1) + 4), .ref ((x + 1) + 5), .ref ((x + 1) + 6), .ref ((x + 1) + 7), .ref ((x + 1) + 8), .int (nI (nG d)), .ref ((x + 1) + 9), .ref ((x + 1) + 10), .int (nI (vn d))]) (ref := "CranePermits$Site") (C := RX2) (T := TX2) (N := 13) (ci := 2) (v := .int (nI (nC d))) hx hb hts i_c_X4_count_X2 hown hK (hP 0 _ rfl) 1 (by decide) rfl (hts (.fieldLink RX4 49 "CranePermits$Site" "craneCount" "I") (List.mem_of_getElem? (i := 2) rfl)) rfl rfl dX4_count_72 ?_
    exact z_reti hx hb hr hlocks rfl (by rw [c1]; exact hI.nc.symm) dX4_count_75
  · refine lv_tableIn (off := 75) (tgt := 76) hx hb dX4_count_1 (by rw [c1]; decide) (by rw [c1]; decide) (by rw [c1]; rfl) (by decide) ?_
    refine lv_aload_n hx hb dX4_count_76 rfl (lv_at hl 0 rfl) ?_
    refine z_get (fs := [.ref (x + 1), .ref (x + 12), .ref (x + 23), .int (nI k), .ref (x + 24)]) (ref := "CranePermits") (C := RX4) (T := TX4) (N := 5) (ci := 4) (v := .ref (x + 1)) hx hb hts i_c_X4_count_X4 hown hK hΦ.1 0 (by decide) rfl (hts (.fieldLink RX4 10 "CranePermits" "now" "LCranePermits$Site;") (List.mem_of_getElem? (i := 1) rfl)) rfl rfl dX4_count_77 ?_
    refine z_get (fs := [.ref ((x + 1) + 1), .int (nI (nC d)), .ref ((x + 1) + 2), .ref ((x + 1) + 3), .ref ((x + 1) + 4), .ref ((x + 1) + 5), .ref ((x + 1) + 6), .ref ((x + 1) + 7), .ref ((x + 1) + 8), .int (nI (nG d)), .ref ((x + 1) + 9), .ref ((x + 1) + 10), .int (nI (vn d))]) (ref := "CranePermits$Site") (C := RX2) (T := TX2) (N := 13) (ci := 2) (v := .int (nI (vn d))) hx hb hts i_c_X4_count_X2 hown hK (hP 0 _ rfl) 12 (by decide) rfl (hts (.fieldLink RX4 152 "CranePermits$Site" "validCount" "I") (List.mem_of_getElem? (i := 3) rfl)) rfl rfl dX4_count_80 ?_
    exact z_reti hx hb hr hlocks rfl (by rw [c1]; exact vn_v d) dX4_count_83
  · refine lv_tableIn (off := 83) (tgt := 84) hx hb dX4_count_1 (by rw [c1]; decide) (by rw [c1]; decide) (by rw [c1]; rfl) (by decide) ?_
    refine lv_aload_n hx hb dX4_count_84 rfl (lv_at hl 0 rfl) ?_
    refine z_get (fs := [.ref (x + 1), .ref (x + 12), .ref (x + 23), .int (nI k), .ref (x + 24)]) (ref := "CranePermits") (C := RX4) (T := TX4) (N := 5) (ci := 4) (v := .ref (x + 1)) hx hb hts i_c_X4_count_X4 hown hK hΦ.1 0 (by decide) rfl (hts (.fieldLink RX4 10 "CranePermits" "now" "LCranePermits$Site;") (List.mem_of_getElem? (i := 1) rfl)) rfl rfl dX4_count_85 ?_
    refine z_get (fs := [.ref ((x + 1) + 1), .int (nI (nC d)), .ref ((x + 1) + 2), .ref ((x + 1) + 3), .ref ((x + 1) + 4), .ref ((x + 1) + 5), .ref ((x + 1) + 6), .ref ((x + 1) + 7), .ref ((x + 1) + 8), .int (nI (nG d)), .ref ((x + 1) + 9), .ref ((x + 1) + 10), .int (nI (vn d))]) (ref := "CranePermits$Site") (C := RX2) (T := TX2) (N := 13) (ci := 2) (v := .int (nI (nG d))) hx hb hts i_c_X4_count_X2 hown hK (hP 0 _ rfl) 9 (by decide) rfl (hts (.fieldLink RX4 155 "CranePermits$Site" "permitCount" "I") (List.mem_of_getElem? (i := 4) rfl)) rfl rfl dX4_count_88 ?_
    exact z_reti hx hb hr hlocks rfl (by rw [c1]; exact hI.ng.symm) dX4_count_91
  · refine lv_tableIn (off := 91) (tgt := 92) hx hb dX4_count_1 (by rw [c1]; decide) (by rw [c1]; decide) (by rw [c1]; rfl) (by decide) ?_
    refine lv_aload_n hx hb dX4_count_92 rfl (lv_at hl 0 rfl) ?_
    refine z_get (fs := [.ref (x + 1), .ref (x + 12), .ref (x + 23), .int (nI k), .ref (x + 24)]) (ref := "CranePermits") (C := RX4) (T := TX4) (N := 5) (ci := 4) (v := .ref (x + 1)) hx hb hts i_c_X4_count_X4 hown hK hΦ.1 0 (by decide) rfl (hts (.fieldLink RX4 10 "CranePermits" "now" "LCranePermits$Site;") (List.mem_of_getElem? (i := 1) rfl)) rfl rfl dX4_count_93 ?_
    refine lv_iconst (v := (nI 2)) hx hb dX4_count_96 (by decide) ?_
    refine z_callV (As := [.int (nI 2)]) (rest := []) hF hK (c_X2_permitsWith l D y bd (x + 1) d ca pa pk (nI 2) (hI) (hv24)) (cwV 1 hts gX4_count_X2_permitsWith rfl rfl rfl (by decide +kernel) ⟨Nat.le_of_ble_eq_true rfl, Nat.le_of_ble_eq_true rfl⟩) (z_recv (q := (RX2, TX2, 13)) hK (hP 0 _ rfl) rfl) hΦ.2.2 rfl hl.1 rfl (Nat.le_of_ble_eq_true rfl) dX4_count_97 ⟨Nat.zero_le _, Nat.zero_le _⟩ ?_
    exact z_reti hx hb hr hlocks rfl (by rw [c1]; exact hJ.2.2.2.1.symm) dX4_count_100
  · refine lv_tableIn (off := 100) (tgt := 101) hx hb dX4_count_1 (by rw [c1]; decide) (by rw [c1]; decide) (by rw [c1]; rfl) (by decide) ?_
    refine lv_aload_n hx hb dX4_count_101 rfl (lv_at hl 0 rfl) ?_
    refine z_get (fs := [.ref (x + 1), .ref (x + 12), .ref (x + 23), .int (nI k), .ref (x + 24)]) (ref := "CranePermits") (C := RX4) (T := TX4) (N := 5) (ci := 4) (v := .ref (x + 1)) hx hb hts i_c_X4_count_X4 hown hK hΦ.1 0 (by decide) rfl (hts (.fieldLink RX4 10 "CranePermits" "now" "LCranePermits$Site;") (List.mem_of_getElem? (i := 1) rfl)) rfl rfl dX4_count_102 ?_
    refine lv_iconst (v := (nI 3)) hx hb dX4_count_105 (by decide) ?_
    refine z_callV (As := [.int (nI 3)]) (rest := []) hF hK (c_X2_permitsWith l D y bd (x + 1) d ca pa pk (nI 3) (hI) (hv24)) (cwV 1 hts gX4_count_X2_permitsWith rfl rfl rfl (by decide +kernel) ⟨Nat.le_of_ble_eq_true rfl, Nat.le_of_ble_eq_true rfl⟩) (z_recv (q := (RX2, TX2, 13)) hK (hP 0 _ rfl) rfl) hΦ.2.2 rfl hl.1 rfl (Nat.le_of_ble_eq_true rfl) dX4_count_106 ⟨Nat.zero_le _, Nat.zero_le _⟩ ?_
    exact z_reti hx hb hr hlocks rfl (by rw [c1]; exact hJ.2.2.2.2.symm) dX4_count_109
  · refine lv_tableIn (off := 109) (tgt := 110) hx hb dX4_count_1 (by rw [c1]; decide) (by rw [c1]; decide) (by rw [c1]; rfl) (by decide) ?_
    refine lv_aload_n hx hb dX4_count_110 rfl (lv_at hl 0 rfl) ?_
    refine z_get (fs := [.ref (x + 1), .ref (x + 12), .ref (x + 23), .int (nI k), .ref (x + 24)]) (ref := "CranePermits") (C := RX4) (T := TX4) (N := 5) (ci := 4) (v := .ref (x + 1)) hx hb hts i_c_X4_count_X4 hown hK hΦ.1 0 (by decide) rfl (hts (.fieldLink RX4 10 "CranePermits" "now" "LCranePermits$Site;") (List.mem_of_getElem? (i := 1) rfl)) rfl rfl dX4_count_111 ?_
    refine z_callV (As := []) (rest := []) hF hK (c_X2_usedByAll l D y bd (x + 1) d ca pa pk (hI) (hv24)) (cwV 0 hts gX4_count_X2_usedByAll rfl rfl rfl (by decide +kernel) ⟨Nat.le_of_ble_eq_true rfl, Nat.le_of_ble_eq_true rfl⟩) (z_recv (q := (RX2, TX2, 13)) hK (hP 0 _ rfl) rfl) hΦ.2.2 rfl hl.1 rfl (Nat.le_of_ble_eq_true rfl) dX4_count_114 ⟨Nat.zero_le _, Nat.zero_le _⟩ ?_
    exact z_reti hx hb hr hlocks rfl (by rw [c1]; rfl) dX4_count_117
  · refine lv_tableIn (off := 117) (tgt := 118) hx hb dX4_count_1 (by rw [c1]; decide) (by rw [c1]; decide) (by rw [c1]; rfl) (by decide) ?_
    refine lv_aload_n hx hb dX4_count_118 rfl (lv_at hl 0 rfl) ?_
    refine z_get (fs := [.ref (x + 1), .ref (x + 12), .ref (x + 23), .int (nI k), .ref (x + 24)]) (ref := "CranePermits") (C := RX4) (T := TX4) (N := 5) (ci := 4) (v := .ref (x + 1)) hx hb hts i_c_X4_count_X4 hown hK hΦ.1 0 (by decide) rfl (hts (.fieldLink RX4 10 "CranePermits" "now" "LCranePermits$Site;") (List.mem_of_getElem? (i := 1) rfl)) rfl rfl dX4_count_119 ?_
    refine z_callV (As := []) (rest := []) hF hK (c_X2_sharingPairs l D y bd (x + 1) d ca pa pk (hI) (hv24) (hS)) (cwV 0 hts gX4_count_X2_sharingPairs rfl rfl rfl (by decide +kernel) ⟨Nat.le_of_ble_eq_true rfl, Nat.le_of_ble_eq_true rfl⟩) (z_recv (q := (RX2, TX2, 13)) hK (hP 0 _ rfl) rfl) hΦ.2.2 rfl hl.1 rfl (Nat.le_of_ble_eq_true rfl) dX4_count_122 ⟨Nat.zero_le _, Nat.zero_le _⟩ ?_
    exact z_reti hx hb hr hlocks rfl (by rw [c1]; rfl) dX4_count_125
  · refine lv_tableIn (off := 125) (tgt := 126) hx hb dX4_count_1 (by rw [c1]; decide) (by rw [c1]; decide) (by rw [c1]; rfl) (by decide) ?_
    refine lv_aload_n hx hb dX4_count_126 rfl (lv_at hl 0 rfl) ?_
    refine z_get (fs := [.ref (x + 1), .ref (x + 12), .ref (x + 23), .int (nI k), .ref (x + 24)]) (ref := "CranePermits") (C := RX4) (T := TX4) (N := 5) (ci := 4) (v := .int (nI k)) hx hb hts i_c_X4_count_X4 hown hK hΦ.1 3 (by decide) rfl (hts (.fieldLink RX4 23 "CranePermits" "pastCount" "I") (List.mem_of_getElem? (i := 5) rfl)) rfl rfl dX4_count_127 ?_
    exact z_reti hx hb hr hlocks rfl (by rw [c1]; rfl) dX4_count_130
  · refine lv_tableIn (off := 130) (tgt := 131) hx hb dX4_count_1 (by rw [c1]; decide) (by rw [c1]; decide) (by rw [c1]; rfl) (by decide) ?_
    refine lv_aload_n hx hb dX4_count_131 rfl (lv_at hl 0 rfl) ?_
    refine z_get (fs := [.ref (x + 1), .ref (x + 12), .ref (x + 23), .int (nI k), .ref (x + 24)]) (ref := "CranePermits") (C := RX4) (T := TX4) (N := 5) (ci := 4) (v := .ref (x + 24)) hx hb hts i_c_X4_count_X4 hown hK hΦ.1 4 (by decide) rfl (hts (.fieldLink RX4 30 "CranePermits" "text" "LCranePermits$Text;") (List.mem_of_getElem? (i := 6) rfl)) rfl rfl dX4_count_132 ?_
    refine z_get (fs := [.ref (x + 25), .int (nI len), .int (tf 0), .int (tf 1), .int (tf 2), .int (tf 3), .int (tf 4), .int (tf 5), .int (tf 6)]) (ref := "CranePermits$Text") (C := RX3) (T := TX3) (N := 9) (ci := 3) (v := .int (nI len)) hx hb hts i_c_X4_count_X3 hown hK hΦ.2.1 1 (by decide) rfl (hts (.fieldLink RX4 168 "CranePermits$Text" "length" "I") (List.mem_of_getElem? (i := 7) rfl)) rfl rfl dX4_count_135 ?_
    exact z_reti hx hb hr hlocks rfl (by rw [c1]; rfl) dX4_count_138
  · refine lv_tableIn (off := 174) (tgt := 175) hx hb dX4_count_1 (by rw [c1]; decide) (by rw [c1]; decide) (by rw [c1]; rfl) (by decide) ?_
    refine lv_sipush (v := (-1001)) hx hb dX4_count_175 (by decide) ?_
    exact z_reti hx hb hr hlocks rfl (by first | (rw [c1]; rfl) | (unfold aCount; rw [if_neg c1_0, if_neg c1_1, if_neg c1_2, if_neg c1_3, if_neg c1_4, if_neg c1_5, if_neg c1_6, if_neg c1_7, if_neg c1_8, if_neg c1_10, if_neg c1_11, if_neg c1_12])) dX4_count_178
  · refine lv_tableIn (off := 138) (tgt := 139) hx hb dX4_count_1 (by rw [c1]; decide) (by rw [c1]; decide) (by rw [c1]; rfl) (by decide) ?_
    refine lv_aload_n hx hb dX4_count_139 rfl (lv_at hl 0 rfl) ?_
    refine z_get (fs := [.ref (x + 1), .ref (x + 12), .ref (x + 23), .int (nI k), .ref (x + 24)]) (ref := "CranePermits") (C := RX4) (T := TX4) (N := 5) (ci := 4) (v := .ref (x + 1)) hx hb hts i_c_X4_count_X4 hown hK hΦ.1 0 (by decide) rfl (hts (.fieldLink RX4 10 "CranePermits" "now" "LCranePermits$Site;") (List.mem_of_getElem? (i := 1) rfl)) rfl rfl dX4_count_140 ?_
    refine z_get (fs := [.ref ((x + 1) + 1), .int (nI (nC d)), .ref ((x + 1) + 2), .ref ((x + 1) + 3), .ref ((x + 1) + 4), .ref ((x + 1) + 5), .ref ((x + 1) + 6), .ref ((x + 1) + 7), .ref ((x + 1) + 8), .int (nI (nG d)), .ref ((x + 1) + 9), .ref ((x + 1) + 10), .int (nI (vn d))]) (ref := "CranePermits$Site") (C := RX2) (T := TX2) (N := 13) (ci := 2) (v := .ref ((x + 1) + 3)) hx hb hts i_c_X4_count_X2 hown hK (hP 0 _ rfl) 3 (by decide) rfl (hts (.fieldLink RX4 115 "CranePermits$Site" "settings" "[I") (List.mem_of_getElem? (i := 8) rfl)) rfl rfl dX4_count_143 ?_
    refine lv_iconst (v := (nI 0)) hx hb dX4_count_146 (by decide) ?_
    refine z_callS (As := [.ref ((x + 1) + 3), .int (nI 0)]) (rest := []) hF hK (c_X4_at l D y ((x + 1) + 3) 3 se 0 (by omega) (by decide)) (va_cwS 2 hts gX4_count_X4_at rfl rfl rfl (by decide +kernel) ⟨Nat.le_of_ble_eq_true rfl, Nat.le_of_ble_eq_true rfl⟩) (hP 3 _ rfl) rfl hl.1 rfl (Nat.le_of_ble_eq_true rfl) dX4_count_147 ⟨Nat.zero_le _, Nat.zero_le _⟩ ?_
    refine z_topi (z := (d 1)) (hR.2.2.1 0 (by omega)) ?_
    exact z_reti hx hb hr hlocks rfl (by rw [c1]; rfl) dX4_count_150
  · refine lv_tableIn (off := 150) (tgt := 151) hx hb dX4_count_1 (by rw [c1]; decide) (by rw [c1]; decide) (by rw [c1]; rfl) (by decide) ?_
    refine lv_aload_n hx hb dX4_count_151 rfl (lv_at hl 0 rfl) ?_
    refine z_get (fs := [.ref (x + 1), .ref (x + 12), .ref (x + 23), .int (nI k), .ref (x + 24)]) (ref := "CranePermits") (C := RX4) (T := TX4) (N := 5) (ci := 4) (v := .ref (x + 1)) hx hb hts i_c_X4_count_X4 hown hK hΦ.1 0 (by decide) rfl (hts (.fieldLink RX4 10 "CranePermits" "now" "LCranePermits$Site;") (List.mem_of_getElem? (i := 1) rfl)) rfl rfl dX4_count_152 ?_
    refine z_get (fs := [.ref ((x + 1) + 1), .int (nI (nC d)), .ref ((x + 1) + 2), .ref ((x + 1) + 3), .ref ((x + 1) + 4), .ref ((x + 1) + 5), .ref ((x + 1) + 6), .ref ((x + 1) + 7), .ref ((x + 1) + 8), .int (nI (nG d)), .ref ((x + 1) + 9), .ref ((x + 1) + 10), .int (nI (vn d))]) (ref := "CranePermits$Site") (C := RX2) (T := TX2) (N := 13) (ci := 2) (v := .ref ((x + 1) + 3)) hx hb hts i_c_X4_count_X2 hown hK (hP 0 _ rfl) 3 (by decide) rfl (hts (.fieldLink RX4 115 "CranePermits$Site" "settings" "[I") (List.mem_of_getElem? (i := 8) rfl)) rfl rfl dX4_count_155 ?_
    refine lv_iconst (v := (nI 1)) hx hb dX4_count_158 (by decide) ?_
    refine z_callS (As := [.ref ((x + 1) + 3), .int (nI 1)]) (rest := []) hF hK (c_X4_at l D y ((x + 1) + 3) 3 se 1 (by omega) (by decide)) (va_cwS 2 hts gX4_count_X4_at rfl rfl rfl (by decide +kernel) ⟨Nat.le_of_ble_eq_true rfl, Nat.le_of_ble_eq_true rfl⟩) (hP 3 _ rfl) rfl hl.1 rfl (Nat.le_of_ble_eq_true rfl) dX4_count_159 ⟨Nat.zero_le _, Nat.zero_le _⟩ ?_
    refine z_topi (z := (d 2)) (hR.2.2.1 1 (by omega)) ?_
    exact z_reti hx hb hr hlocks rfl (by rw [c1]; rfl) dX4_count_162
  · refine lv_tableIn (off := 162) (tgt := 163) hx hb dX4_count_1 (by rw [c1]; decide) (by rw [c1]; decide) (by rw [c1]; rfl) (by decide) ?_
    refine lv_aload_n hx hb dX4_count_163 rfl (lv_at hl 0 rfl) ?_
    refine z_get (fs := [.ref (x + 1), .ref (x + 12), .ref (x + 23), .int (nI k), .ref (x + 24)]) (ref := "CranePermits") (C := RX4) (T := TX4) (N := 5) (ci := 4) (v := .ref (x + 1)) hx hb hts i_c_X4_count_X4 hown hK hΦ.1 0 (by decide) rfl (hts (.fieldLink RX4 10 "CranePermits" "now" "LCranePermits$Site;") (List.mem_of_getElem? (i := 1) rfl)) rfl rfl dX4_count_164 ?_
    refine z_get (fs := [.ref ((x + 1) + 1), .int (nI (nC d)), .ref ((x + 1) + 2), .ref ((x + 1) + 3), .ref ((x + 1) + 4), .ref ((x + 1) + 5), .ref ((x + 1) + 6), .ref ((x + 1) + 7), .ref ((x + 1) + 8), .int (nI (nG d)), .ref ((x + 1) + 9), .ref ((x + 1) + 10), .int (nI (vn d))]) (ref := "CranePermits$Site") (C := RX2) (T := TX2) (N := 13) (ci := 2) (v := .ref ((x + 1) + 3)) hx hb hts i_c_X4_count_X2 hown hK (hP 0 _ rfl) 3 (by decide) rfl (hts (.fieldLink RX4 115 "CranePermits$Site" "settings" "[I") (List.mem_of_getElem? (i := 8) rfl)) rfl rfl dX4_count_167 ?_
    refine lv_iconst (v := (nI 2)) hx hb dX4_count_170 (by decide) ?_
    refine z_callS (As := [.ref ((x + 1) + 3), .int (nI 2)]) (rest := []) hF hK (c_X4_at l D y ((x + 1) + 3) 3 se 2 (by omega) (by decide)) (va_cwS 2 hts gX4_count_X4_at rfl rfl rfl (by decide +kernel) ⟨Nat.le_of_ble_eq_true rfl, Nat.le_of_ble_eq_true rfl⟩) (hP 3 _ rfl) rfl hl.1 rfl (Nat.le_of_ble_eq_true rfl) dX4_count_171 ⟨Nat.zero_le _, Nat.zero_le _⟩ ?_
    refine z_topi (z := (d 3)) (hR.2.2.1 2 (by omega)) ?_
    exact z_reti hx hb hr hlocks rfl (by rw [c1]; rfl) dX4_count_174
  · refine lv_tableOut (tgt := 175) hx hb dX4_count_1 (swOut_0_12 c1_0 c1_1 c1_2 c1_3 c1_4 c1_5 c1_6 c1_7 c1_8 c1_9 c1_10 c1_11 c1_12) (by decide) ?_
    refine lv_sipush (v := (-1001)) hx hb dX4_count_175 (by decide) ?_
    exact z_reti hx hb hr hlocks rfl (by first | (rw [c1]; rfl) | (unfold aCount; rw [if_neg c1_0, if_neg c1_1, if_neg c1_2, if_neg c1_3, if_neg c1_4, if_neg c1_5, if_neg c1_6, if_neg c1_7, if_neg c1_8, if_neg c1_10, if_neg c1_11, if_neg c1_12])) dX4_count_178
theorem i_c_X4_covers_X4 : ∀ w ∈ wsX40, w ∈ wsX4_covers := fun w h => (List.mem_cons_of_mem _ (List.mem_append_left _ (List.mem_append_left _ (List.mem_append_right _ h))))
set_option maxRecDepth 100000 in
set_option maxHeartbeats 4000000 in
theorem c_X4_covers (l : Launch) (D : va_G) (y : zY) (x : Nat) (bd : Nat) (d : Nat → Int32) (ca : Nat → Nat) (pa : Nat → Nat) (pk : Nat → Nat) (k : Nat) (len : Nat) (tf : Nat → Int32) (c : Int32) (sw : Int32) (u : Int32) (z : Int32) (hJ : rJ d) (hk4 : k ≤ 4) (hl80 : len ≤ 80) : Met l yX4_covers wsX4_covers ({ frames := 2, cells := 0, slots := 0, locals := 43 }) (zP [.ref x, .int c, .int sw, .int u, .int z] (fun H => clR D y x bd d ca pa pk k len tf H) D y) (zQ (some (.int (aCovers d c sw u z)))) 0 0 nofree := by
  refine z_body (cc := cX4_covers) (maxL := 9) (ret := (some .int)) (la := [(0, .ref x), (1, .int c), (2, .int sw), (3, .int u), (4, .int z)]) (by decide) rfl (Nat.le_of_ble_eq_true rfl) rfl ?_
  intro pg ev s mm below meth c0 ls hx hb hr hF hlocks hΦ hK hl _
  have hts := hF.2.2.2.2
  have hown : s.vm.findClass RX4 = some mm.cls := hF.2.2.2.1
  have hI := hJ.1
  have hv24 := hJ.2.1
  have hpl := hJ.2.2.1
  have hS := hpl.w
  have hG2 := hI.ng2
  have hC8 := hI.nc8
  have hS0 := hΦ.2.2
  obtain ⟨cs, ns, se, wi, al, re, gi, ps, ss, vs, hP, hR, hC, hE, hT⟩ := hS0
  refine lv_aload_n hx hb dX4_covers_0 rfl (lv_at hl 0 rfl) ?_
  refine z_get (fs := [.ref (x + 1), .ref (x + 12), .ref (x + 23), .int (nI k), .ref (x + 24)]) (ref := "CranePermits") (C := RX4) (T := TX4) (N := 5) (ci := 4) (v := .ref (x + 1)) hx hb hts i_c_X4_covers_X4 hown hK hΦ.1 0 (by decide) rfl (hts (.fieldLink RX4 10 "CranePermits" "now" "LCranePermits$Site;") (List.mem_of_getElem? (i := 1) rfl)) rfl rfl dX4_covers_1 ?_
  refine lv_iload_n hx hb dX4_covers_4 rfl (lv_at hl 1 rfl) ?_
  rcases Bool.eq_false_or_eq_true (inB c (nI 0) (d 0 - nI 1)) with c5 | c5
  · obtain ⟨j, hj, rfl⟩ := in_nc hI c5
    have ej : cl (nI j) = j := cl_nI (by omega)
    refine z_callV (As := [.int (nI j)]) (rest := []) hF hK (c_X2_craneAt_in l D y bd (x + 1) d ca pa pk j (hI) (hv24) (by omega)) (cwV 1 hts gX4_covers_X2_craneAt rfl rfl rfl (by decide +kernel) ⟨Nat.le_of_ble_eq_true rfl, Nat.le_of_ble_eq_true rfl⟩) (z_recv (q := (RX2, TX2, 13)) hK (hP 0 _ rfl) rfl) hΦ.2.2 rfl hl.1 rfl (Nat.le_of_ble_eq_true rfl) dX4_covers_5 ⟨Nat.zero_le _, Nat.zero_le _⟩ ?_
    refine lv_astore (lv' := [(5, .ref (ca j)), (0, .ref x), (1, .int (nI j)), (2, .int sw), (3, .int u), (4, .int z)]) hx hb dX4_covers_8 hl (by decide) rfl (fun ls hl => ?_)
    refine lv_aload hx hb dX4_covers_10 (lv_at hl 0 rfl) ?_
    refine lv_ifnull hx hb dX4_covers_12 ?_
    refine lv_iload_n hx hb dX4_covers_15 rfl (lv_at hl 3 rfl) ?_
    refine z_callS (As := [.int sw]) (rest := []) hF hK (c_X4_isSwing l D y sw ) (va_cwS 1 hts gX4_covers_X4_isSwing rfl rfl rfl (by decide +kernel) ⟨Nat.le_of_ble_eq_true rfl, Nat.le_of_ble_eq_true rfl⟩) trivial rfl hl.1 rfl (Nat.le_of_ble_eq_true rfl) dX4_covers_16 ⟨Nat.zero_le _, Nat.zero_le _⟩ ?_
    refine z_ifeq (tgt := 31) hx hb dX4_covers_19 (by decide) (fun c19 => ?_) (fun c19 => ?_)
    · refine lv_sipush (v := (-1001)) hx hb dX4_covers_31 (by decide) ?_
      exact z_reti hx hb hr hlocks rfl (by unfold aCovers; first | (rw [if_neg (bf c5)]; done) | (rw [if_pos c5, if_neg (bf c19)]; done) | (rw [if_pos c5, if_pos c19]; exact if_2 c28)) dX4_covers_34
    · refine lv_iload_n hx hb dX4_covers_22 rfl (lv_at hl 4 rfl) ?_
      refine lv_iload hx hb dX4_covers_23 (lv_at hl 5 rfl) ?_
      refine z_callS (As := [.int u, .int z]) (rest := []) hF hK (c_X4_isCell l D y u z ) (va_cwS 2 hts gX4_covers_X4_isCell rfl rfl rfl (by decide +kernel) ⟨Nat.le_of_ble_eq_true rfl, Nat.le_of_ble_eq_true rfl⟩) trivial rfl hl.1 rfl (Nat.le_of_ble_eq_true rfl) dX4_covers_25 ⟨Nat.zero_le _, Nat.zero_le _⟩ ?_
      refine z_ifne (tgt := 35) hx hb dX4_covers_28 (by decide) (fun c28 => ?_) (fun c28 => ?_)
      · have hcell := c28
        rw [Bool.and_eq_true] at hcell
        obtain ⟨cu, cz⟩ := hcell
        obtain ⟨m1, lm1, hm1, rfl⟩ := inB_nat (by decide) cu (by decide)
        have em1 : cl (nI m1) = m1 := cl_nI (by omega)
        obtain ⟨m2, lm2, hm2, rfl⟩ := inB_nat (by decide) cz (by decide)
        have em2 : cl (nI m2) = m2 := cl_nI (by omega)
        refine lv_bipush (v := (nI 16)) hx hb dX4_covers_35 (by decide) ?_
        refine lv_iload hx hb dX4_covers_37 (lv_at hl 5 rfl) ?_
        refine z_imul hx hb dX4_covers_39 ?_
        refine lv_iload_n hx hb dX4_covers_40 rfl (lv_at hl 4 rfl) ?_
        refine z_iadd hx hb dX4_covers_41 ?_
        refine lv_istore (lv' := [(6, .int (nI ((16 * m2) + m1))), (5, .ref (ca j)), (0, .ref x), (1, .int (nI j)), (2, .int sw), (3, .int (nI m1)), (4, .int (nI m2))]) hx hb dX4_covers_42 hl (by decide) rfl (fun ls hl => ?_)
        refine lv_aload hx hb dX4_covers_44 (lv_at hl 1 rfl) ?_
        refine lv_iload_n hx hb dX4_covers_46 rfl (lv_at hl 4 rfl) ?_
        refine lv_iload hx hb dX4_covers_47 (lv_at hl 0 rfl) ?_
        refine lv_bipush (v := (nI 64)) hx hb dX4_covers_49 (by decide) ?_
        refine z_idiv hx hb (by omega) (by omega) (by omega) dX4_covers_51 ?_
        refine z_callV (As := [.int sw, .int (nI (((16 * m2) + m1) / 64))]) (rest := []) hF hK (c_X0_airOf l D y (ca j) j d sw (((16 * m2) + m1) / 64) (by omega)) (cwV 2 hts gX4_covers_X0_airOf rfl rfl rfl (by decide +kernel) ⟨Nat.le_of_ble_eq_true rfl, Nat.le_of_ble_eq_true rfl⟩) (z_recv (q := (RX0, TX0, 7)) hK (hC j (by omega)).2.1 rfl) (hC j (by omega)).2 rfl hl.1 rfl (Nat.le_of_ble_eq_true rfl) dX4_covers_52 ⟨Nat.zero_le _, Nat.zero_le _⟩ ?_
        refine lv_lstore (lv' := [(7, .long (airS (eiF d j) sw (((16 * m2) + m1) / 64) 8)), (6, .int (nI ((16 * m2) + m1))), (5, .ref (ca j)), (0, .ref x), (1, .int (nI j)), (2, .int sw), (3, .int (nI m1)), (4, .int (nI m2))]) hx hb dX4_covers_55 hl (by decide) rfl (fun ls hl => ?_)
        refine lv_lload hx hb dX4_covers_57 (lv_at hl 0 rfl) ?_
        refine lv_iload hx hb dX4_covers_59 (lv_at hl 1 rfl) ?_
        refine lv_bipush (v := (nI 64)) hx hb dX4_covers_61 (by decide) ?_
        refine z_irem hx hb (by omega) (by omega) (by omega) dX4_covers_63 ?_
        refine lv_lushr (v := ((airS (eiF d j) sw (((16 * m2) + m1) / 64) 8).toUInt64 >>> ((nI (((16 * m2) + m1) % 64)).toInt64.toUInt64 &&& Int64.toUInt64 63)).toInt64) hx hb dX4_covers_64 rfl ?_
        refine lv_lconst (v := 1) hx hb dX4_covers_65 (by decide) ?_
        refine lv_land hx hb dX4_covers_66 ?_
        refine lv_lconst (v := 0) hx hb dX4_covers_67 (by decide) ?_
        refine W.lcmp hx hb dX4_covers_68 ?_
        refine lv_if_ne (tgt := 76) hx hb dX4_covers_69 (by decide) (fun c69 => ?_) (fun c69 => ?_)
        · refine lv_iconst (v := (nI 1)) hx hb dX4_covers_76 (by decide) ?_
          exact z_reti hx hb hr hlocks rfl (by unfold aCovers; rw [if_pos c5, if_pos c19, if_pos cu, if_pos cz, ej]; exact cov_y (sw_of c19) (by omega) (by omega) c69) dX4_covers_77
        · refine lv_iconst (v := (nI 0)) hx hb dX4_covers_72 (by decide) ?_
          refine lv_goto (tgt := 77) hx hb dX4_covers_73 (by decide) ?_
          exact z_reti hx hb hr hlocks rfl (by unfold aCovers; rw [if_pos c5, if_pos c19, if_pos cu, if_pos cz, ej]; exact cov_n (sw_of c19) (by omega) (by omega) c69) dX4_covers_77
      · refine lv_sipush (v := (-1001)) hx hb dX4_covers_31 (by decide) ?_
        exact z_reti hx hb hr hlocks rfl (by unfold aCovers; first | (rw [if_neg (bf c5)]; done) | (rw [if_pos c5, if_neg (bf c19)]; done) | (rw [if_pos c5, if_pos c19]; exact if_2 c28)) dX4_covers_34
  · refine z_callV (As := [.int c]) (rest := []) hF hK (c_X2_craneAt_out l D y bd (x + 1) d ca pa pk c (hI) (hv24) (c5)) (cwV 1 hts gX4_covers_X2_craneAt rfl rfl rfl (by decide +kernel) ⟨Nat.le_of_ble_eq_true rfl, Nat.le_of_ble_eq_true rfl⟩) (z_recv (q := (RX2, TX2, 13)) hK (hP 0 _ rfl) rfl) hΦ.2.2 rfl hl.1 rfl (Nat.le_of_ble_eq_true rfl) dX4_covers_5 ⟨Nat.zero_le _, Nat.zero_le _⟩ ?_
    refine lv_astoreN (lv' := [(5, .null), (0, .ref x), (1, .int c), (2, .int sw), (3, .int u), (4, .int z)]) hx hb dX4_covers_8 hl (by decide) rfl (fun ls hl => ?_)
    refine lv_aloadN hx hb dX4_covers_10 (lv_at hl 0 rfl) ?_
    refine lv_ifnullN (tgt := 31) hx hb dX4_covers_12 (by decide) ?_
    refine lv_sipush (v := (-1001)) hx hb dX4_covers_31 (by decide) ?_
    exact z_reti hx hb hr hlocks rfl (by unfold aCovers; first | (rw [if_neg (bf c5)]; done) | (rw [if_pos c5, if_neg (bf c19)]; done) | (rw [if_pos c5, if_pos c19]; exact if_2 c28)) dX4_covers_34
theorem i_c_X4_refusal_X4 : ∀ w ∈ wsX40, w ∈ wsX4_refusal := fun w h => (List.mem_cons_of_mem _ (List.mem_append_left _ (List.mem_append_left _ (List.mem_append_left _ (List.mem_append_right _ h)))))
set_option maxRecDepth 100000 in
set_option maxHeartbeats 4000000 in
theorem c_X4_refusal (l : Launch) (D : va_G) (y : zY) (x : Nat) (bd : Nat) (d : Nat → Int32) (ca : Nat → Nat) (pa : Nat → Nat) (pk : Nat → Nat) (k : Nat) (len : Nat) (tf : Nat → Int32) (c : Int32) (n : Int32) (h : Int32) (sw : Int32) (hJ : rJ d) (hk4 : k ≤ 4) (hl80 : len ≤ 80) : Met l yX4_refusal wsX4_refusal ({ frames := 4, cells := 0, slots := 0, locals := 105 }) (zP [.ref x, .int c, .int n, .int h, .int sw] (fun H => clR D y x bd d ca pa pk k len tf H) D y) (zQ (some (.int (aRefusal d c n h sw)))) 0 0 nofree := by
  refine z_body (cc := cX4_refusal) (maxL := 6) (ret := (some .int)) (la := [(0, .ref x), (1, .int c), (2, .int n), (3, .int h), (4, .int sw)]) (by decide) rfl (Nat.le_of_ble_eq_true rfl) rfl ?_
  intro pg ev s mm below meth c0 ls hx hb hr hF hlocks hΦ hK hl _
  have hts := hF.2.2.2.2
  have hown : s.vm.findClass RX4 = some mm.cls := hF.2.2.2.1
  have hI := hJ.1
  have hv24 := hJ.2.1
  have hpl := hJ.2.2.1
  have hS := hpl.w
  have hG2 := hI.ng2
  have hC8 := hI.nc8
  have hS0 := hΦ.2.2
  obtain ⟨cs, ns, se, wi, al, re, gi, ps, ss, vs, hP, hR, hC, hE, hT⟩ := hS0
  refine lv_aload_n hx hb dX4_refusal_0 rfl (lv_at hl 0 rfl) ?_
  refine z_get (fs := [.ref (x + 1), .ref (x + 12), .ref (x + 23), .int (nI k), .ref (x + 24)]) (ref := "CranePermits") (C := RX4) (T := TX4) (N := 5) (ci := 4) (v := .ref (x + 1)) hx hb hts i_c_X4_refusal_X4 hown hK hΦ.1 0 (by decide) rfl (hts (.fieldLink RX4 10 "CranePermits" "now" "LCranePermits$Site;") (List.mem_of_getElem? (i := 1) rfl)) rfl rfl dX4_refusal_1 ?_
  refine lv_iload_n hx hb dX4_refusal_4 rfl (lv_at hl 1 rfl) ?_
  rcases Bool.eq_false_or_eq_true (inB c (nI 0) (d 0 - nI 1)) with c5 | c5
  · obtain ⟨j, hj, rfl⟩ := in_nc hI c5
    have ej : cl (nI j) = j := cl_nI (by omega)
    refine z_callV (As := [.int (nI j)]) (rest := []) hF hK (c_X2_craneAt_in l D y bd (x + 1) d ca pa pk j (hI) (hv24) (by omega)) (cwV 1 hts gX4_refusal_X2_craneAt rfl rfl rfl (by decide +kernel) ⟨Nat.le_of_ble_eq_true rfl, Nat.le_of_ble_eq_true rfl⟩) (z_recv (q := (RX2, TX2, 13)) hK (hP 0 _ rfl) rfl) hΦ.2.2 rfl hl.1 rfl (Nat.le_of_ble_eq_true rfl) dX4_refusal_5 ⟨Nat.zero_le _, Nat.zero_le _⟩ ?_
    refine lv_astore (lv' := [(5, .ref (ca j)), (0, .ref x), (1, .int (nI j)), (2, .int n), (3, .int h), (4, .int sw)]) hx hb dX4_refusal_8 hl (by decide) rfl (fun ls hl => ?_)
    refine lv_aload hx hb dX4_refusal_10 (lv_at hl 0 rfl) ?_
    refine lv_ifnull hx hb dX4_refusal_12 ?_
    refine lv_iload_n hx hb dX4_refusal_15 rfl (lv_at hl 3 rfl) ?_
    refine lv_iload_n hx hb dX4_refusal_16 rfl (lv_at hl 4 rfl) ?_
    refine lv_iload hx hb dX4_refusal_17 (lv_at hl 5 rfl) ?_
    refine z_callS (As := [.int n, .int h, .int sw]) (rest := []) hF hK (c_X4_isPlan l D y n h sw ) (va_cwS 3 hts gX4_refusal_X4_isPlan rfl rfl rfl (by decide +kernel) ⟨Nat.le_of_ble_eq_true rfl, Nat.le_of_ble_eq_true rfl⟩) trivial rfl hl.1 rfl (Nat.le_of_ble_eq_true rfl) dX4_refusal_19 ⟨Nat.zero_le _, Nat.zero_le _⟩ ?_
    refine z_ifne (tgt := 29) hx hb dX4_refusal_22 (by decide) (fun c22 => ?_) (fun c22 => ?_)
    · obtain ⟨cn, ch, cs2⟩ := plan_3 c22
      obtain ⟨u, lu, hu, rfl⟩ := inB_nat (by decide) cn (by decide)
      have eu : cl (nI u) = u := cl_nI (by omega)
      refine lv_aload_n hx hb dX4_refusal_29 rfl (lv_at hl 1 rfl) ?_
      refine z_get (fs := [.ref (x + 1), .ref (x + 12), .ref (x + 23), .int (nI k), .ref (x + 24)]) (ref := "CranePermits") (C := RX4) (T := TX4) (N := 5) (ci := 4) (v := .ref (x + 1)) hx hb hts i_c_X4_refusal_X4 hown hK hΦ.1 0 (by decide) rfl (hts (.fieldLink RX4 10 "CranePermits" "now" "LCranePermits$Site;") (List.mem_of_getElem? (i := 1) rfl)) rfl rfl dX4_refusal_30 ?_
      refine lv_aload hx hb dX4_refusal_33 (lv_at hl 0 rfl) ?_
      refine lv_iload_n hx hb dX4_refusal_35 rfl (lv_at hl 3 rfl) ?_
      refine lv_iload_n hx hb dX4_refusal_36 rfl (lv_at hl 4 rfl) ?_
      refine lv_iload hx hb dX4_refusal_37 (lv_at hl 5 rfl) ?_
      refine z_callV (As := [.ref (ca j), .int (nI u), .int h, .int sw]) (rest := []) hF hK (c_X2_refusalOf l D y bd (x + 1) d ca pa pk (ca j) j u h sw (hI) (hv24) (by omega) (by omega) (sw_of cs2) (hS)) (cwV 4 hts gX4_refusal_X2_refusalOf rfl rfl rfl (by decide +kernel) ⟨Nat.le_of_ble_eq_true rfl, Nat.le_of_ble_eq_true rfl⟩) (z_recv (q := (RX2, TX2, 13)) hK (hP 0 _ rfl) rfl) ⟨hΦ.2.2, (hC j (by omega)).2⟩ rfl hl.1 rfl (Nat.le_of_ble_eq_true rfl) dX4_refusal_39 ⟨Nat.zero_le _, Nat.zero_le _⟩ ?_
      exact z_reti hx hb hr hlocks rfl (by unfold aRefusal; rw [apl_y c5 c22, if_pos rfl, ej, eu]) dX4_refusal_42
    · refine lv_sipush (v := (-1001)) hx hb dX4_refusal_25 (by decide) ?_
      exact z_reti hx hb hr hlocks rfl (by unfold aRefusal; rw [if_neg]; first | exact apl_c c5 | exact apl_p c22) dX4_refusal_28
  · refine z_callV (As := [.int c]) (rest := []) hF hK (c_X2_craneAt_out l D y bd (x + 1) d ca pa pk c (hI) (hv24) (c5)) (cwV 1 hts gX4_refusal_X2_craneAt rfl rfl rfl (by decide +kernel) ⟨Nat.le_of_ble_eq_true rfl, Nat.le_of_ble_eq_true rfl⟩) (z_recv (q := (RX2, TX2, 13)) hK (hP 0 _ rfl) rfl) hΦ.2.2 rfl hl.1 rfl (Nat.le_of_ble_eq_true rfl) dX4_refusal_5 ⟨Nat.zero_le _, Nat.zero_le _⟩ ?_
    refine lv_astoreN (lv' := [(5, .null), (0, .ref x), (1, .int c), (2, .int n), (3, .int h), (4, .int sw)]) hx hb dX4_refusal_8 hl (by decide) rfl (fun ls hl => ?_)
    refine lv_aloadN hx hb dX4_refusal_10 (lv_at hl 0 rfl) ?_
    refine lv_ifnullN (tgt := 25) hx hb dX4_refusal_12 (by decide) ?_
    refine lv_sipush (v := (-1001)) hx hb dX4_refusal_25 (by decide) ?_
    exact z_reti hx hb hr hlocks rfl (by unfold aRefusal; rw [if_neg]; first | exact apl_c c5 | exact apl_p c22) dX4_refusal_28
theorem i_c_X4_permit_X4 : ∀ w ∈ wsX40, w ∈ wsX4_permit := fun w h => (List.mem_cons_of_mem _ (List.mem_append_left _ (List.mem_append_left _ (List.mem_append_left _ (List.mem_append_right _ h)))))
theorem i_c_X4_permit_X1 : ∀ w ∈ wsX10, w ∈ wsX4_permit := fun w h => (List.mem_cons_of_mem _ (List.mem_append_left _ (List.mem_append_left _ (List.mem_append_right _ h))))
theorem i_c_X4_permit_X0 : ∀ w ∈ wsX00, w ∈ wsX4_permit := fun w h => (List.mem_cons_of_mem _ (List.mem_append_left _ (List.mem_append_right _ h)))
theorem i_c_X4_permit_X2 : ∀ w ∈ wsX20, w ∈ wsX4_permit := fun w h => (List.mem_cons_of_mem _ (List.mem_append_right _ h))
set_option maxRecDepth 100000 in
set_option maxHeartbeats 4000000 in
theorem c_X4_permit (l : Launch) (D : va_G) (y : zY) (x : Nat) (bd : Nat) (d : Nat → Int32) (ca : Nat → Nat) (pa : Nat → Nat) (pk : Nat → Nat) (k : Nat) (len : Nat) (tf : Nat → Int32) (p : Int32) (w : Int32) (hJ : rJ d) (hk4 : k ≤ 4) (hl80 : len ≤ 80) : Met l yX4_permit wsX4_permit ({ frames := 2, cells := 0, slots := 0, locals := 43 }) (zP [.ref x, .int p, .int w] (fun H => clR D y x bd d ca pa pk k len tf H) D y) (zQ (some (.int (aPermit d p w)))) 0 0 nofree := by
  refine z_body (cc := cX4_permit) (maxL := 4) (ret := (some .int)) (la := [(0, .ref x), (1, .int p), (2, .int w)]) (by decide) rfl (Nat.le_of_ble_eq_true rfl) rfl ?_
  intro pg ev s mm below meth c0 ls hx hb hr hF hlocks hΦ hK hl _
  have hts := hF.2.2.2.2
  have hown : s.vm.findClass RX4 = some mm.cls := hF.2.2.2.1
  have hI := hJ.1
  have hv24 := hJ.2.1
  have hpl := hJ.2.2.1
  have hS := hpl.w
  have hG2 := hI.ng2
  have hC8 := hI.nc8
  have hS0 := hΦ.2.2
  obtain ⟨cs, ns, se, wi, al, re, gi, ps, ss, vs, hP, hR, hC, hE, hT⟩ := hS0
  refine lv_aload_n hx hb dX4_permit_0 rfl (lv_at hl 0 rfl) ?_
  refine z_get (fs := [.ref (x + 1), .ref (x + 12), .ref (x + 23), .int (nI k), .ref (x + 24)]) (ref := "CranePermits") (C := RX4) (T := TX4) (N := 5) (ci := 4) (v := .ref (x + 1)) hx hb hts i_c_X4_permit_X4 hown hK hΦ.1 0 (by decide) rfl (hts (.fieldLink RX4 10 "CranePermits" "now" "LCranePermits$Site;") (List.mem_of_getElem? (i := 1) rfl)) rfl rfl dX4_permit_1 ?_
  refine lv_iload_n hx hb dX4_permit_4 rfl (lv_at hl 1 rfl) ?_
  rcases Bool.eq_false_or_eq_true (inB p (nI 0) (d 442 - nI 1)) with c5 | c5
  · obtain ⟨j, hj, rfl⟩ := in_ng hI c5
    have ej : cl (nI j) = j := cl_nI (by omega)
    refine z_callV (As := [.int (nI j)]) (rest := []) hF hK (c_X2_permitAt_in l D y bd (x + 1) d ca pa pk j (hI) (hv24) (by omega)) (cwV 1 hts gX4_permit_X2_permitAt rfl rfl rfl (by decide +kernel) ⟨Nat.le_of_ble_eq_true rfl, Nat.le_of_ble_eq_true rfl⟩) (z_recv (q := (RX2, TX2, 13)) hK (hP 0 _ rfl) rfl) hΦ.2.2 rfl hl.1 rfl (Nat.le_of_ble_eq_true rfl) dX4_permit_5 ⟨Nat.zero_le _, Nat.zero_le _⟩ ?_
    refine lv_astore_n (lv' := [(3, .ref (pa j)), (0, .ref x), (1, .int (nI j)), (2, .int w)]) hx hb dX4_permit_8 rfl hl (by decide) rfl (fun ls hl => ?_)
    refine lv_aload_n hx hb dX4_permit_9 rfl (lv_at hl 0 rfl) ?_
    refine lv_ifnonnull (tgt := 17) hx hb dX4_permit_10 (by decide) ?_
    refine lv_iload_n hx hb dX4_permit_17 rfl (lv_at hl 3 rfl) ?_
    rcases sw_0_5 w with c18 | c18 | c18 | c18 | c18 | c18 | ⟨c18_0, c18_1, c18_2, c18_3, c18_4, c18_5⟩
    · refine lv_tableIn (off := 38) (tgt := 56) hx hb dX4_permit_18 (by rw [c18]; decide) (by rw [c18]; decide) (by rw [c18]; rfl) (by decide) ?_
      refine lv_aload_n hx hb dX4_permit_56 rfl (lv_at hl 0 rfl) ?_
      refine z_get (fs := [.int (nI j), .ref (pk j), .int (pm d j 1), .int (pm d j 2), .int (pm d j 2 / nI 10), .int (pm d j 2 - pm d j 2 / nI 10 * nI 10), .int (pm d j 3)]) (ref := "CranePermits$Permit") (C := RX1) (T := TX1) (N := 7) (ci := 1) (v := .ref (pk j)) hx hb hts i_c_X4_permit_X1 hown hK (hE j (by omega)).2.2.1 1 (by decide) rfl (hts (.fieldLink RX4 224 "CranePermits$Permit" "crane" "LCranePermits$Crane;") (List.mem_of_getElem? (i := 2) rfl)) rfl rfl dX4_permit_57 ?_
      refine z_get (fs := [.int (nI (pC d j)), .int (gr d (pC d j) 0), .int (gr d (pC d j) 1), .int (gr d (pC d j) 2), .int (gr d (pC d j) 3), .int (gr d (pC d j) 4), .ref ((pk j) + 1)]) (ref := "CranePermits$Crane") (C := RX0) (T := TX0) (N := 7) (ci := 0) (v := .int (nI (pC d j))) hx hb hts i_c_X4_permit_X0 hown hK (hE j (by omega)).2.2.2.1 0 (by decide) rfl (hts (.fieldLink RX4 64 "CranePermits$Crane" "number" "I") (List.mem_of_getElem? (i := 3) rfl)) rfl rfl dX4_permit_60 ?_
      exact z_reti hx hb hr hlocks rfl (by unfold aPermit; rw [if_pos c5, c18, if_pos (by decide), ej]; exact (hI.pc hj).symm) dX4_permit_63
    · refine lv_tableIn (off := 46) (tgt := 64) hx hb dX4_permit_18 (by rw [c18]; decide) (by rw [c18]; decide) (by rw [c18]; rfl) (by decide) ?_
      refine lv_aload_n hx hb dX4_permit_64 rfl (lv_at hl 0 rfl) ?_
      refine z_get (fs := [.int (nI j), .ref (pk j), .int (pm d j 1), .int (pm d j 2), .int (pm d j 2 / nI 10), .int (pm d j 2 - pm d j 2 / nI 10 * nI 10), .int (pm d j 3)]) (ref := "CranePermits$Permit") (C := RX1) (T := TX1) (N := 7) (ci := 1) (v := .int (pm d j 1)) hx hb hts i_c_X4_permit_X1 hown hK (hE j (by omega)).2.2.1 2 (by decide) rfl (hts (.fieldLink RX4 235 "CranePermits$Permit" "night" "I") (List.mem_of_getElem? (i := 4) rfl)) rfl rfl dX4_permit_65 ?_
      exact z_reti hx hb hr hlocks rfl (by unfold aPermit; rw [if_pos c5, c18, if_pos (by decide), ej]; rfl) dX4_permit_68
    · refine lv_tableIn (off := 51) (tgt := 69) hx hb dX4_permit_18 (by rw [c18]; decide) (by rw [c18]; decide) (by rw [c18]; rfl) (by decide) ?_
      refine lv_aload_n hx hb dX4_permit_69 rfl (lv_at hl 0 rfl) ?_
      refine z_get (fs := [.int (nI j), .ref (pk j), .int (pm d j 1), .int (pm d j 2), .int (pm d j 2 / nI 10), .int (pm d j 2 - pm d j 2 / nI 10 * nI 10), .int (pm d j 3)]) (ref := "CranePermits$Permit") (C := RX1) (T := TX1) (N := 7) (ci := 1) (v := .int (pm d j 2)) hx hb hts i_c_X4_permit_X1 hown hK (hE j (by omega)).2.2.1 3 (by decide) rfl (hts (.fieldLink RX4 228 "CranePermits$Permit" "hours" "I") (List.mem_of_getElem? (i := 5) rfl)) rfl rfl dX4_permit_70 ?_
      exact z_reti hx hb hr hlocks rfl (by unfold aPermit; rw [if_pos c5, c18, if_pos (by decide), ej]; rfl) dX4_permit_73
    · refine lv_tableIn (off := 56) (tgt := 74) hx hb dX4_permit_18 (by rw [c18]; decide) (by rw [c18]; decide) (by rw [c18]; rfl) (by decide) ?_
      refine lv_aload_n hx hb dX4_permit_74 rfl (lv_at hl 0 rfl) ?_
      refine z_get (fs := [.int (nI j), .ref (pk j), .int (pm d j 1), .int (pm d j 2), .int (pm d j 2 / nI 10), .int (pm d j 2 - pm d j 2 / nI 10 * nI 10), .int (pm d j 3)]) (ref := "CranePermits$Permit") (C := RX1) (T := TX1) (N := 7) (ci := 1) (v := .int (pm d j 3)) hx hb hts i_c_X4_permit_X1 hown hK (hE j (by omega)).2.2.1 6 (by decide) rfl (hts (.fieldLink RX4 238 "CranePermits$Permit" "swing" "I") (List.mem_of_getElem? (i := 6) rfl)) rfl rfl dX4_permit_75 ?_
      exact z_reti hx hb hr hlocks rfl (by unfold aPermit; rw [if_pos c5, c18, if_pos (by decide), ej]; rfl) dX4_permit_78
    · refine lv_tableIn (off := 61) (tgt := 79) hx hb dX4_permit_18 (by rw [c18]; decide) (by rw [c18]; decide) (by rw [c18]; rfl) (by decide) ?_
      refine lv_aload_n hx hb dX4_permit_79 rfl (lv_at hl 1 rfl) ?_
      refine z_get (fs := [.ref (x + 1), .ref (x + 12), .ref (x + 23), .int (nI k), .ref (x + 24)]) (ref := "CranePermits") (C := RX4) (T := TX4) (N := 5) (ci := 4) (v := .ref (x + 1)) hx hb hts i_c_X4_permit_X4 hown hK hΦ.1 0 (by decide) rfl (hts (.fieldLink RX4 10 "CranePermits" "now" "LCranePermits$Site;") (List.mem_of_getElem? (i := 1) rfl)) rfl rfl dX4_permit_80 ?_
      refine lv_aload_n hx hb dX4_permit_83 rfl (lv_at hl 0 rfl) ?_
      refine z_get (fs := [.int (nI j), .ref (pk j), .int (pm d j 1), .int (pm d j 2), .int (pm d j 2 / nI 10), .int (pm d j 2 - pm d j 2 / nI 10 * nI 10), .int (pm d j 3)]) (ref := "CranePermits$Permit") (C := RX1) (T := TX1) (N := 7) (ci := 1) (v := .ref (pk j)) hx hb hts i_c_X4_permit_X1 hown hK (hE j (by omega)).2.2.1 1 (by decide) rfl (hts (.fieldLink RX4 224 "CranePermits$Permit" "crane" "LCranePermits$Crane;") (List.mem_of_getElem? (i := 2) rfl)) rfl rfl dX4_permit_84 ?_
      refine lv_aload_n hx hb dX4_permit_87 rfl (lv_at hl 0 rfl) ?_
      refine z_get (fs := [.int (nI j), .ref (pk j), .int (pm d j 1), .int (pm d j 2), .int (pm d j 2 / nI 10), .int (pm d j 2 - pm d j 2 / nI 10 * nI 10), .int (pm d j 3)]) (ref := "CranePermits$Permit") (C := RX1) (T := TX1) (N := 7) (ci := 1) (v := .int (pm d j 2)) hx hb hts i_c_X4_permit_X1 hown hK (hE j (by omega)).2.2.1 3 (by decide) rfl (hts (.fieldLink RX4 228 "CranePermits$Permit" "hours" "I") (List.mem_of_getElem? (i := 5) rfl)) rfl rfl dX4_permit_88 ?_
      refine z_callV (As := [.ref (pk j), .int (pm d j 2)]) (rest := []) hF hK (c_X2_useOf l D y bd (x + 1) d ca pa pk (pk j) (pC d j) (pm d j 2) (hI) (hv24) (hI.pcn hj)) (cwV 2 hts gX4_permit_X2_useOf rfl rfl rfl (by decide +kernel) ⟨Nat.le_of_ble_eq_true rfl, Nat.le_of_ble_eq_true rfl⟩) (z_recv (q := (RX2, TX2, 13)) hK (hP 0 _ rfl) rfl) ⟨hΦ.2.2, (hE j (by omega)).2.2.2⟩ rfl hl.1 rfl (Nat.le_of_ble_eq_true rfl) dX4_permit_91 ⟨Nat.zero_le _, Nat.zero_le _⟩ ?_
      exact z_reti hx hb hr hlocks rfl (by unfold aPermit; rw [if_pos c5, c18, if_pos (by decide), ej]; rfl) dX4_permit_94
    · refine lv_tableIn (off := 77) (tgt := 95) hx hb dX4_permit_18 (by rw [c18]; decide) (by rw [c18]; decide) (by rw [c18]; rfl) (by decide) ?_
      refine lv_aload_n hx hb dX4_permit_95 rfl (lv_at hl 1 rfl) ?_
      refine z_get (fs := [.ref (x + 1), .ref (x + 12), .ref (x + 23), .int (nI k), .ref (x + 24)]) (ref := "CranePermits") (C := RX4) (T := TX4) (N := 5) (ci := 4) (v := .ref (x + 1)) hx hb hts i_c_X4_permit_X4 hown hK hΦ.1 0 (by decide) rfl (hts (.fieldLink RX4 10 "CranePermits" "now" "LCranePermits$Site;") (List.mem_of_getElem? (i := 1) rfl)) rfl rfl dX4_permit_96 ?_
      refine z_get (fs := [.ref ((x + 1) + 1), .int (nI (nC d)), .ref ((x + 1) + 2), .ref ((x + 1) + 3), .ref ((x + 1) + 4), .ref ((x + 1) + 5), .ref ((x + 1) + 6), .ref ((x + 1) + 7), .ref ((x + 1) + 8), .int (nI (nG d)), .ref ((x + 1) + 9), .ref ((x + 1) + 10), .int (nI (vn d))]) (ref := "CranePermits$Site") (C := RX2) (T := TX2) (N := 13) (ci := 2) (v := .ref ((x + 1) + 9)) hx hb hts i_c_X4_permit_X2 hown hK (hP 0 _ rfl) 10 (by decide) rfl (hts (.fieldLink RX4 217 "CranePermits$Site" "states" "[I") (List.mem_of_getElem? (i := 7) rfl)) rfl rfl dX4_permit_99 ?_
      refine lv_aload_n hx hb dX4_permit_102 rfl (lv_at hl 0 rfl) ?_
      refine z_get (fs := [.int (nI j), .ref (pk j), .int (pm d j 1), .int (pm d j 2), .int (pm d j 2 / nI 10), .int (pm d j 2 - pm d j 2 / nI 10 * nI 10), .int (pm d j 3)]) (ref := "CranePermits$Permit") (C := RX1) (T := TX1) (N := 7) (ci := 1) (v := .int (nI j)) hx hb hts i_c_X4_permit_X1 hown hK (hE j (by omega)).2.2.1 0 (by decide) rfl (hts (.fieldLink RX4 212 "CranePermits$Permit" "number" "I") (List.mem_of_getElem? (i := 8) rfl)) rfl rfl dX4_permit_103 ?_
      refine z_callS (As := [.ref ((x + 1) + 9), .int (nI j)]) (rest := []) hF hK (c_X4_at l D y ((x + 1) + 9) 200 ss j (by omega) (by decide)) (va_cwS 2 hts gX4_permit_X4_at rfl rfl rfl (by decide +kernel) ⟨Nat.le_of_ble_eq_true rfl, Nat.le_of_ble_eq_true rfl⟩) (hP 9 _ rfl) rfl hl.1 rfl (Nat.le_of_ble_eq_true rfl) dX4_permit_106 ⟨Nat.zero_le _, Nat.zero_le _⟩ ?_
      refine z_topi (z := (pm d j 4)) (hR.2.2.2.2.2.2.2.2.1 j (by omega)) ?_
      exact z_reti hx hb hr hlocks rfl (by unfold aPermit; rw [if_pos c5, c18, if_pos (by decide), ej]; rfl) dX4_permit_109
    · refine lv_tableOut (tgt := 110) hx hb dX4_permit_18 (swOut_0_5 c18_0 c18_1 c18_2 c18_3 c18_4 c18_5) (by decide) ?_
      refine lv_sipush (v := (-1001)) hx hb dX4_permit_110 (by decide) ?_
      exact z_reti hx hb hr hlocks rfl (by unfold aPermit; rw [if_pos c5, no_5 c18_0 c18_1 c18_2 c18_3 c18_4 c18_5]; rfl) dX4_permit_113
  · refine z_callV (As := [.int p]) (rest := []) hF hK (c_X2_permitAt_out l D y bd (x + 1) d ca pa pk p (hI) (hv24) (c5)) (cwV 1 hts gX4_permit_X2_permitAt rfl rfl rfl (by decide +kernel) ⟨Nat.le_of_ble_eq_true rfl, Nat.le_of_ble_eq_true rfl⟩) (z_recv (q := (RX2, TX2, 13)) hK (hP 0 _ rfl) rfl) hΦ.2.2 rfl hl.1 rfl (Nat.le_of_ble_eq_true rfl) dX4_permit_5 ⟨Nat.zero_le _, Nat.zero_le _⟩ ?_
    refine lv_astore_nN (lv' := [(3, .null), (0, .ref x), (1, .int p), (2, .int w)]) hx hb dX4_permit_8 rfl hl (by decide) rfl (fun ls hl => ?_)
    refine lv_aload_nN hx hb dX4_permit_9 rfl (lv_at hl 0 rfl) ?_
    refine lv_ifnonnullN hx hb dX4_permit_10 ?_
    refine lv_sipush (v := (-1001)) hx hb dX4_permit_13 (by decide) ?_
    exact z_reti hx hb hr hlocks rfl (by unfold aPermit; rw [if_neg (bf c5)]) dX4_permit_16
theorem i_c_X4_inOrder_X4 : ∀ w ∈ wsX40, w ∈ wsX4_inOrder := fun w h => (List.mem_cons_of_mem _ (List.mem_append_left _ (List.mem_append_left _ (List.mem_append_right _ h))))
theorem i_c_X4_inOrder_X2 : ∀ w ∈ wsX20, w ∈ wsX4_inOrder := fun w h => (List.mem_cons_of_mem _ (List.mem_append_left _ (List.mem_append_right _ h)))
theorem i_c_X4_inOrder_X1 : ∀ w ∈ wsX10, w ∈ wsX4_inOrder := fun w h => (List.mem_cons_of_mem _ (List.mem_append_right _ h))
set_option maxRecDepth 100000 in
set_option maxHeartbeats 4000000 in
theorem c_X4_inOrder (l : Launch) (D : va_G) (y : zY) (x : Nat) (bd : Nat) (d : Nat → Int32) (ca : Nat → Nat) (pa : Nat → Nat) (pk : Nat → Nat) (k : Nat) (len : Nat) (tf : Nat → Int32) (w : Int32) (hJ : rJ d) (hk4 : k ≤ 4) (hl80 : len ≤ 80) : Met l yX4_inOrder wsX4_inOrder ({ frames := 2, cells := 0, slots := 0, locals := 46 }) (zP [.ref x, .int w] (fun H => clR D y x bd d ca pa pk k len tf H) D y) (zQ (some (.int (aInOrder d w)))) 0 0 nofree := by
  refine z_body (cc := cX4_inOrder) (maxL := 4) (ret := (some .int)) (la := [(0, .ref x), (1, .int w)]) (by decide) rfl (Nat.le_of_ble_eq_true rfl) rfl ?_
  intro pg ev s mm below meth c0 ls hx hb hr hF hlocks hΦ hK hl _
  have hts := hF.2.2.2.2
  have hown : s.vm.findClass RX4 = some mm.cls := hF.2.2.2.1
  have hI := hJ.1
  have hv24 := hJ.2.1
  have hpl := hJ.2.2.1
  have hS := hpl.w
  have hG2 := hI.ng2
  have hC8 := hI.nc8
  have hS0 := hΦ.2.2
  obtain ⟨cs, ns, se, wi, al, re, gi, ps, ss, vs, hP, hR, hC, hE, hT⟩ := hS0
  refine lv_iload_n hx hb dX4_inOrder_0 rfl (lv_at hl 1 rfl) ?_
  refine lv_if_ge (tgt := 8) hx hb dX4_inOrder_1 (by decide) (fun c1 => ?_) (fun c1 => ?_)
  · refine lv_iconst (v := (nI 0)) hx hb dX4_inOrder_8 (by decide) ?_
    refine lv_istore_n (lv' := [(2, .int (nI 0)), (0, .ref x), (1, .int w)]) hx hb dX4_inOrder_9 rfl hl (by decide) rfl (fun ls hl => ?_)
    refine z_loop (S := Nat) (nL := 4) (fun (i : Nat) => vn d - i) (fun (i : Nat) => [(2, .int (nI i)), (0, .ref x), (1, .int w)]) (fun (i : Nat) => i ≤ vn d ∧ ∀ j, j < i → ioF d w (vx d j) = false) 0 (⟨Nat.zero_le _, fun j hj => absurd hj (Nat.not_lt_zero j)⟩) (lv_sub hl [0, 1, 2] rfl) ?_
    clear hl
    rintro i ls hI_10 hl ih_10
    obtain ⟨hi, hall⟩ := hI_10
    refine lv_iload_n hx hb dX4_inOrder_10 rfl (lv_at hl 0 rfl) ?_
    refine lv_aload_n hx hb dX4_inOrder_11 rfl (lv_at hl 1 rfl) ?_
    refine z_get (fs := [.ref (x + 1), .ref (x + 12), .ref (x + 23), .int (nI k), .ref (x + 24)]) (ref := "CranePermits") (C := RX4) (T := TX4) (N := 5) (ci := 4) (v := .ref (x + 1)) hx hb hts i_c_X4_inOrder_X4 hown hK hΦ.1 0 (by decide) rfl (hts (.fieldLink RX4 10 "CranePermits" "now" "LCranePermits$Site;") (List.mem_of_getElem? (i := 1) rfl)) rfl rfl dX4_inOrder_12 ?_
    refine z_get (fs := [.ref ((x + 1) + 1), .int (nI (nC d)), .ref ((x + 1) + 2), .ref ((x + 1) + 3), .ref ((x + 1) + 4), .ref ((x + 1) + 5), .ref ((x + 1) + 6), .ref ((x + 1) + 7), .ref ((x + 1) + 8), .int (nI (nG d)), .ref ((x + 1) + 9), .ref ((x + 1) + 10), .int (nI (vn d))]) (ref := "CranePermits$Site") (C := RX2) (T := TX2) (N := 13) (ci := 2) (v := .int (nI (vn d))) hx hb hts i_c_X4_inOrder_X2 hown hK (hP 0 _ rfl) 12 (by decide) rfl (hts (.fieldLink RX4 152 "CranePermits$Site" "validCount" "I") (List.mem_of_getElem? (i := 2) rfl)) rfl rfl dX4_inOrder_15 ?_
    refine z_ge (tgt := 57) hx hb (by omega) (by omega) dX4_inOrder_18 (by decide) (fun c18 => ?_) (fun c18 => ?_)
    · refine lv_sipush (v := (-1004)) hx hb dX4_inOrder_57 (by decide) ?_
      exact z_reti hx hb hr hlocks rfl (by unfold aInOrder; rw [if_pos c1, find_v_n (g := ordP d w) (f := ioF d w) (fun _ => rfl) (fun j hj => hall j (by omega))]; rfl) dX4_inOrder_60
    · refine lv_aload_n hx hb dX4_inOrder_21 rfl (lv_at hl 1 rfl) ?_
      refine z_get (fs := [.ref (x + 1), .ref (x + 12), .ref (x + 23), .int (nI k), .ref (x + 24)]) (ref := "CranePermits") (C := RX4) (T := TX4) (N := 5) (ci := 4) (v := .ref (x + 1)) hx hb hts i_c_X4_inOrder_X4 hown hK hΦ.1 0 (by decide) rfl (hts (.fieldLink RX4 10 "CranePermits" "now" "LCranePermits$Site;") (List.mem_of_getElem? (i := 1) rfl)) rfl rfl dX4_inOrder_22 ?_
      refine lv_iload_n hx hb dX4_inOrder_25 rfl (lv_at hl 0 rfl) ?_
      refine z_callV (As := [.int (nI i)]) (rest := []) hF hK (c_X2_validAt_in l D y bd (x + 1) d ca pa pk i (hI) (hv24) (by omega)) (cwV 1 hts gX4_inOrder_X2_validAt rfl rfl rfl (by decide +kernel) ⟨Nat.le_of_ble_eq_true rfl, Nat.le_of_ble_eq_true rfl⟩) (z_recv (q := (RX2, TX2, 13)) hK (hP 0 _ rfl) rfl) hΦ.2.2 rfl hl.1 rfl (Nat.le_of_ble_eq_true rfl) dX4_inOrder_26 ⟨Nat.zero_le _, Nat.zero_le _⟩ ?_
      refine lv_astore_n (lv' := [(3, .ref (pa (vx d i))), (2, .int (nI i)), (0, .ref x), (1, .int w)]) hx hb dX4_inOrder_29 rfl hl (by decide) rfl (fun ls hl => ?_)
      refine lv_aload_n hx hb dX4_inOrder_30 rfl (lv_at hl 0 rfl) ?_
      refine lv_ifnull hx hb dX4_inOrder_31 ?_
      refine lv_aload_n hx hb dX4_inOrder_34 rfl (lv_at hl 2 rfl) ?_
      refine z_get (fs := [.ref (x + 1), .ref (x + 12), .ref (x + 23), .int (nI k), .ref (x + 24)]) (ref := "CranePermits") (C := RX4) (T := TX4) (N := 5) (ci := 4) (v := .ref (x + 1)) hx hb hts i_c_X4_inOrder_X4 hown hK hΦ.1 0 (by decide) rfl (hts (.fieldLink RX4 10 "CranePermits" "now" "LCranePermits$Site;") (List.mem_of_getElem? (i := 1) rfl)) rfl rfl dX4_inOrder_35 ?_
      refine lv_aload_n hx hb dX4_inOrder_38 rfl (lv_at hl 0 rfl) ?_
      refine z_callV (As := [.ref (pa (vx d i))]) (rest := []) hF hK (c_X2_validAhead l D y bd (x + 1) d ca pa pk (pa (vx d i)) (vx d i) (pk (vx d i)) (hI) (hv24) (Nat.lt_of_lt_of_le (vx_in (by omega)).1 hG2)) (cwV 1 hts gX4_inOrder_X2_validAhead rfl rfl rfl (by decide +kernel) ⟨Nat.le_of_ble_eq_true rfl, Nat.le_of_ble_eq_true rfl⟩) (z_recv (q := (RX2, TX2, 13)) hK (hP 0 _ rfl) rfl) ⟨hΦ.2.2, (hE (vx d i) (vx_in (by omega)).1).2.2⟩ rfl hl.1 rfl (Nat.le_of_ble_eq_true rfl) dX4_inOrder_39 ⟨Nat.zero_le _, Nat.zero_le _⟩ ?_
      refine lv_iload_n hx hb dX4_inOrder_42 rfl (lv_at hl 3 rfl) ?_
      refine lv_icmp_ne (tgt := 51) hx hb dX4_inOrder_43 (by decide) (fun c43 => ?_) (fun c43 => ?_)
      · refine lv_iinc (v := (nI (i + 1))) (lv' := [(2, .int (nI (i + 1))), (3, .ref (pa (vx d i))), (0, .ref x), (1, .int w)]) hx hb dX4_inOrder_51 hl (k := 1) rfl (in1 _) (by decide) rfl (fun ls hl => ?_)
        refine lv_goto (tgt := 10) hx hb dX4_inOrder_54 (by decide) ?_
        exact ih_10 (i + 1) _ (by omega) (⟨by omega, lt_sc (f := fun j => ioF d w (vx d j)) hall (io_n hpl (by omega) c43)⟩) (lv_sub hl [0, 2, 3] rfl)
      · refine lv_aload_n hx hb dX4_inOrder_46 rfl (lv_at hl 0 rfl) ?_
        refine z_get (fs := [.int (nI (vx d i)), .ref (pk (vx d i)), .int (pm d (vx d i) 1), .int (pm d (vx d i) 2), .int (pm d (vx d i) 2 / nI 10), .int (pm d (vx d i) 2 - pm d (vx d i) 2 / nI 10 * nI 10), .int (pm d (vx d i) 3)]) (ref := "CranePermits$Permit") (C := RX1) (T := TX1) (N := 7) (ci := 1) (v := .int (nI (vx d i))) hx hb hts i_c_X4_inOrder_X1 hown hK (hE (vx d i) (vx_in (by omega)).1).2.2.1 0 (by decide) rfl (hts (.fieldLink RX4 212 "CranePermits$Permit" "number" "I") (List.mem_of_getElem? (i := 3) rfl)) rfl rfl dX4_inOrder_47 ?_
        exact z_reti hx hb hr hlocks rfl (by unfold aInOrder; rw [if_pos c1, find_v_s (g := ordP d w) (f := ioF d w) (fun _ => rfl) (by omega) hall (io_y hpl (by omega) c43)]; rfl) dX4_inOrder_50
  · refine lv_sipush (v := (-1001)) hx hb dX4_inOrder_4 (by decide) ?_
    exact z_reti hx hb hr hlocks rfl (by unfold aInOrder; rw [if_neg c1]) dX4_inOrder_7
theorem i_c_X4_shares_X4 : ∀ w ∈ wsX40, w ∈ wsX4_shares := fun w h => (List.mem_cons_of_mem _ (List.mem_append_left _ (List.mem_append_left _ (List.mem_append_left _ (List.mem_append_right _ h)))))
theorem i_c_X4_shares_X1 : ∀ w ∈ wsX10, w ∈ wsX4_shares := fun w h => (List.mem_cons_of_mem _ (List.mem_append_left _ (List.mem_append_left _ (List.mem_append_right _ h))))
set_option maxRecDepth 100000 in
set_option maxHeartbeats 4000000 in
theorem c_X4_shares (l : Launch) (D : va_G) (y : zY) (x : Nat) (bd : Nat) (d : Nat → Int32) (ca : Nat → Nat) (pa : Nat → Nat) (pk : Nat → Nat) (k : Nat) (len : Nat) (tf : Nat → Int32) (p : Int32) (q : Int32) (hJ : rJ d) (hk4 : k ≤ 4) (hl80 : len ≤ 80) : Met l yX4_shares wsX4_shares ({ frames := 2, cells := 0, slots := 0, locals := 54 }) (zP [.ref x, .int p, .int q] (fun H => clR D y x bd d ca pa pk k len tf H) D y) (zQ (some (.int (aShares d p q)))) 0 0 nofree := by
  refine z_body (cc := cX4_shares) (maxL := 6) (ret := (some .int)) (la := [(0, .ref x), (1, .int p), (2, .int q)]) (by decide) rfl (Nat.le_of_ble_eq_true rfl) rfl ?_
  intro pg ev s mm below meth c0 ls hx hb hr hF hlocks hΦ hK hl _
  have hts := hF.2.2.2.2
  have hown : s.vm.findClass RX4 = some mm.cls := hF.2.2.2.1
  have hI := hJ.1
  have hv24 := hJ.2.1
  have hpl := hJ.2.2.1
  have hS := hpl.w
  have hG2 := hI.ng2
  have hC8 := hI.nc8
  have hS0 := hΦ.2.2
  obtain ⟨cs, ns, se, wi, al, re, gi, ps, ss, vs, hP, hR, hC, hE, hT⟩ := hS0
  refine lv_aload_n hx hb dX4_shares_0 rfl (lv_at hl 0 rfl) ?_
  refine z_get (fs := [.ref (x + 1), .ref (x + 12), .ref (x + 23), .int (nI k), .ref (x + 24)]) (ref := "CranePermits") (C := RX4) (T := TX4) (N := 5) (ci := 4) (v := .ref (x + 1)) hx hb hts i_c_X4_shares_X4 hown hK hΦ.1 0 (by decide) rfl (hts (.fieldLink RX4 10 "CranePermits" "now" "LCranePermits$Site;") (List.mem_of_getElem? (i := 1) rfl)) rfl rfl dX4_shares_1 ?_
  refine lv_iload_n hx hb dX4_shares_4 rfl (lv_at hl 1 rfl) ?_
  rcases Bool.eq_false_or_eq_true (inB p (nI 0) (d 442 - nI 1)) with c5 | c5
  · obtain ⟨j, hj, rfl⟩ := in_ng hI c5
    have ej : cl (nI j) = j := cl_nI (by omega)
    refine z_callV (As := [.int (nI j)]) (rest := []) hF hK (c_X2_permitAt_in l D y bd (x + 1) d ca pa pk j (hI) (hv24) (by omega)) (cwV 1 hts gX4_shares_X2_permitAt rfl rfl rfl (by decide +kernel) ⟨Nat.le_of_ble_eq_true rfl, Nat.le_of_ble_eq_true rfl⟩) (z_recv (q := (RX2, TX2, 13)) hK (hP 0 _ rfl) rfl) hΦ.2.2 rfl hl.1 rfl (Nat.le_of_ble_eq_true rfl) dX4_shares_5 ⟨Nat.zero_le _, Nat.zero_le _⟩ ?_
    refine lv_astore_n (lv' := [(3, .ref (pa j)), (0, .ref x), (1, .int (nI j)), (2, .int q)]) hx hb dX4_shares_8 rfl hl (by decide) rfl (fun ls hl => ?_)
    refine lv_aload_n hx hb dX4_shares_9 rfl (lv_at hl 1 rfl) ?_
    refine z_get (fs := [.ref (x + 1), .ref (x + 12), .ref (x + 23), .int (nI k), .ref (x + 24)]) (ref := "CranePermits") (C := RX4) (T := TX4) (N := 5) (ci := 4) (v := .ref (x + 1)) hx hb hts i_c_X4_shares_X4 hown hK hΦ.1 0 (by decide) rfl (hts (.fieldLink RX4 10 "CranePermits" "now" "LCranePermits$Site;") (List.mem_of_getElem? (i := 1) rfl)) rfl rfl dX4_shares_10 ?_
    refine lv_iload_n hx hb dX4_shares_13 rfl (lv_at hl 3 rfl) ?_
    rcases Bool.eq_false_or_eq_true (inB q (nI 0) (d 442 - nI 1)) with c14 | c14
    · obtain ⟨u, hu, rfl⟩ := in_ng hI c14
      have eu : cl (nI u) = u := cl_nI (by omega)
      refine z_callV (As := [.int (nI u)]) (rest := []) hF hK (c_X2_permitAt_in l D y bd (x + 1) d ca pa pk u (hI) (hv24) (by omega)) (cwV 1 hts gX4_shares_X2_permitAt rfl rfl rfl (by decide +kernel) ⟨Nat.le_of_ble_eq_true rfl, Nat.le_of_ble_eq_true rfl⟩) (z_recv (q := (RX2, TX2, 13)) hK (hP 0 _ rfl) rfl) hΦ.2.2 rfl hl.1 rfl (Nat.le_of_ble_eq_true rfl) dX4_shares_14 ⟨Nat.zero_le _, Nat.zero_le _⟩ ?_
      refine lv_astore (lv' := [(4, .ref (pa u)), (3, .ref (pa j)), (0, .ref x), (1, .int (nI j)), (2, .int (nI u))]) hx hb dX4_shares_17 hl (by decide) rfl (fun ls hl => ?_)
      refine lv_aload_n hx hb dX4_shares_19 rfl (lv_at hl 1 rfl) ?_
      refine lv_ifnull hx hb dX4_shares_20 ?_
      refine lv_aload hx hb dX4_shares_23 (lv_at hl 0 rfl) ?_
      refine lv_ifnonnull (tgt := 32) hx hb dX4_shares_25 (by decide) ?_
      refine lv_aload_n hx hb dX4_shares_32 rfl (lv_at hl 2 rfl) ?_
      refine z_get (fs := [.ref (x + 1), .ref (x + 12), .ref (x + 23), .int (nI k), .ref (x + 24)]) (ref := "CranePermits") (C := RX4) (T := TX4) (N := 5) (ci := 4) (v := .ref (x + 1)) hx hb hts i_c_X4_shares_X4 hown hK hΦ.1 0 (by decide) rfl (hts (.fieldLink RX4 10 "CranePermits" "now" "LCranePermits$Site;") (List.mem_of_getElem? (i := 1) rfl)) rfl rfl dX4_shares_33 ?_
      refine lv_aload_n hx hb dX4_shares_36 rfl (lv_at hl 1 rfl) ?_
      refine z_get (fs := [.int (nI j), .ref (pk j), .int (pm d j 1), .int (pm d j 2), .int (pm d j 2 / nI 10), .int (pm d j 2 - pm d j 2 / nI 10 * nI 10), .int (pm d j 3)]) (ref := "CranePermits$Permit") (C := RX1) (T := TX1) (N := 7) (ci := 1) (v := .ref (pk j)) hx hb hts i_c_X4_shares_X1 hown hK (hE j (by omega)).2.2.1 1 (by decide) rfl (hts (.fieldLink RX4 224 "CranePermits$Permit" "crane" "LCranePermits$Crane;") (List.mem_of_getElem? (i := 2) rfl)) rfl rfl dX4_shares_37 ?_
      refine lv_aload_n hx hb dX4_shares_40 rfl (lv_at hl 1 rfl) ?_
      refine z_get (fs := [.int (nI j), .ref (pk j), .int (pm d j 1), .int (pm d j 2), .int (pm d j 2 / nI 10), .int (pm d j 2 - pm d j 2 / nI 10 * nI 10), .int (pm d j 3)]) (ref := "CranePermits$Permit") (C := RX1) (T := TX1) (N := 7) (ci := 1) (v := .int (pm d j 1)) hx hb hts i_c_X4_shares_X1 hown hK (hE j (by omega)).2.2.1 2 (by decide) rfl (hts (.fieldLink RX4 235 "CranePermits$Permit" "night" "I") (List.mem_of_getElem? (i := 3) rfl)) rfl rfl dX4_shares_41 ?_
      refine lv_aload_n hx hb dX4_shares_44 rfl (lv_at hl 1 rfl) ?_
      refine z_get (fs := [.int (nI j), .ref (pk j), .int (pm d j 1), .int (pm d j 2), .int (pm d j 2 / nI 10), .int (pm d j 2 - pm d j 2 / nI 10 * nI 10), .int (pm d j 3)]) (ref := "CranePermits$Permit") (C := RX1) (T := TX1) (N := 7) (ci := 1) (v := .int (pm d j 2)) hx hb hts i_c_X4_shares_X1 hown hK (hE j (by omega)).2.2.1 3 (by decide) rfl (hts (.fieldLink RX4 228 "CranePermits$Permit" "hours" "I") (List.mem_of_getElem? (i := 4) rfl)) rfl rfl dX4_shares_45 ?_
      refine lv_aload_n hx hb dX4_shares_48 rfl (lv_at hl 1 rfl) ?_
      refine z_get (fs := [.int (nI j), .ref (pk j), .int (pm d j 1), .int (pm d j 2), .int (pm d j 2 / nI 10), .int (pm d j 2 - pm d j 2 / nI 10 * nI 10), .int (pm d j 3)]) (ref := "CranePermits$Permit") (C := RX1) (T := TX1) (N := 7) (ci := 1) (v := .int (pm d j 3)) hx hb hts i_c_X4_shares_X1 hown hK (hE j (by omega)).2.2.1 6 (by decide) rfl (hts (.fieldLink RX4 238 "CranePermits$Permit" "swing" "I") (List.mem_of_getElem? (i := 5) rfl)) rfl rfl dX4_shares_49 ?_
      refine lv_aload hx hb dX4_shares_52 (lv_at hl 0 rfl) ?_
      refine z_callV (As := [.ref (pk j), .int (pm d j 1), .int (pm d j 2), .int (pm d j 3), .ref (pa u)]) (rest := []) hF hK (c_X2_shareAir l D y bd (x + 1) d ca pa pk (pk j) (pC d j) (pa u) u (pk u) (pm d j 1) (pm d j 2) (pm d j 3) (hI) (hv24) (hI.pc8 hj) (hu) (hS _ hj) (hS _ hu)) (cwV 5 hts gX4_shares_X2_shareAir rfl rfl rfl (by decide +kernel) ⟨Nat.le_of_ble_eq_true rfl, Nat.le_of_ble_eq_true rfl⟩) (z_recv (q := (RX2, TX2, 13)) hK (hP 0 _ rfl) rfl) ⟨hΦ.2.2, (hE j (by omega)).2.2.2, (hE u (by omega)).2.2⟩ rfl hl.1 rfl (Nat.le_of_ble_eq_true rfl) dX4_shares_54 ⟨Nat.zero_le _, Nat.zero_le _⟩ ?_
      refine lv_istore (lv' := [(5, .int (bI (airB d (pC d j) (pm d j 1) (pm d j 2) (pm d j 3) u))), (4, .ref (pa u)), (3, .ref (pa j)), (0, .ref x), (1, .int (nI j)), (2, .int (nI u))]) hx hb dX4_shares_57 hl (by decide) rfl (fun ls hl => ?_)
      refine lv_iload hx hb dX4_shares_59 (lv_at hl 0 rfl) ?_
      refine z_ifeq (tgt := 68) hx hb dX4_shares_61 (by decide) (fun c61 => ?_) (fun c61 => ?_)
      · refine lv_iconst (v := (nI 0)) hx hb dX4_shares_68 (by decide) ?_
        exact z_reti hx hb hr hlocks rfl (by unfold aShares; rw [if_pos c5, if_pos c14, ej, eu]; first | (rw [if_pos c61]; done) | (rw [if_neg (bf c61)]; done)) dX4_shares_69
      · refine lv_iconst (v := (nI 1)) hx hb dX4_shares_64 (by decide) ?_
        refine lv_goto (tgt := 69) hx hb dX4_shares_65 (by decide) ?_
        exact z_reti hx hb hr hlocks rfl (by unfold aShares; rw [if_pos c5, if_pos c14, ej, eu]; first | (rw [if_pos c61]; done) | (rw [if_neg (bf c61)]; done)) dX4_shares_69
    · refine z_callV (As := [.int q]) (rest := []) hF hK (c_X2_permitAt_out l D y bd (x + 1) d ca pa pk q (hI) (hv24) (c14)) (cwV 1 hts gX4_shares_X2_permitAt rfl rfl rfl (by decide +kernel) ⟨Nat.le_of_ble_eq_true rfl, Nat.le_of_ble_eq_true rfl⟩) (z_recv (q := (RX2, TX2, 13)) hK (hP 0 _ rfl) rfl) hΦ.2.2 rfl hl.1 rfl (Nat.le_of_ble_eq_true rfl) dX4_shares_14 ⟨Nat.zero_le _, Nat.zero_le _⟩ ?_
      refine lv_astoreN (lv' := [(4, .null), (3, .ref (pa j)), (0, .ref x), (1, .int (nI j)), (2, .int q)]) hx hb dX4_shares_17 hl (by decide) rfl (fun ls hl => ?_)
      refine lv_aload_n hx hb dX4_shares_19 rfl (lv_at hl 1 rfl) ?_
      refine lv_ifnull hx hb dX4_shares_20 ?_
      refine lv_aloadN hx hb dX4_shares_23 (lv_at hl 0 rfl) ?_
      refine lv_ifnonnullN hx hb dX4_shares_25 ?_
      refine lv_sipush (v := (-1001)) hx hb dX4_shares_28 (by decide) ?_
      exact z_reti hx hb hr hlocks rfl (by unfold aShares; first | (rw [if_neg (bf c5)]; done) | (rw [if_pos c5, if_neg (bf c14)]; done)) dX4_shares_31
  · refine z_callV (As := [.int p]) (rest := []) hF hK (c_X2_permitAt_out l D y bd (x + 1) d ca pa pk p (hI) (hv24) (c5)) (cwV 1 hts gX4_shares_X2_permitAt rfl rfl rfl (by decide +kernel) ⟨Nat.le_of_ble_eq_true rfl, Nat.le_of_ble_eq_true rfl⟩) (z_recv (q := (RX2, TX2, 13)) hK (hP 0 _ rfl) rfl) hΦ.2.2 rfl hl.1 rfl (Nat.le_of_ble_eq_true rfl) dX4_shares_5 ⟨Nat.zero_le _, Nat.zero_le _⟩ ?_
    refine lv_astore_nN (lv' := [(3, .null), (0, .ref x), (1, .int p), (2, .int q)]) hx hb dX4_shares_8 rfl hl (by decide) rfl (fun ls hl => ?_)
    refine lv_aload_n hx hb dX4_shares_9 rfl (lv_at hl 1 rfl) ?_
    refine z_get (fs := [.ref (x + 1), .ref (x + 12), .ref (x + 23), .int (nI k), .ref (x + 24)]) (ref := "CranePermits") (C := RX4) (T := TX4) (N := 5) (ci := 4) (v := .ref (x + 1)) hx hb hts i_c_X4_shares_X4 hown hK hΦ.1 0 (by decide) rfl (hts (.fieldLink RX4 10 "CranePermits" "now" "LCranePermits$Site;") (List.mem_of_getElem? (i := 1) rfl)) rfl rfl dX4_shares_10 ?_
    refine lv_iload_n hx hb dX4_shares_13 rfl (lv_at hl 3 rfl) ?_
    rcases Bool.eq_false_or_eq_true (inB q (nI 0) (d 442 - nI 1)) with c14 | c14
    · obtain ⟨u, hu, rfl⟩ := in_ng hI c14
      have eu : cl (nI u) = u := cl_nI (by omega)
      refine z_callV (As := [.int (nI u)]) (rest := []) hF hK (c_X2_permitAt_in l D y bd (x + 1) d ca pa pk u (hI) (hv24) (by omega)) (cwV 1 hts gX4_shares_X2_permitAt rfl rfl rfl (by decide +kernel) ⟨Nat.le_of_ble_eq_true rfl, Nat.le_of_ble_eq_true rfl⟩) (z_recv (q := (RX2, TX2, 13)) hK (hP 0 _ rfl) rfl) hΦ.2.2 rfl hl.1 rfl (Nat.le_of_ble_eq_true rfl) dX4_shares_14 ⟨Nat.zero_le _, Nat.zero_le _⟩ ?_
      refine lv_astore (lv' := [(4, .ref (pa u)), (3, .null), (0, .ref x), (1, .int p), (2, .int (nI u))]) hx hb dX4_shares_17 hl (by decide) rfl (fun ls hl => ?_)
      refine lv_aload_nN hx hb dX4_shares_19 rfl (lv_at hl 1 rfl) ?_
      refine lv_ifnullN (tgt := 28) hx hb dX4_shares_20 (by decide) ?_
      refine lv_sipush (v := (-1001)) hx hb dX4_shares_28 (by decide) ?_
      exact z_reti hx hb hr hlocks rfl (by unfold aShares; first | (rw [if_neg (bf c5)]; done) | (rw [if_pos c5, if_neg (bf c14)]; done)) dX4_shares_31
    · refine z_callV (As := [.int q]) (rest := []) hF hK (c_X2_permitAt_out l D y bd (x + 1) d ca pa pk q (hI) (hv24) (c14)) (cwV 1 hts gX4_shares_X2_permitAt rfl rfl rfl (by decide +kernel) ⟨Nat.le_of_ble_eq_true rfl, Nat.le_of_ble_eq_true rfl⟩) (z_recv (q := (RX2, TX2, 13)) hK (hP 0 _ rfl) rfl) hΦ.2.2 rfl hl.1 rfl (Nat.le_of_ble_eq_true rfl) dX4_shares_14 ⟨Nat.zero_le _, Nat.zero_le _⟩ ?_
      refine lv_astoreN (lv' := [(4, .null), (3, .null), (0, .ref x), (1, .int p), (2, .int q)]) hx hb dX4_shares_17 hl (by decide) rfl (fun ls hl => ?_)
      refine lv_aload_nN hx hb dX4_shares_19 rfl (lv_at hl 1 rfl) ?_
      refine lv_ifnullN (tgt := 28) hx hb dX4_shares_20 (by decide) ?_
      refine lv_sipush (v := (-1001)) hx hb dX4_shares_28 (by decide) ?_
      exact z_reti hx hb hr hlocks rfl (by unfold aShares; first | (rw [if_neg (bf c5)]; done) | (rw [if_pos c5, if_neg (bf c14)]; done)) dX4_shares_31
theorem i_c_X4_inTheWay_X4 : ∀ w ∈ wsX40, w ∈ wsX4_inTheWay := fun w h => (List.mem_cons_of_mem _ (List.mem_append_left _ (List.mem_append_left _ (List.mem_append_left _ (List.mem_append_right _ h)))))
set_option maxRecDepth 100000 in
set_option maxHeartbeats 4000000 in
theorem c_X4_inTheWay (l : Launch) (D : va_G) (y : zY) (x : Nat) (bd : Nat) (d : Nat → Int32) (ca : Nat → Nat) (pa : Nat → Nat) (pk : Nat → Nat) (k : Nat) (len : Nat) (tf : Nat → Int32) (c : Int32) (n : Int32) (h : Int32) (sw : Int32) (hJ : rJ d) (hk4 : k ≤ 4) (hl80 : len ≤ 80) : Met l yX4_inTheWay wsX4_inTheWay ({ frames := 3, cells := 0, slots := 0, locals := 80 }) (zP [.ref x, .int c, .int n, .int h, .int sw] (fun H => clR D y x bd d ca pa pk k len tf H) D y) (zQ (some (.int (aInTheWay d c n h sw)))) 0 0 nofree := by
  refine z_body (cc := cX4_inTheWay) (maxL := 7) (ret := (some .int)) (la := [(0, .ref x), (1, .int c), (2, .int n), (3, .int h), (4, .int sw)]) (by decide) rfl (Nat.le_of_ble_eq_true rfl) rfl ?_
  intro pg ev s mm below meth c0 ls hx hb hr hF hlocks hΦ hK hl _
  have hts := hF.2.2.2.2
  have hown : s.vm.findClass RX4 = some mm.cls := hF.2.2.2.1
  have hI := hJ.1
  have hv24 := hJ.2.1
  have hpl := hJ.2.2.1
  have hS := hpl.w
  have hG2 := hI.ng2
  have hC8 := hI.nc8
  have hS0 := hΦ.2.2
  obtain ⟨cs, ns, se, wi, al, re, gi, ps, ss, vs, hP, hR, hC, hE, hT⟩ := hS0
  refine lv_aload_n hx hb dX4_inTheWay_0 rfl (lv_at hl 0 rfl) ?_
  refine z_get (fs := [.ref (x + 1), .ref (x + 12), .ref (x + 23), .int (nI k), .ref (x + 24)]) (ref := "CranePermits") (C := RX4) (T := TX4) (N := 5) (ci := 4) (v := .ref (x + 1)) hx hb hts i_c_X4_inTheWay_X4 hown hK hΦ.1 0 (by decide) rfl (hts (.fieldLink RX4 10 "CranePermits" "now" "LCranePermits$Site;") (List.mem_of_getElem? (i := 1) rfl)) rfl rfl dX4_inTheWay_1 ?_
  refine lv_iload_n hx hb dX4_inTheWay_4 rfl (lv_at hl 1 rfl) ?_
  rcases Bool.eq_false_or_eq_true (inB c (nI 0) (d 0 - nI 1)) with c5 | c5
  · obtain ⟨j, hj, rfl⟩ := in_nc hI c5
    have ej : cl (nI j) = j := cl_nI (by omega)
    refine z_callV (As := [.int (nI j)]) (rest := []) hF hK (c_X2_craneAt_in l D y bd (x + 1) d ca pa pk j (hI) (hv24) (by omega)) (cwV 1 hts gX4_inTheWay_X2_craneAt rfl rfl rfl (by decide +kernel) ⟨Nat.le_of_ble_eq_true rfl, Nat.le_of_ble_eq_true rfl⟩) (z_recv (q := (RX2, TX2, 13)) hK (hP 0 _ rfl) rfl) hΦ.2.2 rfl hl.1 rfl (Nat.le_of_ble_eq_true rfl) dX4_inTheWay_5 ⟨Nat.zero_le _, Nat.zero_le _⟩ ?_
    refine lv_astore (lv' := [(5, .ref (ca j)), (0, .ref x), (1, .int (nI j)), (2, .int n), (3, .int h), (4, .int sw)]) hx hb dX4_inTheWay_8 hl (by decide) rfl (fun ls hl => ?_)
    refine lv_aload hx hb dX4_inTheWay_10 (lv_at hl 0 rfl) ?_
    refine lv_ifnull hx hb dX4_inTheWay_12 ?_
    refine lv_iload_n hx hb dX4_inTheWay_15 rfl (lv_at hl 3 rfl) ?_
    refine lv_iload_n hx hb dX4_inTheWay_16 rfl (lv_at hl 4 rfl) ?_
    refine lv_iload hx hb dX4_inTheWay_17 (lv_at hl 5 rfl) ?_
    refine z_callS (As := [.int n, .int h, .int sw]) (rest := []) hF hK (c_X4_isPlan l D y n h sw ) (va_cwS 3 hts gX4_inTheWay_X4_isPlan rfl rfl rfl (by decide +kernel) ⟨Nat.le_of_ble_eq_true rfl, Nat.le_of_ble_eq_true rfl⟩) trivial rfl hl.1 rfl (Nat.le_of_ble_eq_true rfl) dX4_inTheWay_19 ⟨Nat.zero_le _, Nat.zero_le _⟩ ?_
    refine z_ifne (tgt := 29) hx hb dX4_inTheWay_22 (by decide) (fun c22 => ?_) (fun c22 => ?_)
    · obtain ⟨cn, ch, cs2⟩ := plan_3 c22
      refine lv_aload_n hx hb dX4_inTheWay_29 rfl (lv_at hl 1 rfl) ?_
      refine z_get (fs := [.ref (x + 1), .ref (x + 12), .ref (x + 23), .int (nI k), .ref (x + 24)]) (ref := "CranePermits") (C := RX4) (T := TX4) (N := 5) (ci := 4) (v := .ref (x + 1)) hx hb hts i_c_X4_inTheWay_X4 hown hK hΦ.1 0 (by decide) rfl (hts (.fieldLink RX4 10 "CranePermits" "now" "LCranePermits$Site;") (List.mem_of_getElem? (i := 1) rfl)) rfl rfl dX4_inTheWay_30 ?_
      refine lv_aload hx hb dX4_inTheWay_33 (lv_at hl 0 rfl) ?_
      refine lv_iload_n hx hb dX4_inTheWay_35 rfl (lv_at hl 3 rfl) ?_
      refine lv_iload_n hx hb dX4_inTheWay_36 rfl (lv_at hl 4 rfl) ?_
      refine lv_iload hx hb dX4_inTheWay_37 (lv_at hl 5 rfl) ?_
      refine z_callV (As := [.ref (ca j), .int n, .int h, .int sw]) (rest := []) hF hK (c_X2_lowestSharing l D y bd (x + 1) d ca pa pk (ca j) j n h sw (hI) (hv24) (by omega) (sw_of cs2) (hS)) (cwV 4 hts gX4_inTheWay_X2_lowestSharing rfl rfl rfl (by decide +kernel) ⟨Nat.le_of_ble_eq_true rfl, Nat.le_of_ble_eq_true rfl⟩) (z_recv (q := (RX2, TX2, 13)) hK (hP 0 _ rfl) rfl) ⟨hΦ.2.2, (hC j (by omega)).2⟩ rfl hl.1 rfl (Nat.le_of_ble_eq_true rfl) dX4_inTheWay_39 ⟨Nat.zero_le _, Nat.zero_le _⟩ ?_
      refine lv_istore (lv' := [(6, .int (oI (fiaO d j n h sw))), (5, .ref (ca j)), (0, .ref x), (1, .int (nI j)), (2, .int n), (3, .int h), (4, .int sw)]) hx hb dX4_inTheWay_42 hl (by decide) rfl (fun ls hl => ?_)
      refine lv_iload hx hb dX4_inTheWay_44 (lv_at hl 0 rfl) ?_
      refine lv_iconst (v := (-1)) hx hb dX4_inTheWay_46 (by decide) ?_
      refine lv_icmp_ne (tgt := 56) hx hb dX4_inTheWay_47 (by decide) (fun c47 => ?_) (fun c47 => ?_)
      · refine lv_iload hx hb dX4_inTheWay_56 (lv_at hl 0 rfl) ?_
        exact z_reti hx hb hr hlocks rfl (by unfold aInTheWay; rw [apl_y c5 c22, if_pos rfl, ej]; first | exact nf_none c47 (fia_lt hI) | exact nf_some c47) dX4_inTheWay_58
      · refine lv_sipush (v := (-1004)) hx hb dX4_inTheWay_50 (by decide) ?_
        refine lv_goto (tgt := 58) hx hb dX4_inTheWay_53 (by decide) ?_
        exact z_reti hx hb hr hlocks rfl (by unfold aInTheWay; rw [apl_y c5 c22, if_pos rfl, ej]; first | exact nf_none c47 (fia_lt hI) | exact nf_some c47) dX4_inTheWay_58
    · refine lv_sipush (v := (-1001)) hx hb dX4_inTheWay_25 (by decide) ?_
      exact z_reti hx hb hr hlocks rfl (by unfold aInTheWay; rw [if_neg]; first | exact apl_c c5 | exact apl_p c22) dX4_inTheWay_28
  · refine z_callV (As := [.int c]) (rest := []) hF hK (c_X2_craneAt_out l D y bd (x + 1) d ca pa pk c (hI) (hv24) (c5)) (cwV 1 hts gX4_inTheWay_X2_craneAt rfl rfl rfl (by decide +kernel) ⟨Nat.le_of_ble_eq_true rfl, Nat.le_of_ble_eq_true rfl⟩) (z_recv (q := (RX2, TX2, 13)) hK (hP 0 _ rfl) rfl) hΦ.2.2 rfl hl.1 rfl (Nat.le_of_ble_eq_true rfl) dX4_inTheWay_5 ⟨Nat.zero_le _, Nat.zero_le _⟩ ?_
    refine lv_astoreN (lv' := [(5, .null), (0, .ref x), (1, .int c), (2, .int n), (3, .int h), (4, .int sw)]) hx hb dX4_inTheWay_8 hl (by decide) rfl (fun ls hl => ?_)
    refine lv_aloadN hx hb dX4_inTheWay_10 (lv_at hl 0 rfl) ?_
    refine lv_ifnullN (tgt := 25) hx hb dX4_inTheWay_12 (by decide) ?_
    refine lv_sipush (v := (-1001)) hx hb dX4_inTheWay_25 (by decide) ?_
    exact z_reti hx hb hr hlocks rfl (by unfold aInTheWay; rw [if_neg]; first | exact apl_c c5 | exact apl_p c22) dX4_inTheWay_28
theorem i_c_X4_firstFree_X4 : ∀ w ∈ wsX40, w ∈ wsX4_firstFree := fun w h => (List.mem_cons_of_mem _ (List.mem_append_left _ (List.mem_append_left _ (List.mem_append_left _ (List.mem_append_right _ h)))))
set_option maxRecDepth 100000 in
set_option maxHeartbeats 4000000 in
theorem c_X4_firstFree (l : Launch) (D : va_G) (y : zY) (x : Nat) (bd : Nat) (d : Nat → Int32) (ca : Nat → Nat) (pa : Nat → Nat) (pk : Nat → Nat) (k : Nat) (len : Nat) (tf : Nat → Int32) (c : Int32) (sw : Int32) (q : Int32) (fr : Int32) (hJ : rJ d) (hk4 : k ≤ 4) (hl80 : len ≤ 80) : Met l yX4_firstFree wsX4_firstFree ({ frames := 4, cells := 0, slots := 0, locals := 105 }) (zP [.ref x, .int c, .int sw, .int q, .int fr] (fun H => clR D y x bd d ca pa pk k len tf H) D y) (zQ (some (.int (aFirstFree d c sw q fr)))) 0 0 nofree := by
  refine z_body (cc := cX4_firstFree) (maxL := 9) (ret := (some .int)) (la := [(0, .ref x), (1, .int c), (2, .int sw), (3, .int q), (4, .int fr)]) (by decide) rfl (Nat.le_of_ble_eq_true rfl) rfl ?_
  intro pg ev s mm below meth c0 ls hx hb hr hF hlocks hΦ hK hl _
  have hts := hF.2.2.2.2
  have hown : s.vm.findClass RX4 = some mm.cls := hF.2.2.2.1
  have hI := hJ.1
  have hv24 := hJ.2.1
  have hpl := hJ.2.2.1
  have hS := hpl.w
  have hG2 := hI.ng2
  have hC8 := hI.nc8
  have hS0 := hΦ.2.2
  obtain ⟨cs, ns, se, wi, al, re, gi, ps, ss, vs, hP, hR, hC, hE, hT⟩ := hS0
  refine lv_aload_n hx hb dX4_firstFree_0 rfl (lv_at hl 0 rfl) ?_
  refine z_get (fs := [.ref (x + 1), .ref (x + 12), .ref (x + 23), .int (nI k), .ref (x + 24)]) (ref := "CranePermits") (C := RX4) (T := TX4) (N := 5) (ci := 4) (v := .ref (x + 1)) hx hb hts i_c_X4_firstFree_X4 hown hK hΦ.1 0 (by decide) rfl (hts (.fieldLink RX4 10 "CranePermits" "now" "LCranePermits$Site;") (List.mem_of_getElem? (i := 1) rfl)) rfl rfl dX4_firstFree_1 ?_
  refine lv_iload_n hx hb dX4_firstFree_4 rfl (lv_at hl 1 rfl) ?_
  rcases Bool.eq_false_or_eq_true (inB c (nI 0) (d 0 - nI 1)) with c5 | c5
  · obtain ⟨j, hj, rfl⟩ := in_nc hI c5
    have ej : cl (nI j) = j := cl_nI (by omega)
    refine z_callV (As := [.int (nI j)]) (rest := []) hF hK (c_X2_craneAt_in l D y bd (x + 1) d ca pa pk j (hI) (hv24) (by omega)) (cwV 1 hts gX4_firstFree_X2_craneAt rfl rfl rfl (by decide +kernel) ⟨Nat.le_of_ble_eq_true rfl, Nat.le_of_ble_eq_true rfl⟩) (z_recv (q := (RX2, TX2, 13)) hK (hP 0 _ rfl) rfl) hΦ.2.2 rfl hl.1 rfl (Nat.le_of_ble_eq_true rfl) dX4_firstFree_5 ⟨Nat.zero_le _, Nat.zero_le _⟩ ?_
    refine lv_astore (lv' := [(5, .ref (ca j)), (0, .ref x), (1, .int (nI j)), (2, .int sw), (3, .int q), (4, .int fr)]) hx hb dX4_firstFree_8 hl (by decide) rfl (fun ls hl => ?_)
    refine lv_aload hx hb dX4_firstFree_10 (lv_at hl 0 rfl) ?_
    refine lv_ifnull hx hb dX4_firstFree_12 ?_
    refine lv_iload_n hx hb dX4_firstFree_15 rfl (lv_at hl 3 rfl) ?_
    refine z_callS (As := [.int sw]) (rest := []) hF hK (c_X4_isSwing l D y sw ) (va_cwS 1 hts gX4_firstFree_X4_isSwing rfl rfl rfl (by decide +kernel) ⟨Nat.le_of_ble_eq_true rfl, Nat.le_of_ble_eq_true rfl⟩) trivial rfl hl.1 rfl (Nat.le_of_ble_eq_true rfl) dX4_firstFree_16 ⟨Nat.zero_le _, Nat.zero_le _⟩ ?_
    refine z_ifeq (tgt := 40) hx hb dX4_firstFree_19 (by decide) (fun c19 => ?_) (fun c19 => ?_)
    · refine lv_sipush (v := (-1001)) hx hb dX4_firstFree_40 (by decide) ?_
      exact z_reti hx hb hr hlocks rfl (by unfold aFirstFree; first | (rw [if_neg (bf c5)]; done) | (rw [if_pos c5, if_neg (bf c19)]; done) | (rw [if_pos c5, if_pos c19, if_neg (bf c29)]; done) | (rw [if_pos c5, if_pos c19, if_pos c29, if_neg (bf c37)]; done)) dX4_firstFree_43
    · refine lv_iload_n hx hb dX4_firstFree_22 rfl (lv_at hl 4 rfl) ?_
      refine lv_iconst (v := (nI 1)) hx hb dX4_firstFree_23 (by decide) ?_
      refine lv_bipush (v := (nI 10)) hx hb dX4_firstFree_24 (by decide) ?_
      refine z_callS (As := [.int q, .int (nI 1), .int (nI 10)]) (rest := []) hF hK (c_X4_isIn l D y q (nI 1) (nI 10) ) (va_cwS 3 hts gX4_firstFree_X4_isIn rfl rfl rfl (by decide +kernel) ⟨Nat.le_of_ble_eq_true rfl, Nat.le_of_ble_eq_true rfl⟩) trivial rfl hl.1 rfl (Nat.le_of_ble_eq_true rfl) dX4_firstFree_26 ⟨Nat.zero_le _, Nat.zero_le _⟩ ?_
      refine z_ifeq (tgt := 40) hx hb dX4_firstFree_29 (by decide) (fun c29 => ?_) (fun c29 => ?_)
      · refine lv_sipush (v := (-1001)) hx hb dX4_firstFree_40 (by decide) ?_
        exact z_reti hx hb hr hlocks rfl (by unfold aFirstFree; first | (rw [if_neg (bf c5)]; done) | (rw [if_pos c5, if_neg (bf c19)]; done) | (rw [if_pos c5, if_pos c19, if_neg (bf c29)]; done) | (rw [if_pos c5, if_pos c19, if_pos c29, if_neg (bf c37)]; done)) dX4_firstFree_43
      · refine lv_iload hx hb dX4_firstFree_32 (lv_at hl 5 rfl) ?_
        refine z_callS (As := [.int fr]) (rest := []) hF hK (c_X4_isNight l D y fr ) (va_cwS 1 hts gX4_firstFree_X4_isNight rfl rfl rfl (by decide +kernel) ⟨Nat.le_of_ble_eq_true rfl, Nat.le_of_ble_eq_true rfl⟩) trivial rfl hl.1 rfl (Nat.le_of_ble_eq_true rfl) dX4_firstFree_34 ⟨Nat.zero_le _, Nat.zero_le _⟩ ?_
        refine z_ifne (tgt := 44) hx hb dX4_firstFree_37 (by decide) (fun c37 => ?_) (fun c37 => ?_)
        · obtain ⟨m, lm, hm, rfl⟩ := inB_nat (by decide) c29 (by decide)
          have em : cl (nI m) = m := cl_nI (by omega)
          obtain ⟨u, lu, hu, rfl⟩ := inB_nat (by decide) c37 (by decide)
          have eu : cl (nI u) = u := cl_nI (by omega)
          refine lv_iload hx hb dX4_firstFree_44 (lv_at hl 5 rfl) ?_
          refine lv_istore (lv' := [(6, .int (nI u)), (5, .ref (ca j)), (0, .ref x), (1, .int (nI j)), (2, .int sw), (3, .int (nI m)), (4, .int (nI u))]) hx hb dX4_firstFree_46 hl (by decide) rfl (fun ls hl => ?_)
          refine z_loop (S := Nat) (nL := 9) (fun (n : Nat) => 30 - n) (fun (n : Nat) => [(6, .int (nI n)), (0, .ref x), (1, .int (nI j)), (2, .int sw), (3, .int (nI m)), (4, .int (nI u)), (5, .ref (ca j))]) (fun (n : Nat) => u ≤ n ∧ n ≤ 30 ∧ ∀ z, z < 10 * n → ffQ d j sw m u z = false) u (⟨Nat.le_refl _, by omega, fun z hz => ff_lo hz⟩) (lv_sub hl [0, 2, 3, 4, 5, 6, 1] rfl) ?_
          clear hl
          rintro n ls hI_48 hl ih_48
          obtain ⟨hrn, hn30, hall⟩ := hI_48
          refine lv_iload hx hb dX4_firstFree_48 (lv_at hl 0 rfl) ?_
          refine lv_bipush (v := (nI 30)) hx hb dX4_firstFree_50 (by decide) ?_
          refine z_ge (tgt := 119) hx hb (by omega) (by omega) dX4_firstFree_52 (by decide) (fun c52 => ?_) (fun c52 => ?_)
          · refine lv_sipush (v := (-1004)) hx hb dX4_firstFree_119 (by decide) ?_
            exact z_reti hx hb hr hlocks rfl (by unfold aFirstFree; rw [if_pos c5, if_pos c19, if_pos c29, if_pos c37, ej, em, eu, show ffO d j sw m u = (List.range 300).find? (ffQ d j sw m u) from rfl, fst_n (fun z hz => hall z (by omega))]; rfl) dX4_firstFree_122
          · refine lv_iconst (v := (nI 0)) hx hb dX4_firstFree_55 (by decide) ?_
            refine lv_istore (lv' := [(7, .int (nI 0)), (6, .int (nI n)), (0, .ref x), (1, .int (nI j)), (2, .int sw), (3, .int (nI m)), (4, .int (nI u)), (5, .ref (ca j))]) hx hb dX4_firstFree_56 hl (by decide) rfl (fun ls hl => ?_)
            refine z_loop (S := Nat) (nL := 9) (fun (h : Nat) => 11 - h) (fun (h : Nat) => [(7, .int (nI h)), (6, .int (nI n)), (0, .ref x), (1, .int (nI j)), (2, .int sw), (3, .int (nI m)), (4, .int (nI u)), (5, .ref (ca j))]) (fun (h : Nat) => h ≤ 10 ∧ ∀ z, z < 10 * n + h → ffQ d j sw m u z = false) 0 (⟨by omega, hall⟩) (lv_sub hl [0, 1, 2, 3, 4, 5, 6, 7] rfl) ?_
            clear hl
            rintro h ls hI_58 hl ih_58
            obtain ⟨hh, hall2⟩ := hI_58
            refine lv_iload hx hb dX4_firstFree_58 (lv_at hl 0 rfl) ?_
            refine lv_iload_n hx hb dX4_firstFree_60 rfl (lv_at hl 5 rfl) ?_
            refine z_iadd hx hb dX4_firstFree_61 ?_
            refine lv_bipush (v := (nI 10)) hx hb dX4_firstFree_62 (by decide) ?_
            refine z_gt (tgt := 113) hx hb (by omega) (by omega) dX4_firstFree_64 (by decide) (fun c64 => ?_) (fun c64 => ?_)
            · refine lv_iinc (v := (nI (n + 1))) (lv' := [(6, .int (nI (n + 1))), (7, .int (nI h)), (0, .ref x), (1, .int (nI j)), (2, .int sw), (3, .int (nI m)), (4, .int (nI u)), (5, .ref (ca j))]) hx hb dX4_firstFree_113 hl (k := 1) rfl (in1 _) (by decide) rfl (fun ls hl => ?_)
              refine lv_goto (tgt := 48) hx hb dX4_firstFree_116 (by decide) ?_
              exact ih_48 (n + 1) _ (by omega) (⟨by omega, by omega, fun z hz => ff_hi hall2 (by omega) z (by omega)⟩) (lv_sub hl [0, 2, 3, 4, 5, 6, 7] rfl)
            · refine lv_bipush (v := (nI 10)) hx hb dX4_firstFree_67 (by decide) ?_
              refine lv_iload hx hb dX4_firstFree_69 (lv_at hl 0 rfl) ?_
              refine z_imul hx hb dX4_firstFree_71 ?_
              refine lv_iload hx hb dX4_firstFree_72 (lv_at hl 0 rfl) ?_
              refine z_iadd hx hb dX4_firstFree_74 ?_
              refine lv_iload_n hx hb dX4_firstFree_75 rfl (lv_at hl 5 rfl) ?_
              refine z_iadd hx hb dX4_firstFree_76 ?_
              refine lv_iconst (v := (nI 1)) hx hb dX4_firstFree_77 (by decide) ?_
              refine z_isub hx hb (by omega) dX4_firstFree_78 ?_
              refine lv_istore (lv' := [(8, .int (nI ((((10 * h) + h) + m) - 1))), (7, .int (nI h)), (6, .int (nI n)), (0, .ref x), (1, .int (nI j)), (2, .int sw), (3, .int (nI m)), (4, .int (nI u)), (5, .ref (ca j))]) hx hb dX4_firstFree_79 hl (by decide) rfl (fun ls hl => ?_)
              refine lv_aload_n hx hb dX4_firstFree_81 rfl (lv_at hl 3 rfl) ?_
              refine z_get (fs := [.ref (x + 1), .ref (x + 12), .ref (x + 23), .int (nI k), .ref (x + 24)]) (ref := "CranePermits") (C := RX4) (T := TX4) (N := 5) (ci := 4) (v := .ref (x + 1)) hx hb hts i_c_X4_firstFree_X4 hown hK hΦ.1 0 (by decide) rfl (hts (.fieldLink RX4 10 "CranePermits" "now" "LCranePermits$Site;") (List.mem_of_getElem? (i := 1) rfl)) rfl rfl dX4_firstFree_82 ?_
              refine lv_aload hx hb dX4_firstFree_85 (lv_at hl 8 rfl) ?_
              refine lv_iload hx hb dX4_firstFree_87 (lv_at hl 2 rfl) ?_
              refine lv_iload hx hb dX4_firstFree_89 (lv_at hl 0 rfl) ?_
              refine lv_iload_n hx hb dX4_firstFree_91 rfl (lv_at hl 5 rfl) ?_
              refine z_callV (As := [.ref (ca j), .int (nI n), .int (nI ((((10 * h) + h) + m) - 1)), .int sw]) (rest := []) hF hK (c_X2_refusalOf l D y bd (x + 1) d ca pa pk (ca j) j n (nI ((((10 * h) + h) + m) - 1)) sw (hI) (hv24) (by omega) (by omega) (sw_of c19) (hS)) (cwV 4 hts gX4_firstFree_X2_refusalOf rfl rfl rfl (by decide +kernel) ⟨Nat.le_of_ble_eq_true rfl, Nat.le_of_ble_eq_true rfl⟩) (z_recv (q := (RX2, TX2, 13)) hK (hP 0 _ rfl) rfl) ⟨hΦ.2.2, (hC j (by omega)).2⟩ rfl hl.1 rfl (Nat.le_of_ble_eq_true rfl) dX4_firstFree_92 ⟨Nat.zero_le _, Nat.zero_le _⟩ ?_
              refine lv_if_ne (tgt := 107) hx hb dX4_firstFree_95 (by decide) (fun c95 => ?_) (fun c95 => ?_)
              · refine lv_iinc (v := (nI (h + 1))) (lv' := [(7, .int (nI (h + 1))), (8, .int (nI ((((10 * h) + h) + m) - 1))), (6, .int (nI n)), (0, .ref x), (1, .int (nI j)), (2, .int sw), (3, .int (nI m)), (4, .int (nI u)), (5, .ref (ca j))]) hx hb dX4_firstFree_107 hl (k := 1) rfl (in1 _) (by decide) rfl (fun ls hl => ?_)
                refine lv_goto (tgt := 58) hx hb dX4_firstFree_110 (by decide) ?_
                exact ih_58 (h + 1) _ (by omega) (⟨by omega, ff_s hall2 (by omega) c95⟩) (lv_sub hl [0, 2, 3, 4, 5, 6, 7, 8] rfl)
              · refine lv_bipush (v := (nI 10)) hx hb dX4_firstFree_98 (by decide) ?_
                refine lv_iload hx hb dX4_firstFree_100 (lv_at hl 2 rfl) ?_
                refine z_imul hx hb dX4_firstFree_102 ?_
                refine lv_iload hx hb dX4_firstFree_103 (lv_at hl 1 rfl) ?_
                refine z_iadd hx hb dX4_firstFree_105 ?_
                exact z_reti hx hb hr hlocks rfl (by unfold aFirstFree; rw [if_pos c5, if_pos c19, if_pos c29, if_pos c37, ej, em, eu, show ffO d j sw m u = (List.range 300).find? (ffQ d j sw m u) from rfl, fst_s (ff_y hrn (by omega) (by omega) c95) hall2 (by omega)]; rfl) dX4_firstFree_106
        · refine lv_sipush (v := (-1001)) hx hb dX4_firstFree_40 (by decide) ?_
          exact z_reti hx hb hr hlocks rfl (by unfold aFirstFree; first | (rw [if_neg (bf c5)]; done) | (rw [if_pos c5, if_neg (bf c19)]; done) | (rw [if_pos c5, if_pos c19, if_neg (bf c29)]; done) | (rw [if_pos c5, if_pos c19, if_pos c29, if_neg (bf c37)]; done)) dX4_firstFree_43
  · refine z_callV (As := [.int c]) (rest := []) hF hK (c_X2_craneAt_out l D y bd (x + 1) d ca pa pk c (hI) (hv24) (c5)) (cwV 1 hts gX4_firstFree_X2_craneAt rfl rfl rfl (by decide +kernel) ⟨Nat.le_of_ble_eq_true rfl, Nat.le_of_ble_eq_true rfl⟩) (z_recv (q := (RX2, TX2, 13)) hK (hP 0 _ rfl) rfl) hΦ.2.2 rfl hl.1 rfl (Nat.le_of_ble_eq_true rfl) dX4_firstFree_5 ⟨Nat.zero_le _, Nat.zero_le _⟩ ?_
    refine lv_astoreN (lv' := [(5, .null), (0, .ref x), (1, .int c), (2, .int sw), (3, .int q), (4, .int fr)]) hx hb dX4_firstFree_8 hl (by decide) rfl (fun ls hl => ?_)
    refine lv_aloadN hx hb dX4_firstFree_10 (lv_at hl 0 rfl) ?_
    refine lv_ifnullN (tgt := 40) hx hb dX4_firstFree_12 (by decide) ?_
    refine lv_sipush (v := (-1001)) hx hb dX4_firstFree_40 (by decide) ?_
    exact z_reti hx hb hr hlocks rfl (by unfold aFirstFree; first | (rw [if_neg (bf c5)]; done) | (rw [if_pos c5, if_neg (bf c19)]; done) | (rw [if_pos c5, if_pos c19, if_neg (bf c29)]; done) | (rw [if_pos c5, if_pos c19, if_pos c29, if_neg (bf c37)]; done)) dX4_firstFree_43
