/-! TEXTS: the class's reading and the reference's are one -/
theorem dig_nat {tx : Nat → Int32} {len a i : Nat} (h : digP tx len a i = true) : ∃ t, 48 ≤ t ∧ t ≤ 57 ∧ tx (a + i) = nI t := by
  unfold digP at h
  simp only [Bool.and_eq_true] at h
  obtain ⟨t, h1, h2, h3⟩ := inB_nat (by decide) h.2 (by decide)
  exact ⟨t, h1, h2, h3⟩
theorem numV_nat {tx : Nat → Int32} {len a k : Nat} (hk : k ≤ 3) : ∀ j, j ≤ numJ tx len a k → ∃ v, v < 10 ^ j ∧ numV tx a j = nI v
  | 0, _ => ⟨0, by decide, rfl⟩
  | j + 1, h => by
    obtain ⟨v, hv, e⟩ := numV_nat (tx := tx) (len := len) (a := a) hk j (by omega)
    obtain ⟨t, h1, h2, e2⟩ := dig_nat (numJ_dig (tx := tx) (len := len) (a := a) (k := k) (i := j) (by omega))
    have hj : j ≤ 3 := Nat.le_trans (Nat.le_trans (Nat.le_succ j) h) (Nat.le_trans (numJ_le tx len a k) hk)
    have hp : 10 ^ j ≤ 10 ^ 3 := Nat.pow_le_pow_right (by decide) hj
    refine ⟨10 * v + t - 48, ?_, ?_⟩
    · rw [Nat.pow_succ]; omega
    · rw [numV, e, e2, pk_mul, nI_add, pk_sub (by omega)]
theorem numR_0 {tx : Nat → Int32} {len a k : Nat} (hk : k ≤ 3) : (!decide (numR tx len a k < 0)) = decide (0 < numJ tx len a k) := by
  unfold numR
  by_cases h : numJ tx len a k = 0
  · rw [if_pos h, h]; decide
  · rw [if_neg h]
    obtain ⟨v, hv, e⟩ := numV_nat hk (numJ tx len a k) (Nat.le_refl _)
    have hp : 10 ^ numJ tx len a k ≤ 10 ^ 3 := Nat.pow_le_pow_right (by decide) (Nat.le_trans (numJ_le tx len a k) hk)
    rw [e, decide_eq_false (nI_pos (by omega)), decide_eq_true (Nat.pos_of_ne_zero h)]; rfl
theorem numR_V {tx : Nat → Int32} {len a k : Nat} (hk : k ≤ 3) (h : (!decide (numR tx len a k < 0)) = true) : numV tx a (numJ tx len a k) = numR tx len a k := by
  rw [numR_0 hk, decide_eq_true_eq] at h
  unfold numR
  rw [if_neg (by omega)]
theorem and_l {a b : Bool} (h : (a && b) = true) : a = true := by cases a <;> simp_all
theorem and_r {a b : Bool} (h : (a && b) = true) : b = true := by cases a <;> simp_all
theorem gQ1 {tx : Nat → Int32} {len a : Nat} (h : F0B tx len a = true) : Q1 tx len a = A1 tx len a + 1 := if_pos (and_r h)
theorem gQ2 {tx : Nat → Int32} {len a : Nat} (h0 : F0B tx len a = true) (h : F1B tx len a = true) : Q2 tx len a = A2 tx len a + 1 := by
  unfold Q2 P2; rw [gQ1 h0]; exact if_pos (and_r h)
theorem gQ3 {tx : Nat → Int32} {len a : Nat} (h0 : F0B tx len a = true) (h1 : F1B tx len a = true) (h : F2B tx len a = true) : Q3 tx len a = A3 tx len a + 1 := by
  unfold Q3 P3; rw [gQ2 h0 h1]; exact if_pos (and_r h)
theorem gQ4 {tx : Nat → Int32} {len a : Nat} (h0 : F0B tx len a = true) (h1 : F1B tx len a = true) (h2 : F2B tx len a = true) (h : F3B tx len a = true) : Q4 tx len a = A4 tx len a + 1 := by
  unfold Q4 P4; rw [gQ3 h0 h1 h2]; exact if_pos (and_r h)
theorem gQ5 {tx : Nat → Int32} {len a : Nat} (h0 : F0B tx len a = true) (h1 : F1B tx len a = true) (h2 : F2B tx len a = true) (h3 : F3B tx len a = true) (h : F4B tx len a = true) : Q5 tx len a = A5 tx len a + 1 := by
  unfold Q5 P5; rw [gQ4 h0 h1 h2 h3]; exact if_pos (and_r h)
theorem G1_F (tx : Nat → Int32) (len a : Nat) : G1 tx len a = F0B tx len a := by
  unfold G1 G0 F0B V0
  rw [numR_0 (by decide), Bool.true_and]; rfl
theorem G3_F (tx : Nat → Int32) (len a : Nat) : G3 tx len a = (F0B tx len a && F1B tx len a) := by
  unfold G3 G2
  rw [G1_F]
  cases h : F0B tx len a with
  | false => rfl
  | true =>
    unfold P2
    rw [gQ1 h]
    unfold F1B V1
    rw [numR_0 (by decide), Bool.true_and, Bool.true_and]; rfl
theorem G5_F (tx : Nat → Int32) (len a : Nat) : G5 tx len a = (F0B tx len a && (F1B tx len a && F2B tx len a)) := by
  unfold G5 G4
  rw [G3_F, ← Bool.and_assoc]
  cases h : F0B tx len a && F1B tx len a with
  | false => rfl
  | true =>
    unfold P3
    rw [gQ2 (and_l h) (and_r h)]
    unfold F2B V2
    rw [numR_0 (by decide), Bool.true_and, Bool.true_and]; rfl
theorem G7_F (tx : Nat → Int32) (len a : Nat) : G7 tx len a = (F0B tx len a && (F1B tx len a && (F2B tx len a && F3B tx len a))) := by
  unfold G7 G6
  rw [G5_F, show (F0B tx len a && (F1B tx len a && (F2B tx len a && F3B tx len a))) = ((F0B tx len a && (F1B tx len a && F2B tx len a)) && F3B tx len a) by simp only [Bool.and_assoc]]
  cases h : F0B tx len a && (F1B tx len a && F2B tx len a) with
  | false => rfl
  | true =>
    unfold P4
    rw [gQ3 (and_l h) (and_l (and_r h)) (and_r (and_r h))]
    unfold F3B V3
    rw [numR_0 (by decide), Bool.true_and, Bool.true_and]; rfl
theorem fm_G (tx : Nat → Int32) (len a : Nat) : G9 tx len a = fmB tx len a := by
  unfold G9 G8 fmB
  rw [G7_F, show (F0B tx len a && (F1B tx len a && (F2B tx len a && (F3B tx len a && F4B tx len a)))) = ((F0B tx len a && (F1B tx len a && (F2B tx len a && F3B tx len a))) && F4B tx len a) by simp only [Bool.and_assoc]]
  cases h : F0B tx len a && (F1B tx len a && (F2B tx len a && F3B tx len a)) with
  | false => rfl
  | true =>
    unfold P5
    rw [gQ4 (and_l h) (and_l (and_r h)) (and_l (and_r (and_r h))) (and_r (and_r (and_r h)))]
    unfold F4B V4
    rw [numR_0 (by decide), Bool.true_and, Bool.true_and]; rfl
theorem fm_U {tx : Nat → Int32} {len a : Nat} (h : fmB tx len a = true) : U0 tx len a = V0 tx len a ∧ U1 tx len a = V1 tx len a ∧ UH tx len a = VH tx len a ∧ U4 tx len a = V4 tx len a ∧ Q5 tx len a = nxA tx len a := by
  unfold fmB at h
  have h0 := and_l h
  have h1 := and_l (and_r h)
  have h2 := and_l (and_r (and_r h))
  have h3 := and_l (and_r (and_r (and_r h)))
  have h4 := and_r (and_r (and_r (and_r h)))
  have e0 : U0 tx len a = V0 tx len a := numR_V (by decide) (and_l h0)
  have e1 : U1 tx len a = V1 tx len a := by unfold U1; rw [gQ1 h0]; exact numR_V (by decide) (and_l h1)
  have e2 : U2 tx len a = V2 tx len a := by unfold U2; rw [gQ2 h0 h1]; exact numR_V (by decide) (and_l h2)
  have e3 : U3 tx len a = V3 tx len a := by unfold U3; rw [gQ3 h0 h1 h2]; exact numR_V (by decide) (and_l h3)
  have e4 : U4 tx len a = V4 tx len a := by unfold U4; rw [gQ4 h0 h1 h2 h3]; exact numR_V (by decide) (and_l h4)
  exact ⟨e0, e1, by unfold UH VH; rw [e2, e3], e4, gQ5 h0 h1 h2 h3 h4⟩
theorem nI_inj {a b : Nat} (ha : a < 2147483648) (hb : b < 2147483648) : decide (nI a = nI b) = decide (a = b) := by
  by_cases h : a = b
  · rw [decide_eq_true h, decide_eq_true (by rw [h])]
  · rw [decide_eq_false h, decide_eq_false (fun q => h ((nI_eq ha hb).mp q))]
theorem rom_ful {d : Nat → Int32} (hJ : rJ d) : romB d = !fulB d := by
  have h24 := hJ.2.1
  have h200 := hJ.1.ng2
  unfold romB fulB
  rw [← vn_v, hJ.1.ng, nI_inj (by omega) (by decide), nI_inj (by omega) (by decide)]
  by_cases h1 : vn d = 24
  · rw [decide_eq_true h1, decide_eq_false (by omega)]; rfl
  · rw [decide_eq_false h1, decide_eq_true (show vn d < 24 by omega)]
    by_cases h2 : nG d = 200
    · rw [decide_eq_true h2, decide_eq_false (by omega)]; rfl
    · rw [decide_eq_false h2, decide_eq_true (by omega)]; rfl
theorem apl_2 {d : Nat → Int32} {c n h sw : Int32} (hh : aplB d c n h sw = true) : inB c (nI 0) (d 0 - nI 1) = true ∧ planB n h sw = true := by
  rw [apl_e, Bool.and_eq_true] at hh
  exact hh
/-! a grant keeps what holds -/
theorem gra_old {d : Nat → Int32} {c n : Nat} {h sw : Int32} {p k : Nat} (hp : p < nG d) (hk : k < 5) (h2 : nG d ≤ 200) : pm (graD d c n h sw) p k = pm d p k := gra_lo (by omega) (by omega)
theorem rJ_gra {d : Nat → Int32} (hJ : rJ d) {c n : Nat} {h sw : Int32} (hc : c < nC d) (hpn : planB (nI n) h sw = true) (hrm : romB d = true) : rJ (graD d c n h sw) := by
  obtain ⟨hI, h24, hpl, h2, h3⟩ := hJ
  obtain ⟨r1, r2⟩ := rom_2 hrm
  have g2 := hI.ng2
  obtain ⟨a1, a2, a3⟩ := gra_I hI r2 (n := n) hc h sw
  have hH := gra_H (c := c) (n := n) (h := h) (sw := sw) hI
  have hs : ∀ v, v ≠ nI 1 → sumN (cntF (graD d c n h sw) v) (nG d + 1) = sumN (cntF d v) (nG d) := fun v hv => by
    rw [sumN_s, show cntF (graD d c n h sw) v (nG d) = nI 0 by unfold cntF; rw [gra_pm.2.2.2.2, if_neg (fun q => hv q.symm)], add_z]
    refine sumN_cong (fun p hp => ?_)
    unfold cntF
    rw [gra_old hp (by decide) g2]
  refine ⟨a1, by rw [gra_vn hH]; omega, fun p hp => ?_, ?_, ?_⟩
  · rw [a2] at hp
    rcases Nat.lt_or_ge p (nG d) with q | q
    · rw [gra_old q (by decide) g2, gra_old q (by decide) g2, gra_old q (by decide) g2]; exact hpl p q
    · have e : p = nG d := by omega
      subst e
      obtain ⟨-, e1, e2, e3, -⟩ := @gra_pm d c n h sw
      rw [e1, e2, e3]; exact hpn
  · rw [gra_lo (by omega) (by omega), a2, hs _ (by decide)]; exact h2
  · rw [gra_lo (by omega) (by omega), a2, hs _ (by decide)]; exact h3
theorem fD_J {d tx : Nat → Int32} {len : Nat} (hJ : rJ d) : ∀ {i : Nat}, (∀ j, j < i → (!goB d tx len j) = false) → rJ (fD d tx len i) ∧ nG (fD d tx len i) = nG d + i
  | 0, _ => ⟨hJ, rfl⟩
  | i + 1, h => by
    obtain ⟨ih, ig⟩ := fD_J (len := len) (tx := tx) hJ (i := i) (fun j hj => h j (by omega))
    have h1 := h i (Nat.lt_succ_self i)
    have h2 : goB d tx len i = true := by simpa using h1
    unfold goB at h2
    simp only [Bool.and_eq_true] at h2
    obtain ⟨-, p2, -, p4⟩ := one_parts h2.2
    obtain ⟨q0, e0, q1, e1⟩ := one_nat ih.1 p2
    have hrm : romB (fD d tx len i) = true := by rw [rom_ful ih, p4]; rfl
    have hpn := (apl_2 p2).2
    rw [e1] at hpn
    refine ⟨rJ_gra ih q0 hpn hrm, ?_⟩
    have := (gra_I ih.1 (rom_2 hrm).2 (n := cl (V1 tx len (fA d tx len i))) q0 (VH tx len (fA d tx len i)) (V4 tx len (fA d tx len i))).2.1
    have e9 : nG (fD d tx len (i + 1)) = nG (fD d tx len i) + 1 := this
    rw [e9, ig]; omega
/-- what tryText answers -/
def tryR (d tx : Nat → Int32) (len : Nat) : Int32 := if fPl d tx len = (-1004) then nI 0 else fRe d tx len
theorem try_ok {d tx : Nat → Int32} {len i : Nat} (hlen : len ≤ 80) (hall : ∀ j, j < i → (!goB d tx len j) = false) (hx : len ≤ fA d tx len i) : fN d tx len = i ∧ fPl d tx len = (-1004) ∧ nI 0 = tryR d tx len := by
  have hN := fN_is hlen hall (go_f1 hx)
  have hP : fPl d tx len = (-1004) := by unfold fPl; rw [hN, if_neg (Nat.not_lt.mpr hx)]
  exact ⟨hN, hP, by unfold tryR; rw [if_pos hP]⟩
theorem try_no {d tx : Nat → Int32} {len i : Nat} (hlen : len ≤ 80) (hall : ∀ j, j < i → (!goB d tx len j) = false) (hx : fA d tx len i < len) (hone : oneB (fD d tx len i) tx len (fA d tx len i) = false) : fN d tx len = i ∧ ¬ fPl d tx len = (-1004) ∧ nI (fA d tx len i) = fPl d tx len ∧ eOne (fD d tx len i) tx len (fA d tx len i) = tryR d tx len := by
  have hN := fN_is hlen hall (go_f2 hone)
  have hP : fPl d tx len = nI (fA d tx len i) := by unfold fPl; rw [hN, if_pos hx]
  have hP2 : ¬ fPl d tx len = (-1004) := by rw [hP]; exact oI_ne4 (by omega)
  exact ⟨hN, hP2, hP.symm, by unfold tryR fRe; rw [if_neg hP2, hN]⟩
theorem fall {d tx : Nat → Int32} {len : Nat} : ∀ j, j < fN d tx len → (!goB d tx len j) = false := fun j hj => by
  unfold fN at hj
  cases e : (List.range 81).find? (fun i => !goB d tx len i) with
  | none =>
    rw [e] at hj
    have := List.find?_eq_none.mp e j (List.mem_range.mpr hj)
    simpa using this
  | some n =>
    rw [e] at hj
    have hj : j < n := hj
    have hn := find_lt e
    have := (List.find?_eq_some_iff_append.mp e)
    obtain ⟨-, as, bs, e2, hn2⟩ := this
    have hl : as.length = n := by
      have h1 : (List.range 81)[as.length]? = some n := by rw [e2]; simp
      rw [List.getElem?_range] at h1
      · exact Option.some.inj h1
      · rcases Nat.lt_or_ge as.length 81 with q | q
        · exact q
        · rw [List.getElem?_eq_none (by simpa using q)] at h1; cases h1
    have hm : j ∈ as := by
      have h1 : (List.range 81)[j]? = some j := by rw [List.getElem?_range (by omega)]
      rw [e2, List.getElem?_append_left (by omega)] at h1
      exact List.mem_of_getElem? h1
    have := hn2 j hm
    simpa using this
theorem try_0 {d tx : Nat → Int32} {len : Nat} (h : ¬ fPl d tx len = (-1004)) : ¬ tryR d tx len = 0 := by
  unfold tryR
  rw [if_neg h]
  have h1 : fA d tx len (fN d tx len) < len := by
    rcases Nat.lt_or_ge (fA d tx len (fN d tx len)) len with q | q
    · exact q
    · exact absurd (by unfold fPl; rw [if_neg (Nat.not_lt.mpr q)]) h
  intro q
  unfold fRe at q
  cases e : oneB (fD d tx len (fN d tx len)) tx len (fA d tx len (fN d tx len)) with
  | true =>
    have hA := fA_le (fall (d := d) (tx := tx) (len := len))
    have hg := fA_ge d tx len (fN d tx len)
    have hgo : goB d tx len (fN d tx len) = true := by unfold goB; rw [decide_eq_true h1, e]; rfl
    unfold eOne at q
    obtain ⟨p1, p2, p3, p4⟩ := one_parts e
    rw [if_pos p1, if_pos p2, if_pos p3] at q
    exact absurd q (by decide)
  | false => exact eOne_pos e (by rw [q]; decide)
