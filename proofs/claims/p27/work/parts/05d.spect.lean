/-! TEXTS, 3: the end of the run -/
theorem oI_ne4 {p : Nat} (h : p < 2147483648) : ¬ nI p = (-1004) := by
  intro q
  have a := nI_toInt h
  rw [q] at a
  rw [show ((-1004 : Int32)).toInt = -1004 by decide] at a
  omega
theorem rfs_pos {d : Nat → Int32} {c n : Nat} {h sw : Int32} (hh : ¬ rfsI d c n h sw = nI 0) : ¬ rfsI d c n h sw ≤ 0 := fun q => hh (rfs_le q)
theorem eOne_pos {d tx : Nat → Int32} {len a : Nat} (hno : oneB d tx len a = false) : ¬ eOne d tx len a ≤ 0 := by
  unfold eOne
  split
  · split
    · split
      · decide
      · rename_i q; exact rfs_pos q
    · decide
  · decide
theorem go_f1 {d tx : Nat → Int32} {len i : Nat} (h : len ≤ fA d tx len i) : goB d tx len i = false := by
  unfold goB
  rw [decide_eq_false (Nat.not_lt.mpr h)]; rfl
theorem go_f2 {d tx : Nat → Int32} {len i : Nat} (h : oneB (fD d tx len i) tx len (fA d tx len i) = false) : goB d tx len i = false := by
  unfold goB
  rw [h]; exact Bool.and_false _
theorem flt_end {d tx : Nat → Int32} {len i : Nat} {f pa rs : Int32} (hlen : len ≤ 80) (hall : ∀ j, j < i → (!goB d tx len j) = false) (hst : (f = (-1004) ∧ pa = nI (fA d tx len i)) ∨ (f = nI (fA d tx len i) ∧ fA d tx len i < len ∧ oneB (fD d tx len i) tx len (fA d tx len i) = false ∧ rs = eOne (fD d tx len i) tx len (fA d tx len i))) (hx : nI len ≤ pa ∨ ¬ f = (-1004)) : fN d tx len = i ∧ fPl d tx len = f ∧ (¬ fPl d tx len = (-1004) → rs = fRe d tx len) := by
  have hal := fA_le hall
  rcases hst with ⟨e1, e2⟩ | ⟨e1, e2, e3, e4⟩
  · subst e1; subst e2
    rcases hx with h | h
    · have h2 : len ≤ fA d tx len i := (nI_leI (by omega) (by omega)).mp h
      have hN := fN_is hlen hall (go_f1 h2)
      have hP : fPl d tx len = (-1004) := by unfold fPl; rw [hN, if_neg (Nat.not_lt.mpr h2)]
      exact ⟨hN, hP, fun q => absurd hP q⟩
    · exact absurd rfl h
  · have hN := fN_is hlen hall (go_f2 e3)
    refine ⟨hN, ?_, fun _ => ?_⟩
    · unfold fPl; rw [hN, if_pos e2, e1]
    · unfold fRe; rw [hN, e4]
theorem ent_go {d tx : Nat → Int32} {len i : Nat} (hlen : len ≤ 80) (hok : fPl d tx len = (-1004)) (hall : ∀ j, j < i → (!goB d tx len j) = false) (hlt : fA d tx len i < len) : oneB (fD d tx len i) tx len (fA d tx len i) = true := by
  cases h : oneB (fD d tx len i) tx len (fA d tx len i) with
  | true => rfl
  | false =>
    exfalso
    have hN := fN_is hlen hall (go_f2 h)
    unfold fPl at hok
    rw [hN, if_pos hlt] at hok
    exact oI_ne4 (by omega) hok
theorem go_t {d tx : Nat → Int32} {len i : Nat} (hlt : fA d tx len i < len) (h : oneB (fD d tx len i) tx len (fA d tx len i) = true) : (!goB d tx len i) = false := by
  unfold goB
  rw [decide_eq_true hlt, h]; rfl
