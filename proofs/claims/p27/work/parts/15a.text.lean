/-! THE CLASS: its text -/
def tWs (y : zY) (t : Nat) (len st nx fo cr ni ho sw : Int32) (tx : Nat → Int32) : va_W := [(t, .inr (3, [.ref (t + 1), .int len, .int st, .int nx, .int fo, .int cr, .int ni, .int ho, .int sw])), (t + 1, .inl (y.2.1, 80, .inl tx))]
theorem tWs_D {y : zY} {t : Nat} {len st nx fo cr ni ho sw : Int32} {tx : Nat → Int32} : va_D (blk t 2) (tWs y t len st nx fo cr ni ho sw tx) :=
  va_D_blk (fun k q hk => match k, hk with
  | 0, hk => by cases hk; rfl
  | 1, hk => by cases hk; rfl
  | k + 2, hk => by simp [tWs] at hk) (Nat.le_of_ble_eq_true rfl)
def sgA (tx : Nat → Int32) (len i : Nat) : Int32 := if i < len then tx i else nI 0
theorem sg_y {tx : Nat → Int32} {len a : Nat} {c : Int32} {fo : Bool} (hc : ¬ c = nI 0) (h : sgA tx len a = c) : a + 1 = atP tx len a c ∧ fo = (fo && pasB tx len a c) := by
  have hp : pasB tx len a c = true := by
    unfold sgA at h
    by_cases q : a < len
    · rw [if_pos q] at h
      unfold pasB
      rw [decide_eq_true q, decide_eq_true h]; rfl
    · rw [if_neg q] at h
      exact absurd h.symm hc
  unfold atP
  rw [if_pos hp, hp, Bool.and_true]
  exact ⟨rfl, rfl⟩
theorem sg_n {tx : Nat → Int32} {len a : Nat} {c : Int32} {fo : Bool} (hc : ¬ c = nI 0) (h : ¬ sgA tx len a = c) : a = atP tx len a c ∧ false = (fo && pasB tx len a c) := by
  have hp : pasB tx len a c = false := by
    unfold sgA at h
    unfold pasB
    by_cases q : a < len
    · rw [if_pos q] at h
      rw [decide_eq_false h, Bool.and_false]
    · rw [decide_eq_false q, Bool.false_and]
  unfold atP
  rw [if_neg (bf hp), hp, Bool.and_false]
  exact ⟨rfl, rfl⟩
theorem dg_sg (tx : Nat → Int32) (len a i : Nat) : digP tx len a i = inB (sgA tx len (a + i)) (nI 48) (nI 57) := by
  unfold digP sgA
  by_cases q : a + i < len
  · rw [if_pos q, decide_eq_true q, Bool.true_and]
  · rw [if_neg q, decide_eq_false q, Bool.false_and]; decide
theorem dg_lt {tx : Nat → Int32} {len a i : Nat} (h : digP tx len a i = true) : a + i < len := by
  unfold digP at h
  simp only [Bool.and_eq_true, decide_eq_true_eq] at h
  exact h.1
theorem dg_le {tx : Nat → Int32} {len a j : Nat} (ha : a ≤ len) (h : ∀ i, i < j → (!digP tx len a i) = false) : a + j ≤ len := by
  rcases Nat.eq_zero_or_pos j with q | q
  · omega
  · have h1 := h (j - 1) (by omega)
    have h2 : digP tx len a (j - 1) = true := by simpa using h1
    have := dg_lt h2
    omega
theorem sg_dig {tx : Nat → Int32} {len a : Nat} (h : inB (sgA tx len a) (nI 48) (nI 57) = true) : sgA tx len a = tx a := by
  have h2 : digP tx len a 0 = true := by rw [dg_sg]; exact h
  have := dg_lt h2
  unfold sgA
  rw [if_pos (by omega)]
