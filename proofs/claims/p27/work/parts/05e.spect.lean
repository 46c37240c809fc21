/-! THE FIRST FREE TIME -/
def ffQ (d : Nat → Int32) (c : Nat) (sw : Int32) (many fr k : Nat) : Bool := decide (10 * fr ≤ k) && (decide (k % 10 + many ≤ 10) && ffP d c sw many (k / 10) (k % 10))
theorem ff_lo {d : Nat → Int32} {c : Nat} {sw : Int32} {many fr z : Nat} (h : z < 10 * fr) : ffQ d c sw many fr z = false := by
  unfold ffQ
  rw [decide_eq_false (by omega)]; rfl
theorem ff_y {d : Nat → Int32} {c : Nat} {sw : Int32} {many fr n h : Nat} (h1 : fr ≤ n) (h2 : h + many ≤ 10) (h3 : h < 10) (hz : rfsI d c n (nI (10 * h + h + many - 1)) sw = 0) : ffQ d c sw many fr (10 * n + h) = true := by
  unfold ffQ ffP
  rw [show (10 * n + h) % 10 = h by omega, show (10 * n + h) / 10 = n by omega, decide_eq_true (by omega), decide_eq_true h2, decide_eq_true hz]; rfl
theorem ff_n {d : Nat → Int32} {c : Nat} {sw : Int32} {many fr n h : Nat} (h3 : h < 10) (hz : ¬ rfsI d c n (nI (10 * h + h + many - 1)) sw = 0) : ffQ d c sw many fr (10 * n + h) = false := by
  unfold ffQ ffP
  rw [show (10 * n + h) % 10 = h by omega, show (10 * n + h) / 10 = n by omega, decide_eq_false hz, Bool.and_false, Bool.and_false]
theorem ff_s {d : Nat → Int32} {c : Nat} {sw : Int32} {many fr n h : Nat} (hall : ∀ z, z < 10 * n + h → ffQ d c sw many fr z = false) (h3 : h < 10) (hz : ¬ rfsI d c n (nI (10 * h + h + many - 1)) sw = 0) : ∀ z, z < 10 * n + (h + 1) → ffQ d c sw many fr z = false := fun z hzz => by
  rcases Nat.lt_or_ge z (10 * n + h) with q | q
  · exact hall z q
  · rw [show z = 10 * n + h by omega]; exact ff_n h3 hz
theorem ff_hi {d : Nat → Int32} {c : Nat} {sw : Int32} {many fr n h : Nat} (hall : ∀ z, z < 10 * n + h → ffQ d c sw many fr z = false) (h3 : 10 < h + many) : ∀ z, z < 10 * (n + 1) → ffQ d c sw many fr z = false := fun z hzz => by
  rcases Nat.lt_or_ge z (10 * n + h) with q | q
  · exact hall z q
  · unfold ffQ
    rw [decide_eq_false (show ¬ z % 10 + many ≤ 10 by omega), Bool.false_and, Bool.and_false]
