/-! THE REFERENCE'S STATE, AS A ROW OF NUMBERS, AND WHAT ITS METHODS READ OFF IT -/
def gr (d : Nat → Int32) (c k : Nat) : Int32 := d (4 + 6 * c + k)
def pm (d : Nat → Int32) (p k : Nat) : Int32 := d (445 + 5 * p + k)
def cl (x : Int32) : Nat := x.toNatClampNeg
def nC (d : Nat → Int32) : Nat := cl (d 0)
def nG (d : Nat → Int32) : Nat := cl (d 442)
def pC (d : Nat → Int32) (p : Nat) : Nat := cl (pm d p 0)
def sC (d : Nat → Int32) (c : Nat) : Nat := cl (gr d c 4)
theorem cl_nI {n : Nat} (h : n < 2147483648) : cl (nI n) = n := nI_clamp h
def sumN (f : Nat → Int32) : Nat → Int32
  | 0 => nI 0
  | n + 1 => sumN f n + f n
theorem sumN_s (f : Nat → Int32) (n : Nat) : sumN f (n + 1) = sumN f n + f n := rfl
def accN (f : Nat → Int32) (s : Int32) : Nat → Int32
  | 0 => s
  | n + 1 => accN f s n + f n
theorem accN_s (f : Nat → Int32) (s : Int32) (n : Nat) : accN f s (n + 1) = accN f s n + f n := rfl
/-- what makes the reference's own steps safe -/
def zI (d : Nat → Int32) : Prop := d 0 = nI (nC d) ∧ nC d ≤ 8 ∧ d 442 = nI (nG d) ∧ nG d ≤ 200 ∧ (∀ p, p < nG d → pm d p 0 = nI (pC d p) ∧ pC d p < nC d) ∧ (∀ c, c < nC d → gr d c 4 = nI (sC d c) ∧ sC d c < 4)
theorem zI.nc {d : Nat → Int32} (h : zI d) : d 0 = nI (nC d) := h.1
theorem zI.nc8 {d : Nat → Int32} (h : zI d) : nC d ≤ 8 := h.2.1
theorem zI.ng {d : Nat → Int32} (h : zI d) : d 442 = nI (nG d) := h.2.2.1
theorem zI.ng2 {d : Nat → Int32} (h : zI d) : nG d ≤ 200 := h.2.2.2.1
theorem zI.pc {d : Nat → Int32} (h : zI d) {p : Nat} (hp : p < nG d) : pm d p 0 = nI (pC d p) := (h.2.2.2.2.1 p hp).1
theorem zI.pcn {d : Nat → Int32} (h : zI d) {p : Nat} (hp : p < nG d) : pC d p < nC d := (h.2.2.2.2.1 p hp).2
theorem zI.pc8 {d : Nat → Int32} (h : zI d) {p : Nat} (hp : p < nG d) : pC d p < 8 := Nat.lt_of_lt_of_le (h.pcn hp) h.nc8
theorem zI.sc {d : Nat → Int32} (h : zI d) {c : Nat} (hc : c < nC d) : gr d c 4 = nI (sC d c) := (h.2.2.2.2.2 c hc).1
theorem zI.sc4 {d : Nat → Int32} (h : zI d) {c : Nat} (hc : c < nC d) : sC d c < 4 := (h.2.2.2.2.2 c hc).2
/-- an argument within bounds is a small number -/
theorem inB_nat {v : Int32} {lo hi : Nat} (hh : hi < 2147483648) (h : inB v (nI lo) (nI hi) = true) (hl : lo < 2147483648) : ∃ j : Nat, lo ≤ j ∧ j ≤ hi ∧ v = nI j := by
  simp only [inB, Bool.and_eq_true, decide_eq_true_eq] at h
  have a := Int32.le_iff_toInt_le.mp h.1
  have b := Int32.le_iff_toInt_le.mp h.2
  rw [nI_toInt hl] at a
  rw [nI_toInt hh] at b
  refine ⟨cl v, ?_, ?_, ?_⟩
  · show lo ≤ v.toInt.toNat; omega
  · show v.toInt.toNat ≤ hi; omega
  · apply Int32.toInt_inj.mp
    rw [nI_toInt (show cl v < 2147483648 by show v.toInt.toNat < _; omega)]
    show v.toInt = ((v.toInt.toNat : Nat) : Int)
    omega
theorem inB_of {lo hi j : Nat} (h1 : lo ≤ j) (h2 : j ≤ hi) (hh : hi < 2147483648) : inB (nI j) (nI lo) (nI hi) = true := by
  simp only [inB, Bool.and_eq_true, decide_eq_true_eq]
  exact ⟨nI_le h1 (by omega), nI_le h2 hh⟩
theorem inB_lt {v : Int32} {n : Nat} (hn : n < 1000000) (h : inB v (nI 0) (nI n - nI 1) = true) : ∃ j : Nat, j < n ∧ v = nI j := by
  rcases Nat.eq_zero_or_pos n with h0 | h0
  · subst h0
    simp only [inB, Bool.and_eq_true, decide_eq_true_eq] at h
    have a := Int32.le_iff_toInt_le.mp h.1
    have b := Int32.le_iff_toInt_le.mp h.2
    rw [show (nI 0).toInt = 0 by decide] at a
    rw [show (nI 0 - nI 1).toInt = -1 by decide] at b
    omega
  · rw [pk_sub h0] at h
    obtain ⟨j, -, h2, h3⟩ := inB_nat (by omega) h (by omega)
    exact ⟨j, by omega, h3⟩
theorem any_f {f : Nat → Bool} {n : Nat} (h : ∀ j, j < n → f j = false) : (List.range n).any f = false := by
  rw [List.any_eq_false]
  intro j hj
  rw [h j (List.mem_range.mp hj)]
  decide
theorem any_t {f : Nat → Bool} {n i : Nat} (hi : i < n) (h : f i = true) : (List.range n).any f = true := List.any_eq_true.mpr ⟨i, List.mem_range.mpr hi, h⟩
theorem fst_n {f : Nat → Bool} {n : Nat} (h : ∀ j, j < n → f j = false) : (List.range n).find? f = none := by
  rw [List.find?_eq_none]
  intro j hj
  rw [h j (List.mem_range.mp hj)]
  decide
theorem fst_s {f : Nat → Bool} {i : Nat} (h : f i = true) (h2 : ∀ j, j < i → f j = false) : ∀ {n : Nat}, i < n → (List.range n).find? f = some i
  | 0, hi => absurd hi (Nat.not_lt_zero _)
  | n + 1, hi => by
    rw [List.range_succ, List.find?_append]
    rcases Nat.lt_or_ge i n with q | q
    · rw [fst_s h h2 q]; rfl
    · have e : i = n := by omega
      subst e
      rw [fst_n h2]
      simp [h]
theorem lt_sc {i : Nat} {f : Nat → Bool} (h : ∀ j, j < i → f j = false) (hi : f i = false) : ∀ j, j < i + 1 → f j = false := fun j hj => by
  rcases Nat.lt_or_ge j i with q | q
  · exact h j q
  · rw [show j = i by omega]; exact hi
def dirI (dx dy : Int32) : Int32 := if ¬ dx ≤ 0 ∧ ¬ dy < 0 then (if dx ≤ dy then nI 1 else nI 0) else if ¬ 0 < dx ∧ ¬ dy ≤ 0 then (if dy ≤ -dx then nI 3 else nI 2) else if ¬ 0 ≤ dx ∧ ¬ 0 < dy then (if -dx ≤ -dy then nI 5 else nI 4) else if -dy ≤ dx then nI 7 else nI 6
def covB (d : Nat → Int32) (c : Nat) (sw x y : Int32) : Bool := (decide (x - gr d c 0 = 0) && decide (y - gr d c 1 = 0)) || (!decide (gr d c 2 * gr d c 2 < (x - gr d c 0) * (x - gr d c 0) + (y - gr d c 1) * (y - gr d c 1)) && decide ((sw >>> (dirI (x - gr d c 0) (y - gr d c 1) &&& 31)) &&& nI 1 = nI 1))
def covC (d : Nat → Int32) (c : Nat) (sw : Int32) (i : Nat) : Bool := covB d c sw (nI (i % 16)) (nI (i / 16))
def amB (d : Nat → Int32) (a : Nat) (s1 : Int32) (b : Nat) (s2 : Int32) : Bool := (List.range 256).any (fun i => covC d a s1 i && covC d b s2 i)
def hmB (a b : Int32) : Bool := !decide (b - b / nI 10 * nI 10 < a / nI 10) && !decide (a - a / nI 10 * nI 10 < b / nI 10)
def absM (x : Int32) : Int32 := if 0 ≤ x then x else -x
def airB (d : Nat → Int32) (c : Nat) (n h sw : Int32) (p : Nat) : Bool := !decide (c = pC d p) && (decide (n = pm d p 1) && (hmB h (pm d p 2) && (!decide (d 3 ≤ absM (gr d c 3 - gr d (pC d p) 3)) && amB d c sw (pC d p) (pm d p 3))))
def fiaP (d : Nat → Int32) (c : Nat) (n h sw : Int32) (p : Nat) : Bool := decide (pm d p 4 = nI 1) && airB d c n h sw p
def fiaO (d : Nat → Int32) (c : Nat) (n h sw : Int32) : Option Nat := (List.range (nG d)).find? (fiaP d c n h sw)
def oI (o : Option Nat) : Int32 := match o with
  | some p => nI p
  | none => (-1)
def alwI (d : Nat → Int32) (st n : Nat) : Int32 := if d (82 + (30 * st + n)) = (-1) then d 2 else d (82 + (30 * st + n))
def creI (d : Nat → Int32) (st n : Nat) : Int32 := alwI d st n + d (202 + (30 * st + n)) - d (322 + (30 * st + n))
def hrsI (h : Int32) : Int32 := h - h / nI 10 * nI 10 - h / nI 10 + nI 1
def usI (d : Nat → Int32) (p : Nat) : Int32 := hrsI (pm d p 2) * gr d (pC d p) 5
def ofB (d : Nat → Int32) (p : Nat) (st n : Int32) : Bool := decide (pm d p 4 = nI 1) && (decide (pm d p 1 = n) && decide (gr d (pC d p) 4 = st))
def usedF (d : Nat → Int32) (st n : Int32) (p : Nat) : Int32 := if ofB d p st n = true then usI d p else nI 0
def usedI (d : Nat → Int32) (st n : Int32) : Int32 := sumN (usedF d st n) (nG d)
def stpB (d : Nat → Int32) (c n : Nat) : Bool := !decide (d (52 + n) < d 1 - gr d c 3 / nI 2)
def vldF (d : Nat → Int32) (c : Int32) (p : Nat) : Int32 := if pm d p 4 = nI 1 then (if c = (-1) then nI 1 else if pm d p 0 = c then nI 1 else nI 0) else nI 0
def vldI (d : Nat → Int32) (c : Int32) : Int32 := sumN (vldF d c) (nG d)
def vofF (d : Nat → Int32) (st n : Int32) (p : Nat) : Int32 := if ofB d p st n = true then nI 1 else nI 0
def vofI (d : Nat → Int32) (st n : Int32) : Int32 := sumN (vofF d st n) (nG d)
def togF (d : Nat → Int32) (p q : Nat) : Int32 := if pm d q 4 = nI 1 then (if airB d (pC d p) (pm d p 1) (pm d p 2) (pm d p 3) q = true then nI 1 else nI 0) else nI 0
def togA (d : Nat → Int32) (b : Bool) (p : Nat) : Int32 := if b = true then nI 0 else if pm d p 4 = nI 1 then usI d p else nI 0
def togN (d : Nat → Int32) (b : Bool) (p : Nat) : Nat := if b = true then (if pm d p 4 = nI 1 then p else 0) else 0
def togS (d : Nat → Int32) (b : Bool) : Nat → Int32
  | 0 => nI 0
  | p + 1 => accN (togF d p) (togS d b p + togA d b p) (togN d b p)
def togI (d : Nat → Int32) (b : Bool) : Int32 := togS d b (nG d)
def ownB (d : Nat → Int32) (c : Nat) (n h : Int32) (p : Nat) : Bool := decide (pm d p 4 = nI 1) && (decide (pm d p 0 = nI c) && (decide (pm d p 1 = n) && hmB h (pm d p 2)))
def rfsI (d : Nat → Int32) (c n : Nat) (h sw : Int32) : Int32 := if (List.range (nG d)).any (ownB d c (nI n) h) = true then nI 1 else if stpB d c n = true then nI 2 else if oI (fiaO d c (nI n) h sw) = (-1) then (if usedI d (nI (sC d c)) (nI n) + hrsI h * gr d c 5 ≤ creI d (sC d c) n then nI 0 else nI 4) else nI 3
def ahrB (h : Int32) : Bool := inB h (nI 0) (nI 99) && !decide (h - h / nI 10 * nI 10 < h / nI 10)
def aplB (d : Nat → Int32) (c n h sw : Int32) : Bool := inB c (nI 0) (d 0 - nI 1) && (inB n (nI 0) (nI 29) && (ahrB h && inB sw (nI 1) (nI 255)))
def fulB (d : Nat → Int32) : Bool := decide (vldI d (-1) = nI 24) || decide (d 442 = nI 200)
def ahdB (d : Nat → Int32) (p q : Nat) : Bool := decide (nI 10 * pm d p 1 + pm d p 2 / nI 10 < nI 10 * pm d q 1 + pm d q 2 / nI 10) || (decide (nI 10 * pm d p 1 + pm d p 2 / nI 10 = nI 10 * pm d q 1 + pm d q 2 / nI 10) && decide (p < q))
def ordF (d : Nat → Int32) (p q : Nat) : Int32 := if pm d q 4 = nI 1 then (if ahdB d q p = true then nI 1 else nI 0) else nI 0
def ordP (d : Nat → Int32) (x : Int32) (p : Nat) : Bool := decide (pm d p 4 = nI 1) && decide (sumN (ordF d p) (nG d) = x)
/-! the answers of the calls that only read -/
def aCraneOf (d : Nat → Int32) (c w : Int32) : Int32 := if inB c (nI 0) (d 0 - nI 1) = true then (if inB w (nI 0) (nI 7) = true then (if nI 6 ≤ w then (if w = nI 6 then vldI d c else d 1 - gr d (cl c) 3 / nI 2) else gr d (cl c) (cl w)) else (-1001)) else (-1001)
def aStreet (d : Nat → Int32) (st n w : Int32) : Int32 := if inB st (nI 0) (nI 3) = true then (if inB n (nI 0) (nI 29) = true then (if inB w (nI 0) (nI 6) = true then (if w = nI 0 then alwI d (cl st) (cl n) else if w = nI 1 then d (202 + (30 * cl st + cl n)) else if w = nI 2 then d (322 + (30 * cl st + cl n)) else if w = nI 3 then creI d (cl st) (cl n) else if w = nI 4 then usedI d st n else if w = nI 5 then vofI d st n else d (52 + cl n)) else (-1001)) else (-1001)) else (-1001)
def aCount (d : Nat → Int32) (hst len : Nat) (w : Int32) : Int32 := if w = nI 0 then d 0 else if w = nI 1 then vldI d (-1) else if w = nI 2 then d 442 else if w = nI 3 then d 443 else if w = nI 4 then d 444 else if w = nI 5 then togI d false else if w = nI 6 then togI d true else if w = nI 7 then nI hst else if w = nI 8 then nI len else if w = nI 10 then d 1 else if w = nI 11 then d 2 else if w = nI 12 then d 3 else (-1001)
def aCovers (d : Nat → Int32) (c sw x y : Int32) : Int32 := if inB c (nI 0) (d 0 - nI 1) = true then (if inB sw (nI 1) (nI 255) = true then (if inB x (nI 0) (nI 15) = true then (if inB y (nI 0) (nI 15) = true then (if covB d (cl c) sw x y = true then nI 1 else nI 0) else (-1001)) else (-1001)) else (-1001)) else (-1001)
def areF (d : Nat → Int32) (c : Nat) (sw : Int32) (i : Nat) : Int32 := if covC d c sw i = true then nI 1 else nI 0
def aArea (d : Nat → Int32) (c sw : Int32) : Int32 := if inB c (nI 0) (d 0 - nI 1) = true then (if inB sw (nI 1) (nI 255) = true then sumN (areF d (cl c) sw) 256 else (-1001)) else (-1001)
def aRefusal (d : Nat → Int32) (c n h sw : Int32) : Int32 := if aplB d c n h sw = true then rfsI d (cl c) (cl n) h sw else (-1001)
def aPermit (d : Nat → Int32) (p w : Int32) : Int32 := if inB p (nI 0) (d 442 - nI 1) = true then (if inB w (nI 0) (nI 5) = true then (if nI 4 ≤ w then (if w = nI 4 then usI d (cl p) else pm d (cl p) 4) else pm d (cl p) (cl w)) else (-1001)) else (-1001)
def nfI (o : Option Nat) : Int32 := match o with
  | some p => nI p
  | none => (-1004)
def aInOrder (d : Nat → Int32) (x : Int32) : Int32 := if 0 ≤ x then nfI ((List.range (nG d)).find? (ordP d x)) else (-1001)
def aShares (d : Nat → Int32) (p q : Int32) : Int32 := if inB p (nI 0) (d 442 - nI 1) = true then (if inB q (nI 0) (d 442 - nI 1) = true then (if airB d (pC d (cl p)) (pm d (cl p) 1) (pm d (cl p) 2) (pm d (cl p) 3) (cl q) = true then nI 1 else nI 0) else (-1001)) else (-1001)
def aInTheWay (d : Nat → Int32) (c n h sw : Int32) : Int32 := if aplB d c n h sw = true then nfI (fiaO d (cl c) n h sw) else (-1001)
def ffP (d : Nat → Int32) (c : Nat) (sw : Int32) (many n h : Nat) : Bool := decide (rfsI d c n (nI (10 * h + h + many - 1)) sw = 0)
/-- the first time: k counts the pairs of a night and an hour, from the night n on -/
def ffO (d : Nat → Int32) (c : Nat) (sw : Int32) (many fr : Nat) : Option Nat := (List.range 300).find? (fun k => decide (10 * fr ≤ k) && (decide (k % 10 + many ≤ 10) && ffP d c sw many (k / 10) (k % 10)))
def aFirstFree (d : Nat → Int32) (c sw many fr : Int32) : Int32 := if inB c (nI 0) (d 0 - nI 1) = true then (if inB sw (nI 1) (nI 255) = true then (if inB many (nI 1) (nI 10) = true then (if inB fr (nI 0) (nI 29) = true then nfI (ffO d (cl c) sw (cl many) (cl fr)) else (-1001)) else (-1001)) else (-1001)) else (-1001)
theorem bf {b : Bool} (h : b = false) : ¬ b = true := by rw [h]; decide
theorem in_nc {d : Nat → Int32} (hI : zI d) {c : Int32} (h : inB c (nI 0) (d 0 - nI 1) = true) : ∃ j : Nat, j < nC d ∧ c = nI j := by
  rw [hI.nc] at h
  exact inB_lt (Nat.lt_of_le_of_lt hI.nc8 (by decide)) h
theorem in_ng {d : Nat → Int32} (hI : zI d) {c : Int32} (h : inB c (nI 0) (d 442 - nI 1) = true) : ∃ j : Nat, j < nG d ∧ c = nI j := by
  rw [hI.ng] at h
  exact inB_lt (Nat.lt_of_le_of_lt hI.ng2 (by decide)) h
theorem inB_ltn {v : Int32} {hi b : Nat} (hh : hi < 2147483648) (h : inB v (nI 0) (nI hi) = true) (hb : ¬ nI b ≤ v) (hb2 : b < 2147483648 := by decide) : ∃ k : Nat, k < b ∧ v = nI k := by
  obtain ⟨j, -, h2, rfl⟩ := inB_nat hh h (by decide)
  refine ⟨j, ?_, rfl⟩
  exact Nat.not_le.mp (fun q => hb (nI_le q (by omega)))
theorem apl_nat {d : Nat → Int32} (hI : zI d) {c n h sw : Int32} (hh : aplB d c n h sw = true) : (∃ j : Nat, j < nC d ∧ c = nI j) ∧ (∃ k : Nat, k < 30 ∧ n = nI k) := by
  unfold aplB at hh
  simp only [Bool.and_eq_true] at hh
  refine ⟨in_nc hI hh.1, ?_⟩
  obtain ⟨k, -, h2, h3⟩ := inB_nat (by decide) hh.2.1 (by decide)
  exact ⟨k, by omega, h3⟩
theorem oI_ne {p : Nat} (h : p < 2147483648) : ¬ nI p = (-1) := by
  intro q
  have a := nI_toInt h
  rw [q] at a
  rw [show ((-1 : Int32)).toInt = -1 by decide] at a
  omega
theorem nf_none {o : Option Nat} (h : oI o = (-1)) (ho : ∀ p, o = some p → p < 2147483648) : (-1004 : Int32) = nfI o := by
  cases o with
  | none => rfl
  | some p => exact absurd h (oI_ne (ho p rfl))
theorem nf_some {o : Option Nat} (h : ¬ oI o = (-1)) : oI o = nfI o := by
  cases o with
  | none => exact absurd rfl h
  | some p => rfl
theorem find_lt {f : Nat → Bool} {n p : Nat} (h : (List.range n).find? f = some p) : p < n := List.mem_range.mp (List.mem_of_find?_eq_some h)
theorem fia_lt {d : Nat → Int32} (hI : zI d) {c : Nat} {n h sw : Int32} (p : Nat) (hp : fiaO d c n h sw = some p) : p < 2147483648 := by
  have a := find_lt hp
  have b := hI.ng2
  omega
theorem togN_le (d : Nat → Int32) (b : Bool) (p : Nat) : togN d b p ≤ p := by
  unfold togN
  split
  · split
    · exact Nat.le_refl _
    · exact Nat.zero_le _
  · exact Nat.zero_le _
theorem togN_q0 {q t : Nat} (h : q ≤ t) (h0 : t = 0) : q = t := by omega
theorem sw_0_5 (x : Int32) : x = nI 0 ∨ x = nI 1 ∨ x = nI 2 ∨ x = nI 3 ∨ x = nI 4 ∨ x = nI 5 ∨ (¬ x = nI 0 ∧ ¬ x = nI 1 ∧ ¬ x = nI 2 ∧ ¬ x = nI 3 ∧ ¬ x = nI 4 ∧ ¬ x = nI 5) := by
  by_cases h0 : x = nI 0
  · exact (Or.inl h0)
  by_cases h1 : x = nI 1
  · exact Or.inr ((Or.inl h1))
  by_cases h2 : x = nI 2
  · exact Or.inr (Or.inr ((Or.inl h2)))
  by_cases h3 : x = nI 3
  · exact Or.inr (Or.inr (Or.inr ((Or.inl h3))))
  by_cases h4 : x = nI 4
  · exact Or.inr (Or.inr (Or.inr (Or.inr ((Or.inl h4)))))
  by_cases h5 : x = nI 5
  · exact Or.inr (Or.inr (Or.inr (Or.inr (Or.inr ((Or.inl h5))))))
  exact Or.inr (Or.inr (Or.inr (Or.inr (Or.inr (Or.inr (⟨h0, h1, h2, h3, h4, h5⟩))))))
theorem swOut_0_5 {x : Int32} (h0 : ¬ x = nI 0) (h1 : ¬ x = nI 1) (h2 : ¬ x = nI 2) (h3 : ¬ x = nI 3) (h4 : ¬ x = nI 4) (h5 : ¬ x = nI 5) : x.toInt < 0 ∨ 5 < x.toInt := by
  rcases Int.lt_or_le x.toInt 0 with q | q
  · exact Or.inl q
  rcases Int.lt_or_le 5 x.toInt with r | r
  · exact Or.inr r
  exfalso
  have key : ∀ k : Nat, k < 100 → x.toInt = (k : Int) → x = nI k := fun k hk e => Int32.toInt_inj.mp (by rw [nI_toInt (by omega)]; exact e)
  have hk : x.toInt = ((x.toInt.toNat : Nat) : Int) := by omega
  have hb : x.toInt.toNat ≤ 5 := by omega
  have e := key x.toInt.toNat (by omega) hk
  generalize x.toInt.toNat = z at e hb
  rcases (show z = 0 ∨ z = 1 ∨ z = 2 ∨ z = 3 ∨ z = 4 ∨ z = 5 by omega) with rfl | rfl | rfl | rfl | rfl | rfl
  · exact h0 e
  · exact h1 e
  · exact h2 e
  · exact h3 e
  · exact h4 e
  · exact h5 e
theorem sw_0_12 (x : Int32) : x = nI 0 ∨ x = nI 1 ∨ x = nI 2 ∨ x = nI 3 ∨ x = nI 4 ∨ x = nI 5 ∨ x = nI 6 ∨ x = nI 7 ∨ x = nI 8 ∨ x = nI 9 ∨ x = nI 10 ∨ x = nI 11 ∨ x = nI 12 ∨ (¬ x = nI 0 ∧ ¬ x = nI 1 ∧ ¬ x = nI 2 ∧ ¬ x = nI 3 ∧ ¬ x = nI 4 ∧ ¬ x = nI 5 ∧ ¬ x = nI 6 ∧ ¬ x = nI 7 ∧ ¬ x = nI 8 ∧ ¬ x = nI 9 ∧ ¬ x = nI 10 ∧ ¬ x = nI 11 ∧ ¬ x = nI 12) := by
  by_cases h0 : x = nI 0
  · exact (Or.inl h0)
  by_cases h1 : x = nI 1
  · exact Or.inr ((Or.inl h1))
  by_cases h2 : x = nI 2
  · exact Or.inr (Or.inr ((Or.inl h2)))
  by_cases h3 : x = nI 3
  · exact Or.inr (Or.inr (Or.inr ((Or.inl h3))))
  by_cases h4 : x = nI 4
  · exact Or.inr (Or.inr (Or.inr (Or.inr ((Or.inl h4)))))
  by_cases h5 : x = nI 5
  · exact Or.inr (Or.inr (Or.inr (Or.inr (Or.inr ((Or.inl h5))))))
  by_cases h6 : x = nI 6
  · exact Or.inr (Or.inr (Or.inr (Or.inr (Or.inr (Or.inr ((Or.inl h6)))))))
  by_cases h7 : x = nI 7
  · exact Or.inr (Or.inr (Or.inr (Or.inr (Or.inr (Or.inr (Or.inr ((Or.inl h7))))))))
  by_cases h8 : x = nI 8
  · exact Or.inr (Or.inr (Or.inr (Or.inr (Or.inr (Or.inr (Or.inr (Or.inr ((Or.inl h8)))))))))
  by_cases h9 : x = nI 9
  · exact Or.inr (Or.inr (Or.inr (Or.inr (Or.inr (Or.inr (Or.inr (Or.inr (Or.inr ((Or.inl h9))))))))))
  by_cases h10 : x = nI 10
  · exact Or.inr (Or.inr (Or.inr (Or.inr (Or.inr (Or.inr (Or.inr (Or.inr (Or.inr (Or.inr ((Or.inl h10)))))))))))
  by_cases h11 : x = nI 11
  · exact Or.inr (Or.inr (Or.inr (Or.inr (Or.inr (Or.inr (Or.inr (Or.inr (Or.inr (Or.inr (Or.inr ((Or.inl h11))))))))))))
  by_cases h12 : x = nI 12
  · exact Or.inr (Or.inr (Or.inr (Or.inr (Or.inr (Or.inr (Or.inr (Or.inr (Or.inr (Or.inr (Or.inr (Or.inr ((Or.inl h12)))))))))))))
  exact Or.inr (Or.inr (Or.inr (Or.inr (Or.inr (Or.inr (Or.inr (Or.inr (Or.inr (Or.inr (Or.inr (Or.inr (Or.inr (⟨h0, h1, h2, h3, h4, h5, h6, h7, h8, h9, h10, h11, h12⟩)))))))))))))
theorem swOut_0_12 {x : Int32} (h0 : ¬ x = nI 0) (h1 : ¬ x = nI 1) (h2 : ¬ x = nI 2) (h3 : ¬ x = nI 3) (h4 : ¬ x = nI 4) (h5 : ¬ x = nI 5) (h6 : ¬ x = nI 6) (h7 : ¬ x = nI 7) (h8 : ¬ x = nI 8) (h9 : ¬ x = nI 9) (h10 : ¬ x = nI 10) (h11 : ¬ x = nI 11) (h12 : ¬ x = nI 12) : x.toInt < 0 ∨ 12 < x.toInt := by
  rcases Int.lt_or_le x.toInt 0 with q | q
  · exact Or.inl q
  rcases Int.lt_or_le 12 x.toInt with r | r
  · exact Or.inr r
  exfalso
  have key : ∀ k : Nat, k < 100 → x.toInt = (k : Int) → x = nI k := fun k hk e => Int32.toInt_inj.mp (by rw [nI_toInt (by omega)]; exact e)
  have hk : x.toInt = ((x.toInt.toNat : Nat) : Int) := by omega
  have hb : x.toInt.toNat ≤ 12 := by omega
  have e := key x.toInt.toNat (by omega) hk
  generalize x.toInt.toNat = z at e hb
  rcases (show z = 0 ∨ z = 1 ∨ z = 2 ∨ z = 3 ∨ z = 4 ∨ z = 5 ∨ z = 6 ∨ z = 7 ∨ z = 8 ∨ z = 9 ∨ z = 10 ∨ z = 11 ∨ z = 12 by omega) with rfl | rfl | rfl | rfl | rfl | rfl | rfl | rfl | rfl | rfl | rfl | rfl | rfl
  · exact h0 e
  · exact h1 e
  · exact h2 e
  · exact h3 e
  · exact h4 e
  · exact h5 e
  · exact h6 e
  · exact h7 e
  · exact h8 e
  · exact h9 e
  · exact h10 e
  · exact h11 e
  · exact h12 e
theorem sw_0_7 (x : Int32) : x = nI 0 ∨ x = nI 1 ∨ x = nI 2 ∨ x = nI 3 ∨ x = nI 4 ∨ x = nI 5 ∨ x = nI 6 ∨ x = nI 7 ∨ (¬ x = nI 0 ∧ ¬ x = nI 1 ∧ ¬ x = nI 2 ∧ ¬ x = nI 3 ∧ ¬ x = nI 4 ∧ ¬ x = nI 5 ∧ ¬ x = nI 6 ∧ ¬ x = nI 7) := by
  by_cases h0 : x = nI 0
  · exact (Or.inl h0)
  by_cases h1 : x = nI 1
  · exact Or.inr ((Or.inl h1))
  by_cases h2 : x = nI 2
  · exact Or.inr (Or.inr ((Or.inl h2)))
  by_cases h3 : x = nI 3
  · exact Or.inr (Or.inr (Or.inr ((Or.inl h3))))
  by_cases h4 : x = nI 4
  · exact Or.inr (Or.inr (Or.inr (Or.inr ((Or.inl h4)))))
  by_cases h5 : x = nI 5
  · exact Or.inr (Or.inr (Or.inr (Or.inr (Or.inr ((Or.inl h5))))))
  by_cases h6 : x = nI 6
  · exact Or.inr (Or.inr (Or.inr (Or.inr (Or.inr (Or.inr ((Or.inl h6)))))))
  by_cases h7 : x = nI 7
  · exact Or.inr (Or.inr (Or.inr (Or.inr (Or.inr (Or.inr (Or.inr ((Or.inl h7))))))))
  exact Or.inr (Or.inr (Or.inr (Or.inr (Or.inr (Or.inr (Or.inr (Or.inr (⟨h0, h1, h2, h3, h4, h5, h6, h7⟩))))))))
theorem swOut_0_7 {x : Int32} (h0 : ¬ x = nI 0) (h1 : ¬ x = nI 1) (h2 : ¬ x = nI 2) (h3 : ¬ x = nI 3) (h4 : ¬ x = nI 4) (h5 : ¬ x = nI 5) (h6 : ¬ x = nI 6) (h7 : ¬ x = nI 7) : x.toInt < 0 ∨ 7 < x.toInt := by
  rcases Int.lt_or_le x.toInt 0 with q | q
  · exact Or.inl q
  rcases Int.lt_or_le 7 x.toInt with r | r
  · exact Or.inr r
  exfalso
  have key : ∀ k : Nat, k < 100 → x.toInt = (k : Int) → x = nI k := fun k hk e => Int32.toInt_inj.mp (by rw [nI_toInt (by omega)]; exact e)
  have hk : x.toInt = ((x.toInt.toNat : Nat) : Int) := by omega
  have hb : x.toInt.toNat ≤ 7 := by omega
  have e := key x.toInt.toNat (by omega) hk
  generalize x.toInt.toNat = z at e hb
  rcases (show z = 0 ∨ z = 1 ∨ z = 2 ∨ z = 3 ∨ z = 4 ∨ z = 5 ∨ z = 6 ∨ z = 7 by omega) with rfl | rfl | rfl | rfl | rfl | rfl | rfl | rfl
  · exact h0 e
  · exact h1 e
  · exact h2 e
  · exact h3 e
  · exact h4 e
  · exact h5 e
  · exact h6 e
  · exact h7 e
theorem sw_0_6 (x : Int32) : x = nI 0 ∨ x = nI 1 ∨ x = nI 2 ∨ x = nI 3 ∨ x = nI 4 ∨ x = nI 5 ∨ x = nI 6 ∨ (¬ x = nI 0 ∧ ¬ x = nI 1 ∧ ¬ x = nI 2 ∧ ¬ x = nI 3 ∧ ¬ x = nI 4 ∧ ¬ x = nI 5 ∧ ¬ x = nI 6) := by
  by_cases h0 : x = nI 0
  · exact (Or.inl h0)
  by_cases h1 : x = nI 1
  · exact Or.inr ((Or.inl h1))
  by_cases h2 : x = nI 2
  · exact Or.inr (Or.inr ((Or.inl h2)))
  by_cases h3 : x = nI 3
  · exact Or.inr (Or.inr (Or.inr ((Or.inl h3))))
  by_cases h4 : x = nI 4
  · exact Or.inr (Or.inr (Or.inr (Or.inr ((Or.inl h4)))))
  by_cases h5 : x = nI 5
  · exact Or.inr (Or.inr (Or.inr (Or.inr (Or.inr ((Or.inl h5))))))
  by_cases h6 : x = nI 6
  · exact Or.inr (Or.inr (Or.inr (Or.inr (Or.inr (Or.inr ((Or.inl h6)))))))
  exact Or.inr (Or.inr (Or.inr (Or.inr (Or.inr (Or.inr (Or.inr (⟨h0, h1, h2, h3, h4, h5, h6⟩)))))))
theorem swOut_0_6 {x : Int32} (h0 : ¬ x = nI 0) (h1 : ¬ x = nI 1) (h2 : ¬ x = nI 2) (h3 : ¬ x = nI 3) (h4 : ¬ x = nI 4) (h5 : ¬ x = nI 5) (h6 : ¬ x = nI 6) : x.toInt < 0 ∨ 6 < x.toInt := by
  rcases Int.lt_or_le x.toInt 0 with q | q
  · exact Or.inl q
  rcases Int.lt_or_le 6 x.toInt with r | r
  · exact Or.inr r
  exfalso
  have key : ∀ k : Nat, k < 100 → x.toInt = (k : Int) → x = nI k := fun k hk e => Int32.toInt_inj.mp (by rw [nI_toInt (by omega)]; exact e)
  have hk : x.toInt = ((x.toInt.toNat : Nat) : Int) := by omega
  have hb : x.toInt.toNat ≤ 6 := by omega
  have e := key x.toInt.toNat (by omega) hk
  generalize x.toInt.toNat = z at e hb
  rcases (show z = 0 ∨ z = 1 ∨ z = 2 ∨ z = 3 ∨ z = 4 ∨ z = 5 ∨ z = 6 by omega) with rfl | rfl | rfl | rfl | rfl | rfl | rfl
  · exact h0 e
  · exact h1 e
  · exact h2 e
  · exact h3 e
  · exact h4 e
  · exact h5 e
  · exact h6 e
theorem sw_0_23 (x : Int32) : x = nI 0 ∨ x = nI 1 ∨ x = nI 2 ∨ x = nI 3 ∨ x = nI 4 ∨ x = nI 5 ∨ x = nI 6 ∨ x = nI 7 ∨ x = nI 8 ∨ x = nI 9 ∨ x = nI 10 ∨ x = nI 11 ∨ x = nI 12 ∨ x = nI 13 ∨ x = nI 14 ∨ x = nI 15 ∨ x = nI 16 ∨ x = nI 17 ∨ x = nI 18 ∨ x = nI 19 ∨ x = nI 20 ∨ x = nI 21 ∨ x = nI 22 ∨ x = nI 23 ∨ (¬ x = nI 0 ∧ ¬ x = nI 1 ∧ ¬ x = nI 2 ∧ ¬ x = nI 3 ∧ ¬ x = nI 4 ∧ ¬ x = nI 5 ∧ ¬ x = nI 6 ∧ ¬ x = nI 7 ∧ ¬ x = nI 8 ∧ ¬ x = nI 9 ∧ ¬ x = nI 10 ∧ ¬ x = nI 11 ∧ ¬ x = nI 12 ∧ ¬ x = nI 13 ∧ ¬ x = nI 14 ∧ ¬ x = nI 15 ∧ ¬ x = nI 16 ∧ ¬ x = nI 17 ∧ ¬ x = nI 18 ∧ ¬ x = nI 19 ∧ ¬ x = nI 20 ∧ ¬ x = nI 21 ∧ ¬ x = nI 22 ∧ ¬ x = nI 23) := by
  by_cases h0 : x = nI 0
  · exact (Or.inl h0)
  by_cases h1 : x = nI 1
  · exact Or.inr ((Or.inl h1))
  by_cases h2 : x = nI 2
  · exact Or.inr (Or.inr ((Or.inl h2)))
  by_cases h3 : x = nI 3
  · exact Or.inr (Or.inr (Or.inr ((Or.inl h3))))
  by_cases h4 : x = nI 4
  · exact Or.inr (Or.inr (Or.inr (Or.inr ((Or.inl h4)))))
  by_cases h5 : x = nI 5
  · exact Or.inr (Or.inr (Or.inr (Or.inr (Or.inr ((Or.inl h5))))))
  by_cases h6 : x = nI 6
  · exact Or.inr (Or.inr (Or.inr (Or.inr (Or.inr (Or.inr ((Or.inl h6)))))))
  by_cases h7 : x = nI 7
  · exact Or.inr (Or.inr (Or.inr (Or.inr (Or.inr (Or.inr (Or.inr ((Or.inl h7))))))))
  by_cases h8 : x = nI 8
  · exact Or.inr (Or.inr (Or.inr (Or.inr (Or.inr (Or.inr (Or.inr (Or.inr ((Or.inl h8)))))))))
  by_cases h9 : x = nI 9
  · exact Or.inr (Or.inr (Or.inr (Or.inr (Or.inr (Or.inr (Or.inr (Or.inr (Or.inr ((Or.inl h9))))))))))
  by_cases h10 : x = nI 10
  · exact Or.inr (Or.inr (Or.inr (Or.inr (Or.inr (Or.inr (Or.inr (Or.inr (Or.inr (Or.inr ((Or.inl h10)))))))))))
  by_cases h11 : x = nI 11
  · exact Or.inr (Or.inr (Or.inr (Or.inr (Or.inr (Or.inr (Or.inr (Or.inr (Or.inr (Or.inr (Or.inr ((Or.inl h11))))))))))))
  by_cases h12 : x = nI 12
  · exact Or.inr (Or.inr (Or.inr (Or.inr (Or.inr (Or.inr (Or.inr (Or.inr (Or.inr (Or.inr (Or.inr (Or.inr ((Or.inl h12)))))))))))))
  by_cases h13 : x = nI 13
  · exact Or.inr (Or.inr (Or.inr (Or.inr (Or.inr (Or.inr (Or.inr (Or.inr (Or.inr (Or.inr (Or.inr (Or.inr (Or.inr ((Or.inl h13))))))))))))))
  by_cases h14 : x = nI 14
  · exact Or.inr (Or.inr (Or.inr (Or.inr (Or.inr (Or.inr (Or.inr (Or.inr (Or.inr (Or.inr (Or.inr (Or.inr (Or.inr (Or.inr ((Or.inl h14)))))))))))))))
  by_cases h15 : x = nI 15
  · exact Or.inr (Or.inr (Or.inr (Or.inr (Or.inr (Or.inr (Or.inr (Or.inr (Or.inr (Or.inr (Or.inr (Or.inr (Or.inr (Or.inr (Or.inr ((Or.inl h15))))))))))))))))
  by_cases h16 : x = nI 16
  · exact Or.inr (Or.inr (Or.inr (Or.inr (Or.inr (Or.inr (Or.inr (Or.inr (Or.inr (Or.inr (Or.inr (Or.inr (Or.inr (Or.inr (Or.inr (Or.inr ((Or.inl h16)))))))))))))))))
  by_cases h17 : x = nI 17
  · exact Or.inr (Or.inr (Or.inr (Or.inr (Or.inr (Or.inr (Or.inr (Or.inr (Or.inr (Or.inr (Or.inr (Or.inr (Or.inr (Or.inr (Or.inr (Or.inr (Or.inr ((Or.inl h17))))))))))))))))))
  by_cases h18 : x = nI 18
  · exact Or.inr (Or.inr (Or.inr (Or.inr (Or.inr (Or.inr (Or.inr (Or.inr (Or.inr (Or.inr (Or.inr (Or.inr (Or.inr (Or.inr (Or.inr (Or.inr (Or.inr (Or.inr ((Or.inl h18)))))))))))))))))))
  by_cases h19 : x = nI 19
  · exact Or.inr (Or.inr (Or.inr (Or.inr (Or.inr (Or.inr (Or.inr (Or.inr (Or.inr (Or.inr (Or.inr (Or.inr (Or.inr (Or.inr (Or.inr (Or.inr (Or.inr (Or.inr (Or.inr ((Or.inl h19))))))))))))))))))))
  by_cases h20 : x = nI 20
  · exact Or.inr (Or.inr (Or.inr (Or.inr (Or.inr (Or.inr (Or.inr (Or.inr (Or.inr (Or.inr (Or.inr (Or.inr (Or.inr (Or.inr (Or.inr (Or.inr (Or.inr (Or.inr (Or.inr (Or.inr ((Or.inl h20)))))))))))))))))))))
  by_cases h21 : x = nI 21
  · exact Or.inr (Or.inr (Or.inr (Or.inr (Or.inr (Or.inr (Or.inr (Or.inr (Or.inr (Or.inr (Or.inr (Or.inr (Or.inr (Or.inr (Or.inr (Or.inr (Or.inr (Or.inr (Or.inr (Or.inr (Or.inr ((Or.inl h21))))))))))))))))))))))
  by_cases h22 : x = nI 22
  · exact Or.inr (Or.inr (Or.inr (Or.inr (Or.inr (Or.inr (Or.inr (Or.inr (Or.inr (Or.inr (Or.inr (Or.inr (Or.inr (Or.inr (Or.inr (Or.inr (Or.inr (Or.inr (Or.inr (Or.inr (Or.inr (Or.inr ((Or.inl h22)))))))))))))))))))))))
  by_cases h23 : x = nI 23
  · exact Or.inr (Or.inr (Or.inr (Or.inr (Or.inr (Or.inr (Or.inr (Or.inr (Or.inr (Or.inr (Or.inr (Or.inr (Or.inr (Or.inr (Or.inr (Or.inr (Or.inr (Or.inr (Or.inr (Or.inr (Or.inr (Or.inr (Or.inr ((Or.inl h23))))))))))))))))))))))))
  exact Or.inr (Or.inr (Or.inr (Or.inr (Or.inr (Or.inr (Or.inr (Or.inr (Or.inr (Or.inr (Or.inr (Or.inr (Or.inr (Or.inr (Or.inr (Or.inr (Or.inr (Or.inr (Or.inr (Or.inr (Or.inr (Or.inr (Or.inr (Or.inr (⟨h0, h1, h2, h3, h4, h5, h6, h7, h8, h9, h10, h11, h12, h13, h14, h15, h16, h17, h18, h19, h20, h21, h22, h23⟩))))))))))))))))))))))))
theorem swOut_0_23 {x : Int32} (h0 : ¬ x = nI 0) (h1 : ¬ x = nI 1) (h2 : ¬ x = nI 2) (h3 : ¬ x = nI 3) (h4 : ¬ x = nI 4) (h5 : ¬ x = nI 5) (h6 : ¬ x = nI 6) (h7 : ¬ x = nI 7) (h8 : ¬ x = nI 8) (h9 : ¬ x = nI 9) (h10 : ¬ x = nI 10) (h11 : ¬ x = nI 11) (h12 : ¬ x = nI 12) (h13 : ¬ x = nI 13) (h14 : ¬ x = nI 14) (h15 : ¬ x = nI 15) (h16 : ¬ x = nI 16) (h17 : ¬ x = nI 17) (h18 : ¬ x = nI 18) (h19 : ¬ x = nI 19) (h20 : ¬ x = nI 20) (h21 : ¬ x = nI 21) (h22 : ¬ x = nI 22) (h23 : ¬ x = nI 23) : x.toInt < 0 ∨ 23 < x.toInt := by
  rcases Int.lt_or_le x.toInt 0 with q | q
  · exact Or.inl q
  rcases Int.lt_or_le 23 x.toInt with r | r
  · exact Or.inr r
  exfalso
  have key : ∀ k : Nat, k < 100 → x.toInt = (k : Int) → x = nI k := fun k hk e => Int32.toInt_inj.mp (by rw [nI_toInt (by omega)]; exact e)
  have hk : x.toInt = ((x.toInt.toNat : Nat) : Int) := by omega
  have hb : x.toInt.toNat ≤ 23 := by omega
  have e := key x.toInt.toNat (by omega) hk
  generalize x.toInt.toNat = z at e hb
  rcases (show z = 0 ∨ z = 1 ∨ z = 2 ∨ z = 3 ∨ z = 4 ∨ z = 5 ∨ z = 6 ∨ z = 7 ∨ z = 8 ∨ z = 9 ∨ z = 10 ∨ z = 11 ∨ z = 12 ∨ z = 13 ∨ z = 14 ∨ z = 15 ∨ z = 16 ∨ z = 17 ∨ z = 18 ∨ z = 19 ∨ z = 20 ∨ z = 21 ∨ z = 22 ∨ z = 23 by omega) with rfl | rfl | rfl | rfl | rfl | rfl | rfl | rfl | rfl | rfl | rfl | rfl | rfl | rfl | rfl | rfl | rfl | rfl | rfl | rfl | rfl | rfl | rfl | rfl
  · exact h0 e
  · exact h1 e
  · exact h2 e
  · exact h3 e
  · exact h4 e
  · exact h5 e
  · exact h6 e
  · exact h7 e
  · exact h8 e
  · exact h9 e
  · exact h10 e
  · exact h11 e
  · exact h12 e
  · exact h13 e
  · exact h14 e
  · exact h15 e
  · exact h16 e
  · exact h17 e
  · exact h18 e
  · exact h19 e
  · exact h20 e
  · exact h21 e
  · exact h22 e
  · exact h23 e
