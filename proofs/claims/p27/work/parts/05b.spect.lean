/-! TEXTS: what is read off them -/
def unW (was : Nat → Int32) (k : Nat) : Nat → Int32 := fun i => was (1445 * k + i)
def undD (d was : Nat → Int32) (k : Nat) : Nat → Int32 := cpN d (unW was k) 0 1445
def chI (v : Int32) : Int32 := vp_nar .char ((v.toUInt32 % 65536).toInt32)
def pasB (tx : Nat → Int32) (len a : Nat) (c : Int32) : Bool := decide (a < len) && decide (tx a = c)
def atP (tx : Nat → Int32) (len a : Nat) (c : Int32) : Nat := if pasB tx len a c = true then a + 1 else a
def digP (tx : Nat → Int32) (len a i : Nat) : Bool := decide (a + i < len) && inB (tx (a + i)) (nI 48) (nI 57)
def numV (tx : Nat → Int32) (a : Nat) : Nat → Int32
  | 0 => nI 0
  | j + 1 => nI 10 * numV tx a j + tx (a + j) - nI 48
def numJ (tx : Nat → Int32) (len a k : Nat) : Nat := ((List.range k).find? (fun i => !digP tx len a i)).getD k
def numR (tx : Nat → Int32) (len a k : Nat) : Int32 := if numJ tx len a k = 0 then (-1) else numV tx a (numJ tx len a k)
theorem num_end {tx : Nat → Int32} {len a k j : Nat} (hj : j ≤ k) (hall : ∀ i, i < j → (!digP tx len a i) = false) (hx : j = k ∨ digP tx len a j = false) : numJ tx len a k = j := by
  unfold numJ
  rcases Nat.lt_or_ge j k with q | q
  · rcases hx with h | h
    · omega
    · rw [fst_s (f := fun i => !digP tx len a i) (i := j) (by simp [h]) hall q]; rfl
  · have e : j = k := by omega
    subst e
    rw [fst_n hall]; rfl
theorem numJ_le (tx : Nat → Int32) (len a k : Nat) : numJ tx len a k ≤ k := by
  unfold numJ
  cases h : (List.range k).find? (fun i => !digP tx len a i) with
  | none => exact Nat.le_refl _
  | some j => exact Nat.le_of_lt (find_lt h)
theorem numJ_dig {tx : Nat → Int32} {len a k i : Nat} (hi : i < numJ tx len a k) : digP tx len a i = true := by
  unfold numJ at hi
  cases h : (List.range k).find? (fun i => !digP tx len a i) with
  | none =>
    rw [h] at hi
    have := List.find?_eq_none.mp h i (List.mem_range.mpr hi)
    simpa using this
  | some j =>
    rw [h] at hi
    have hi : i < j := hi
    have hjk := find_lt h
    have := List.find?_eq_some_iff_append.mp h
    obtain ⟨-, as, bs, e, hn⟩ := this
    have hl : as.length = j := by
      have h1 : (List.range k)[as.length]? = some j := by rw [e]; simp
      rw [List.getElem?_range] at h1
      · exact Option.some.inj h1
      · rcases Nat.lt_or_ge as.length k with q | q
        · exact q
        · rw [List.getElem?_eq_none (by simpa using q)] at h1; cases h1
    have hm : i ∈ as := by
      have h1 : (List.range k)[i]? = some i := by rw [List.getElem?_range (by omega)]
      rw [e, List.getElem?_append_left (by omega)] at h1
      exact List.mem_of_getElem? h1
    have := hn i hm
    simpa using this
theorem num_end_le {tx : Nat → Int32} {len a k : Nat} (ha : a ≤ len) : a + numJ tx len a k ≤ len := by
  rcases Nat.eq_zero_or_pos (numJ tx len a k) with h | h
  · omega
  · have := numJ_dig (tx := tx) (len := len) (a := a) (k := k) (i := numJ tx len a k - 1) (by omega)
    unfold digP at this
    simp only [Bool.and_eq_true, decide_eq_true_eq] at this
    omega
theorem atP_le {tx : Nat → Int32} {len a : Nat} {c : Int32} (ha : a ≤ len) : atP tx len a c ≤ len := by
  unfold atP
  split
  · rename_i h
    unfold pasB at h
    simp only [Bool.and_eq_true, decide_eq_true_eq] at h
    omega
  · exact ha
theorem pas_lt {tx : Nat → Int32} {len a : Nat} {c : Int32} (h : pasB tx len a c = true) : a < len := by
  unfold pasB at h
  simp only [Bool.and_eq_true, decide_eq_true_eq] at h
  exact h.1
/-! an application's form: where its parts end, what they are -/
def A1 (tx : Nat → Int32) (len a : Nat) : Nat := a + numJ tx len a 1
def A2 (tx : Nat → Int32) (len a : Nat) : Nat := A1 tx len a + 1 + numJ tx len (A1 tx len a + 1) 2
def A3 (tx : Nat → Int32) (len a : Nat) : Nat := A2 tx len a + 1 + numJ tx len (A2 tx len a + 1) 1
def A4 (tx : Nat → Int32) (len a : Nat) : Nat := A3 tx len a + 1 + numJ tx len (A3 tx len a + 1) 1
def A5 (tx : Nat → Int32) (len a : Nat) : Nat := A4 tx len a + 1 + numJ tx len (A4 tx len a + 1) 3
def V0 (tx : Nat → Int32) (len a : Nat) : Int32 := numR tx len a 1
def V1 (tx : Nat → Int32) (len a : Nat) : Int32 := numR tx len (A1 tx len a + 1) 2
def V2 (tx : Nat → Int32) (len a : Nat) : Int32 := numR tx len (A2 tx len a + 1) 1
def V3 (tx : Nat → Int32) (len a : Nat) : Int32 := numR tx len (A3 tx len a + 1) 1
def V4 (tx : Nat → Int32) (len a : Nat) : Int32 := numR tx len (A4 tx len a + 1) 3
def VH (tx : Nat → Int32) (len a : Nat) : Int32 := nI 10 * V2 tx len a + V3 tx len a
def F0B (tx : Nat → Int32) (len a : Nat) : Bool := !decide (V0 tx len a < 0) && pasB tx len (A1 tx len a) (nI 110)
def F1B (tx : Nat → Int32) (len a : Nat) : Bool := !decide (V1 tx len a < 0) && pasB tx len (A2 tx len a) (nI 104)
def F2B (tx : Nat → Int32) (len a : Nat) : Bool := !decide (V2 tx len a < 0) && pasB tx len (A3 tx len a) (nI 45)
def F3B (tx : Nat → Int32) (len a : Nat) : Bool := !decide (V3 tx len a < 0) && pasB tx len (A4 tx len a) (nI 115)
def F4B (tx : Nat → Int32) (len a : Nat) : Bool := !decide (V4 tx len a < 0) && pasB tx len (A5 tx len a) (nI 59)
def fmB (tx : Nat → Int32) (len a : Nat) : Bool := F0B tx len a && (F1B tx len a && (F2B tx len a && (F3B tx len a && F4B tx len a)))
def nxA (tx : Nat → Int32) (len a : Nat) : Nat := A5 tx len a + 1
/-- why an application of the text is not granted -/
def eOne (d tx : Nat → Int32) (len a : Nat) : Int32 := if fmB tx len a = true then (if aplB d (V0 tx len a) (V1 tx len a) (VH tx len a) (V4 tx len a) = true then (if rfsI d (cl (V0 tx len a)) (cl (V1 tx len a)) (VH tx len a) (V4 tx len a) = nI 0 then nI 5 else rfsI d (cl (V0 tx len a)) (cl (V1 tx len a)) (VH tx len a) (V4 tx len a)) else nI 12) else nI 11
def oneB (d tx : Nat → Int32) (len a : Nat) : Bool := fmB tx len a && (aplB d (V0 tx len a) (V1 tx len a) (VH tx len a) (V4 tx len a) && (decide (rfsI d (cl (V0 tx len a)) (cl (V1 tx len a)) (VH tx len a) (V4 tx len a) = nI 0) && !fulB d))
def oneD (d tx : Nat → Int32) (len a : Nat) : Nat → Int32 := graD d (cl (V0 tx len a)) (cl (V1 tx len a)) (VH tx len a) (V4 tx len a)
theorem nx_gt (tx : Nat → Int32) (len a : Nat) : a + 5 ≤ nxA tx len a := by
  unfold nxA A5 A4 A3 A2 A1
  omega
theorem fm_lt {tx : Nat → Int32} {len a : Nat} (h : fmB tx len a = true) : nxA tx len a ≤ len := by
  unfold fmB F4B at h
  simp only [Bool.and_eq_true] at h
  have := pas_lt h.2.2.2.2.2
  unfold nxA
  omega
theorem recN_le {k : Nat} (h : k ≤ 4) : recN k ≤ 4 := by unfold recN; split <;> omega
