/-! THE PROPERTY: the eight swings of one direction -/
def ownT (d : Nat → Int32) (c i : Nat) : Bool := decide (nI (i % 16) - gr d c 0 = 0) && decide (nI (i / 16) - gr d c 1 = 0)
def nerT (d : Nat → Int32) (c i : Nat) : Bool := !decide (gr d c 2 * gr d c 2 < (nI (i % 16) - gr d c 0) * (nI (i % 16) - gr d c 0) + (nI (i / 16) - gr d c 1) * (nI (i / 16) - gr d c 1))
def btT (sw e : Int32) : Bool := decide ((sw >>> (e &&& 31)) &&& nI 1 = nI 1)
theorem covC_t (d : Nat → Int32) (c : Nat) (sw : Int32) (i : Nat) : covC d c sw i = (ownT d c i || (nerT d c i && btT sw (dirI (nI (i % 16) - gr d c 0) (nI (i / 16) - gr d c 1)))) := rfl
theorem dir_n (dx dy : Int32) : ∃ e, e < 8 ∧ dirI dx dy = nI e := ⟨cl (dirC dx dy), (dirC_n dx dy).2, by rw [← dirC_I]; exact (dirC_n dx dy).1⟩
def shI (t : Nat) : Int32 := nI 1 <<< (nI t &&& 31)
def owF (d : Nat → Int32) (c i : Nat) : Int32 := if ownT d c i = true then nI 1 else nI 0
def nbF (d : Nat → Int32) (c : Nat) (sw : Int32) (i : Nat) : Int32 := if ((!ownT d c i && nerT d c i) && btT sw (dirI (nI (i % 16) - gr d c 0) (nI (i / 16) - gr d c 1))) = true then nI 1 else nI 0
theorem bb3 : ∀ a b c : Bool, (if (a || (b && c)) = true then nI 1 else nI 0) = (if a = true then nI 1 else nI 0) + (if ((!a && b) && c) = true then nI 1 else nI 0) := by decide
theorem are_t (d : Nat → Int32) (c : Nat) (sw : Int32) (i : Nat) : areF d c sw i = owF d c i + nbF d c sw i := by
  unfold areF owF nbF
  rw [covC_t]
  exact bb3 _ _ _
def nbN (d : Nat → Int32) (c : Nat) (sw : Int32) : Int32 := sumN (nbF d c sw) 256
theorem are_n (d : Nat → Int32) (c : Nat) (sw : Int32) : sumN (areF d c sw) 256 = sumN (owF d c) 256 + nbN d c sw := by
  unfold nbN
  rw [← sumN_add]
  exact sumN_cong (fun i _ => are_t d c sw i)
theorem sub_z {a b : Nat} (ha : a < 2147483648) (hb : b < 2147483648) : nI a - nI b = 0 ↔ a = b := by
  rw [Int32.sub_eq_iff_eq_add, Int32.zero_add]
  exact nI_eq ha hb
theorem own_1 {d : Nat → Int32} {c x z : Nat} (hx : x < 16) (hz : z < 16) (e0 : gr d c 0 = nI x) (e1 : gr d c 1 = nI z) : sumN (owF d c) 256 = nI 1 := by
  have e : sumN (owF d c) 256 = sumN (fun i => if 16 * z + x = i then nI 1 else nI 0) 256 := sumN_cong (fun i hi => by
    unfold owF ownT
    rw [e0, e1]
    by_cases q : 16 * z + x = i
    · rw [if_pos q, decide_eq_true ((sub_z (by omega) (by omega)).mpr (show i % 16 = x by omega)), decide_eq_true ((sub_z (by omega) (by omega)).mpr (show i / 16 = z by omega))]
      rfl
    · rw [if_neg q, if_neg]
      intro w
      rw [Bool.and_eq_true] at w
      have w1 := (sub_z (by omega) (by omega)).mp (of_decide_eq_true w.1)
      have w2 := (sub_z (by omega) (by omega)).mp (of_decide_eq_true w.2)
      omega)
  rw [e, sumN_one, if_pos (by omega)]
theorem bt_8 {e : Nat} (he : e < 8) : ∀ P : Bool, sumN (fun t => if (P && btT (shI t) (nI e)) = true then nI 1 else nI 0) 8 = if (P && btT (nI 255) (nI e)) = true then nI 1 else nI 0 := by
  rcases (show e = 0 ∨ e = 1 ∨ e = 2 ∨ e = 3 ∨ e = 4 ∨ e = 5 ∨ e = 6 ∨ e = 7 by omega) with rfl | rfl | rfl | rfl | rfl | rfl | rfl | rfl <;> decide +kernel
theorem bt_2 {e : Nat} (he : e < 8) : ∀ P : Bool, (if (P && btT (nI 15) (nI e)) = true then nI 1 else nI 0) + (if (P && btT (nI 240) (nI e)) = true then nI 1 else nI 0) = if (P && btT (nI 255) (nI e)) = true then nI 1 else nI 0 := by
  rcases (show e = 0 ∨ e = 1 ∨ e = 2 ∨ e = 3 ∨ e = 4 ∨ e = 5 ∨ e = 6 ∨ e = 7 by omega) with rfl | rfl | rfl | rfl | rfl | rfl | rfl | rfl <;> decide +kernel
theorem nb_8 (d : Nat → Int32) (c : Nat) : sumN (fun t => nbN d c (shI t)) 8 = nbN d c (nI 255) := by
  unfold nbN
  rw [sum_swap (fun t => nbF d c (shI t)) 256 8]
  refine sumN_cong (fun i _ => ?_)
  unfold nbF
  obtain ⟨e, he, ed⟩ := dir_n (nI (i % 16) - gr d c 0) (nI (i / 16) - gr d c 1)
  rw [ed]
  exact bt_8 he _
theorem nb_2 (d : Nat → Int32) (c : Nat) : nbN d c (nI 15) + nbN d c (nI 240) = nbN d c (nI 255) := by
  unfold nbN
  rw [← sumN_add]
  refine sumN_cong (fun i _ => ?_)
  unfold nbF
  obtain ⟨e, he, ed⟩ := dir_n (nI (i % 16) - gr d c 0) (nI (i / 16) - gr d c 1)
  rw [ed]
  exact bt_2 he _
theorem sh_in {t : Nat} (h : t < 8) : inB (shI t) (nI 1) (nI 255) = true := by
  rcases (show t = 0 ∨ t = 1 ∨ t = 2 ∨ t = 3 ∨ t = 4 ∨ t = 5 ∨ t = 6 ∨ t = 7 by omega) with rfl | rfl | rfl | rfl | rfl | rfl | rfl | rfl <;> decide +kernel
theorem aA {d : Nat → Int32} (hI : zI d) {c : Nat} (hc : c < nC d) {sw : Int32} (hs : inB sw (nI 1) (nI 255) = true) : aArea d (nI c) sw = sumN (areF d c sw) 256 := by
  have c8 := hI.nc8
  unfold aArea
  rw [if_pos (inB_c hI hc), if_pos hs, cl_nI (by omega)]
def alS (d : Nat → Int32) (c : Nat) : Nat → Int32
  | 0 => nI 1
  | t + 1 => alS d c t + (sumN (areF d c (shI t)) 256 - nI 1)
theorem a_sub (a b : Int32) : a + b - a = b := by rw [Int32.add_comm a b, Int32.add_sub_cancel]
theorem al_e {d : Nat → Int32} {c : Nat} (h : sumN (owF d c) 256 = nI 1) : ∀ t, alS d c t = nI 1 + sumN (fun u => nbN d c (shI u)) t
  | 0 => rfl
  | t + 1 => by rw [alS, al_e h t, are_n, h, a_sub, sumN_s, Int32.add_assoc]
/-- the crane's own cell is one, the rest is told apart by its direction -/
theorem sw_all {d : Nat → Int32} (hI : zI d) (h : plC d) {c : Nat} (hc : c < nC d) (h4 : c < 4) : alS d c 8 = aArea d (nI c) (nI 255) ∧ aArea d (nI c) (nI 15) + aArea d (nI c) (nI 240) - nI 1 = alS d c 8 := by
  obtain ⟨⟨x, hx, e0⟩, e1⟩ := h c hc
  have ho := own_1 hx (show 5 * c < 16 by omega) e0 e1
  rw [aA hI hc (by decide), aA hI hc (by decide), aA hI hc (by decide), al_e ho, are_n, are_n, are_n, ho, nb_8]
  refine ⟨rfl, ?_⟩
  rw [← nb_2, show nI 1 + nbN d c (nI 15) + (nI 1 + nbN d c (nI 240)) = nI 1 + (nI 1 + (nbN d c (nI 15) + nbN d c (nI 240))) by ac_rfl, a_sub]
theorem cv_own {d : Nat → Int32} (hI : zI d) (h : plC d) {c : Nat} (hc : c < nC d) (h4 : c < 4) : aCovers d (nI c) (nI 15) (gr d c 0) (gr d c 1) = nI 1 := by
  obtain ⟨⟨x, hx, e0⟩, e1⟩ := h c hc
  unfold aCovers
  have c8 := hI.nc8
  rw [if_pos (inB_c hI hc), if_pos (by decide), e0, e1, if_pos (inB_n (show x ≤ 15 by omega) (by decide)), if_pos (inB_n (show 5 * c ≤ 15 by omega) (by decide)), cl_nI (by omega)]
  unfold covB
  rw [e0, e1, Int32.sub_self, Int32.sub_self, decide_eq_true rfl]
  rfl
