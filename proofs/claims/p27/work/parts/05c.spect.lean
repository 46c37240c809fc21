/-! TEXTS, 2: the run over the applications of a text -/
theorem nI_cl {x : Int32} {j : Nat} (h : x = nI j) (hj : j < 2147483648) : x = nI (cl x) := by rw [h, cl_nI hj]
def fS (d tx : Nat → Int32) (len : Nat) : Nat → (Nat → Int32) × Nat
  | 0 => (d, 0)
  | i + 1 => (oneD (fS d tx len i).1 tx len (fS d tx len i).2, nxA tx len (fS d tx len i).2)
def fD (d tx : Nat → Int32) (len i : Nat) : Nat → Int32 := (fS d tx len i).1
def fA (d tx : Nat → Int32) (len i : Nat) : Nat := (fS d tx len i).2
def goB (d tx : Nat → Int32) (len i : Nat) : Bool := decide (fA d tx len i < len) && oneB (fD d tx len i) tx len (fA d tx len i)
def fN (d tx : Nat → Int32) (len : Nat) : Nat := ((List.range 81).find? (fun i => !goB d tx len i)).getD 81
theorem fA_ge (d tx : Nat → Int32) (len : Nat) : ∀ i, 5 * i ≤ fA d tx len i
  | 0 => Nat.zero_le _
  | i + 1 => by
    have ih := fA_ge d tx len i
    have h := nx_gt tx len (fA d tx len i)
    show 5 * (i + 1) ≤ nxA tx len (fA d tx len i)
    omega
theorem one_fm {d tx : Nat → Int32} {len a : Nat} (h : oneB d tx len a = true) : fmB tx len a = true := by
  unfold oneB at h
  simp only [Bool.and_eq_true] at h
  exact h.1
theorem fA_le {d tx : Nat → Int32} {len : Nat} : ∀ {i : Nat}, (∀ j, j < i → (!goB d tx len j) = false) → fA d tx len i ≤ len
  | 0, _ => Nat.zero_le _
  | i + 1, h => by
    have h1 := h i (Nat.lt_succ_self i)
    have h2 : goB d tx len i = true := by simpa using h1
    unfold goB at h2
    simp only [Bool.and_eq_true] at h2
    exact fm_lt (one_fm h2.2)
theorem fN_is {d tx : Nat → Int32} {len i : Nat} (hlen : len ≤ 80) (hall : ∀ j, j < i → (!goB d tx len j) = false) (hi : goB d tx len i = false) : fN d tx len = i := by
  have h1 := fA_le hall
  have h2 := fA_ge d tx len i
  unfold fN
  rw [fst_s (f := fun i => !goB d tx len i) (i := i) (by simp [hi]) hall (by omega)]
  rfl
/-- where the fault of the text begins -/
def fPl (d tx : Nat → Int32) (len : Nat) : Int32 := if fA d tx len (fN d tx len) < len then nI (fA d tx len (fN d tx len)) else (-1004)
def fRe (d tx : Nat → Int32) (len : Nat) : Int32 := eOne (fD d tx len (fN d tx len)) tx len (fA d tx len (fN d tx len))
def aFault (d tx : Nat → Int32) (len : Nat) (w : Int32) : Int32 := if inB w (nI 0) (nI 1) = true then (if fPl d tx len = (-1004) then fPl d tx len else if w = 0 then fPl d tx len else fRe d tx len) else (-1001)
theorem one_nat {d : Nat → Int32} (hI : zI d) {tx : Nat → Int32} {len a : Nat} (h : aplB d (V0 tx len a) (V1 tx len a) (VH tx len a) (V4 tx len a) = true) : cl (V0 tx len a) < nC d ∧ V0 tx len a = nI (cl (V0 tx len a)) ∧ cl (V1 tx len a) < 30 ∧ V1 tx len a = nI (cl (V1 tx len a)) := by
  have h8 := hI.nc8
  obtain ⟨⟨j, hj, e1⟩, ⟨k, hk, e2⟩⟩ := apl_nat hI h
  have a1 := nI_cl e1 (by omega)
  have a2 := nI_cl e2 (by omega)
  refine ⟨?_, a1, ?_, a2⟩
  · rw [e1, cl_nI (by omega)]; exact hj
  · rw [e2, cl_nI (by omega)]; exact hk
theorem gra_I {d : Nat → Int32} (hI : zI d) (hg : nG d < 200) {c n : Nat} (hc : c < nC d) (h sw : Int32) : zI (graD d c n h sw) ∧ nG (graD d c n h sw) = nG d + 1 ∧ nC (graD d c n h sw) = nC d := by
  have g2 := hI.ng2
  have c8 := hI.nc8
  have e442 : graD d c n h sw 442 = nI (nG d + 1) := by
    unfold graD
    rw [pk_us, nI_add]
  have eG : nG (graD d c n h sw) = nG d + 1 := by unfold nG; rw [e442, cl_nI (by omega)]; rfl
  have lo : ∀ i, i < 442 → graD d c n h sw i = d i := fun i hi => by
    unfold graD
    rw [pk_un (by omega), pk_un (by omega), pk_un (by omega), pk_un (by omega), pk_un (by omega), pk_un (by omega)]
  have e0 : graD d c n h sw 0 = d 0 := lo 0 (by omega)
  have eC : nC (graD d c n h sw) = nC d := by unfold nC; rw [e0]
  have eold : ∀ p k, p < nG d → k < 5 → pm (graD d c n h sw) p k = pm d p k := fun p k hp hk => by
    unfold graD pm
    rw [pk_un (by omega), pk_un (by omega), pk_un (by omega), pk_un (by omega), pk_un (by omega), pk_un (by omega)]
  have enew : pm (graD d c n h sw) (nG d) 0 = nI c := by
    unfold graD pm
    rw [pk_un (by omega), pk_un (by omega), pk_un (by omega), pk_un (by omega), pk_un (by omega)]
    exact pk_us
  refine ⟨⟨by rw [e0, eC]; exact hI.nc, by rw [eC]; exact c8, by rw [eG]; exact e442, by rw [eG]; omega, fun p hp => ?_, fun q hq => ?_⟩, eG, eC⟩
  · rw [eC]
    rw [eG] at hp
    rcases Nat.lt_or_ge p (nG d) with q | q
    · have h1 : pC (graD d c n h sw) p = pC d p := by unfold pC; rw [eold p 0 q (by omega)]
      rw [h1, eold p 0 q (by omega)]
      exact ⟨hI.pc q, hI.pcn q⟩
    · have e : p = nG d := by omega
      subst e
      have h1 : pC (graD d c n h sw) (nG d) = c := by unfold pC; rw [enew, cl_nI (by omega)]
      rw [h1, enew]
      exact ⟨rfl, hc⟩
  · rw [eC] at hq
    have h1 : gr (graD d c n h sw) q 4 = gr d q 4 := lo _ (by omega)
    have h2 : sC (graD d c n h sw) q = sC d q := by unfold sC; rw [h1]
    rw [h2, h1]
    exact ⟨hI.sc hq, hI.sc4 hq⟩
/-- what oneB says, in its parts -/
theorem one_parts {d tx : Nat → Int32} {len a : Nat} (h : oneB d tx len a = true) : fmB tx len a = true ∧ aplB d (V0 tx len a) (V1 tx len a) (VH tx len a) (V4 tx len a) = true ∧ rfsI d (cl (V0 tx len a)) (cl (V1 tx len a)) (VH tx len a) (V4 tx len a) = nI 0 ∧ fulB d = false := by
  unfold oneB at h
  simp only [Bool.and_eq_true, decide_eq_true_eq, Bool.not_eq_true'] at h
  exact ⟨h.1, h.2.1, h.2.2.1, h.2.2.2⟩
theorem ful_ng {d : Nat → Int32} (hI : zI d) (h : fulB d = false) : nG d < 200 := by
  have g2 := hI.ng2
  unfold fulB at h
  simp only [Bool.or_eq_false_iff, decide_eq_false_iff_not] at h
  have h2 := h.2
  rw [hI.ng] at h2
  rcases Nat.lt_or_ge (nG d) 200 with q | q
  · exact q
  · exact absurd (by rw [show nG d = 200 by omega]) h2
theorem fD_I {d tx : Nat → Int32} {len : Nat} (hI : zI d) : ∀ {i : Nat}, (∀ j, j < i → (!goB d tx len j) = false) → zI (fD d tx len i)
  | 0, _ => hI
  | i + 1, h => by
    have ih := fD_I (len := len) (tx := tx) hI (i := i) (fun j hj => h j (by omega))
    have h1 := h i (Nat.lt_succ_self i)
    have h2 : goB d tx len i = true := by simpa using h1
    unfold goB at h2
    simp only [Bool.and_eq_true] at h2
    obtain ⟨-, p2, -, p4⟩ := one_parts h2.2
    exact (gra_I ih (ful_ng ih p4) (one_nat ih p2).1 _ _).1
/-- an array holds what counts alone -/
theorem arr_cong {D : va_G} {a n : Nat} {cA : ClassId} {f g : Nat → Int32} {H : Heap} (h : va_at D vwCl (a, .inl (cA, n, .inl f)) H) (e : ∀ i, i < n → f i = g i) : va_at D vwCl (a, .inl (cA, n, .inl g)) H := by
  have h : H[a]? = some (vp_cell cA (n, .inl f)) := h
  show H[a]? = some (vp_cell cA (n, .inl g))
  rw [h, vp_cell_i, vp_cell_i]
  unfold arrV
  congr 3
  funext j
  show Value.int (f j.val) = Value.int (g j.val)
  rw [e j.val j.isLt]
theorem mWs_cong {D : va_G} {y : zY} {m : Nat} {d d' was as tx gt : Nat → Int32} {st ty pa rs : Int32} {H : Heap} (h : va_P D vwCl (mWs y m d was as tx gt st ty pa rs) H) (e : ∀ i, i < 1445 → d i = d' i) : va_P D vwCl (mWs y m d' was as tx gt st ty pa rs) H := fun k q hk => by
  match k, hk with
  | 0, hk => cases hk; exact h 0 _ rfl
  | 1, hk => cases hk; exact arr_cong (h 1 _ rfl) e
  | 2, hk => cases hk; exact h 2 _ rfl
  | 3, hk => cases hk; exact h 3 _ rfl
  | 4, hk => cases hk; exact h 4 _ rfl
  | 5, hk => cases hk; exact h 5 _ rfl
  | k + 6, hk => simp [mWs] at hk
theorem cp_back (e as d : Nat → Int32) (i : Nat) (hi : i < 1445) : cpN e (cpN as d 0 1445) 0 1445 i = d i := by
  unfold cpN
  rw [if_pos (by omega), if_pos (by omega)]
  rfl
