/-! THE TWO SIDES: one row of numbers, one history -/
theorem sD.same {D : va_G} {y : zY} {bd a : Nat} {H : Heap} {d d' : Nat → Int32} {ca pa pk : Nat → Nat} (h : sD D y bd a d ca pa pk H) (hI : zI d) (e : ∀ i, i < 1445 → i ≠ 443 → i ≠ 444 → d' i = d i) : sD D y bd a d' ca pa pk H := by
  have g2 := hI.ng2
  have h8 := hI.nc8
  obtain ⟨a1, a2, a3⟩ := hI.same e
  have hL := same_vL hI e
  have hpm : ∀ p k, p < nG d → k < 5 → pm d' p k = pm d p k := fun p k hp hk => e _ (by omega) (by omega) (by omega)
  have hgr : ∀ c k, c < nC d → k < 6 → gr d' c k = gr d c k := fun c k hc hk => e _ (by omega) (by omega) (by omega)
  obtain ⟨cs, ns, se, wi, al, re, gi, ps, ss, vs, hP, ⟨q1, q2, q3, q4, q5, q6, q7, q8, q9, q10⟩, hC, hE, hT⟩ := h
  refine ⟨cs, ns, se, wi, al, re, gi, ps, ss, vs, by rw [a3, a2, vn_cong hL]; exact hP, ⟨fun c hc => q1 c (by omega), fun c hc => ?_, fun i hi => ?_, fun i hi => ?_, fun i hi => ?_, fun i hi => ?_, fun i hi => ?_, fun p hp => q8 p (by omega), fun p hp => ?_, fun i hi => ?_⟩, fun c hc => ?_, fun p hp => ?_, hT⟩
  · rw [hgr c 5 (by omega) (by decide)]; exact q2 c (by omega)
  · rw [e _ (by omega) (by omega) (by omega)]; exact q3 i hi
  · rw [e _ (by omega) (by omega) (by omega)]; exact q4 i hi
  · rw [e _ (by omega) (by omega) (by omega)]; exact q5 i hi
  · rw [e _ (by omega) (by omega) (by omega)]; exact q6 i hi
  · rw [e _ (by omega) (by omega) (by omega)]; exact q7 i hi
  · rw [hpm p 4 (by omega) (by decide)]; exact q9 p (by omega)
  · rw [vn_cong hL] at hi; rw [vx_cong hL]; exact q10 i hi
  · exact ⟨(hC c (by omega)).1, (hC c (by omega)).2.cong5 (fun k hk => hgr c k (by omega) (by omega))⟩
  · have hp' : p < nG d := by omega
    obtain ⟨b1, b2, b3, b4⟩ := hE p hp'
    have ep : pC d' p = pC d p := by unfold pC; rw [hpm p 0 hp' (by decide)]
    refine ⟨b1, b2, ?_, ?_⟩
    · rw [hpm p 1 hp' (by decide), hpm p 2 hp' (by decide), hpm p 3 hp' (by decide)]; exact b3
    · rw [ep]; exact b4.cong5 (fun k hk => hgr _ k (hI.pcn hp') (by omega))
section BR
variable {D : va_G} {y : zY} {bd x : Nat} {d d' : Nat → Int32} {ca pa pk : Nat → Nat} {N T : Pic} {P : Nat → Pic} {k rot len : Nat} {ts : Int32} {tn : Nat} {tx : Nat → Int32} {H H1 : Heap}
theorem xO.same (h : xO D y bd x (d, ca, pa, pk) T P k rot len ts tn tx H) (hI : zI d) (e : ∀ i, i < 1445 → i ≠ 443 → i ≠ 444 → d' i = d i) : xO D y bd x (d', ca, pa, pk) T P k rot len ts tn tx H := by
  obtain ⟨pf, f2, f3, f4, f5, f6, hP, hps, hX⟩ := h
  have h1 : sD D y bd (x + 1) d ca pa pk H := hX.1
  exact ⟨pf, f2, f3, f4, f5, f6, hP, hps, h1.same hI e, hX.2⟩
def tf7 (ts tn fo cr ni ho sw : Int32) : Nat → Int32
  | 0 => ts
  | 1 => tn
  | 2 => fo
  | 3 => cr
  | 4 => ni
  | 5 => ho
  | _ => sw
theorem xO.clR (h : xO D y bd x (d, ca, pa, pk) T P k rot len ts tn tx H) : ∃ tf, clR D y x bd d ca pa pk k len tf H := by
  obtain ⟨pf, f2, f3, f4, f5, f6, hP, hps, hX⟩ := h
  exact ⟨tf7 ts (nI tn) (bI f2) f3 f4 f5 f6, hP 0 _ rfl, hP 2 _ rfl, hX.1⟩
theorem xO.keep {A : Nat → Prop} (h : xO D y bd x N T P k rot len ts tn tx H) (hk : ∀ q : Nat, q < H.size → ¬ A q → H1[q]? = H[q]?) (h1 : ∀ q, x ≤ q → q < x + 70 → ¬ A q) (h2 : ∀ q, bd ≤ q → ¬ A q) : xO D y bd x N T P k rot len ts tn tx H1 := by
  obtain ⟨pf, f2, f3, f4, f5, f6, hP, hps, hX⟩ := h
  exact ⟨pf, f2, f3, f4, f5, f6, xW7_k hP hk (fun j hj => h1 _ (by omega) (by omega)), hps, hX.keep hk (fun q a b => h1 q (by omega) (by omega)) (fun q a b => h1 q (by omega) (by omega)) h2⟩
theorem xM.xO {bd x : Nat} {N T : Pic} {P : Nat → Pic} {rot len : Nat} {tx : Nat → Int32} {H : Heap} (h : xM D y bd x N T P 0 rot len iniT tx H) : xO D y bd x N T P 0 rot len (nI 0) 0 tx H := by
  obtain ⟨ps, hP, hps, h1, h2, h3⟩ := h
  exact ⟨ps, true, nI 0, nI 0, nI 0, nI 0, hP, hps, h1, h2, h3⟩
end BR
/-! the history -/
def hst (P : Nat → Pic) (rot k : Nat) (was : Nat → Int32) : Prop := ∀ j, j < k → ∀ i, i < 1445 → i ≠ 443 → i ≠ 444 → (P ((j + rot) % 4)).1 i = was (1445 * j + i)
theorem rec_new {d was : Nat → Int32} {k : Nat} (hk : k ≤ 4) {i : Nat} (hi : i < 1445) : recW d was k (1445 * (recN k - 1) + i) = d i := by
  by_cases h : k = 4
  · subst h
    unfold recW
    rw [if_pos rfl]
    show cpN _ d 4335 1445 (1445 * 3 + i) = d i
    unfold cpN
    rw [if_pos (by omega), show 1445 * 3 + i - 4335 = i by omega]
  · have e : recN k = k + 1 := by unfold recN; rw [if_neg h]
    rw [e]
    unfold recW
    rw [if_neg h]
    unfold cpN
    rw [if_pos (by omega), show 1445 * (k + 1 - 1) + i - 1445 * k = i by rw [Nat.add_sub_cancel]; omega]
theorem rec_old {d was : Nat → Int32} {k : Nat} (hk : k ≤ 4) {j i : Nat} (hj : j < recN k - 1) (hi : i < 1445) : recW d was k (1445 * j + i) = was (1445 * (if k = 4 then j + 1 else j) + i) := by
  by_cases h : k = 4
  · subst h
    have hj : j < 3 := hj
    unfold recW
    rw [if_pos rfl, if_pos rfl]
    unfold cpN
    rw [if_neg (by omega)]
    unfold shN
    rw [if_pos (by omega), show 1445 * j + i + 1445 = 1445 * (j + 1) + i by omega]
  · have e : recN k = k + 1 := by unfold recN; rw [if_neg h]
    rw [e, Nat.add_sub_cancel] at hj
    unfold recW
    rw [if_neg h, if_neg h]
    unfold cpN
    have hjk : 1445 * (j + 1) ≤ 1445 * k := Nat.mul_le_mul_left _ hj
    rw [if_neg (by omega)]
theorem hst.rem {P : Nat → Pic} {rot k : Nat} {was d : Nat → Int32} (h : hst P rot k was) (hk : k ≤ 4) (N : Pic) (e : ∀ i, i < 1445 → i ≠ 443 → i ≠ 444 → N.1 i = d i) : hst (remP P k rot N) (remR k rot) (recN k) (recW d was k) := by
  intro j hj i hi h3 h4
  have hr1 : recN k ≤ k + 1 := by unfold recN; split <;> omega
  have hr2 := recN_le hk
  rcases Nat.lt_or_ge j (recN k - 1) with q | q
  · rw [rec_old hk q hi]
    unfold remP
    rw [va_up_ne _ _ (by omega)]
    by_cases h9 : k = 4
    · subst h9
      have q : j < 3 := q
      rw [if_pos rfl, show remR 4 rot = rot + 1 from rfl, show j + (rot + 1) = j + 1 + rot by omega]
      exact h (j + 1) (by omega) i hi h3 h4
    · have er : remR k rot = rot := by unfold remR; rw [if_neg h9]
      have en : recN k = k + 1 := by unfold recN; rw [if_neg h9]
      rw [if_neg h9, er]
      exact h j (by omega) i hi h3 h4
  · have ej : j = recN k - 1 := by omega
    subst ej
    rw [rec_new hk hi]
    unfold remP
    rw [va_up_self]
    exact e i hi h3 h4
theorem hst.pop {P : Nat → Pic} {rot k : Nat} {was : Nat → Int32} (h : hst P rot (k + 1) was) : hst P rot k was := fun j hj => h j (by omega)
def wJ (n k : Nat) (was : Nat → Int32) : Prop := ∀ j, j < k → zJ n (unW was j)
theorem wJ.rem {n k : Nat} {was d : Nat → Int32} (h : wJ n k was) (hk : k ≤ 4) (hd : zJ n d) : wJ n (recN k) (recW d was k) := by
  intro j hj
  have hr1 : recN k ≤ k + 1 := by unfold recN; split <;> omega
  rcases Nat.lt_or_ge j (recN k - 1) with q | q
  · refine (h (if k = 4 then j + 1 else j) ?_).same (fun i hi => rec_old hk q hi)
    by_cases h9 : k = 4
    · subst h9; have q : j < 3 := q; rw [if_pos rfl]; omega
    · have en : recN k = k + 1 := by unfold recN; rw [if_neg h9]
      rw [if_neg h9]; omega
  · have ej : j = recN k - 1 := by omega
    subst ej
    exact hd.same (fun i hi => rec_new hk hi)
theorem wJ.mono {n m k : Nat} {was : Nat → Int32} (h : wJ n k was) (hm : n ≤ m) : wJ m k was := fun j hj => (h j hj).mono hm
/-! the class's side, the reference's side, what holds -/
def cI (D : va_G) (y : zY) (bd x : Nat) (d was tx : Nat → Int32) (k len : Nat) (H : Heap) : Prop := ∃ (ca pa pk : Nat → Nat) (T : Pic) (P : Nat → Pic) (rot : Nat) (ts : Int32) (tn : Nat), xO D y bd x (d, ca, pa, pk) T P k rot len ts tn tx H ∧ hst P rot k was
def mI (D : va_G) (y : zY) (m : Nat) (d was tx : Nat → Int32) (k len : Nat) (H : Heap) : Prop := ∃ (as gt : Nat → Int32) (pa rs : Int32), va_P D vwCl (mWs y m d was as tx gt (nI k) (nI len) pa rs) H
def jI (n : Nat) (d was : Nat → Int32) (k len : Nat) : Prop := zJ n d ∧ k ≤ 4 ∧ len ≤ 80 ∧ wJ n k was
theorem jI.mono {n m : Nat} {d was : Nat → Int32} {k len : Nat} (h : jI n d was k len) (hm : n ≤ m) : jI m d was k len := ⟨h.1.mono hm, h.2.1, h.2.2.1, h.2.2.2.mono hm⟩
theorem jI.rem {n : Nat} {d e was : Nat → Int32} {k len : Nat} (h : jI n d was k len) (he : zJ n e) : jI n e (recW d was k) (recN k) len := ⟨he, recN_le h.2.1, h.2.2.1, h.2.2.2.rem h.2.1 h.1⟩
theorem cI.keep {D : va_G} {y : zY} {bd x : Nat} {d was tx : Nat → Int32} {k len : Nat} {H H1 : Heap} {A : Nat → Prop} (h : cI D y bd x d was tx k len H) (hk : ∀ q : Nat, q < H.size → ¬ A q → H1[q]? = H[q]?) (h1 : ∀ q, x ≤ q → q < x + 70 → ¬ A q) (h2 : ∀ q, bd ≤ q → ¬ A q) : cI D y bd x d was tx k len H1 := by
  obtain ⟨ca, pa, pk, T, P, rot, ts, tn, a, b⟩ := h
  exact ⟨ca, pa, pk, T, P, rot, ts, tn, a.keep hk h1 h2, b⟩
theorem mI.keep {D : va_G} {y : zY} {m : Nat} {d was tx : Nat → Int32} {k len : Nat} {H H1 : Heap} {A : Nat → Prop} (h : mI D y m d was tx k len H) (hk : ∀ q : Nat, q < H.size → ¬ A q → H1[q]? = H[q]?) (h1 : ∀ q, m ≤ q → q < m + 6 → ¬ A q) : mI D y m d was tx k len H1 := by
  obtain ⟨as, gt, pa, rs, hP⟩ := h
  refine ⟨as, gt, pa, rs, hP.kept (fun i q hi => hk q.1 (hP i q hi).lt ?_)⟩
  match i, hi with
  | 0, hi => cases hi; exact h1 _ (by omega) (by omega)
  | 1, hi => cases hi; exact h1 _ (by omega) (by omega)
  | 2, hi => cases hi; exact h1 _ (by omega) (by omega)
  | 3, hi => cases hi; exact h1 _ (by omega) (by omega)
  | 4, hi => cases hi; exact h1 _ (by omega) (by omega)
  | 5, hi => cases hi; exact h1 _ (by omega) (by omega)
  | i + 6, hi => simp [mWs] at hi
/-- the class's calls leave the reference alone, the reference's calls the class -/
theorem nB_m {x bd q : Nat} (hb : x + 76 ≤ bd) (h1 : x + 70 ≤ q) (h2 : q < x + 70 + 6) : ¬ xB x bd q := fun z => z.elim (fun w => by have := w.2; omega) (fun w => by omega)
theorem xB_hi {x bd q : Nat} (hb : x ≤ bd) (h : xB x bd q) : x ≤ q := h.elim (fun w => w.1) (fun w => by omega)
/-! the tables at the start -/
theorem ar_of {s : State} {args : Array Value} {ty : FieldType} (hne : ∀ C, ty ≠ .object C) (h : (Cond.arrayClass ty).before args s = true) : ∃ c, ArrOfT s c ty ∧ va_RA s c ty := by
  obtain ⟨c, k, comp, h1, h2, h3⟩ := Cond.arrayClass_spec h
  refine ⟨c, fun n z => ⟨fun k9 h9 => (by cases h9), k, h2, comp, h3⟩, ?_⟩
  cases ty with
  | object C => exact absurd rfl (hne C)
  | _ => exact h1
theorem ao_of {s : State} {args : Array Value} {C : String} (h : (Cond.arrayOver (.object C)).before args s = true) : ∃ c, ArrOfT s c (.object C) ∧ va_RA s c (.object C) := by
  obtain ⟨comp, c, k, h1, h2, h3, h4, h5⟩ := Cond.arrayOver_spec h
  exact ⟨c, fun n z => ⟨fun k h => (by cases h), k, h3, comp, h4⟩, k, comp, h3, h4, h1, h5⟩
