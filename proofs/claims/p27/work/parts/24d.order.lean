/-! THE PROPERTY: each place in the order has its permit -/
def kyD (d : Nat → Int32) (p : Nat) : Int32 := nI 10 * pm d p 1 + pm d p 2 / nI 10
theorem ahd_k (d : Nat → Int32) (p q : Nat) : ahdB d p q = true ↔ ((kyD d p).toInt < (kyD d q).toInt ∨ ((kyD d p).toInt = (kyD d q).toInt ∧ p < q)) := by
  show (decide (kyD d p < kyD d q) || (decide (kyD d p = kyD d q) && decide (p < q))) = true ↔ _
  rw [Bool.or_eq_true, Bool.and_eq_true, decide_eq_true_eq, decide_eq_true_eq, decide_eq_true_eq, Int32.lt_iff_toInt_lt, Int32.toInt_inj]
theorem ahd_irr (d : Nat → Int32) (p : Nat) : ahdB d p p = false := by
  cases h : ahdB d p p with
  | false => rfl
  | true => have := (ahd_k d p p).mp h; omega
theorem ahd_tr {d : Nat → Int32} {p q r : Nat} (h1 : ahdB d p q = true) (h2 : ahdB d q r = true) : ahdB d p r = true := by
  have a := (ahd_k d p q).mp h1
  have b := (ahd_k d q r).mp h2
  exact (ahd_k d p r).mpr (by omega)
theorem ahd_tot (d : Nat → Int32) {p q : Nat} (h : p < q) : ahdB d p q = true ∨ ahdB d q p = true := by
  rw [ahd_k, ahd_k]
  omega
def rkB (d : Nat → Int32) (p q : Nat) : Bool := decide (pm d q 4 = nI 1) && ahdB d q p
def rk (d : Nat → Int32) (p : Nat) : Nat := ((List.range (nG d)).filter (rkB d p)).length
theorem sum_len (A : Nat → Bool) (n : Nat) : sumN (fun p => if A p = true then nI 1 else nI 0) n = nI ((List.range n).filter A).length := by
  rw [← sum_f A (fun _ => nI 1) n]
  exact sumN_1 _
theorem ord_rk (d : Nat → Int32) (p : Nat) : sumN (ordF d p) (nG d) = nI (rk d p) := by
  unfold rk
  rw [← sum_len]
  refine sumN_cong (fun q _ => ?_)
  unfold ordF rkB
  by_cases h : pm d q 4 = nI 1
  · rw [if_pos h, decide_eq_true h, Bool.true_and]
  · rw [if_neg h, decide_eq_false h, Bool.false_and, if_neg Bool.false_ne_true]
theorem fl_le {A B : Nat → Bool} : ∀ {l : List Nat}, (∀ y ∈ l, A y = true → B y = true) → (l.filter A).length ≤ (l.filter B).length
  | [], _ => Nat.le_refl _
  | a :: l, h => by
    have ih := fl_le (A := A) (B := B) (l := l) (fun y hy => h y (List.mem_cons_of_mem _ hy))
    have ha := h a List.mem_cons_self
    cases e1 : A a with
    | true => rw [List.filter_cons_of_pos e1, List.filter_cons_of_pos (ha e1)]; exact Nat.succ_le_succ ih
    | false =>
      rw [List.filter_cons_of_neg (by rw [e1]; exact Bool.false_ne_true)]
      cases e2 : B a with
      | true => rw [List.filter_cons_of_pos e2]; exact Nat.le_succ_of_le ih
      | false => rw [List.filter_cons_of_neg (by rw [e2]; exact Bool.false_ne_true)]; exact ih
theorem fl_lt {A B : Nat → Bool} {x : Nat} : ∀ {l : List Nat}, (∀ y ∈ l, A y = true → B y = true) → x ∈ l → A x = false → B x = true → (l.filter A).length < (l.filter B).length
  | [], _, hx, _, _ => absurd hx List.not_mem_nil
  | a :: l, h, hx, h1, h2 => by
    have hl : ∀ y ∈ l, A y = true → B y = true := fun y hy => h y (List.mem_cons_of_mem _ hy)
    by_cases e : x = a
    · subst e
      rw [List.filter_cons_of_neg (by rw [h1]; exact Bool.false_ne_true), List.filter_cons_of_pos h2]
      exact Nat.lt_succ_of_le (fl_le hl)
    · have hx' : x ∈ l := by
        rcases List.mem_cons.mp hx with q | q
        · exact absurd q e
        · exact q
      have ih := fl_lt (A := A) (B := B) hl hx' h1 h2
      have ha := h a List.mem_cons_self
      cases e1 : A a with
      | true => rw [List.filter_cons_of_pos e1, List.filter_cons_of_pos (ha e1)]; exact Nat.succ_lt_succ ih
      | false =>
        rw [List.filter_cons_of_neg (by rw [e1]; exact Bool.false_ne_true)]
        cases e2 : B a with
        | true => rw [List.filter_cons_of_pos e2]; exact Nat.lt_succ_of_lt ih
        | false => rw [List.filter_cons_of_neg (by rw [e2]; exact Bool.false_ne_true)]; exact ih
theorem nd_le : ∀ (n : Nat) (l : List Nat), l.Nodup → (∀ x ∈ l, x < n) → l.length ≤ n
  | 0, [], _, _ => Nat.le_refl _
  | 0, a :: l, _, h => absurd (h a List.mem_cons_self) (Nat.not_lt_zero a)
  | n + 1, l, hd, h => by
    by_cases q : n ∈ l
    · have h1 := nd_le n (l.erase n) (hd.erase n) (fun x hx => by
        have h2 := h x (List.mem_of_mem_erase hx)
        have h3 : x ≠ n := fun e => by
          subst e
          exact (hd.not_mem_erase) hx
        omega)
      rw [List.length_erase_of_mem q] at h1
      omega
    · have h1 := nd_le n l hd (fun x hx => by
        have h2 := h x hx
        have h3 : x ≠ n := fun e => q (e ▸ hx)
        omega)
      omega
theorem pig {n : Nat} {l : List Nat} (hd : l.Nodup) (h : ∀ x ∈ l, x < n) (hl : l.length = n) {i : Nat} (hi : i < n) : i ∈ l := by
  by_cases q : i ∈ l
  · exact q
  · exfalso
    have h1 := nd_le n (i :: l) (List.nodup_cons.mpr ⟨q, hd⟩) (fun x hx => by
      rcases List.mem_cons.mp hx with e | e
      · rw [e]; exact hi
      · exact h x e)
    rw [List.length_cons, hl] at h1
    omega
theorem vL_in {d : Nat → Int32} {p : Nat} : p ∈ vL d ↔ p < nG d ∧ pm d p 4 = nI 1 := by
  unfold vL
  rw [List.mem_filter, List.mem_range, decide_eq_true_eq]
theorem rk_lt {d : Nat → Int32} {p q : Nat} (hp : p < nG d) (h4 : pm d p 4 = nI 1) (h : ahdB d p q = true) : rk d p < rk d q := by
  unfold rk
  refine fl_lt (x := p) (fun y _ hy => ?_) (List.mem_range.mpr hp) ?_ ?_
  · unfold rkB at hy ⊢
    rw [Bool.and_eq_true] at hy ⊢
    exact ⟨hy.1, ahd_tr hy.2 h⟩
  · unfold rkB
    rw [ahd_irr, Bool.and_false]
  · unfold rkB
    rw [decide_eq_true h4, h]
    rfl
theorem rk_vn {d : Nat → Int32} {p : Nat} (hp : p < nG d) (h4 : pm d p 4 = nI 1) : rk d p < vn d := by
  unfold rk vn vL
  refine fl_lt (x := p) (fun y _ hy => ?_) (List.mem_range.mpr hp) ?_ (decide_eq_true h4)
  · unfold rkB at hy
    rw [Bool.and_eq_true] at hy
    exact hy.1
  · unfold rkB
    rw [ahd_irr, Bool.and_false]
theorem rk_ex {d : Nat → Int32} {i : Nat} (hi : i < vn d) : ∃ p, p < nG d ∧ pm d p 4 = nI 1 ∧ rk d p = i := by
  have hm : i ∈ (vL d).map (rk d) := by
    refine pig (n := vn d) ?_ (fun x hx => ?_) (List.length_map _) hi
    · unfold List.Nodup
      rw [List.pairwise_map]
      refine List.Pairwise.imp_of_mem (fun {a b} ha hb hab => ?_) (vL_pw d)
      have h1 := vL_in.mp ha
      have h2 := vL_in.mp hb
      rcases ahd_tot d hab with q | q
      · exact Nat.ne_of_lt (rk_lt h1.1 h1.2 q)
      · exact Nat.ne_of_gt (rk_lt h2.1 h2.2 q)
    · obtain ⟨p, hp, e⟩ := List.mem_map.mp hx
      have h1 := vL_in.mp hp
      rw [← e]
      exact rk_vn h1.1 h1.2
  obtain ⟨p, hp, e⟩ := List.mem_map.mp hm
  have h1 := vL_in.mp hp
  exact ⟨p, h1.1, h1.2, e⟩
theorem ord_ex {d : Nat → Int32} (h24 : vn d ≤ 24) {i : Nat} (hi : i < vn d) : ∃ p, p < nG d ∧ pm d p 4 = nI 1 ∧ aInOrder d (nI i) = nI p := by
  obtain ⟨p0, h1, h2, h3⟩ := rk_ex hi
  have h0 : ordP d (nI i) p0 = true := by
    unfold ordP
    rw [decide_eq_true h2, ord_rk, h3, decide_eq_true rfl]
    rfl
  have hge : (0 : Int32) ≤ nI i := (nI_leI (by decide : (0 : Nat) < 2147483648) (by omega)).mpr (Nat.zero_le i)
  cases e : (List.range (nG d)).find? (ordP d (nI i)) with
  | none =>
    rw [List.find?_eq_none] at e
    exact absurd h0 (e p0 (List.mem_range.mpr h1))
  | some p =>
    have hp := List.find?_some e
    unfold ordP at hp
    rw [Bool.and_eq_true] at hp
    refine ⟨p, find_lt e, of_decide_eq_true hp.1, ?_⟩
    unfold aInOrder
    rw [if_pos hge, show (List.range (nG d)).find? (ordP d (nI i)) = some p from e]
    rfl
