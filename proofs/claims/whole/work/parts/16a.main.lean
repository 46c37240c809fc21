/-! THE CLASS ITSELF: its world as its writers see it -/
def xW7 (y : zY) (x : Nat) (k : Int32) (ps : Nat → Option Nat) (len ts tn fo cr ni ho sw : Int32) (tx : Nat → Int32) : va_W := [(x, .inr (4, [.ref (x + 1), .ref (x + 12), .ref (x + 23), .int k, .ref (x + 24)])), (x + 23, .inl (y.2.2.2.2.2, 4, .inr (.inr (.inr (.inr ps))))), (x + 24, .inr (3, [.ref (x + 25), .int len, .int ts, .int tn, .int fo, .int cr, .int ni, .int ho, .int sw])), (x + 25, .inl (y.2.1, 80, .inl tx))]
theorem xW7_D {y : zY} {x : Nat} {k : Int32} {ps : Nat → Option Nat} {len ts tn fo cr ni ho sw : Int32} {tx : Nat → Int32} : va_D (blk x 70) (xW7 y x k ps len ts tn fo cr ni ho sw tx) := va_D_list x 70 [0, 23, 24, 25] (by decide) (by decide) rfl
/-- its sites: now, trial, the past ones -/
def xS (D : va_G) (y : zY) (bd x : Nat) (N T : Pic) (P : Nat → Pic) (H : Heap) : Prop := sP D y bd (x + 1) N H ∧ sP D y bd (x + 12) T H ∧ ∀ i, i < 4 → sP D y bd (x + 26 + 11 * i) (P i) H
def xO (D : va_G) (y : zY) (bd x : Nat) (N T : Pic) (P : Nat → Pic) (k rot len : Nat) (ts : Int32) (tn : Nat) (tx : Nat → Int32) (H : Heap) : Prop := ∃ (pf : Nat → Option Nat) (f2 : Bool) (f3 f4 f5 f6 : Int32), va_P D vwCl (xW7 y x (nI k) pf (nI len) ts (nI tn) (bI f2) f3 f4 f5 f6 tx) H ∧ (∀ j, j < 4 → pf j = some (x + 26 + 11 * ((j + rot) % 4))) ∧ xS D y bd x N T P H
/-- what the class's calls may write: its own cells, and what was made behind them -/
def xB (x bd : Nat) : Nat → Prop := fun q => blk x 70 q ∨ bd ≤ q
theorem xb_0 {x bd : Nat} : xB x bd x := Or.inl ⟨Nat.le_refl _, by omega⟩
theorem xb_k {x bd k : Nat} (h : k < 70) : xB x bd (x + k) := Or.inl ⟨by omega, by omega⟩
theorem xb_b {x bd a n q : Nat} (h1 : x ≤ a) (h2 : a + n ≤ x + 70) (h : blk a n q) : xB x bd q := Or.inl ⟨by have := h.1; omega, by have := h.2; omega⟩
theorem xb_2 {x bd a b q : Nat} (h1 : x ≤ a) (h2 : a + 11 ≤ x + 70) (h3 : x ≤ b) (h4 : b + 11 ≤ x + 70) (h : blk2 a b q) : xB x bd q := h.elim (xb_b h1 h2) (xb_b h3 h4)
theorem xb_n {x bd a n q : Nat} (h1 : bd ≤ a) (h : blk a n q) : xB x bd q := Or.inr (Nat.le_trans h1 h.1)
section XS
variable {D : va_G} {y : zY} {bd x : Nat} {N T N' T' p' : Pic} {P : Nat → Pic} {H H1 : Heap}
theorem sP.call {A : Nat → Prop} {a : Nat} (h : sP D y bd a N H) (hk : ∀ q : Nat, q < H.size → ¬ A q → H1[q]? = H[q]?) (h1 : ∀ q, a ≤ q → q < a + 11 → ¬ A q) (h2 : ∀ q, bd ≤ q → ¬ A q) : sP D y bd a N H1 := sD.call h hk h1 h2
theorem xS.upd (h : xS D y bd x N T P H) (hbd : x + 70 ≤ bd) (j : Nat) (hj : j = 0 ∨ (23 ≤ j ∧ j < 26)) (hU : zU (x + j) H H1) : xS D y bd x N T P H1 :=
  ⟨sD.upd h.1 hU (by omega) (by omega), sD.upd h.2.1 hU (by omega) (by omega), fun i hi => sD.upd (h.2.2 i hi) hU (by omega) (by omega)⟩
theorem xS.grow (h : xS D y bd x N T P H) (hk : ∀ q : Nat, q < H.size → H1[q]? = H[q]?) : xS D y bd x N T P H1 :=
  ⟨sD.grow h.1 hk, sD.grow h.2.1 hk, fun i hi => sD.grow (h.2.2 i hi) hk⟩
theorem xS.keep {A : Nat → Prop} (h : xS D y bd x N T P H) (hk : ∀ q : Nat, q < H.size → ¬ A q → H1[q]? = H[q]?) (h1 : ∀ q, x + 1 ≤ q → q < x + 23 → ¬ A q) (h3 : ∀ q, x + 26 ≤ q → q < x + 70 → ¬ A q) (h2 : ∀ q, bd ≤ q → ¬ A q) : xS D y bd x N T P H1 :=
  ⟨sP.call h.1 hk (fun q a b => h1 q (by omega) (by omega)) h2, sP.call h.2.1 hk (fun q a b => h1 q (by omega) (by omega)) h2, fun i hi => sP.call (h.2.2 i hi) hk (fun q a b => h3 q (by omega) (by omega)) h2⟩
theorem nblk {a n q : Nat} (h : q < a ∨ a + n ≤ q) : ¬ blk a n q := fun z => by have h1 := z.1; have h2 := z.2; omega
theorem nblk2 {a b q : Nat} (h : q < a ∨ a + 11 ≤ q) (h' : q < b ∨ b + 11 ≤ q) : ¬ blk2 a b q := fun z => z.elim (nblk h) (nblk h')
theorem xS.text (h : xS D y bd x N T P H) (hbd : x + 70 ≤ bd) (hk : ∀ q : Nat, q < H.size → ¬ blk (x + 24) 2 q → H1[q]? = H[q]?) : xS D y bd x N T P H1 :=
  h.keep hk (fun q a b => nblk (by omega)) (fun q a b => nblk (by omega)) (fun q a => nblk (by omega))
theorem xS.setN (h : xS D y bd x N T P H) (hbd : x + 70 ≤ bd) (hk : ∀ q : Nat, q < H.size → ¬ blk (x + 1) 11 q → H1[q]? = H[q]?) (hn : sP D y bd (x + 1) N' H1) : xS D y bd x N' T P H1 :=
  ⟨hn, sP.call h.2.1 hk (fun q a b => nblk (by omega)) (fun q a => nblk (by omega)), fun i hi => sP.call (h.2.2 i hi) hk (fun q a b => nblk (by omega)) (fun q a => nblk (by omega))⟩
theorem xS.setT (h : xS D y bd x N T P H) (hbd : x + 70 ≤ bd) (hk : ∀ q : Nat, q < H.size → ¬ blk (x + 12) 11 q → H1[q]? = H[q]?) (hn : sP D y bd (x + 12) T' H1) : xS D y bd x N T' P H1 :=
  ⟨sP.call h.1 hk (fun q a b => nblk (by omega)) (fun q a => nblk (by omega)), hn, fun i hi => sP.call (h.2.2 i hi) hk (fun q a b => nblk (by omega)) (fun q a => nblk (by omega))⟩
theorem xS.setTN (h : xS D y bd x N T P H) (hbd : x + 70 ≤ bd) (hk : ∀ q : Nat, q < H.size → ¬ blk2 (x + 12) (x + 1) q → H1[q]? = H[q]?) (ht : sP D y bd (x + 12) T' H1) (hn : sP D y bd (x + 1) N' H1) : xS D y bd x N' T' P H1 :=
  ⟨hn, ht, fun i hi => sP.call (h.2.2 i hi) hk (fun q a b => nblk2 (by omega) (by omega)) (fun q a => nblk2 (by omega) (by omega))⟩
theorem xS.setNT (h : xS D y bd x N T P H) (hbd : x + 70 ≤ bd) (hk : ∀ q : Nat, q < H.size → ¬ blk2 (x + 1) (x + 12) q → H1[q]? = H[q]?) (hn : sP D y bd (x + 1) N' H1) (ht : sP D y bd (x + 12) T' H1) : xS D y bd x N' T' P H1 :=
  ⟨hn, ht, fun i hi => sP.call (h.2.2 i hi) hk (fun q a b => nblk2 (by omega) (by omega)) (fun q a => nblk2 (by omega) (by omega))⟩
theorem xS.setPN (h : xS D y bd x N T P H) (hbd : x + 70 ≤ bd) (i : Nat) (hi : i < 4) (hk : ∀ q : Nat, q < H.size → ¬ blk2 (x + 26 + 11 * i) (x + 1) q → H1[q]? = H[q]?) (hp : sP D y bd (x + 26 + 11 * i) p' H1) (hn : sP D y bd (x + 1) N' H1) : xS D y bd x N' T (va_up P i p') H1 := by
  refine ⟨hn, sP.call h.2.1 hk (fun q a b => nblk2 (by omega) (by omega)) (fun q a => nblk2 (by omega) (by omega)), fun j hj => ?_⟩
  by_cases e : j = i
  · subst e; rw [va_up_self]; exact hp
  · rw [va_up_ne _ _ e]
    exact sP.call (h.2.2 j hj) hk (fun q a b => nblk2 (by omega) (by omega)) (fun q a => nblk2 (by omega) (by omega))
theorem xS.setNP (h : xS D y bd x N T P H) (hbd : x + 70 ≤ bd) (i : Nat) (hi : i < 4) (hk : ∀ q : Nat, q < H.size → ¬ blk2 (x + 1) (x + 26 + 11 * i) q → H1[q]? = H[q]?) (hn : sP D y bd (x + 1) N' H1) (hp : sP D y bd (x + 26 + 11 * i) (P i) H1) : xS D y bd x N' T P H1 := by
  refine ⟨hn, sP.call h.2.1 hk (fun q a b => nblk2 (by omega) (by omega)) (fun q a => nblk2 (by omega) (by omega)), fun j hj => ?_⟩
  by_cases e : j = i
  · subst e; exact hp
  · exact sP.call (h.2.2 j hj) hk (fun q a b => nblk2 (by omega) (by omega)) (fun q a => nblk2 (by omega) (by omega))
theorem xW7_k {A : Nat → Prop} {k : Int32} {ps : Nat → Option Nat} {len ts tn fo cr ni ho sw : Int32} {tx : Nat → Int32} (hP : va_P D vwCl (xW7 y x k ps len ts tn fo cr ni ho sw tx) H) (hk : ∀ q : Nat, q < H.size → ¬ A q → H1[q]? = H[q]?) (hA : ∀ j, j = 0 ∨ (23 ≤ j ∧ j < 26) → ¬ A (x + j)) : va_P D vwCl (xW7 y x k ps len ts tn fo cr ni ho sw tx) H1 :=
  hP.kept (fun i q hi => hk q.1 (hP i q hi).lt (match i, hi with | 0, hi => (by cases hi; exact hA 0 (by omega)) | 1, hi => (by cases hi; exact hA 23 (by omega)) | 2, hi => (by cases hi; exact hA 24 (by omega)) | 3, hi => (by cases hi; exact hA 25 (by omega)) | i + 4, hi => (by simp [xW7] at hi)))
theorem xW7_grow {k : Int32} {ps : Nat → Option Nat} {len ts tn fo cr ni ho sw : Int32} {tx : Nat → Int32} (hP : va_P D vwCl (xW7 y x k ps len ts tn fo cr ni ho sw tx) H) (hk : ∀ q : Nat, q < H.size → H1[q]? = H[q]?) : va_P D vwCl (xW7 y x k ps len ts tn fo cr ni ho sw tx) H1 := hP.kept (fun i q hi => hk q.1 (hP i q hi).lt)
theorem xW7_t {k : Int32} {ps : Nat → Option Nat} {len ts tn fo cr ni ho sw : Int32} {tx : Nat → Int32} (hP : va_P D vwCl (xW7 y x k ps len ts tn fo cr ni ho sw tx) H) : va_P D vwCl (tWs y (x + 24) len ts tn fo cr ni ho sw tx) H := fun i q hi => match i, hi with
  | 0, hi => (by cases hi; exact hP 2 _ rfl)
  | 1, hi => (by cases hi; exact hP 3 _ rfl)
  | i + 2, hi => (by simp [tWs] at hi)
theorem xW7_st {k : Int32} {ps : Nat → Option Nat} {len ts tn fo cr ni ho sw : Int32} {tx : Nat → Int32} {len' ts' tn' fo' cr' ni' ho' sw' : Int32} {tx' : Nat → Int32} (hP : va_P D vwCl (xW7 y x k ps len ts tn fo cr ni ho sw tx) H) (hk : ∀ q : Nat, q < H.size → ¬ blk (x + 24) 2 q → H1[q]? = H[q]?) (ht : va_P D vwCl (tWs y (x + 24) len' ts' tn' fo' cr' ni' ho' sw' tx') H1) : va_P D vwCl (xW7 y x k ps len' ts' tn' fo' cr' ni' ho' sw' tx') H1 := fun i q hi => match i, hi with
  | 0, hi => (by cases hi; exact (hP 0 _ rfl).kept (hk _ (hP 0 _ rfl).lt (nblk (by show x < x + 24 ∨ _; omega))))
  | 1, hi => (by cases hi; exact (hP 1 _ rfl).kept (hk _ (hP 1 _ rfl).lt (nblk (by show x + 23 < x + 24 ∨ _; omega))))
  | 2, hi => (by cases hi; exact ht 0 _ rfl)
  | 3, hi => (by cases hi; exact ht 1 _ rfl)
  | i + 4, hi => (by simp [xW7] at hi)
theorem nA_N (j : Nat) (hj : j = 0 ∨ (23 ≤ j ∧ j < 26)) : ¬ blk (x + 1) 11 (x + j) := nblk (by omega)
theorem nA_T (j : Nat) (hj : j = 0 ∨ (23 ≤ j ∧ j < 26)) : ¬ blk (x + 12) 11 (x + j) := nblk (by omega)
theorem nA_TN (j : Nat) (hj : j = 0 ∨ (23 ≤ j ∧ j < 26)) : ¬ blk2 (x + 12) (x + 1) (x + j) := nblk2 (by omega) (by omega)
theorem nA_NT (j : Nat) (hj : j = 0 ∨ (23 ≤ j ∧ j < 26)) : ¬ blk2 (x + 1) (x + 12) (x + j) := nblk2 (by omega) (by omega)
theorem nA_PN (i : Nat) (j : Nat) (hj : j = 0 ∨ (23 ≤ j ∧ j < 26)) : ¬ blk2 (x + 26 + 11 * i) (x + 1) (x + j) := nblk2 (by omega) (by omega)
theorem nA_NP (i : Nat) (j : Nat) (hj : j = 0 ∨ (23 ≤ j ∧ j < 26)) : ¬ blk2 (x + 1) (x + 26 + 11 * i) (x + j) := nblk2 (by omega) (by omega)
theorem past_el {s : State} {rot : Nat} {pf : Nat → Option Nat} (hK : zK D y s) (hps : ∀ j, j < 4 → pf j = some (x + 26 + 11 * ((j + rot) % 4))) (hX : xS D y bd x N T P H) {j q : Nat} (hj : j < 4) (hq : pf j = some q) : ∃ cellV : Cell, H[q]? = some cellV ∧ cellV.vm.isStatics = false ∧ s.vm.findClass RX2 = some cellV.cls := by
  rw [hps j hj] at hq
  rw [← Option.some.inj hq]
  exact sD_recv hK (hX.2.2 ((j + rot) % 4) (Nat.mod_lt _ (by decide)))
theorem va_S.mono {A B : Nat → Prop} {H0 : Heap} {locs : List Loc} (h : va_S A H0 H locs) (hAB : ∀ q, A q → B q) : va_S B H0 H locs := ⟨h.1, fun q h1 h2 => h.2.1 q h1 (fun z => h2 (hAB q z)), fun l hl => hAB _ (h.2.2 l hl)⟩
end XS
/-! the past sites behind a change -/
def remR (k rot : Nat) : Nat := if k = 4 then rot + 1 else rot
def remP (P : Nat → Pic) (k rot : Nat) (N : Pic) : Nat → Pic := va_up P ((recN k - 1 + remR k rot) % 4) N
theorem rem_n {P : Nat → Pic} {k rot : Nat} {N : Pic} (h : k < 4) : recN k = k + 1 ∧ remR k rot = rot ∧ remP P k rot N = va_up P ((k + rot) % 4) N := by
  have e1 : recN k = k + 1 := by unfold recN; rw [if_neg (by omega)]
  have e2 : remR k rot = rot := by unfold remR; rw [if_neg (by omega)]
  refine ⟨e1, e2, ?_⟩
  unfold remP
  rw [e1, e2, Nat.add_sub_cancel]
theorem rem_4 {P : Nat → Pic} {rot : Nat} {N : Pic} : recN 4 = 4 ∧ remR 4 rot = rot + 1 ∧ remP P 4 rot N = va_up P ((4 - 1 + (rot + 1)) % 4) N := ⟨rfl, rfl, rfl⟩
/-! the row of the past sites, by itself -/
def oW (y : zY) (x : Nat) (k : Int32) (ps : Nat → Option Nat) : va_W := [(x, .inr (4, [.ref (x + 1), .ref (x + 12), .ref (x + 23), .int k, .ref (x + 24)])), (x + 23, .inl (y.2.2.2.2.2, 4, .inr (.inr (.inr (.inr ps)))))]
def oB (x : Nat) : Nat → Prop := fun q => q = x ∨ q = x + 23
theorem oB_no {x q : Nat} (h : (x < q ∧ q < x + 23) ∨ x + 23 < q) : ¬ oB x q := fun z => by
  rcases (show q = x ∨ q = x + 23 from z) with e | e <;> omega
theorem oW_D {y : zY} {x : Nat} {k : Int32} {ps : Nat → Option Nat} : va_D (oB x) (oW y x k ps) := by
  refine ⟨fun i j p q hi hj e => ?_, fun k q hk => ?_⟩
  · have h1 : i < 2 := (List.getElem?_eq_some_iff.mp hi).1
    have h2 : j < 2 := (List.getElem?_eq_some_iff.mp hj).1
    rcases (show i = 0 ∨ i = 1 by omega) with rfl | rfl <;> rcases (show j = 0 ∨ j = 1 by omega) with rfl | rfl
    · rfl
    · cases hi; cases hj
      have e2 : x = x + 23 := e
      omega
    · cases hi; cases hj
      have e2 : x + 23 = x := e
      omega
    · rfl
  · have h1 : k < 2 := (List.getElem?_eq_some_iff.mp hk).1
    rcases (show k = 0 ∨ k = 1 by omega) with rfl | rfl
    · cases hk; exact Or.inl rfl
    · cases hk; exact Or.inr rfl
theorem xW7_o {D : va_G} {y : zY} {x : Nat} {H : Heap} {k : Int32} {ps : Nat → Option Nat} {len ts tn fo cr ni ho sw : Int32} {tx : Nat → Int32} (hP : va_P D vwCl (xW7 y x k ps len ts tn fo cr ni ho sw tx) H) : va_P D vwCl (oW y x k ps) H := fun i q hi => match i, hi with
  | 0, hi => (by cases hi; exact hP 0 _ rfl)
  | 1, hi => (by cases hi; exact hP 1 _ rfl)
  | i + 2, hi => (by simp [oW] at hi)
theorem xW7_so {D : va_G} {y : zY} {x : Nat} {H H1 : Heap} {k k' : Int32} {ps ps' : Nat → Option Nat} {len ts tn fo cr ni ho sw : Int32} {tx : Nat → Int32} (hP : va_P D vwCl (xW7 y x k ps len ts tn fo cr ni ho sw tx) H) (hk : ∀ q : Nat, q < H.size → ¬ oB x q → H1[q]? = H[q]?) (hoW : va_P D vwCl (oW y x k' ps') H1) : va_P D vwCl (xW7 y x k' ps' len ts tn fo cr ni ho sw tx) H1 := fun i q hi => match i, hi with
  | 0, hi => (by cases hi; exact hoW 0 _ rfl)
  | 1, hi => (by cases hi; exact hoW 1 _ rfl)
  | 2, hi => (by cases hi; exact (hP 2 _ rfl).kept (hk _ (hP 2 _ rfl).lt (oB_no (by show (x < x + 24 ∧ _) ∨ x + 23 < x + 24; omega))))
  | 3, hi => (by cases hi; exact (hP 3 _ rfl).kept (hk _ (hP 3 _ rfl).lt (oB_no (by show (x < x + 25 ∧ _) ∨ x + 23 < x + 25; omega))))
  | i + 4, hi => (by simp [xW7] at hi)
/-- each past site one place nearer to the front -/
def shP (x rot : Nat) (pf : Nat → Option Nat) : Nat → Nat → Option Nat
  | 0 => pf
  | j + 1 => va_up (shP x rot pf j) j (some (x + 26 + 11 * ((j + 1 + rot) % 4)))
theorem sh_ge {x rot : Nat} {pf : Nat → Option Nat} : ∀ j i, j ≤ i → shP x rot pf j i = pf i
  | 0, _, _ => rfl
  | j + 1, i, h => by rw [shP, va_up_ne _ _ (by omega)]; exact sh_ge j i (by omega)
theorem sh_lt {x rot : Nat} {pf : Nat → Option Nat} : ∀ j i, i < j → shP x rot pf j i = some (x + 26 + 11 * ((i + 1 + rot) % 4))
  | 0, _, h => absurd h (Nat.not_lt_zero _)
  | j + 1, i, h => by
    rw [shP]
    by_cases e : i = j
    · subst e; rw [va_up_self]
    · rw [va_up_ne _ _ e]; exact sh_lt j i (by omega)
theorem sh_at {x rot j : Nat} {pf : Nat → Option Nat} (hps : ∀ j, j < 4 → pf j = some (x + 26 + 11 * ((j + rot) % 4))) (h : j + 1 < 4) : shP x rot pf j (j + 1) = some (x + 26 + 11 * ((j + 1 + rot) % 4)) := (sh_ge j (j + 1) (Nat.le_succ j)).trans (hps (j + 1) h)
theorem sh_rot {x rot : Nat} {pf : Nat → Option Nat} (hps : ∀ j, j < 4 → pf j = some (x + 26 + 11 * ((j + rot) % 4))) : ∀ j, j < 4 → va_up (shP x rot pf 3) (4 - 1) (some (x + 26 + 11 * ((0 + rot) % 4))) j = some (x + 26 + 11 * ((j + (rot + 1)) % 4)) := fun j hj => by
  by_cases e : j = 3
  · subst e
    rw [show (4 - 1 : Nat) = 3 from rfl, va_up_self, show (0 + rot) % 4 = (3 + (rot + 1)) % 4 by omega]
  · rw [va_up_ne _ _ (by omega), sh_lt 3 j (by omega), show (j + 1 + rot) % 4 = (j + (rot + 1)) % 4 by omega]
/-! one number of a site changed -/
section PUT
variable {D : va_G} {y : zY} {bd a : Nat} {H H1 : Heap} {d : Nat → Int32} {ca pa pk : Nat → Nat} {cs : Nat → Option Nat} {ns se wi al re gi : Nat → Int32} {ps : Nat → Option Nat} {ss : Nat → Int32} {vs : Nat → Option Nat}
theorem crA.cong5 {q c : Nat} {d d' : Nat → Int32} (h : crA D y q c d H) (e : ∀ k, k < 5 → gr d' c k = gr d c k) : crA D y q c d' H := by
  unfold crA eiF at *
  rw [e 0 (by decide), e 1 (by decide), e 2 (by decide), e 3 (by decide), e 4 (by decide)]
  exact h
theorem sD_low {d' : Nat → Int32} {ns' se' wi' al' re' gi' : Nat → Int32} (hP : va_P D vwCl (sWs y a cs (nI (nC d)) ns' se' wi' al' re' gi' ps (nI (nG d)) ss vs (nI (vn d))) H1) (hk : ∀ q, q < H.size → bd ≤ q → H1[q]? = H[q]?) (hR : sR d ca pa cs ns se wi al re gi ps ss vs) (hC : ∀ c, c < nC d → bd ≤ ca c ∧ crA D y (ca c) c d H) (hE : ∀ p, p < nG d → bd ≤ pa p ∧ bd ≤ pk p ∧ peA D y (pa p) p (pk p) d H) (hT : sT D bd cs ps vs H) (hI : zI d)
    (h0 : d' 0 = d 0) (h4 : d' 442 = d 442) (hp : ∀ p k, k < 5 → pm d' p k = pm d p k) (hg : ∀ c k, c < 8 → k < 5 → gr d' c k = gr d c k)
    (r2 : ∀ c, c < nC d → ns' c = gr d' c 5) (r3 : ∀ i, i < 3 → se' i = d' (1 + i)) (r4 : ∀ i, i < 30 → wi' i = d' (52 + i)) (r5 : ∀ i, i < 120 → al' i = d' (82 + i)) (r6 : ∀ i, i < 120 → re' i = d' (202 + i)) (r7 : ∀ i, i < 120 → gi' i = d' (322 + i)) : sD D y bd a d' ca pa pk H1 := by
  have eC : nC d' = nC d := by unfold nC; rw [h0]
  have eG : nG d' = nG d := by unfold nG; rw [h4]
  have hL := vL_cong eG (fun p _ => hp p 4 (by decide))
  have h8 := hI.nc8
  have epC : ∀ p, pC d' p = pC d p := fun p => by unfold pC; rw [hp p 0 (by decide)]
  have k1 : ∀ q e, bd ≤ q → va_at D vwCl (q, e) H → va_at D vwCl (q, e) H1 := fun q e hq h => h.kept (hk q h.lt hq)
  have kc : ∀ q c, bd ≤ q → crA D y q c d H → crA D y q c d H1 := fun q c hq h => ⟨k1 _ _ hq h.1, k1 _ _ (by omega) h.2⟩
  obtain ⟨q1, q2, q3, q4, q5, q6, q7, q8, q9, q10⟩ := hR
  refine ⟨cs, ns', se', wi', al', re', gi', ps, ss, vs, by rw [eC, eG, vn_cong hL]; exact hP, ⟨fun c hc => q1 c (by omega), fun c hc => r2 c (by omega), r3, r4, r5, r6, r7, fun p hh => q8 p (by omega), fun p hh => ?_, fun i hi => ?_⟩, fun c hc => ?_, fun p hh => ?_, ⟨fun i q hq => ?_, fun i q hq => ?_, fun i q hq => ?_⟩⟩
  · rw [hp p 4 (by decide)]; exact q9 p (by omega)
  · rw [vn_cong hL] at hi; rw [vx_cong hL]; exact q10 i hi
  · exact ⟨(hC c (by omega)).1, (kc _ _ (hC c (by omega)).1 (hC c (by omega)).2).cong5 (fun k hk => hg c k (by omega) hk)⟩
  · have hp' : p < nG d := by omega
    obtain ⟨b1, b2, b3, b4⟩ := hE p hp'
    refine ⟨b1, b2, ?_, ?_⟩
    · rw [hp p 1 (by decide), hp p 2 (by decide), hp p 3 (by decide)]; exact k1 _ _ b1 b3
    · rw [epC]; exact (kc _ _ b2 b4).cong5 (fun k hk => hg _ k (hI.pc8 hp') hk)
  · obtain ⟨b1, fs, b2⟩ := hT.1 i q hq; exact ⟨b1, fs, k1 _ _ b1 b2⟩
  · obtain ⟨b1, fs, b2⟩ := hT.2.1 i q hq; exact ⟨b1, fs, k1 _ _ b1 b2⟩
  · obtain ⟨b1, fs, b2⟩ := hT.2.2 i q hq; exact ⟨b1, fs, k1 _ _ b1 b2⟩
theorem u_ne {f : Nat → Int32} {i j : Nat} {v : Int32} (h : j ≠ i) : upd f i v j = f j := pk_un h
theorem put_ns {i : Nat} {v : Int32} (hP : va_P D vwCl (sWs y a cs (nI (nC d)) ns se wi al re gi ps (nI (nG d)) ss vs (nI (vn d))) H) (hR : sR d ca pa cs ns se wi al re gi ps ss vs) (hC : ∀ c, c < nC d → bd ≤ ca c ∧ crA D y (ca c) c d H) (hE : ∀ p, p < nG d → bd ≤ pa p ∧ bd ≤ pk p ∧ peA D y (pa p) p (pk p) d H) (hT : sT D bd cs ps vs H) (hI : zI d) (hab : a + 11 ≤ bd) (hi : i < nC d) (hk : ∀ q, q < H.size → ¬ (q = a + 2) → H1[q]? = H[q]?) (he : va_P D vwCl (pWs y (a + 2) 8 (upd ns i v)) H1) : sD D y bd a (upd d (4 + 6 * i + 5) v) ca pa pk H1 := by
  have h8 := hI.nc8
  have hP1 := hP.callset (q0 := 2) sWs_D rfl hk (he 0 _ rfl)
  exact sD_low hP1 (fun q h1 h2 => hk q h1 (by omega)) hR hC hE hT hI (u_ne (by omega)) (u_ne (by omega)) (fun p k hk => u_ne (by omega)) (fun c k hc hk => u_ne (by omega))
    (fun c hc => by
    by_cases e : c = i
    · subst e; rw [show gr (upd d (4 + 6 * c + 5) v) c 5 = v from pk_us]; exact pk_us
    · rw [show gr (upd d (4 + 6 * i + 5) v) c 5 = gr d c 5 from u_ne (by omega), u_ne e]; exact hR.2.1 c hc)
    (fun j hj => by rw [u_ne (by omega)]; exact hR.2.2.1 j hj)
    (fun j hj => by rw [u_ne (by omega)]; exact hR.2.2.2.1 j hj)
    (fun j hj => by rw [u_ne (by omega)]; exact hR.2.2.2.2.1 j hj)
    (fun j hj => by rw [u_ne (by omega)]; exact hR.2.2.2.2.2.1 j hj)
    (fun j hj => by rw [u_ne (by omega)]; exact hR.2.2.2.2.2.2.1 j hj)
theorem put_se {i : Nat} {v : Int32} (hP : va_P D vwCl (sWs y a cs (nI (nC d)) ns se wi al re gi ps (nI (nG d)) ss vs (nI (vn d))) H) (hR : sR d ca pa cs ns se wi al re gi ps ss vs) (hC : ∀ c, c < nC d → bd ≤ ca c ∧ crA D y (ca c) c d H) (hE : ∀ p, p < nG d → bd ≤ pa p ∧ bd ≤ pk p ∧ peA D y (pa p) p (pk p) d H) (hT : sT D bd cs ps vs H) (hI : zI d) (hab : a + 11 ≤ bd) (hi : i < 3) (hk : ∀ q, q < H.size → ¬ (q = a + 3) → H1[q]? = H[q]?) (he : va_P D vwCl (pWs y (a + 3) 3 (upd se i v)) H1) : sD D y bd a (upd d (1 + i) v) ca pa pk H1 := by
  have h8 := hI.nc8
  have hP1 := hP.callset (q0 := 3) sWs_D rfl hk (he 0 _ rfl)
  exact sD_low hP1 (fun q h1 h2 => hk q h1 (by omega)) hR hC hE hT hI (u_ne (by omega)) (u_ne (by omega)) (fun p k hk => u_ne (by omega)) (fun c k hc hk => u_ne (by omega))
    (fun c hc => by rw [show gr (upd d (1 + i) v) c 5 = gr d c 5 from u_ne (by omega)]; exact hR.2.1 c hc)
    (fun j hj => by
    by_cases e : j = i
    · subst e; rw [pk_us, pk_us]
    · rw [u_ne e, u_ne (by omega)]; exact hR.2.2.1 j hj)
    (fun j hj => by rw [u_ne (by omega)]; exact hR.2.2.2.1 j hj)
    (fun j hj => by rw [u_ne (by omega)]; exact hR.2.2.2.2.1 j hj)
    (fun j hj => by rw [u_ne (by omega)]; exact hR.2.2.2.2.2.1 j hj)
    (fun j hj => by rw [u_ne (by omega)]; exact hR.2.2.2.2.2.2.1 j hj)
theorem put_wi {i : Nat} {v : Int32} (hP : va_P D vwCl (sWs y a cs (nI (nC d)) ns se wi al re gi ps (nI (nG d)) ss vs (nI (vn d))) H) (hR : sR d ca pa cs ns se wi al re gi ps ss vs) (hC : ∀ c, c < nC d → bd ≤ ca c ∧ crA D y (ca c) c d H) (hE : ∀ p, p < nG d → bd ≤ pa p ∧ bd ≤ pk p ∧ peA D y (pa p) p (pk p) d H) (hT : sT D bd cs ps vs H) (hI : zI d) (hab : a + 11 ≤ bd) (hi : i < 30) (hk : ∀ q, q < H.size → ¬ (q = a + 4) → H1[q]? = H[q]?) (he : va_P D vwCl (pWs y (a + 4) 30 (upd wi i v)) H1) : sD D y bd a (upd d (52 + i) v) ca pa pk H1 := by
  have h8 := hI.nc8
  have hP1 := hP.callset (q0 := 4) sWs_D rfl hk (he 0 _ rfl)
  exact sD_low hP1 (fun q h1 h2 => hk q h1 (by omega)) hR hC hE hT hI (u_ne (by omega)) (u_ne (by omega)) (fun p k hk => u_ne (by omega)) (fun c k hc hk => u_ne (by omega))
    (fun c hc => by rw [show gr (upd d (52 + i) v) c 5 = gr d c 5 from u_ne (by omega)]; exact hR.2.1 c hc)
    (fun j hj => by rw [u_ne (by omega)]; exact hR.2.2.1 j hj)
    (fun j hj => by
    by_cases e : j = i
    · subst e; rw [pk_us, pk_us]
    · rw [u_ne e, u_ne (by omega)]; exact hR.2.2.2.1 j hj)
    (fun j hj => by rw [u_ne (by omega)]; exact hR.2.2.2.2.1 j hj)
    (fun j hj => by rw [u_ne (by omega)]; exact hR.2.2.2.2.2.1 j hj)
    (fun j hj => by rw [u_ne (by omega)]; exact hR.2.2.2.2.2.2.1 j hj)
theorem put_al {i : Nat} {v : Int32} (hP : va_P D vwCl (sWs y a cs (nI (nC d)) ns se wi al re gi ps (nI (nG d)) ss vs (nI (vn d))) H) (hR : sR d ca pa cs ns se wi al re gi ps ss vs) (hC : ∀ c, c < nC d → bd ≤ ca c ∧ crA D y (ca c) c d H) (hE : ∀ p, p < nG d → bd ≤ pa p ∧ bd ≤ pk p ∧ peA D y (pa p) p (pk p) d H) (hT : sT D bd cs ps vs H) (hI : zI d) (hab : a + 11 ≤ bd) (hi : i < 120) (hk : ∀ q, q < H.size → ¬ (q = a + 5) → H1[q]? = H[q]?) (he : va_P D vwCl (pWs y (a + 5) 120 (upd al i v)) H1) : sD D y bd a (upd d (82 + i) v) ca pa pk H1 := by
  have h8 := hI.nc8
  have hP1 := hP.callset (q0 := 5) sWs_D rfl hk (he 0 _ rfl)
  exact sD_low hP1 (fun q h1 h2 => hk q h1 (by omega)) hR hC hE hT hI (u_ne (by omega)) (u_ne (by omega)) (fun p k hk => u_ne (by omega)) (fun c k hc hk => u_ne (by omega))
    (fun c hc => by rw [show gr (upd d (82 + i) v) c 5 = gr d c 5 from u_ne (by omega)]; exact hR.2.1 c hc)
    (fun j hj => by rw [u_ne (by omega)]; exact hR.2.2.1 j hj)
    (fun j hj => by rw [u_ne (by omega)]; exact hR.2.2.2.1 j hj)
    (fun j hj => by
    by_cases e : j = i
    · subst e; rw [pk_us, pk_us]
    · rw [u_ne e, u_ne (by omega)]; exact hR.2.2.2.2.1 j hj)
    (fun j hj => by rw [u_ne (by omega)]; exact hR.2.2.2.2.2.1 j hj)
    (fun j hj => by rw [u_ne (by omega)]; exact hR.2.2.2.2.2.2.1 j hj)
theorem put_re {i : Nat} {v : Int32} (hP : va_P D vwCl (sWs y a cs (nI (nC d)) ns se wi al re gi ps (nI (nG d)) ss vs (nI (vn d))) H) (hR : sR d ca pa cs ns se wi al re gi ps ss vs) (hC : ∀ c, c < nC d → bd ≤ ca c ∧ crA D y (ca c) c d H) (hE : ∀ p, p < nG d → bd ≤ pa p ∧ bd ≤ pk p ∧ peA D y (pa p) p (pk p) d H) (hT : sT D bd cs ps vs H) (hI : zI d) (hab : a + 11 ≤ bd) (hi : i < 120) (hk : ∀ q, q < H.size → ¬ (q = a + 6) → H1[q]? = H[q]?) (he : va_P D vwCl (pWs y (a + 6) 120 (upd re i v)) H1) : sD D y bd a (upd d (202 + i) v) ca pa pk H1 := by
  have h8 := hI.nc8
  have hP1 := hP.callset (q0 := 6) sWs_D rfl hk (he 0 _ rfl)
  exact sD_low hP1 (fun q h1 h2 => hk q h1 (by omega)) hR hC hE hT hI (u_ne (by omega)) (u_ne (by omega)) (fun p k hk => u_ne (by omega)) (fun c k hc hk => u_ne (by omega))
    (fun c hc => by rw [show gr (upd d (202 + i) v) c 5 = gr d c 5 from u_ne (by omega)]; exact hR.2.1 c hc)
    (fun j hj => by rw [u_ne (by omega)]; exact hR.2.2.1 j hj)
    (fun j hj => by rw [u_ne (by omega)]; exact hR.2.2.2.1 j hj)
    (fun j hj => by rw [u_ne (by omega)]; exact hR.2.2.2.2.1 j hj)
    (fun j hj => by
    by_cases e : j = i
    · subst e; rw [pk_us, pk_us]
    · rw [u_ne e, u_ne (by omega)]; exact hR.2.2.2.2.2.1 j hj)
    (fun j hj => by rw [u_ne (by omega)]; exact hR.2.2.2.2.2.2.1 j hj)
theorem put_gi {i : Nat} {v : Int32} (hP : va_P D vwCl (sWs y a cs (nI (nC d)) ns se wi al re gi ps (nI (nG d)) ss vs (nI (vn d))) H) (hR : sR d ca pa cs ns se wi al re gi ps ss vs) (hC : ∀ c, c < nC d → bd ≤ ca c ∧ crA D y (ca c) c d H) (hE : ∀ p, p < nG d → bd ≤ pa p ∧ bd ≤ pk p ∧ peA D y (pa p) p (pk p) d H) (hT : sT D bd cs ps vs H) (hI : zI d) (hab : a + 11 ≤ bd) (hi : i < 120) (hk : ∀ q, q < H.size → ¬ (q = a + 7) → H1[q]? = H[q]?) (he : va_P D vwCl (pWs y (a + 7) 120 (upd gi i v)) H1) : sD D y bd a (upd d (322 + i) v) ca pa pk H1 := by
  have h8 := hI.nc8
  have hP1 := hP.callset (q0 := 7) sWs_D rfl hk (he 0 _ rfl)
  exact sD_low hP1 (fun q h1 h2 => hk q h1 (by omega)) hR hC hE hT hI (u_ne (by omega)) (u_ne (by omega)) (fun p k hk => u_ne (by omega)) (fun c k hc hk => u_ne (by omega))
    (fun c hc => by rw [show gr (upd d (322 + i) v) c 5 = gr d c 5 from u_ne (by omega)]; exact hR.2.1 c hc)
    (fun j hj => by rw [u_ne (by omega)]; exact hR.2.2.1 j hj)
    (fun j hj => by rw [u_ne (by omega)]; exact hR.2.2.2.1 j hj)
    (fun j hj => by rw [u_ne (by omega)]; exact hR.2.2.2.2.1 j hj)
    (fun j hj => by rw [u_ne (by omega)]; exact hR.2.2.2.2.2.1 j hj)
    (fun j hj => by
    by_cases e : j = i
    · subst e; rw [pk_us, pk_us]
    · rw [u_ne e, u_ne (by omega)]; exact hR.2.2.2.2.2.2.1 j hj)
end PUT
