/-! THE PROPERTY: what holds between the law's calls, beside zJ -/
def stJ (d : Nat → Int32) : Prop := ∀ p, p < nG d → pm d p 4 = nI 1 ∨ pm d p 4 = nI 2 ∨ pm d p 4 = nI 3
def noA (d : Nat → Int32) : Prop := ∀ p q, p < nG d → q < nG d → pm d p 4 = nI 1 → pm d q 4 = nI 1 → aiP d p q = false
def mvN (d : Nat → Int32) (n : Nat) : Nat → Int32
  | 0 => nI 0
  | s + 1 => mvN d n s + (d (202 + (30 * s + n)) - d (322 + (30 * s + n)))
def mvJ (d : Nat → Int32) : Prop := ∀ n, n < 30 → mvN d n 4 = nI 0
def eJ (d : Nat → Int32) : Prop := stJ d ∧ noA d ∧ mvJ d
/-- a crane's place -/
def plC (d : Nat → Int32) : Prop := ∀ c, c < nC d → (∃ x, x < 16 ∧ gr d c 0 = nI x) ∧ gr d c 1 = nI (5 * c)
theorem mvN_cong {d d' : Nat → Int32} {n : Nat} (h : ∀ s, s < 4 → d' (202 + (30 * s + n)) = d (202 + (30 * s + n)) ∧ d' (322 + (30 * s + n)) = d (322 + (30 * s + n))) : ∀ s, s ≤ 4 → mvN d' n s = mvN d n s
  | 0, _ => rfl
  | s + 1, hs => by rw [mvN, mvN, mvN_cong h s (by omega), (h s (by omega)).1, (h s (by omega)).2]
theorem mvJ.cong {d d' : Nat → Int32} (hm : mvJ d) (h : ∀ i, 202 ≤ i → i < 442 → d' i = d i) : mvJ d' := fun n hn =>
  (mvN_cong (fun s hs => ⟨h _ (by omega) (by omega), h _ (by omega) (by omega)⟩) 4 (Nat.le_refl _)).trans (hm n hn)
theorem sub4 (A B r g : Int32) : A - B + (r - g) = A + r - (B + g) := by
  rw [Int32.sub_eq_add_neg, Int32.sub_eq_add_neg, Int32.sub_eq_add_neg, Int32.neg_add, Int32.sub_eq_add_neg]
  ac_rfl
theorem mvN_e (d : Nat → Int32) (n : Nat) : ∀ s, mvN d n s = sumN (fun t => d (202 + (30 * t + n))) s - sumN (fun t => d (322 + (30 * t + n))) s
  | 0 => (Int32.sub_self (nI 0)).symm
  | s + 1 => by rw [mvN, mvN_e d n s, sumN_s, sumN_s, sub4]
theorem sumN_up {f g : Nat → Int32} {b K : Nat} {c : Int32} (hb : g b = f b + c) (hne : ∀ t, t < K → t ≠ b → g t = f t) : ∀ s, s ≤ K → sumN g s = sumN f s + (if b < s then c else nI 0)
  | 0, _ => by rw [if_neg (Nat.not_lt_zero b)]; exact (add_z _).symm
  | s + 1, hs => by
    rw [sumN_s, sumN_s, sumN_up hb hne s (by omega)]
    by_cases h : b = s
    · subst h
      rw [if_neg (Nat.lt_irrefl b), if_pos (Nat.lt_succ_self b), add_z, hb]
      ac_rfl
    · rw [hne s (by omega) (fun q => h q.symm)]
      by_cases h2 : b < s
      · rw [if_pos h2, if_pos (by omega)]
        ac_rfl
      · rw [if_neg h2, if_neg (by omega), add_z, add_z]
theorem sub_eq0 {A B : Int32} (h : A - B = nI 0) : A = B := by
  have h2 := Int32.sub_eq_iff_eq_add.mp h
  rw [h2, show (nI 0 : Int32) = 0 from rfl, Int32.zero_add]
theorem mvJ.tra {d : Nat → Int32} (hm : mvJ d) {a b m : Nat} {c : Int32} (ha : a < 4) (hb : b < 4) (hmn : m < 30) : mvJ (traD d a b m c) := by
  intro n hn
  by_cases e : n = m
  · subst e
    have h0 := hm n hn
    rw [mvN_e] at h0 ⊢
    have h1 := sub_eq0 h0
    rw [sumN_up (f := fun t => d (202 + (30 * t + n))) (g := fun t => traD d a b n c (202 + (30 * t + n))) (b := b) (c := c) (K := 4) (tra_2 (by omega)) (fun t h4 ht => tra_n (by omega) (by omega)) 4 (Nat.le_refl _),
      sumN_up (f := fun t => d (322 + (30 * t + n))) (g := fun t => traD d a b n c (322 + (30 * t + n))) (b := a) (c := c) (K := 4) (tra_1 (by omega)) (fun t h4 ht => tra_n (by omega) (by omega)) 4 (Nat.le_refl _),
      if_pos hb, if_pos ha, h1]
    exact Int32.sub_self _
  · exact (mvN_cong (fun s hs => ⟨tra_n (by omega) (by omega), tra_n (by omega) (by omega)⟩) 4 (Nat.le_refl _)).trans (hm n hn)
/-! who shares air with whom -/
theorem cov_cong {d d' : Nat → Int32} {c : Nat} (hg : ∀ k, k < 4 → gr d' c k = gr d c k) (sw x y : Int32) : covB d' c sw x y = covB d c sw x y := by
  unfold covB
  rw [hg 0 (by decide), hg 1 (by decide), hg 2 (by decide)]
theorem am_cong {d d' : Nat → Int32} {a b : Nat} (ha : ∀ k, k < 4 → gr d' a k = gr d a k) (hb : ∀ k, k < 4 → gr d' b k = gr d b k) (s1 s2 : Int32) : amB d' a s1 b s2 = amB d a s1 b s2 := by
  have e : (fun i => covC d' a s1 i && covC d' b s2 i) = (fun i => covC d a s1 i && covC d b s2 i) := funext (fun i => by
    unfold covC
    rw [cov_cong ha, cov_cong hb])
  unfold amB
  rw [e]
theorem air_cong {d d' : Nat → Int32} {c p : Nat} (n h sw : Int32) (h3 : d' 3 = d 3) (hp : ∀ k, k < 4 → pm d' p k = pm d p k) (hg : ∀ c k, c < 8 → k < 4 → gr d' c k = gr d c k) (hc : c < 8) (h8 : pC d p < 8) : airB d' c n h sw p = airB d c n h sw p := by
  have ep : pC d' p = pC d p := by unfold pC; rw [hp 0 (by decide)]
  unfold airB
  rw [ep, hp 1 (by decide), hp 2 (by decide), hp 3 (by decide), h3, hg c 3 hc (by decide), hg (pC d p) 3 h8 (by decide), am_cong (fun k hk => hg c k hc hk) (fun k hk => hg (pC d p) k h8 hk)]
theorem ai_cong {d d' : Nat → Int32} {p q : Nat} (h3 : d' 3 = d 3) (hp : ∀ k, k < 4 → pm d' p k = pm d p k) (hq : ∀ k, k < 4 → pm d' q k = pm d q k) (hg : ∀ c k, c < 8 → k < 4 → gr d' c k = gr d c k) (h8 : pC d p < 8) (h9 : pC d q < 8) : aiP d' p q = aiP d p q := by
  have ep : pC d' p = pC d p := by unfold pC; rw [hp 0 (by decide)]
  unfold aiP
  rw [ep, hp 1 (by decide), hp 2 (by decide), hp 3 (by decide), air_cong _ _ _ h3 hq hg h8 h9]
theorem noA.cong {d d' : Nat → Int32} (h : noA d) (hI : zI d) (hG : nG d' = nG d) (h3 : d' 3 = d 3) (hp : ∀ r k, r < nG d → k < 4 → pm d' r k = pm d r k) (hg : ∀ c k, c < 8 → k < 4 → gr d' c k = gr d c k) (hv : ∀ p, p < nG d → pm d' p 4 = nI 1 → pm d p 4 = nI 1) : noA d' := fun p q hp' hq' a b => by
  rw [hG] at hp' hq'
  rw [ai_cong h3 (fun k hk => hp p k hp' hk) (fun k hk => hp q k hq' hk) hg (hI.pc8 hp') (hI.pc8 hq')]
  exact h p q hp' hq' (hv p hp' a) (hv q hq' b)
/-! the changes -/
theorem eJ.mk {d : Nat → Int32} (h : eJ d) (hI : zI d) (W : Nat → Bool) (z : Int32) : eJ (upd (mkD d W) 444 z) := by
  have hG : nG (upd (mkD d W) 444 z) = nG d := by rw [z_G, mk_G]
  have h4 : ∀ p, pm (upd (mkD d W) 444 z) p 4 = if W p = true then nI 3 else pm d p 4 := fun p => by rw [z_pm, mk_4]
  refine ⟨fun p hp => ?_, h.2.1.cong hI hG (by rw [z_lo (by decide), mk_lo (by decide)]) (fun r k _ hk => by rw [z_pm, mk_pm hk]) (fun c k hc hk => by rw [z_gr hc (by omega), mk_gr hc (by omega)]) (fun p hp h1 => ?_), h.2.2.cong (fun i h1 h2 => by rw [z_lo (by omega), mk_lo (by omega)])⟩
  · rw [h4]
    rw [hG] at hp
    split
    · exact Or.inr (Or.inr rfl)
    · exact h.1 p hp
  · rw [h4] at h1
    split at h1
    · exact absurd h1 n31
    · exact h1
theorem eJ.up {d : Nat → Int32} (h : eJ d) (hI : zI d) {k : Nat} {v : Int32} (hk : k < 202) (h3 : k ≠ 3) (hg : ∀ c j, c < 8 → j < 4 → 4 + 6 * c + j ≠ k) : eJ (upd d k v) := by
  have hG : nG (upd d k v) = nG d := up_G (by omega)
  refine ⟨fun p hp => ?_, h.2.1.cong hI hG (u_ne (by omega)) (fun r j _ _ => up_pm (by omega) r j) (fun c j hc hj => u_ne (hg c j hc hj)) (fun p _ h1 => ?_), h.2.2.cong (fun i h1 _ => u_ne (by omega))⟩
  · rw [up_pm (by omega)]
    rw [hG] at hp
    exact h.1 p hp
  · rw [up_pm (by omega)] at h1
    exact h1
theorem eJ.tra {d : Nat → Int32} (h : eJ d) (hI : zI d) {a b m : Nat} {c : Int32} (ha : a < 4) (hb : b < 4) (hm : m < 30) : eJ (traD d a b m c) := by
  have lo : ∀ i, i < 202 ∨ 442 ≤ i → traD d a b m c i = d i := fun i hi => tra_n (by omega) (by omega)
  have hG : nG (traD d a b m c) = nG d := by unfold nG; rw [lo _ (by omega)]
  have e4 : ∀ p k, pm (traD d a b m c) p k = pm d p k := fun p k => lo _ (by omega)
  refine ⟨fun p hp => ?_, h.2.1.cong hI hG (lo _ (by omega)) (fun r j _ _ => e4 r j) (fun c j hc hj => lo _ (by omega)) (fun p _ h1 => ?_), h.2.2.tra ha hb hm⟩
  · rw [e4]
    rw [hG] at hp
    exact h.1 p hp
  · rw [e4] at h1
    exact h1
theorem wdr_n {d : Nat → Int32} {p i : Nat} (h1 : i ≠ 445 + 5 * p + 4) (h2 : i ≠ 443) : wdrD d p i = d i := (u_ne h2).trans (u_ne h1)
theorem wdr_4 (d : Nat → Int32) (p : Nat) : pm (wdrD d p) p 4 = nI 2 := (u_ne (show 445 + 5 * p + 4 ≠ 443 by omega)).trans pk_us
theorem eJ.wdr {d : Nat → Int32} (h : eJ d) (hI : zI d) (p : Nat) : eJ (wdrD d p) := by
  have hG : nG (wdrD d p) = nG d := by unfold nG; rw [wdr_n (by omega) (by decide)]
  have e4 : ∀ q, ¬ q = p → pm (wdrD d p) q 4 = pm d q 4 := fun q hq => wdr_n (by omega) (by omega)
  refine ⟨fun q hq => ?_, h.2.1.cong hI hG (wdr_n (by omega) (by decide)) (fun r j _ hj => wdr_n (by omega) (by omega)) (fun c j hc hj => wdr_n (by omega) (by omega)) (fun q _ h1 => ?_), h.2.2.cong (fun i h1 h2 => wdr_n (by omega) (by omega))⟩
  · rw [hG] at hq
    by_cases e : q = p
    · subst e; exact Or.inr (Or.inl (wdr_4 d q))
    · rw [e4 q e]; exact h.1 q hq
  · by_cases e : q = p
    · subst e
      rw [wdr_4] at h1
      exact absurd h1 (by decide)
    · rw [e4 q e] at h1; exact h1
theorem gra_n {d : Nat → Int32} {c n : Nat} {h sw : Int32} {i : Nat} (h1 : i < 445 + 5 * nG d ∨ 445 + 5 * nG d + 5 ≤ i) (h2 : i ≠ 442) : graD d c n h sw i = d i :=
  (u_ne h2).trans ((u_ne (by omega)).trans ((u_ne (by omega)).trans ((u_ne (by omega)).trans ((u_ne (by omega)).trans (u_ne (by omega))))))
theorem gra_v {d : Nat → Int32} (hI : zI d) (hg : nG d < 200) {c n : Nat} {h sw : Int32} : nG (graD d c n h sw) = nG d + 1 ∧ pm (graD d c n h sw) (nG d) 0 = nI c ∧ pm (graD d c n h sw) (nG d) 1 = nI n ∧ pm (graD d c n h sw) (nG d) 2 = h ∧ pm (graD d c n h sw) (nG d) 3 = sw ∧ pm (graD d c n h sw) (nG d) 4 = nI 1 := by
  refine ⟨?_, ?_, ?_, ?_, ?_, ?_⟩
  · unfold nG
    rw [show graD d c n h sw 442 = nI (nG d) + nI 1 from pk_us, nI_add]
    exact cl_nI (by omega)
  · exact (u_ne (by omega)).trans ((u_ne (by omega)).trans ((u_ne (by omega)).trans ((u_ne (by omega)).trans ((u_ne (by omega)).trans pk_us))))
  · exact (u_ne (by omega)).trans ((u_ne (by omega)).trans ((u_ne (by omega)).trans ((u_ne (by omega)).trans pk_us)))
  · exact (u_ne (by omega)).trans ((u_ne (by omega)).trans ((u_ne (by omega)).trans pk_us))
  · exact (u_ne (by omega)).trans ((u_ne (by omega)).trans pk_us)
  · exact (u_ne (by omega)).trans pk_us
theorem rfs_0 {d : Nat → Int32} {c n : Nat} {h sw : Int32} (hr : rfsI d c n h sw = nI 0) : oI (fiaO d c (nI n) h sw) = (-1) := by
  unfold rfsI at hr
  split at hr
  · exact absurd hr (by decide)
  · split at hr
    · exact absurd hr (by decide)
    · split at hr
      · assumption
      · exact absurd hr (by decide)
theorem fia_no {d : Nat → Int32} (hI : zI d) {c : Nat} {n h sw : Int32} (ho : oI (fiaO d c n h sw) = (-1)) {q : Nat} (hq : q < nG d) (h4 : pm d q 4 = nI 1) : airB d c n h sw q = false := by
  have hn : fiaO d c n h sw = none := by
    cases e : fiaO d c n h sw with
    | none => rfl
    | some p =>
      rw [e] at ho
      exact absurd ho (oI_ne (fia_lt hI p e))
  unfold fiaO at hn
  rw [List.find?_eq_none] at hn
  have h1 := hn q (List.mem_range.mpr hq)
  unfold fiaP at h1
  rw [decide_eq_true h4, Bool.true_and] at h1
  simpa using h1
theorem eJ.gra {d : Nat → Int32} (h : eJ d) (hI : zI d) (hg : nG d < 200) {c n : Nat} {hh sw : Int32} (hc : c < nC d) (hr : rfsI d c n hh sw = nI 0) : eJ (graD d c n hh sw) := by
  obtain ⟨g0, g1, g2, g3, g4, g5⟩ := gra_v hI hg (c := c) (n := n) (h := hh) (sw := sw)
  have c8 := hI.nc8
  have ho := rfs_0 hr
  have lo : ∀ i, i < 442 → graD d c n hh sw i = d i := fun i hi => gra_n (by omega) (by omega)
  have eg : ∀ c' k, c' < 8 → k < 4 → gr (graD d c n hh sw) c' k = gr d c' k := fun c' k h1 h2 => lo _ (by omega)
  have ep : ∀ p k, p < nG d → k < 5 → pm (graD d c n hh sw) p k = pm d p k := fun p k h1 h2 => gra_n (by omega) (by omega)
  have eC : pC (graD d c n hh sw) (nG d) = c := by unfold pC; rw [g1]; exact cl_nI (by omega)
  have new : ∀ q, q < nG d → pm d q 4 = nI 1 → aiP (graD d c n hh sw) (nG d) q = false := fun q hq h4 => by
    unfold aiP
    rw [eC, g2, g3, g4, air_cong _ _ _ (lo 3 (by decide)) (fun k hk => ep q k hq (by omega)) eg (by omega) (hI.pc8 hq)]
    exact fia_no hI ho hq h4
  have own : aiP (graD d c n hh sw) (nG d) (nG d) = false := by
    unfold aiP airB
    rw [decide_eq_true rfl]
    rfl
  refine ⟨fun p hp => ?_, fun p q hp hq h1 h2 => ?_, h.2.2.cong (fun i _ h2 => lo i h2)⟩
  · by_cases e : p = nG d
    · subst e; exact Or.inl g5
    · rw [ep p 4 (by omega) (by decide)]; exact h.1 p (by omega)
  · by_cases e1 : p = nG d
    · subst e1
      by_cases e2 : q = nG d
      · rw [e2]; exact own
      · rw [ep q 4 (by omega) (by decide)] at h2
        exact new q (by omega) h2
    · rw [ep p 4 (by omega) (by decide)] at h1
      by_cases e2 : q = nG d
      · subst e2
        rw [aiP_c]
        exact new p (by omega) h1
      · rw [ep q 4 (by omega) (by decide)] at h2
        rw [ai_cong (lo 3 (by decide)) (fun k hk => ep p k (by omega) (by omega)) (fun k hk => ep q k (by omega) (by omega)) eg (hI.pc8 (by omega)) (hI.pc8 (by omega))]
        exact h.2.1 p q (by omega) (by omega) h1 h2
theorem add_0 {d : Nat → Int32} {x z r h st no : Int32} : addC d x z r h st no 0 = nI (nC d) + nI 1 := pk_us
theorem add_G {d : Nat → Int32} (h8 : nC d < 8) {x z r h st no : Int32} : nG (addC d x z r h st no) = nG d := by
  unfold nG
  rw [add_at (by decide) (by omega)]
theorem add_C {d : Nat → Int32} (h8 : nC d < 8) {x z r h st no : Int32} : nC (addC d x z r h st no) = nC d + 1 := by
  unfold nC
  rw [add_0, nI_add]
  exact cl_nI (by omega)
theorem eJ.add {d : Nat → Int32} (h : eJ d) (h8 : nC d < 8) (h0 : nG d = 0) {x z r hh st no : Int32} : eJ (addC d x z r hh st no) := by
  have hG := add_G h8 (x := x) (z := z) (r := r) (h := hh) (st := st) (no := no)
  exact ⟨fun p hp => by rw [hG] at hp; omega, fun p q hp => by rw [hG] at hp; omega, h.2.2.cong (fun i h1 h2 => add_at (by omega) (by omega))⟩
theorem add_own {d : Nat → Int32} {x z r h st no : Int32} : gr (addC d x z r h st no) (nC d) 0 = x ∧ gr (addC d x z r h st no) (nC d) 1 = z := by
  unfold gr addC
  refine ⟨?_, ?_⟩
  · rw [u_ne (by omega), u_ne (by omega), u_ne (by omega), u_ne (by omega), u_ne (by omega), u_ne (by omega)]
    exact pk_us
  · rw [u_ne (by omega), u_ne (by omega), u_ne (by omega), u_ne (by omega), u_ne (by omega)]
    exact pk_us
theorem plC.add {d : Nat → Int32} (h : plC d) (h8 : nC d < 8) {x : Nat} {z r hh st no : Int32} (hx : x < 16) (hz : z = nI (5 * nC d)) : plC (addC d (nI x) z r hh st no) := by
  intro c hc
  rw [add_C h8] at hc
  by_cases e : c = nC d
  · subst e
    rw [add_own.1, add_own.2]
    exact ⟨⟨x, hx, rfl⟩, hz⟩
  · have a : ∀ k, k < 2 → gr (addC d (nI x) z r hh st no) c k = gr d c k := fun k hk => add_at (by omega) (Or.inl (by omega))
    rw [a 0 (by decide), a 1 (by decide)]
    exact h c (by omega)
theorem plC.cong {d d' : Nat → Int32} (h : plC d) (hC : nC d' = nC d) (h8 : nC d ≤ 8) (hg : ∀ c k, c < 8 → k < 2 → gr d' c k = gr d c k) : plC d' := fun c hc => by
  rw [hC] at hc
  rw [hg c 0 (by omega) (by decide), hg c 1 (by omega) (by decide)]
  exact h c hc
theorem eJ.ini : eJ (iniD 120) := by
  have hG := ini_G
  refine ⟨fun p hp => by rw [hG] at hp; omega, fun p q hp => by rw [hG] at hp; omega, fun n hn => ?_⟩
  have h1 : ∀ i, 202 ≤ i → i < 442 → iniD 120 i = 0 := fun i a b => ini_0 (by omega)
  rw [mvN, mvN, mvN, mvN, mvN]
  repeat rw [h1 _ (by omega) (by omega)]
  rfl
theorem plC.ini : plC (iniD 120) := fun c hc => by rw [ini_C] at hc; omega
