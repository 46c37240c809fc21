/-! PURE: permits withdrawn as a set -/
def mkD (d : Nat → Int32) (W : Nat → Bool) : Nat → Int32 := fun i => if 445 ≤ i ∧ (i - 445) % 5 = 4 ∧ W ((i - 445) / 5) = true then nI 3 else d i
theorem mk_lo {d : Nat → Int32} {W : Nat → Bool} {i : Nat} (h : i < 445) : mkD d W i = d i := by unfold mkD; rw [if_neg (by omega)]
theorem mk_pm {d : Nat → Int32} {W : Nat → Bool} {p k : Nat} (h : k < 4) : pm (mkD d W) p k = pm d p k := by unfold pm mkD; rw [if_neg (by omega)]
theorem mk_4 {d : Nat → Int32} {W : Nat → Bool} {p : Nat} : pm (mkD d W) p 4 = if W p = true then nI 3 else pm d p 4 := by
  unfold pm mkD
  rw [show (445 + 5 * p + 4 - 445) / 5 = p by omega]
  by_cases h : W p = true
  · rw [if_pos ⟨by omega, by omega, h⟩, if_pos h]
  · rw [if_neg (fun q => h q.2.2), if_neg h]
theorem mk_gr {d : Nat → Int32} {W : Nat → Bool} {c k : Nat} (hc : c < 8) (hk : k < 6) : gr (mkD d W) c k = gr d c k := mk_lo (by omega)
theorem mk_up {d : Nat → Int32} {W : Nat → Bool} {p : Nat} : upd (mkD d W) (445 + 5 * p + 4) (nI 3) = mkD d (fun q => W q || decide (q = p)) := by
  funext i
  by_cases h : i = 445 + 5 * p + 4
  · subst h
    rw [pk_us]; unfold mkD
    rw [if_pos ⟨by omega, by omega, by rw [show (445 + 5 * p + 4 - 445) / 5 = p by omega]; simp⟩]
  · rw [pk_un h]; unfold mkD
    by_cases h2 : 445 ≤ i ∧ (i - 445) % 5 = 4
    · have e : decide ((i - 445) / 5 = p) = false := decide_eq_false (by omega)
      show _ = if 445 ≤ i ∧ (i - 445) % 5 = 4 ∧ (W ((i - 445) / 5) || decide ((i - 445) / 5 = p)) = true then nI 3 else d i
      rw [e, Bool.or_false]
    · rw [if_neg (fun q => h2 ⟨q.1, q.2.1⟩), if_neg (fun q => h2 ⟨q.1, q.2.1⟩)]
theorem mk_0 (d : Nat → Int32) : mkD d (fun _ => false) = d := by
  funext i; unfold mkD; rw [if_neg (fun q => Bool.noConfusion q.2.2)]
theorem mk_mk (d : Nat → Int32) (W V : Nat → Bool) (z : Int32) : mkD (upd (mkD d W) 444 z) V = upd (mkD d (fun q => W q || V q)) 444 z := by
  funext i
  by_cases h : i = 444
  · subst h; rw [mk_lo (by decide), pk_us, pk_us]
  · rw [pk_un h]
    unfold mkD
    rw [pk_un h]
    by_cases h2 : 445 ≤ i ∧ (i - 445) % 5 = 4
    · cases hW : W ((i - 445) / 5) <;> cases hV : V ((i - 445) / 5) <;> simp [h2, hW, hV]
    · rw [if_neg (fun q => h2 ⟨q.1, q.2.1⟩), if_neg (fun q => h2 ⟨q.1, q.2.1⟩), if_neg (fun q => h2 ⟨q.1, q.2.1⟩)]
theorem mk_G (d : Nat → Int32) (W : Nat → Bool) : nG (mkD d W) = nG d := by unfold nG; rw [mk_lo (by decide)]
theorem mk_C (d : Nat → Int32) (W : Nat → Bool) : nC (mkD d W) = nC d := by unfold nC; rw [mk_lo (by decide)]
theorem mk_pC (d : Nat → Int32) (W : Nat → Bool) (p : Nat) : pC (mkD d W) p = pC d p := by unfold pC; rw [mk_pm (by decide)]
theorem mk_sC (d : Nat → Int32) (W : Nat → Bool) {c : Nat} (hc : c < 8) : sC (mkD d W) c = sC d c := by unfold sC; rw [mk_gr hc (by decide)]
theorem mk_nN (d : Nat → Int32) (W : Nat → Bool) (p : Nat) : nN (mkD d W) p = nN d p := by unfold nN; rw [mk_pm (by decide)]
theorem mk_us {d : Nat → Int32} (W : Nat → Bool) {p : Nat} (h : pC d p < 8) : usI (mkD d W) p = usI d p := by unfold usI; rw [mk_pm (by decide), mk_pC, mk_gr h (by decide)]
theorem mk_cre (d : Nat → Int32) (W : Nat → Bool) {st n : Nat} (h1 : st < 4) (h2 : n < 30) : creI (mkD d W) st n = creI d st n := by
  unfold creI alwI
  rw [mk_lo (by omega), mk_lo (by omega), mk_lo (by omega), mk_lo (by omega)]
theorem mk_stp (d : Nat → Int32) (W : Nat → Bool) {c n : Nat} (h1 : c < 8) (h2 : n < 30) : stpB (mkD d W) c n = stpB d c n := by
  unfold stpB
  rw [mk_lo (by omega), mk_lo (by omega), mk_gr h1 (by decide)]
theorem n31 : ¬ (nI 3 = nI 1) := by decide
theorem mk_of {d : Nat → Int32} (W : Nat → Bool) {p : Nat} (h : pC d p < 8) (st n : Int32) : ofB (mkD d W) p st n = (ofB d p st n && !W p) := by
  unfold ofB
  rw [mk_4, mk_pm (by decide), mk_pC, mk_gr h (by decide)]
  cases hW : W p with
  | false => rw [if_neg Bool.false_ne_true]; simp
  | true => rw [if_pos rfl, decide_eq_false n31]; simp
theorem mk_I {d : Nat → Int32} (hI : zI d) (W : Nat → Bool) : zI (mkD d W) := (hI.keep (d' := mkD d W) (mk_lo (by decide)) (mk_lo (by decide)) (fun p _ => mk_pm (by decide)) (fun c hc => mk_gr hc (by decide))).1
theorem mk_pl {d : Nat → Int32} (h : plJ d) (W : Nat → Bool) : plJ (mkD d W) := fun p hp => by
  rw [mk_G] at hp
  rw [mk_pm (by decide), mk_pm (by decide), mk_pm (by decide)]
  exact h p hp
theorem mk_vL (d : Nat → Int32) (W : Nat → Bool) : vL (mkD d W) = (vL d).filter (fun p => !W p) := by
  unfold vL
  rw [mk_G, List.filter_filter]
  refine List.filter_congr (fun p _ => ?_)
  rw [mk_4]
  cases hW : W p with
  | false => rw [if_neg Bool.false_ne_true]; simp
  | true => rw [if_pos rfl, decide_eq_false n31]; simp
theorem mk_vn (d : Nat → Int32) (W : Nat → Bool) : vn (mkD d W) ≤ vn d := by unfold vn; rw [mk_vL]; exact List.length_filter_le _ _
/-! 444 counts nowhere -/
theorem z_pm (d : Nat → Int32) (z : Int32) (p k : Nat) : pm (upd d 444 z) p k = pm d p k := pm_far d (by omega)
theorem z_lo {d : Nat → Int32} {z : Int32} {i : Nat} (h : i ≠ 444) : upd d 444 z i = d i := pk_un h
theorem z_G (d : Nat → Int32) (z : Int32) : nG (upd d 444 z) = nG d := by unfold nG; rw [z_lo (by decide)]
theorem z_C (d : Nat → Int32) (z : Int32) : nC (upd d 444 z) = nC d := by unfold nC; rw [z_lo (by decide)]
theorem z_pC (d : Nat → Int32) (z : Int32) (p : Nat) : pC (upd d 444 z) p = pC d p := by unfold pC; rw [z_pm]
theorem z_gr {d : Nat → Int32} {z : Int32} {c k : Nat} (h : c < 8) (hk : k < 6) : gr (upd d 444 z) c k = gr d c k := gr_far d (by omega)
theorem z_vL (d : Nat → Int32) (z : Int32) : vL (upd d 444 z) = vL d := vL_cong (z_G d z) (fun p _ => z_pm d z p 4)
theorem z_vn (d : Nat → Int32) (z : Int32) : vn (upd d 444 z) = vn d := vn_cong (z_vL d z)
theorem z_of {d : Nat → Int32} (z : Int32) {p : Nat} (h : pC d p < 8) (st n : Int32) : ofB (upd d 444 z) p st n = ofB d p st n := by unfold ofB; rw [z_pm, z_pm, z_pC, z_gr h (by decide)]
theorem z_us {d : Nat → Int32} (z : Int32) {p : Nat} (h : pC d p < 8) : usI (upd d 444 z) p = usI d p := by unfold usI; rw [z_pm, z_pC, z_gr h (by decide)]
theorem z_used {d : Nat → Int32} (hI : zI d) (z : Int32) (st n : Int32) : usedI (upd d 444 z) st n = usedI d st n := by
  unfold usedI
  rw [z_G]
  refine sumN_cong (fun p hp => ?_)
  unfold usedF
  rw [z_of z (hI.pc8 hp), z_us z (hI.pc8 hp)]
theorem z_cre (d : Nat → Int32) (z : Int32) {st n : Nat} (h1 : st < 4) (h2 : n < 30) : creI (upd d 444 z) st n = creI d st n := by
  unfold creI alwI
  rw [z_lo (by omega), z_lo (by omega), z_lo (by omega), z_lo (by omega)]
/-! what is used, in small numbers -/
def nzB (d : Nat → Int32) : Prop := ∀ c, c < nC d → inB (gr d c 5) (nI 1) (nI 9) = true
def uN (d : Nat → Int32) (p : Nat) : Nat := cl (usI d p)
theorem hrs_n {h : Int32} (hh : ahrB h = true) : ∃ k, k ≤ 10 ∧ hrsI h = nI k := by
  obtain ⟨j, hj, e, e1, e2, e3⟩ := ahr_n hh
  refine ⟨j % 10 - j / 10 + 1, by omega, ?_⟩
  unfold hrsI
  rw [e2, e1, pk_sub e3, nI_add]
theorem us_n {d : Nat → Int32} (hI : zI d) (hpl : plJ d) (hz : nzB d) {p : Nat} (hp : p < nG d) : usI d p = nI (uN d p) ∧ uN d p ≤ 90 := by
  obtain ⟨k, hk, e⟩ := hrs_n (hpl.h hp)
  obtain ⟨j, -, hj, e2⟩ := inB_nat (by decide) (hz _ (hI.pcn hp)) (by decide)
  have hm : k * j ≤ 10 * 9 := Nat.mul_le_mul hk hj
  have e3 : usI d p = nI (k * j) := by unfold usI; rw [e, e2, pk_mul]
  unfold uN
  rw [e3, cl_nI (by omega)]
  exact ⟨rfl, hm⟩
def uT (d : Nat → Int32) (W : Nat → Bool) (st n : Int32) : Nat := sumT (fun p => if (ofB d p st n && !W p) = true then uN d p else 0) (nG d)
theorem sumT_le {f g : Nat → Nat} : ∀ {n : Nat}, (∀ i, i < n → f i ≤ g i) → sumT f n ≤ sumT g n
  | 0, _ => Nat.le_refl _
  | n + 1, h => by
    have ih := sumT_le (n := n) (fun i hi => h i (by omega))
    have := h n (Nat.lt_succ_self n)
    show sumT f n + f n ≤ sumT g n + g n
    omega
theorem sumT_b {f : Nat → Nat} {b : Nat} : ∀ {n : Nat}, (∀ i, i < n → f i ≤ b) → sumT f n ≤ b * n
  | 0, _ => Nat.zero_le _
  | n + 1, h => by
    have ih := sumT_b (n := n) (fun i hi => h i (by omega))
    have := h n (Nat.lt_succ_self n)
    show sumT f n + f n ≤ b * (n + 1)
    rw [Nat.mul_succ]; omega
theorem uT_b {d : Nat → Int32} (hI : zI d) (hpl : plJ d) (hz : nzB d) (W : Nat → Bool) (st n : Int32) : uT d W st n ≤ 18000 := by
  have g2 := hI.ng2
  have := sumT_b (f := fun p => if (ofB d p st n && !W p) = true then uN d p else 0) (b := 90) (n := nG d) (fun i hi => by
    show (if _ then _ else _) ≤ 90
    split
    · exact (us_n hI hpl hz hi).2
    · exact Nat.zero_le _)
  have h3 : 90 * nG d ≤ 90 * 200 := Nat.mul_le_mul_left _ g2
  unfold uT
  omega
theorem used_T {d : Nat → Int32} (hI : zI d) (hpl : plJ d) (hz : nzB d) (W : Nat → Bool) (st n : Int32) : usedI (mkD d W) st n = nI (uT d W st n) := by
  unfold usedI uT
  rw [mk_G, ← sumN_T]
  refine sumN_cong (fun p hp => ?_)
  unfold usedF
  rw [mk_of W (hI.pc8 hp), mk_us W (hI.pc8 hp)]
  by_cases h : (ofB d p st n && !W p) = true
  · rw [if_pos h, if_pos h]; exact (us_n hI hpl hz hp).1
  · rw [if_neg h, if_neg h]
theorem uT_mono (d : Nat → Int32) {W V : Nat → Bool} (st n : Int32) (h : ∀ p, p < nG d → V p = true → W p = true) : uT d W st n ≤ uT d V st n := by
  refine sumT_le (fun p hp => ?_)
  by_cases h1 : (ofB d p st n && !W p) = true
  · rw [if_pos h1, if_pos]
    · exact Nat.le_refl _
    · rw [Bool.and_eq_true] at h1 ⊢
      refine ⟨h1.1, ?_⟩
      cases hV : V p with
      | false => rfl
      | true => have := h p hp hV; rw [this] at h1; exact absurd h1.2 (by decide)
  · rw [if_neg h1]; exact Nat.zero_le _
/-- only permits of the street and the night count -/
theorem used_dep {d : Nat → Int32} (hI : zI d) {W V : Nat → Bool} {st n : Int32} (h : ∀ p, p < nG d → ofB d p st n = true → W p = V p) : usedI (mkD d W) st n = usedI (mkD d V) st n := by
  unfold usedI
  rw [mk_G, mk_G]
  refine sumN_cong (fun p hp => ?_)
  unfold usedF
  rw [mk_of W (hI.pc8 hp), mk_of V (hI.pc8 hp), mk_us W (hI.pc8 hp), mk_us V (hI.pc8 hp)]
  cases ho : ofB d p st n with
  | false => rfl
  | true => rw [h p hp ho]
/-! credits within bounds -/
def crOK (d : Nat → Int32) : Prop := ∀ st n, st < 4 → n < 30 → -1000000 ≤ (creI d st n).toInt ∧ (creI d st n).toInt ≤ 1000000
theorem fre_dec {d : Nat → Int32} (hI : zI d) (hpl : plJ d) (hz : nzB d) (hc : crOK d) (W : Nat → Bool) {st n : Nat} (h1 : st < 4) (h2 : n < 30) : decide (freI (mkD d W) st n < 0) = !decide (usedI (mkD d W) (nI st) (nI n) ≤ creI (mkD d W) st n) := by
  have hb := uT_b hI hpl hz W (nI st) (nI n)
  obtain ⟨a, b⟩ := hc st n h1 h2
  unfold freI
  rw [used_T hI hpl hz, mk_cre d W h1 h2]
  have hu : (nI (uT d W (nI st) (nI n))).toInt = (uT d W (nI st) (nI n) : Int) := nI_toInt (by omega)
  have e : (creI d st n - nI (uT d W (nI st) (nI n))).toInt = (creI d st n).toInt - (uT d W (nI st) (nI n) : Int) := by
    rw [Int32.toInt_sub, hu, Int.bmod_def]; omega
  have e1 : creI d st n - nI (uT d W (nI st) (nI n)) < 0 ↔ (creI d st n).toInt < (uT d W (nI st) (nI n) : Int) := by
    rw [Int32.lt_iff_toInt_lt, e]
    show _ < (0 : Int) ↔ _
    omega
  have e2 : nI (uT d W (nI st) (nI n)) ≤ creI d st n ↔ (uT d W (nI st) (nI n) : Int) ≤ (creI d st n).toInt := by
    rw [Int32.le_iff_toInt_le, hu]
  by_cases h : (creI d st n).toInt < (uT d W (nI st) (nI n) : Int)
  · rw [decide_eq_true (e1.mpr h), decide_eq_false (fun q => by have := e2.mp q; omega)]; rfl
  · rw [decide_eq_false (fun q => h (e1.mp q)), decide_eq_true (e2.mpr (by omega))]; rfl
/-! the order of the valid permits -/
theorem vL_pw (d : Nat → Int32) : (vL d).Pairwise (· < ·) := List.Pairwise.filter _ List.pairwise_lt_range
theorem vx_lt {d : Nat → Int32} {i k : Nat} (h : i < k) (hk : k < vn d) : vx d i < vx d k := by
  have hl : k < (vL d).length := hk
  have e : ∀ j, (hj : j < (vL d).length) → vx d j = (vL d)[j] := fun j hj => by
    unfold vx
    rw [List.getD_eq_getElem?_getD, List.getElem?_eq_getElem hj]; rfl
  rw [e i (by omega), e k hl]
  exact List.pairwise_iff_getElem.mp (vL_pw d) i k (by omega) hl h
theorem vx_pos {d : Nat → Int32} {i k : Nat} (hi : i < vn d) (hk : k < vn d) (h : vx d i < vx d k) : i < k := by
  rcases Nat.lt_trichotomy i k with q | q | q
  · exact q
  · subst q; omega
  · have := vx_lt q hi; omega
theorem take_f {α : Type} {P : α → Bool} : ∀ {L : List α} {i : Nat}, (∀ j (hj : j < L.length), j ≤ i → P L[j] = true) → i < L.length → (L.filter P)[i]? = L[i]?
  | [], i, _, h => absurd h (Nat.not_lt_zero _)
  | x :: L, 0, h, _ => by
    have : P x = true := h 0 (by simp) (Nat.le_refl _)
    rw [List.filter_cons_of_pos this]; rfl
  | x :: L, i + 1, h, hl => by
    have h0 : P x = true := h 0 (by simp) (Nat.zero_le _)
    rw [List.filter_cons_of_pos h0]
    show (L.filter P)[i]? = L[i]?
    exact take_f (fun j hj hji => h (j + 1) (by simp at hj ⊢; omega) (by omega)) (by simp at hl; omega)
theorem mk_vx {d : Nat → Int32} {W : Nat → Bool} {i0 : Nat} (hi : i0 < vn d) (h : ∀ i, i ≤ i0 → W (vx d i) = false) : vx (mkD d W) i0 = vx d i0 ∧ i0 < vn (mkD d W) := by
  have hl : i0 < (vL d).length := hi
  have e : ∀ j, (hj : j < (vL d).length) → vx d j = (vL d)[j] := fun j hj => by
    unfold vx
    rw [List.getD_eq_getElem?_getD, List.getElem?_eq_getElem hj]; rfl
  have e2 := take_f (P := fun p => !W p) (L := vL d) (i := i0) (fun j hj hji => by rw [← e j hj, h j hji]; rfl) hl
  refine ⟨?_, ?_⟩
  · unfold vx
    rw [mk_vL, List.getD_eq_getElem?_getD, List.getD_eq_getElem?_getD, e2]
  · show i0 < (vL (mkD d W)).length
    rw [mk_vL]
    rcases Nat.lt_or_ge i0 ((vL d).filter (fun p => !W p)).length with q | q
    · exact q
    · rw [List.getElem?_eq_none q, List.getElem?_eq_getElem hl] at e2
      cases e2
