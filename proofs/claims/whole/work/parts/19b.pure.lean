/-! PURE: stable sets: what the class withdraws, and what the reference withdraws -/
def abv (W : Nat → Bool) (p : Nat) : Nat → Bool := fun q => W q && decide (p < q)
theorem abv_s (W : Nat → Bool) (p : Nat) : abv W p p = false := by unfold abv; rw [decide_eq_false (Nat.lt_irrefl p), Bool.and_false]
def orS (W : Nat → Bool) (p : Nat) : Nat → Bool := fun q => W q || decide (q = p)
theorem or_s (W : Nat → Bool) (p : Nat) : orS W p p = true := by unfold orS; rw [decide_eq_true rfl, Bool.or_true]
theorem or_n (W : Nat → Bool) {p q : Nat} (h : ¬ q = p) : orS W p q = W q := by unfold orS; rw [decide_eq_false h, Bool.or_false]
theorem or_i {W : Nat → Bool} {p q : Nat} (h : orS W p q = true) : W q = true ∨ q = p := by
  unfold orS at h
  rw [Bool.or_eq_true, decide_eq_true_eq] at h
  exact h
theorem abv_or (W : Nat → Bool) {p r : Nat} (h : ¬ r < p) : abv (orS W p) r = abv W r := by
  funext q
  unfold abv
  by_cases hq : q = p
  · subst hq; rw [decide_eq_false h, Bool.and_false, Bool.and_false]
  · rw [or_n W hq]
theorem mk_or {d : Nat → Int32} {W : Nat → Bool} {p : Nat} : upd (mkD d W) (445 + 5 * p + 4) (nI 3) = mkD d (orS W p) := mk_up
def stab (d : Nat → Int32) (F : (Nat → Int32) → Nat → Bool) (W : Nat → Bool) : Prop := (∀ p, nG d ≤ p → W p = false) ∧ ∀ p, p < nG d → W p = (decide (pm d p 4 = nI 1) && F (mkD d (abv W p)) p)
theorem stab_u {d : Nat → Int32} {F G : (Nat → Int32) → Nat → Bool} {W V : Nat → Bool} (hF : ∀ p, p < nG d → pm d p 4 = nI 1 → ∀ U, U p = false → F (mkD d U) p = G (mkD d U) p) (hW : stab d F W) (hV : stab d G V) : W = V := by
  have key : ∀ n p, nG d - p ≤ n → W p = V p := by
    intro n
    induction n with
    | zero => intro p hp; rw [hW.1 p (by omega), hV.1 p (by omega)]
    | succ n ih =>
      intro p hp
      rcases Nat.lt_or_ge p (nG d) with q | q
      · have e : abv W p = abv V p := by
          funext r
          unfold abv
          by_cases hr : p < r
          · rw [ih r (by omega)]
          · rw [decide_eq_false hr, Bool.and_false, Bool.and_false]
        rw [hW.2 p q, hV.2 p q, e]
        by_cases h4 : pm d p 4 = nI 1
        · rw [hF p q h4 _ (abv_s V p)]
        · rw [decide_eq_false h4, Bool.false_and, Bool.false_and]
      · rw [hW.1 p q, hV.1 p q]
  funext p
  exact key _ p (Nat.le_refl _)
/-- the class: from the latest back -/
theorem wf_set {d : Nat → Int32} : ∀ {j : Nat}, j ≤ vn d → ∃ W, wfD d j = mkD d W ∧ (∀ q, W q = true → ∃ i, vn d - j ≤ i ∧ i < vn d ∧ vx d i = q) ∧ ∀ i, vn d - j ≤ i → i < vn d → W (vx d i) = wfB (mkD d (abv W (vx d i))) (vx d i)
  | 0, _ => ⟨fun _ => false, (mk_0 d).symm, fun q h => Bool.noConfusion h, fun i h1 h2 => by omega⟩
  | j + 1, hj => by
    obtain ⟨W, h1, h2, h3⟩ := wf_set (d := d) (j := j) (by omega)
    have hi0 : vn d - 1 - j < vn d := by omega
    have hno : ∀ i, i ≤ vn d - 1 - j → W (vx d i) = false := fun i hi => by
      cases hw : W (vx d i) with
      | false => rfl
      | true =>
        obtain ⟨k, k1, k2, k3⟩ := h2 _ hw
        have := vx_lt (d := d) (i := i) (k := k) (by omega) k2
        omega
    have hvx := (mk_vx hi0 hno).1
    have habv : abv W (vx d (vn d - 1 - j)) = W := by
      funext q
      unfold abv
      cases hw : W q with
      | false => rfl
      | true =>
        obtain ⟨k, k1, k2, k3⟩ := h2 q hw
        have := vx_lt (d := d) (i := vn d - 1 - j) (k := k) (by omega) k2
        rw [decide_eq_true (by omega)]; rfl
    by_cases ht : wfB (wfD d j) (vx (wfD d j) (vn d - 1 - j)) = true
    · refine ⟨orS W (vx d (vn d - 1 - j)), ?_, fun q hq => ?_, fun i i1 i2 => ?_⟩
      · rw [(wf_y ht).1, h1, hvx, mk_or]
      · rcases or_i hq with hq | hq
        · obtain ⟨k, k1, k2, k3⟩ := h2 q hq
          exact ⟨k, by omega, k2, k3⟩
        · exact ⟨vn d - 1 - j, by omega, by omega, hq.symm⟩
      · have hle : ¬ vx d i < vx d (vn d - 1 - j) := by
          rcases Nat.eq_or_lt_of_le (show vn d - 1 - j ≤ i by omega) with e | e
          · rw [e]; exact Nat.lt_irrefl _
          · have := vx_lt e i2; omega
        rw [abv_or W hle]
        rcases Nat.eq_or_lt_of_le (show vn d - 1 - j ≤ i by omega) with e | e
        · rw [← e, habv, or_s]
          rw [h1, hvx] at ht
          exact ht.symm
        · have hne : ¬ vx d i = vx d (vn d - 1 - j) := by have := vx_lt e i2; omega
          rw [or_n W hne]
          exact h3 i (by omega) i2
    · refine ⟨W, by rw [(wf_n ht).1, h1], fun q hq => ?_, fun i i1 i2 => ?_⟩
      · obtain ⟨k, k1, k2, k3⟩ := h2 q hq
        exact ⟨k, by omega, k2, k3⟩
      · rcases Nat.eq_or_lt_of_le (show vn d - 1 - j ≤ i by omega) with e | e
        · rw [← e, habv, hno _ (Nat.le_refl _)]
          rw [h1, hvx] at ht
          exact (Bool.eq_false_iff.mpr ht).symm
        · exact h3 i (by omega) i2
theorem wf_stab (d : Nat → Int32) : ∃ W, wfD d (vn d) = mkD d W ∧ stab d wfB W := by
  obtain ⟨W, h1, h2, h3⟩ := wf_set (d := d) (j := vn d) (Nat.le_refl _)
  refine ⟨W, h1, fun p hp => ?_, fun p hp => ?_⟩
  · cases hw : W p with
    | false => rfl
    | true =>
      obtain ⟨k, k1, k2, k3⟩ := h2 p hw
      have := (vx_in k2).1
      omega
  · by_cases h4 : pm d p 4 = nI 1
    · obtain ⟨i, i1, i2⟩ := vx_onto hp h4
      have := h3 i (by omega) i1
      rw [i2] at this
      rw [this, decide_eq_true h4, Bool.true_and]
    · rw [decide_eq_false h4, Bool.false_and]
      cases hw : W p with
      | false => rfl
      | true =>
        obtain ⟨k, k1, k2, k3⟩ := h2 p hw
        have := (vx_in k2).2
        rw [k3] at this
        exact absurd this h4
theorem wf_cnt {d : Nat → Int32} (hI : zI d) (hP : plJ d) : ∀ {j : Nat}, j ≤ vn d → wfC d j = nI (vn d - vn (wfD d j)) ∧ vn (wfD d j) ≤ vn d
  | 0, _ => ⟨by rw [show wfD d 0 = d from rfl, Nat.sub_self]; rfl, Nat.le_refl _⟩
  | j + 1, hj => by
    obtain ⟨a, b⟩ := wf_cnt hI hP (j := j) (by omega)
    obtain ⟨-, -, -, c⟩ := wf_I hI hP (j := j) (by omega)
    by_cases q : wfB (wfD d j) (vx (wfD d j) (vn d - 1 - j)) = true
    · have hv : vn (upd (wfD d j) (445 + 5 * (vx (wfD d j) (vn d - 1 - j)) + 4) (nI 3)) + 1 = vn (wfD d j) := vn_end (v := nI 3) (by decide) (vx_mem (show vn d - 1 - j < vn (wfD d j) by omega))
      rw [(wf_y q).1, (wf_y q).2, a]
      refine ⟨?_, by omega⟩
      rw [show (1 : Int32) = nI 1 from rfl, nI_add]
      exact congrArg nI (by omega)
    · rw [(wf_n q).1, (wf_n q).2]; exact ⟨a, b⟩
/-- a permit withdrawn is one valid less -/
theorem cnt_s {d : Nat → Int32} {p : Nat} (hp : p < nG d) (h4 : pm d p 4 = nI 1) : vn (upd d (445 + 5 * p + 4) (nI 3)) + 1 = vn d := by
  obtain ⟨i, i1, i2⟩ := vx_onto hp h4
  exact vn_end (v := nI 3) (by decide) (i2 ▸ vx_mem i1)
/-- the reference: one street and night -/
def svF (st n : Nat) (e : Nat → Int32) (p : Nat) : Bool := ofB e p (nI st) (nI n) && !decide (usedI e (nI st) (nI n) ≤ creI e st n)
theorem sv_set {d : Nat → Int32} (hI : zI d) {st n : Nat} (h1 : st < 4) (h2 : n < 30) : ∀ {j : Nat}, j ≤ nG d → ∃ W, svD d st n j = mkD d W ∧ (∀ q, W q = true → nG d - j ≤ q ∧ q < nG d) ∧ (∀ q, nG d - j ≤ q → q < nG d → W q = svF st n (mkD d (abv W q)) q) ∧ svC d st n j = nI (vn d - vn (svD d st n j)) ∧ vn (svD d st n j) ≤ vn d
  | 0, _ => ⟨fun _ => false, (mk_0 d).symm, fun q h => Bool.noConfusion h, fun i h1 h2 => by omega, by rw [show svD d st n 0 = d from rfl, Nat.sub_self]; rfl, Nat.le_refl _⟩
  | j + 1, hj => by
    obtain ⟨W, a1, a2, a3, a4, a5⟩ := sv_set hI h1 h2 (j := j) (by omega)
    have hp : nG d - 1 - j < nG d := by omega
    have hno : W (nG d - 1 - j) = false := by
      cases hw : W (nG d - 1 - j) with
      | false => rfl
      | true => have := a2 _ hw; omega
    have habv : abv W (nG d - 1 - j) = W := by
      funext q
      unfold abv
      cases hw : W q with
      | false => rfl
      | true => have := a2 q hw; rw [decide_eq_true (by omega)]; rfl
    by_cases ht : ofB (svD d st n j) (nG d - 1 - j) (nI st) (nI n) = true ∧ ¬ usedI (svD d st n j) (nI st) (nI n) ≤ creI (svD d st n j) st n
    · have e := sv_y ht.1 ht.2
      have hg : nG (svD d st n j) = nG d := by rw [a1, mk_G]
      have h4 : pm (svD d st n j) (nG d - 1 - j) 4 = nI 1 := by
        have := ht.1
        unfold ofB at this
        simp only [Bool.and_eq_true, decide_eq_true_eq] at this
        exact this.1
      have hc := cnt_s (d := svD d st n j) (p := nG d - 1 - j) (by omega) h4
      refine ⟨orS W (nG d - 1 - j), by rw [e.1, a1, mk_or], fun q hq => ?_, fun q q1 q2 => ?_, ?_, ?_⟩
      · rcases or_i hq with hq | hq
        · have := a2 q hq; omega
        · omega
      · rw [abv_or W (show ¬ q < nG d - 1 - j by omega)]
        by_cases hq : q = nG d - 1 - j
        · rw [hq, habv, or_s]
          unfold svF
          rw [a1] at ht
          rw [ht.1, decide_eq_false ht.2]; rfl
        · rw [or_n W hq]; exact a3 q (by omega) q2
      · rw [e.1, e.2, a4, show (1 : Int32) = nI 1 from rfl, nI_add]
        exact congrArg nI (by omega)
      · rw [e.1]; omega
    · have e := sv_n ht
      refine ⟨W, by rw [e.1, a1], fun q hq => by have := a2 q hq; omega, fun q q1 q2 => ?_, by rw [e.1, e.2]; exact a4, by rw [e.1]; exact a5⟩
      by_cases hq : q = nG d - 1 - j
      · rw [hq, habv, hno]
        rw [a1] at ht
        unfold svF
        cases ho : ofB (mkD d W) (nG d - 1 - j) (nI st) (nI n) with
        | false => rfl
        | true =>
          by_cases hu : usedI (mkD d W) (nI st) (nI n) ≤ creI (mkD d W) st n
          · rw [decide_eq_true hu]; rfl
          · exact absurd ⟨ho, hu⟩ ht
      · exact a3 q (by omega) q2
theorem sav_stab {d : Nat → Int32} (hI : zI d) {st n : Nat} (h1 : st < 4) (h2 : n < 30) : ∃ W, savD d st n = upd (mkD d W) 444 (d 444 + savR d st n) ∧ stab d (svF st n) W ∧ savR d st n = nI (vn d - vn (savD d st n)) ∧ vn (savD d st n) ≤ vn d := by
  obtain ⟨W, a1, a2, a3, a4, a5⟩ := sv_set hI h1 h2 (j := nG d) (Nat.le_refl _)
  have e : savD d st n = upd (mkD d W) 444 (d 444 + savR d st n) := by
    unfold savD savR
    rw [a1, mk_lo (by decide)]
  refine ⟨W, e, ⟨fun p hp => ?_, fun p hp => ?_⟩, ?_, ?_⟩
  · cases hw : W p with
    | false => rfl
    | true => have := a2 p hw; omega
  · have hs := a3 p (by omega) hp
    by_cases h4 : pm d p 4 = nI 1
    · rw [decide_eq_true h4, Bool.true_and]; exact hs
    · rw [hs, decide_eq_false h4, Bool.false_and]
      unfold svF
      rw [show ofB (mkD d (abv W p)) p (nI st) (nI n) = false by rw [mk_of _ (hI.pc8 hp)]; unfold ofB; rw [decide_eq_false h4]; rfl, Bool.false_and]
  · rw [show vn (savD d st n) = vn (svD d st n (nG d)) from z_vn _ _]; exact a4
  · rw [show vn (savD d st n) = vn (svD d st n (nG d)) from z_vn _ _]; exact a5
/-- the street and the night of a permit -/
def stD (d : Nat → Int32) (p : Nat) : Nat := sC d (pC d p)
def keyD (d : Nat → Int32) (p : Nat) : Nat := 30 * stD d p + nN d p
def ovB (e : Nat → Int32) (p : Nat) : Bool := !decide (usedI e (nI (stD e p)) (nI (nN e p)) ≤ creI e (stD e p) (nN e p))
theorem st_4 {d : Nat → Int32} (hI : zI d) {p : Nat} (hp : p < nG d) : stD d p < 4 := hI.sc4 (hI.pcn hp)
theorem of_key {d : Nat → Int32} (hI : zI d) (hpl : plJ d) {p st n : Nat} (hp : p < nG d) (h1 : st < 4) (h2 : n < 30) : ofB d p (nI st) (nI n) = (decide (pm d p 4 = nI 1) && decide (keyD d p = 30 * st + n)) := by
  obtain ⟨e1, b1⟩ := hpl.nn hp
  have e2 := hI.sc (hI.pcn hp)
  have b2 := st_4 hI hp
  unfold ofB keyD
  rw [e1, e2]
  unfold stD at b2 ⊢
  by_cases h : 30 * sC d (pC d p) + nN d p = 30 * st + n
  · have a1 : nN d p = n := by omega
    have a2 : sC d (pC d p) = st := by omega
    rw [a1, a2, decide_eq_true rfl, decide_eq_true rfl, decide_eq_true rfl]; rfl
  · rw [decide_eq_false h, nI_inj (by omega) (by omega), nI_inj (by omega) (by omega)]
    by_cases a1 : nN d p = n
    · rw [decide_eq_false (show ¬ sC d (pC d p) = st by omega), Bool.and_false]
    · rw [decide_eq_false a1, Bool.false_and]
theorem mk_st (d : Nat → Int32) (W : Nat → Bool) {p : Nat} (h : pC d p < 8) : stD (mkD d W) p = stD d p := by unfold stD; rw [mk_pC, mk_sC d W h]
theorem z_st (d : Nat → Int32) (z : Int32) {p : Nat} (h : pC d p < 8) : stD (upd d 444 z) p = stD d p := by unfold stD sC; rw [z_pC, z_gr h (by decide)]
theorem z_nN (d : Nat → Int32) (z : Int32) (p : Nat) : nN (upd d 444 z) p = nN d p := by unfold nN; rw [z_pm]
theorem ov_dep {d : Nat → Int32} (hI : zI d) (hpl : plJ d) {W V : Nat → Bool} {p : Nat} (hp : p < nG d) (h : ∀ q, q < nG d → keyD d q = keyD d p → W q = V q) : ovB (mkD d W) p = ovB (mkD d V) p := by
  have h8 := hI.pc8 hp
  have b1 := (hpl.nn hp).2
  have b2 := st_4 hI hp
  unfold ovB
  rw [mk_st d W h8, mk_st d V h8, mk_nN, mk_nN, mk_cre d W b2 b1, mk_cre d V b2 b1]
  rw [used_dep hI (W := W) (V := V) (fun q hq ho => h q hq (by
    rw [of_key hI hpl hq b2 b1, Bool.and_eq_true] at ho
    exact of_decide_eq_true ho.2))]
theorem sv_ov {d : Nat → Int32} (hI : zI d) (hpl : plJ d) {W : Nat → Bool} {p st n : Nat} (hp : p < nG d) (h1 : st < 4) (h2 : n < 30) (h4 : pm d p 4 = nI 1) (hW : W p = false) : svF st n (mkD d W) p = (decide (keyD d p = 30 * st + n) && ovB (mkD d W) p) := by
  have h8 := hI.pc8 hp
  have b1 := (hpl.nn hp).2
  have b2 := st_4 hI hp
  unfold svF ovB
  rw [mk_of W h8, of_key hI hpl hp h1 h2, decide_eq_true h4, hW, Bool.true_and, mk_st d W h8, mk_nN]
  by_cases h : keyD d p = 30 * st + n
  · unfold keyD at h
    rw [show stD d p = st by omega, show nN d p = n by omega]
    simp
  · rw [decide_eq_false h, Bool.false_and, Bool.false_and, Bool.false_and]
/-- the reference: all streets and nights -/
theorem sa_set {d : Nat → Int32} (hI : zI d) (hpl : plJ d) : ∀ {k : Nat}, k ≤ 120 → ∃ W, saD d k = upd (mkD d W) 444 (d 444 + saC d k) ∧ (∀ q, nG d ≤ q → W q = false) ∧ (∀ q, q < nG d → W q = (decide (pm d q 4 = nI 1) && (decide (keyD d q < k) && ovB (mkD d (abv W q)) q))) ∧ saC d k = nI (vn d - vn (saD d k)) ∧ vn (saD d k) ≤ vn d
  | 0, _ => by
    refine ⟨fun _ => false, ?_, fun q h => rfl, fun q h => ?_, by rw [show saD d 0 = d from rfl, Nat.sub_self]; rfl, Nat.le_refl _⟩
    · rw [mk_0]
      funext i
      by_cases h : i = 444
      · subst h; rw [pk_us]; show d 444 = d 444 + nI 0; exact (add_z _).symm
      · rw [pk_un h]; rfl
    · rw [decide_eq_false (Nat.not_lt_zero _), Bool.false_and, Bool.and_false]
  | k + 1, hk => by
    obtain ⟨W, a1, a2, a3, a4, a5⟩ := sa_set hI hpl (k := k) (by omega)
    have hIe := (sa_I hI k).1
    obtain ⟨V, b1, b2, b3, b4⟩ := sav_stab hIe (st := k / 30) (n := k % 30) (by omega) (by omega)
    have ge : nG (saD d k) = nG d := (sa_I hI k).2
    have hE : saD d (k + 1) = savD (saD d k) (k / 30) (k % 30) := rfl
    have hC : saC d (k + 1) = saC d k + savR (saD d k) (k / 30) (k % 30) := rfl
    have hke : 30 * (k / 30) + k % 30 = k := by omega
    have epm : ∀ q j, j < 4 → pm (saD d k) q j = pm d q j := fun q j hj => by rw [a1, z_pm, mk_pm hj]
    have e4 : ∀ q, pm (saD d k) q 4 = if W q = true then nI 3 else pm d q 4 := fun q => by rw [a1, z_pm, mk_4]
    have hple : plJ (saD d k) := fun q hq => by rw [epm q 1 (by decide), epm q 2 (by decide), epm q 3 (by decide)]; exact hpl q (by omega)
    have ekey : ∀ q, q < nG d → keyD (saD d k) q = keyD d q := fun q hq => by
      have h8 := hI.pc8 hq
      unfold keyD
      rw [a1, z_nN, mk_nN, z_st _ _ (by rw [mk_pC]; exact h8), mk_st d W h8]
    have hVk : ∀ q, V q = true → q < nG d ∧ keyD d q = k ∧ pm d q 4 = nI 1 ∧ W q = false := fun q hv => by
      have hq : q < nG d := by
        rcases Nat.lt_or_ge q (nG d) with r | r
        · exact r
        · rw [b2.1 q (by omega)] at hv; exact absurd hv (by decide)
      have h := b2.2 q (by omega)
      rw [hv] at h
      have h := h.symm
      rw [Bool.and_eq_true, decide_eq_true_eq] at h
      rw [sv_ov hIe hple (by omega) (by omega) (by omega) h.1 (abv_s V q), Bool.and_eq_true, decide_eq_true_eq, hke, ekey q hq] at h
      have h5 := h.1
      rw [e4] at h5
      cases hw : W q with
      | true => rw [hw, if_pos rfl] at h5; exact absurd h5 n31
      | false => rw [hw, if_neg Bool.false_ne_true] at h5; exact ⟨hq, h.2.1, h5, rfl⟩
    have hrow : saD d (k + 1) = upd (mkD d (fun q => W q || V q)) 444 (d 444 + saC d (k + 1)) := by
      have h1 : mkD (saD d k) V = upd (mkD d (fun q => W q || V q)) 444 (d 444 + saC d k) := by rw [a1, mk_mk]
      rw [hE, b1, h1, hC]
      funext i
      by_cases h : i = 444
      · subst h
        rw [pk_us, pk_us, show saD d k 444 = d 444 + saC d k by rw [a1]; exact pk_us, Int32.add_assoc]
      · rw [pk_un h, pk_un h, pk_un h]
    refine ⟨fun q => W q || V q, hrow, fun q hq => ?_, fun q hq => ?_, ?_, ?_⟩
    · show (W q || V q) = false
      rw [a2 q hq, b2.1 q (by omega)]; rfl
    · have hdep : ∀ r, r < nG d → keyD d r = keyD d q → keyD d q ≠ k → (W r || V r) = W r := fun r hr hkr hne => by
        cases hv : V r with
        | false => rw [Bool.or_false]
        | true => have := (hVk r hv).2.1; omega
      show (W q || V q) = _
      by_cases hkq : keyD d q = k
      · -- of this street and night
        have hWq : W q = false := by rw [a3 q hq, decide_eq_false (show ¬ keyD d q < k by omega)]; simp
        have hWk : ∀ r, r < nG d → keyD d r = keyD d q → W r = false := fun r hr h => by rw [a3 r hr, decide_eq_false (show ¬ keyD d r < k by omega)]; simp
        rw [hWq, Bool.false_or, b2.2 q (by omega), e4 q, hWq, if_neg Bool.false_ne_true]
        by_cases h4 : pm d q 4 = nI 1
        · rw [sv_ov hIe hple (by omega) (by omega) (by omega) (by rw [e4, hWq, if_neg Bool.false_ne_true]; exact h4) (abv_s V q), hke, ekey q hq, decide_eq_true hkq, decide_eq_true (show keyD d q < k + 1 by omega)]
          have h1 : mkD (saD d k) (abv V q) = upd (mkD d (fun r => W r || abv V q r)) 444 (d 444 + saC d k) := by rw [a1, mk_mk]
          have h8 := hI.pc8 hq
          have hz : ovB (mkD (saD d k) (abv V q)) q = ovB (mkD d (fun r => W r || abv V q r)) q := by
            rw [h1]
            have bn := (hpl.nn hq).2
            have bs := st_4 hI hq
            unfold ovB
            rw [z_st _ _ (by rw [mk_pC]; exact h8), z_nN, z_used (mk_I hI _), mk_st d _ h8, mk_nN, z_cre _ _ bs bn]
          rw [hz, ov_dep hI hpl (V := abv (fun r => W r || V r) q) hq (fun r hr hkr => by
            show (W r || abv V q r) = ((W r || V r) && decide (q < r))
            rw [hWk r hr hkr]; rfl)]
        · rw [decide_eq_false h4, Bool.false_and, Bool.false_and]
      · have hVq : V q = false := by
          cases hv : V q with
          | false => rfl
          | true => exact absurd (hVk q hv).2.1 hkq
        rw [hVq, Bool.or_false, a3 q hq]
        by_cases hlt : keyD d q < k
        · rw [decide_eq_true hlt, decide_eq_true (show keyD d q < k + 1 by omega), ov_dep hI hpl (V := abv (fun r => W r || V r) q) hq (fun r hr hkr => by
            show (W r && decide (q < r)) = ((W r || V r) && decide (q < r))
            rw [hdep r hr hkr hkq])]
        · rw [decide_eq_false hlt, decide_eq_false (show ¬ keyD d q < k + 1 by omega), Bool.false_and, Bool.false_and]
    · rw [hE, hC, a4, b3, nI_add]
      exact congrArg nI (by omega)
    · rw [hE]; omega
theorem key_120 {d : Nat → Int32} (hI : zI d) (hpl : plJ d) {p : Nat} (hp : p < nG d) : keyD d p < 120 := by
  have b1 := (hpl.nn hp).2
  have b2 := st_4 hI hp
  unfold keyD
  omega
theorem sa_stab {d : Nat → Int32} (hI : zI d) (hpl : plJ d) : ∃ W, saD d 120 = upd (mkD d W) 444 (d 444 + saC d 120) ∧ stab d ovB W ∧ saC d 120 = nI (vn d - vn (saD d 120)) ∧ vn (saD d 120) ≤ vn d := by
  obtain ⟨W, a1, a2, a3, a4, a5⟩ := sa_set hI hpl (k := 120) (Nat.le_refl _)
  refine ⟨W, a1, ⟨a2, fun p hp => ?_⟩, a4, a5⟩
  rw [a3 p hp, decide_eq_true (key_120 hI hpl hp), Bool.true_and]
/-- the reference: the wind of one night -/
def cmF (n : Nat) (e : Nat → Int32) (p : Nat) : Bool := decide (pm e p 1 = nI n) && stpB e (pC e p) n
theorem cm_set {d : Nat → Int32} (hI : zI d) {n : Nat} (hn : n < 30) : ∀ {i : Nat}, i ≤ nG d → ∃ W, cmD d n i = mkD d W ∧ (∀ q, W q = (decide (q < i) && (decide (pm d q 4 = nI 1) && cmF n d q))) ∧ cmC d n i = nI (vn d - vn (cmD d n i)) ∧ vn (cmD d n i) ≤ vn d
  | 0, _ => ⟨fun _ => false, (mk_0 d).symm, fun q => by rw [decide_eq_false (Nat.not_lt_zero _)]; rfl, by rw [show cmD d n 0 = d from rfl, Nat.sub_self]; rfl, Nat.le_refl _⟩
  | i + 1, hi => by
    obtain ⟨W, a1, a2, a3, a4⟩ := cm_set hI hn (i := i) (by omega)
    have h8 := hI.pc8 (show i < nG d by omega)
    have hWi : W i = false := by rw [a2, decide_eq_false (Nat.lt_irrefl i)]; rfl
    have e4 : pm (cmD d n i) i 4 = pm d i 4 := by rw [a1, mk_4, hWi, if_neg Bool.false_ne_true]
    have e1 : pm (cmD d n i) i 1 = pm d i 1 := by rw [a1, mk_pm (by decide)]
    have es : stpB (cmD d n i) (pC (cmD d n i) i) n = stpB d (pC d i) n := by rw [a1, mk_pC, mk_stp d W h8 hn]
    by_cases ht : pm (cmD d n i) i 4 = nI 1 ∧ pm (cmD d n i) i 1 = nI n ∧ stpB (cmD d n i) (pC (cmD d n i) i) n = true
    · have e := cm_y ht.1 ht.2.1 ht.2.2
      have hc := cnt_s (d := cmD d n i) (p := i) (by rw [a1, mk_G]; omega) ht.1
      refine ⟨orS W i, by rw [e.1, a1, mk_or], fun q => ?_, ?_, by rw [e.1]; omega⟩
      · by_cases hq : q = i
        · subst hq
          rw [e4, e1, es] at ht
          unfold cmF
          rw [or_s, decide_eq_true (Nat.lt_succ_self q), decide_eq_true ht.1, decide_eq_true ht.2.1, ht.2.2]; rfl
        · rw [or_n W hq, a2]
          by_cases hlt : q < i
          · rw [decide_eq_true hlt, decide_eq_true (show q < i + 1 by omega)]
          · rw [decide_eq_false hlt, decide_eq_false (show ¬ q < i + 1 by omega)]
      · rw [e.1, e.2, a3, show (1 : Int32) = nI 1 from rfl, nI_add]
        exact congrArg nI (by omega)
    · have e := cm_n ht
      refine ⟨W, by rw [e.1, a1], fun q => ?_, by rw [e.1, e.2]; exact a3, by rw [e.1]; exact a4⟩
      by_cases hq : q = i
      · subst hq
        rw [hWi, decide_eq_true (Nat.lt_succ_self q), Bool.true_and]
        rw [e4, e1, es] at ht
        unfold cmF
        by_cases b1 : pm d q 4 = nI 1
        · by_cases b2 : pm d q 1 = nI n
          · cases b3 : stpB d (pC d q) n with
            | false => simp
            | true => exact absurd ⟨b1, b2, b3⟩ ht
          · rw [decide_eq_false b2]; simp
        · rw [decide_eq_false b1]; simp
      · rw [a2]
        by_cases hlt : q < i
        · rw [decide_eq_true hlt, decide_eq_true (show q < i + 1 by omega)]
        · rw [decide_eq_false hlt, decide_eq_false (show ¬ q < i + 1 by omega)]
theorem cm_mk {d : Nat → Int32} (hI : zI d) {n : Nat} (hn : n < 30) (W : Nat → Bool) {p : Nat} (hp : p < nG d) : cmF n (mkD d W) p = cmF n d p := by unfold cmF; rw [mk_pm (by decide), mk_pC, mk_stp d W (hI.pc8 hp) hn]
theorem cal_stab {d : Nat → Int32} (hI : zI d) {n : Nat} (hn : n < 30) : ∃ W, calD d n = upd (mkD d W) 444 (d 444 + calR d n) ∧ stab d (cmF n) W ∧ (∀ q, W q = (decide (q < nG d) && (decide (pm d q 4 = nI 1) && cmF n d q))) ∧ calR d n = nI (vn d - vn (calD d n)) ∧ vn (calD d n) ≤ vn d := by
  obtain ⟨W, a1, a2, a3, a4⟩ := cm_set hI hn (i := nG d) (Nat.le_refl _)
  refine ⟨W, ?_, ⟨fun p hp => ?_, fun p hp => ?_⟩, a2, ?_, ?_⟩
  · unfold calD calR; rw [a1, mk_lo (by decide)]
  · rw [a2, decide_eq_false (by omega)]; rfl
  · rw [cm_mk hI hn _ hp, a2, decide_eq_true hp, Bool.true_and]
  · rw [show vn (calD d n) = vn (cmD d n (nG d)) from z_vn _ _]; exact a3
  · rw [show vn (calD d n) = vn (cmD d n (nG d)) from z_vn _ _]; exact a4
/-- the reference: the stop, all nights -/
def spB (e : Nat → Int32) (p : Nat) : Bool := stpB e (pC e p) (nN e p)
theorem cm_sp {d : Nat → Int32} (hpl : plJ d) {n : Nat} (hn : n < 30) {p : Nat} (hp : p < nG d) : cmF n d p = (decide (nN d p = n) && spB d p) := by
  obtain ⟨e1, b1⟩ := hpl.nn hp
  unfold cmF spB
  rw [e1, nI_inj (by omega) (by omega)]
  by_cases h : nN d p = n
  · rw [h]
  · rw [decide_eq_false h, Bool.false_and, Bool.false_and]
theorem ca_set {d : Nat → Int32} (hI : zI d) (hpl : plJ d) : ∀ {k : Nat}, k ≤ 30 → ∃ W, caD d k = upd (mkD d W) 444 (d 444 + caC d k) ∧ (∀ q, W q = (decide (q < nG d) && (decide (pm d q 4 = nI 1) && (decide (nN d q < k) && spB d q)))) ∧ caC d k = nI (vn d - vn (caD d k)) ∧ vn (caD d k) ≤ vn d
  | 0, _ => by
    refine ⟨fun _ => false, ?_, fun q => by rw [decide_eq_false (Nat.not_lt_zero _)]; simp, by rw [show caD d 0 = d from rfl, Nat.sub_self]; rfl, Nat.le_refl _⟩
    rw [mk_0]
    funext i
    by_cases h : i = 444
    · subst h; rw [pk_us]; show d 444 = d 444 + nI 0; exact (add_z _).symm
    · rw [pk_un h]; rfl
  | k + 1, hk => by
    obtain ⟨W, a1, a2, a4, a5⟩ := ca_set hI hpl (k := k) (by omega)
    have hIe := (ca_I hI k).1
    obtain ⟨V, b1, -, b2, b3, b4⟩ := cal_stab hIe (n := k) (by omega)
    have ge : nG (caD d k) = nG d := (ca_I hI k).2
    have hE : caD d (k + 1) = calD (caD d k) k := rfl
    have hC : caC d (k + 1) = caC d k + calR (caD d k) k := rfl
    have hV : ∀ q, V q = (decide (q < nG d) && (decide (pm d q 4 = nI 1) && (decide (nN d q = k) && spB d q))) := fun q => by
      rw [b2 q, ge]
      by_cases hq : q < nG d
      · have h8 := hI.pc8 hq
        have hWk : decide (nN d q = k) = true → W q = false := fun h => by rw [a2, decide_eq_false (show ¬ nN d q < k by have := of_decide_eq_true h; omega)]; simp
        have e1 : cmF k (caD d k) q = cmF k d q := by
          unfold cmF stpB
          rw [a1, z_pm, mk_pm (by decide), z_pC, mk_pC, z_lo (by omega), z_lo (by omega), z_gr h8 (by decide), mk_lo (by omega), mk_lo (by omega), mk_gr h8 (by decide)]
        rw [e1, cm_sp hpl (by omega) hq, a1, z_pm, mk_4]
        cases hn : decide (nN d q = k) with
        | false => simp
        | true => rw [hWk hn, if_neg Bool.false_ne_true]
      · rw [decide_eq_false hq, Bool.false_and, Bool.false_and]
    refine ⟨fun q => W q || V q, ?_, fun q => ?_, ?_, by rw [hE]; omega⟩
    · have h1 : mkD (caD d k) V = upd (mkD d (fun q => W q || V q)) 444 (d 444 + caC d k) := by rw [a1, mk_mk]
      rw [hE, b1, h1, hC]
      funext i
      by_cases h : i = 444
      · subst h
        rw [pk_us, pk_us, show caD d k 444 = d 444 + caC d k by rw [a1]; exact pk_us, Int32.add_assoc]
      · rw [pk_un h, pk_un h, pk_un h]
    · show (W q || V q) = _
      rw [a2, hV]
      rcases Nat.lt_trichotomy (nN d q) k with h | h | h
      · rw [decide_eq_true h, decide_eq_false (show ¬ nN d q = k by omega), decide_eq_true (show nN d q < k + 1 by omega)]; simp
      · rw [decide_eq_false (show ¬ nN d q < k by omega), decide_eq_true h, decide_eq_true (show nN d q < k + 1 by omega)]; simp
      · rw [decide_eq_false (show ¬ nN d q < k by omega), decide_eq_false (show ¬ nN d q = k by omega), decide_eq_false (show ¬ nN d q < k + 1 by omega)]; simp
    · rw [hE, hC, a4, b3, nI_add]
      exact congrArg nI (by omega)
theorem sp_mk {d : Nat → Int32} (hI : zI d) (hpl : plJ d) (W : Nat → Bool) {p : Nat} (hp : p < nG d) : spB (mkD d W) p = spB d p := by unfold spB; rw [mk_pC, mk_nN, mk_stp d W (hI.pc8 hp) (hpl.nn hp).2]
theorem ca_stab {d : Nat → Int32} (hI : zI d) (hpl : plJ d) : ∃ W, caD d 30 = upd (mkD d W) 444 (d 444 + caC d 30) ∧ stab d spB W ∧ caC d 30 = nI (vn d - vn (caD d 30)) ∧ vn (caD d 30) ≤ vn d := by
  obtain ⟨W, a1, a2, a3, a4⟩ := ca_set hI hpl (k := 30) (Nat.le_refl _)
  refine ⟨W, a1, ⟨fun p hp => ?_, fun p hp => ?_⟩, a3, a4⟩
  · rw [a2, decide_eq_false (by omega)]; rfl
  · rw [sp_mk hI hpl _ hp, a2, decide_eq_true hp, decide_eq_true (show nN d p < 30 from (hpl.nn hp).2)]; rfl
