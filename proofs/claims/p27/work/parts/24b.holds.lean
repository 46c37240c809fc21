/-! THE PROPERTY: what the law adds up -/
theorem inB_n {n hi : Nat} (h : n ≤ hi) (hh : hi < 2147483648) : inB (nI n) (nI 0) (nI hi) = true := inB_of (Nat.zero_le _) h hh
theorem aS_in {d : Nat → Int32} {a n w : Nat} (ha : a < 4) (hn : n < 30) (hw : w ≤ 6) : inB (nI a) (nI 0) (nI 3) = true ∧ inB (nI n) (nI 0) (nI 29) = true ∧ inB (nI w) (nI 0) (nI 6) = true ∧ cl (nI a) = a ∧ cl (nI n) = n := ⟨inB_n (by omega) (by decide), inB_n (by omega) (by decide), inB_n hw (by decide), cl_nI (by omega), cl_nI (by omega)⟩
theorem aS_0 (d : Nat → Int32) {a n : Nat} (ha : a < 4) (hn : n < 30) : aStreet d (nI a) (nI n) (nI 0) = alwI d a n := by
  obtain ⟨h1, h2, h3, e1, e2⟩ := aS_in (d := d) (w := 0) ha hn (by decide)
  unfold aStreet
  rw [if_pos h1, if_pos h2, if_pos h3, if_pos rfl, e1, e2]
theorem aS_1 (d : Nat → Int32) {a n : Nat} (ha : a < 4) (hn : n < 30) : aStreet d (nI a) (nI n) (nI 1) = d (202 + (30 * a + n)) := by
  obtain ⟨h1, h2, h3, e1, e2⟩ := aS_in (d := d) (w := 1) ha hn (by decide)
  unfold aStreet
  rw [if_pos h1, if_pos h2, if_pos h3, if_neg (by decide), if_pos rfl, e1, e2]
theorem aS_2 (d : Nat → Int32) {a n : Nat} (ha : a < 4) (hn : n < 30) : aStreet d (nI a) (nI n) (nI 2) = d (322 + (30 * a + n)) := by
  obtain ⟨h1, h2, h3, e1, e2⟩ := aS_in (d := d) (w := 2) ha hn (by decide)
  unfold aStreet
  rw [if_pos h1, if_pos h2, if_pos h3, if_neg (by decide), if_neg (by decide), if_pos rfl, e1, e2]
theorem aS_3 (d : Nat → Int32) {a n : Nat} (ha : a < 4) (hn : n < 30) : aStreet d (nI a) (nI n) (nI 3) = creI d a n := by
  obtain ⟨h1, h2, h3, e1, e2⟩ := aS_in (d := d) (w := 3) ha hn (by decide)
  unfold aStreet
  rw [if_pos h1, if_pos h2, if_pos h3, if_neg (by decide), if_neg (by decide), if_neg (by decide), if_pos rfl, e1, e2]
theorem aS_4 (d : Nat → Int32) {a n : Nat} (ha : a < 4) (hn : n < 30) : aStreet d (nI a) (nI n) (nI 4) = usedI d (nI a) (nI n) := by
  obtain ⟨h1, h2, h3, e1, e2⟩ := aS_in (d := d) (w := 4) ha hn (by decide)
  unfold aStreet
  rw [if_pos h1, if_pos h2, if_pos h3, if_neg (by decide), if_neg (by decide), if_neg (by decide), if_neg (by decide), if_pos rfl]
theorem aS_6 (d : Nat → Int32) {a n : Nat} (ha : a < 4) (hn : n < 30) : aStreet d (nI a) (nI n) (nI 6) = d (52 + n) := by
  obtain ⟨h1, h2, h3, e1, e2⟩ := aS_in (d := d) (w := 6) ha hn (by decide)
  unfold aStreet
  rw [if_pos h1, if_pos h2, if_pos h3, if_neg (by decide), if_neg (by decide), if_neg (by decide), if_neg (by decide), if_neg (by decide), if_neg (by decide), e2]
theorem aP_w {d : Nat → Int32} (hI : zI d) {p w : Nat} (hp : p < nG d) (hw : w < 4) : aPermit d (nI p) (nI w) = pm d p w := by
  have g2 := hI.ng2
  unfold aPermit
  rw [if_pos (inB_g hI hp), if_pos (inB_n (by omega) (by decide)), if_neg (fun q => absurd ((nI_leI (by decide : (4 : Nat) < 2147483648) (by omega)).mp q) (by omega)), cl_nI (by omega), cl_nI (by omega)]
theorem aP_4 {d : Nat → Int32} (hI : zI d) {p : Nat} (hp : p < nG d) : aPermit d (nI p) (nI 4) = usI d p := by
  have g2 := hI.ng2
  unfold aPermit
  rw [if_pos (inB_g hI hp), if_pos (inB_n (by omega) (by decide)), if_pos (by decide), if_pos rfl, cl_nI (by omega)]
theorem aP_5 {d : Nat → Int32} (hI : zI d) {p : Nat} (hp : p < nG d) : aPermit d (nI p) (nI 5) = pm d p 4 := by
  have g2 := hI.ng2
  unfold aPermit
  rw [if_pos (inB_g hI hp), if_pos (inB_n (by omega) (by decide)), if_pos (by decide), if_neg (by decide), cl_nI (by omega)]
theorem aC_w {d : Nat → Int32} (hI : zI d) {c w : Nat} (hc : c < nC d) (hw : w < 6) : aCraneOf d (nI c) (nI w) = gr d c w := by
  have c8 := hI.nc8
  unfold aCraneOf
  rw [if_pos (inB_c hI hc), if_pos (inB_n (by omega) (by decide)), if_neg (fun q => absurd ((nI_leI (by decide : (6 : Nat) < 2147483648) (by omega)).mp q) (by omega)), cl_nI (by omega), cl_nI (by omega)]
theorem aC_7 {d : Nat → Int32} (hI : zI d) {c : Nat} (hc : c < nC d) : aCraneOf d (nI c) (nI 7) = d 1 - gr d c 3 / nI 2 := by
  have c8 := hI.nc8
  unfold aCraneOf
  rw [if_pos (inB_c hI hc), if_pos (inB_n (by omega) (by decide)), if_pos (by decide), if_neg (by decide), cl_nI (by omega)]
theorem hm_self {h : Int32} (hh : ahrB h = true) : hmB h h = true := by
  obtain ⟨j, h1, -, e1, e2, h3⟩ := ahr_n hh
  unfold hmB
  rw [e2, e1, decide_eq_false (Int32.not_lt.mpr (nI_le h3 (by omega)))]
  rfl
/-- a valid permit stands in its own way -/
theorem aR_1 {d : Nat → Int32} (hI : zI d) (hpl : plJ d) {p : Nat} (hp : p < nG d) (h4 : pm d p 4 = nI 1) : aRefusal d (nI (pC d p)) (nI (nN d p)) (pm d p 2) (nI 1) = nI 1 := by
  have hn := hpl.nn hp
  have c8 := hI.pc8 hp
  have ha : aplB d (nI (pC d p)) (nI (nN d p)) (pm d p 2) (nI 1) = true := by
    unfold aplB
    rw [inB_c hI (hI.pcn hp), inB_n (show nN d p ≤ 29 by omega) (by decide), hpl.h hp, show inB (nI 1) (nI 1) (nI 255) = true by decide]
    rfl
  unfold aRefusal
  rw [if_pos ha, cl_nI (by omega), cl_nI (by omega)]
  unfold rfsI
  rw [if_pos (any_t hp ?_)]
  unfold ownB
  rw [decide_eq_true h4, decide_eq_true (hI.pc hp), decide_eq_true hn.1, hm_self (hpl.h hp)]
  rfl
theorem cnt_1 {d : Nat → Int32} {k len : Nat} : aCount d k len (nI 1) = nI (vn d) := by
  unfold aCount
  rw [if_neg (by decide), if_pos rfl, vn_v]
theorem cnt_G {d : Nat → Int32} (hI : zI d) {k len : Nat} : aCount d k len (nI 2) = nI (nG d) := by
  unfold aCount
  rw [if_neg (by decide), if_neg (by decide), if_pos rfl, hI.ng]
theorem cnt_c3 {d : Nat → Int32} {k len : Nat} : aCount d k len (nI 3) = d 443 := by
  unfold aCount
  rw [if_neg (by decide), if_neg (by decide), if_neg (by decide), if_pos rfl]
theorem cnt_c4 {d : Nat → Int32} {k len : Nat} : aCount d k len (nI 4) = d 444 := by
  unfold aCount
  rw [if_neg (by decide), if_neg (by decide), if_neg (by decide), if_neg (by decide), if_pos rfl]
theorem cnt_c5 {d : Nat → Int32} {k len : Nat} : aCount d k len (nI 5) = togI d false := by
  unfold aCount
  rw [if_neg (by decide), if_neg (by decide), if_neg (by decide), if_neg (by decide), if_neg (by decide), if_pos rfl]
theorem cnt_c6 {d : Nat → Int32} {k len : Nat} : aCount d k len (nI 6) = togI d true := by
  unfold aCount
  rw [if_neg (by decide), if_neg (by decide), if_neg (by decide), if_neg (by decide), if_neg (by decide), if_neg (by decide), if_pos rfl]
theorem cnt_c7 {d : Nat → Int32} {k len : Nat} : aCount d k len (nI 7) = nI k := by
  unfold aCount
  rw [if_neg (by decide), if_neg (by decide), if_neg (by decide), if_neg (by decide), if_neg (by decide), if_neg (by decide), if_neg (by decide), if_pos rfl]
/-! the sums -/
theorem sumN_0 : ∀ n, sumN (fun _ => nI 0) n = nI 0
  | 0 => rfl
  | n + 1 => by rw [sumN_s, sumN_0 n]; rfl
theorem sum_swap (F : Nat → Nat → Int32) (G : Nat) : ∀ K, sumN (fun k => sumN (F k) G) K = sumN (fun p => sumN (fun k => F k p) K) G
  | 0 => (sumN_0 G).symm
  | K + 1 => by
    rw [sumN_s, sum_swap F G K, ← sumN_add]
    rfl
theorem sumN_one (key : Nat) (X : Int32) : ∀ K, sumN (fun k => if key = k then X else nI 0) K = if key < K then X else nI 0
  | 0 => by rw [if_neg (Nat.not_lt_zero key)]; rfl
  | K + 1 => by
    rw [sumN_s, sumN_one key X K]
    by_cases e : key = K
    · subst e
      rw [if_neg (Nat.lt_irrefl key), if_pos rfl, if_pos (Nat.lt_succ_self key)]
      exact Int32.zero_add X
    · rw [if_neg e, add_z]
      by_cases h : key < K
      · rw [if_pos h, if_pos (by omega)]
      · rw [if_neg h, if_neg (by omega)]
def vaF (d : Nat → Int32) (p : Nat) : Int32 := if pm d p 4 = nI 1 then nI 1 else nI 0
def uvF (d : Nat → Int32) (p : Nat) : Int32 := if pm d p 4 = nI 1 then usI d p else nI 0
def stF (d : Nat → Int32) (p : Nat) : Int32 := if pm d p 4 = nI 2 then nI 1 else if pm d p 4 = nI 3 then nI 100 else nI 0
def byF (d : Nat → Int32) (k : Nat) : Int32 := usedI d (nI (k / 30)) (nI (k % 30))
theorem uv_tog (d : Nat → Int32) : sumN (uvF d) (nG d) = togI d false := (togS_f d (nG d)).symm
theorem va_cnt (d : Nat → Int32) : sumN (vaF d) (nG d) = nI (vn d) := (vn_sum d).symm
theorem by_uv {d : Nat → Int32} (hI : zI d) (hpl : plJ d) : sumN (byF d) 120 = sumN (uvF d) (nG d) := by
  have e : sumN (byF d) 120 = sumN (fun p => sumN (fun k => usedF d (nI (k / 30)) (nI (k % 30)) p) 120) (nG d) := sum_swap (fun k => usedF d (nI (k / 30)) (nI (k % 30))) (nG d) 120
  rw [e]
  refine sumN_cong (fun p hp => ?_)
  by_cases h4 : pm d p 4 = nI 1
  · have e2 : sumN (fun k => usedF d (nI (k / 30)) (nI (k % 30)) p) 120 = sumN (fun k => if keyD d p = k then usI d p else nI 0) 120 := sumN_cong (fun k hk => by
      unfold usedF
      rw [of_key hI hpl hp (show k / 30 < 4 by omega) (show k % 30 < 30 by omega), decide_eq_true h4, Bool.true_and, show 30 * (k / 30) + k % 30 = k by omega]
      by_cases q : keyD d p = k
      · rw [if_pos q, decide_eq_true q, if_pos rfl]
      · rw [if_neg q, decide_eq_false q, if_neg Bool.false_ne_true])
    rw [e2, sumN_one, if_pos (key_120 hI hpl hp)]
    unfold uvF
    rw [if_pos h4]
  · have e2 : sumN (fun k => usedF d (nI (k / 30)) (nI (k % 30)) p) 120 = sumN (fun _ => nI 0) 120 := sumN_cong (fun k _ => by
      unfold usedF ofB
      rw [decide_eq_false h4, Bool.false_and, if_neg Bool.false_ne_true])
    rw [e2, sumN_0]
    unfold uvF
    rw [if_neg h4]
theorem st_sum (d : Nat → Int32) : ∀ n, sumN (stF d) n = sumN (cntF d (nI 2)) n + nI 100 * sumN (cntF d (nI 3)) n
  | 0 => rfl
  | n + 1 => by
    rw [sumN_s, sumN_s, sumN_s, st_sum d n]
    unfold stF cntF
    by_cases h2 : pm d n 4 = nI 2
    · rw [if_pos h2, if_pos h2, h2, if_neg (by decide), add_z]
      ac_rfl
    · rw [if_neg h2, if_neg h2, add_z]
      by_cases h3 : pm d n 4 = nI 3
      · rw [if_pos h3, if_pos h3, Int32.mul_add, show nI 100 * nI 1 = nI 100 by decide]
        ac_rfl
      · rw [if_neg h3, if_neg h3, add_z, add_z]
theorem all_sum {d : Nat → Int32} (h : stJ d) : sumN (vaF d) (nG d) + sumN (cntF d (nI 2)) (nG d) + sumN (cntF d (nI 3)) (nG d) = nI (nG d) := by
  rw [← sumN_add, ← sumN_add]
  refine (sumN_cong (g := fun _ => nI 1) (fun p hp => ?_)).trans (sumN_1 (nG d))
  unfold vaF cntF
  rcases h p hp with e | e | e
  · rw [e, if_pos rfl, if_neg (by decide), if_neg (by decide)]; rfl
  · rw [e, if_neg (by decide), if_pos rfl, if_neg (by decide)]; rfl
  · rw [e, if_neg (by decide), if_neg (by decide), if_pos rfl]; rfl
/-- what is used is at most what there is, or nothing -/
theorem us_cr {n : Nat} {d : Nat → Int32} (h : zJ n d) (hn : n ≤ 1000) {st m : Nat} (h1 : st < 4) (h2 : m < 30) : usedI d (nI st) (nI m) ≤ creI d st m ∨ usedI d (nI st) (nI m) = nI 0 := by
  obtain ⟨hJ, hB, hw⟩ := h
  obtain ⟨hI, h24, hpl, -, -⟩ := id hJ
  by_cases q : ∃ p, p < nG d ∧ ofB d p (nI st) (nI m) = true
  · obtain ⟨p, hp, ho⟩ := q
    rw [of_key hI hpl hp h1 h2] at ho
    simp only [Bool.and_eq_true, decide_eq_true_eq] at ho
    have hk := ho.2
    have hs4 := st_4 hI hp
    have hn3 := (hpl.nn hp).2
    unfold keyD at hk
    have es : stD d p = st := by omega
    have en : nN d p = m := by omega
    have hf := (zJ.sp (n := n) ⟨hJ, hB, hw⟩ hp ho.1).2
    rw [es, en, lt0, decide_eq_false_iff_not] at hf
    obtain ⟨f1, f2⟩ := fre_int hJ hB hn h1 h2
    have hu := used_T hI hpl hB.1 (fun _ => false) (nI st) (nI m)
    rw [mk_0] at hu
    refine Or.inl (Int32.le_iff_toInt_le.mpr ?_)
    rw [hu, nI_toInt (by omega)]
    omega
  · refine Or.inr ?_
    unfold usedI
    rw [sumN_cong (g := fun _ => nI 0) (fun p hp => ?_), sumN_0]
    unfold usedF
    rw [if_neg (fun z => q ⟨p, hp, z⟩)]
theorem us_cr0 {n : Nat} {d : Nat → Int32} (h : zJ n d) (hn : n ≤ 1000) {st m : Nat} (h1 : st < 4) (h2 : m < 30) (hc : ¬ 0 ≤ creI d st m) : ¬ nI 0 < usedI d (nI st) (nI m) := fun q => by
  rcases us_cr h hn h1 h2 with e | e
  · exact hc (Int32.le_trans (Int32.le_of_lt q) e)
  · rw [e] at q; exact absurd q (by decide)
theorem us_cr1 {n : Nat} {d : Nat → Int32} (h : zJ n d) (hn : n ≤ 1000) {st m : Nat} (h1 : st < 4) (h2 : m < 30) (hc : 0 ≤ creI d st m) : ¬ creI d st m < usedI d (nI st) (nI m) := fun q => by
  rcases us_cr h hn h1 h2 with e | e
  · exact absurd (Int32.lt_of_lt_of_le q e) Int32.lt_irrefl
  · rw [e] at q; exact absurd (Int32.lt_of_le_of_lt hc q) (by decide)
theorem sp_lt {d : Nat → Int32} {p : Nat} (h : spB d p = false) : d (52 + nN d p) < d 1 - gr d (pC d p) 3 / nI 2 := by
  unfold spB stpB at h
  rw [Bool.not_eq_false'] at h
  exact of_decide_eq_true h
theorem noA.tog {d : Nat → Int32} (h : noA d) : togI d true = nI 0 := by
  unfold togI
  rw [togS_t, sumN_cong (g := fun _ => nI 0) (fun p hp => ?_), sumN_0]
  split
  · rename_i h4
    rw [sumN_cong (g := fun _ => nI 0) (fun q hq => ?_), sumN_0]
    unfold togF
    split
    · rename_i h5
      have e : airB d (pC d p) (pm d p 1) (pm d p 2) (pm d p 3) q = false := h p q hp (by omega) h4 h5
      rw [e, if_neg Bool.false_ne_true]
    · rfl
  · rfl
