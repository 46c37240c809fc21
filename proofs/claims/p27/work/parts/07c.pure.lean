/-! THE CLASS'S COUNTS, CONTINUED -/
theorem sw_of {sw : Int32} (h : inB sw (nI 1) (nI 255) = true) : swW sw := by
  obtain ⟨j, h1, h2, rfl⟩ := inB_nat (by decide) h (by decide)
  have hall : ∀ j, j < 256 → 1 ≤ j → ∃ e, e < 8 ∧ swB (nI j) e = true := by decide +kernel
  exact hall j (by omega) h1
def plJ (d : Nat → Int32) : Prop := ∀ p, p < nG d → planB (pm d p 1) (pm d p 2) (pm d p 3) = true
theorem plJ.n {d : Nat → Int32} (h : plJ d) {p : Nat} (hp : p < nG d) : inB (pm d p 1) (nI 0) (nI 29) = true := by
  have := h p hp
  unfold planB at this
  simp only [Bool.and_eq_true] at this
  exact this.1
theorem plJ.h {d : Nat → Int32} (h : plJ d) {p : Nat} (hp : p < nG d) : ahrB (pm d p 2) = true := by
  have := h p hp
  unfold planB at this
  simp only [Bool.and_eq_true] at this
  exact this.2.1
theorem plJ.s {d : Nat → Int32} (h : plJ d) {p : Nat} (hp : p < nG d) : inB (pm d p 3) (nI 1) (nI 255) = true := by
  have := h p hp
  unfold planB at this
  simp only [Bool.and_eq_true] at this
  exact this.2.2
theorem plJ.w {d : Nat → Int32} (h : plJ d) : ∀ p, p < nG d → swW (pm d p 3) := fun p hp => sw_of (h.s hp)
theorem ahr_n {h : Int32} (hh : ahrB h = true) : ∃ j, j < 100 ∧ h = nI j ∧ h / nI 10 = nI (j / 10) ∧ h - h / nI 10 * nI 10 = nI (j % 10) ∧ j / 10 ≤ j % 10 := by
  unfold ahrB at hh
  simp only [Bool.and_eq_true, Bool.not_eq_true', decide_eq_false_iff_not] at hh
  obtain ⟨j, -, h2, rfl⟩ := inB_nat (by decide) hh.1 (by decide)
  have hall : ∀ j, j < 100 → nI j / nI 10 = nI (j / 10) ∧ nI j - nI j / nI 10 * nI 10 = nI (j % 10) := by decide +kernel
  obtain ⟨a, b⟩ := hall j (by omega)
  refine ⟨j, by omega, rfl, a, b, ?_⟩
  have h3 := hh.2
  rw [a] at h3
  rw [← a, b, a] at h3
  by_cases q : j / 10 ≤ j % 10
  · exact q
  · exact absurd ((nI_ltI (by omega) (by omega)).mpr (show j % 10 < j / 10 by omega)) h3
theorem ahd_c {d : Nat → Int32} (hP : plJ d) {p q : Nat} (hp : p < nG d) (hq : q < nG d) : ahcB d p q = ahdB d p q := by
  obtain ⟨n1, -, h1, e1⟩ := inB_nat (by decide) (hP.n hp) (by decide)
  obtain ⟨n2, -, h2, e2⟩ := inB_nat (by decide) (hP.n hq) (by decide)
  obtain ⟨j1, l1, -, a1, -, -⟩ := ahr_n (hP.h hp)
  obtain ⟨j2, l2, -, a2, -, -⟩ := ahr_n (hP.h hq)
  unfold ahcB ahdB fsI
  rw [e1, e2, a1, a2, pk_mul, pk_mul, nI_add, nI_add]
  have k1 : (nI n1 = nI n2) ↔ n1 = n2 := nI_eq (by omega) (by omega)
  have k2 : (nI (j1 / 10) = nI (j2 / 10)) ↔ j1 / 10 = j2 / 10 := nI_eq (by omega) (by omega)
  have k3 : (nI (j1 / 10) < nI (j2 / 10)) ↔ j1 / 10 < j2 / 10 := nI_ltI (by omega) (by omega)
  have k4 : (nI n1 < nI n2) ↔ n1 < n2 := nI_ltI (by omega) (by omega)
  have k5 : (nI (10 * n1 + j1 / 10) < nI (10 * n2 + j2 / 10)) ↔ 10 * n1 + j1 / 10 < 10 * n2 + j2 / 10 := nI_ltI (by omega) (by omega)
  have k6 : (nI (10 * n1 + j1 / 10) = nI (10 * n2 + j2 / 10)) ↔ 10 * n1 + j1 / 10 = 10 * n2 + j2 / 10 := nI_eq (by omega) (by omega)
  simp only [k1, k2, k3, k4, k5, k6]
  by_cases q1 : n1 = n2
  · rw [if_pos q1]
    by_cases q2 : j1 / 10 = j2 / 10
    · rw [if_pos q2, decide_eq_false (show ¬ (10 * n1 + j1 / 10 < 10 * n2 + j2 / 10) by omega), decide_eq_true (show 10 * n1 + j1 / 10 = 10 * n2 + j2 / 10 by omega)]; simp
    · rw [if_neg q2, decide_eq_false (show ¬ (10 * n1 + j1 / 10 = 10 * n2 + j2 / 10) by omega)]
      rw [Bool.false_and, Bool.or_false]
      exact decide_eq_decide.mpr (by omega)
  · rw [if_neg q1, decide_eq_false (show ¬ (10 * n1 + j1 / 10 = 10 * n2 + j2 / 10) by omega), Bool.false_and, Bool.or_false]
    exact decide_eq_decide.mpr (by omega)
theorem vah_o {d : Nat → Int32} (hP : plJ d) {p : Nat} (hp : p < nG d) : sumN (vahF d p) (vn d) = sumN (ordF d p) (nG d) := by
  have h := sum_v d (fun q => if ahdB d q p = true then nI 1 else nI 0)
  refine (sumN_cong (fun i hi => ?_)).trans (h.trans (sumN_cong (fun q _ => rfl)))
  show vahF d p i = _
  unfold vahF
  rw [ahd_c hP (vx_in hi).1 hp]
def ioF (d : Nat → Int32) (x : Int32) (p : Nat) : Bool := decide (sumN (ordF d p) (nG d) = x)
/-! air is shared both ways -/
theorem hmB_c (a b : Int32) : hmB a b = hmB b a := by unfold hmB; exact Bool.and_comm _ _
theorem absM_n (z : Int32) : absM (-z) = absM z := by
  unfold absM
  by_cases h : z = Int32.minValue
  · subst h; decide
  · have e : (-z).toInt = -z.toInt := by
      have hne : z.toInt ≠ -2147483648 := fun q => h (Int32.toInt_inj.mp q)
      have h1 := Int32.le_toInt z
      have h2 := Int32.toInt_lt z
      rw [Int32.toInt_neg, Int.bmod_def]
      split <;> omega
    have z0 : (0 : Int32).toInt = 0 := by decide
    by_cases h1 : 0 ≤ z
    · by_cases h2 : 0 ≤ -z
      · rw [if_pos h1, if_pos h2]
        apply Int32.toInt_inj.mp
        have a := Int32.le_iff_toInt_le.mp h1
        have b := Int32.le_iff_toInt_le.mp h2
        rw [z0] at a b
        omega
      · rw [if_pos h1, if_neg h2, Int32.neg_neg]
    · by_cases h2 : 0 ≤ -z
      · rw [if_neg h1, if_pos h2]
      · exfalso
        have a : ¬ (0 : Int32).toInt ≤ z.toInt := fun q => h1 (Int32.le_iff_toInt_le.mpr q)
        have b : ¬ (0 : Int32).toInt ≤ (-z).toInt := fun q => h2 (Int32.le_iff_toInt_le.mpr q)
        rw [z0] at a b
        omega
theorem absM_c (x z : Int32) : absM (x - z) = absM (z - x) := by rw [← absM_n (x - z), Int32.neg_sub]
theorem amB_c (d : Nat → Int32) (a b : Nat) (s1 s2 : Int32) : amB d a s1 b s2 = amB d b s2 a s1 := by
  unfold amB
  congr 1
  funext i
  exact Bool.and_comm _ _
def aiP (d : Nat → Int32) (p q : Nat) : Bool := airB d (pC d p) (pm d p 1) (pm d p 2) (pm d p 3) q
theorem aiP_c (d : Nat → Int32) (p q : Nat) : aiP d p q = aiP d q p := by
  unfold aiP airB
  rw [hmB_c (pm d p 2), absM_c, amB_c, show decide (pC d p = pC d q) = decide (pC d q = pC d p) from decide_eq_decide.mpr ⟨Eq.symm, Eq.symm⟩, show decide (pm d p 1 = pm d q 1) = decide (pm d q 1 = pm d p 1) from decide_eq_decide.mpr ⟨Eq.symm, Eq.symm⟩]
def aiF (d : Nat → Int32) (p q : Nat) : Int32 := if aiP d p q = true then nI 1 else nI 0
theorem aiF_c (d : Nat → Int32) (p q : Nat) : aiF d p q = aiF d q p := by unfold aiF; rw [aiP_c]
theorem accN_e (f : Nat → Int32) (s : Int32) : ∀ n, accN f s n = s + sumN f n
  | 0 => (add_z s).symm
  | n + 1 => by rw [accN_s, sumN_s, accN_e f s n, Int32.add_assoc]
theorem sumN_add (f g : Nat → Int32) : ∀ n, sumN (fun i => f i + g i) n = sumN f n + sumN g n
  | 0 => (add_z _).symm
  | n + 1 => by
    rw [sumN_s, sumN_s, sumN_s, sumN_add f g n, Int32.add_assoc, Int32.add_assoc]
    congr 1
    rw [← Int32.add_assoc, Int32.add_comm (sumN g n), Int32.add_assoc]
theorem togS_t (d : Nat → Int32) : ∀ n, togS d true n = sumN (fun p => if pm d p 4 = nI 1 then sumN (togF d p) p else nI 0) n
  | 0 => rfl
  | n + 1 => by
    rw [sumN_s, ← togS_t d n]
    show accN (togF d n) (togS d true n + togA d true n) (togN d true n) = _
    rw [accN_e]
    unfold togA togN
    rw [if_pos rfl, if_pos rfl, add_z]
    by_cases q : pm d n 4 = nI 1
    · rw [if_pos q, if_pos q]
    · rw [if_neg q, if_neg q]; rfl
/-- the valid permits below a valid one -/
theorem vL_lo (P : Nat → Bool) : ∀ n j, j < ((List.range n).filter P).length → ((List.range (((List.range n).filter P).getD j 0)).filter P).length = j ∧ ∀ i, i < j → ((List.range (((List.range n).filter P).getD j 0)).filter P).getD i 0 = ((List.range n).filter P).getD i 0
  | 0, j, h => absurd h (Nat.not_lt_zero _)
  | n + 1, j, h => by
    have ih := vL_lo P n
    by_cases hp : P n = true
    · have e : (List.range (n + 1)).filter P = (List.range n).filter P ++ [n] := by rw [List.range_succ, List.filter_append]; simp [hp]
      rw [e] at h ⊢
      rw [List.length_append, List.length_singleton] at h
      by_cases q : j < ((List.range n).filter P).length
      · rw [getD_app_l q]
        obtain ⟨a, b⟩ := ih j q
        exact ⟨a, fun i hi => by rw [b i hi, getD_app_l (by omega)]⟩
      · have e2 : j = ((List.range n).filter P).length := by omega
        subst e2
        rw [getD_app_r]
        exact ⟨rfl, fun i hi => by rw [getD_app_l hi]⟩
    · have e : (List.range (n + 1)).filter P = (List.range n).filter P := by rw [List.range_succ, List.filter_append]; simp [hp]
      rw [e] at h ⊢
      exact ih j h
theorem sum_lo (d : Nat → Int32) (g : Nat → Int32) {j : Nat} (hj : j < vn d) : sumN (fun i => g (vx d i)) j = sumN (fun p => if pm d p 4 = nI 1 then g p else nI 0) (vx d j) := by
  have h := sum_f (fun p => decide (pm d p 4 = nI 1)) g (vx d j)
  obtain ⟨a, b⟩ := vL_lo (fun p => decide (pm d p 4 = nI 1)) (nG d) j hj
  unfold vx vL at h ⊢
  rw [a] at h
  refine (sumN_cong (fun i hi => ?_)).trans (h.trans (sumN_cong (fun p _ => by by_cases q : pm d p 4 = nI 1 <;> simp [q])))
  rw [b i hi]
def shS (d : Nat → Int32) (n : Nat) : Nat → Int32
  | 0 => nI 0
  | i + 1 => accN (fun k => aiF d (vx d i) (vx d (i + 1 + k))) (shS d n i) (n - (i + 1))
theorem shS_e (d : Nat → Int32) (n : Nat) : ∀ i, shS d n i = sumN (fun i => sumN (fun k => aiF d (vx d i) (vx d (i + 1 + k))) (n - (i + 1))) i
  | 0 => rfl
  | i + 1 => by rw [shS, accN_e, shS_e d n i, sumN_s]
theorem sh_tri (s : Nat → Nat → Int32) (hs : ∀ i j, s i j = s j i) : ∀ n, sumN (fun i => sumN (fun k => s i (i + 1 + k)) (n - (i + 1))) n = sumN (fun j => sumN (fun i => s j i) j) n
  | 0 => rfl
  | n + 1 => by
    rw [sumN_s, sumN_s, ← sh_tri s hs n, show n + 1 - (n + 1) = 0 by omega]
    rw [show sumN (fun k => s n (n + 1 + k)) 0 = nI 0 from rfl, add_z]
    rw [show sumN (fun i => s n i) n = sumN (fun i => s i n) n from sumN_cong (fun i _ => hs n i), ← sumN_add]
    refine sumN_cong (fun i hi => ?_)
    rw [show n + 1 - (i + 1) = (n - (i + 1)) + 1 by omega, sumN_s, show i + 1 + (n - (i + 1)) = n by omega]
theorem shS_t (d : Nat → Int32) : shS d (vn d) (vn d) = togI d true := by
  rw [shS_e, sh_tri (fun i j => aiF d (vx d i) (vx d j)) (fun i j => aiF_c d _ _)]
  unfold togI
  rw [togS_t, ← sum_v d (fun p => sumN (togF d p) p)]
  refine sumN_cong (fun j hj => ?_)
  rw [sum_lo d (fun q => aiF d (vx d j) q) hj]
  exact sumN_cong (fun q _ => rfl)
/-! a bit of a long -/
theorem bit_z (x : Int64) (m : Nat) (hm : m < 64) : (x.toUInt64 >>> ((nI m).toInt64.toUInt64 &&& Int64.toUInt64 63)).toInt64 &&& 1 = 0 ↔ bL x m = false := by
  have h0 : ∀ m, m < 64 → (((nI m).toInt64.toUInt64 &&& Int64.toUInt64 63) % 64).toBitVec.toNat = m := by decide
  have e : ∀ k, bL ((x.toUInt64 >>> ((nI m).toInt64.toUInt64 &&& Int64.toUInt64 63)).toInt64 &&& 1) k = (bL x (m + k) && decide (k = 0)) := fun k => by
    rw [bL_and]
    have : bL 1 k = decide (k = 0) := by
      unfold bL
      show (1#64).getLsbD k = _
      simp [BitVec.getLsbD_one]
    rw [this]
    congr 1
    unfold bL
    show (x.toUInt64 >>> _).toBitVec.getLsbD k = _
    rw [UInt64.toBitVec_shiftRight, BitVec.ushiftRight_eq', BitVec.getLsbD_ushiftRight]
    have := h0 m hm
    rw [UInt64.toBitVec_mod] at this
    have h2 : (((nI m).toInt64.toUInt64 &&& Int64.toUInt64 63).toBitVec % 64).toNat = m := this
    show x.toBitVec.getLsbD ((((nI m).toInt64.toUInt64 &&& Int64.toUInt64 63).toBitVec % 64).toNat + k) = _
    rw [h2]
  constructor
  · intro h
    have := e 0
    rw [h, bL_0] at this
    simpa using this.symm
  · intro h
    apply bL_ext
    intro k hk
    rw [e k]
    by_cases q : k = 0
    · subst q; rw [show m + 0 = m from rfl, h]; rfl
    · rw [decide_eq_false q, Bool.and_false]
/-! values beyond a switch -/
theorem no_5 {w : Int32} (h0 : ¬ w = nI 0) (h1 : ¬ w = nI 1) (h2 : ¬ w = nI 2) (h3 : ¬ w = nI 3) (h4 : ¬ w = nI 4) (h5 : ¬ w = nI 5) : inB w (nI 0) (nI 5) = false := by
  cases q : inB w (nI 0) (nI 5) with
  | false => rfl
  | true =>
    obtain ⟨j, -, hj, rfl⟩ := inB_nat (by decide) q (by decide)
    have : j = 0 ∨ j = 1 ∨ j = 2 ∨ j = 3 ∨ j = 4 ∨ j = 5 := by omega
    rcases this with rfl | rfl | rfl | rfl | rfl | rfl
    · exact absurd rfl h0
    · exact absurd rfl h1
    · exact absurd rfl h2
    · exact absurd rfl h3
    · exact absurd rfl h4
    · exact absurd rfl h5
theorem no_6 {w : Int32} (h0 : ¬ w = nI 0) (h1 : ¬ w = nI 1) (h2 : ¬ w = nI 2) (h3 : ¬ w = nI 3) (h4 : ¬ w = nI 4) (h5 : ¬ w = nI 5) (h6 : ¬ w = nI 6) : inB w (nI 0) (nI 6) = false := by
  cases q : inB w (nI 0) (nI 6) with
  | false => rfl
  | true =>
    obtain ⟨j, -, hj, rfl⟩ := inB_nat (by decide) q (by decide)
    have : j = 0 ∨ j = 1 ∨ j = 2 ∨ j = 3 ∨ j = 4 ∨ j = 5 ∨ j = 6 := by omega
    rcases this with rfl | rfl | rfl | rfl | rfl | rfl | rfl
    · exact absurd rfl h0
    · exact absurd rfl h1
    · exact absurd rfl h2
    · exact absurd rfl h3
    · exact absurd rfl h4
    · exact absurd rfl h5
    · exact absurd rfl h6
theorem no_7 {w : Int32} (h0 : ¬ w = nI 0) (h1 : ¬ w = nI 1) (h2 : ¬ w = nI 2) (h3 : ¬ w = nI 3) (h4 : ¬ w = nI 4) (h5 : ¬ w = nI 5) (h6 : ¬ w = nI 6) (h7 : ¬ w = nI 7) : inB w (nI 0) (nI 7) = false := by
  cases q : inB w (nI 0) (nI 7) with
  | false => rfl
  | true =>
    obtain ⟨j, -, hj, rfl⟩ := inB_nat (by decide) q (by decide)
    have : j = 0 ∨ j = 1 ∨ j = 2 ∨ j = 3 ∨ j = 4 ∨ j = 5 ∨ j = 6 ∨ j = 7 := by omega
    rcases this with rfl | rfl | rfl | rfl | rfl | rfl | rfl | rfl
    · exact absurd rfl h0
    · exact absurd rfl h1
    · exact absurd rfl h2
    · exact absurd rfl h3
    · exact absurd rfl h4
    · exact absurd rfl h5
    · exact absurd rfl h6
    · exact absurd rfl h7
