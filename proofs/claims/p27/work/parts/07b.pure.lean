/-! THE CLASS'S WAYS OF COUNTING ARE THE REFERENCE'S -/
theorem add_z (x : Int32) : x + nI 0 = x := Int32.add_zero x
def planB (n h sw : Int32) : Bool := inB n (nI 0) (nI 29) && (ahrB h && inB sw (nI 1) (nI 255))
def romB (d : Nat → Int32) : Bool := decide (vn d < 24) && decide (nG d < 200)
theorem out_c {d : Nat → Int32} (hI : zI d) {c : Int32} (hno : inB c (nI 0) (d 0 - nI 1) = false) (h1 : ¬ c < 0) (h2 : ¬ nI (nC d) ≤ c) : False := by
  have h8 := hI.nc8
  obtain ⟨j, hj, rfl⟩ := nI_of h1
  have h3 : j < nC d := Nat.not_le.mp (fun q => h2 (nI_le q hj))
  exact bf hno (inB_c hI h3)
theorem out_g {d : Nat → Int32} (hI : zI d) {c : Int32} (hno : inB c (nI 0) (d 442 - nI 1) = false) (h1 : ¬ c < 0) (h2 : ¬ nI (nG d) ≤ c) : False := by
  have h8 := hI.ng2
  obtain ⟨j, hj, rfl⟩ := nI_of h1
  have h3 : j < nG d := Nat.not_le.mp (fun q => h2 (nI_le q hj))
  exact bf hno (inB_g hI h3)
theorem met_t {d : Nat → Int32} {p : Nat} {n h : Int32} (c40 : pm d p 1 = n) (c8 : h / nI 10 ≤ pm d p 2 - pm d p 2 / nI 10 * nI 10) (c25 : pm d p 2 / nI 10 ≤ h - h / nI 10 * nI 10) : metB d p n h = true := by
  unfold metB hmB
  rw [decide_eq_true c40, decide_eq_false (Int32.not_lt.mpr c8), decide_eq_false (Int32.not_lt.mpr c25)]
  rfl
/-! sums over the valid permits -/
theorem sumN_cong {f g : Nat → Int32} : ∀ {n : Nat}, (∀ i, i < n → f i = g i) → sumN f n = sumN g n
  | 0, _ => rfl
  | n + 1, h => by rw [sumN_s, sumN_s, sumN_cong (fun i hi => h i (by omega)), h n (Nat.lt_succ_self n)]
theorem getD_app_l {l : List Nat} {x i : Nat} (h : i < l.length) : (l ++ [x]).getD i 0 = l.getD i 0 := by
  rw [List.getD_eq_getElem?_getD, List.getD_eq_getElem?_getD, List.getElem?_append_left h]
theorem getD_app_r {l : List Nat} {x : Nat} : (l ++ [x]).getD l.length 0 = x := by
  rw [List.getD_eq_getElem?_getD, List.getElem?_append_right (Nat.le_refl _), Nat.sub_self]
  rfl
theorem sum_f (P : Nat → Bool) (g : Nat → Int32) : ∀ n : Nat, sumN (fun i => g (((List.range n).filter P).getD i 0)) ((List.range n).filter P).length = sumN (fun p => if P p = true then g p else nI 0) n
  | 0 => rfl
  | n + 1 => by
    have ih := sum_f P g n
    rw [List.range_succ, List.filter_append, sumN_s]
    by_cases h : P n = true
    · rw [show List.filter P [n] = [n] by simp [h], if_pos h, List.length_append, List.length_singleton, sumN_s, getD_app_r, ← ih]
      congr 1
      exact sumN_cong (fun i hi => by rw [getD_app_l hi])
    · rw [show List.filter P [n] = [] by simp [h], if_neg h, List.append_nil, ih, add_z]
theorem sum_v (d : Nat → Int32) (g : Nat → Int32) : sumN (fun i => g (vx d i)) (vn d) = sumN (fun p => if pm d p 4 = nI 1 then g p else nI 0) (nG d) := by
  have h := sum_f (fun p => decide (pm d p 4 = nI 1)) g (nG d)
  unfold vx vn vL
  rw [h]
  exact sumN_cong (fun i _ => by by_cases q : pm d i 4 = nI 1 <;> simp [q])
def usvF (d : Nat → Int32) (st n : Int32) (i : Nat) : Int32 := if pofB d (vx d i) st n = true then usI d (vx d i) else nI 0
theorem used_v (d : Nat → Int32) (st n : Int32) : sumN (usvF d st n) (vn d) = usedI d st n := by
  have h := sum_v d (fun p => if pofB d p st n = true then usI d p else nI 0)
  unfold usedI
  refine (show sumN (usvF d st n) (vn d) = _ from h).trans (sumN_cong (fun p _ => ?_))
  unfold usedF ofB pofB
  by_cases q : pm d p 4 = nI 1 <;> by_cases r : pm d p 1 = n <;> by_cases u : gr d (pC d p) 4 = st <;> simp [q, r, u]
def vosF (d : Nat → Int32) (st n : Int32) (i : Nat) : Int32 := if pofB d (vx d i) st n = true then nI 1 else nI 0
theorem vos_v (d : Nat → Int32) (st n : Int32) : sumN (vosF d st n) (vn d) = vofI d st n := by
  have h := sum_v d (fun p => if pofB d p st n = true then nI 1 else nI 0)
  unfold vofI
  refine (show sumN (vosF d st n) (vn d) = _ from h).trans (sumN_cong (fun p _ => ?_))
  unfold vofF ofB pofB
  by_cases q : pm d p 4 = nI 1 <;> by_cases r : pm d p 1 = n <;> by_cases u : gr d (pC d p) 4 = st <;> simp [q, r, u]
def vocF (d : Nat → Int32) (c i : Nat) : Int32 := if pC d (vx d i) = c then nI 1 else nI 0
theorem voc_v {d : Nat → Int32} (hI : zI d) {c : Nat} (hc : c < 8) : sumN (vocF d c) (vn d) = vldI d (nI c) := by
  have h := sum_v d (fun p => if pC d p = c then nI 1 else nI 0)
  unfold vldI
  refine (show sumN (vocF d c) (vn d) = _ from h).trans (sumN_cong (fun p hp => ?_))
  have h8 := hI.pc8 hp
  have e : pm d p 0 = nI c ↔ pC d p = c := by rw [hI.pc hp]; exact nI_eq (by omega) (by omega)
  unfold vldF
  by_cases q : pm d p 4 = nI 1
  · rw [if_pos q, if_pos q, if_neg (oI_ne (by omega))]
    by_cases r : pC d p = c
    · rw [if_pos r, if_pos (e.mpr r)]
    · rw [if_neg r, if_neg (fun z => r (e.mp z))]
  · rw [if_neg q, if_neg q]
theorem sumN_1 : ∀ n : Nat, sumN (fun _ => nI 1) n = nI n
  | 0 => rfl
  | n + 1 => by rw [sumN_s, sumN_1 n, nI_add]
theorem vn_v (d : Nat → Int32) : nI (vn d) = vldI d (-1) := by
  have h := sum_v d (fun _ => nI 1)
  rw [sumN_1] at h
  rw [h]
  unfold vldI
  exact sumN_cong (fun p _ => by unfold vldF; rw [if_pos rfl])
theorem togS_f (d : Nat → Int32) : ∀ n : Nat, togS d false n = sumN (fun p => if pm d p 4 = nI 1 then usI d p else nI 0) n
  | 0 => rfl
  | n + 1 => by
    rw [sumN_s, ← togS_f d n]
    show accN (togF d n) (togS d false n + togA d false n) (togN d false n) = _
    rw [show togN d false n = 0 from rfl]
    show togS d false n + togA d false n = _
    unfold togA
    rw [if_neg (by decide)]
theorem tog_v (d : Nat → Int32) : sumN (fun j => usI d (vx d j)) (vn d) = togI d false := (sum_v d (fun p => usI d p)).trans (togS_f d (nG d)).symm
def vahF (d : Nat → Int32) (p i : Nat) : Int32 := if ahcB d (vx d i) p = true then nI 1 else nI 0
def cntF (d : Nat → Int32) (v : Int32) (p : Nat) : Int32 := if pm d p 4 = v then nI 1 else nI 0
/-! finding among the valid permits -/
theorem vx_onto {d : Nat → Int32} {p : Nat} (hp : p < nG d) (h : pm d p 4 = nI 1) : ∃ i, i < vn d ∧ vx d i = p := by
  have hm : p ∈ vL d := by
    unfold vL
    rw [List.mem_filter, List.mem_range]
    exact ⟨hp, by simpa using h⟩
  obtain ⟨i, hi⟩ := List.getElem?_of_mem hm
  have hl := (List.getElem?_eq_some_iff.mp hi).1
  refine ⟨i, hl, ?_⟩
  unfold vx
  rw [List.getD_eq_getElem?_getD, hi]
  rfl
theorem find_l (f : Nat → Bool) : ∀ (L : List Nat) (i : Nat), i < L.length → f (L.getD i 0) = true → (∀ j, j < i → f (L.getD j 0) = false) → L.find? f = some (L.getD i 0)
  | [], i, h, _, _ => absurd h (Nat.not_lt_zero _)
  | x :: L, 0, _, h, _ => by
    have h : f x = true := h
    rw [List.find?_cons, h]
    rfl
  | x :: L, i + 1, hi, h, hall => by
    have h0 : f x = false := hall 0 (Nat.succ_pos _)
    rw [List.find?_cons, h0]
    exact find_l f L i (by simpa using hi) h (fun j hj => hall (j + 1) (by omega))
theorem find_v_s {d : Nat → Int32} {g f : Nat → Bool} (hg : ∀ p, g p = (decide (pm d p 4 = nI 1) && f p)) {i : Nat} (hi : i < vn d) (hall : ∀ j, j < i → f (vx d j) = false) (h : f (vx d i) = true) : (List.range (nG d)).find? g = some (vx d i) := by
  have e : (List.range (nG d)).find? g = (vL d).find? f := by
    unfold vL
    rw [List.find?_filter]
    congr 1
    funext p
    rw [hg p]
    by_cases q : pm d p 4 = nI 1 <;> simp [q]
  rw [e]
  exact find_l f (vL d) i hi h hall
theorem find_v_n {d : Nat → Int32} {g f : Nat → Bool} (hg : ∀ p, g p = (decide (pm d p 4 = nI 1) && f p)) (hall : ∀ j, j < vn d → f (vx d j) = false) : (List.range (nG d)).find? g = none := by
  refine fst_n (fun p hp => ?_)
  rw [hg]
  by_cases q : pm d p 4 = nI 1
  · obtain ⟨i, hi, e⟩ := vx_onto hp q
    rw [← e, hall i hi, Bool.and_false]
  · rw [decide_eq_false q]; rfl
def bsyB (d : Nat → Int32) (c : Nat) (n h : Int32) (p : Nat) : Bool := decide (pC d p = c) && metB d p n h
theorem own_b {d : Nat → Int32} (hI : zI d) {c : Nat} (hc : c < 8) (n h : Int32) {p : Nat} (hp : p < nG d) : ownB d c n h p = (decide (pm d p 4 = nI 1) && bsyB d c n h p) := by
  have h8 := hI.pc8 hp
  have e : decide (pm d p 0 = nI c) = decide (pC d p = c) := by rw [hI.pc hp]; exact decide_eq_decide.mpr (nI_eq (by omega) (by omega))
  unfold ownB bsyB metB
  rw [e]
theorem bsy_t {d : Nat → Int32} (hI : zI d) {c : Nat} (hc : c < 8) {n h : Int32} {i : Nat} (hi : i < vn d) (hb : bsyB d c n h (vx d i) = true) : (List.range (nG d)).any (ownB d c n h) = true := by
  obtain ⟨h1, h2⟩ := vx_in hi
  exact any_t h1 (by rw [own_b hI hc n h h1, hb, decide_eq_true h2]; rfl)
theorem bsy_f {d : Nat → Int32} (hI : zI d) {c : Nat} (hc : c < 8) {n h : Int32} (hall : ∀ i, i < vn d → bsyB d c n h (vx d i) = false) : (List.range (nG d)).any (ownB d c n h) = false := by
  refine any_f (fun p hp => ?_)
  rw [own_b hI hc n h hp]
  by_cases q : pm d p 4 = nI 1
  · obtain ⟨i, hi, e⟩ := vx_onto hp q
    rw [← e, hall i hi, Bool.and_false]
  · rw [decide_eq_false q]; rfl
/-! swings as bits -/
def bL (x : Int64) (k : Nat) : Bool := x.toBitVec.getLsbD k
theorem bL_or (a b : Int64) (k : Nat) : bL (a ||| b) k = (bL a k || bL b k) := by unfold bL; rw [Int64.toBitVec_or, BitVec.getLsbD_or]
theorem bL_and (a b : Int64) (k : Nat) : bL (a &&& b) k = (bL a k && bL b k) := by unfold bL; rw [Int64.toBitVec_and, BitVec.getLsbD_and]
theorem bL_0 (k : Nat) : bL 0 k = false := by unfold bL; simp
theorem bL_ext {x : Int64} (h : ∀ k, k < 64 → bL x k = false) : x = 0 := by
  apply Int64.toBitVec_inj.mp
  apply BitVec.eq_of_getLsbD_eq
  intro i hi
  have := h i hi
  unfold bL at this
  rw [this]
  simp
theorem bitL_b : ∀ m, m < 64 → ((1 : Int64) <<< ((nI m).toInt64 &&& 63)).toBitVec = BitVec.twoPow 64 m := by decide
theorem bL_bit (i k : Nat) : bL (bitL i) k = decide (k = i % 64) := by
  unfold bL bitL
  rw [bitL_b (i % 64) (Nat.mod_lt _ (by decide)), BitVec.getLsbD_twoPow]
  have := Nat.mod_lt i (show 0 < 64 by decide)
  by_cases h : k = i % 64
  · subst h; simp [this]
  · rw [decide_eq_false h, decide_eq_false (Ne.symm h), Bool.and_false]
theorem bL_mk (f : Nat → Int64) (e i j k : Nat) : bL (mkL f e i j) k = (bL (f j) k || (decide (j = 4 * e + i / 64) && decide (k = i % 64))) := by
  unfold mkL vp_updL
  by_cases h : j = 4 * e + i / 64
  · rw [if_pos h, bL_or, bL_bit, decide_eq_true h, ← h]; rfl
  · rw [if_neg h, decide_eq_false h]; simp
theorem bL_mkN (f : Nat → Int64) (i e u k : Nat) (hu : u < 4) (hi : i / 64 < 4) : ∀ n, bL (mkN f i n (4 * e + u)) k = (bL (f (4 * e + u)) k || (decide (e < n) && (decide (u = i / 64) && decide (k = i % 64))))
  | 0 => by simp [mkN]
  | n + 1 => by
    rw [mkN, bL_mk, bL_mkN f i e u k hu hi n]
    by_cases h1 : u = i / 64
    · by_cases h2 : k = i % 64
      · by_cases h3 : e = n
        · subst h3
          rw [decide_eq_true (show 4 * e + u = 4 * e + i / 64 by omega), decide_eq_true h1, decide_eq_true h2, decide_eq_true (Nat.lt_succ_self e)]
          simp
        · rw [decide_eq_false (show ¬ 4 * e + u = 4 * n + i / 64 by omega)]
          by_cases h4 : e < n
          · rw [decide_eq_true h4, decide_eq_true (show e < n + 1 by omega)]; simp
          · rw [decide_eq_false h4, decide_eq_false (show ¬ e < n + 1 by omega)]; simp
      · rw [decide_eq_false h2]; simp
    · rw [decide_eq_false h1, decide_eq_false (show ¬ 4 * e + u = 4 * n + i / 64 by omega)]; simp
def ownC (x z : Int32) (i : Nat) : Prop := nI (i % 16) - x = 0 ∧ nI (i / 16) - z = 0
def farC (x z r : Int32) (i : Nat) : Prop := r * r < (nI (i % 16) - x) * (nI (i % 16) - x) + (nI (i / 16) - z) * (nI (i / 16) - z)
def dirN (x z : Int32) (i : Nat) : Nat := cl (dirC (nI (i % 16) - x) (nI (i / 16) - z))
theorem ei_far {x z r : Int32} {i : Nat} (h1 : ¬ ownC x z i) (h2 : farC x z r i) : eiS x z r (i + 1) = eiS x z r i := by
  unfold ownC at h1; unfold farC at h2
  rw [eiS, if_neg h1, if_pos h2]
theorem ei_own {x z r : Int32} {i : Nat} (h1 : ownC x z i) : eiS x z r (i + 1) = mkN (eiS x z r i) i 8 := by
  unfold ownC at h1
  rw [eiS, if_pos h1]
theorem ei_dir {x z r : Int32} {i : Nat} (h1 : ¬ ownC x z i) (h2 : ¬ farC x z r i) : eiS x z r (i + 1) = mkL (eiS x z r i) (dirN x z i) i := by
  unfold ownC at h1; unfold farC at h2
  rw [eiS, if_neg h1, if_neg h2]
  rfl
/-- what a crane's row holds at direction e, part u, bit k, once n cells are marked -/
def eiP (x z r : Int32) (e i : Nat) : Prop := ownC x z i ∨ (¬ farC x z r i ∧ dirN x z i = e)
theorem ei_bit (x z r : Int32) (e u k : Nat) (he : e < 8) (hu : u < 4) (hk : k < 64) : ∀ n, n ≤ 256 → (bL (eiS x z r n (4 * e + u)) k = true ↔ (64 * u + k < n ∧ eiP x z r e (64 * u + k)))
  | 0, _ => by
    rw [show eiS x z r 0 (4 * e + u) = 0 from rfl, bL_0]
    simp
  | n + 1, hn => by
    have ih := ei_bit x z r e u k he hu hk n (by omega)
    have hit : (u = n / 64 ∧ k = n % 64) ↔ 64 * u + k = n := by omega
    by_cases h1 : ownC x z n
    · rw [ei_own h1, bL_mkN _ _ _ _ _ hu (by omega), Bool.or_eq_true, ih]
      simp only [Bool.and_eq_true, decide_eq_true_eq]
      constructor
      · rintro (⟨a, b⟩ | ⟨-, b⟩)
        · exact ⟨by omega, b⟩
        · have := hit.mp b; rw [this]; exact ⟨by omega, Or.inl h1⟩
      · rintro ⟨a, b⟩
        by_cases q : 64 * u + k = n
        · exact Or.inr ⟨he, hit.mpr q⟩
        · exact Or.inl ⟨by omega, b⟩
    · by_cases h2 : farC x z r n
      · rw [ei_far h1 h2, ih]
        constructor
        · rintro ⟨a, b⟩; exact ⟨by omega, b⟩
        · rintro ⟨a, b⟩
          by_cases q : 64 * u + k = n
          · rw [q] at b
            rcases b with b | ⟨b, -⟩
            · exact absurd b h1
            · exact absurd h2 b
          · exact ⟨by omega, b⟩
      · rw [ei_dir h1 h2, bL_mk, Bool.or_eq_true, ih]
        simp only [Bool.and_eq_true, decide_eq_true_eq]
        constructor
        · rintro (⟨a, b⟩ | ⟨a, b⟩)
          · exact ⟨by omega, b⟩
          · have hd : dirN x z n = e := by omega
            have := hit.mp ⟨by omega, b⟩
            rw [this]; exact ⟨by omega, Or.inr ⟨h2, hd⟩⟩
        · rintro ⟨a, b⟩
          by_cases q : 64 * u + k = n
          · right
            have hq := hit.mpr q
            rw [q] at b
            rcases b with b | ⟨-, b⟩
            · exact absurd b h1
            · exact ⟨by omega, hq.2⟩
          · exact Or.inl ⟨by omega, b⟩
theorem air_bit (f : Nat → Int64) (sw : Int32) (u k : Nat) : ∀ n, (bL (airS f sw u n) k = true ↔ ∃ e, e < n ∧ swB sw e = true ∧ bL (f (4 * e + u)) k = true)
  | 0 => by
    rw [show airS f sw u 0 = 0 from rfl, bL_0]
    simp
  | n + 1 => by
    have ih := air_bit f sw u k n
    rw [airS]
    by_cases h : swB sw n = true
    · rw [if_pos h, bL_or, Bool.or_eq_true, ih]
      constructor
      · rintro (⟨e, h1, h2⟩ | h1)
        · exact ⟨e, by omega, h2⟩
        · exact ⟨n, by omega, h, h1⟩
      · rintro ⟨e, h1, h2, h3⟩
        by_cases q : e = n
        · subst q; exact Or.inr h3
        · exact Or.inl ⟨e, by omega, h2, h3⟩
    · rw [if_neg h, ih]
      constructor
      · rintro ⟨e, h1, h2⟩; exact ⟨e, by omega, h2⟩
      · rintro ⟨e, h1, h2, h3⟩
        by_cases q : e = n
        · subst q; exact absurd h2 h
        · exact ⟨e, by omega, h2, h3⟩
def swW (sw : Int32) : Prop := ∃ e, e < 8 ∧ swB sw e = true
theorem sw_one (x : Int32) : (x &&& nI 1 = nI 1) ↔ ¬ (x &&& nI 1 = 0) := by
  obtain ⟨j, hj, e⟩ := pk_andE x (m := nI 1) 1 (by decide)
  rw [e]
  have : j = 0 ∨ j = 1 := by omega
  rcases this with rfl | rfl
  · exact ⟨fun h => absurd h (by decide), fun h => absurd rfl h⟩
  · exact ⟨fun _ => by decide, fun _ => rfl⟩
theorem cov_bit {d : Nat → Int32} {c : Nat} {sw : Int32} (hsw : swW sw) {u k : Nat} (hu : u < 4) (hk : k < 64) : bL (airS (eiF d c) sw u 8) k = covC d c sw (64 * u + k) := by
  apply Bool.eq_iff_iff.mpr
  rw [air_bit]
  have hb : ∀ e, e < 8 → (bL (eiF d c (4 * e + u)) k = true ↔ eiP (gr d c 0) (gr d c 1) (gr d c 2) e (64 * u + k)) := fun e he => by
    unfold eiF
    rw [ei_bit _ _ _ e u k he hu hk 256 (Nat.le_refl _)]
    exact ⟨fun h => h.2, fun h => ⟨by omega, h⟩⟩
  unfold covC covB
  generalize hi : 64 * u + k = i at hb ⊢
  simp only [Bool.or_eq_true, Bool.and_eq_true, decide_eq_true_eq, Bool.not_eq_true', decide_eq_false_iff_not]
  by_cases h1 : ownC (gr d c 0) (gr d c 1) i
  · constructor
    · intro _; exact Or.inl h1
    · intro _
      obtain ⟨e, he, hs⟩ := hsw
      exact ⟨e, he, hs, (hb e he).mpr (Or.inl h1)⟩
  · have hd := dirC_n (nI (i % 16) - gr d c 0) (nI (i / 16) - gr d c 1)
    constructor
    · rintro ⟨e, he, hs, h⟩
      rcases (hb e he).mp h with h | ⟨h2, h3⟩
      · exact absurd h h1
      · right
        refine ⟨h2, ?_⟩
        rw [← dirC_I, hd.1]
        unfold dirN at h3
        rw [h3]
        unfold swB at hs
        simp only [Bool.not_eq_true', decide_eq_false_iff_not] at hs
        exact (sw_one _).mpr hs
    · rintro (h | ⟨h2, h3⟩)
      · exact absurd h h1
      · refine ⟨dirN (gr d c 0) (gr d c 1) i, hd.2, ?_, (hb _ hd.2).mpr (Or.inr ⟨h2, rfl⟩)⟩
        rw [← dirC_I, hd.1] at h3
        unfold swB dirN
        simp only [Bool.not_eq_true', decide_eq_false_iff_not]
        exact (sw_one _).mp h3
theorem am_yes {d : Nat → Int32} {c o : Nat} {s1 s2 : Int32} (h1 : swW s1) (h2 : swW s2) {u : Nat} (hu : u < 4) (h : ¬ airS (eiF d c) s1 u 8 &&& airS (eiF d o) s2 u 8 = 0) : amB d c s1 o s2 = true := by
  unfold amB
  cases q : (List.range 256).any (fun i => covC d c s1 i && covC d o s2 i) with
  | true => rfl
  | false =>
    exfalso
    apply h
    apply bL_ext
    intro k hk
    rw [bL_and, cov_bit h1 hu hk, cov_bit h2 hu hk]
    rw [List.any_eq_false] at q
    have := q (64 * u + k) (List.mem_range.mpr (by omega))
    simpa using this
theorem am_no {d : Nat → Int32} {c o : Nat} {s1 s2 : Int32} (h1 : swW s1) (h2 : swW s2) (h : ∀ u, u < 4 → airS (eiF d c) s1 u 8 &&& airS (eiF d o) s2 u 8 = 0) : amB d c s1 o s2 = false := by
  unfold amB
  refine any_f (fun i hi => ?_)
  have e := h (i / 64) (by omega)
  have e2 : bL (airS (eiF d c) s1 (i / 64) 8 &&& airS (eiF d o) s2 (i / 64) 8) (i % 64) = false := by rw [e]; exact bL_0 _
  rw [bL_and, cov_bit h1 (by omega) (by omega), cov_bit h2 (by omega) (by omega), show 64 * (i / 64) + i % 64 = i by omega] at e2
  exact e2
theorem lcmp_0 {x : Int64} (h : lg_cmp x (0) = 0) : x = 0 := by
  unfold lg_cmp at h
  split at h
  · exact absurd h (by decide)
  · split at h
    · assumption
    · exact absurd h (by decide)
theorem lcmp_n {x : Int64} (h : ¬ lg_cmp x (0) = 0) : ¬ x = 0 := by
  intro q
  subst q
  exact h (by decide)
theorem abs_e (x : Int32) : (if 0 ≤ x then x else 0 - x) = absM x := by
  unfold absM
  split
  · rfl
  · rw [Int32.zero_sub]
theorem abs_le {x z : Int32} (h : ¬ (if 0 ≤ x then x else 0 - x) < z) : z ≤ absM x := by
  rw [abs_e] at h
  exact Int32.not_lt.mp h
theorem air_met {d : Nat → Int32} {p : Nat} {n h : Int32} {X : Bool} (hm : metB d p n h = false) : (decide (n = pm d p 1) && (hmB h (pm d p 2) && X)) = false := by
  unfold metB at hm
  rw [show decide (n = pm d p 1) = decide (pm d p 1 = n) from decide_eq_decide.mpr ⟨Eq.symm, Eq.symm⟩, ← Bool.and_assoc, hm]; rfl
theorem air_yes {d : Nat → Int32} {c p : Nat} {n h sw : Int32} (h1 : decide (pC d p = c) = false) (h2 : metB d p n h = true) (h3 : (if 0 ≤ gr d c 3 - gr d (pC d p) 3 then gr d c 3 - gr d (pC d p) 3 else 0 - (gr d c 3 - gr d (pC d p) 3)) < d 3) (h4 : amB d c sw (pC d p) (pm d p 3) = true) : airB d c n h sw p = true := by
  unfold metB at h2
  simp only [Bool.and_eq_true, decide_eq_true_eq] at h2
  rw [abs_e] at h3
  unfold airB
  rw [decide_eq_false (fun q => of_decide_eq_false h1 q.symm), decide_eq_true h2.1.symm, h2.2, decide_eq_false (Int32.not_le.mpr h3), h4]; rfl
