/-! PURE: the other changes -/
/-- what the class's test looks at -/
theorem wf_cong {d d' : Nat → Int32} (hI : zI d) (hpl : plJ d) (hs : ∀ i, (i = 1 ∨ i = 2 ∨ (52 ≤ i ∧ i < 442)) → d' i = d i) (hG : nG d' = nG d) (hp : ∀ q k, q < nG d → k < 5 → pm d' q k = pm d q k) (hg : ∀ c k, c < nC d → k < 6 → gr d' c k = gr d c k) {p : Nat} (hh : p < nG d) : wfB d' p = wfB d p := by
  have epC : ∀ q, q < nG d → pC d' q = pC d q := fun q hq => by unfold pC; rw [hp q 0 hq (by decide)]
  have b1 := (hpl.nn hh).2
  have b2 := st_4 hI hh
  have hc := hI.pcn hh
  have es : sC d' (pC d p) = sC d (pC d p) := by unfold sC; rw [hg _ 4 hc (by decide)]
  have en : nN d' p = nN d p := by unfold nN; rw [hp p 1 hh (by decide)]
  have eu : ∀ st n, usedI d' st n = usedI d st n := fun st n => by
    unfold usedI
    rw [hG]
    refine sumN_cong (fun q hq => ?_)
    unfold usedF ofB usI
    rw [hp q 4 hq (by decide), hp q 1 hq (by decide), hp q 2 hq (by decide), epC q hq, hg _ 4 (hI.pcn hq) (by decide), hg _ 5 (hI.pcn hq) (by decide)]
  unfold wfB freI
  rw [epC p hh, es, en, eu]
  unfold stD at b2
  unfold stpB creI alwI
  rw [hs (52 + nN d p) (by omega), hs 1 (by omega), hg _ 3 hc (by decide), hs (82 + _) (by omega), hs 2 (by omega), hs (202 + _) (by omega), hs (322 + _) (by omega)]
/-- rows that are the same as far as they count -/
theorem zI.same {d d' : Nat → Int32} (hI : zI d) (e : ∀ i, i < 1445 → i ≠ 443 → i ≠ 444 → d' i = d i) : zI d' ∧ nG d' = nG d ∧ nC d' = nC d := by
  have h := hI.keep (d' := d') (e 0 (by decide) (by decide) (by decide)) (e 442 (by decide) (by decide) (by decide)) (fun p hp => e _ (by omega) (by omega) (by omega)) (fun c hc => e _ (by omega) (by omega) (by omega))
  exact ⟨h.1, h.2.1, h.2.2.1⟩
theorem same_vL {d d' : Nat → Int32} (hI : zI d) (e : ∀ i, i < 1445 → i ≠ 443 → i ≠ 444 → d' i = d i) : vL d' = vL d := by
  have g2 := hI.ng2
  exact vL_cong (hI.same e).2.1 (fun p hp => e _ (by omega) (by omega) (by omega))
theorem zJ.same {n : Nat} {d d' : Nat → Int32} (h : zJ n d) (e : ∀ i, i < 1445 → d' i = d i) : zJ n d' := by
  obtain ⟨⟨hI, h24, hpl, h2, h3⟩, hB, hw⟩ := h
  have g2 := hI.ng2
  have h8 := hI.nc8
  obtain ⟨a1, a2, a3⟩ := hI.same (fun i hi _ _ => e i hi)
  have hpm : ∀ p k, p < nG d → k < 5 → pm d' p k = pm d p k := fun p k hp hk => e _ (by omega)
  have hs : ∀ v, sumN (cntF d' v) (nG d) = sumN (cntF d v) (nG d) := fun v => sumN_cong (fun p hp => by unfold cntF; rw [hpm p 4 hp (by decide)])
  refine ⟨⟨a1, ?_, fun p hp => ?_, ?_, ?_⟩, ⟨fun c hc => ?_, ?_, fun i hi => ?_, fun i hi => ?_, fun i hi => ?_⟩, fun p hp h4 => ?_⟩
  · rw [vn_cong (same_vL hI (fun i hi _ _ => e i hi))]; exact h24
  · rw [hpm p 1 (by omega) (by decide), hpm p 2 (by omega) (by decide), hpm p 3 (by omega) (by decide)]; exact hpl p (by omega)
  · rw [e 443 (by decide), a2, hs]; exact h2
  · rw [e 444 (by decide), a2, hs]; exact h3
  · rw [show gr d' c 5 = gr d c 5 from e _ (by omega)]; exact hB.1 c (by omega)
  · rw [e 2 (by decide)]; exact hB.2.1
  · rw [e _ (by omega)]; exact hB.2.2.1 i hi
  · rw [e _ (by omega)]; exact hB.2.2.2.1 i hi
  · rw [e _ (by omega)]; exact hB.2.2.2.2 i hi
  · rw [a2] at hp
    rw [hpm p 4 hp (by decide)] at h4
    rw [wf_cong hI hpl (fun i hi => e i (by omega)) a2 hpm (fun c k hc hk => e _ (by omega)) hp]
    exact hw p hp h4
/-! the start -/
theorem ini_J : zJ 0 (iniD 120) := by
  have hC := ini_C
  have hG := ini_G
  have hI : zI (iniD 120) := ⟨by rw [hC, ini_0 (by omega)]; decide, by rw [hC]; decide, by rw [hG, ini_0 (by omega)]; decide, by rw [hG]; decide, fun p hp => by rw [hG] at hp; omega, fun c hc => by rw [hC] at hc; omega⟩
  refine ⟨⟨hI, by rw [ini_V]; decide, fun p hp => by rw [hG] at hp; omega, ?_, ?_⟩, ⟨fun c hc => by rw [hC] at hc; omega, by decide, fun i hi => Or.inl ?_, fun i hi => ?_, fun i hi => ?_⟩, fun p hp => by rw [hG] at hp; omega⟩
  · rw [hG, ini_0 (by omega)]; decide
  · rw [hG, ini_0 (by omega)]; decide
  · rw [ini_at, if_pos (by omega)]
  · rw [ini_0 (by omega)]; exact ⟨by decide, by decide⟩
  · rw [ini_0 (by omega)]; exact ⟨by decide, by decide⟩
/-! free credits, in whole numbers -/
theorem fre_int {n : Nat} {d : Nat → Int32} (hJ : rJ d) (hB : zB n d) (hn : n ≤ 1000) {st m : Nat} (h1 : st < 4) (h2 : m < 30) : (freI d st m).toInt = (creI d st m).toInt - (uT d (fun _ => false) (nI st) (nI m) : Int) ∧ (uT d (fun _ => false) (nI st) (nI m) : Int) ≤ 18000 := by
  have hb := uT_b hJ.1 hJ.2.2.1 hB.1 (fun _ => false) (nI st) (nI m)
  have hu := used_T hJ.1 hJ.2.2.1 hB.1 (fun _ => false) (nI st) (nI m)
  rw [mk_0] at hu
  obtain ⟨a, b⟩ := hB.cr hn st m h1 h2
  unfold freI
  rw [hu]
  have e := nI_toInt (show uT d (fun _ => false) (nI st) (nI m) < 2147483648 by omega)
  rw [sub_int (by omega) (by omega), e]
  exact ⟨rfl, by omega⟩
theorem lt0 (x : Int32) : decide (x < 0) = decide (x.toInt < 0) := by
  have e : x < 0 ↔ x.toInt < 0 := Int32.lt_iff_toInt_lt
  by_cases h : x < 0
  · rw [decide_eq_true h, decide_eq_true (e.mp h)]
  · rw [decide_eq_false h, decide_eq_false (fun q => h (e.mpr q))]
theorem le0 {x : Int32} (h : 0 ≤ x) : 0 ≤ x.toInt := Int32.le_iff_toInt_le.mp h
/-! a transfer -/
theorem tra_n {d : Nat → Int32} {a b m : Nat} {c : Int32} {i : Nat} (h1 : i ≠ 322 + (30 * a + m)) (h2 : i ≠ 202 + (30 * b + m)) : traD d a b m c i = d i := (u_ne h2).trans (u_ne h1)
theorem tra_1 {d : Nat → Int32} {a b m : Nat} {c : Int32} (h : 322 + (30 * a + m) ≠ 202 + (30 * b + m)) : traD d a b m c (322 + (30 * a + m)) = d (322 + (30 * a + m)) + c := (u_ne h).trans pk_us
theorem tra_2 {d : Nat → Int32} {a b m : Nat} {c : Int32} (h : 202 + (30 * b + m) ≠ 322 + (30 * a + m)) : traD d a b m c (202 + (30 * b + m)) = d (202 + (30 * b + m)) + c := by unfold traD; rw [pk_us, u_ne h]
theorem tra_J {d : Nat → Int32} (hJ : rJ d) {a b m : Nat} {c : Int32} (ha : a < 4) (hb : b < 4) (hm : m < 30) : rJ (traD d a b m c) := by
  have hI := hJ.1
  have hI1 := (hI.low (322 + (30 * a + m)) (by omega) (d (322 + (30 * a + m)) + c)).1
  have hJ1 := up_rJ hJ hI1 (by omega) (by omega)
  have hI2 := (hI1.low (202 + (30 * b + m)) (by omega) (upd d (322 + (30 * a + m)) (d (322 + (30 * a + m)) + c) (202 + (30 * b + m)) + c)).1
  exact up_rJ hJ1 hI2 (by omega) (by omega)
theorem tra_t1 {n : Nat} {d : Nat → Int32} (hB : zB n d) (hn : n + 1 ≤ 1000) {i : Nat} {c : Int32} (hi : i < 120) (hc : inB c (nI 1) (nI 200) = true) : (d (322 + i) + c).toInt = (d (322 + i)).toInt + c.toInt ∧ (d (202 + i) + c).toInt = (d (202 + i)).toInt + c.toInt := by
  have hc2 := inB_int (by decide) (by decide) hc
  have v1 := hB.2.2.2.2 i hi
  have v2 := hB.2.2.2.1 i hi
  exact ⟨add_int (by omega) (by omega), add_int (by omega) (by omega)⟩
theorem tra_B {n : Nat} {d : Nat → Int32} (hB : zB n d) (h8 : nC d ≤ 8) (hn : n + 1 ≤ 1000) {a b m : Nat} {c : Int32} (ha : a < 4) (hb : b < 4) (hm : m < 30) (hc : inB c (nI 1) (nI 200) = true) : zB (n + 1) (traD d a b m c) := by
  have hc2 := inB_int (by decide) (by decide) hc
  have t1 := (tra_t1 hB hn (i := 30 * a + m) (by omega) hc).1
  have t2 := (tra_t1 hB hn (i := 30 * b + m) (by omega) hc).2
  have eC : nC (traD d a b m c) = nC d := by unfold nC; rw [tra_n (by omega) (by omega)]
  refine ⟨fun e he => ?_, ?_, fun i hi => ?_, fun i hi => ?_, fun i hi => ?_⟩
  · rw [show gr (traD d a b m c) e 5 = gr d e 5 from tra_n (by omega) (by omega)]; exact hB.1 e (by omega)
  · rw [tra_n (by omega) (by omega)]; exact hB.2.1
  · rw [tra_n (by omega) (by omega)]; exact hB.2.2.1 i hi
  · have := hB.2.2.2.1 i hi
    by_cases q : i = 30 * b + m
    · subst q; rw [tra_2 (by omega), t2]; omega
    · rw [tra_n (by omega) (by omega)]; omega
  · have := hB.2.2.2.2 i hi
    by_cases q : i = 30 * a + m
    · subst q; rw [tra_1 (by omega), t1]; omega
    · rw [tra_n (by omega) (by omega)]; omega
theorem sumT_cong {f g : Nat → Nat} : ∀ {n : Nat}, (∀ i, i < n → f i = g i) → sumT f n = sumT g n
  | 0, _ => rfl
  | n + 1, h => by
    show sumT f n + f n = sumT g n + g n
    rw [sumT_cong (fun i hi => h i (by omega)), h n (Nat.lt_succ_self n)]
theorem uT_cong {d d' : Nat → Int32} (hI : zI d) (hG : nG d' = nG d) (hp : ∀ q k, q < nG d → k < 5 → pm d' q k = pm d q k) (hg : ∀ c k, c < nC d → k < 6 → gr d' c k = gr d c k) (W : Nat → Bool) (st n : Int32) : uT d' W st n = uT d W st n := by
  unfold uT
  rw [hG]
  refine sumT_cong (fun p hh => ?_)
  have ep : pC d' p = pC d p := by unfold pC; rw [hp p 0 hh (by decide)]
  unfold ofB uN usI
  rw [hp p 4 hh (by decide), hp p 1 hh (by decide), hp p 2 hh (by decide), ep, hg _ 4 (hI.pcn hh) (by decide), hg _ 5 (hI.pcn hh) (by decide)]
theorem ch_transfer {n : Nat} {d : Nat → Int32} (h : zJ n d) (hn : n + 1 ≤ 1000) {a b m : Nat} {c : Int32} (ha : a < 4) (hb : b < 4) (hab : a ≠ b) (hm : m < 30) (hc : inB c (nI 1) (nI 200) = true) (hf : 0 ≤ freI d a m - c) : zJ (n + 1) (traD d a b m c) := by
  obtain ⟨hJ, hB, hw⟩ := h
  have hI := hJ.1
  have h8 := hI.nc8
  have hc2 := inB_int (by decide) (by decide) hc
  have hJ2 : rJ (traD d a b m c) := tra_J hJ ha hb hm
  have hB2 := tra_B hB h8 hn ha hb hm hc
  have t1 := (tra_t1 hB hn (i := 30 * a + m) (by omega) hc).1
  have t2 := (tra_t1 hB hn (i := 30 * b + m) (by omega) hc).2
  have eG : nG (traD d a b m c) = nG d := by unfold nG; rw [tra_n (by omega) (by omega)]
  have epm : ∀ p k, pm (traD d a b m c) p k = pm d p k := fun p k => tra_n (by omega) (by omega)
  have egr : ∀ e k, e < nC d → k < 6 → gr (traD d a b m c) e k = gr d e k := fun e k he hk => tra_n (by omega) (by omega)
  have eu := fun st k => uT_cong hI eG (fun p k _ _ => epm p k) egr (fun _ => false) st k
  refine ⟨hJ2, hB2, fun p hp h4 => ?_⟩
  rw [eG] at hp
  rw [epm] at h4
  have hold := hw p hp h4
  have p8 := hI.pcn hp
  have b1 := (hJ.2.2.1.nn hp).2
  have b2 := st_4 hI hp
  have ep : pC (traD d a b m c) p = pC d p := by unfold pC; rw [epm]
  have en : nN (traD d a b m c) p = nN d p := by unfold nN; rw [epm]
  have es : stD (traD d a b m c) p = stD d p := by unfold stD sC; rw [ep, egr _ _ p8 (by decide)]
  have esp : spB (traD d a b m c) p = spB d p := by
    unfold spB stpB
    rw [ep, en, tra_n (by omega) (by omega), tra_n (i := 1) (by omega) (by omega), egr _ _ p8 (by decide)]
  rw [wf_split0, Bool.or_eq_false_iff] at hold ⊢
  rw [esp, es, en]
  refine ⟨hold.1, ?_⟩
  obtain ⟨f1, f2⟩ := fre_int hJ hB (by omega) b2 b1
  obtain ⟨g1, g2⟩ := fre_int hJ2 hB2 hn b2 b1
  have c1 := hB.cre (by omega) b2 b1
  have c2 := hB2.cre hn b2 b1
  have ea : alwI (traD d a b m c) (stD d p) (nN d p) = alwI d (stD d p) (nN d p) := by
    unfold alwI; rw [tra_n (by omega) (by omega), tra_n (i := 2) (by omega) (by omega)]
  have ho := hold.2
  rw [lt0, decide_eq_false_iff_not] at ho ⊢
  rw [g1, eu, c2, ea]
  rw [f1, c1] at ho
  have hal := hB.alw b2 b1
  have hva := hB.2.2.2.1 (30 * stD d p + nN d p) (by omega)
  have hvb := hB.2.2.2.2 (30 * stD d p + nN d p) (by omega)
  by_cases q1 : 30 * stD d p + nN d p = 30 * a + m
  · obtain rfl : a = stD d p := by omega
    obtain rfl : m = nN d p := by omega
    have hfi := le0 hf
    rw [sub_int (by rw [f1, c1]; omega) (by rw [f1, c1]; omega), f1, c1] at hfi
    rw [tra_1 (by omega), t1, tra_n (i := 202 + (30 * stD d p + nN d p)) (by omega) (by omega)]
    omega
  · rw [tra_n (i := 322 + (30 * stD d p + nN d p)) (by omega) (by omega)]
    by_cases q2 : 30 * stD d p + nN d p = 30 * b + m
    · obtain rfl : b = stD d p := by omega
      obtain rfl : m = nN d p := by omega
      rw [tra_2 (by omega), t2]; omega
    · rw [tra_n (i := 202 + (30 * stD d p + nN d p)) (by omega) (by omega)]; omega
/-! a crane -/
theorem add_at {d : Nat → Int32} {x z r h st no : Int32} {i : Nat} (h0 : i ≠ 0) (hi : i < 4 + 6 * nC d ∨ 4 + 6 * nC d + 6 ≤ i) : addC d x z r h st no i = d i := by
  unfold addC; rw [pk_un h0, pk_un (by omega), pk_un (by omega), pk_un (by omega), pk_un (by omega), pk_un (by omega), pk_un (by omega)]
theorem ch_crane {n : Nat} {d : Nat → Int32} (h : zJ n d) {x z r hh st no : Int32} (hok : okCr x z r hh st no = true) (h8 : nC d < 8) : zJ n (addC d x z r hh st no) := by
  obtain ⟨⟨hI, h24, hpl, h2, h3⟩, hB, hw⟩ := h
  have g2 := hI.ng2
  unfold okCr at hok
  simp only [Bool.and_eq_true] at hok
  obtain ⟨-, -, -, -, q5, q6⟩ := hok
  have e0 : addC d x z r hh st no 0 = nI (nC d + 1) := pk_us.trans (nI_add _ _)
  have eC : nC (addC d x z r hh st no) = nC d + 1 := by
    show cl (addC d x z r hh st no 0) = _
    rw [e0, cl_nI (by omega)]
  have hi : ∀ i, 52 ≤ i → addC d x z r hh st no i = d i := fun i hh => add_at (by omega) (by omega)
  have eG : nG (addC d x z r hh st no) = nG d := by unfold nG; rw [hi 442 (by decide)]
  have epm : ∀ p k, pm (addC d x z r hh st no) p k = pm d p k := fun p k => hi _ (by omega)
  have epC : ∀ p, pC (addC d x z r hh st no) p = pC d p := fun p => by unfold pC; rw [epm]
  have egr : ∀ c k, c < nC d → k < 6 → gr (addC d x z r hh st no) c k = gr d c k := fun c k hc hk => add_at (by omega) (by omega)
  have n4 : gr (addC d x z r hh st no) (nC d) 4 = st := by
    show addC d x z r hh st no (4 + 6 * nC d + 4) = st
    unfold addC; rw [pk_un (by omega), pk_un (by omega), pk_us]
  have n5 : gr (addC d x z r hh st no) (nC d) 5 = no := by
    show addC d x z r hh st no (4 + 6 * nC d + 5) = no
    unfold addC; rw [pk_un (by omega), pk_us]
  have hs : ∀ v, sumN (cntF (addC d x z r hh st no) v) (nG d) = sumN (cntF d v) (nG d) := fun v => sumN_cong (fun p hp => by unfold cntF; rw [epm])
  refine ⟨⟨⟨by rw [e0, eC], by rw [eC]; omega, by rw [hi 442 (by decide), eG]; exact hI.ng, by rw [eG]; exact g2, fun p hp => ?_, fun c hc => ?_⟩, ?_, fun p hp => ?_, ?_, ?_⟩, ⟨fun c hc => ?_, ?_, fun i hh => ?_, fun i hh => ?_, fun i hh => ?_⟩, fun p hp h4 => ?_⟩
  · rw [eG] at hp
    rw [epm, epC, eC]
    exact ⟨hI.pc hp, Nat.lt_succ_of_lt (hI.pcn hp)⟩
  · rw [eC] at hc
    rcases Nat.lt_or_ge c (nC d) with q | q
    · have es : sC (addC d x z r hh st no) c = sC d c := by unfold sC; rw [egr c 4 q (by decide)]
      rw [es, egr c 4 q (by decide)]
      exact ⟨hI.sc q, hI.sc4 q⟩
    · have e : c = nC d := by omega
      subst e
      obtain ⟨j, j1, j2, je⟩ := inB_nat (by decide) q5 (by decide)
      unfold sC
      rw [n4, je, cl_nI (by omega)]
      exact ⟨rfl, by omega⟩
  · rw [vn_keep (hi 442 (by decide)) (fun p => epm p 4)]; exact h24
  · rw [epm, epm, epm]; exact hpl p (by omega)
  · rw [hi 443 (by decide), eG, hs]; exact h2
  · rw [hi 444 (by decide), eG, hs]; exact h3
  · rw [eC] at hc
    rcases Nat.lt_or_ge c (nC d) with q | q
    · rw [egr c 5 q (by decide)]; exact hB.1 c q
    · have e : c = nC d := by omega
      subst e
      rw [n5]; exact q6
  · rw [add_at (by decide) (by omega)]; exact hB.2.1
  · rw [hi _ (by omega)]; exact hB.2.2.1 i hh
  · rw [hi _ (by omega)]; exact hB.2.2.2.1 i hh
  · rw [hi _ (by omega)]; exact hB.2.2.2.2 i hh
  · rw [eG] at hp
    rw [epm] at h4
    rw [wf_cong hI hpl (fun i hh => add_at (by omega) (by omega)) eG (fun q k _ _ => epm q k) egr hp]
    exact hw p hp h4
/-! a permit granted -/
theorem ch_gra {n : Nat} {d : Nat → Int32} (h : zJ n d) (hn : n ≤ 1000) {c m : Nat} {hh sw : Int32} (hc : c < nC d) (hm : m < 30) (hpn : planB (nI m) hh sw = true) (hrm : romB d = true) (hr : rfsI d c m hh sw = nI 0) : zJ n (graD d c m hh sw) := by
  obtain ⟨hJ, hB, hw⟩ := h
  have hI := hJ.1
  have g2 := hI.ng2
  have h8 := hI.nc8
  obtain ⟨r1, r2⟩ := rom_2 hrm
  have hJ2 := rJ_gra hJ hc hpn hrm
  obtain ⟨a1, a2, a3⟩ := gra_I hI r2 (n := m) hc hh sw
  obtain ⟨p0, p1, p2, p3, p4⟩ := @gra_pm d c m hh sw
  have lo : ∀ i, i ≠ 442 → i < 445 → graD d c m hh sw i = d i := fun i h1 h2 => gra_lo h1 (by omega)
  have egr : ∀ e k, e < 8 → k < 6 → gr (graD d c m hh sw) e k = gr d e k := fun e k he hk => lo _ (by omega) (by omega)
  have eold : ∀ p k, p < nG d → k < 5 → pm (graD d c m hh sw) p k = pm d p k := fun p k hp hk => gra_old hp hk g2
  have hB2 : zB n (graD d c m hh sw) := by
    refine ⟨fun e he => ?_, ?_, fun i hi => ?_, fun i hi => ?_, fun i hi => ?_⟩
    · rw [egr e 5 (by omega) (by decide)]; exact hB.1 e (by omega)
    · rw [lo 2 (by decide) (by decide)]; exact hB.2.1
    · rw [lo _ (by omega) (by omega)]; exact hB.2.2.1 i hi
    · rw [lo _ (by omega) (by omega)]; exact hB.2.2.2.1 i hi
    · rw [lo _ (by omega) (by omega)]; exact hB.2.2.2.2 i hi
  have eC : pC (graD d c m hh sw) (nG d) = c := by unfold pC; rw [p0, cl_nI (by omega)]
  have eCo : ∀ p, p < nG d → pC (graD d c m hh sw) p = pC d p := fun p hp => by unfold pC; rw [eold p 0 hp (by decide)]
  -- what the refusal looked at
  unfold rfsI at hr
  split at hr
  · exact absurd hr (by decide)
  rename_i q1
  split at hr
  · exact absurd hr (by decide)
  rename_i q2
  split at hr
  case isFalse => exact absurd hr (by decide)
  split at hr
  case isFalse => exact absurd hr (by decide)
  rename_i q4
  have hsc := hI.sc hc
  have hs4 := hI.sc4 hc
  have eus : usI (graD d c m hh sw) (nG d) = hrsI hh * gr d c 5 := by unfold usI; rw [p2, eC, egr c 5 (by omega) (by decide)]
  have ecre : ∀ st k, st < 4 → k < 30 → creI (graD d c m hh sw) st k = creI d st k := fun st k h1 h2 => by
    unfold creI alwI
    rw [lo _ (by omega) (by omega), lo 2 (by decide) (by decide), lo _ (by omega) (by omega), lo _ (by omega) (by omega)]
  have eused : ∀ st k, usedI (graD d c m hh sw) st k = usedI d st k + (if ofB (graD d c m hh sw) (nG d) st k = true then hrsI hh * gr d c 5 else nI 0) := fun st k => by
    have hA : sumN (usedF (graD d c m hh sw) st k) (nG d) = sumN (usedF d st k) (nG d) := sumN_cong (fun p hp => by
      unfold usedF ofB usI
      rw [eold p 4 hp (by decide), eold p 1 hp (by decide), eold p 2 hp (by decide), eCo p hp, egr _ 4 (hI.pc8 hp) (by decide), egr _ 5 (hI.pc8 hp) (by decide)])
    have hZ : usedF (graD d c m hh sw) st k (nG d) = if ofB (graD d c m hh sw) (nG d) st k = true then hrsI hh * gr d c 5 else nI 0 := by unfold usedF; rw [eus]
    unfold usedI
    rw [a2, sumN_s, hA, hZ]
  have hofn : ∀ st k, st < 4 → k < 30 → ofB (graD d c m hh sw) (nG d) (nI st) (nI k) = (decide (m = k) && decide (sC d c = st)) := fun st k h1 h2 => by
    unfold ofB
    rw [p4, p1, eC, egr c 4 (by omega) (by decide), decide_eq_true rfl, Bool.true_and, hsc, nI_inj (by omega) (by omega), nI_inj (by omega) (by omega)]
  have hpl2 := hJ2.2.2.1
  have hz := hB2.1
  have hcr2 := hB2.cr hn
  have hnn : ∀ p, p < nG d → nN (graD d c m hh sw) p = nN d p := fun p hp => by unfold nN; rw [eold p 1 hp (by decide)]
  have hfd : ∀ st k, st < 4 → k < 30 → decide (freI (graD d c m hh sw) st k < 0) = !decide (usedI (graD d c m hh sw) (nI st) (nI k) ≤ creI (graD d c m hh sw) st k) := fun st k h1 h2 => by
    have e9 := fre_dec a1 hpl2 hz hcr2 (fun _ => false) h1 h2
    rw [mk_0] at e9
    exact e9
  have hfd0 : ∀ st k, st < 4 → k < 30 → decide (freI d st k < 0) = !decide (usedI d (nI st) (nI k) ≤ creI d st k) := fun st k h1 h2 => by
    have e9 := fre_dec hI hJ.2.2.1 hB.1 (hB.cr hn) (fun _ => false) h1 h2
    rw [mk_0] at e9
    exact e9
  refine ⟨hJ2, hB2, fun p hp h4 => ?_⟩
  rw [a2] at hp
  rw [wf_split0, Bool.or_eq_false_iff]
  rcases Nat.lt_or_ge p (nG d) with q | q
  · rw [eold p 4 q (by decide)] at h4
    have hold := hw p q h4
    rw [wf_split0, Bool.or_eq_false_iff] at hold
    have b1 := (hJ.2.2.1.nn q).2
    have b2 := st_4 hI q
    have b8 := hI.pc8 q
    have es : stD (graD d c m hh sw) p = stD d p := by unfold stD sC; rw [eCo p q, egr _ 4 b8 (by decide)]
    refine ⟨?_, ?_⟩
    · have : spB (graD d c m hh sw) p = spB d p := by
        unfold spB stpB
        rw [eCo p q, hnn p q, lo _ (by omega) (by omega), lo 1 (by decide) (by decide), egr _ 3 b8 (by decide)]
      rw [this]; exact hold.1
    · rw [es, hnn p q, hfd _ _ b2 b1, eused, ecre _ _ b2 b1, hofn _ _ b2 b1]
      have ho := hold.2
      rw [hfd0 _ _ b2 b1] at ho
      by_cases hk : m = nN d p ∧ sC d c = stD d p
      · rw [decide_eq_true hk.1, decide_eq_true hk.2, ← hk.1, ← hk.2]
        rw [if_pos (show (true && true) = true from rfl), decide_eq_true q4]; rfl
      · have : (decide (m = nN d p) && decide (sC d c = stD d p)) = false := by
          by_cases hk1 : m = nN d p
          · rw [decide_eq_false (fun r => hk ⟨hk1, r⟩), Bool.and_false]
          · rw [decide_eq_false hk1, Bool.false_and]
        rw [this, if_neg Bool.false_ne_true, add_z]; exact ho
  · have e : p = nG d := by omega
    subst e
    have en : nN (graD d c m hh sw) (nG d) = m := by unfold nN; rw [p1, cl_nI (by omega)]
    have es : stD (graD d c m hh sw) (nG d) = sC d c := by unfold stD sC; rw [eC, egr c 4 (by omega) (by decide)]
    refine ⟨?_, ?_⟩
    · have : spB (graD d c m hh sw) (nG d) = stpB d c m := by
        unfold spB stpB
        rw [eC, en, lo _ (by omega) (by omega), lo 1 (by decide) (by decide), egr _ 3 (by omega) (by decide)]
      rw [this]; exact Bool.eq_false_iff.mpr q2
    · rw [es, en, hfd _ _ hs4 hm, eused, ecre _ _ hs4 hm, hofn _ _ hs4 hm, decide_eq_true rfl, decide_eq_true rfl, if_pos (show (true && true) = true from rfl), decide_eq_true q4]; rfl
theorem fD_Z {n : Nat} {d tx : Nat → Int32} {len : Nat} (h : zJ n d) (hn : n ≤ 1000) : ∀ {i : Nat}, (∀ j, j < i → (!goB d tx len j) = false) → zJ n (fD d tx len i)
  | 0, _ => h
  | i + 1, hall => by
    have ih := fD_Z (tx := tx) (len := len) h hn (i := i) (fun j hj => hall j (by omega))
    have h1 := hall i (Nat.lt_succ_self i)
    have h2 : goB d tx len i = true := by simpa using h1
    unfold goB at h2
    simp only [Bool.and_eq_true] at h2
    obtain ⟨-, p2, p3, p4⟩ := one_parts h2.2
    obtain ⟨q0, e0, q1, e1⟩ := one_nat ih.1.1 p2
    have hrm : romB (fD d tx len i) = true := by rw [rom_ful ih.1, p4]; rfl
    have hpn := (apl_2 p2).2
    rw [e1] at hpn
    exact ch_gra ih hn q0 q1 hpn hrm p3
/-! a permit withdrawn by a call -/
theorem end4_p (d : Nat → Int32) (p : Nat) (v : Int32) : pm (endD d p v) p 4 = v := by rw [endD_pm d p v p 4 (by decide)]; exact if_pos ⟨rfl, rfl⟩
theorem end4_n (d : Nat → Int32) {p q : Nat} (v : Int32) (h : ¬ q = p) : pm (endD d p v) q 4 = pm d q 4 := by rw [endD_pm d p v q 4 (by decide)]; exact if_neg (fun z => h z.1)
theorem wdr_sum {d : Nat → Int32} {p : Nat} (hp : p < nG d) (h4 : pm d p 4 = nI 1) : sumN (cntF (endD d p (nI 2)) (nI 2)) (nG d) = sumN (cntF d (nI 2)) (nG d) + nI 1 ∧ sumN (cntF (endD d p (nI 2)) (nI 3)) (nG d) = sumN (cntF d (nI 3)) (nG d) := by
  have one : ∀ j, sumN (fun q => if q = p then nI 1 else nI 0) j = if p < j then nI 1 else nI 0 := by
    intro j
    induction j with
    | zero => rfl
    | succ j ih =>
      rw [sumN_s, ih]
      by_cases q : j = p
      · subst q; rw [if_neg (Nat.lt_irrefl _), if_pos rfl, if_pos (Nat.lt_succ_self _)]; rfl
      · rw [if_neg q, add_z]
        by_cases r : p < j
        · rw [if_pos r, if_pos (by omega)]
        · rw [if_neg r, if_neg (by omega)]
  refine ⟨?_, ?_⟩
  · have e : sumN (cntF (endD d p (nI 2)) (nI 2)) (nG d) = sumN (fun q => cntF d (nI 2) q + (if q = p then nI 1 else nI 0)) (nG d) := sumN_cong (fun q hq => by
      unfold cntF
      by_cases r : q = p
      · subst r; rw [end4_p, if_pos rfl, h4, if_neg (by decide), if_pos rfl]; rfl
      · rw [end4_n d _ r, if_neg r, add_z])
    rw [e, sumN_add, one, if_pos hp]
  · refine sumN_cong (fun q hq => ?_)
    unfold cntF
    by_cases r : q = p
    · subst r; rw [end4_p, h4, if_neg (by decide), if_neg (by decide)]
    · rw [end4_n d _ r]
theorem ch_withdraw {n : Nat} {d : Nat → Int32} (h : zJ n d) (hn : n ≤ 1000) {p : Nat} (hp : p < nG d) (h4 : pm d p 4 = nI 1) : zJ n (wdrD d p) := by
  obtain ⟨hJ, hB, hw⟩ := h
  have hI := hJ.1
  have g2 := hI.ng2
  have h8 := hI.nc8
  have hpl := hJ.2.2.1
  have e3 : endD d p (nI 2) 443 = d 443 := endD_ne (by omega)
  have e443 : wdrD d p 443 = d 443 + nI 1 := by show upd (endD d p (nI 2)) 443 (endD d p (nI 2) 443 + nI 1) 443 = _; rw [pk_us, e3]
  have ene : ∀ i, i ≠ 443 → wdrD d p i = endD d p (nI 2) i := fun i hi => pk_un hi
  have lo : ∀ i, i < 443 → wdrD d p i = d i := fun i hi => (ene i (by omega)).trans (endD_ne (by omega))
  have epm : ∀ q k, pm (wdrD d p) q k = pm (endD d p (nI 2)) q k := fun q k => ene _ (by omega)
  have epo : ∀ q k, k < 4 → pm (wdrD d p) q k = pm d q k := fun q k hk => by rw [epm, endD_pm d p _ q k (by omega), if_neg (by omega)]
  have eG : nG (wdrD d p) = nG d := by unfold nG; rw [lo 442 (by decide)]
  have eC : nC (wdrD d p) = nC d := by unfold nC; rw [lo 0 (by decide)]
  have egr : ∀ e k, e < 8 → k < 6 → gr (wdrD d p) e k = gr d e k := fun e k he hk => lo _ (by omega)
  have epC : ∀ q, pC (wdrD d p) q = pC d q := fun q => by unfold pC; rw [epo q 0 (by decide)]
  have hs : ∀ v, sumN (cntF (wdrD d p) v) (nG d) = sumN (cntF (endD d p (nI 2)) v) (nG d) := fun v => sumN_cong (fun q hq => by unfold cntF; rw [epm])
  obtain ⟨s2, s3⟩ := wdr_sum hp h4
  have evn : vn (wdrD d p) = vn (endD d p (nI 2)) := vn_keep (ene 442 (by decide)) (fun q => epm q 4)
  have h24 : vn (endD d p (nI 2)) ≤ 24 := end_v24 hI hJ.2.1 hp h4
  have hused : ∀ st k, usedI (wdrD d p) st k = usedI (mkD d (fun r => decide (r = p))) st k := fun st k => by
    unfold usedI
    rw [eG, mk_G]
    refine sumN_cong (fun q hq => ?_)
    have p8 := hI.pc8 hq
    have eo : ofB (wdrD d p) q st k = ofB (mkD d (fun r => decide (r = p))) q st k := by
      rw [mk_of _ p8]
      unfold ofB
      rw [epm, epo q 1 (by decide), epC, egr _ 4 p8 (by decide)]
      by_cases r : q = p
      · subst r; rw [end4_p, decide_eq_true rfl, decide_eq_false (show ¬ nI 2 = nI 1 by decide), Bool.not_true, Bool.and_false, Bool.false_and]
      · rw [end4_n d _ r, decide_eq_false r, Bool.not_false, Bool.and_true]
    unfold usedF
    rw [eo, mk_us _ p8]
    unfold usI
    rw [epo q 2 (by decide), epC, egr _ 5 p8 (by decide)]
  refine ⟨⟨(wdr_I hI p).1, by rw [evn]; exact h24, fun q hq => ?_, ?_, ?_⟩, ⟨fun c hc => ?_, ?_, fun i hi => ?_, fun i hi => ?_, fun i hi => ?_⟩, fun q hq hq4 => ?_⟩
  · rw [epo q 1 (by decide), epo q 2 (by decide), epo q 3 (by decide)]; exact hpl q (by omega)
  · rw [eG, hs, s2, e443, hJ.2.2.2.1]
  · rw [eG, hs, s3, ene 444 (by decide), show endD d p (nI 2) 444 = d 444 from endD_ne (by omega)]; exact hJ.2.2.2.2
  · rw [egr c 5 (by omega) (by decide)]; exact hB.1 c (by omega)
  · rw [lo 2 (by decide)]; exact hB.2.1
  · rw [lo _ (by omega)]; exact hB.2.2.1 i hi
  · rw [lo _ (by omega)]; exact hB.2.2.2.1 i hi
  · rw [lo _ (by omega)]; exact hB.2.2.2.2 i hi
  · rw [eG] at hq
    have hqp : pm d q 4 = nI 1 := by
      rw [epm] at hq4
      by_cases r : q = p
      · rw [r]; exact h4
      · rwa [end4_n d _ r] at hq4
    have hold := hw q hq hqp
    rw [wf_split0, Bool.or_eq_false_iff] at hold ⊢
    have b1 := (hpl.nn hq).2
    have b2 := st_4 hI hq
    have b8 := hI.pc8 hq
    have en : nN (wdrD d p) q = nN d q := by unfold nN; rw [epo q 1 (by decide)]
    have es : stD (wdrD d p) q = stD d q := by unfold stD sC; rw [epC, egr _ 4 b8 (by decide)]
    refine ⟨?_, ?_⟩
    · have : spB (wdrD d p) q = spB d q := by
        unfold spB stpB
        rw [epC, en, lo _ (by omega), lo 1 (by decide), egr _ 3 b8 (by decide)]
      rw [this]; exact hold.1
    · rw [es, en]
      have := fre_any hJ hB hn hq hold.2 (fun r => decide (r = p))
      have e : freI (wdrD d p) (stD d q) (nN d q) = freI (mkD d (fun r => decide (r = p))) (stD d q) (nN d q) := by
        unfold freI
        rw [hused, mk_cre d _ b2 b1]
        unfold creI alwI
        rw [lo _ (by omega), lo 2 (by decide), lo _ (by omega), lo _ (by omega)]
      rw [e]; exact this
