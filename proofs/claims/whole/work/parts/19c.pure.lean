/-! PURE: what holds between the calls -/
def zB (n : Nat) (d : Nat → Int32) : Prop := nzB d ∧ inB (d 2) (nI 0) (nI 200) = true ∧ (∀ i, i < 120 → d (82 + i) = (-1) ∨ inB (d (82 + i)) (nI 0) (nI 200) = true) ∧ (∀ i, i < 120 → 0 ≤ (d (202 + i)).toInt ∧ (d (202 + i)).toInt ≤ 200 * n) ∧ (∀ i, i < 120 → 0 ≤ (d (322 + i)).toInt ∧ (d (322 + i)).toInt ≤ 200 * n)
def zJ (n : Nat) (d : Nat → Int32) : Prop := rJ d ∧ zB n d ∧ ∀ p, p < nG d → pm d p 4 = nI 1 → wfB d p = false
theorem inB_int {v : Int32} {a b : Nat} (ha : a < 2147483648) (hb : b < 2147483648) (h : inB v (nI a) (nI b) = true) : (a : Int) ≤ v.toInt ∧ v.toInt ≤ (b : Int) := by
  obtain ⟨j, h1, h2, e⟩ := inB_nat hb h ha
  rw [e, nI_toInt (by omega)]
  omega
theorem zB.alw {n : Nat} {d : Nat → Int32} (h : zB n d) {st m : Nat} (h1 : st < 4) (h2 : m < 30) : 0 ≤ (alwI d st m).toInt ∧ (alwI d st m).toInt ≤ 200 := by
  unfold alwI
  split
  · exact inB_int (by decide) (by decide) h.2.1
  · rename_i q
    rcases h.2.2.1 (30 * st + m) (by omega) with e | e
    · exact absurd e q
    · exact inB_int (by decide) (by decide) e
theorem add_int {x z : Int32} (h1 : -2147483648 ≤ x.toInt + z.toInt) (h2 : x.toInt + z.toInt ≤ 2147483647) : (x + z).toInt = x.toInt + z.toInt := by
  rw [Int32.toInt_add, Int.bmod_def]; omega
theorem sub_int {x z : Int32} (h1 : -2147483648 ≤ x.toInt - z.toInt) (h2 : x.toInt - z.toInt ≤ 2147483647) : (x - z).toInt = x.toInt - z.toInt := by
  rw [Int32.toInt_sub, Int.bmod_def]; omega
theorem zB.cre {n : Nat} {d : Nat → Int32} (h : zB n d) (hn : n ≤ 1000) {st m : Nat} (h1 : st < 4) (h2 : m < 30) : (creI d st m).toInt = (alwI d st m).toInt + (d (202 + (30 * st + m))).toInt - (d (322 + (30 * st + m))).toInt := by
  have a := h.alw h1 h2
  have b := h.2.2.2.1 (30 * st + m) (by omega)
  have c := h.2.2.2.2 (30 * st + m) (by omega)
  unfold creI
  rw [sub_int (by rw [add_int (by omega) (by omega)]; omega) (by rw [add_int (by omega) (by omega)]; omega), add_int (by omega) (by omega)]
theorem zB.cr {n : Nat} {d : Nat → Int32} (h : zB n d) (hn : n ≤ 1000) : crOK d := fun st m h1 h2 => by
  have a := h.alw h1 h2
  have b := h.2.2.2.1 (30 * st + m) (by omega)
  have c := h.2.2.2.2 (30 * st + m) (by omega)
  rw [h.cre hn h1 h2]
  omega
theorem zB.mono {n m : Nat} {d : Nat → Int32} (h : zB n d) (hm : n ≤ m) : zB m d :=
  ⟨h.1, h.2.1, h.2.2.1, fun i hi => ⟨(h.2.2.2.1 i hi).1, by have := (h.2.2.2.1 i hi).2; omega⟩, fun i hi => ⟨(h.2.2.2.2 i hi).1, by have := (h.2.2.2.2 i hi).2; omega⟩⟩
theorem zJ.mono {n m : Nat} {d : Nat → Int32} (h : zJ n d) (hm : n ≤ m) : zJ m d := ⟨h.1, h.2.1.mono hm, h.2.2⟩
/-! how many -/
theorem vn_sum (d : Nat → Int32) : nI (vn d) = sumN (fun p => if pm d p 4 = nI 1 then nI 1 else nI 0) (nG d) := by
  have := sum_v d (fun _ => nI 1)
  rw [← this, sumN_1]
theorem cnt_3 {d : Nat → Int32} {W : Nat → Bool} (hW : ∀ p, p < nG d → W p = true → pm d p 4 = nI 1) : sumN (cntF (mkD d W) (nI 3)) (nG d) = sumN (cntF d (nI 3)) (nG d) + nI (vn d - vn (mkD d W)) := by
  have e1 : sumN (cntF (mkD d W) (nI 3)) (nG d) = sumN (cntF d (nI 3)) (nG d) + sumN (fun p => if W p = true then nI 1 else nI 0) (nG d) := by
    rw [← sumN_add]
    refine sumN_cong (fun p hp => ?_)
    unfold cntF
    rw [mk_4]
    cases h : W p with
    | true => rw [if_pos rfl, if_pos rfl, hW p hp h, if_neg (by decide), if_pos rfl]; rfl
    | false => rw [if_neg Bool.false_ne_true, if_neg Bool.false_ne_true, add_z]
  have e2 : nI (vn d) = nI (vn (mkD d W)) + sumN (fun p => if W p = true then nI 1 else nI 0) (nG d) := by
    rw [vn_sum, vn_sum, mk_G, ← sumN_add]
    refine sumN_cong (fun p hp => ?_)
    show (if pm d p 4 = nI 1 then nI 1 else nI 0) = (if pm (mkD d W) p 4 = nI 1 then nI 1 else nI 0) + (if W p = true then nI 1 else nI 0)
    rw [mk_4]
    cases h : W p with
    | true => rw [if_pos rfl, if_pos rfl, hW p hp h, if_pos rfl, if_neg n31]; rfl
    | false => rw [if_neg Bool.false_ne_true, if_neg Bool.false_ne_true, add_z]
  rw [e1, ← pk_sub (mk_vn d W), e2, Int32.add_comm (nI (vn (mkD d W))), Int32.add_sub_cancel]
theorem cnt_2 {d : Nat → Int32} {W : Nat → Bool} (hW : ∀ p, p < nG d → W p = true → pm d p 4 = nI 1) : sumN (cntF (mkD d W) (nI 2)) (nG d) = sumN (cntF d (nI 2)) (nG d) := by
  refine sumN_cong (fun p hp => ?_)
  unfold cntF
  rw [mk_4]
  cases h : W p with
  | true => rw [if_pos rfl, hW p hp h, if_neg (by decide), if_neg (by decide)]
  | false => rw [if_neg Bool.false_ne_true]
/-! the class's test in its parts -/
theorem wf_split {d : Nat → Int32} (hI : zI d) (hpl : plJ d) (U : Nat → Bool) {p : Nat} (hp : p < nG d) : wfB (mkD d U) p = (spB d p || decide (freI (mkD d U) (stD d p) (nN d p) < 0)) := by
  have h8 := hI.pc8 hp
  unfold wfB
  rw [show sC (mkD d U) (pC (mkD d U) p) = stD d p from mk_st d U h8, mk_nN, show stpB (mkD d U) (pC (mkD d U) p) (nN d p) = spB d p by rw [← sp_mk hI hpl U hp]; unfold spB; rw [mk_nN]]
theorem wf_split0 (d : Nat → Int32) (p : Nat) : wfB d p = (spB d p || decide (freI d (stD d p) (nN d p) < 0)) := rfl
theorem wf_z {d : Nat → Int32} (hI : zI d) (hpl : plJ d) (z : Int32) {p : Nat} (hp : p < nG d) : wfB (upd d 444 z) p = wfB d p := by
  have h8 := hI.pc8 hp
  have b1 := (hpl.nn hp).2
  have b2 := st_4 hI hp
  unfold wfB freI
  rw [show sC (upd d 444 z) (pC (upd d 444 z) p) = stD d p from z_st d z h8, z_nN, z_pC, z_used hI, z_cre d z b2 b1]
  unfold stpB
  rw [z_lo (by omega), z_lo (by omega), z_gr h8 (by decide)]; rfl
theorem fre_mono {d : Nat → Int32} (hI : zI d) (hpl : plJ d) (hz : nzB d) (hc : crOK d) {W V : Nat → Bool} (h : ∀ p, p < nG d → V p = true → W p = true) {st n : Nat} (h1 : st < 4) (h2 : n < 30) (hV : decide (freI (mkD d V) st n < 0) = false) : decide (freI (mkD d W) st n < 0) = false := by
  rw [fre_dec hI hpl hz hc _ h1 h2, Bool.not_eq_false', decide_eq_true_eq, used_T hI hpl hz] at hV ⊢
  rw [mk_cre d _ h1 h2] at hV ⊢
  have hb := uT_b hI hpl hz V (nI st) (nI n)
  exact Int32.le_trans (nI_le (uT_mono d (nI st) (nI n) h) (by omega)) hV
/-- the end of a change: both sides have withdrawn the same, and what holds holds again -/
theorem fin {n : Nat} {d e : Nat → Int32} {cnt : Int32} {G : (Nat → Int32) → Nat → Bool} {V : Nat → Bool} (hJ : rJ d) (hB : zB n d) (hn : n ≤ 1000) (he : e = upd (mkD d V) 444 (d 444 + cnt)) (hS : stab d G V) (hc : cnt = nI (vn d - vn e)) (hF : ∀ p, p < nG d → pm d p 4 = nI 1 → ∀ U, U p = false → wfB (mkD d U) p = G (mkD d U) p) : (∀ i, i ≠ 444 → wfD d (vn d) i = e i) ∧ wfC d (vn d) = cnt ∧ zJ n e := by
  obtain ⟨hI, h24, hpl, h2, h3⟩ := hJ
  obtain ⟨W, w1, w2⟩ := wf_stab d
  have hWV : W = V := stab_u hF w2 hS
  subst hWV
  have hcr := hB.cr hn
  have hWv : ∀ p, p < nG d → W p = true → pm d p 4 = nI 1 := fun p hp h => by
    have := w2.2 p hp
    rw [h] at this
    have := this.symm
    rw [Bool.and_eq_true, decide_eq_true_eq] at this
    exact this.1
  have hve : vn e = vn (mkD d W) := by rw [he, z_vn]
  have hGe : nG e = nG d := by rw [he, z_G, mk_G]
  have hCe : nC e = nC d := by rw [he, z_C, mk_C]
  have lo : ∀ i, i < 444 → e i = d i := fun i hi => by rw [he, z_lo (by omega), mk_lo (by omega)]
  have hpme : ∀ p k, k < 4 → pm e p k = pm d p k := fun p k hk => by rw [he, z_pm, mk_pm hk]
  have h8 := hI.nc8
  have hce : ∀ v, sumN (cntF e v) (nG d) = sumN (cntF (mkD d W) v) (nG d) := fun v => sumN_cong (fun p _ => by unfold cntF; rw [he, z_pm])
  refine ⟨fun i hi => by rw [w1, he, z_lo hi], ?_, ⟨?_, ?_, fun p hp => ?_, ?_, ?_⟩, ⟨fun c hcn => ?_, ?_, fun i hi => ?_, fun i hi => ?_, fun i hi => ?_⟩, fun p hp h4 => ?_⟩
  · rw [(wf_cnt hI hpl (Nat.le_refl _)).1, w1, hc, hve]
  · rw [he]; exact ((mk_I hI W).upd444 _).1
  · rw [hve]; exact Nat.le_trans (mk_vn d W) h24
  · rw [hpme p 1 (by decide), hpme p 2 (by decide), hpme p 3 (by decide)]; exact hpl p (by omega)
  · rw [lo 443 (by decide), hGe, hce, cnt_2 hWv]; exact h2
  · rw [hGe, hce, cnt_3 hWv, ← h3, ← hve, ← hc, he]; exact pk_us
  · rw [show gr e c 5 = gr d c 5 from lo _ (by omega)]; exact hB.1 c (by omega)
  · rw [lo _ (by decide)]; exact hB.2.1
  · rw [lo _ (by omega)]; exact hB.2.2.1 i hi
  · rw [lo _ (by omega)]; exact hB.2.2.2.1 i hi
  · rw [lo _ (by omega)]; exact hB.2.2.2.2 i hi
  · rw [hGe] at hp
    rw [he, z_pm, mk_4] at h4
    have hWp : W p = false := by
      cases h : W p with
      | false => rfl
      | true => rw [h, if_pos rfl] at h4; exact absurd h4 n31
    rw [hWp, if_neg Bool.false_ne_true] at h4
    have b1 := (hpl.nn hp).2
    have b2 := st_4 hI hp
    have hs := w2.2 p hp
    rw [hWp, decide_eq_true h4, Bool.true_and, wf_split hI hpl _ hp] at hs
    have hs := hs.symm
    rw [Bool.or_eq_false_iff] at hs
    rw [he, wf_z (mk_I hI W) (mk_pl hpl W) _ (by rw [mk_G]; exact hp), wf_split hI hpl W hp, hs.1, Bool.false_or]
    exact fre_mono hI hpl hB.1 hcr (fun q _ hq => by unfold abv at hq; rw [Bool.and_eq_true] at hq; exact hq.1) b2 b1 hs.2
/-! the tests agree -/
theorem agree_ov {d : Nat → Int32} {n : Nat} (hJ : rJ d) (hB : zB n d) (hn : n ≤ 1000) {p : Nat} (hp : p < nG d) (hsp : spB d p = false) (U : Nat → Bool) : wfB (mkD d U) p = ovB (mkD d U) p := by
  have hI := hJ.1
  have hpl := hJ.2.2.1
  have h8 := hI.pc8 hp
  have b1 := (hpl.nn hp).2
  have b2 := st_4 hI hp
  rw [wf_split hI hpl U hp, hsp, Bool.false_or, fre_dec hI hpl hB.1 (hB.cr hn) U b2 b1]
  unfold ovB
  rw [mk_st d U h8, mk_nN]
theorem fre_any {d : Nat → Int32} {n : Nat} (hJ : rJ d) (hB : zB n d) (hn : n ≤ 1000) {p : Nat} (hp : p < nG d) (hf : decide (freI d (stD d p) (nN d p) < 0) = false) (U : Nat → Bool) : decide (freI (mkD d U) (stD d p) (nN d p) < 0) = false := by
  have hI := hJ.1
  have hpl := hJ.2.2.1
  refine fre_mono hI hpl hB.1 (hB.cr hn) (V := fun _ => false) (fun q _ h => Bool.noConfusion h) (st_4 hI hp) (hpl.nn hp).2 ?_
  rw [mk_0]; exact hf
theorem agree_sp {d : Nat → Int32} {n : Nat} (hJ : rJ d) (hB : zB n d) (hn : n ≤ 1000) {p : Nat} (hp : p < nG d) (hf : decide (freI d (stD d p) (nN d p) < 0) = false) (U : Nat → Bool) : wfB (mkD d U) p = spB d p := by
  rw [wf_split hJ.1 hJ.2.2.1 U hp, fre_any hJ hB hn hp hf U, Bool.or_false]
/-! one number changed: what it doesn't touch -/
theorem up_pm {d : Nat → Int32} {k : Nat} {v : Int32} (hk : k < 445) (p j : Nat) : pm (upd d k v) p j = pm d p j := u_ne (by omega)
theorem up_G {d : Nat → Int32} {k : Nat} {v : Int32} (hk : k ≠ 442) : nG (upd d k v) = nG d := by unfold nG; rw [u_ne (by omega)]
theorem up_C {d : Nat → Int32} {k : Nat} {v : Int32} (hk : k ≠ 0) : nC (upd d k v) = nC d := by unfold nC; rw [u_ne (by omega)]
theorem up_pC {d : Nat → Int32} {k : Nat} {v : Int32} (hk : k < 445) (p : Nat) : pC (upd d k v) p = pC d p := by unfold pC; rw [up_pm hk]
theorem up_nN {d : Nat → Int32} {k : Nat} {v : Int32} (hk : k < 445) (p : Nat) : nN (upd d k v) p = nN d p := by unfold nN; rw [up_pm hk]
theorem up_rJ {d : Nat → Int32} (hJ : rJ d) {k : Nat} {v : Int32} (hI1 : zI (upd d k v)) (hk : k < 442) (h0 : k ≠ 0) : rJ (upd d k v) := by
  obtain ⟨a, b⟩ := rJ_upd hJ (v := v) hk h0
  have hs : ∀ w, sumN (cntF (upd d k v) w) (nG d) = sumN (cntF d w) (nG d) := fun w => sumN_cong (fun p _ => by unfold cntF; rw [up_pm (by omega)])
  refine ⟨hI1, a, b, ?_, ?_⟩
  · rw [up_G (by omega), u_ne (by omega), hs]; exact hJ.2.2.2.1
  · rw [up_G (by omega), u_ne (by omega), hs]; exact hJ.2.2.2.2
theorem up_st {d : Nat → Int32} {k : Nat} {v : Int32} (hk : k < 445) (hg : ∀ c, c < 8 → 4 + 6 * c + 4 ≠ k) {p : Nat} (h8 : pC d p < 8) : stD (upd d k v) p = stD d p := by
  unfold stD sC
  rw [up_pC hk, show gr (upd d k v) (pC d p) 4 = gr d (pC d p) 4 from u_ne (hg _ h8)]
theorem up_sp {d : Nat → Int32} {k : Nat} {v : Int32} (hk : k < 445) {p : Nat} (h1 : k ≠ 1) (hg : 4 + 6 * pC d p + 3 ≠ k) (hw : 52 + nN d p ≠ k) : spB (upd d k v) p = spB d p := by
  unfold spB stpB
  rw [up_pC hk, up_nN hk, u_ne hw, u_ne (Ne.symm h1), show gr (upd d k v) (pC d p) 3 = gr d (pC d p) 3 from u_ne hg]
theorem up_used {d : Nat → Int32} (hI : zI d) {k : Nat} {v : Int32} (hk : k < 442) (hg : ∀ c, c < 8 → 4 + 6 * c + 4 ≠ k ∧ 4 + 6 * c + 5 ≠ k) (st n : Int32) : usedI (upd d k v) st n = usedI d st n := by
  unfold usedI
  rw [up_G (by omega)]
  refine sumN_cong (fun p hp => ?_)
  have h8 := hI.pc8 hp
  unfold usedF ofB usI
  rw [up_pm (by omega), up_pm (by omega), up_pm (by omega), up_pC (by omega), show gr (upd d k v) (pC d p) 4 = gr d (pC d p) 4 from u_ne (hg _ h8).1, show gr (upd d k v) (pC d p) 5 = gr d (pC d p) 5 from u_ne (hg _ h8).2]
theorem up_cre {d : Nat → Int32} {k : Nat} {v : Int32} {st n : Nat} (h1 : k ≠ 82 + (30 * st + n)) (h2 : k ≠ 202 + (30 * st + n)) (h3 : k ≠ 322 + (30 * st + n)) (h4 : k ≠ 2) : creI (upd d k v) st n = creI d st n := by
  unfold creI alwI
  rw [u_ne (Ne.symm h1), u_ne (Ne.symm h2), u_ne (Ne.symm h3), u_ne (Ne.symm h4)]
theorem zJ.sp {n : Nat} {d : Nat → Int32} (h : zJ n d) {p : Nat} (hp : p < nG d) (h4 : pm d p 4 = nI 1) : spB d p = false ∧ decide (freI d (stD d p) (nN d p) < 0) = false := by
  have := h.2.2 p hp h4
  rw [wf_split0, Bool.or_eq_false_iff] at this
  exact this
/-! the changes -/
theorem ch_noise {n : Nat} {d : Nat → Int32} (h : zJ n d) (hn : n ≤ 1000) {c : Nat} (hc : c < nC d) {v : Int32} (hv : inB v (nI 1) (nI 9) = true) : (∀ i, i ≠ 444 → wfD (upd d (4 + 6 * c + 5) v) (vn (upd d (4 + 6 * c + 5) v)) i = saD (upd d (4 + 6 * c + 5) v) 120 i) ∧ wfC (upd d (4 + 6 * c + 5) v) (vn (upd d (4 + 6 * c + 5) v)) = saC (upd d (4 + 6 * c + 5) v) 120 ∧ zJ n (saD (upd d (4 + 6 * c + 5) v) 120) := by
  have h8 := h.1.1.nc8
  have hI1 := (h.1.1.noise c (by omega) v).1
  have hJ1 : rJ (upd d (4 + 6 * c + 5) v) := up_rJ h.1 hI1 (by omega) (by omega)
  have hB1 : zB n (upd d (4 + 6 * c + 5) v) := by
    refine ⟨fun e he => ?_, ?_, fun i hi => ?_, fun i hi => ?_, fun i hi => ?_⟩
    · rw [up_C (by omega)] at he
      by_cases q : e = c
      · subst q; rw [show gr (upd d (4 + 6 * e + 5) v) e 5 = v from pk_us]; exact hv
      · rw [show gr (upd d (4 + 6 * c + 5) v) e 5 = gr d e 5 from u_ne (by omega)]; exact h.2.1.1 e he
    · rw [u_ne (by omega)]; exact h.2.1.2.1
    · rw [u_ne (by omega)]; exact h.2.1.2.2.1 i hi
    · rw [u_ne (by omega)]; exact h.2.1.2.2.2.1 i hi
    · rw [u_ne (by omega)]; exact h.2.1.2.2.2.2 i hi
  obtain ⟨V, e1, e2, e3, -⟩ := sa_stab hI1 hJ1.2.2.1
  refine fin hJ1 hB1 hn e1 e2 e3 (fun p hp h4 U hU => agree_ov hJ1 hB1 hn hp ?_ U)
  rw [up_G (by omega)] at hp
  rw [up_pm (by omega)] at h4
  have b1 := (h.1.2.2.1.nn hp).2
  have b8 := h.1.1.pc8 hp
  rw [up_sp (by omega) (by omega) (by omega) (by omega)]
  exact (h.sp hp h4).1
theorem zB_up {n : Nat} {d : Nat → Int32} (h : zB n d) {k : Nat} {v : Int32} (h0 : k ≠ 0) (hg : ∀ c, c < 8 → 4 + 6 * c + 5 ≠ k) (h8 : nC d ≤ 8) (h2 : k = 2 → inB v (nI 0) (nI 200) = true) (h3 : ∀ i, i < 120 → k = 82 + i → inB v (nI 0) (nI 200) = true) (h4 : k < 202) : zB n (upd d k v) := by
  refine ⟨fun e he => ?_, ?_, fun i hi => ?_, fun i hi => ?_, fun i hi => ?_⟩
  · rw [up_C h0] at he
    rw [show gr (upd d k v) e 5 = gr d e 5 from u_ne (hg e (by omega))]; exact h.1 e he
  · by_cases q : k = 2
    · subst q; rw [pk_us]; exact h2 rfl
    · rw [u_ne (by omega)]; exact h.2.1
  · by_cases q : k = 82 + i
    · subst q; rw [pk_us]; exact Or.inr (h3 i hi rfl)
    · rw [u_ne (by omega)]; exact h.2.2.1 i hi
  · rw [u_ne (by omega)]; exact h.2.2.2.1 i hi
  · rw [u_ne (by omega)]; exact h.2.2.2.2 i hi
theorem ch_set1 {n : Nat} {d : Nat → Int32} (h : zJ n d) (hn : n ≤ 1000) {v : Int32} (hv : inB v (nI 0) (nI 200) = true) : (∀ i, i ≠ 444 → wfD (upd d 2 v) (vn (upd d 2 v)) i = saD (upd d 2 v) 120 i) ∧ wfC (upd d 2 v) (vn (upd d 2 v)) = saC (upd d 2 v) 120 ∧ zJ n (saD (upd d 2 v) 120) := by
  have h8 := h.1.1.nc8
  have hI1 := (h.1.1.low 2 (by omega) v).1
  have hJ1 : rJ (upd d 2 v) := up_rJ h.1 hI1 (by omega) (by omega)
  have hB1 : zB n (upd d 2 v) := zB_up h.2.1 (by omega) (fun c hc => by omega) h8 (fun _ => hv) (fun i hi e => by omega) (by omega)
  obtain ⟨V, e1, e2, e3, -⟩ := sa_stab hI1 hJ1.2.2.1
  refine fin hJ1 hB1 hn e1 e2 e3 (fun p hp h4 U hU => agree_ov hJ1 hB1 hn hp ?_ U)
  rw [up_G (by omega)] at hp
  rw [up_pm (by omega)] at h4
  rw [up_sp (by omega) (by omega) (by omega) (by omega)]
  exact (h.sp hp h4).1
/-- the credits stand as they stood -/
theorem up_fre {n : Nat} {d : Nat → Int32} (h : zJ n d) {k : Nat} {v : Int32} (hk : k < 82) (h2 : k ≠ 2) (h0 : k ≠ 0) (hg : ∀ c, c < 8 → 4 + 6 * c + 4 ≠ k ∧ 4 + 6 * c + 5 ≠ k) {p : Nat} (hp : p < nG d) (h4 : pm d p 4 = nI 1) : decide (freI (upd d k v) (stD (upd d k v) p) (nN (upd d k v) p) < 0) = false := by
  have h8 := h.1.1.pc8 hp
  rw [up_st (by omega) (fun c hc => (hg c hc).1) h8, up_nN (by omega)]
  unfold freI
  rw [up_used h.1.1 (by omega) hg, up_cre (by omega) (by omega) (by omega) h2]
  exact (h.sp hp h4).2
theorem ch_set0 {n : Nat} {d : Nat → Int32} (h : zJ n d) (hn : n ≤ 1000) {v : Int32} : (∀ i, i ≠ 444 → wfD (upd d 1 v) (vn (upd d 1 v)) i = caD (upd d 1 v) 30 i) ∧ wfC (upd d 1 v) (vn (upd d 1 v)) = caC (upd d 1 v) 30 ∧ zJ n (caD (upd d 1 v) 30) := by
  have h8 := h.1.1.nc8
  have hI1 := (h.1.1.low 1 (by omega) v).1
  have hJ1 : rJ (upd d 1 v) := up_rJ h.1 hI1 (by omega) (by omega)
  have hB1 : zB n (upd d 1 v) := zB_up h.2.1 (by omega) (fun c hc => by omega) h8 (fun e => by omega) (fun i hi e => by omega) (by omega)
  obtain ⟨V, e1, e2, e3, -⟩ := ca_stab hI1 hJ1.2.2.1
  refine fin hJ1 hB1 hn e1 e2 e3 (fun p hp h4 U hU => ?_)
  have hp0 := hp
  rw [up_G (by omega)] at hp
  rw [up_pm (by omega)] at h4
  rw [agree_sp hJ1 hB1 hn hp0 (up_fre h (by omega) (by omega) (by omega) (fun c hc => by omega) hp h4) U, sp_mk hI1 hJ1.2.2.1 U hp0]
theorem ch_set2 {n : Nat} {d : Nat → Int32} (h : zJ n d) (hn : n ≤ 1000) {v : Int32} : (∀ i, i ≠ 444 → wfD (upd d 3 v) (vn (upd d 3 v)) i = upd d 3 v i) ∧ wfC (upd d 3 v) (vn (upd d 3 v)) = nI 0 ∧ zJ n (upd d 3 v) := by
  have h8 := h.1.1.nc8
  have hI1 := (h.1.1.low 3 (by omega) v).1
  have hJ1 : rJ (upd d 3 v) := up_rJ h.1 hI1 (by omega) (by omega)
  have hB1 : zB n (upd d 3 v) := zB_up h.2.1 (by omega) (fun c hc => by omega) h8 (fun e => by omega) (fun i hi e => by omega) (by omega)
  refine fin (G := fun _ _ => false) (V := fun _ => false) hJ1 hB1 hn ?_ ⟨fun p _ => rfl, fun p _ => (Bool.and_false _).symm⟩ (by rw [Nat.sub_self]) (fun p hp h4 U hU => ?_)
  · rw [mk_0, add_z]
    funext i
    by_cases q : i = 444
    · subst q; rw [pk_us]
    · rw [u_ne q]
  · have hp0 := hp
    rw [up_G (by omega)] at hp
    rw [up_pm (by omega)] at h4
    rw [agree_sp hJ1 hB1 hn hp0 (up_fre h (by omega) (by omega) (by omega) (fun c hc => by omega) hp h4) U, up_sp (by omega) (by omega) (by omega) (by omega)]
    exact (h.sp hp h4).1
theorem ch_wind {n : Nat} {d : Nat → Int32} (h : zJ n d) (hn : n ≤ 1000) {m : Nat} (hm : m < 30) {v : Int32} : (∀ i, i ≠ 444 → wfD (upd d (52 + m) v) (vn (upd d (52 + m) v)) i = calD (upd d (52 + m) v) m i) ∧ wfC (upd d (52 + m) v) (vn (upd d (52 + m) v)) = calR (upd d (52 + m) v) m ∧ zJ n (calD (upd d (52 + m) v) m) := by
  have h8 := h.1.1.nc8
  have hI1 := (h.1.1.low (52 + m) (by omega) v).1
  have hJ1 : rJ (upd d (52 + m) v) := up_rJ h.1 hI1 (by omega) (by omega)
  have hB1 : zB n (upd d (52 + m) v) := zB_up h.2.1 (by omega) (fun c hc => by omega) h8 (fun e => by omega) (fun i hi e => by omega) (by omega)
  obtain ⟨V, e1, e2, -, e3, -⟩ := cal_stab hI1 hm
  refine fin hJ1 hB1 hn e1 e2 e3 (fun p hp h4 U hU => ?_)
  have hp0 := hp
  rw [up_G (by omega)] at hp
  rw [up_pm (by omega)] at h4
  have b8 := h.1.1.pc8 hp
  rw [agree_sp hJ1 hB1 hn hp0 (up_fre h (by omega) (by omega) (by omega) (fun c hc => by omega) hp h4) U, cm_mk hI1 hm U hp0, cm_sp hJ1.2.2.1 hm hp0, up_nN (by omega)]
  by_cases q : nN d p = m
  · rw [decide_eq_true q, Bool.true_and]
  · rw [decide_eq_false q, Bool.false_and, up_sp (by omega) (by omega) (by omega) (by omega)]
    exact (h.sp hp h4).1
theorem ch_allow {n : Nat} {d : Nat → Int32} (h : zJ n d) (hn : n ≤ 1000) {a m : Nat} (ha : a < 4) (hm : m < 30) {v : Int32} (hv : inB v (nI 0) (nI 200) = true) : (∀ i, i ≠ 444 → wfD (upd d (82 + (30 * a + m)) v) (vn (upd d (82 + (30 * a + m)) v)) i = savD (upd d (82 + (30 * a + m)) v) a m i) ∧ wfC (upd d (82 + (30 * a + m)) v) (vn (upd d (82 + (30 * a + m)) v)) = savR (upd d (82 + (30 * a + m)) v) a m ∧ zJ n (savD (upd d (82 + (30 * a + m)) v) a m) := by
  have h8 := h.1.1.nc8
  have hI1 := (h.1.1.low (82 + (30 * a + m)) (by omega) v).1
  have hJ1 : rJ (upd d (82 + (30 * a + m)) v) := up_rJ h.1 hI1 (by omega) (by omega)
  have hB1 : zB n (upd d (82 + (30 * a + m)) v) := zB_up h.2.1 (by omega) (fun c hc => by omega) h8 (fun e => by omega) (fun i hi e => hv) (by omega)
  obtain ⟨V, e1, e2, e3, -⟩ := sav_stab hI1 ha hm
  refine fin hJ1 hB1 hn e1 e2 e3 (fun p hp h4 U hU => ?_)
  have hp0 := hp
  have h40 := h4
  rw [up_G (by omega)] at hp
  rw [up_pm (by omega)] at h4
  have b8 := h.1.1.pc8 hp
  have b1 := (h.1.2.2.1.nn hp).2
  have b2 := st_4 h.1.1 hp
  have hsp : spB (upd d (82 + (30 * a + m)) v) p = false := by
    rw [up_sp (by omega) (by omega) (by omega) (by omega)]; exact (h.sp hp h4).1
  rw [agree_ov hJ1 hB1 hn hp0 hsp U, sv_ov hI1 hJ1.2.2.1 hp0 ha hm h40 hU]
  by_cases q : keyD (upd d (82 + (30 * a + m)) v) p = 30 * a + m
  · rw [decide_eq_true q, Bool.true_and]
  · rw [decide_eq_false q, Bool.false_and, ← agree_ov hJ1 hB1 hn hp0 hsp U, wf_split hI1 hJ1.2.2.1 U hp0, hsp, Bool.false_or]
    refine fre_any hJ1 hB1 hn hp0 ?_ U
    have es := up_st (d := d) (v := v) (k := 82 + (30 * a + m)) (by omega) (fun c hc => by omega) b8
    have en : nN (upd d (82 + (30 * a + m)) v) p = nN d p := up_nN (by omega) p
    unfold keyD at q
    rw [es, en] at q ⊢
    unfold freI
    rw [up_used h.1.1 (by omega) (fun c hc => by omega), up_cre (by omega) (by omega) (by omega) (by omega)]
    exact (h.sp hp h4).2
