/-! THE CLASS: sites: copies, withdrawals -/
theorem el_S {D : va_G} {y : zY} {s : State} {A : Nat → Prop} {H0 H : Heap} {locs : List Loc} {bd c : Nat} {r : vw_C} {f : Nat → Option Nat} (hK : zK D y s) (hc : vwCl[c]? = some r) (h : ∀ i q, f i = some q → bd ≤ q ∧ tyO D c q H0) (hS : va_S A H0 H locs) (hA : ∀ q, bd ≤ q → q < H0.size → ¬ A q) (i q : Nat) (hq : f i = some q) : ∃ cellV : Cell, H[q]? = some cellV ∧ cellV.vm.isStatics = false ∧ s.vm.findClass r.1 = some cellV.cls := by
  obtain ⟨h1, fs, h2⟩ := h i q hq
  exact z_recv (q := r) hK (h2.S hS (hA q h1 h2.lt)) hc
theorem va_P.l {D : va_G} {cl : List vw_C} {w1 w2 : va_W} {H : Heap} (h : va_P D cl (w1 ++ w2) H) : va_P D cl w1 H := fun k q hk => h k q (by rw [List.getElem?_append_left (List.getElem?_eq_some_iff.mp hk).1]; exact hk)
theorem va_P.r {D : va_G} {cl : List vw_C} {w1 w2 : va_W} {H : Heap} (h : va_P D cl (w1 ++ w2) H) : va_P D cl w2 H := fun k q hk => h (w1.length + k) q (by rw [List.getElem?_append_right (by omega), Nat.add_sub_cancel_left]; exact hk)
theorem sR_cpy {d : Nat → Int32} {ca pa : Nat → Nat} {cs : Nat → Option Nat} {ns se wi al re gi : Nat → Int32} {ps : Nat → Option Nat} {ss : Nat → Int32} {vs : Nat → Option Nat} {cs1 : Nat → Option Nat} {ns1 se1 wi1 al1 re1 gi1 : Nat → Int32} {ps1 : Nat → Option Nat} {ss1 : Nat → Int32} {vs1 : Nat → Option Nat} (h8 : nC d ≤ 8) (h200 : nG d ≤ 200) (hv24 : vn d ≤ 24) (hR : sR d ca pa cs ns se wi al re gi ps ss vs) : sR d ca pa (va_cpy cs cs1 0 0 8) (va_cpy ns ns1 0 0 8) (va_cpy se se1 0 0 3) (va_cpy wi wi1 0 0 30) (va_cpy al al1 0 0 120) (va_cpy re re1 0 0 120) (va_cpy gi gi1 0 0 120) (va_cpy ps ps1 0 0 200) (va_cpy ss ss1 0 0 200) (va_cpy vs vs1 0 0 24) := by
  obtain ⟨r1, r2, r3, r4, r5, r6, r7, r8, r9, r10⟩ := hR
  exact ⟨fun c hc => by rw [cpy_at (by omega)]; exact r1 c hc, fun c hc => by rw [cpy_at (by omega)]; exact r2 c hc, fun c hc => by rw [cpy_at (by omega)]; exact r3 c hc, fun c hc => by rw [cpy_at (by omega)]; exact r4 c hc, fun c hc => by rw [cpy_at (by omega)]; exact r5 c hc, fun c hc => by rw [cpy_at (by omega)]; exact r6 c hc, fun c hc => by rw [cpy_at (by omega)]; exact r7 c hc, fun c hc => by rw [cpy_at (by omega)]; exact r8 c hc, fun c hc => by rw [cpy_at (by omega)]; exact r9 c hc, fun c hc => by rw [cpy_at (by omega)]; exact r10 c hc⟩
theorem sT_cpy {D : va_G} {bd : Nat} {H : Heap} {cs ps vs cs1 ps1 vs1 : Nat → Option Nat} (h1 : sT D bd cs1 ps1 vs1 H) (h2 : sT D bd cs ps vs H) : sT D bd (va_cpy cs cs1 0 0 8) (va_cpy ps ps1 0 0 200) (va_cpy vs vs1 0 0 24) H := by
  refine ⟨fun i q hq => ?_, fun i q hq => ?_, fun i q hq => ?_⟩
  · rcases cpy_or cs cs1 8 i with e | e
    · rw [e] at hq; exact h2.1 i q hq
    · rw [e] at hq; exact h1.1 i q hq
  · rcases cpy_or ps ps1 200 i with e | e
    · rw [e] at hq; exact h2.2.1 i q hq
    · rw [e] at hq; exact h1.2.1 i q hq
  · rcases cpy_or vs vs1 24 i with e | e
    · rw [e] at hq; exact h2.2.2 i q hq
    · rw [e] at hq; exact h1.2.2 i q hq
theorem cp_done {D : va_G} {y : zY} {bd a b : Nat} {A : Nat → Prop} {H0 H : Heap} {locs : List Loc} {d : Nat → Int32} {ca pa pk : Nat → Nat} {cs : Nat → Option Nat} {ns se wi al re gi : Nat → Int32} {ps : Nat → Option Nat} {ss : Nat → Int32} {vs : Nat → Option Nat} {cs1 : Nat → Option Nat} {ns1 se1 wi1 al1 re1 gi1 : Nat → Int32} {ps1 : Nat → Option Nat} {ss1 : Nat → Int32} {vs1 : Nat → Option Nat} (h8 : nC d ≤ 8) (h200 : nG d ≤ 200) (hv24 : vn d ≤ 24) (hS : va_S A H0 H locs) (hA : ∀ q, bd ≤ q → q < H0.size → ¬ A q) (hP : va_P D vwCl (cWs y a b (va_cpy cs cs1 0 0 8) (nI (nC d)) (va_cpy ns ns1 0 0 8) (va_cpy se se1 0 0 3) (va_cpy wi wi1 0 0 30) (va_cpy al al1 0 0 120) (va_cpy re re1 0 0 120) (va_cpy gi gi1 0 0 120) (va_cpy ps ps1 0 0 200) (nI (nG d)) (va_cpy ss ss1 0 0 200) (va_cpy vs vs1 0 0 24) (nI (vn d)) cs (nI (nC d)) ns se wi al re gi ps (nI (nG d)) ss vs (nI (vn d))) H)
    (hT1 : sT D bd cs1 ps1 vs1 H0) (hR : sR d ca pa cs ns se wi al re gi ps ss vs) (hC : ∀ c, c < nC d → bd ≤ ca c ∧ crA D y (ca c) c d H0) (hE : ∀ p, p < nG d → bd ≤ pa p ∧ bd ≤ pk p ∧ peA D y (pa p) p (pk p) d H0) (hT : sT D bd cs ps vs H0) : sD D y bd a d ca pa pk H ∧ sD D y bd b d ca pa pk H :=
  ⟨sD_mk hS hA (va_P.l hP) rfl rfl rfl (sR_cpy h8 h200 hv24 hR) hC hE (sT_cpy hT1 hT), sD_mk hS hA (va_P.r hP) rfl rfl rfl hR hC hE hT⟩
/-! from the latest back -/
def nN (d : Nat → Int32) (p : Nat) : Nat := cl (pm d p 1)
theorem plJ.nn {d : Nat → Int32} (h : plJ d) {p : Nat} (hp : p < nG d) : pm d p 1 = nI (nN d p) ∧ nN d p < 30 := by
  obtain ⟨j, -, h2, e⟩ := inB_nat (by decide) (h.n hp) (by decide)
  unfold nN
  rw [e, cl_nI (by omega)]
  exact ⟨rfl, by omega⟩
def wfB (e : Nat → Int32) (p : Nat) : Bool := stpB e (pC e p) (nN e p) || decide (freI e (sC e (pC e p)) (nN e p) < 0)
theorem wf_t {e : Nat → Int32} {p : Nat} (h : stpB e (pC e p) (nN e p) = true) : wfB e p = true := by unfold wfB; rw [h]; rfl
theorem wf_u {e : Nat → Int32} {p : Nat} (h : ¬ 0 ≤ freI e (sC e (pC e p)) (nN e p)) : wfB e p = true := by unfold wfB; rw [decide_eq_true (Int32.not_le.mp h)]; exact Bool.or_true _
theorem wf_v {e : Nat → Int32} {p : Nat} (h1 : stpB e (pC e p) (nN e p) = false) (h : 0 ≤ freI e (sC e (pC e p)) (nN e p)) : ¬ wfB e p = true := by unfold wfB; rw [h1, decide_eq_false (Int32.not_lt.mpr h)]; exact Bool.false_ne_true
def wfS (d : Nat → Int32) : Nat → (Nat → Int32) × Int32
  | 0 => (d, nI 0)
  | j + 1 => if wfB (wfS d j).1 (vx (wfS d j).1 (vn d - 1 - j)) = true then (upd (wfS d j).1 (445 + 5 * (vx (wfS d j).1 (vn d - 1 - j)) + 4) (nI 3), (wfS d j).2 + 1) else wfS d j
def wfD (d : Nat → Int32) (j : Nat) : Nat → Int32 := (wfS d j).1
def wfC (d : Nat → Int32) (j : Nat) : Int32 := (wfS d j).2
theorem wf_y {d : Nat → Int32} {j : Nat} (h : wfB (wfD d j) (vx (wfD d j) (vn d - 1 - j)) = true) : wfD d (j + 1) = upd (wfD d j) (445 + 5 * (vx (wfD d j) (vn d - 1 - j)) + 4) (nI 3) ∧ wfC d (j + 1) = wfC d j + 1 := by
  unfold wfD wfC at *
  rw [wfS, if_pos h]
  exact ⟨rfl, rfl⟩
theorem wf_n {d : Nat → Int32} {j : Nat} (h : ¬ wfB (wfD d j) (vx (wfD d j) (vn d - 1 - j)) = true) : wfD d (j + 1) = wfD d j ∧ wfC d (j + 1) = wfC d j := by
  unfold wfD wfC at *
  rw [wfS, if_neg h]
  exact ⟨rfl, rfl⟩
theorem vL_nd (d : Nat → Int32) : (vL d).Nodup := List.Pairwise.filter _ List.nodup_range
theorem vx_mem {d : Nat → Int32} {i : Nat} (hi : i < vn d) : vx d i ∈ vL d := by
  have hl : i < (vL d).length := hi
  unfold vx
  rw [List.getD_eq_getElem?_getD, List.getElem?_eq_getElem hl]
  exact List.getElem_mem hl
theorem vn_end {d : Nat → Int32} {p : Nat} {v : Int32} (hv : ¬ v = nI 1) (hp : p ∈ vL d) : vn (endD d p v) + 1 = vn d := by
  unfold vn
  rw [vL_end hv]
  have e : (vL d).filter (fun x => decide (¬ x = p)) = (vL d).erase p := by
    rw [(vL_nd d).erase_eq_filter]
    refine List.filter_congr (fun x _ => ?_)
    by_cases q : x = p <;> simp [q]
  rw [e, List.length_erase_of_mem hp]
  have := List.length_pos_of_mem hp
  omega
theorem plJ.endD {d : Nat → Int32} (h : plJ d) (p : Nat) (v : Int32) : plJ (endD d p v) := by
  intro q hq
  rw [(endD_g d p v).1] at hq
  have := h q hq
  rw [endD_pm d p v q 1 (by decide), endD_pm d p v q 2 (by decide), endD_pm d p v q 3 (by decide), if_neg (fun z => by omega), if_neg (fun z => by omega), if_neg (fun z => by omega)]
  exact this
theorem wf_I {d : Nat → Int32} (hI : zI d) (hP : plJ d) : ∀ {j : Nat}, j ≤ vn d → zI (wfD d j) ∧ plJ (wfD d j) ∧ vn (wfD d j) ≤ vn d ∧ vn d - j ≤ vn (wfD d j)
  | 0, _ => ⟨hI, hP, Nat.le_refl _, Nat.le_refl _⟩
  | j + 1, h => by
    obtain ⟨a, b, c, e⟩ := wf_I hI hP (j := j) (by omega)
    by_cases q : wfB (wfD d j) (vx (wfD d j) (vn d - 1 - j)) = true
    · rw [(wf_y q).1]
      have hv := vn_end (v := nI 3) (by decide) (vx_mem (show vn d - 1 - j < vn (wfD d j) by omega))
      have hv' : vn (upd (wfD d j) (445 + 5 * (vx (wfD d j) (vn d - 1 - j)) + 4) (nI 3)) + 1 = vn (wfD d j) := hv
      exact ⟨(a.upd4 _ _).1, b.endD _ _, by omega, by omega⟩
    · rw [(wf_n q).1]
      exact ⟨a, b, c, by omega⟩
theorem i_c_X2_copyFrom_X2 : ∀ w ∈ wsX20, w ∈ wsX2_copyFrom := fun w h => (List.mem_cons_of_mem _ (List.mem_append_right _ h))
set_option maxRecDepth 200000 in
set_option maxHeartbeats 8000000 in
theorem c_X2_copyFrom (l : Launch) (D : va_G) (y : zY) (bd : Nat) (a : Nat) (b : Nat) (e : Nat → Int32) (ce : Nat → Nat) (pe : Nat → Nat) (ke : Nat → Nat) (d : Nat → Int32) (ca : Nat → Nat) (pa : Nat → Nat) (pk : Nat → Nat) (hab : a + 11 ≤ b ∨ b + 11 ≤ a) (hba : a + 11 ≤ bd) (hbb : b + 11 ≤ bd) (h8 : nC d ≤ 8) (h200 : nG d ≤ 200) (hv24 : vn d ≤ 24) : Met l yX2_copyFrom wsX2_copyFrom ({ frames := 1, cells := 0, slots := 0, locals := 40 }) (zP [.ref a, .ref b] (fun H => sD D y bd a e ce pe ke H ∧ sD D y bd b d ca pa pk H) D y) (zW none (fun H => sD D y bd a d ca pa pk H ∧ sD D y bd b d ca pa pk H) (blk2 a b)) 0 0 (blk2 a b) := by
  refine z_body (cc := cX2_copyFrom) (maxL := 2) (ret := none) (la := [(0, .ref a), (1, .ref b)]) (by decide) rfl (Nat.le_of_ble_eq_true rfl) rfl ?_
  intro pg ev s mm below meth c0 ls hx hb hr hF hlocks hΦ hK hl _
  have hts := hF.2.2.2.2
  have hown : s.vm.findClass RX2 = some mm.cls := hF.2.2.2.1
  have hS : va_S (blk2 a b) s.heap s.heap [] := va_S.rf
  have hAb : ∀ q, bd ≤ q → q < s.heap.size → ¬ blk2 a b q := fun q h _ z => z.elim (blk_no hba h) (blk_no hbb h)
  obtain ⟨⟨cs, ns, se, wi, al, re, gi, ps, ss, vs, hP1, hR1, hC1, hE1, hT1⟩, ⟨cs2, ns2, se2, wi2, al2, re2, gi2, ps2, ss2, vs2, hP2, hR, hC, hE, hT⟩⟩ := hΦ
  have hP : va_P D vwCl (cWs y a b cs (nI (nC e)) ns se wi al re gi ps (nI (nG e)) ss vs (nI (vn e)) cs2 (nI (nC d)) ns2 se2 wi2 al2 re2 gi2 ps2 (nI (nG d)) ss2 vs2 (nI (vn d))) s.heap := hP1.app hP2
  refine lv_aload_n hx hb dX2_copyFrom_0 rfl (lv_at hl 1 rfl) ?_
  refine z_get (fs := [.ref (b + 1), .int (nI (nC d)), .ref (b + 2), .ref (b + 3), .ref (b + 4), .ref (b + 5), .ref (b + 6), .ref (b + 7), .ref (b + 8), .int (nI (nG d)), .ref (b + 9), .ref (b + 10), .int (nI (vn d))]) (ref := "CranePermits$Site") (C := RX2) (T := TX2) (N := 13) (ci := 2) (v := .ref (b + 1)) hx hb hts i_c_X2_copyFrom_X2 hown hK (hP 11 _ rfl) 0 (by decide) rfl (hts (.fieldLink RX2 11 "CranePermits$Site" "cranes" "[LCranePermits$Crane;") (List.mem_of_getElem? (i := 1) rfl)) rfl rfl dX2_copyFrom_1 ?_
  refine lv_iconst (v := (nI 0)) hx hb dX2_copyFrom_4 (by decide) ?_
  refine lv_aload_n hx hb dX2_copyFrom_5 rfl (lv_at hl 0 rfl) ?_
  refine z_get (fs := [.ref (a + 1), .int (nI (nC e)), .ref (a + 2), .ref (a + 3), .ref (a + 4), .ref (a + 5), .ref (a + 6), .ref (a + 7), .ref (a + 8), .int (nI (nG e)), .ref (a + 9), .ref (a + 10), .int (nI (vn e))]) (ref := "CranePermits$Site") (C := RX2) (T := TX2) (N := 13) (ci := 2) (v := .ref (a + 1)) hx hb hts i_c_X2_copyFrom_X2 hown hK (hP 0 _ rfl) 0 (by decide) rfl (hts (.fieldLink RX2 11 "CranePermits$Site" "cranes" "[LCranePermits$Crane;") (List.mem_of_getElem? (i := 1) rfl)) rfl rfl dX2_copyFrom_6 ?_
  refine lv_iconst (v := (nI 0)) hx hb dX2_copyFrom_9 (by decide) ?_
  refine lv_bipush (v := (nI 8)) hx hb dX2_copyFrom_10 (by decide) ?_
  refine va_copyq hx hb (hF.2.2.1.trans hl.1.symm) hown (hts (.methodLink RX2 64 arraycopyName) (List.mem_of_getElem? (i := 2) rfl)) (hts (.native arraycopyName) (List.mem_of_getElem? (i := 3) rfl)) (hts (.static arraycopyName) (List.mem_of_getElem? (i := 4) rfl)) (hts (.initialized "java/lang/System") (List.mem_of_getElem? (i := 5) rfl)) hK.1 hP (cWs_D hab) hS 12 1 3 3 (f := cs2) (g := cs) (C := RX0) rfl rfl rfl rfl (by decide) (by decide) (by decide) (by decide) (by decide) (fun i _ q hq => el_S hK rfl hT.1 hS hAb _ q hq) (fun comp c0 h1 h2 => by rw [Option.some.inj (h2.symm.trans h1)]; exact va_asg _ _) (by decide) (by decide) dX2_copyFrom_12 (fun H1 locs1 hP _ hS => ?_)
  have hP : va_P D vwCl (cWs y a b (va_cpy cs2 cs 0 0 8) (nI (nC e)) ns se wi al re gi ps (nI (nG e)) ss vs (nI (vn e)) cs2 (nI (nC d)) ns2 se2 wi2 al2 re2 gi2 ps2 (nI (nG d)) ss2 vs2 (nI (vn d))) H1 := hP
  refine lv_aload_n hx hb dX2_copyFrom_15 rfl (lv_at hl 0 rfl) ?_
  refine lv_aload_n hx hb dX2_copyFrom_16 rfl (lv_at hl 1 rfl) ?_
  refine z_get (fs := [.ref (b + 1), .int (nI (nC d)), .ref (b + 2), .ref (b + 3), .ref (b + 4), .ref (b + 5), .ref (b + 6), .ref (b + 7), .ref (b + 8), .int (nI (nG d)), .ref (b + 9), .ref (b + 10), .int (nI (vn d))]) (ref := "CranePermits$Site") (C := RX2) (T := TX2) (N := 13) (ci := 2) (v := .int (nI (nC d))) hx hb hts i_c_X2_copyFrom_X2 hown hK (hP 11 _ rfl) 1 (by decide) rfl (hts (.fieldLink RX2 17 "CranePermits$Site" "craneCount" "I") (List.mem_of_getElem? (i := 6) rfl)) rfl rfl dX2_copyFrom_17 ?_
  refine y_put (a := a) (fs := [.ref (a + 1), .int (nI (nC e)), .ref (a + 2), .ref (a + 3), .ref (a + 4), .ref (a + 5), .ref (a + 6), .ref (a + 7), .ref (a + 8), .int (nI (nG e)), .ref (a + 9), .ref (a + 10), .int (nI (vn e))]) (ref := "CranePermits$Site") (C := RX2) (T := TX2) (N := 13) (ci := 2) (v := .int (nI (nC d))) (ty := .int) hx hb hts i_c_X2_copyFrom_X2 tyX2 tyX2_ok nmX2 hown hK (hP 0 _ rfl) 1 (by decide) rfl (hts (.fieldLink RX2 17 "CranePermits$Site" "craneCount" "I") (List.mem_of_getElem? (i := 6) rfl)) rfl rfl (by decide +kernel) (rfl) rfl (Nat.le_of_ble_eq_true rfl) dX2_copyFrom_20 (fun H2 x1 hU hV => ?_)
  have hS := hS.upd (x := x1) hU (Or.inl (blk_in (by omega) (by omega)))
  have hP : va_P D vwCl (cWs y a b (va_cpy cs2 cs 0 0 8) (nI (nC d)) ns se wi al re gi ps (nI (nG e)) ss vs (nI (vn e)) cs2 (nI (nC d)) ns2 se2 wi2 al2 re2 gi2 ps2 (nI (nG d)) ss2 vs2 (nI (vn d))) H2 := hP.upd (q0 := 0) (cWs_D hab) rfl hU hV
  clear hU hV
  refine lv_aload_n hx hb dX2_copyFrom_23 rfl (lv_at hl 1 rfl) ?_
  refine z_get (fs := [.ref (b + 1), .int (nI (nC d)), .ref (b + 2), .ref (b + 3), .ref (b + 4), .ref (b + 5), .ref (b + 6), .ref (b + 7), .ref (b + 8), .int (nI (nG d)), .ref (b + 9), .ref (b + 10), .int (nI (vn d))]) (ref := "CranePermits$Site") (C := RX2) (T := TX2) (N := 13) (ci := 2) (v := .ref (b + 2)) hx hb hts i_c_X2_copyFrom_X2 hown hK (hP 11 _ rfl) 2 (by decide) rfl (hts (.fieldLink RX2 21 "CranePermits$Site" "noises" "[I") (List.mem_of_getElem? (i := 7) rfl)) rfl rfl dX2_copyFrom_24 ?_
  refine lv_iconst (v := (nI 0)) hx hb dX2_copyFrom_27 (by decide) ?_
  refine lv_aload_n hx hb dX2_copyFrom_28 rfl (lv_at hl 0 rfl) ?_
  refine z_get (fs := [.ref (a + 1), .int (nI (nC d)), .ref (a + 2), .ref (a + 3), .ref (a + 4), .ref (a + 5), .ref (a + 6), .ref (a + 7), .ref (a + 8), .int (nI (nG e)), .ref (a + 9), .ref (a + 10), .int (nI (vn e))]) (ref := "CranePermits$Site") (C := RX2) (T := TX2) (N := 13) (ci := 2) (v := .ref (a + 2)) hx hb hts i_c_X2_copyFrom_X2 hown hK (hP 0 _ rfl) 2 (by decide) rfl (hts (.fieldLink RX2 21 "CranePermits$Site" "noises" "[I") (List.mem_of_getElem? (i := 7) rfl)) rfl rfl dX2_copyFrom_29 ?_
  refine lv_iconst (v := (nI 0)) hx hb dX2_copyFrom_32 (by decide) ?_
  refine lv_bipush (v := (nI 8)) hx hb dX2_copyFrom_33 (by decide) ?_
  refine va_copyi hx hb (hF.2.2.1.trans hl.1.symm) hown (hts (.methodLink RX2 64 arraycopyName) (List.mem_of_getElem? (i := 2) rfl)) (hts (.native arraycopyName) (List.mem_of_getElem? (i := 3) rfl)) (hts (.static arraycopyName) (List.mem_of_getElem? (i := 4) rfl)) (hts (.initialized "java/lang/System") (List.mem_of_getElem? (i := 5) rfl)) hK.1 hP (cWs_D hab) hS 13 2 0 0 (f := ns2) (g := ns) rfl rfl rfl rfl rfl (by decide) (by decide) (by decide) (by decide) (by decide) (fun _ _ => rfl) (by decide) (by decide) dX2_copyFrom_35 (fun H3 locs1 hP _ hS => ?_)
  have hP : va_P D vwCl (cWs y a b (va_cpy cs2 cs 0 0 8) (nI (nC d)) (va_cpy ns2 ns 0 0 8) se wi al re gi ps (nI (nG e)) ss vs (nI (vn e)) cs2 (nI (nC d)) ns2 se2 wi2 al2 re2 gi2 ps2 (nI (nG d)) ss2 vs2 (nI (vn d))) H3 := hP
  refine lv_aload_n hx hb dX2_copyFrom_38 rfl (lv_at hl 1 rfl) ?_
  refine z_get (fs := [.ref (b + 1), .int (nI (nC d)), .ref (b + 2), .ref (b + 3), .ref (b + 4), .ref (b + 5), .ref (b + 6), .ref (b + 7), .ref (b + 8), .int (nI (nG d)), .ref (b + 9), .ref (b + 10), .int (nI (vn d))]) (ref := "CranePermits$Site") (C := RX2) (T := TX2) (N := 13) (ci := 2) (v := .ref (b + 3)) hx hb hts i_c_X2_copyFrom_X2 hown hK (hP 11 _ rfl) 3 (by decide) rfl (hts (.fieldLink RX2 25 "CranePermits$Site" "settings" "[I") (List.mem_of_getElem? (i := 8) rfl)) rfl rfl dX2_copyFrom_39 ?_
  refine lv_iconst (v := (nI 0)) hx hb dX2_copyFrom_42 (by decide) ?_
  refine lv_aload_n hx hb dX2_copyFrom_43 rfl (lv_at hl 0 rfl) ?_
  refine z_get (fs := [.ref (a + 1), .int (nI (nC d)), .ref (a + 2), .ref (a + 3), .ref (a + 4), .ref (a + 5), .ref (a + 6), .ref (a + 7), .ref (a + 8), .int (nI (nG e)), .ref (a + 9), .ref (a + 10), .int (nI (vn e))]) (ref := "CranePermits$Site") (C := RX2) (T := TX2) (N := 13) (ci := 2) (v := .ref (a + 3)) hx hb hts i_c_X2_copyFrom_X2 hown hK (hP 0 _ rfl) 3 (by decide) rfl (hts (.fieldLink RX2 25 "CranePermits$Site" "settings" "[I") (List.mem_of_getElem? (i := 8) rfl)) rfl rfl dX2_copyFrom_44 ?_
  refine lv_iconst (v := (nI 0)) hx hb dX2_copyFrom_47 (by decide) ?_
  refine lv_aload_n hx hb dX2_copyFrom_48 rfl (lv_at hl 0 rfl) ?_
  refine z_get (fs := [.ref (a + 1), .int (nI (nC d)), .ref (a + 2), .ref (a + 3), .ref (a + 4), .ref (a + 5), .ref (a + 6), .ref (a + 7), .ref (a + 8), .int (nI (nG e)), .ref (a + 9), .ref (a + 10), .int (nI (vn e))]) (ref := "CranePermits$Site") (C := RX2) (T := TX2) (N := 13) (ci := 2) (v := .ref (a + 3)) hx hb hts i_c_X2_copyFrom_X2 hown hK (hP 0 _ rfl) 3 (by decide) rfl (hts (.fieldLink RX2 25 "CranePermits$Site" "settings" "[I") (List.mem_of_getElem? (i := 8) rfl)) rfl rfl dX2_copyFrom_49 ?_
  refine z_alen 0 (n := 3) hx hb hK rfl (hP 3 _ rfl) rfl dX2_copyFrom_52 ?_
  refine va_copyi hx hb (hF.2.2.1.trans hl.1.symm) hown (hts (.methodLink RX2 64 arraycopyName) (List.mem_of_getElem? (i := 2) rfl)) (hts (.native arraycopyName) (List.mem_of_getElem? (i := 3) rfl)) (hts (.static arraycopyName) (List.mem_of_getElem? (i := 4) rfl)) (hts (.initialized "java/lang/System") (List.mem_of_getElem? (i := 5) rfl)) hK.1 hP (cWs_D hab) hS 14 3 0 0 (f := se2) (g := se) rfl rfl rfl rfl rfl (by decide) (by decide) (by decide) (by decide) (by decide) (fun _ _ => rfl) (by decide) (by decide) dX2_copyFrom_53 (fun H4 locs1 hP _ hS => ?_)
  have hP : va_P D vwCl (cWs y a b (va_cpy cs2 cs 0 0 8) (nI (nC d)) (va_cpy ns2 ns 0 0 8) (va_cpy se2 se 0 0 3) wi al re gi ps (nI (nG e)) ss vs (nI (vn e)) cs2 (nI (nC d)) ns2 se2 wi2 al2 re2 gi2 ps2 (nI (nG d)) ss2 vs2 (nI (vn d))) H4 := hP
  refine lv_aload_n hx hb dX2_copyFrom_56 rfl (lv_at hl 1 rfl) ?_
  refine z_get (fs := [.ref (b + 1), .int (nI (nC d)), .ref (b + 2), .ref (b + 3), .ref (b + 4), .ref (b + 5), .ref (b + 6), .ref (b + 7), .ref (b + 8), .int (nI (nG d)), .ref (b + 9), .ref (b + 10), .int (nI (vn d))]) (ref := "CranePermits$Site") (C := RX2) (T := TX2) (N := 13) (ci := 2) (v := .ref (b + 4)) hx hb hts i_c_X2_copyFrom_X2 hown hK (hP 11 _ rfl) 4 (by decide) rfl (hts (.fieldLink RX2 28 "CranePermits$Site" "winds" "[I") (List.mem_of_getElem? (i := 9) rfl)) rfl rfl dX2_copyFrom_57 ?_
  refine lv_iconst (v := (nI 0)) hx hb dX2_copyFrom_60 (by decide) ?_
  refine lv_aload_n hx hb dX2_copyFrom_61 rfl (lv_at hl 0 rfl) ?_
  refine z_get (fs := [.ref (a + 1), .int (nI (nC d)), .ref (a + 2), .ref (a + 3), .ref (a + 4), .ref (a + 5), .ref (a + 6), .ref (a + 7), .ref (a + 8), .int (nI (nG e)), .ref (a + 9), .ref (a + 10), .int (nI (vn e))]) (ref := "CranePermits$Site") (C := RX2) (T := TX2) (N := 13) (ci := 2) (v := .ref (a + 4)) hx hb hts i_c_X2_copyFrom_X2 hown hK (hP 0 _ rfl) 4 (by decide) rfl (hts (.fieldLink RX2 28 "CranePermits$Site" "winds" "[I") (List.mem_of_getElem? (i := 9) rfl)) rfl rfl dX2_copyFrom_62 ?_
  refine lv_iconst (v := (nI 0)) hx hb dX2_copyFrom_65 (by decide) ?_
  refine lv_bipush (v := (nI 30)) hx hb dX2_copyFrom_66 (by decide) ?_
  refine va_copyi hx hb (hF.2.2.1.trans hl.1.symm) hown (hts (.methodLink RX2 64 arraycopyName) (List.mem_of_getElem? (i := 2) rfl)) (hts (.native arraycopyName) (List.mem_of_getElem? (i := 3) rfl)) (hts (.static arraycopyName) (List.mem_of_getElem? (i := 4) rfl)) (hts (.initialized "java/lang/System") (List.mem_of_getElem? (i := 5) rfl)) hK.1 hP (cWs_D hab) hS 15 4 0 0 (f := wi2) (g := wi) rfl rfl rfl rfl rfl (by decide) (by decide) (by decide) (by decide) (by decide) (fun _ _ => rfl) (by decide) (by decide) dX2_copyFrom_68 (fun H5 locs1 hP _ hS => ?_)
  have hP : va_P D vwCl (cWs y a b (va_cpy cs2 cs 0 0 8) (nI (nC d)) (va_cpy ns2 ns 0 0 8) (va_cpy se2 se 0 0 3) (va_cpy wi2 wi 0 0 30) al re gi ps (nI (nG e)) ss vs (nI (vn e)) cs2 (nI (nC d)) ns2 se2 wi2 al2 re2 gi2 ps2 (nI (nG d)) ss2 vs2 (nI (vn d))) H5 := hP
  refine lv_aload_n hx hb dX2_copyFrom_71 rfl (lv_at hl 1 rfl) ?_
  refine z_get (fs := [.ref (b + 1), .int (nI (nC d)), .ref (b + 2), .ref (b + 3), .ref (b + 4), .ref (b + 5), .ref (b + 6), .ref (b + 7), .ref (b + 8), .int (nI (nG d)), .ref (b + 9), .ref (b + 10), .int (nI (vn d))]) (ref := "CranePermits$Site") (C := RX2) (T := TX2) (N := 13) (ci := 2) (v := .ref (b + 5)) hx hb hts i_c_X2_copyFrom_X2 hown hK (hP 11 _ rfl) 5 (by decide) rfl (hts (.fieldLink RX2 31 "CranePermits$Site" "allowances" "[I") (List.mem_of_getElem? (i := 10) rfl)) rfl rfl dX2_copyFrom_72 ?_
  refine lv_iconst (v := (nI 0)) hx hb dX2_copyFrom_75 (by decide) ?_
  refine lv_aload_n hx hb dX2_copyFrom_76 rfl (lv_at hl 0 rfl) ?_
  refine z_get (fs := [.ref (a + 1), .int (nI (nC d)), .ref (a + 2), .ref (a + 3), .ref (a + 4), .ref (a + 5), .ref (a + 6), .ref (a + 7), .ref (a + 8), .int (nI (nG e)), .ref (a + 9), .ref (a + 10), .int (nI (vn e))]) (ref := "CranePermits$Site") (C := RX2) (T := TX2) (N := 13) (ci := 2) (v := .ref (a + 5)) hx hb hts i_c_X2_copyFrom_X2 hown hK (hP 0 _ rfl) 5 (by decide) rfl (hts (.fieldLink RX2 31 "CranePermits$Site" "allowances" "[I") (List.mem_of_getElem? (i := 10) rfl)) rfl rfl dX2_copyFrom_77 ?_
  refine lv_iconst (v := (nI 0)) hx hb dX2_copyFrom_80 (by decide) ?_
  refine lv_bipush (v := (nI 120)) hx hb dX2_copyFrom_81 (by decide) ?_
  refine va_copyi hx hb (hF.2.2.1.trans hl.1.symm) hown (hts (.methodLink RX2 64 arraycopyName) (List.mem_of_getElem? (i := 2) rfl)) (hts (.native arraycopyName) (List.mem_of_getElem? (i := 3) rfl)) (hts (.static arraycopyName) (List.mem_of_getElem? (i := 4) rfl)) (hts (.initialized "java/lang/System") (List.mem_of_getElem? (i := 5) rfl)) hK.1 hP (cWs_D hab) hS 16 5 0 0 (f := al2) (g := al) rfl rfl rfl rfl rfl (by decide) (by decide) (by decide) (by decide) (by decide) (fun _ _ => rfl) (by decide) (by decide) dX2_copyFrom_83 (fun H6 locs1 hP _ hS => ?_)
  have hP : va_P D vwCl (cWs y a b (va_cpy cs2 cs 0 0 8) (nI (nC d)) (va_cpy ns2 ns 0 0 8) (va_cpy se2 se 0 0 3) (va_cpy wi2 wi 0 0 30) (va_cpy al2 al 0 0 120) re gi ps (nI (nG e)) ss vs (nI (vn e)) cs2 (nI (nC d)) ns2 se2 wi2 al2 re2 gi2 ps2 (nI (nG d)) ss2 vs2 (nI (vn d))) H6 := hP
  refine lv_aload_n hx hb dX2_copyFrom_86 rfl (lv_at hl 1 rfl) ?_
  refine z_get (fs := [.ref (b + 1), .int (nI (nC d)), .ref (b + 2), .ref (b + 3), .ref (b + 4), .ref (b + 5), .ref (b + 6), .ref (b + 7), .ref (b + 8), .int (nI (nG d)), .ref (b + 9), .ref (b + 10), .int (nI (vn d))]) (ref := "CranePermits$Site") (C := RX2) (T := TX2) (N := 13) (ci := 2) (v := .ref (b + 6)) hx hb hts i_c_X2_copyFrom_X2 hown hK (hP 11 _ rfl) 6 (by decide) rfl (hts (.fieldLink RX2 34 "CranePermits$Site" "received" "[I") (List.mem_of_getElem? (i := 11) rfl)) rfl rfl dX2_copyFrom_87 ?_
  refine lv_iconst (v := (nI 0)) hx hb dX2_copyFrom_90 (by decide) ?_
  refine lv_aload_n hx hb dX2_copyFrom_91 rfl (lv_at hl 0 rfl) ?_
  refine z_get (fs := [.ref (a + 1), .int (nI (nC d)), .ref (a + 2), .ref (a + 3), .ref (a + 4), .ref (a + 5), .ref (a + 6), .ref (a + 7), .ref (a + 8), .int (nI (nG e)), .ref (a + 9), .ref (a + 10), .int (nI (vn e))]) (ref := "CranePermits$Site") (C := RX2) (T := TX2) (N := 13) (ci := 2) (v := .ref (a + 6)) hx hb hts i_c_X2_copyFrom_X2 hown hK (hP 0 _ rfl) 6 (by decide) rfl (hts (.fieldLink RX2 34 "CranePermits$Site" "received" "[I") (List.mem_of_getElem? (i := 11) rfl)) rfl rfl dX2_copyFrom_92 ?_
  refine lv_iconst (v := (nI 0)) hx hb dX2_copyFrom_95 (by decide) ?_
  refine lv_bipush (v := (nI 120)) hx hb dX2_copyFrom_96 (by decide) ?_
  refine va_copyi hx hb (hF.2.2.1.trans hl.1.symm) hown (hts (.methodLink RX2 64 arraycopyName) (List.mem_of_getElem? (i := 2) rfl)) (hts (.native arraycopyName) (List.mem_of_getElem? (i := 3) rfl)) (hts (.static arraycopyName) (List.mem_of_getElem? (i := 4) rfl)) (hts (.initialized "java/lang/System") (List.mem_of_getElem? (i := 5) rfl)) hK.1 hP (cWs_D hab) hS 17 6 0 0 (f := re2) (g := re) rfl rfl rfl rfl rfl (by decide) (by decide) (by decide) (by decide) (by decide) (fun _ _ => rfl) (by decide) (by decide) dX2_copyFrom_98 (fun H7 locs1 hP _ hS => ?_)
  have hP : va_P D vwCl (cWs y a b (va_cpy cs2 cs 0 0 8) (nI (nC d)) (va_cpy ns2 ns 0 0 8) (va_cpy se2 se 0 0 3) (va_cpy wi2 wi 0 0 30) (va_cpy al2 al 0 0 120) (va_cpy re2 re 0 0 120) gi ps (nI (nG e)) ss vs (nI (vn e)) cs2 (nI (nC d)) ns2 se2 wi2 al2 re2 gi2 ps2 (nI (nG d)) ss2 vs2 (nI (vn d))) H7 := hP
  refine lv_aload_n hx hb dX2_copyFrom_101 rfl (lv_at hl 1 rfl) ?_
  refine z_get (fs := [.ref (b + 1), .int (nI (nC d)), .ref (b + 2), .ref (b + 3), .ref (b + 4), .ref (b + 5), .ref (b + 6), .ref (b + 7), .ref (b + 8), .int (nI (nG d)), .ref (b + 9), .ref (b + 10), .int (nI (vn d))]) (ref := "CranePermits$Site") (C := RX2) (T := TX2) (N := 13) (ci := 2) (v := .ref (b + 7)) hx hb hts i_c_X2_copyFrom_X2 hown hK (hP 11 _ rfl) 7 (by decide) rfl (hts (.fieldLink RX2 37 "CranePermits$Site" "given" "[I") (List.mem_of_getElem? (i := 12) rfl)) rfl rfl dX2_copyFrom_102 ?_
  refine lv_iconst (v := (nI 0)) hx hb dX2_copyFrom_105 (by decide) ?_
  refine lv_aload_n hx hb dX2_copyFrom_106 rfl (lv_at hl 0 rfl) ?_
  refine z_get (fs := [.ref (a + 1), .int (nI (nC d)), .ref (a + 2), .ref (a + 3), .ref (a + 4), .ref (a + 5), .ref (a + 6), .ref (a + 7), .ref (a + 8), .int (nI (nG e)), .ref (a + 9), .ref (a + 10), .int (nI (vn e))]) (ref := "CranePermits$Site") (C := RX2) (T := TX2) (N := 13) (ci := 2) (v := .ref (a + 7)) hx hb hts i_c_X2_copyFrom_X2 hown hK (hP 0 _ rfl) 7 (by decide) rfl (hts (.fieldLink RX2 37 "CranePermits$Site" "given" "[I") (List.mem_of_getElem? (i := 12) rfl)) rfl rfl dX2_copyFrom_107 ?_
  refine lv_iconst (v := (nI 0)) hx hb dX2_copyFrom_110 (by decide) ?_
  refine lv_bipush (v := (nI 120)) hx hb dX2_copyFrom_111 (by decide) ?_
  refine va_copyi hx hb (hF.2.2.1.trans hl.1.symm) hown (hts (.methodLink RX2 64 arraycopyName) (List.mem_of_getElem? (i := 2) rfl)) (hts (.native arraycopyName) (List.mem_of_getElem? (i := 3) rfl)) (hts (.static arraycopyName) (List.mem_of_getElem? (i := 4) rfl)) (hts (.initialized "java/lang/System") (List.mem_of_getElem? (i := 5) rfl)) hK.1 hP (cWs_D hab) hS 18 7 0 0 (f := gi2) (g := gi) rfl rfl rfl rfl rfl (by decide) (by decide) (by decide) (by decide) (by decide) (fun _ _ => rfl) (by decide) (by decide) dX2_copyFrom_113 (fun H8 locs1 hP _ hS => ?_)
  have hP : va_P D vwCl (cWs y a b (va_cpy cs2 cs 0 0 8) (nI (nC d)) (va_cpy ns2 ns 0 0 8) (va_cpy se2 se 0 0 3) (va_cpy wi2 wi 0 0 30) (va_cpy al2 al 0 0 120) (va_cpy re2 re 0 0 120) (va_cpy gi2 gi 0 0 120) ps (nI (nG e)) ss vs (nI (vn e)) cs2 (nI (nC d)) ns2 se2 wi2 al2 re2 gi2 ps2 (nI (nG d)) ss2 vs2 (nI (vn d))) H8 := hP
  refine lv_aload_n hx hb dX2_copyFrom_116 rfl (lv_at hl 1 rfl) ?_
  refine z_get (fs := [.ref (b + 1), .int (nI (nC d)), .ref (b + 2), .ref (b + 3), .ref (b + 4), .ref (b + 5), .ref (b + 6), .ref (b + 7), .ref (b + 8), .int (nI (nG d)), .ref (b + 9), .ref (b + 10), .int (nI (vn d))]) (ref := "CranePermits$Site") (C := RX2) (T := TX2) (N := 13) (ci := 2) (v := .ref (b + 8)) hx hb hts i_c_X2_copyFrom_X2 hown hK (hP 11 _ rfl) 8 (by decide) rfl (hts (.fieldLink RX2 42 "CranePermits$Site" "permits" "[LCranePermits$Permit;") (List.mem_of_getElem? (i := 13) rfl)) rfl rfl dX2_copyFrom_117 ?_
  refine lv_iconst (v := (nI 0)) hx hb dX2_copyFrom_120 (by decide) ?_
  refine lv_aload_n hx hb dX2_copyFrom_121 rfl (lv_at hl 0 rfl) ?_
  refine z_get (fs := [.ref (a + 1), .int (nI (nC d)), .ref (a + 2), .ref (a + 3), .ref (a + 4), .ref (a + 5), .ref (a + 6), .ref (a + 7), .ref (a + 8), .int (nI (nG e)), .ref (a + 9), .ref (a + 10), .int (nI (vn e))]) (ref := "CranePermits$Site") (C := RX2) (T := TX2) (N := 13) (ci := 2) (v := .ref (a + 8)) hx hb hts i_c_X2_copyFrom_X2 hown hK (hP 0 _ rfl) 8 (by decide) rfl (hts (.fieldLink RX2 42 "CranePermits$Site" "permits" "[LCranePermits$Permit;") (List.mem_of_getElem? (i := 13) rfl)) rfl rfl dX2_copyFrom_122 ?_
  refine lv_iconst (v := (nI 0)) hx hb dX2_copyFrom_125 (by decide) ?_
  refine lv_sipush (v := (nI 200)) hx hb dX2_copyFrom_126 (by decide) ?_
  refine va_copyq hx hb (hF.2.2.1.trans hl.1.symm) hown (hts (.methodLink RX2 64 arraycopyName) (List.mem_of_getElem? (i := 2) rfl)) (hts (.native arraycopyName) (List.mem_of_getElem? (i := 3) rfl)) (hts (.static arraycopyName) (List.mem_of_getElem? (i := 4) rfl)) (hts (.initialized "java/lang/System") (List.mem_of_getElem? (i := 5) rfl)) hK.1 hP (cWs_D hab) hS 19 8 4 4 (f := ps2) (g := ps) (C := RX1) rfl rfl rfl rfl (by decide) (by decide) (by decide) (by decide) (by decide) (fun i _ q hq => el_S hK rfl hT.2.1 hS hAb _ q hq) (fun comp c0 h1 h2 => by rw [Option.some.inj (h2.symm.trans h1)]; exact va_asg _ _) (by decide) (by decide) dX2_copyFrom_129 (fun H9 locs1 hP _ hS => ?_)
  have hP : va_P D vwCl (cWs y a b (va_cpy cs2 cs 0 0 8) (nI (nC d)) (va_cpy ns2 ns 0 0 8) (va_cpy se2 se 0 0 3) (va_cpy wi2 wi 0 0 30) (va_cpy al2 al 0 0 120) (va_cpy re2 re 0 0 120) (va_cpy gi2 gi 0 0 120) (va_cpy ps2 ps 0 0 200) (nI (nG e)) ss vs (nI (vn e)) cs2 (nI (nC d)) ns2 se2 wi2 al2 re2 gi2 ps2 (nI (nG d)) ss2 vs2 (nI (vn d))) H9 := hP
  refine lv_aload_n hx hb dX2_copyFrom_132 rfl (lv_at hl 0 rfl) ?_
  refine lv_aload_n hx hb dX2_copyFrom_133 rfl (lv_at hl 1 rfl) ?_
  refine z_get (fs := [.ref (b + 1), .int (nI (nC d)), .ref (b + 2), .ref (b + 3), .ref (b + 4), .ref (b + 5), .ref (b + 6), .ref (b + 7), .ref (b + 8), .int (nI (nG d)), .ref (b + 9), .ref (b + 10), .int (nI (vn d))]) (ref := "CranePermits$Site") (C := RX2) (T := TX2) (N := 13) (ci := 2) (v := .int (nI (nG d))) hx hb hts i_c_X2_copyFrom_X2 hown hK (hP 11 _ rfl) 9 (by decide) rfl (hts (.fieldLink RX2 46 "CranePermits$Site" "permitCount" "I") (List.mem_of_getElem? (i := 14) rfl)) rfl rfl dX2_copyFrom_134 ?_
  refine y_put (a := a) (fs := [.ref (a + 1), .int (nI (nC d)), .ref (a + 2), .ref (a + 3), .ref (a + 4), .ref (a + 5), .ref (a + 6), .ref (a + 7), .ref (a + 8), .int (nI (nG e)), .ref (a + 9), .ref (a + 10), .int (nI (vn e))]) (ref := "CranePermits$Site") (C := RX2) (T := TX2) (N := 13) (ci := 2) (v := .int (nI (nG d))) (ty := .int) hx hb hts i_c_X2_copyFrom_X2 tyX2 tyX2_ok nmX2 hown hK (hP 0 _ rfl) 9 (by decide) rfl (hts (.fieldLink RX2 46 "CranePermits$Site" "permitCount" "I") (List.mem_of_getElem? (i := 14) rfl)) rfl rfl (by decide +kernel) (rfl) rfl (Nat.le_of_ble_eq_true rfl) dX2_copyFrom_137 (fun H10 x1 hU hV => ?_)
  have hS := hS.upd (x := x1) hU (Or.inl (blk_in (by omega) (by omega)))
  have hP : va_P D vwCl (cWs y a b (va_cpy cs2 cs 0 0 8) (nI (nC d)) (va_cpy ns2 ns 0 0 8) (va_cpy se2 se 0 0 3) (va_cpy wi2 wi 0 0 30) (va_cpy al2 al 0 0 120) (va_cpy re2 re 0 0 120) (va_cpy gi2 gi 0 0 120) (va_cpy ps2 ps 0 0 200) (nI (nG d)) ss vs (nI (vn e)) cs2 (nI (nC d)) ns2 se2 wi2 al2 re2 gi2 ps2 (nI (nG d)) ss2 vs2 (nI (vn d))) H10 := hP.upd (q0 := 0) (cWs_D hab) rfl hU hV
  clear hU hV
  refine lv_aload_n hx hb dX2_copyFrom_140 rfl (lv_at hl 1 rfl) ?_
  refine z_get (fs := [.ref (b + 1), .int (nI (nC d)), .ref (b + 2), .ref (b + 3), .ref (b + 4), .ref (b + 5), .ref (b + 6), .ref (b + 7), .ref (b + 8), .int (nI (nG d)), .ref (b + 9), .ref (b + 10), .int (nI (vn d))]) (ref := "CranePermits$Site") (C := RX2) (T := TX2) (N := 13) (ci := 2) (v := .ref (b + 9)) hx hb hts i_c_X2_copyFrom_X2 hown hK (hP 11 _ rfl) 10 (by decide) rfl (hts (.fieldLink RX2 49 "CranePermits$Site" "states" "[I") (List.mem_of_getElem? (i := 15) rfl)) rfl rfl dX2_copyFrom_141 ?_
  refine lv_iconst (v := (nI 0)) hx hb dX2_copyFrom_144 (by decide) ?_
  refine lv_aload_n hx hb dX2_copyFrom_145 rfl (lv_at hl 0 rfl) ?_
  refine z_get (fs := [.ref (a + 1), .int (nI (nC d)), .ref (a + 2), .ref (a + 3), .ref (a + 4), .ref (a + 5), .ref (a + 6), .ref (a + 7), .ref (a + 8), .int (nI (nG d)), .ref (a + 9), .ref (a + 10), .int (nI (vn e))]) (ref := "CranePermits$Site") (C := RX2) (T := TX2) (N := 13) (ci := 2) (v := .ref (a + 9)) hx hb hts i_c_X2_copyFrom_X2 hown hK (hP 0 _ rfl) 10 (by decide) rfl (hts (.fieldLink RX2 49 "CranePermits$Site" "states" "[I") (List.mem_of_getElem? (i := 15) rfl)) rfl rfl dX2_copyFrom_146 ?_
  refine lv_iconst (v := (nI 0)) hx hb dX2_copyFrom_149 (by decide) ?_
  refine lv_sipush (v := (nI 200)) hx hb dX2_copyFrom_150 (by decide) ?_
  refine va_copyi hx hb (hF.2.2.1.trans hl.1.symm) hown (hts (.methodLink RX2 64 arraycopyName) (List.mem_of_getElem? (i := 2) rfl)) (hts (.native arraycopyName) (List.mem_of_getElem? (i := 3) rfl)) (hts (.static arraycopyName) (List.mem_of_getElem? (i := 4) rfl)) (hts (.initialized "java/lang/System") (List.mem_of_getElem? (i := 5) rfl)) hK.1 hP (cWs_D hab) hS 20 9 0 0 (f := ss2) (g := ss) rfl rfl rfl rfl rfl (by decide) (by decide) (by decide) (by decide) (by decide) (fun _ _ => rfl) (by decide) (by decide) dX2_copyFrom_153 (fun H11 locs1 hP _ hS => ?_)
  have hP : va_P D vwCl (cWs y a b (va_cpy cs2 cs 0 0 8) (nI (nC d)) (va_cpy ns2 ns 0 0 8) (va_cpy se2 se 0 0 3) (va_cpy wi2 wi 0 0 30) (va_cpy al2 al 0 0 120) (va_cpy re2 re 0 0 120) (va_cpy gi2 gi 0 0 120) (va_cpy ps2 ps 0 0 200) (nI (nG d)) (va_cpy ss2 ss 0 0 200) vs (nI (vn e)) cs2 (nI (nC d)) ns2 se2 wi2 al2 re2 gi2 ps2 (nI (nG d)) ss2 vs2 (nI (vn d))) H11 := hP
  refine lv_aload_n hx hb dX2_copyFrom_156 rfl (lv_at hl 1 rfl) ?_
  refine z_get (fs := [.ref (b + 1), .int (nI (nC d)), .ref (b + 2), .ref (b + 3), .ref (b + 4), .ref (b + 5), .ref (b + 6), .ref (b + 7), .ref (b + 8), .int (nI (nG d)), .ref (b + 9), .ref (b + 10), .int (nI (vn d))]) (ref := "CranePermits$Site") (C := RX2) (T := TX2) (N := 13) (ci := 2) (v := .ref (b + 10)) hx hb hts i_c_X2_copyFrom_X2 hown hK (hP 11 _ rfl) 11 (by decide) rfl (hts (.fieldLink RX2 52 "CranePermits$Site" "valid" "[LCranePermits$Permit;") (List.mem_of_getElem? (i := 16) rfl)) rfl rfl dX2_copyFrom_157 ?_
  refine lv_iconst (v := (nI 0)) hx hb dX2_copyFrom_160 (by decide) ?_
  refine lv_aload_n hx hb dX2_copyFrom_161 rfl (lv_at hl 0 rfl) ?_
  refine z_get (fs := [.ref (a + 1), .int (nI (nC d)), .ref (a + 2), .ref (a + 3), .ref (a + 4), .ref (a + 5), .ref (a + 6), .ref (a + 7), .ref (a + 8), .int (nI (nG d)), .ref (a + 9), .ref (a + 10), .int (nI (vn e))]) (ref := "CranePermits$Site") (C := RX2) (T := TX2) (N := 13) (ci := 2) (v := .ref (a + 10)) hx hb hts i_c_X2_copyFrom_X2 hown hK (hP 0 _ rfl) 11 (by decide) rfl (hts (.fieldLink RX2 52 "CranePermits$Site" "valid" "[LCranePermits$Permit;") (List.mem_of_getElem? (i := 16) rfl)) rfl rfl dX2_copyFrom_162 ?_
  refine lv_iconst (v := (nI 0)) hx hb dX2_copyFrom_165 (by decide) ?_
  refine lv_bipush (v := (nI 24)) hx hb dX2_copyFrom_166 (by decide) ?_
  refine va_copyq hx hb (hF.2.2.1.trans hl.1.symm) hown (hts (.methodLink RX2 64 arraycopyName) (List.mem_of_getElem? (i := 2) rfl)) (hts (.native arraycopyName) (List.mem_of_getElem? (i := 3) rfl)) (hts (.static arraycopyName) (List.mem_of_getElem? (i := 4) rfl)) (hts (.initialized "java/lang/System") (List.mem_of_getElem? (i := 5) rfl)) hK.1 hP (cWs_D hab) hS 21 10 4 4 (f := vs2) (g := vs) (C := RX1) rfl rfl rfl rfl (by decide) (by decide) (by decide) (by decide) (by decide) (fun i _ q hq => el_S hK rfl hT.2.2 hS hAb _ q hq) (fun comp c0 h1 h2 => by rw [Option.some.inj (h2.symm.trans h1)]; exact va_asg _ _) (by decide) (by decide) dX2_copyFrom_168 (fun H12 locs1 hP _ hS => ?_)
  have hP : va_P D vwCl (cWs y a b (va_cpy cs2 cs 0 0 8) (nI (nC d)) (va_cpy ns2 ns 0 0 8) (va_cpy se2 se 0 0 3) (va_cpy wi2 wi 0 0 30) (va_cpy al2 al 0 0 120) (va_cpy re2 re 0 0 120) (va_cpy gi2 gi 0 0 120) (va_cpy ps2 ps 0 0 200) (nI (nG d)) (va_cpy ss2 ss 0 0 200) (va_cpy vs2 vs 0 0 24) (nI (vn e)) cs2 (nI (nC d)) ns2 se2 wi2 al2 re2 gi2 ps2 (nI (nG d)) ss2 vs2 (nI (vn d))) H12 := hP
  refine lv_aload_n hx hb dX2_copyFrom_171 rfl (lv_at hl 0 rfl) ?_
  refine lv_aload_n hx hb dX2_copyFrom_172 rfl (lv_at hl 1 rfl) ?_
  refine z_get (fs := [.ref (b + 1), .int (nI (nC d)), .ref (b + 2), .ref (b + 3), .ref (b + 4), .ref (b + 5), .ref (b + 6), .ref (b + 7), .ref (b + 8), .int (nI (nG d)), .ref (b + 9), .ref (b + 10), .int (nI (vn d))]) (ref := "CranePermits$Site") (C := RX2) (T := TX2) (N := 13) (ci := 2) (v := .int (nI (vn d))) hx hb hts i_c_X2_copyFrom_X2 hown hK (hP 11 _ rfl) 12 (by decide) rfl (hts (.fieldLink RX2 55 "CranePermits$Site" "validCount" "I") (List.mem_of_getElem? (i := 17) rfl)) rfl rfl dX2_copyFrom_173 ?_
  refine y_put (a := a) (fs := [.ref (a + 1), .int (nI (nC d)), .ref (a + 2), .ref (a + 3), .ref (a + 4), .ref (a + 5), .ref (a + 6), .ref (a + 7), .ref (a + 8), .int (nI (nG d)), .ref (a + 9), .ref (a + 10), .int (nI (vn e))]) (ref := "CranePermits$Site") (C := RX2) (T := TX2) (N := 13) (ci := 2) (v := .int (nI (vn d))) (ty := .int) hx hb hts i_c_X2_copyFrom_X2 tyX2 tyX2_ok nmX2 hown hK (hP 0 _ rfl) 12 (by decide) rfl (hts (.fieldLink RX2 55 "CranePermits$Site" "validCount" "I") (List.mem_of_getElem? (i := 17) rfl)) rfl rfl (by decide +kernel) (rfl) rfl (Nat.le_of_ble_eq_true rfl) dX2_copyFrom_176 (fun H13 x1 hU hV => ?_)
  have hS := hS.upd (x := x1) hU (Or.inl (blk_in (by omega) (by omega)))
  have hP : va_P D vwCl (cWs y a b (va_cpy cs2 cs 0 0 8) (nI (nC d)) (va_cpy ns2 ns 0 0 8) (va_cpy se2 se 0 0 3) (va_cpy wi2 wi 0 0 30) (va_cpy al2 al 0 0 120) (va_cpy re2 re 0 0 120) (va_cpy gi2 gi 0 0 120) (va_cpy ps2 ps 0 0 200) (nI (nG d)) (va_cpy ss2 ss 0 0 200) (va_cpy vs2 vs 0 0 24) (nI (vn d)) cs2 (nI (nC d)) ns2 se2 wi2 al2 re2 gi2 ps2 (nI (nG d)) ss2 vs2 (nI (vn d))) H13 := hP.upd (q0 := 0) (cWs_D hab) rfl hU hV
  clear hU hV
  exact w_retv hx hb hr hlocks hS (cp_done h8 h200 hv24 hS hAb hP hT1 hR hC hE hT) dX2_copyFrom_179
theorem i_c_X2_withdrawFailing_X2 : ∀ w ∈ wsX20, w ∈ wsX2_withdrawFailing := fun w h => (List.mem_cons_of_mem _ (List.mem_append_left _ (List.mem_append_left _ (List.mem_append_right _ h))))
theorem i_c_X2_withdrawFailing_X1 : ∀ w ∈ wsX10, w ∈ wsX2_withdrawFailing := fun w h => (List.mem_cons_of_mem _ (List.mem_append_left _ (List.mem_append_right _ h)))
theorem i_c_X2_withdrawFailing_X0 : ∀ w ∈ wsX00, w ∈ wsX2_withdrawFailing := fun w h => (List.mem_cons_of_mem _ (List.mem_append_right _ h))
set_option maxRecDepth 100000 in
set_option maxHeartbeats 4000000 in
theorem c_X2_withdrawFailing (l : Launch) (D : va_G) (y : zY) (bd : Nat) (a : Nat) (d : Nat → Int32) (ca : Nat → Nat) (pa : Nat → Nat) (pk : Nat → Nat) (hI : zI d) (hv24 : vn d ≤ 24) (hpl : plJ d) (hbd : a + 11 ≤ bd) : Met l yX2_withdrawFailing wsX2_withdrawFailing ({ frames := 4, cells := 0, slots := 0, locals := 90 }) (zP [.ref a] (fun H => sD D y bd a d ca pa pk H) D y) (zW (some (.int (wfC d (vn d)))) (fun H => sD D y bd a (wfD d (vn d)) ca pa pk H) (blk a 11)) 0 0 (blk a 11) := by
  refine z_body (cc := cX2_withdrawFailing) (maxL := 4) (ret := (some .int)) (la := [(0, .ref a)]) (by decide) rfl (Nat.le_of_ble_eq_true rfl) rfl ?_
  intro pg ev s mm below meth c0 ls hx hb hr hF hlocks hΦ hK hl _
  have hts := hF.2.2.2.2
  have hown : s.vm.findClass RX2 = some mm.cls := hF.2.2.2.1
  have hS : va_S (blk a 11) s.heap s.heap [] := va_S.rf
  have hP : sD D y bd a d ca pa pk s.heap := hΦ
  obtain ⟨cs, ns, se, wi, al, re, gi, ps, ss, vs, hP0, hR, hC, hE, hT⟩ := id hP
  refine lv_iconst (v := (nI 0)) hx hb dX2_withdrawFailing_0 (by decide) ?_
  refine lv_istore_n (lv' := [(1, .int (nI 0)), (0, .ref a)]) hx hb dX2_withdrawFailing_1 rfl hl (by decide) rfl (fun ls hl => ?_)
  refine lv_aload_n hx hb dX2_withdrawFailing_2 rfl (lv_at hl 1 rfl) ?_
  refine z_get (fs := [.ref (a + 1), .int (nI (nC d)), .ref (a + 2), .ref (a + 3), .ref (a + 4), .ref (a + 5), .ref (a + 6), .ref (a + 7), .ref (a + 8), .int (nI (nG d)), .ref (a + 9), .ref (a + 10), .int (nI (vn d))]) (ref := "CranePermits$Site") (C := RX2) (T := TX2) (N := 13) (ci := 2) (v := .int (nI (vn d))) hx hb hts i_c_X2_withdrawFailing_X2 hown hK (hP0 0 _ rfl) 12 (by decide) rfl (hts (.fieldLink RX2 55 "CranePermits$Site" "validCount" "I") (List.mem_of_getElem? (i := 1) rfl)) rfl rfl dX2_withdrawFailing_3 ?_
  refine lv_iconst (v := (nI 1)) hx hb dX2_withdrawFailing_6 (by decide) ?_
  refine lv_isub hx hb dX2_withdrawFailing_7 ?_
  refine lv_istore_n (lv' := [(2, .int ((nI (vn d)) - (nI 1))), (1, .int (nI 0)), (0, .ref a)]) hx hb dX2_withdrawFailing_8 rfl hl (by decide) rfl (fun ls hl => ?_)
  have hl := lv_repl (l' := [(2, .int (nI (vn d - 0) - nI 1)), (1, .int (nI 0)), (0, .ref a)]) hl 0 rfl (congrArg Value.int (show ((nI (vn d)) - (nI 1)) = (nI (vn d - 0) - nI 1) from rfl)) rfl
  have hl := lv_repl (l' := [(2, .int (nI (vn d - 0) - nI 1)), (1, .int (wfC d 0)), (0, .ref a)]) hl 1 rfl (congrArg Value.int (show (nI 0) = (wfC d 0) from rfl)) rfl
  refine z_loopW (S := Nat) (nL := 4) (fun (j : Nat) => vn d - j) (fun (j : Nat) => [(2, .int (nI (vn d - j) - nI 1)), (1, .int (wfC d j)), (0, .ref a)]) (fun (j : Nat) (H : Heap) (locs : List Loc) => sD D y bd a (wfD d j) ca pa pk H ∧ va_S (blk a 11) s.heap H locs ∧ (j ≤ vn d)) 0 ⟨hP, hS, by omega⟩ (lv_sub hl [0, 1, 2] rfl) ?_
  clear hl hP hS
  rintro j H1 locs ls ⟨hP, hS, hI_9⟩ hl ih_9
  have hi := hI_9
  have hz := wf_I hI hpl hi
  have hIe := hz.1
  have hpe := hz.2.1
  have hve := hz.2.2.1
  have hvi := hz.2.2.2
  obtain ⟨cs, ns, se, wi, al, re, gi, ps, ss, vs, hP0, hR, hC, hE, hT⟩ := id hP
  refine lv_iload_n hx hb dX2_withdrawFailing_9 rfl (lv_at hl 0 rfl) ?_
  refine lv_if_lt (tgt := 71) hx hb dX2_withdrawFailing_10 (by decide) (fun c10 => ?_) (fun c10 => ?_)
  · have hj0 := sv_exit (show vn d ≤ 200 by omega) hi c10
    refine lv_iload_n hx hb dX2_withdrawFailing_71 rfl (lv_at hl 1 rfl) ?_
    exact w_reti hx hb hr hlocks hS (by rw [hj0] at hP; exact hP) (by rw [hj0]) dX2_withdrawFailing_72
  · have hj1 := sv_lt hi c10
    have hl := lv_repl (l' := [(2, .int (nI (vn d - 1 - j))), (1, .int (wfC d j)), (0, .ref a)]) hl 0 rfl (by rw [sv_in hj1]) rfl
    refine lv_aload_n hx hb dX2_withdrawFailing_13 rfl (lv_at hl 2 rfl) ?_
    refine lv_iload_n hx hb dX2_withdrawFailing_14 rfl (lv_at hl 0 rfl) ?_
    refine z_callV (As := [.int (nI (vn d - 1 - j))]) (rest := []) hF hK (c_X2_validAt_in l D y bd a (wfD d j) ca pa pk (vn d - 1 - j) (hIe) ((by omega)) (by omega)) (cwV 1 hts gX2_withdrawFailing_X2_validAt rfl rfl rfl (by decide +kernel) ⟨Nat.le_of_ble_eq_true rfl, Nat.le_of_ble_eq_true rfl⟩) (z_recv (q := (RX2, TX2, 13)) hK (hP0 0 _ rfl) rfl) hP rfl hl.1 rfl (Nat.le_of_ble_eq_true rfl) dX2_withdrawFailing_15 ⟨Nat.zero_le _, Nat.zero_le _⟩ ?_
    refine lv_astore_n (lv' := [(3, .ref (pa (vx (wfD d j) (vn d - 1 - j)))), (2, .int (nI (vn d - 1 - j))), (1, .int (wfC d j)), (0, .ref a)]) hx hb dX2_withdrawFailing_18 rfl hl (by decide) rfl (fun ls hl => ?_)
    refine lv_aload_n hx hb dX2_withdrawFailing_19 rfl (lv_at hl 0 rfl) ?_
    refine lv_ifnull hx hb dX2_withdrawFailing_20 ?_
    refine lv_aload_n hx hb dX2_withdrawFailing_23 rfl (lv_at hl 3 rfl) ?_
    refine lv_aload_n hx hb dX2_withdrawFailing_24 rfl (lv_at hl 0 rfl) ?_
    refine z_get (fs := [.int (nI (vx (wfD d j) (vn d - 1 - j))), .ref (pk (vx (wfD d j) (vn d - 1 - j))), .int (pm (wfD d j) (vx (wfD d j) (vn d - 1 - j)) 1), .int (pm (wfD d j) (vx (wfD d j) (vn d - 1 - j)) 2), .int (pm (wfD d j) (vx (wfD d j) (vn d - 1 - j)) 2 / nI 10), .int (pm (wfD d j) (vx (wfD d j) (vn d - 1 - j)) 2 - pm (wfD d j) (vx (wfD d j) (vn d - 1 - j)) 2 / nI 10 * nI 10), .int (pm (wfD d j) (vx (wfD d j) (vn d - 1 - j)) 3)]) (ref := "CranePermits$Permit") (C := RX1) (T := TX1) (N := 7) (ci := 1) (v := .ref (pk (vx (wfD d j) (vn d - 1 - j)))) hx hb hts i_c_X2_withdrawFailing_X1 hown hK (hE (vx (wfD d j) (vn d - 1 - j)) (vx_in (by omega)).1).2.2.1 1 (by decide) rfl (hts (.fieldLink RX2 113 "CranePermits$Permit" "crane" "LCranePermits$Crane;") (List.mem_of_getElem? (i := 2) rfl)) rfl rfl dX2_withdrawFailing_25 ?_
    refine lv_aload_n hx hb dX2_withdrawFailing_28 rfl (lv_at hl 0 rfl) ?_
    refine z_get (fs := [.int (nI (vx (wfD d j) (vn d - 1 - j))), .ref (pk (vx (wfD d j) (vn d - 1 - j))), .int (pm (wfD d j) (vx (wfD d j) (vn d - 1 - j)) 1), .int (pm (wfD d j) (vx (wfD d j) (vn d - 1 - j)) 2), .int (pm (wfD d j) (vx (wfD d j) (vn d - 1 - j)) 2 / nI 10), .int (pm (wfD d j) (vx (wfD d j) (vn d - 1 - j)) 2 - pm (wfD d j) (vx (wfD d j) (vn d - 1 - j)) 2 / nI 10 * nI 10), .int (pm (wfD d j) (vx (wfD d j) (vn d - 1 - j)) 3)]) (ref := "CranePermits$Permit") (C := RX1) (T := TX1) (N := 7) (ci := 1) (v := .int (pm (wfD d j) (vx (wfD d j) (vn d - 1 - j)) 1)) hx hb hts i_c_X2_withdrawFailing_X1 hown hK (hE (vx (wfD d j) (vn d - 1 - j)) (vx_in (by omega)).1).2.2.1 2 (by decide) rfl (hts (.fieldLink RX2 159 "CranePermits$Permit" "night" "I") (List.mem_of_getElem? (i := 3) rfl)) rfl rfl dX2_withdrawFailing_29 ?_
    refine z_topi (z := (nI (nN (wfD d j) (vx (wfD d j) (vn d - 1 - j))))) ((hpe.nn (vx_in (by omega)).1).1) ?_
    refine z_callV (As := [.ref (pk (vx (wfD d j) (vn d - 1 - j))), .int (nI (nN (wfD d j) (vx (wfD d j) (vn d - 1 - j))))]) (rest := []) hF hK (c_X2_mustStop l D y bd a (wfD d j) ca pa pk (pk (vx (wfD d j) (vn d - 1 - j))) (pC (wfD d j) (vx (wfD d j) (vn d - 1 - j))) (nN (wfD d j) (vx (wfD d j) (vn d - 1 - j))) (hIe) ((by omega)) (hpe.nn (vx_in (by omega)).1 |>.2)) (cwV 2 hts gX2_withdrawFailing_X2_mustStop rfl rfl rfl (by decide +kernel) ⟨Nat.le_of_ble_eq_true rfl, Nat.le_of_ble_eq_true rfl⟩) (z_recv (q := (RX2, TX2, 13)) hK (hP0 0 _ rfl) rfl) ⟨hP, (hE (vx (wfD d j) (vn d - 1 - j)) (vx_in (by omega)).1).2.2.2⟩ rfl hl.1 rfl (Nat.le_of_ble_eq_true rfl) dX2_withdrawFailing_32 ⟨Nat.zero_le _, Nat.zero_le _⟩ ?_
    refine z_ifne (tgt := 56) hx hb dX2_withdrawFailing_35 (by decide) (fun c35 => ?_) (fun c35 => ?_)
    · refine lv_aload_n hx hb dX2_withdrawFailing_56 rfl (lv_at hl 3 rfl) ?_
      refine lv_aload_n hx hb dX2_withdrawFailing_57 rfl (lv_at hl 0 rfl) ?_
      refine lv_iconst (v := (nI 3)) hx hb dX2_withdrawFailing_58 (by decide) ?_
      refine w_callV (As := [.ref (pa (vx (wfD d j) (vn d - 1 - j))), .int (nI 3)]) (rest := []) hF hK (c_X2_end l D y bd a (wfD d j) ca pa pk (vx (wfD d j) (vn d - 1 - j)) (nI 3) (hIe) ((by omega)) (by omega) ((vx_in (by omega)).1) (by decide)) (cwV 2 hts gX2_withdrawFailing_X2_end rfl rfl rfl (by decide +kernel) ⟨Nat.le_of_ble_eq_true rfl, Nat.le_of_ble_eq_true rfl⟩) (z_recv (q := (RX2, TX2, 13)) hK (hP0 0 _ rfl) rfl) hP hS (fun q h => h) rfl hl.1 rfl (Nat.le_of_ble_eq_true rfl) dX2_withdrawFailing_59 ⟨Nat.zero_le _, Nat.zero_le _⟩ (fun H2 locs1 hP hz hk hS => ?_)
      have hP : sD D y bd a (upd (wfD d j) (445 + 5 * (vx (wfD d j) (vn d - 1 - j)) + 4) (nI 3)) ca pa pk H2 := hP
      clear hz hk
      refine lv_iinc (v := ((wfC d j) + 1)) (lv' := [(1, .int ((wfC d j) + 1)), (3, .ref (pa (vx (wfD d j) (vn d - 1 - j)))), (2, .int (nI (vn d - 1 - j))), (0, .ref a)]) hx hb dX2_withdrawFailing_62 hl (k := 2) rfl (rfl) (by decide) rfl (fun ls hl => ?_)
      refine lv_iinc (v := (nI (vn d - 1 - j) - nI 1)) (lv' := [(2, .int (nI (vn d - 1 - j) - nI 1)), (1, .int ((wfC d j) + 1)), (3, .ref (pa (vx (wfD d j) (vn d - 1 - j)))), (0, .ref a)]) hx hb dX2_withdrawFailing_65 hl (k := 2) rfl (inm2 _) (by decide) rfl (fun ls hl => ?_)
      refine lv_goto (tgt := 9) hx hb dX2_withdrawFailing_68 (by decide) ?_
      have hl := lv_repl (l' := [(2, .int (nI (vn d - (j + 1)) - nI 1)), (1, .int ((wfC d j) + 1)), (3, .ref (pa (vx (wfD d j) (vn d - 1 - j)))), (0, .ref a)]) hl 0 rfl (congrArg Value.int (show (nI (vn d - 1 - j) - nI 1) = (nI (vn d - (j + 1)) - nI 1) from by rw [show vn d - (j + 1) = vn d - 1 - j by omega])) rfl
      have hl := lv_repl (l' := [(2, .int (nI (vn d - (j + 1)) - nI 1)), (1, .int (wfC d (j + 1))), (3, .ref (pa (vx (wfD d j) (vn d - 1 - j)))), (0, .ref a)]) hl 1 rfl (congrArg Value.int (show ((wfC d j) + 1) = (wfC d (j + 1)) from by first | exact (wf_y (wf_t c35)).2.symm | exact (wf_y (wf_u c53)).2.symm | exact (wf_n (wf_v c35 c53)).2.symm)) rfl
      exact ih_9 (j + 1) _ _ _ (by omega) ⟨by first | (rw [(wf_y (wf_t c35)).1]; exact hP) | (rw [(wf_y (wf_u c53)).1]; exact hP) | (rw [(wf_n (wf_v c35 c53)).1]; exact hP), hS, by omega⟩ (lv_sub hl [0, 1, 3] rfl)
    · refine lv_aload_n hx hb dX2_withdrawFailing_38 rfl (lv_at hl 3 rfl) ?_
      refine lv_aload_n hx hb dX2_withdrawFailing_39 rfl (lv_at hl 0 rfl) ?_
      refine z_get (fs := [.int (nI (vx (wfD d j) (vn d - 1 - j))), .ref (pk (vx (wfD d j) (vn d - 1 - j))), .int (pm (wfD d j) (vx (wfD d j) (vn d - 1 - j)) 1), .int (pm (wfD d j) (vx (wfD d j) (vn d - 1 - j)) 2), .int (pm (wfD d j) (vx (wfD d j) (vn d - 1 - j)) 2 / nI 10), .int (pm (wfD d j) (vx (wfD d j) (vn d - 1 - j)) 2 - pm (wfD d j) (vx (wfD d j) (vn d - 1 - j)) 2 / nI 10 * nI 10), .int (pm (wfD d j) (vx (wfD d j) (vn d - 1 - j)) 3)]) (ref := "CranePermits$Permit") (C := RX1) (T := TX1) (N := 7) (ci := 1) (v := .ref (pk (vx (wfD d j) (vn d - 1 - j)))) hx hb hts i_c_X2_withdrawFailing_X1 hown hK (hE (vx (wfD d j) (vn d - 1 - j)) (vx_in (by omega)).1).2.2.1 1 (by decide) rfl (hts (.fieldLink RX2 113 "CranePermits$Permit" "crane" "LCranePermits$Crane;") (List.mem_of_getElem? (i := 2) rfl)) rfl rfl dX2_withdrawFailing_40 ?_
      refine z_get (fs := [.int (nI (pC (wfD d j) (vx (wfD d j) (vn d - 1 - j)))), .int (gr (wfD d j) (pC (wfD d j) (vx (wfD d j) (vn d - 1 - j))) 0), .int (gr (wfD d j) (pC (wfD d j) (vx (wfD d j) (vn d - 1 - j))) 1), .int (gr (wfD d j) (pC (wfD d j) (vx (wfD d j) (vn d - 1 - j))) 2), .int (gr (wfD d j) (pC (wfD d j) (vx (wfD d j) (vn d - 1 - j))) 3), .int (gr (wfD d j) (pC (wfD d j) (vx (wfD d j) (vn d - 1 - j))) 4), .ref ((pk (vx (wfD d j) (vn d - 1 - j))) + 1)]) (ref := "CranePermits$Crane") (C := RX0) (T := TX0) (N := 7) (ci := 0) (v := .int (gr (wfD d j) (pC (wfD d j) (vx (wfD d j) (vn d - 1 - j))) 4)) hx hb hts i_c_X2_withdrawFailing_X0 hown hK (hE (vx (wfD d j) (vn d - 1 - j)) (vx_in (by omega)).1).2.2.2.1 5 (by decide) rfl (hts (.fieldLink RX2 174 "CranePermits$Crane" "street" "I") (List.mem_of_getElem? (i := 4) rfl)) rfl rfl dX2_withdrawFailing_43 ?_
      refine z_topi (z := (nI (sC (wfD d j) (pC (wfD d j) (vx (wfD d j) (vn d - 1 - j)))))) (hIe.sc (hIe.pcn (vx_in (by omega)).1)) ?_
      refine lv_aload_n hx hb dX2_withdrawFailing_46 rfl (lv_at hl 0 rfl) ?_
      refine z_get (fs := [.int (nI (vx (wfD d j) (vn d - 1 - j))), .ref (pk (vx (wfD d j) (vn d - 1 - j))), .int (pm (wfD d j) (vx (wfD d j) (vn d - 1 - j)) 1), .int (pm (wfD d j) (vx (wfD d j) (vn d - 1 - j)) 2), .int (pm (wfD d j) (vx (wfD d j) (vn d - 1 - j)) 2 / nI 10), .int (pm (wfD d j) (vx (wfD d j) (vn d - 1 - j)) 2 - pm (wfD d j) (vx (wfD d j) (vn d - 1 - j)) 2 / nI 10 * nI 10), .int (pm (wfD d j) (vx (wfD d j) (vn d - 1 - j)) 3)]) (ref := "CranePermits$Permit") (C := RX1) (T := TX1) (N := 7) (ci := 1) (v := .int (pm (wfD d j) (vx (wfD d j) (vn d - 1 - j)) 1)) hx hb hts i_c_X2_withdrawFailing_X1 hown hK (hE (vx (wfD d j) (vn d - 1 - j)) (vx_in (by omega)).1).2.2.1 2 (by decide) rfl (hts (.fieldLink RX2 159 "CranePermits$Permit" "night" "I") (List.mem_of_getElem? (i := 3) rfl)) rfl rfl dX2_withdrawFailing_47 ?_
      refine z_topi (z := (nI (nN (wfD d j) (vx (wfD d j) (vn d - 1 - j))))) ((hpe.nn (vx_in (by omega)).1).1) ?_
      refine z_callV (As := [.int (nI (sC (wfD d j) (pC (wfD d j) (vx (wfD d j) (vn d - 1 - j))))), .int (nI (nN (wfD d j) (vx (wfD d j) (vn d - 1 - j))))]) (rest := []) hF hK (c_X2_freeOf l D y bd a (wfD d j) ca pa pk (sC (wfD d j) (pC (wfD d j) (vx (wfD d j) (vn d - 1 - j)))) (nN (wfD d j) (vx (wfD d j) (vn d - 1 - j))) (hIe) ((by omega)) (hIe.sc4 (hIe.pcn (vx_in (by omega)).1)) (hpe.nn (vx_in (by omega)).1 |>.2)) (cwV 2 hts gX2_withdrawFailing_X2_freeOf rfl rfl rfl (by decide +kernel) ⟨Nat.le_of_ble_eq_true rfl, Nat.le_of_ble_eq_true rfl⟩) (z_recv (q := (RX2, TX2, 13)) hK (hP0 0 _ rfl) rfl) hP rfl hl.1 rfl (Nat.le_of_ble_eq_true rfl) dX2_withdrawFailing_50 ⟨Nat.zero_le _, Nat.zero_le _⟩ ?_
      refine lv_if_ge (tgt := 65) hx hb dX2_withdrawFailing_53 (by decide) (fun c53 => ?_) (fun c53 => ?_)
      · refine lv_iinc (v := (nI (vn d - 1 - j) - nI 1)) (lv' := [(2, .int (nI (vn d - 1 - j) - nI 1)), (3, .ref (pa (vx (wfD d j) (vn d - 1 - j)))), (1, .int (wfC d j)), (0, .ref a)]) hx hb dX2_withdrawFailing_65 hl (k := 1) rfl (inm2 _) (by decide) rfl (fun ls hl => ?_)
        refine lv_goto (tgt := 9) hx hb dX2_withdrawFailing_68 (by decide) ?_
        have hl := lv_repl (l' := [(2, .int (nI (vn d - (j + 1)) - nI 1)), (3, .ref (pa (vx (wfD d j) (vn d - 1 - j)))), (1, .int (wfC d j)), (0, .ref a)]) hl 0 rfl (congrArg Value.int (show (nI (vn d - 1 - j) - nI 1) = (nI (vn d - (j + 1)) - nI 1) from by rw [show vn d - (j + 1) = vn d - 1 - j by omega])) rfl
        have hl := lv_repl (l' := [(2, .int (nI (vn d - (j + 1)) - nI 1)), (3, .ref (pa (vx (wfD d j) (vn d - 1 - j)))), (1, .int (wfC d (j + 1))), (0, .ref a)]) hl 2 rfl (congrArg Value.int (show (wfC d j) = (wfC d (j + 1)) from by first | exact (wf_y (wf_t c35)).2.symm | exact (wf_y (wf_u c53)).2.symm | exact (wf_n (wf_v c35 c53)).2.symm)) rfl
        exact ih_9 (j + 1) _ _ _ (by omega) ⟨by first | (rw [(wf_y (wf_t c35)).1]; exact hP) | (rw [(wf_y (wf_u c53)).1]; exact hP) | (rw [(wf_n (wf_v c35 c53)).1]; exact hP), hS, by omega⟩ (lv_sub hl [0, 2, 3] rfl)
      · refine lv_aload_n hx hb dX2_withdrawFailing_56 rfl (lv_at hl 3 rfl) ?_
        refine lv_aload_n hx hb dX2_withdrawFailing_57 rfl (lv_at hl 0 rfl) ?_
        refine lv_iconst (v := (nI 3)) hx hb dX2_withdrawFailing_58 (by decide) ?_
        refine w_callV (As := [.ref (pa (vx (wfD d j) (vn d - 1 - j))), .int (nI 3)]) (rest := []) hF hK (c_X2_end l D y bd a (wfD d j) ca pa pk (vx (wfD d j) (vn d - 1 - j)) (nI 3) (hIe) ((by omega)) (by omega) ((vx_in (by omega)).1) (by decide)) (cwV 2 hts gX2_withdrawFailing_X2_end rfl rfl rfl (by decide +kernel) ⟨Nat.le_of_ble_eq_true rfl, Nat.le_of_ble_eq_true rfl⟩) (z_recv (q := (RX2, TX2, 13)) hK (hP0 0 _ rfl) rfl) hP hS (fun q h => h) rfl hl.1 rfl (Nat.le_of_ble_eq_true rfl) dX2_withdrawFailing_59 ⟨Nat.zero_le _, Nat.zero_le _⟩ (fun H3 locs1 hP hz hk hS => ?_)
        have hP : sD D y bd a (upd (wfD d j) (445 + 5 * (vx (wfD d j) (vn d - 1 - j)) + 4) (nI 3)) ca pa pk H3 := hP
        clear hz hk
        refine lv_iinc (v := ((wfC d j) + 1)) (lv' := [(1, .int ((wfC d j) + 1)), (3, .ref (pa (vx (wfD d j) (vn d - 1 - j)))), (2, .int (nI (vn d - 1 - j))), (0, .ref a)]) hx hb dX2_withdrawFailing_62 hl (k := 2) rfl (rfl) (by decide) rfl (fun ls hl => ?_)
        refine lv_iinc (v := (nI (vn d - 1 - j) - nI 1)) (lv' := [(2, .int (nI (vn d - 1 - j) - nI 1)), (1, .int ((wfC d j) + 1)), (3, .ref (pa (vx (wfD d j) (vn d - 1 - j)))), (0, .ref a)]) hx hb dX2_withdrawFailing_65 hl (k := 2) rfl (inm2 _) (by decide) rfl (fun ls hl => ?_)
        refine lv_goto (tgt := 9) hx hb dX2_withdrawFailing_68 (by decide) ?_
        have hl := lv_repl (l' := [(2, .int (nI (vn d - (j + 1)) - nI 1)), (1, .int ((wfC d j) + 1)), (3, .ref (pa (vx (wfD d j) (vn d - 1 - j)))), (0, .ref a)]) hl 0 rfl (congrArg Value.int (show (nI (vn d - 1 - j) - nI 1) = (nI (vn d - (j + 1)) - nI 1) from by rw [show vn d - (j + 1) = vn d - 1 - j by omega])) rfl
        have hl := lv_repl (l' := [(2, .int (nI (vn d - (j + 1)) - nI 1)), (1, .int (wfC d (j + 1))), (3, .ref (pa (vx (wfD d j) (vn d - 1 - j)))), (0, .ref a)]) hl 1 rfl (congrArg Value.int (show ((wfC d j) + 1) = (wfC d (j + 1)) from by first | exact (wf_y (wf_t c35)).2.symm | exact (wf_y (wf_u c53)).2.symm | exact (wf_n (wf_v c35 c53)).2.symm)) rfl
        exact ih_9 (j + 1) _ _ _ (by omega) ⟨by first | (rw [(wf_y (wf_t c35)).1]; exact hP) | (rw [(wf_y (wf_u c53)).1]; exact hP) | (rw [(wf_n (wf_v c35 c53)).1]; exact hP), hS, by omega⟩ (lv_sub hl [0, 1, 3] rfl)
