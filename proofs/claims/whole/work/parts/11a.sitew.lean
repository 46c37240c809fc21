/-! THE CLASS: sites: writing -/
def addH (d d' : Nat → Int32) (v : Int32) : Prop := nC d' = nC d + 1 ∧ (∀ c k, c < nC d → k < 6 → gr d' c k = gr d c k) ∧ gr d' (nC d) 5 = v ∧ (∀ i, 1 ≤ i → i < 4 → d' i = d i) ∧ (∀ i, 52 ≤ i → i < 443 → d' i = d i) ∧ (∀ i, 445 ≤ i → d' i = d i)
theorem vL_cong {d d' : Nat → Int32} (h1 : nG d' = nG d) (h2 : ∀ p, p < nG d → pm d' p 4 = pm d p 4) : vL d' = vL d := by
  unfold vL
  rw [h1]
  refine List.filter_congr (fun p hp => ?_)
  rw [h2 p (List.mem_range.mp hp)]
theorem vn_cong {d d' : Nat → Int32} (h : vL d' = vL d) : vn d' = vn d := by unfold vn; rw [h]
theorem vx_cong {d d' : Nat → Int32} (h : vL d' = vL d) (i : Nat) : vx d' i = vx d i := by unfold vx; rw [h]
theorem add_done {D : va_G} {y : zY} {bd a q : Nat} {A : Nat → Prop} {H0 H : Heap} {locs : List Loc} {d d' : Nat → Int32} {v : Int32} {ca pa pk : Nat → Nat} {cs : Nat → Option Nat} {ns se wi al re gi : Nat → Int32} {ps : Nat → Option Nat} {ss : Nat → Int32} {vs : Nat → Option Nat} (hd : addH d d' v) (hI : zI d) (hn : nC d < 8) (hS : va_S A H0 H locs) (hA : ∀ q, bd ≤ q → q < H0.size → ¬ A q) (hP : va_P D vwCl (sWs y a (va_up cs (nC d) (some q)) (nI (nC d + 1)) (upd ns (nC d) v) se wi al re gi ps (nI (nG d)) ss vs (nI (vn d))) H) (hR : sR d ca pa cs ns se wi al re gi ps ss vs) (hC : ∀ c, c < nC d → bd ≤ ca c ∧ crA D y (ca c) c d H0) (hE : ∀ p, p < nG d → bd ≤ pa p ∧ bd ≤ pk p ∧ peA D y (pa p) p (pk p) d H0) (hT : sT D bd cs ps vs H0) (hq : bd ≤ q) (hcr : crA D y q (nC d) d' H0) : sD D y bd a d' (va_up ca (nC d) q) pa pk H := by
  obtain ⟨h1, h2, h3, h4, h5, h6⟩ := hd
  have g1 : nG d' = nG d := by unfold nG; rw [h5 442 (by decide) (by decide)]
  have g2 : ∀ p k, pm d' p k = pm d p k := fun p k => h6 _ (by omega)
  have hL := vL_cong g1 (fun p _ => g2 p 4)
  obtain ⟨r1, r2, r3, r4, r5, r6, r7, r8, r9, r10⟩ := hR
  refine sD_mk hS hA hP (by rw [h1]) (by rw [g1]) (by rw [vn_cong hL]) ⟨fun c hc => ?_, fun c hc => ?_, fun i hi => ?_, fun i hi => ?_, fun i hi => ?_, fun i hi => ?_, fun i hi => ?_, fun p hp => ?_, fun p hp => ?_, fun i hi => ?_⟩ (fun c hc => ?_) (fun p hp => ?_) ⟨fun i z hz => ?_, hT.2⟩
  · by_cases e : c = nC d
    · subst e; rw [va_up_self, va_up_self]
    · rw [va_up_ne _ _ e, va_up_ne _ _ e]; exact r1 c (by omega)
  · by_cases e : c = nC d
    · subst e; rw [h3]; simp [upd]
    · rw [h2 c 5 (by omega) (by decide), ← r2 c (by omega)]; simp [upd, e]
  · rw [h4 _ (by omega) (by omega)]; exact r3 i hi
  · rw [h5 _ (by omega) (by omega)]; exact r4 i hi
  · rw [h5 _ (by omega) (by omega)]; exact r5 i hi
  · rw [h5 _ (by omega) (by omega)]; exact r6 i hi
  · rw [h5 _ (by omega) (by omega)]; exact r7 i hi
  · exact r8 p (by omega)
  · rw [g2]; exact r9 p (by omega)
  · rw [vn_cong hL] at hi; rw [vx_cong hL]; exact r10 i hi
  · by_cases e : c = nC d
    · subst e; rw [va_up_self]; exact ⟨hq, hcr⟩
    · rw [va_up_ne _ _ e]; exact ⟨(hC c (by omega)).1, (hC c (by omega)).2.cong (fun k hk => h2 c k (by omega) hk)⟩
  · have hp' : p < nG d := by omega
    exact ⟨(hE p hp').1, (hE p hp').2.1, (hE p hp').2.2.cong (fun k _ => g2 p k) (fun k hk => h2 _ k (hI.pcn hp') hk)⟩
  · rcases up_some hz with e | e
    · subst e; exact ⟨hq, _, hcr.1⟩
    · exact hT.1 i z e
def graH (d d' : Nat → Int32) : Prop := nG d' = nG d + 1 ∧ (∀ i, i < 442 → d' i = d i) ∧ (∀ p k, p < nG d → k < 5 → pm d' p k = pm d p k) ∧ pm d' (nG d) 4 = nI 1
theorem vL_gra {d d' : Nat → Int32} (h : graH d d') : vL d' = vL d ++ [nG d] := by
  obtain ⟨h1, -, h3, h4⟩ := h
  unfold vL
  rw [h1, List.range_succ, List.filter_append]
  congr 1
  · refine List.filter_congr (fun p hp => ?_)
    rw [h3 p 4 (List.mem_range.mp hp) (by decide)]
  · simp [h4]
theorem gra_vn {d d' : Nat → Int32} (h : graH d d') : vn d' = vn d + 1 := by unfold vn; rw [vL_gra h, List.length_append]; rfl
theorem gra_vx {d d' : Nat → Int32} (h : graH d d') {i : Nat} (hi : i < vn d) : vx d' i = vx d i := by unfold vx; rw [vL_gra h]; exact getD_app_l hi
theorem gra_vl {d d' : Nat → Int32} (h : graH d d') : vx d' (vn d) = nG d := by unfold vx vn; rw [vL_gra h]; exact getD_app_r
theorem gra_done {D : va_G} {y : zY} {bd a q cq : Nat} {A : Nat → Prop} {H0 H : Heap} {locs : List Loc} {d d' : Nat → Int32} {ca pa pk : Nat → Nat} {cs : Nat → Option Nat} {ns se wi al re gi : Nat → Int32} {ps : Nat → Option Nat} {ss : Nat → Int32} {vs : Nat → Option Nat} (hd : graH d d') (hI : zI d) (hn : nG d < 200) (hv : vn d < 24) (hS : va_S A H0 H locs) (hA : ∀ q, bd ≤ q → q < H0.size → ¬ A q) (hP : va_P D vwCl (sWs y a cs (nI (nC d)) ns se wi al re gi (va_up ps (nG d) (some q)) (nI (nG d + 1)) (upd ss (nG d) (nI 1)) (va_up vs (vn d) (some q)) (nI (vn d + 1))) H) (hR : sR d ca pa cs ns se wi al re gi ps ss vs) (hC : ∀ c, c < nC d → bd ≤ ca c ∧ crA D y (ca c) c d H0) (hE : ∀ p, p < nG d → bd ≤ pa p ∧ bd ≤ pk p ∧ peA D y (pa p) p (pk p) d H0) (hT : sT D bd cs ps vs H0) (hq : bd ≤ q) (hq2 : bd ≤ cq) (hpe : peA D y q (nG d) cq d' H0) : sD D y bd a d' ca (va_up pa (nG d) q) (va_up pk (nG d) cq) H := by
  have hd0 := hd
  obtain ⟨h1, h2, h3, h4⟩ := hd
  have g1 : nC d' = nC d := by unfold nC; rw [h2 0 (by decide)]
  have h8 := hI.nc8
  have g2 : ∀ c k, c < 8 → k < 6 → gr d' c k = gr d c k := fun c k hc hk => h2 _ (by omega)
  obtain ⟨r1, r2, r3, r4, r5, r6, r7, r8, r9, r10⟩ := hR
  refine sD_mk hS hA hP (by rw [g1]) (by rw [h1]) (by rw [gra_vn hd0]) ⟨fun c hc => ?_, fun c hc => ?_, fun i hi => ?_, fun i hi => ?_, fun i hi => ?_, fun i hi => ?_, fun i hi => ?_, fun p hp => ?_, fun p hp => ?_, fun i hi => ?_⟩ (fun c hc => ?_) (fun p hp => ?_) ⟨hT.1, fun i z hz => ?_, fun i z hz => ?_⟩
  · exact r1 c (by omega)
  · rw [g2 c 5 (by omega) (by decide)]; exact r2 c (by omega)
  · rw [h2 _ (by omega)]; exact r3 i hi
  · rw [h2 _ (by omega)]; exact r4 i hi
  · rw [h2 _ (by omega)]; exact r5 i hi
  · rw [h2 _ (by omega)]; exact r6 i hi
  · rw [h2 _ (by omega)]; exact r7 i hi
  · by_cases e : p = nG d
    · subst e; rw [va_up_self, va_up_self]
    · rw [va_up_ne _ _ e, va_up_ne _ _ e]; exact r8 p (by omega)
  · by_cases e : p = nG d
    · subst e; rw [h4]; simp [upd]
    · rw [h3 p 4 (by omega) (by decide), ← r9 p (by omega)]; simp [upd, e]
  · rw [gra_vn hd0] at hi
    by_cases e : i = vn d
    · subst e; rw [va_up_self, gra_vl hd0, va_up_self]
    · rw [va_up_ne _ _ e, gra_vx hd0 (by omega), r10 i (by omega), va_up_ne _ _ (Nat.ne_of_lt (vx_in (by omega)).1)]
  · exact ⟨(hC c (by omega)).1, (hC c (by omega)).2.cong (fun k hk => g2 c k (by omega) hk)⟩
  · by_cases e : p = nG d
    · subst e; rw [va_up_self, va_up_self]; exact ⟨hq, hq2, hpe⟩
    · rw [va_up_ne _ _ e, va_up_ne _ _ e]
      have hp' : p < nG d := by omega
      exact ⟨(hE p hp').1, (hE p hp').2.1, (hE p hp').2.2.cong (fun k hk => h3 p k hp' (by omega)) (fun k hk => g2 _ k (hI.pc8 hp') hk)⟩
  · rcases up_some hz with e | e
    · subst e; exact ⟨hq, _, hpe.1⟩
    · exact hT.2.1 i z e
  · rcases up_some hz with e | e
    · subst e; exact ⟨hq, _, hpe.1⟩
    · exact hT.2.2 i z e
/-! the valid permits behind an end -/
def keK (d : Nat → Int32) (p : Nat) : Nat → Nat
  | 0 => 0
  | i + 1 => if vx d i = p then keK d p i else keK d p i + 1
def keV (d : Nat → Int32) (p : Nat) (pa : Nat → Nat) (vs : Nat → Option Nat) : Nat → Nat → Option Nat
  | 0 => vs
  | i + 1 => if vx d i = p then keV d p pa vs i else va_up (keV d p pa vs i) (keK d p i) (some (pa (vx d i)))
theorem keK_le (d : Nat → Int32) (p : Nat) : ∀ i, keK d p i ≤ i
  | 0 => Nat.le_refl _
  | i + 1 => by
    have := keK_le d p i
    rw [keK]
    split <;> omega
theorem ke_y {d : Nat → Int32} {p i : Nat} {pa : Nat → Nat} {vs : Nat → Option Nat} (h : vx d i = p) : keK d p (i + 1) = keK d p i ∧ keV d p pa vs (i + 1) = keV d p pa vs i := ⟨by rw [keK, if_pos h], by rw [keV, if_pos h]⟩
theorem ke_n {d : Nat → Int32} {p i : Nat} {pa : Nat → Nat} {vs : Nat → Option Nat} (h : ¬ vx d i = p) : keK d p (i + 1) = keK d p i + 1 ∧ keV d p pa vs (i + 1) = va_up (keV d p pa vs i) (keK d p i) (some (pa (vx d i))) := ⟨by rw [keK, if_neg h], by rw [keV, if_neg h]⟩
theorem ke_hi (d : Nat → Int32) (p : Nat) (pa : Nat → Nat) (vs : Nat → Option Nat) : ∀ i j, i ≤ j → keV d p pa vs i j = vs j
  | 0, _, _ => rfl
  | i + 1, j, h => by
    have := keK_le d p i
    rw [keV]
    split
    · exact ke_hi d p pa vs i j (by omega)
    · rw [va_up_ne _ _ (by omega)]; exact ke_hi d p pa vs i j (by omega)
theorem ke_at {d : Nat → Int32} {p i : Nat} (pa : Nat → Nat) {vs : Nat → Option Nat} (h : ∀ i, i < vn d → vs i = some (pa (vx d i))) (hi : i < vn d) : keV d p pa vs i i = some (pa (vx d i)) := (ke_hi d p pa vs i i (Nat.le_refl _)).trans (h i hi)
theorem ke_L (d : Nat → Int32) (p : Nat) (pa : Nat → Nat) (vs : Nat → Option Nat) : ∀ i, i ≤ vn d → keK d p i = (((vL d).take i).filter (fun x => decide (¬ x = p))).length ∧ ∀ j, j < keK d p i → keV d p pa vs i j = some (pa ((((vL d).take i).filter (fun x => decide (¬ x = p))).getD j 0))
  | 0, _ => ⟨rfl, fun j hj => absurd hj (Nat.not_lt_zero j)⟩
  | i + 1, h => by
    obtain ⟨a, b⟩ := ke_L d p pa vs i (by omega)
    have e : (vL d).take (i + 1) = (vL d).take i ++ [vx d i] := by
      have hl : i < (vL d).length := h
      rw [List.take_succ_eq_append_getElem hl]
      congr 2
      unfold vx
      rw [List.getD_eq_getElem?_getD, List.getElem?_eq_getElem hl]
      rfl
    rw [e, List.filter_append]
    by_cases q : vx d i = p
    · rw [show List.filter (fun x => decide (¬ x = p)) [vx d i] = [] by simp [q], List.append_nil, (ke_y (pa := pa) (vs := vs) q).1, (ke_y q).2]
      exact ⟨a, b⟩
    · rw [show List.filter (fun x => decide (¬ x = p)) [vx d i] = [vx d i] by simp [q], (ke_n (pa := pa) (vs := vs) q).1, (ke_n q).2]
      refine ⟨by rw [List.length_append, ← a]; rfl, fun j hj => ?_⟩
      by_cases e : j = keK d p i
      · subst e
        rw [va_up_self]
        have := @getD_app_r (((vL d).take i).filter (fun x => decide (¬ x = p))) (vx d i)
        rw [← a] at this
        rw [this]
      · rw [va_up_ne _ _ e, b j (by omega), getD_app_l (by omega)]
theorem ke_or {d : Nat → Int32} {p : Nat} {pa : Nat → Nat} {vs : Nat → Option Nat} {q : Nat} : ∀ i j, keV d p pa vs i j = some q → (∃ j, vs j = some q) ∨ ∃ k, k < i ∧ q = pa (vx d k)
  | 0, j, h => Or.inl ⟨j, h⟩
  | i + 1, j, h => by
    rw [keV] at h
    split at h
    · rcases ke_or i j h with e | ⟨k, e1, e2⟩
      · exact Or.inl e
      · exact Or.inr ⟨k, by omega, e2⟩
    · rcases up_some h with e | e
      · exact Or.inr ⟨i, by omega, e⟩
      · rcases ke_or i j e with e | ⟨k, e1, e2⟩
        · exact Or.inl e
        · exact Or.inr ⟨k, by omega, e2⟩
def endD (d : Nat → Int32) (p : Nat) (v : Int32) : Nat → Int32 := upd d (445 + 5 * p + 4) v
theorem endD_ne {d : Nat → Int32} {p : Nat} {v : Int32} {i : Nat} (h : i ≠ 445 + 5 * p + 4) : endD d p v i = d i := by unfold endD upd; rw [if_neg h]
theorem endD_g (d : Nat → Int32) (p : Nat) (v : Int32) : nG (endD d p v) = nG d ∧ nC (endD d p v) = nC d := ⟨by unfold nG; rw [endD_ne (by omega)], by unfold nC; rw [endD_ne (by omega)]⟩
theorem endD_pm (d : Nat → Int32) (p : Nat) (v : Int32) (q k : Nat) (hk : k < 5) : pm (endD d p v) q k = if q = p ∧ k = 4 then v else pm d q k := by
  unfold pm
  by_cases h : q = p ∧ k = 4
  · rw [if_pos h, h.1, h.2]; unfold endD upd; rw [if_pos rfl]
  · rw [if_neg h, endD_ne (by omega)]
theorem vL_end {d : Nat → Int32} {p : Nat} {v : Int32} (hv : ¬ v = nI 1) : vL (endD d p v) = (vL d).filter (fun x => decide (¬ x = p)) := by
  unfold vL
  rw [(endD_g d p v).1, List.filter_filter]
  refine List.filter_congr (fun q _ => ?_)
  rw [endD_pm d p v q 4 (by decide)]
  by_cases h : q = p
  · rw [if_pos ⟨h, rfl⟩, decide_eq_false hv, decide_eq_false (show ¬ ¬ q = p from fun z => z h), Bool.false_and]
  · rw [if_neg (fun z => h z.1), decide_eq_true h, Bool.true_and]
theorem end_done {D : va_G} {y : zY} {bd a p i : Nat} {A : Nat → Prop} {H0 H : Heap} {locs : List Loc} {d : Nat → Int32} {v : Int32} {ca pa pk : Nat → Nat} {cs : Nat → Option Nat} {ns se wi al re gi : Nat → Int32} {ps : Nat → Option Nat} {ss : Nat → Int32} {vs : Nat → Option Nat} (hp : p < nG d) (hv : ¬ v = nI 1) (hI : zI d) (hv24 : vn d ≤ 24) (hi : i = vn d) (hS : va_S A H0 H locs) (hA : ∀ q, bd ≤ q → q < H0.size → ¬ A q) (hP : va_P D vwCl (sWs y a cs (nI (nC d)) ns se wi al re gi ps (nI (nG d)) (upd ss p v) (keV d p pa vs i) (nI (keK d p i))) H) (hR : sR d ca pa cs ns se wi al re gi ps ss vs) (hC : ∀ c, c < nC d → bd ≤ ca c ∧ crA D y (ca c) c d H0) (hE : ∀ p, p < nG d → bd ≤ pa p ∧ bd ≤ pk p ∧ peA D y (pa p) p (pk p) d H0) (hT : sT D bd cs ps vs H0) : sD D y bd a (upd d (445 + 5 * p + 4) v) ca pa pk H := by
  show sD D y bd a (endD d p v) ca pa pk H
  subst hi
  obtain ⟨g1, g0⟩ := endD_g d p v
  have h8 := hI.nc8
  have h2 := hI.ng2
  obtain ⟨k1, k2⟩ := ke_L d p pa vs (vn d) (Nat.le_refl _)
  have hL : (vL d).take (vn d) = vL d := List.take_length
  rw [hL, ← vL_end hv] at k1 k2
  have lo : ∀ i, i < 443 → endD d p v i = d i := fun i hi => endD_ne (by omega)
  have g2 : ∀ c k, c < 8 → k < 6 → gr (endD d p v) c k = gr d c k := fun c k hc hk => lo _ (by omega)
  have g3 : ∀ q k, k < 4 → pm (endD d p v) q k = pm d q k := fun q k hk => by rw [endD_pm d p v q k (by omega), if_neg (fun z => by omega)]
  obtain ⟨r1, r2, r3, r4, r5, r6, r7, r8, r9, r10⟩ := hR
  refine sD_mk hS hA hP (by rw [g0]) (by rw [g1]) (by rw [k1]; rfl) ⟨fun c hc => ?_, fun c hc => ?_, fun i hi => ?_, fun i hi => ?_, fun i hi => ?_, fun i hi => ?_, fun i hi => ?_, fun p hp => ?_, fun q hq => ?_, fun i hi => ?_⟩ (fun c hc => ?_) (fun q hq => ?_) ⟨hT.1, hT.2.1, fun i z hz => ?_⟩
  · exact r1 c (by omega)
  · rw [g2 c 5 (by omega) (by decide)]; exact r2 c (by omega)
  · rw [lo _ (by omega)]; exact r3 i hi
  · rw [lo _ (by omega)]; exact r4 i hi
  · rw [lo _ (by omega)]; exact r5 i hi
  · rw [lo _ (by omega)]; exact r6 i hi
  · rw [lo _ (by omega)]; exact r7 i hi
  · exact r8 p (by omega)
  · rw [endD_pm d p v q 4 (by decide)]
    by_cases e : q = p
    · subst e; rw [if_pos ⟨rfl, rfl⟩]; simp [upd]
    · rw [if_neg (fun z => e z.1), ← r9 q (by omega)]; simp [upd, e]
  · rw [k2 i (by rw [k1]; exact hi)]; rfl
  · exact ⟨(hC c (by omega)).1, (hC c (by omega)).2.cong (fun k hk => g2 c k (by omega) hk)⟩
  · have hq' : q < nG d := by omega
    exact ⟨(hE q hq').1, (hE q hq').2.1, (hE q hq').2.2.cong (fun k hk => g3 q k hk) (fun k hk => g2 _ k (hI.pc8 hq') hk)⟩
  · rcases ke_or _ _ hz with ⟨j, e⟩ | ⟨k, e1, e2⟩
    · exact hT.2.2 j z e
    · subst e2
      exact ⟨(hE _ (vx_in e1).1).1, _, (hE _ (vx_in e1).1).2.2.1⟩
set_option maxRecDepth 100000 in
set_option maxHeartbeats 4000000 in
theorem c_X4_put (l : Launch) (D : va_G) (y : zY) (r : Nat) (n : Nat) (f : Nat → Int32) (i : Nat) (v : Int32) (hi : i < n) (hn : n < 2147483648) : Met l yX4_put wsX4_put ({ frames := 0, cells := 0, slots := 0, locals := 0 }) (zP [.ref r, .int (nI i), .int v] (va_P D vwCl (pWs y r n f)) D y) (zW none (va_P D vwCl (pWs y r n (upd f i v))) (fun q => q = r)) 0 0 (fun q => q = r) := by
  refine z_body (cc := cX4_put) (maxL := 3) (ret := none) (la := [(0, .ref r), (1, .int (nI i)), (2, .int v)]) (by decide) rfl (Nat.le_of_ble_eq_true rfl) rfl ?_
  intro pg ev s mm below meth c0 ls hx hb hr hF hlocks hΦ hK hl _
  have hts := hF.2.2.2.2
  have hown : s.vm.findClass RX4 = some mm.cls := hF.2.2.2.1
  have hP : va_P D vwCl (pWs y r n f) s.heap := hΦ
  have hS : va_S (fun q => q = r) s.heap s.heap [] := va_S.rf
  refine lv_iload_n hx hb dX4_put_0 rfl (lv_at hl 1 rfl) ?_
  refine n_if_lt (tgt := 14) hx hb (by omega) dX4_put_1 (by decide) ?_
  refine lv_iload_n hx hb dX4_put_4 rfl (lv_at hl 1 rfl) ?_
  refine lv_aload_n hx hb dX4_put_5 rfl (lv_at hl 0 rfl) ?_
  refine z_alen 0 (n := n) hx hb hK rfl (hP 0 _ rfl) rfl dX4_put_6 ?_
  refine z_ge (tgt := 14) hx hb (by omega) (by omega) dX4_put_7 (by decide) (fun c7 => ?_) (fun c7 => ?_)
  · exact absurd c7 (by omega)
  · refine lv_aload_n hx hb dX4_put_10 rfl (lv_at hl 0 rfl) ?_
    refine lv_iload_n hx hb dX4_put_11 rfl (lv_at hl 1 rfl) ?_
    refine lv_iload_n hx hb dX4_put_12 rfl (lv_at hl 2 rfl) ?_
    refine y_iast (a := r) (f := f) (i := i) hx hb hK (hP 0 _ rfl) (by omega) (by omega) dX4_put_13 (fun H1 hU hV => ?_)
    have hS := hS.upd (x := i) hU (rfl)
    have hP : va_P D vwCl (pWs y r n (upd f i v)) H1 := hP.upd (q0 := 0) pWs_D rfl hU hV
    clear hU hV
    exact w_retv hx hb hr hlocks hS (hP) dX4_put_14
theorem i_c_X2_addCrane_X2 : ∀ w ∈ wsX20, w ∈ wsX2_addCrane := fun w h => (List.mem_cons_of_mem _ (List.mem_append_right _ h))
set_option maxRecDepth 100000 in
set_option maxHeartbeats 4000000 in
theorem c_X2_addCrane (l : Launch) (D : va_G) (y : zY) (bd : Nat) (a : Nat) (d : Nat → Int32) (ca : Nat → Nat) (pa : Nat → Nat) (pk : Nat → Nat) (q : Nat) (d' : Nat → Int32) (v : Int32) (hI : zI d) (hv24 : vn d ≤ 24) (hbd : a + 11 ≤ bd) (hn : nC d < 8) (hq : bd ≤ q) (hd : addH d d' v) : Met l yX2_addCrane wsX2_addCrane ({ frames := 1, cells := 0, slots := 0, locals := 22 }) (zP [.ref a, .ref q, .int v] (fun H => sD D y bd a d ca pa pk H ∧ crA D y q (nC d) d' H) D y) (zW none (fun H => sD D y bd a d' (va_up ca (nC d) q) pa pk H) (blk a 11)) 0 0 (blk a 11) := by
  refine z_body (cc := cX2_addCrane) (maxL := 3) (ret := none) (la := [(0, .ref a), (1, .ref q), (2, .int v)]) (by decide) rfl (Nat.le_of_ble_eq_true rfl) rfl ?_
  intro pg ev s mm below meth c0 ls hx hb hr hF hlocks hΦ hK hl _
  have hts := hF.2.2.2.2
  have hown : s.vm.findClass RX2 = some mm.cls := hF.2.2.2.1
  have hS : va_S (blk a 11) s.heap s.heap [] := va_S.rf
  have hG2 := hI.ng2
  have hC8 := hI.nc8
  have hAb : ∀ q, bd ≤ q → q < s.heap.size → ¬ blk a 11 q := fun q h _ => blk_no hbd h
  obtain ⟨cs, ns, se, wi, al, re, gi, ps, ss, vs, hP, hR, hC, hE, hT⟩ := hΦ.1
  refine lv_aload_n hx hb dX2_addCrane_0 rfl (lv_at hl 0 rfl) ?_
  refine z_get (fs := [.ref (a + 1), .int (nI (nC d)), .ref (a + 2), .ref (a + 3), .ref (a + 4), .ref (a + 5), .ref (a + 6), .ref (a + 7), .ref (a + 8), .int (nI (nG d)), .ref (a + 9), .ref (a + 10), .int (nI (vn d))]) (ref := "CranePermits$Site") (C := RX2) (T := TX2) (N := 13) (ci := 2) (v := .int (nI (nC d))) hx hb hts i_c_X2_addCrane_X2 hown hK (hP 0 _ rfl) 1 (by decide) rfl (hts (.fieldLink RX2 17 "CranePermits$Site" "craneCount" "I") (List.mem_of_getElem? (i := 1) rfl)) rfl rfl dX2_addCrane_1 ?_
  refine n_if_lt (tgt := 51) hx hb (by omega) dX2_addCrane_4 (by decide) ?_
  refine lv_aload_n hx hb dX2_addCrane_7 rfl (lv_at hl 0 rfl) ?_
  refine z_get (fs := [.ref (a + 1), .int (nI (nC d)), .ref (a + 2), .ref (a + 3), .ref (a + 4), .ref (a + 5), .ref (a + 6), .ref (a + 7), .ref (a + 8), .int (nI (nG d)), .ref (a + 9), .ref (a + 10), .int (nI (vn d))]) (ref := "CranePermits$Site") (C := RX2) (T := TX2) (N := 13) (ci := 2) (v := .int (nI (nC d))) hx hb hts i_c_X2_addCrane_X2 hown hK (hP 0 _ rfl) 1 (by decide) rfl (hts (.fieldLink RX2 17 "CranePermits$Site" "craneCount" "I") (List.mem_of_getElem? (i := 1) rfl)) rfl rfl dX2_addCrane_8 ?_
  refine lv_aload_n hx hb dX2_addCrane_11 rfl (lv_at hl 0 rfl) ?_
  refine z_get (fs := [.ref (a + 1), .int (nI (nC d)), .ref (a + 2), .ref (a + 3), .ref (a + 4), .ref (a + 5), .ref (a + 6), .ref (a + 7), .ref (a + 8), .int (nI (nG d)), .ref (a + 9), .ref (a + 10), .int (nI (vn d))]) (ref := "CranePermits$Site") (C := RX2) (T := TX2) (N := 13) (ci := 2) (v := .ref (a + 1)) hx hb hts i_c_X2_addCrane_X2 hown hK (hP 0 _ rfl) 0 (by decide) rfl (hts (.fieldLink RX2 11 "CranePermits$Site" "cranes" "[LCranePermits$Crane;") (List.mem_of_getElem? (i := 2) rfl)) rfl rfl dX2_addCrane_12 ?_
  refine z_alen 3 (n := 8) hx hb hK rfl (hP 1 _ rfl) rfl dX2_addCrane_15 ?_
  refine z_ge (tgt := 51) hx hb (by omega) (by omega) dX2_addCrane_16 (by decide) (fun c16 => ?_) (fun c16 => ?_)
  · exact absurd c16 (by omega)
  · refine lv_aload_n hx hb dX2_addCrane_19 rfl (lv_at hl 0 rfl) ?_
    refine z_get (fs := [.ref (a + 1), .int (nI (nC d)), .ref (a + 2), .ref (a + 3), .ref (a + 4), .ref (a + 5), .ref (a + 6), .ref (a + 7), .ref (a + 8), .int (nI (nG d)), .ref (a + 9), .ref (a + 10), .int (nI (vn d))]) (ref := "CranePermits$Site") (C := RX2) (T := TX2) (N := 13) (ci := 2) (v := .ref (a + 1)) hx hb hts i_c_X2_addCrane_X2 hown hK (hP 0 _ rfl) 0 (by decide) rfl (hts (.fieldLink RX2 11 "CranePermits$Site" "cranes" "[LCranePermits$Crane;") (List.mem_of_getElem? (i := 2) rfl)) rfl rfl dX2_addCrane_20 ?_
    refine lv_aload_n hx hb dX2_addCrane_23 rfl (lv_at hl 0 rfl) ?_
    refine z_get (fs := [.ref (a + 1), .int (nI (nC d)), .ref (a + 2), .ref (a + 3), .ref (a + 4), .ref (a + 5), .ref (a + 6), .ref (a + 7), .ref (a + 8), .int (nI (nG d)), .ref (a + 9), .ref (a + 10), .int (nI (vn d))]) (ref := "CranePermits$Site") (C := RX2) (T := TX2) (N := 13) (ci := 2) (v := .int (nI (nC d))) hx hb hts i_c_X2_addCrane_X2 hown hK (hP 0 _ rfl) 1 (by decide) rfl (hts (.fieldLink RX2 17 "CranePermits$Site" "craneCount" "I") (List.mem_of_getElem? (i := 1) rfl)) rfl rfl dX2_addCrane_24 ?_
    refine lv_aload_n hx hb dX2_addCrane_27 rfl (lv_at hl 1 rfl) ?_
    refine y_aast (a := (a + 1)) (k := 3) (f := cs) (i := (nC d)) (v := q) hx hb hK rfl (hP 1 _ rfl) (recv_S (z_recv (q := (RX0, TX0, 7)) hK hΦ.2.1 rfl) hS (blk_no hbd hq)) (by omega) (by omega) dX2_addCrane_28 (fun H1 hU hV => ?_)
    have hS := hS.upd (x := (nC d)) hU (blk_in (by omega) (by omega))
    have hP : va_P D vwCl (sWs y a (va_up cs (nC d) (some q)) (nI (nC d)) ns se wi al re gi ps (nI (nG d)) ss vs (nI (vn d))) H1 := hP.upd (q0 := 1) sWs_D rfl hU hV
    clear hU hV
    refine lv_aload_n hx hb dX2_addCrane_29 rfl (lv_at hl 0 rfl) ?_
    refine z_get (fs := [.ref (a + 1), .int (nI (nC d)), .ref (a + 2), .ref (a + 3), .ref (a + 4), .ref (a + 5), .ref (a + 6), .ref (a + 7), .ref (a + 8), .int (nI (nG d)), .ref (a + 9), .ref (a + 10), .int (nI (vn d))]) (ref := "CranePermits$Site") (C := RX2) (T := TX2) (N := 13) (ci := 2) (v := .ref (a + 2)) hx hb hts i_c_X2_addCrane_X2 hown hK (hP 0 _ rfl) 2 (by decide) rfl (hts (.fieldLink RX2 21 "CranePermits$Site" "noises" "[I") (List.mem_of_getElem? (i := 3) rfl)) rfl rfl dX2_addCrane_30 ?_
    refine lv_aload_n hx hb dX2_addCrane_33 rfl (lv_at hl 0 rfl) ?_
    refine z_get (fs := [.ref (a + 1), .int (nI (nC d)), .ref (a + 2), .ref (a + 3), .ref (a + 4), .ref (a + 5), .ref (a + 6), .ref (a + 7), .ref (a + 8), .int (nI (nG d)), .ref (a + 9), .ref (a + 10), .int (nI (vn d))]) (ref := "CranePermits$Site") (C := RX2) (T := TX2) (N := 13) (ci := 2) (v := .int (nI (nC d))) hx hb hts i_c_X2_addCrane_X2 hown hK (hP 0 _ rfl) 1 (by decide) rfl (hts (.fieldLink RX2 17 "CranePermits$Site" "craneCount" "I") (List.mem_of_getElem? (i := 1) rfl)) rfl rfl dX2_addCrane_34 ?_
    refine lv_iload_n hx hb dX2_addCrane_37 rfl (lv_at hl 2 rfl) ?_
    refine w_callN (As := [.ref (a + 2), .int (nI (nC d)), .int v]) (rest := []) hF hK (c_X4_put l D y (a + 2) 8 ns (nC d) v (by omega) (by omega)) ⟨va_cnB 3 hts gX2_addCrane_X4_put_n80 rfl rfl rfl hK.2.2.1 (hts (.initialized RX4) (List.mem_of_getElem? (i := 5) rfl)) (by decide +kernel) ⟨Nat.le_of_ble_eq_true rfl, Nat.le_of_ble_eq_true rfl⟩, (hts (.static yX4_put) (List.mem_of_getElem? (i := 4) rfl)), trivial⟩ (pw_P (hP 2 _ rfl)) hS (fun q h => by rw [show q = a + 2 from h]; exact blk_in (by omega) (by omega)) rfl hl.1 rfl (Nat.le_of_ble_eq_true rfl) dX2_addCrane_38 ⟨Nat.zero_le _, Nat.zero_le _⟩ (fun H2 locs1 hP1 hz hk hS => ?_)
    have hP : va_P D vwCl (sWs y a (va_up cs (nC d) (some q)) (nI (nC d)) (upd ns (nC d) v) se wi al re gi ps (nI (nG d)) ss vs (nI (vn d))) H2 := hP.callset (q0 := 2) sWs_D rfl hk (hP1 0 _ rfl)
    clear hP1 hz hk
    refine lv_aload_n hx hb dX2_addCrane_41 rfl (lv_at hl 0 rfl) ?_
    refine lv_dup hx hb dX2_addCrane_42 rfl ?_
    refine z_get (fs := [.ref (a + 1), .int (nI (nC d)), .ref (a + 2), .ref (a + 3), .ref (a + 4), .ref (a + 5), .ref (a + 6), .ref (a + 7), .ref (a + 8), .int (nI (nG d)), .ref (a + 9), .ref (a + 10), .int (nI (vn d))]) (ref := "CranePermits$Site") (C := RX2) (T := TX2) (N := 13) (ci := 2) (v := .int (nI (nC d))) hx hb hts i_c_X2_addCrane_X2 hown hK (hP 0 _ rfl) 1 (by decide) rfl (hts (.fieldLink RX2 17 "CranePermits$Site" "craneCount" "I") (List.mem_of_getElem? (i := 1) rfl)) rfl rfl dX2_addCrane_43 ?_
    refine lv_iconst (v := (nI 1)) hx hb dX2_addCrane_46 (by decide) ?_
    refine z_iadd hx hb dX2_addCrane_47 ?_
    refine y_put (a := a) (fs := [.ref (a + 1), .int (nI (nC d)), .ref (a + 2), .ref (a + 3), .ref (a + 4), .ref (a + 5), .ref (a + 6), .ref (a + 7), .ref (a + 8), .int (nI (nG d)), .ref (a + 9), .ref (a + 10), .int (nI (vn d))]) (ref := "CranePermits$Site") (C := RX2) (T := TX2) (N := 13) (ci := 2) (v := .int (nI ((nC d) + 1))) (ty := .int) hx hb hts i_c_X2_addCrane_X2 tyX2 tyX2_ok nmX2 hown hK (hP 0 _ rfl) 1 (by decide) rfl (hts (.fieldLink RX2 17 "CranePermits$Site" "craneCount" "I") (List.mem_of_getElem? (i := 1) rfl)) rfl rfl (by decide +kernel) (rfl) rfl (Nat.le_of_ble_eq_true rfl) dX2_addCrane_48 (fun H3 x1 hU hV => ?_)
    have hS := hS.upd (x := x1) hU (blk_in (by omega) (by omega))
    have hP : va_P D vwCl (sWs y a (va_up cs (nC d) (some q)) (nI ((nC d) + 1)) (upd ns (nC d) v) se wi al re gi ps (nI (nG d)) ss vs (nI (vn d))) H3 := hP.upd (q0 := 0) sWs_D rfl hU hV
    clear hU hV
    exact w_retv hx hb hr hlocks hS (add_done hd hI hn hS hAb hP hR hC hE hT hq hΦ.2) dX2_addCrane_51
theorem i_c_X2_grant_X2 : ∀ w ∈ wsX20, w ∈ wsX2_grant := fun w h => (List.mem_cons_of_mem _ (List.mem_append_right _ h))
set_option maxRecDepth 100000 in
set_option maxHeartbeats 4000000 in
theorem c_X2_grant (l : Launch) (D : va_G) (y : zY) (bd : Nat) (a : Nat) (d : Nat → Int32) (ca : Nat → Nat) (pa : Nat → Nat) (pk : Nat → Nat) (q : Nat) (cq : Nat) (d' : Nat → Int32) (hI : zI d) (hv24 : vn d ≤ 24) (hbd : a + 11 ≤ bd) (hn : nG d < 200) (hv : vn d < 24) (hq : bd ≤ q) (hq2 : bd ≤ cq) (hd : graH d d') : Met l yX2_grant wsX2_grant ({ frames := 1, cells := 0, slots := 0, locals := 22 }) (zP [.ref a, .ref q] (fun H => sD D y bd a d ca pa pk H ∧ peA D y q (nG d) cq d' H) D y) (zW none (fun H => sD D y bd a d' ca (va_up pa (nG d) q) (va_up pk (nG d) cq) H) (blk a 11)) 0 0 (blk a 11) := by
  refine z_body (cc := cX2_grant) (maxL := 2) (ret := none) (la := [(0, .ref a), (1, .ref q)]) (by decide) rfl (Nat.le_of_ble_eq_true rfl) rfl ?_
  intro pg ev s mm below meth c0 ls hx hb hr hF hlocks hΦ hK hl _
  have hts := hF.2.2.2.2
  have hown : s.vm.findClass RX2 = some mm.cls := hF.2.2.2.1
  have hS : va_S (blk a 11) s.heap s.heap [] := va_S.rf
  have hG2 := hI.ng2
  have hC8 := hI.nc8
  have hAb : ∀ q, bd ≤ q → q < s.heap.size → ¬ blk a 11 q := fun q h _ => blk_no hbd h
  obtain ⟨cs, ns, se, wi, al, re, gi, ps, ss, vs, hP, hR, hC, hE, hT⟩ := hΦ.1
  refine lv_aload_n hx hb dX2_grant_0 rfl (lv_at hl 0 rfl) ?_
  refine z_get (fs := [.ref (a + 1), .int (nI (nC d)), .ref (a + 2), .ref (a + 3), .ref (a + 4), .ref (a + 5), .ref (a + 6), .ref (a + 7), .ref (a + 8), .int (nI (nG d)), .ref (a + 9), .ref (a + 10), .int (nI (vn d))]) (ref := "CranePermits$Site") (C := RX2) (T := TX2) (N := 13) (ci := 2) (v := .int (nI (vn d))) hx hb hts i_c_X2_grant_X2 hown hK (hP 0 _ rfl) 12 (by decide) rfl (hts (.fieldLink RX2 55 "CranePermits$Site" "validCount" "I") (List.mem_of_getElem? (i := 1) rfl)) rfl rfl dX2_grant_1 ?_
  refine n_if_lt (tgt := 90) hx hb (by omega) dX2_grant_4 (by decide) ?_
  refine lv_aload_n hx hb dX2_grant_7 rfl (lv_at hl 0 rfl) ?_
  refine z_get (fs := [.ref (a + 1), .int (nI (nC d)), .ref (a + 2), .ref (a + 3), .ref (a + 4), .ref (a + 5), .ref (a + 6), .ref (a + 7), .ref (a + 8), .int (nI (nG d)), .ref (a + 9), .ref (a + 10), .int (nI (vn d))]) (ref := "CranePermits$Site") (C := RX2) (T := TX2) (N := 13) (ci := 2) (v := .int (nI (vn d))) hx hb hts i_c_X2_grant_X2 hown hK (hP 0 _ rfl) 12 (by decide) rfl (hts (.fieldLink RX2 55 "CranePermits$Site" "validCount" "I") (List.mem_of_getElem? (i := 1) rfl)) rfl rfl dX2_grant_8 ?_
  refine lv_aload_n hx hb dX2_grant_11 rfl (lv_at hl 0 rfl) ?_
  refine z_get (fs := [.ref (a + 1), .int (nI (nC d)), .ref (a + 2), .ref (a + 3), .ref (a + 4), .ref (a + 5), .ref (a + 6), .ref (a + 7), .ref (a + 8), .int (nI (nG d)), .ref (a + 9), .ref (a + 10), .int (nI (vn d))]) (ref := "CranePermits$Site") (C := RX2) (T := TX2) (N := 13) (ci := 2) (v := .ref (a + 10)) hx hb hts i_c_X2_grant_X2 hown hK (hP 0 _ rfl) 11 (by decide) rfl (hts (.fieldLink RX2 52 "CranePermits$Site" "valid" "[LCranePermits$Permit;") (List.mem_of_getElem? (i := 2) rfl)) rfl rfl dX2_grant_12 ?_
  refine z_alen 4 (n := 24) hx hb hK rfl (hP 10 _ rfl) rfl dX2_grant_15 ?_
  refine z_ge (tgt := 90) hx hb (by omega) (by omega) dX2_grant_16 (by decide) (fun c16 => ?_) (fun c16 => ?_)
  · exact absurd c16 (by omega)
  · refine lv_aload_n hx hb dX2_grant_19 rfl (lv_at hl 0 rfl) ?_
    refine z_get (fs := [.ref (a + 1), .int (nI (nC d)), .ref (a + 2), .ref (a + 3), .ref (a + 4), .ref (a + 5), .ref (a + 6), .ref (a + 7), .ref (a + 8), .int (nI (nG d)), .ref (a + 9), .ref (a + 10), .int (nI (vn d))]) (ref := "CranePermits$Site") (C := RX2) (T := TX2) (N := 13) (ci := 2) (v := .int (nI (nG d))) hx hb hts i_c_X2_grant_X2 hown hK (hP 0 _ rfl) 9 (by decide) rfl (hts (.fieldLink RX2 46 "CranePermits$Site" "permitCount" "I") (List.mem_of_getElem? (i := 3) rfl)) rfl rfl dX2_grant_20 ?_
    refine n_if_lt (tgt := 90) hx hb (by omega) dX2_grant_23 (by decide) ?_
    refine lv_aload_n hx hb dX2_grant_26 rfl (lv_at hl 0 rfl) ?_
    refine z_get (fs := [.ref (a + 1), .int (nI (nC d)), .ref (a + 2), .ref (a + 3), .ref (a + 4), .ref (a + 5), .ref (a + 6), .ref (a + 7), .ref (a + 8), .int (nI (nG d)), .ref (a + 9), .ref (a + 10), .int (nI (vn d))]) (ref := "CranePermits$Site") (C := RX2) (T := TX2) (N := 13) (ci := 2) (v := .int (nI (nG d))) hx hb hts i_c_X2_grant_X2 hown hK (hP 0 _ rfl) 9 (by decide) rfl (hts (.fieldLink RX2 46 "CranePermits$Site" "permitCount" "I") (List.mem_of_getElem? (i := 3) rfl)) rfl rfl dX2_grant_27 ?_
    refine lv_aload_n hx hb dX2_grant_30 rfl (lv_at hl 0 rfl) ?_
    refine z_get (fs := [.ref (a + 1), .int (nI (nC d)), .ref (a + 2), .ref (a + 3), .ref (a + 4), .ref (a + 5), .ref (a + 6), .ref (a + 7), .ref (a + 8), .int (nI (nG d)), .ref (a + 9), .ref (a + 10), .int (nI (vn d))]) (ref := "CranePermits$Site") (C := RX2) (T := TX2) (N := 13) (ci := 2) (v := .ref (a + 8)) hx hb hts i_c_X2_grant_X2 hown hK (hP 0 _ rfl) 8 (by decide) rfl (hts (.fieldLink RX2 42 "CranePermits$Site" "permits" "[LCranePermits$Permit;") (List.mem_of_getElem? (i := 4) rfl)) rfl rfl dX2_grant_31 ?_
    refine z_alen 4 (n := 200) hx hb hK rfl (hP 8 _ rfl) rfl dX2_grant_34 ?_
    refine z_ge (tgt := 90) hx hb (by omega) (by omega) dX2_grant_35 (by decide) (fun c35 => ?_) (fun c35 => ?_)
    · exact absurd c35 (by omega)
    · refine lv_aload_n hx hb dX2_grant_38 rfl (lv_at hl 0 rfl) ?_
      refine z_get (fs := [.ref (a + 1), .int (nI (nC d)), .ref (a + 2), .ref (a + 3), .ref (a + 4), .ref (a + 5), .ref (a + 6), .ref (a + 7), .ref (a + 8), .int (nI (nG d)), .ref (a + 9), .ref (a + 10), .int (nI (vn d))]) (ref := "CranePermits$Site") (C := RX2) (T := TX2) (N := 13) (ci := 2) (v := .ref (a + 8)) hx hb hts i_c_X2_grant_X2 hown hK (hP 0 _ rfl) 8 (by decide) rfl (hts (.fieldLink RX2 42 "CranePermits$Site" "permits" "[LCranePermits$Permit;") (List.mem_of_getElem? (i := 4) rfl)) rfl rfl dX2_grant_39 ?_
      refine lv_aload_n hx hb dX2_grant_42 rfl (lv_at hl 0 rfl) ?_
      refine z_get (fs := [.ref (a + 1), .int (nI (nC d)), .ref (a + 2), .ref (a + 3), .ref (a + 4), .ref (a + 5), .ref (a + 6), .ref (a + 7), .ref (a + 8), .int (nI (nG d)), .ref (a + 9), .ref (a + 10), .int (nI (vn d))]) (ref := "CranePermits$Site") (C := RX2) (T := TX2) (N := 13) (ci := 2) (v := .int (nI (nG d))) hx hb hts i_c_X2_grant_X2 hown hK (hP 0 _ rfl) 9 (by decide) rfl (hts (.fieldLink RX2 46 "CranePermits$Site" "permitCount" "I") (List.mem_of_getElem? (i := 3) rfl)) rfl rfl dX2_grant_43 ?_
      refine lv_aload_n hx hb dX2_grant_46 rfl (lv_at hl 1 rfl) ?_
      refine y_aast (a := (a + 8)) (k := 4) (f := ps) (i := (nG d)) (v := q) hx hb hK rfl (hP 8 _ rfl) (recv_S (z_recv (q := (RX1, TX1, 7)) hK hΦ.2.1 rfl) hS (blk_no hbd hq)) (by omega) (by omega) dX2_grant_47 (fun H1 hU hV => ?_)
      have hS := hS.upd (x := (nG d)) hU (blk_in (by omega) (by omega))
      have hP : va_P D vwCl (sWs y a cs (nI (nC d)) ns se wi al re gi (va_up ps (nG d) (some q)) (nI (nG d)) ss vs (nI (vn d))) H1 := hP.upd (q0 := 8) sWs_D rfl hU hV
      clear hU hV
      refine lv_aload_n hx hb dX2_grant_48 rfl (lv_at hl 0 rfl) ?_
      refine z_get (fs := [.ref (a + 1), .int (nI (nC d)), .ref (a + 2), .ref (a + 3), .ref (a + 4), .ref (a + 5), .ref (a + 6), .ref (a + 7), .ref (a + 8), .int (nI (nG d)), .ref (a + 9), .ref (a + 10), .int (nI (vn d))]) (ref := "CranePermits$Site") (C := RX2) (T := TX2) (N := 13) (ci := 2) (v := .ref (a + 9)) hx hb hts i_c_X2_grant_X2 hown hK (hP 0 _ rfl) 10 (by decide) rfl (hts (.fieldLink RX2 49 "CranePermits$Site" "states" "[I") (List.mem_of_getElem? (i := 5) rfl)) rfl rfl dX2_grant_49 ?_
      refine lv_aload_n hx hb dX2_grant_52 rfl (lv_at hl 0 rfl) ?_
      refine z_get (fs := [.ref (a + 1), .int (nI (nC d)), .ref (a + 2), .ref (a + 3), .ref (a + 4), .ref (a + 5), .ref (a + 6), .ref (a + 7), .ref (a + 8), .int (nI (nG d)), .ref (a + 9), .ref (a + 10), .int (nI (vn d))]) (ref := "CranePermits$Site") (C := RX2) (T := TX2) (N := 13) (ci := 2) (v := .int (nI (nG d))) hx hb hts i_c_X2_grant_X2 hown hK (hP 0 _ rfl) 9 (by decide) rfl (hts (.fieldLink RX2 46 "CranePermits$Site" "permitCount" "I") (List.mem_of_getElem? (i := 3) rfl)) rfl rfl dX2_grant_53 ?_
      refine lv_iconst (v := (nI 1)) hx hb dX2_grant_56 (by decide) ?_
      refine w_callN (As := [.ref (a + 9), .int (nI (nG d)), .int (nI 1)]) (rest := []) hF hK (c_X4_put l D y (a + 9) 200 ss (nG d) (nI 1) (by omega) (by omega)) ⟨va_cnB 3 hts gX2_grant_X4_put_n80 rfl rfl rfl hK.2.2.1 (hts (.initialized RX4) (List.mem_of_getElem? (i := 7) rfl)) (by decide +kernel) ⟨Nat.le_of_ble_eq_true rfl, Nat.le_of_ble_eq_true rfl⟩, (hts (.static yX4_put) (List.mem_of_getElem? (i := 6) rfl)), trivial⟩ (pw_P (hP 9 _ rfl)) hS (fun q h => by rw [show q = a + 9 from h]; exact blk_in (by omega) (by omega)) rfl hl.1 rfl (Nat.le_of_ble_eq_true rfl) dX2_grant_57 ⟨Nat.zero_le _, Nat.zero_le _⟩ (fun H2 locs1 hP1 hz hk hS => ?_)
      have hP : va_P D vwCl (sWs y a cs (nI (nC d)) ns se wi al re gi (va_up ps (nG d) (some q)) (nI (nG d)) (upd ss (nG d) (nI 1)) vs (nI (vn d))) H2 := hP.callset (q0 := 9) sWs_D rfl hk (hP1 0 _ rfl)
      clear hP1 hz hk
      refine lv_aload_n hx hb dX2_grant_60 rfl (lv_at hl 0 rfl) ?_
      refine lv_dup hx hb dX2_grant_61 rfl ?_
      refine z_get (fs := [.ref (a + 1), .int (nI (nC d)), .ref (a + 2), .ref (a + 3), .ref (a + 4), .ref (a + 5), .ref (a + 6), .ref (a + 7), .ref (a + 8), .int (nI (nG d)), .ref (a + 9), .ref (a + 10), .int (nI (vn d))]) (ref := "CranePermits$Site") (C := RX2) (T := TX2) (N := 13) (ci := 2) (v := .int (nI (nG d))) hx hb hts i_c_X2_grant_X2 hown hK (hP 0 _ rfl) 9 (by decide) rfl (hts (.fieldLink RX2 46 "CranePermits$Site" "permitCount" "I") (List.mem_of_getElem? (i := 3) rfl)) rfl rfl dX2_grant_62 ?_
      refine lv_iconst (v := (nI 1)) hx hb dX2_grant_65 (by decide) ?_
      refine z_iadd hx hb dX2_grant_66 ?_
      refine y_put (a := a) (fs := [.ref (a + 1), .int (nI (nC d)), .ref (a + 2), .ref (a + 3), .ref (a + 4), .ref (a + 5), .ref (a + 6), .ref (a + 7), .ref (a + 8), .int (nI (nG d)), .ref (a + 9), .ref (a + 10), .int (nI (vn d))]) (ref := "CranePermits$Site") (C := RX2) (T := TX2) (N := 13) (ci := 2) (v := .int (nI ((nG d) + 1))) (ty := .int) hx hb hts i_c_X2_grant_X2 tyX2 tyX2_ok nmX2 hown hK (hP 0 _ rfl) 9 (by decide) rfl (hts (.fieldLink RX2 46 "CranePermits$Site" "permitCount" "I") (List.mem_of_getElem? (i := 3) rfl)) rfl rfl (by decide +kernel) (rfl) rfl (Nat.le_of_ble_eq_true rfl) dX2_grant_67 (fun H3 x1 hU hV => ?_)
      have hS := hS.upd (x := x1) hU (blk_in (by omega) (by omega))
      have hP : va_P D vwCl (sWs y a cs (nI (nC d)) ns se wi al re gi (va_up ps (nG d) (some q)) (nI ((nG d) + 1)) (upd ss (nG d) (nI 1)) vs (nI (vn d))) H3 := hP.upd (q0 := 0) sWs_D rfl hU hV
      clear hU hV
      refine lv_aload_n hx hb dX2_grant_70 rfl (lv_at hl 0 rfl) ?_
      refine z_get (fs := [.ref (a + 1), .int (nI (nC d)), .ref (a + 2), .ref (a + 3), .ref (a + 4), .ref (a + 5), .ref (a + 6), .ref (a + 7), .ref (a + 8), .int (nI ((nG d) + 1)), .ref (a + 9), .ref (a + 10), .int (nI (vn d))]) (ref := "CranePermits$Site") (C := RX2) (T := TX2) (N := 13) (ci := 2) (v := .ref (a + 10)) hx hb hts i_c_X2_grant_X2 hown hK (hP 0 _ rfl) 11 (by decide) rfl (hts (.fieldLink RX2 52 "CranePermits$Site" "valid" "[LCranePermits$Permit;") (List.mem_of_getElem? (i := 2) rfl)) rfl rfl dX2_grant_71 ?_
      refine lv_aload_n hx hb dX2_grant_74 rfl (lv_at hl 0 rfl) ?_
      refine z_get (fs := [.ref (a + 1), .int (nI (nC d)), .ref (a + 2), .ref (a + 3), .ref (a + 4), .ref (a + 5), .ref (a + 6), .ref (a + 7), .ref (a + 8), .int (nI ((nG d) + 1)), .ref (a + 9), .ref (a + 10), .int (nI (vn d))]) (ref := "CranePermits$Site") (C := RX2) (T := TX2) (N := 13) (ci := 2) (v := .int (nI (vn d))) hx hb hts i_c_X2_grant_X2 hown hK (hP 0 _ rfl) 12 (by decide) rfl (hts (.fieldLink RX2 55 "CranePermits$Site" "validCount" "I") (List.mem_of_getElem? (i := 1) rfl)) rfl rfl dX2_grant_75 ?_
      refine lv_aload_n hx hb dX2_grant_78 rfl (lv_at hl 1 rfl) ?_
      refine y_aast (a := (a + 10)) (k := 4) (f := vs) (i := (vn d)) (v := q) hx hb hK rfl (hP 10 _ rfl) (recv_S (z_recv (q := (RX1, TX1, 7)) hK hΦ.2.1 rfl) hS (blk_no hbd hq)) (by omega) (by omega) dX2_grant_79 (fun H4 hU hV => ?_)
      have hS := hS.upd (x := (vn d)) hU (blk_in (by omega) (by omega))
      have hP : va_P D vwCl (sWs y a cs (nI (nC d)) ns se wi al re gi (va_up ps (nG d) (some q)) (nI ((nG d) + 1)) (upd ss (nG d) (nI 1)) (va_up vs (vn d) (some q)) (nI (vn d))) H4 := hP.upd (q0 := 10) sWs_D rfl hU hV
      clear hU hV
      refine lv_aload_n hx hb dX2_grant_80 rfl (lv_at hl 0 rfl) ?_
      refine lv_dup hx hb dX2_grant_81 rfl ?_
      refine z_get (fs := [.ref (a + 1), .int (nI (nC d)), .ref (a + 2), .ref (a + 3), .ref (a + 4), .ref (a + 5), .ref (a + 6), .ref (a + 7), .ref (a + 8), .int (nI ((nG d) + 1)), .ref (a + 9), .ref (a + 10), .int (nI (vn d))]) (ref := "CranePermits$Site") (C := RX2) (T := TX2) (N := 13) (ci := 2) (v := .int (nI (vn d))) hx hb hts i_c_X2_grant_X2 hown hK (hP 0 _ rfl) 12 (by decide) rfl (hts (.fieldLink RX2 55 "CranePermits$Site" "validCount" "I") (List.mem_of_getElem? (i := 1) rfl)) rfl rfl dX2_grant_82 ?_
      refine lv_iconst (v := (nI 1)) hx hb dX2_grant_85 (by decide) ?_
      refine z_iadd hx hb dX2_grant_86 ?_
      refine y_put (a := a) (fs := [.ref (a + 1), .int (nI (nC d)), .ref (a + 2), .ref (a + 3), .ref (a + 4), .ref (a + 5), .ref (a + 6), .ref (a + 7), .ref (a + 8), .int (nI ((nG d) + 1)), .ref (a + 9), .ref (a + 10), .int (nI (vn d))]) (ref := "CranePermits$Site") (C := RX2) (T := TX2) (N := 13) (ci := 2) (v := .int (nI ((vn d) + 1))) (ty := .int) hx hb hts i_c_X2_grant_X2 tyX2 tyX2_ok nmX2 hown hK (hP 0 _ rfl) 12 (by decide) rfl (hts (.fieldLink RX2 55 "CranePermits$Site" "validCount" "I") (List.mem_of_getElem? (i := 1) rfl)) rfl rfl (by decide +kernel) (rfl) rfl (Nat.le_of_ble_eq_true rfl) dX2_grant_87 (fun H5 x1 hU hV => ?_)
      have hS := hS.upd (x := x1) hU (blk_in (by omega) (by omega))
      have hP : va_P D vwCl (sWs y a cs (nI (nC d)) ns se wi al re gi (va_up ps (nG d) (some q)) (nI ((nG d) + 1)) (upd ss (nG d) (nI 1)) (va_up vs (vn d) (some q)) (nI ((vn d) + 1))) H5 := hP.upd (q0 := 0) sWs_D rfl hU hV
      clear hU hV
      exact w_retv hx hb hr hlocks hS (gra_done hd hI hn hv hS hAb hP hR hC hE hT hq hq2 hΦ.2) dX2_grant_90
theorem i_c_X2_validAt_v_X2 : ∀ w ∈ wsX20, w ∈ wsX2_validAt := fun w h => (List.mem_cons_of_mem _ (List.mem_append_right _ h))
set_option maxRecDepth 100000 in
set_option maxHeartbeats 4000000 in
theorem c_X2_validAt_v (l : Launch) (D : va_G) (y : zY) (a : Nat) (d : Nat → Int32) (cs : Nat → Option Nat) (ns : Nat → Int32) (se : Nat → Int32) (wi : Nat → Int32) (al : Nat → Int32) (re : Nat → Int32) (gi : Nat → Int32) (ps : Nat → Option Nat) (ss : Nat → Int32) (vs : Nat → Option Nat) (i : Nat) (r : Nat) (hc : i < vn d) (hv24 : vn d ≤ 24) (hvr : vs i = some r) : Met l yX2_validAt wsX2_validAt ({ frames := 0, cells := 0, slots := 0, locals := 0 }) (zP [.ref a, .int (nI i)] (fun H => va_P D vwCl (sWs y a cs (nI (nC d)) ns se wi al re gi ps (nI (nG d)) ss vs (nI (vn d))) H) D y) (zQ (some (.ref r))) 0 0 nofree := by
  refine z_body (cc := cX2_validAt) (maxL := 3) (ret := (some (.object "CranePermits$Permit"))) (la := [(0, .ref a), (1, .int (nI i))]) (by decide) rfl (Nat.le_of_ble_eq_true rfl) rfl ?_
  intro pg ev s mm below meth c0 ls hx hb hr hF hlocks hΦ hK hl _
  have hts := hF.2.2.2.2
  have hown : s.vm.findClass RX2 = some mm.cls := hF.2.2.2.1
  have hP : va_P D vwCl (sWs y a cs (nI (nC d)) ns se wi al re gi ps (nI (nG d)) ss vs (nI (vn d))) s.heap := hΦ
  refine lv_iload_n hx hb dX2_validAt_0 rfl (lv_at hl 1 rfl) ?_
  refine n_if_lt (tgt := 25) hx hb (by omega) dX2_validAt_1 (by decide) ?_
  refine lv_iload_n hx hb dX2_validAt_4 rfl (lv_at hl 1 rfl) ?_
  refine lv_aload_n hx hb dX2_validAt_5 rfl (lv_at hl 0 rfl) ?_
  refine z_get (fs := [.ref (a + 1), .int (nI (nC d)), .ref (a + 2), .ref (a + 3), .ref (a + 4), .ref (a + 5), .ref (a + 6), .ref (a + 7), .ref (a + 8), .int (nI (nG d)), .ref (a + 9), .ref (a + 10), .int (nI (vn d))]) (ref := "CranePermits$Site") (C := RX2) (T := TX2) (N := 13) (ci := 2) (v := .int (nI (vn d))) hx hb hts i_c_X2_validAt_v_X2 hown hK (hP 0 _ rfl) 12 (by decide) rfl (hts (.fieldLink RX2 55 "CranePermits$Site" "validCount" "I") (List.mem_of_getElem? (i := 1) rfl)) rfl rfl dX2_validAt_6 ?_
  refine z_ge (tgt := 25) hx hb (by omega) (by omega) dX2_validAt_9 (by decide) (fun c9 => ?_) (fun c9 => ?_)
  · exact absurd c9 (by omega)
  · refine lv_iload_n hx hb dX2_validAt_12 rfl (lv_at hl 1 rfl) ?_
    refine lv_aload_n hx hb dX2_validAt_13 rfl (lv_at hl 0 rfl) ?_
    refine z_get (fs := [.ref (a + 1), .int (nI (nC d)), .ref (a + 2), .ref (a + 3), .ref (a + 4), .ref (a + 5), .ref (a + 6), .ref (a + 7), .ref (a + 8), .int (nI (nG d)), .ref (a + 9), .ref (a + 10), .int (nI (vn d))]) (ref := "CranePermits$Site") (C := RX2) (T := TX2) (N := 13) (ci := 2) (v := .ref (a + 10)) hx hb hts i_c_X2_validAt_v_X2 hown hK (hP 0 _ rfl) 11 (by decide) rfl (hts (.fieldLink RX2 52 "CranePermits$Site" "valid" "[LCranePermits$Permit;") (List.mem_of_getElem? (i := 2) rfl)) rfl rfl dX2_validAt_14 ?_
    refine z_alen 4 (n := 24) hx hb hK rfl (hP 10 _ rfl) rfl dX2_validAt_17 ?_
    refine z_ge (tgt := 25) hx hb (by omega) (by omega) dX2_validAt_18 (by decide) (fun c18 => ?_) (fun c18 => ?_)
    · exact absurd c18 (by omega)
    · refine lv_iconst (v := (nI 1)) hx hb dX2_validAt_21 (by decide) ?_
      refine lv_goto (tgt := 26) hx hb dX2_validAt_22 (by decide) ?_
      refine lv_istore_n (lv' := [(2, .int (nI 1)), (0, .ref a), (1, .int (nI i))]) hx hb dX2_validAt_26 rfl hl (by decide) rfl (fun ls hl => ?_)
      refine lv_iload_n hx hb dX2_validAt_27 rfl (lv_at hl 0 rfl) ?_
      refine n_if_eq (tgt := 40) hx hb (by omega) dX2_validAt_28 (by decide) (fun c => absurd c (by decide)) (fun _ => ?_)
      refine lv_aload_n hx hb dX2_validAt_31 rfl (lv_at hl 1 rfl) ?_
      refine z_get (fs := [.ref (a + 1), .int (nI (nC d)), .ref (a + 2), .ref (a + 3), .ref (a + 4), .ref (a + 5), .ref (a + 6), .ref (a + 7), .ref (a + 8), .int (nI (nG d)), .ref (a + 9), .ref (a + 10), .int (nI (vn d))]) (ref := "CranePermits$Site") (C := RX2) (T := TX2) (N := 13) (ci := 2) (v := .ref (a + 10)) hx hb hts i_c_X2_validAt_v_X2 hown hK (hP 0 _ rfl) 11 (by decide) rfl (hts (.fieldLink RX2 52 "CranePermits$Site" "valid" "[LCranePermits$Permit;") (List.mem_of_getElem? (i := 2) rfl)) rfl rfl dX2_validAt_32 ?_
      refine lv_iload_n hx hb dX2_validAt_35 rfl (lv_at hl 2 rfl) ?_
      refine z_aald (k := 4) (f := vs) (r := r) hx hb hK rfl (hP 10 _ rfl) (by omega) (by decide) (hvr) dX2_validAt_36 ?_
      refine lv_goto (tgt := 41) hx hb dX2_validAt_37 (by decide) ?_
      exact z_reta (r := some (r)) hx hb hr hlocks rfl (rfl) dX2_validAt_41
theorem i_c_X2_end_X2 : ∀ w ∈ wsX20, w ∈ wsX2_end := fun w h => (List.mem_cons_of_mem _ (List.mem_append_left _ (List.mem_append_right _ h)))
theorem i_c_X2_end_X1 : ∀ w ∈ wsX10, w ∈ wsX2_end := fun w h => (List.mem_cons_of_mem _ (List.mem_append_right _ h))
set_option maxRecDepth 100000 in
set_option maxHeartbeats 4000000 in
theorem c_X2_end (l : Launch) (D : va_G) (y : zY) (bd : Nat) (a : Nat) (d : Nat → Int32) (ca : Nat → Nat) (pa : Nat → Nat) (pk : Nat → Nat) (p : Nat) (v : Int32) (hI : zI d) (hv24 : vn d ≤ 24) (hbd : a + 11 ≤ bd) (hp : p < nG d) (hv : ¬ v = nI 1) : Met l yX2_end wsX2_end ({ frames := 1, cells := 0, slots := 0, locals := 22 }) (zP [.ref a, .ref (pa p), .int v] (fun H => sD D y bd a d ca pa pk H) D y) (zW none (fun H => sD D y bd a (upd d (445 + 5 * p + 4) v) ca pa pk H) (blk a 11)) 0 0 (blk a 11) := by
  refine z_body (cc := cX2_end) (maxL := 6) (ret := none) (la := [(0, .ref a), (1, .ref (pa p)), (2, .int v)]) (by decide) rfl (Nat.le_of_ble_eq_true rfl) rfl ?_
  intro pg ev s mm below meth c0 ls hx hb hr hF hlocks hΦ hK hl _
  have hts := hF.2.2.2.2
  have hown : s.vm.findClass RX2 = some mm.cls := hF.2.2.2.1
  have hS : va_S (blk a 11) s.heap s.heap [] := va_S.rf
  have hG2 := hI.ng2
  have hC8 := hI.nc8
  have hAb : ∀ q, bd ≤ q → q < s.heap.size → ¬ blk a 11 q := fun q h _ => blk_no hbd h
  obtain ⟨cs, ns, se, wi, al, re, gi, ps, ss, vs, hP, hR, hC, hE, hT⟩ := id hΦ
  refine lv_aload_n hx hb dX2_end_0 rfl (lv_at hl 0 rfl) ?_
  refine z_get (fs := [.ref (a + 1), .int (nI (nC d)), .ref (a + 2), .ref (a + 3), .ref (a + 4), .ref (a + 5), .ref (a + 6), .ref (a + 7), .ref (a + 8), .int (nI (nG d)), .ref (a + 9), .ref (a + 10), .int (nI (vn d))]) (ref := "CranePermits$Site") (C := RX2) (T := TX2) (N := 13) (ci := 2) (v := .ref (a + 9)) hx hb hts i_c_X2_end_X2 hown hK (hP 0 _ rfl) 10 (by decide) rfl (hts (.fieldLink RX2 49 "CranePermits$Site" "states" "[I") (List.mem_of_getElem? (i := 1) rfl)) rfl rfl dX2_end_1 ?_
  refine lv_aload_n hx hb dX2_end_4 rfl (lv_at hl 1 rfl) ?_
  refine z_get (fs := [.int (nI p), .ref (pk p), .int (pm d p 1), .int (pm d p 2), .int (pm d p 2 / nI 10), .int (pm d p 2 - pm d p 2 / nI 10 * nI 10), .int (pm d p 3)]) (ref := "CranePermits$Permit") (C := RX1) (T := TX1) (N := 7) (ci := 1) (v := .int (nI p)) hx hb hts i_c_X2_end_X1 hown hK ((hE p (by omega)).2.2.S (hE p (by omega)).1 (hE p (by omega)).2.1 hS hAb).1 0 (by decide) rfl (hts (.fieldLink RX2 158 "CranePermits$Permit" "number" "I") (List.mem_of_getElem? (i := 2) rfl)) rfl rfl dX2_end_5 ?_
  refine lv_iload_n hx hb dX2_end_8 rfl (lv_at hl 2 rfl) ?_
  refine w_callN (As := [.ref (a + 9), .int (nI p), .int v]) (rest := []) hF hK (c_X4_put l D y (a + 9) 200 ss p v (by omega) (by omega)) ⟨va_cnB 3 hts gX2_end_X4_put_n80 rfl rfl rfl hK.2.2.1 (hts (.initialized RX4) (List.mem_of_getElem? (i := 6) rfl)) (by decide +kernel) ⟨Nat.le_of_ble_eq_true rfl, Nat.le_of_ble_eq_true rfl⟩, (hts (.static yX4_put) (List.mem_of_getElem? (i := 5) rfl)), trivial⟩ (pw_P (hP 9 _ rfl)) hS (fun q h => by rw [show q = a + 9 from h]; exact blk_in (by omega) (by omega)) rfl hl.1 rfl (Nat.le_of_ble_eq_true rfl) dX2_end_9 ⟨Nat.zero_le _, Nat.zero_le _⟩ (fun H1 locs1 hP1 hz hk hS => ?_)
  have hP : va_P D vwCl (sWs y a cs (nI (nC d)) ns se wi al re gi ps (nI (nG d)) (upd ss p v) vs (nI (vn d))) H1 := hP.callset (q0 := 9) sWs_D rfl hk (hP1 0 _ rfl)
  clear hP1 hz hk
  refine lv_iconst (v := (nI 0)) hx hb dX2_end_12 (by decide) ?_
  refine lv_istore_n (lv' := [(3, .int (nI 0)), (0, .ref a), (1, .ref (pa p)), (2, .int v)]) hx hb dX2_end_13 rfl hl (by decide) rfl (fun ls hl => ?_)
  refine lv_iconst (v := (nI 0)) hx hb dX2_end_14 (by decide) ?_
  refine lv_istore (lv' := [(4, .int (nI 0)), (3, .int (nI 0)), (0, .ref a), (1, .ref (pa p)), (2, .int v)]) hx hb dX2_end_15 hl (by decide) rfl (fun ls hl => ?_)
  have hl := lv_repl (l' := [(4, .int (nI 0)), (3, .int (nI (keK d p 0))), (0, .ref a), (1, .ref (pa p)), (2, .int v)]) hl 1 rfl (congrArg Value.int (show (nI 0) = (nI (keK d p 0)) from rfl)) rfl
  refine z_loopW (S := Nat) (nL := 6) (fun (i : Nat) => vn d - i) (fun (i : Nat) => [(4, .int (nI i)), (3, .int (nI (keK d p i))), (0, .ref a), (1, .ref (pa p)), (2, .int v)]) (fun (i : Nat) (H : Heap) (locs : List Loc) => va_P D vwCl (sWs y a cs (nI (nC d)) ns se wi al re gi ps (nI (nG d)) (upd ss p v) (keV d p pa vs i) (nI (vn d))) H ∧ va_S (blk a 11) s.heap H locs ∧ (i ≤ vn d)) 0 ⟨hP, hS, by omega⟩ (lv_sub hl [0, 1, 2, 3, 4] rfl) ?_
  clear hl hP hS
  rintro i H2 locs ls ⟨hP, hS, hI_17⟩ hl ih_17
  have hi := hI_17
  have hke := keK_le d p i
  refine lv_iload hx hb dX2_end_17 (lv_at hl 0 rfl) ?_
  refine lv_aload_n hx hb dX2_end_19 rfl (lv_at hl 2 rfl) ?_
  refine z_get (fs := [.ref (a + 1), .int (nI (nC d)), .ref (a + 2), .ref (a + 3), .ref (a + 4), .ref (a + 5), .ref (a + 6), .ref (a + 7), .ref (a + 8), .int (nI (nG d)), .ref (a + 9), .ref (a + 10), .int (nI (vn d))]) (ref := "CranePermits$Site") (C := RX2) (T := TX2) (N := 13) (ci := 2) (v := .int (nI (vn d))) hx hb hts i_c_X2_end_X2 hown hK (hP 0 _ rfl) 12 (by decide) rfl (hts (.fieldLink RX2 55 "CranePermits$Site" "validCount" "I") (List.mem_of_getElem? (i := 3) rfl)) rfl rfl dX2_end_20 ?_
  refine z_ge (tgt := 77) hx hb (by omega) (by omega) dX2_end_23 (by decide) (fun c23 => ?_) (fun c23 => ?_)
  · refine lv_aload_n hx hb dX2_end_77 rfl (lv_at hl 2 rfl) ?_
    refine lv_iload_n hx hb dX2_end_78 rfl (lv_at hl 1 rfl) ?_
    refine y_put (a := a) (fs := [.ref (a + 1), .int (nI (nC d)), .ref (a + 2), .ref (a + 3), .ref (a + 4), .ref (a + 5), .ref (a + 6), .ref (a + 7), .ref (a + 8), .int (nI (nG d)), .ref (a + 9), .ref (a + 10), .int (nI (vn d))]) (ref := "CranePermits$Site") (C := RX2) (T := TX2) (N := 13) (ci := 2) (v := .int (nI (keK d p i))) (ty := .int) hx hb hts i_c_X2_end_X2 tyX2 tyX2_ok nmX2 hown hK (hP 0 _ rfl) 12 (by decide) rfl (hts (.fieldLink RX2 55 "CranePermits$Site" "validCount" "I") (List.mem_of_getElem? (i := 3) rfl)) rfl rfl (by decide +kernel) (rfl) rfl (Nat.le_of_ble_eq_true rfl) dX2_end_79 (fun H3 x1 hU hV => ?_)
    have hS := hS.upd (x := x1) hU (blk_in (by omega) (by omega))
    have hP : va_P D vwCl (sWs y a cs (nI (nC d)) ns se wi al re gi ps (nI (nG d)) (upd ss p v) (keV d p pa vs i) (nI (keK d p i))) H3 := hP.upd (q0 := 0) sWs_D rfl hU hV
    clear hU hV
    exact w_retv hx hb hr hlocks hS (end_done hp hv hI hv24 (by omega) hS hAb hP hR hC hE hT) dX2_end_82
  · refine lv_aload_n hx hb dX2_end_26 rfl (lv_at hl 2 rfl) ?_
    refine lv_iload hx hb dX2_end_27 (lv_at hl 0 rfl) ?_
    refine z_callV (As := [.int (nI i)]) (rest := []) hF hK (c_X2_validAt_v l D y a d cs ns se wi al re gi ps (upd ss p v) (keV d p pa vs i) i (pa (vx d i)) (by omega) (hv24) (ke_at pa hR.2.2.2.2.2.2.2.2.2 (by omega))) (cwV 1 hts gX2_end_X2_validAt rfl rfl rfl (by decide +kernel) ⟨Nat.le_of_ble_eq_true rfl, Nat.le_of_ble_eq_true rfl⟩) (z_recv (q := (RX2, TX2, 13)) hK (hP 0 _ rfl) rfl) hP rfl hl.1 rfl (Nat.le_of_ble_eq_true rfl) dX2_end_29 ⟨Nat.zero_le _, Nat.zero_le _⟩ ?_
    refine lv_astore (lv' := [(5, .ref (pa (vx d i))), (4, .int (nI i)), (3, .int (nI (keK d p i))), (0, .ref a), (1, .ref (pa p)), (2, .int v)]) hx hb dX2_end_32 hl (by decide) rfl (fun ls hl => ?_)
    refine lv_aload hx hb dX2_end_34 (lv_at hl 0 rfl) ?_
    refine lv_ifnull hx hb dX2_end_36 ?_
    refine lv_aload hx hb dX2_end_39 (lv_at hl 0 rfl) ?_
    refine z_get (fs := [.int (nI (vx d i)), .ref (pk (vx d i)), .int (pm d (vx d i) 1), .int (pm d (vx d i) 2), .int (pm d (vx d i) 2 / nI 10), .int (pm d (vx d i) 2 - pm d (vx d i) 2 / nI 10 * nI 10), .int (pm d (vx d i) 3)]) (ref := "CranePermits$Permit") (C := RX1) (T := TX1) (N := 7) (ci := 1) (v := .int (nI (vx d i))) hx hb hts i_c_X2_end_X1 hown hK ((hE (vx d i) (vx_in (by omega)).1).2.2.S (hE (vx d i) (vx_in (by omega)).1).1 (hE (vx d i) (vx_in (by omega)).1).2.1 hS hAb).1 0 (by decide) rfl (hts (.fieldLink RX2 158 "CranePermits$Permit" "number" "I") (List.mem_of_getElem? (i := 2) rfl)) rfl rfl dX2_end_41 ?_
    refine lv_aload_n hx hb dX2_end_44 rfl (lv_at hl 4 rfl) ?_
    refine z_get (fs := [.int (nI p), .ref (pk p), .int (pm d p 1), .int (pm d p 2), .int (pm d p 2 / nI 10), .int (pm d p 2 - pm d p 2 / nI 10 * nI 10), .int (pm d p 3)]) (ref := "CranePermits$Permit") (C := RX1) (T := TX1) (N := 7) (ci := 1) (v := .int (nI p)) hx hb hts i_c_X2_end_X1 hown hK ((hE p (by omega)).2.2.S (hE p (by omega)).1 (hE p (by omega)).2.1 hS hAb).1 0 (by decide) rfl (hts (.fieldLink RX2 158 "CranePermits$Permit" "number" "I") (List.mem_of_getElem? (i := 2) rfl)) rfl rfl dX2_end_45 ?_
    have hx2 := (vx_in (d := d) (i := i) (by omega)).1
    refine z_eq (tgt := 71) hx hb (by omega) (by omega) dX2_end_48 (by decide) (fun c48 => ?_) (fun c48 => ?_)
    · refine lv_iinc (v := (nI (i + 1))) (lv' := [(4, .int (nI (i + 1))), (5, .ref (pa (vx d i))), (3, .int (nI (keK d p i))), (0, .ref a), (1, .ref (pa p)), (2, .int v)]) hx hb dX2_end_71 hl (k := 1) rfl (in1 _) (by decide) rfl (fun ls hl => ?_)
      refine lv_goto (tgt := 17) hx hb dX2_end_74 (by decide) ?_
      have hl := lv_repl (l' := [(4, .int (nI (i + 1))), (5, .ref (pa (vx d i))), (3, .int (nI (keK d p (i + 1)))), (0, .ref a), (1, .ref (pa p)), (2, .int v)]) hl 2 rfl (congrArg Value.int (show (nI (keK d p i)) = (nI (keK d p (i + 1))) from by first | exact congrArg nI (ke_y (pa := pa) (vs := vs) c48).1.symm | exact congrArg nI (ke_n (pa := pa) (vs := vs) c48).1.symm)) rfl
      exact ih_17 (i + 1) _ _ _ (by omega) ⟨by first | (rw [(ke_y (pa := pa) (vs := vs) c48).2]; exact hP) | (rw [(ke_n (pa := pa) (vs := vs) c48).2]; exact hP), hS, by omega⟩ (lv_sub hl [0, 2, 3, 4, 5] rfl)
    · refine lv_iload_n hx hb dX2_end_51 rfl (lv_at hl 2 rfl) ?_
      refine lv_aload_n hx hb dX2_end_52 rfl (lv_at hl 3 rfl) ?_
      refine z_get (fs := [.ref (a + 1), .int (nI (nC d)), .ref (a + 2), .ref (a + 3), .ref (a + 4), .ref (a + 5), .ref (a + 6), .ref (a + 7), .ref (a + 8), .int (nI (nG d)), .ref (a + 9), .ref (a + 10), .int (nI (vn d))]) (ref := "CranePermits$Site") (C := RX2) (T := TX2) (N := 13) (ci := 2) (v := .ref (a + 10)) hx hb hts i_c_X2_end_X2 hown hK (hP 0 _ rfl) 11 (by decide) rfl (hts (.fieldLink RX2 52 "CranePermits$Site" "valid" "[LCranePermits$Permit;") (List.mem_of_getElem? (i := 4) rfl)) rfl rfl dX2_end_53 ?_
      refine z_alen 4 (n := 24) hx hb hK rfl (hP 10 _ rfl) rfl dX2_end_56 ?_
      refine z_ge (tgt := 71) hx hb (by omega) (by omega) dX2_end_57 (by decide) (fun c57 => ?_) (fun c57 => ?_)
      · exact absurd c57 (by omega)
      · refine lv_aload_n hx hb dX2_end_60 rfl (lv_at hl 3 rfl) ?_
        refine z_get (fs := [.ref (a + 1), .int (nI (nC d)), .ref (a + 2), .ref (a + 3), .ref (a + 4), .ref (a + 5), .ref (a + 6), .ref (a + 7), .ref (a + 8), .int (nI (nG d)), .ref (a + 9), .ref (a + 10), .int (nI (vn d))]) (ref := "CranePermits$Site") (C := RX2) (T := TX2) (N := 13) (ci := 2) (v := .ref (a + 10)) hx hb hts i_c_X2_end_X2 hown hK (hP 0 _ rfl) 11 (by decide) rfl (hts (.fieldLink RX2 52 "CranePermits$Site" "valid" "[LCranePermits$Permit;") (List.mem_of_getElem? (i := 4) rfl)) rfl rfl dX2_end_61 ?_
        refine lv_iload_n hx hb dX2_end_64 rfl (lv_at hl 2 rfl) ?_
        refine lv_aload hx hb dX2_end_65 (lv_at hl 0 rfl) ?_
        refine y_aast (a := (a + 10)) (k := 4) (f := (keV d p pa vs i)) (i := (keK d p i)) (v := (pa (vx d i))) hx hb hK rfl (hP 10 _ rfl) (recv_S (z_recv (q := (RX1, TX1, 7)) hK (hE (vx d i) (vx_in (by omega)).1).2.2.1 rfl) hS (blk_no hbd (hE (vx d i) (vx_in (by omega)).1).1)) (by omega) (by omega) dX2_end_67 (fun H4 hU hV => ?_)
        have hS := hS.upd (x := (keK d p i)) hU (blk_in (by omega) (by omega))
        have hP : va_P D vwCl (sWs y a cs (nI (nC d)) ns se wi al re gi ps (nI (nG d)) (upd ss p v) (va_up (keV d p pa vs i) (keK d p i) (some (pa (vx d i)))) (nI (vn d))) H4 := hP.upd (q0 := 10) sWs_D rfl hU hV
        clear hU hV
        refine lv_iinc (v := (nI (keK d p i + 1))) (lv' := [(3, .int (nI (keK d p i + 1))), (5, .ref (pa (vx d i))), (4, .int (nI i)), (0, .ref a), (1, .ref (pa p)), (2, .int v)]) hx hb dX2_end_68 hl (k := 2) rfl (in1 _) (by decide) rfl (fun ls hl => ?_)
        refine lv_iinc (v := (nI (i + 1))) (lv' := [(4, .int (nI (i + 1))), (3, .int (nI (keK d p i + 1))), (5, .ref (pa (vx d i))), (0, .ref a), (1, .ref (pa p)), (2, .int v)]) hx hb dX2_end_71 hl (k := 2) rfl (in1 _) (by decide) rfl (fun ls hl => ?_)
        refine lv_goto (tgt := 17) hx hb dX2_end_74 (by decide) ?_
        have hl := lv_repl (l' := [(4, .int (nI (i + 1))), (3, .int (nI (keK d p (i + 1)))), (5, .ref (pa (vx d i))), (0, .ref a), (1, .ref (pa p)), (2, .int v)]) hl 1 rfl (congrArg Value.int (show (nI (keK d p i + 1)) = (nI (keK d p (i + 1))) from by first | exact congrArg nI (ke_y (pa := pa) (vs := vs) c48).1.symm | exact congrArg nI (ke_n (pa := pa) (vs := vs) c48).1.symm)) rfl
        exact ih_17 (i + 1) _ _ _ (by omega) ⟨by first | (rw [(ke_y (pa := pa) (vs := vs) c48).2]; exact hP) | (rw [(ke_n (pa := pa) (vs := vs) c48).2]; exact hP), hS, by omega⟩ (lv_sub hl [0, 1, 3, 4, 5] rfl)
