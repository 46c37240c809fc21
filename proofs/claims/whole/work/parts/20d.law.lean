/-! THE LAW: its tables of statics, its loop's world -/
theorem zZ_start {s : State} {args : Array Value} (hts : ∀ w ∈ lw_tbl, w.before args s = true) (hgv : (Jvm.Cond.and given_1 narrow_1).before args s = true) : zZ (fun q : Nat => s.heap.size ≤ q) s s.heap := by
  have hs := flat_of_before _ hgv
  have hA : ∀ a : Nat, a < s.heap.size → ¬ (fun q : Nat => s.heap.size ≤ q) a := fun a h => Nat.not_le.mpr h
  have hel : ∀ (n : String) (j : Nat) (z : Int32), (Cond.eq (.elem (.static "CranePermits" n "[I") (.int (Int32.ofNat j))) (.int z)).before args s = true → (Term.elem (.static "CranePermits" n "[I") (.int (Int32.ofNat j))).eval args s none [] s = some (.int z) := fun n j z h => va_eqt h
  obtain ⟨t1, ht1, hT1⟩ := va_Tof (args := args) (s := s) (tm := .static "CranePermits" "SETTING_LEAST" "[I") (ty := .int) (N := 3) (f := stL) (A := fun q : Nat => s.heap.size ≤ q) (by decide) (hs _ (by decide +kernel)) (va_eqt (hs _ (by decide +kernel))) (fun j hj => by
    rcases (show j = 0 ∨ j = 1 ∨ j = 2 by omega) with rfl | rfl | rfl
    · exact hel _ 0 50 (hs _ (by decide +kernel))
    · exact hel _ 1 0 (hs _ (by decide +kernel))
    · exact hel _ 2 0 (hs _ (by decide +kernel))) hA
  obtain ⟨t2, ht2, hT2⟩ := va_Tof (args := args) (s := s) (tm := .static "CranePermits" "SETTING_MOST" "[I") (ty := .int) (N := 3) (f := stM) (A := fun q : Nat => s.heap.size ≤ q) (by decide) (hs _ (by decide +kernel)) (va_eqt (hs _ (by decide +kernel))) (fun j hj => by
    rcases (show j = 0 ∨ j = 1 ∨ j = 2 by omega) with rfl | rfl | rfl
    · exact hel _ 0 150 (hs _ (by decide +kernel))
    · exact hel _ 1 200 (hs _ (by decide +kernel))
    · exact hel _ 2 50 (hs _ (by decide +kernel))) hA
  exact ⟨t1, t2, va_Zref (hts (.laysStatic "CranePermits" "SETTING_LEAST" "[I") (by decide +kernel)) (hts (.initialized "CranePermits") (by decide +kernel)) ht1 hA, hT1, va_Zref (hts (.laysStatic "CranePermits" "SETTING_MOST" "[I") (by decide +kernel)) (hts (.initialized "CranePermits") (by decide +kernel)) ht2 hA, hT2⟩
/-- what the law's walk stands on -/
def lwX (p : Program) (s : State) (m : MethodId) (meth : Method) (c : Code) (b L x : Nat) (xs : Nat → Int32) (D : va_G) (y : zY) : Prop :=
  p.tables.exec = Jvm.exec ∧ c.code = cL_law ∧ meth.sig.returnType = ret ∧ meth.locks = false ∧ CallFix p m c cL_law 4 s #[Value.ref b] wsL_law RL ∧ zK D y s ∧ va_X b L xs s s.heap ∧ b < s.heap.size ∧ L ≤ 3584 ∧ s.heap.size = x ∧ zZ (fun q : Nat => s.heap.size ≤ q) s s.heap
/-- the loop's world behind n calls -/
def lI (D : va_G) (y : zY) (x : Nat) (s : State) (n : Nat) (H : Heap) (locs : List Loc) : Prop := ∃ (d was tx : Nat → Int32) (k len : Nat), jI n d was k len ∧ cI D y (x + 76) x d was tx k len H ∧ mI D y (x + 70) d was tx k len H ∧ x + 76 ≤ H.size ∧ va_S (fun q : Nat => s.heap.size ≤ q) s.heap H locs
section LWX
variable {p : Program} {l : Launch} {e : Env} {s : State} {m : MethodId} {below : List Frame} {meth : Method} {c : Code} {H : Heap} {locs : List Loc} {cells slots : Nat} {Q : State → Prop} {pc : Nat} {ls : Array Slot} {rest : List Value} {b L x : Nat} {xs : Nat → Int32} {D : va_G} {y : zY} {R : Room}
theorem s_ld (h : lwX p s m meth c b L x xs D y) (hS : va_S (fun q : Nat => s.heap.size ≤ q) s.heap H locs) {i : Nat} {v : Int32} (hi : i < L) (hv : xs i = v) (hdg : decode cL_law pc = .ok (.iaload, 1)) (kk : W p l e R s m #[Value.ref b] below meth c H locs cells slots Q (F0 m (pc + 1) ls (.int v :: rest))) : W p l e R s m #[Value.ref b] below meth c H locs cells slots Q (F0 m pc ls (.int (nI i) :: .ref b :: rest)) := by
  obtain ⟨hx, hb, -, -, -, -, hX, hbl, hL, -⟩ := h
  refine va_sld hx hb hX hbl (Nat.not_le.mpr hbl) hS (vp_in_nI hi (by omega)) hdg (z_topi ?_ kk)
  rw [nI_clamp (by omega)]; exact hv
theorem cI.recv {d was tx : Nat → Int32} {k len : Nat} (hK : zK D y s) {bd : Nat} (h : cI D y bd x d was tx k len H) : ∃ cell : Cell, H[x]? = some cell ∧ cell.vm.isStatics = false ∧ s.vm.findClass RX4 = some cell.cls := by
  obtain ⟨ca, pa, pk, T, P, rot, ts, tn, ⟨pf, f2, f3, f4, f5, f6, hP, -⟩, -⟩ := h
  exact z_recv (q := (RX4, TX4, 5)) hK (hP 0 _ rfl) rfl
theorem mI.recv {d was tx : Nat → Int32} {k len a : Nat} (hK : zK D y s) (h : mI D y a d was tx k len H) : ∃ cell : Cell, H[a]? = some cell ∧ cell.vm.isStatics = false ∧ s.vm.findClass RX5 = some cell.cls := by
  obtain ⟨as, gt, pa, rs, hP⟩ := h
  exact z_recv (q := (RX5, TX5, 9)) hK (hP 0 _ rfl) rfl
theorem zZ_at {bd : Nat} (h : lwX p s m meth c b L x xs D y) (hb : x ≤ bd) (hS : va_S (fun q : Nat => s.heap.size ≤ q) s.heap H locs) : zZ (xB x bd) s H := by
  obtain ⟨-, -, -, -, -, -, -, -, -, hs, hz⟩ := h
  exact (hz.kept (fun a h1 h2 => hS.2.1 a h1 h2)).narrow (fun q hq => by rw [hs]; exact xB_hi hb hq)
end LWX
/-! what the calls ask, in parts -/
theorem okSet_c {w v : Int32} (h : okSet w v = true) : (w = nI 0 ∧ inB v (nI 50) (nI 150) = true) ∨ (w = nI 1 ∧ inB v (nI 0) (nI 200) = true) ∨ (w = nI 2 ∧ inB v (nI 0) (nI 50) = true) := by
  unfold okSet at h
  split at h
  · rename_i q; exact Or.inl ⟨q, h⟩
  · split at h
    · rename_i q; exact Or.inr (Or.inl ⟨q, h⟩)
    · split at h
      · rename_i q; exact Or.inr (Or.inr ⟨q, h⟩)
      · exact absurd h (by decide)
theorem okTr_c {a b n c : Int32} (h : okTr a b n c = true) : ∃ i j u, i < 4 ∧ j < 4 ∧ i ≠ j ∧ u < 30 ∧ a = nI i ∧ b = nI j ∧ n = nI u ∧ inB c (nI 1) (nI 200) = true := by
  unfold okTr at h
  simp only [Bool.and_eq_true, Bool.not_eq_true', decide_eq_false_iff_not] at h
  obtain ⟨h1, h2, h3, h4, h5⟩ := h
  obtain ⟨i, -, hi, rfl⟩ := inB_nat (by decide) h1 (by decide)
  obtain ⟨j, -, hj, rfl⟩ := inB_nat (by decide) h2 (by decide)
  obtain ⟨u, -, hu, rfl⟩ := inB_nat (by decide) h4 (by decide)
  exact ⟨i, j, u, by omega, by omega, fun q => h3 (by rw [q]), by omega, rfl, rfl, rfl, h5⟩
theorem tr_iff {n : Nat} {d : Nat → Int32} (h : zJ n d) (hn : n ≤ 1000) {a m : Nat} {c : Int32} (ha : a < 4) (hm : m < 30) (hc : inB c (nI 1) (nI 200) = true) : 0 ≤ freI d a m - c ↔ c ≤ freI d a m := by
  have hc2 := inB_int (by decide) (by decide) hc
  obtain ⟨f1, f2⟩ := fre_int h.1 h.2.1 hn ha hm
  obtain ⟨b1, b2⟩ := h.2.1.cr hn a m ha hm
  have e := sub_int (x := freI d a m) (z := c) (by omega) (by omega)
  rw [Int32.le_iff_toInt_le, Int32.le_iff_toInt_le, e]
  show (0 : Int) ≤ _ ↔ _
  omega
