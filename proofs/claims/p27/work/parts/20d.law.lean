/-! THE LAW: its tables of statics, its loop's world -/
theorem zZ_start {s : State} {args : Array Value} (hts : ∀ w ∈ lw_tbl, w.before args s = true) (hgv : (Jvm.Cond.and given_1 narrow_1).before args s = true) : zZ (fun q : Nat => s.heap.size ≤ q) s s.heap := by
  have hs := flat_of_before _ hgv
  have hA : ∀ a : Nat, a < s.heap.size → ¬ (fun q : Nat => s.heap.size ≤ q) a := fun a h => Nat.not_le.mpr h
  have hel : ∀ (n : String) (j : Nat) (z : Int32), (Cond.eq (.elem (.static "CranePermits" n "[I") (.int (Int32.ofNat j))) (.int z)).before args s = true → (Term.elem (.static "CranePermits" n "[I") (.int (Int32.ofNat j))).eval args s none [] s = some (.int z) := fun n j z h => va_eqt h
  obtain ⟨t1, ht1, hT1⟩ := va_Tof (args := args) (s := s) (tm := .static "CranePermits" "SETTING_LEAST" "[I") (ty := .int) (N := 3) (f := stL) (A := fun q : Nat => s.heap.size ≤ q) (by decide) (hs _ (by decide +kernel)) (va_eqt (hs _ (by decide +kernel))) (fun j hj => by
    rcases (show j = 0 ∨ j = 1 ∨ j = 2 by omega) with rfl | rfl | rfl
    · exact hel _ 0 50 (hs _ (by decide +kernel))
    · exact hel _ 1 0 (hs _ (by decide +kernel))
    · exact hel _ 2 0 (hs _ (by decide +kernel))) hA
  obtain ⟨t2, ht2, hT2⟩ := va_Tof (args := args) (s := s) (tm := .static "CranePermits" "SETTING_MOST" "[I") (ty := .int) (N := 3) (f := stM) (A := fun q : Nat => s.heap.size ≤ q) (by decide) (hs _ (by decide +kernel)) (va_eqt (hs _ (by decide +kernel))) (fun j hj => by
    rcases (show j = 0 ∨ j = 1 ∨ j = 2 by omega) with rfl | rfl | rfl
    · exact hel _ 0 150 (hs _ (by decide +kernel))
    · exact hel _ 1 200 (hs _ (by decide +kernel))
    · exact hel _ 2 50 (hs _ (by decide +kernel))) hA
  exact ⟨t1, t2, va_Zref (hts (.laysStatic "CranePermits" "SETTING_LEAST" "[I") (by decide +kernel)) (hts (.initialized "CranePermits") (by decide +kernel)) ht1 hA, hT1, va_Zref (hts (.laysStatic "CranePermits" "SETTING_MOST" "[I") (by decide +kernel)) (hts (.initialized "CranePermits") (by decide +kernel)) ht2 hA, hT2⟩
/-- what the law's walk stands on -/
def lwX (p : Program) (s : State) (m : MethodId) (meth : Method) (c : Code) (b L x : Nat) (xs : Nat → Int32) (D : va_G) (y : zY) : Prop :=
  p.tables.exec = Jvm.exec ∧ c.code = cL_law ∧ meth.sig.returnType = ret ∧ meth.locks = false ∧ CallFix p m c cL_law 18 s #[Value.ref b] wsL_law RL ∧ zK D y s ∧ va_X b L xs s s.heap ∧ b < s.heap.size ∧ L ≤ 260 ∧ s.heap.size = x ∧ zZ (fun q : Nat => s.heap.size ≤ q) s s.heap
theorem zZ_at {p : Program} {s : State} {m : MethodId} {meth : Method} {c : Code} {b L x bd : Nat} {xs : Nat → Int32} {D : va_G} {y : zY} {H : Heap} {locs : List Loc} (h : lwX p s m meth c b L x xs D y) (hb : x ≤ bd) (hS : va_S (fun q : Nat => s.heap.size ≤ q) s.heap H locs) : zZ (xB x bd) s H := by
  obtain ⟨-, -, -, -, -, -, -, -, -, hs, hz⟩ := h
  exact (hz.kept (fun a h1 h2 => hS.2.1 a h1 h2)).narrow (fun q hq => by rw [hs]; exact xB_hi hb hq)
