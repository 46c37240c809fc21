/-! BASE, 2: bodies of methods, loops, locals by other names -/
theorem bI_tt {b : Bool} (h : b = true) : nI 1 = bI b := by subst h; rfl
theorem bI_ff {b : Bool} (h : b = false) : nI 0 = bI b := by subst h; rfl
theorem lv_repl {ls : Array Slot} {nL : Nat} {l : List (Nat × Value)} (h : lv_has ls nL l) (k : Nat) {i : Nat} {v v' : Value} (hk : l[k]? = some (i, v)) (e : v = v') {l' : List (Nat × Value)} (hl : l.set k (i, v') = l') : lv_has ls nL l' := by
  subst e
  have : l.set k (i, v) = l := by
    apply List.ext_getElem?
    intro j
    by_cases hj : k = j
    · subst hj
      rw [List.getElem?_set_self (List.getElem?_eq_some_iff.mp hk).1, hk]
    · rw [List.getElem?_set_ne hj]
  rw [← hl, this]
  exact h
/-- the body of a method, from its entry: what stands there -/
theorem z_body {l : Launch} {yy : MethodName} {ws ws' : List Cond} {rm : Room} {av : List Value} {Φ : Heap → Prop} {D : va_G} {y : zY} {Qc : Array Value → State → Outcome → State → Prop} {mc ms : Nat} {free : Addr → Prop} {cc : ByteArray} {maxL : Nat} {ret : Option FieldType} {la : List (Nat × Value)}
    (hy : plainName yy.cls = true) (hw : ws = Cond.code yy cc maxL ret :: ws') (hlen : (lg_sl av).length ≤ maxL) (hla : lv_args 0 av = la)
    (body : ∀ (p : Program) (e : Env) (s : State) (mm : MethodId) (below : List Frame) (meth : Method) (c0 : Code) (ls : Array Slot), p.tables.exec = Jvm.exec → c0.code = cc → meth.sig.returnType = ret → CallFix p mm c0 cc maxL s av.toArray ws yy.cls → meth.locks = false → Φ s.heap → zK D y s → lv_has ls maxL la → meth.name = yy.name →
      W p l e rm s mm av.toArray below meth c0 s.heap [] 0 0 (MQ below Qc av.toArray s mc ms free) (F0 mm 0 ls [])) : Met l yy ws rm (zP av Φ D y) Qc mc ms free := by
  refine Met.ofW (cc := cc) (maxL := maxL) (ret := ret) hy hw ?_
  intro p e s m args below meth c s₁ B hml hv
  obtain ⟨rfl, hΦ, hK⟩ := hv
  have hl := lv_entry av (n := maxL) hlen
  rw [hla] at hl
  rw [lg_entry_eq]
  exact body p e s m below meth c _ B.exec B.bytes B.returns ⟨B.exec, B.bytes, hml, findClass_of_methodNamed B.named, atoms_spec (ws := ws) B.pre⟩ B.notSynchronized hΦ hK hl (name_of_methodNamed B.named B.method).1
section ZL
variable {p : Program} {l : Launch} {e : Env} {R : Room} {s : State} {m : MethodId} {args : Array Value} {below : List Frame} {meth : Method} {c : Code} {H : Heap} {locs : List Loc} {cells slots : Nat} {Q : State → Prop} {pc : Nat} {ls : Array Slot}
/-- a loop, at its head: by a measure that falls -/
theorem z_loop {S : Type} {nL : Nat} (μ : S → Nat) (Lf : S → List (Nat × Value)) (I : S → Prop) (σ0 : S) (hI : I σ0) (hl : lv_has ls nL (Lf σ0))
    (step : ∀ (σ : S) (ls : Array Slot), I σ → lv_has ls nL (Lf σ) → (∀ (σ' : S) (ls' : Array Slot), μ σ' < μ σ → I σ' → lv_has ls' nL (Lf σ') → W p l e R s m args below meth c H locs cells slots Q (F0 m pc ls' [])) → W p l e R s m args below meth c H locs cells slots Q (F0 m pc ls [])) :
    W p l e R s m args below meth c H locs cells slots Q (F0 m pc ls []) := by
  have key : ∀ (n : Nat) (σ : S) (ls : Array Slot), μ σ < n → I σ → lv_has ls nL (Lf σ) → W p l e R s m args below meth c H locs cells slots Q (F0 m pc ls []) := by
    intro n
    induction n with
    | zero => intro σ ls h; exact absurd h (Nat.not_lt_zero _)
    | succ n ih => intro σ ls h h1 h2; exact step σ ls h1 h2 (fun σ' ls' h3 h4 h5 => ih σ' ls' (by omega) h4 h5)
  exact key _ σ0 ls (Nat.lt_succ_self _) hI hl
/-- the same where the heap moves -/
theorem z_loopW {S : Type} {nL : Nat} (μ : S → Nat) (Lf : S → List (Nat × Value)) (I : S → Heap → List Loc → Prop) (σ0 : S) (hI : I σ0 H locs) (hl : lv_has ls nL (Lf σ0))
    (step : ∀ (σ : S) (H : Heap) (locs : List Loc) (ls : Array Slot), I σ H locs → lv_has ls nL (Lf σ) → (∀ (σ' : S) (H' : Heap) (locs' : List Loc) (ls' : Array Slot), μ σ' < μ σ → I σ' H' locs' → lv_has ls' nL (Lf σ') → W p l e R s m args below meth c H' locs' cells slots Q (F0 m pc ls' [])) → W p l e R s m args below meth c H locs cells slots Q (F0 m pc ls [])) :
    W p l e R s m args below meth c H locs cells slots Q (F0 m pc ls []) := by
  have key : ∀ (n : Nat) (σ : S) (H : Heap) (locs : List Loc) (ls : Array Slot), μ σ < n → I σ H locs → lv_has ls nL (Lf σ) → W p l e R s m args below meth c H locs cells slots Q (F0 m pc ls []) := by
    intro n
    induction n with
    | zero => intro σ H locs ls h; exact absurd h (Nat.not_lt_zero _)
    | succ n ih => intro σ H locs ls h h1 h2; exact step σ H locs ls h1 h2 (fun σ' H' locs' ls' h3 h4 h5 => ih σ' H' locs' ls' (by omega) h4 h5)
  exact key _ σ0 H locs ls (Nat.lt_succ_self _) hI hl
end ZL
/-- the model's state as the readers of it see it: its row d -/
def zM (D : va_G) (y : zY) (m : Nat) (d : Nat → Int32) (H : Heap) : Prop := (∃ fs : List Value, va_at D vwCl (m, .inr (5, .ref (m + 1) :: fs)) H) ∧ va_at D vwCl (m + 1, .inl (y.1, 1445, .inl d)) H
def zT0 : Heap → Prop := fun _ => True
