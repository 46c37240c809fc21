/-! THE CLASS: the run over a text -/
section ZC2
variable {p : Program} {l : Launch} {e : Env} {R : Room} {s : State} {m : MethodId} {args : Array Value} {below : List Frame} {meth : Method} {c : Code} {H : Heap} {locs : List Loc} {cells slots : Nat} {Q : State → Prop} {pc : Nat} {ls : Array Slot}
/-- a loop that makes objects: what was made so far is counted -/
theorem z_loopC {S : Type} {nL : Nat} {cN sN : S → Nat} (μ : S → Nat) (Lf : S → List (Nat × Value)) (I : S → Heap → List Loc → Prop) (σ0 : S) (hI : I σ0 H locs) (hl : lv_has ls nL (Lf σ0)) (hc : cells = cN σ0) (hs : slots = sN σ0)
    (step : ∀ (σ : S) (H : Heap) (locs : List Loc) (ls : Array Slot), I σ H locs → lv_has ls nL (Lf σ) → (∀ (σ' : S) (H' : Heap) (locs' : List Loc) (ls' : Array Slot), μ σ' < μ σ → I σ' H' locs' → lv_has ls' nL (Lf σ') → W p l e R s m args below meth c H' locs' (cN σ') (sN σ') Q (F0 m pc ls' [])) → W p l e R s m args below meth c H locs (cN σ) (sN σ) Q (F0 m pc ls [])) :
    W p l e R s m args below meth c H locs cells slots Q (F0 m pc ls []) := by
  have key : ∀ (n : Nat) (σ : S) (H : Heap) (locs : List Loc) (ls : Array Slot), μ σ < n → I σ H locs → lv_has ls nL (Lf σ) → W p l e R s m args below meth c H locs (cN σ) (sN σ) Q (F0 m pc ls []) := by
    intro n
    induction n with
    | zero => intro σ H locs ls h; exact absurd h (Nat.not_lt_zero _)
    | succ n ih => intro σ H locs ls h h1 h2; exact step σ H locs ls h1 h2 (fun σ' H' locs' ls' h3 h4 h5 => ih σ' H' locs' ls' (by omega) h4 h5)
  subst hc hs
  exact key _ σ0 H locs ls (Nat.lt_succ_self _) hI hl
end ZC2
