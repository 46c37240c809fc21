/-! THE CLASS ITSELF: rows for its constructor -/
theorem sD.upd {D : va_G} {y : zY} {bd a r : Nat} {H H1 : Heap} {d : Nat → Int32} {ca pa pk : Nat → Nat} (h : sD D y bd a d ca pa pk H) (hU : zU r H H1) (h1 : r < a ∨ a + 11 ≤ r) (h2 : r < bd) : sD D y bd a d ca pa pk H1 :=
  h.kept (fun q _ h3 h4 => hU.2 q (by omega)) (fun q _ h3 => hU.2 q (by omega))
theorem sD.grow {D : va_G} {y : zY} {bd a : Nat} {H H1 : Heap} {d : Nat → Int32} {ca pa pk : Nat → Nat} (h : sD D y bd a d ca pa pk H) (hk : ∀ q : Nat, q < H.size → H1[q]? = H[q]?) : sD D y bd a d ca pa pk H1 :=
  h.kept (fun q hq _ _ => hk q hq) (fun q hq _ => hk q hq)
theorem sD.call {D : va_G} {y : zY} {bd a : Nat} {A : Nat → Prop} {H H1 : Heap} {d : Nat → Int32} {ca pa pk : Nat → Nat} (h : sD D y bd a d ca pa pk H) (hk : ∀ q : Nat, q < H.size → ¬ A q → H1[q]? = H[q]?) (h1 : ∀ q, a ≤ q → q < a + 11 → ¬ A q) (h2 : ∀ q, bd ≤ q → ¬ A q) : sD D y bd a d ca pa pk H1 :=
  h.kept (fun q hq h3 h4 => hk q hq (h1 q h3 h4)) (fun q hq h3 => hk q hq (h2 q h3))
section ZI
variable {p : Program} {l : Launch} {e : Env} {R : Room} {s : State} {m : MethodId} {args : Array Value} {below : List Frame} {meth : Method} {c : Code} {H : Heap} {locs : List Loc} {cells slots : Nat} {Q : State → Prop}
variable {cc : ByteArray} {pc : Nat} {ls : Array Slot} {rest : List Value} {D : va_G} {y : zY}
variable {Ts ws : List Cond} {yy : MethodName} {bytes : ByteArray} {maxL nL index n mc ms : Nat} {own C : String} {ret : Option FieldType} {rm : Room} {Φ Ψ : Heap → Prop} {b : Nat} {As st0 : List Value} {v : Option Value} {A1 A : Nat → Prop} {H0 : Heap}
theorem w_callIN {host : String} (S : CallFix p m c cc nL s args Ts own) (hK : zK D y s) (hM : Met l yy ws rm (zP (.ref b :: As) Φ D y) (zW v Ψ A1) mc ms A1) (cw : va_CN R s args own index yy host bytes maxL none ws rm mc ms n ∧ yy.name = "<init>" ∧ (Cond.instanceMethod yy).before args s = true) (hΦ : Φ H) (hS : va_S A H0 H locs) (hA : ∀ q, A1 q → A q) (hn : As.length = n) (hsz : ls.size = nL) (hst : st0 = As.reverse ++ .ref b :: rest) (hW : (rest.map fun v => v.category).sum ≤ 8) (hdg : decode cc pc = .ok (.invokespecial index, 3)) (hcs : cells + mc ≤ R.cells ∧ slots + ms ≤ R.slots)
    (kk : ∀ (H1 : Heap) (locs1 : List Loc), Ψ H1 → H.size ≤ H1.size → (∀ q : Nat, q < H.size → ¬ A1 q → H1[q]? = H[q]?) → va_S A H0 H1 locs1 → W p l e R s m args below meth c H1 locs1 (cells + mc) (slots + ms) Q (F0 m (pc + 3) ls (v.toList ++ rest))) : W p l e R s m args below meth c H locs cells slots Q (F0 m pc ls st0) :=
  z_afterW (z_ofRun (Qc := zW v Ψ A1) (va_runIN (rest := rest) S hM cw ⟨zP.blind, fun U hU hW => ⟨rfl, by rw [hU]; exact hΦ, hK.warm hW⟩⟩ rfl hn hsz hst (lv_room hW) hdg hcs)) (fun H1 L h1 h2 h3 h4 => kk H1 _ h1 h2 h3 (hS.call h2 h3 (fun q _ h => hA q h) h4 hA))
end ZI
