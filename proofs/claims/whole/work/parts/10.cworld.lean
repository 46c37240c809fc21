/-! THE CLASS, WRITING: rows and worlds -/
section ZC2
variable {p : Program} {l : Launch} {e : Env} {R : Room} {s : State} {m : MethodId} {args : Array Value} {below : List Frame} {meth : Method} {c : Code} {H : Heap} {locs : List Loc} {cells slots : Nat} {Q : State → Prop}
variable {cc : ByteArray} {pc : Nat} {ls : Array Slot} {rest : List Value} {D : va_G} {y : zY} {a : Nat}
theorem y_aast (hx : p.tables.exec = Jvm.exec) (hb : c.code = cc) (hK : zK D y s) {k n i v : Nat} {f : Nat → Option Nat} {cA : ClassId} {C : String} (ht : (zT y)[k]? = some (cA, .object C)) (hP : va_at D vwCl (a, .inl (cA, n, .inr (.inr (.inr (.inr f))))) H) (hr : ∃ cellV : Cell, H[v]? = some cellV ∧ cellV.vm.isStatics = false ∧ s.vm.findClass C = some cellV.cls) (hi : i < n) (hn : n < 2147483648) (hdg : decode cc pc = .ok (.aastore, 1))
    (kk : ∀ H1 : Heap, zU a H H1 → va_at D vwCl (a, .inl (cA, n, .inr (.inr (.inr (.inr (va_up f i (some v))))))) H1 → W p l e R s m args below meth c H1 (locs ++ [⟨a, i⟩]) cells slots Q (F0 m (pc + 1) ls rest)) : W p l e R s m args below meth c H locs cells slots Q (F0 m pc ls (.ref v :: .int (nI i) :: .ref a :: rest)) := by
  have hc : (nI i).toNatClampNeg = i := nI_clamp (Nat.lt_trans hi hn)
  obtain ⟨cellV, g1, g3, g2⟩ := hr
  obtain ⟨kA, comp, k1, k2, k3, -⟩ := (hK.1.2 k _ ht).2
  obtain ⟨kE, hkE, -⟩ := Vm.findClass_spec k3
  have hcomp : cellV.cls = comp := Option.some.inj (g2.symm.trans k3)
  refine W.aast hx hb hP (fun q h => by cases h) (fun h => by cases h) k1 k2 rfl hkE ⟨nI_pos (by omega), by show _ < (arrV _ _ _).slots.size; rw [arrV_size, hc]; exact hi⟩ g1 (fun q h => by rw [h] at g3; cases g3) (by rw [hcomp]; exact hkE) (by rw [hcomp]; exact va_asg _ _) rfl rfl hdg fun H1 e z oq => ?_
  rw [hc]
  refine kk H1 ⟨z, oq⟩ ?_
  show H1[a]? = some (vp_cell _ _)
  rw [e, hc, vp_cell_q, vp_cell_q, arrV_store]
  congr 2
  funext q
  by_cases hq : q = i
  · subst hq; simp [updV, va_up, va_rf]
  · simp [updV, va_up, hq]
variable {Ts ws : List Cond} {yy : MethodName} {bytes : ByteArray} {maxL nL index n mc ms : Nat} {own C : String} {ret : Option FieldType} {rm : Room} {Φ Ψ : Heap → Prop} {b : Nat} {As st0 : List Value} {v : Option Value} {A1 A : Nat → Prop} {H0 : Heap}
theorem w_callN {host : String} (S : CallFix p m c cc nL s args Ts own) (hK : zK D y s) (hM : Met l yy ws rm (zP As Φ D y) (zW v Ψ A1) mc ms A1) (cw : va_CN R s args own index yy host bytes maxL ret ws rm mc ms n ∧ (Cond.static yy).before args s = true ∧ True) (hΦ : Φ H) (hS : va_S A H0 H locs) (hA : ∀ q, A1 q → A q) (hn : As.length = n) (hsz : ls.size = nL) (hst : st0 = As.reverse ++ rest) (hW : (rest.map fun v => v.category).sum ≤ 8) (hdg : decode cc pc = .ok (.invokestatic index, 3)) (hcs : cells + mc ≤ R.cells ∧ slots + ms ≤ R.slots)
    (kk : ∀ (H1 : Heap) (locs1 : List Loc), Ψ H1 → H.size ≤ H1.size → (∀ q : Nat, q < H.size → ¬ A1 q → H1[q]? = H[q]?) → va_S A H0 H1 locs1 → W p l e R s m args below meth c H1 locs1 (cells + mc) (slots + ms) Q (F0 m (pc + 3) ls (v.toList ++ rest))) : W p l e R s m args below meth c H locs cells slots Q (F0 m pc ls st0) :=
  z_afterW (z_ofRun (Qc := zW v Ψ A1) (va_runSN (rest := rest) S hM cw ⟨zP.blind, fun U hU hW => ⟨rfl, by rw [hU]; exact hΦ, hK.warm hW⟩⟩ rfl hn hsz hst (lv_room hW) hdg hcs)) (fun H1 L h1 h2 h3 h4 => kk H1 _ h1 h2 h3 (hS.call h2 h3 (fun q _ h => hA q h) h4 hA))
end ZC2
/-- one row of ints -/
def pWs (y : zY) (r n : Nat) (f : Nat → Int32) : va_W := [(r, .inl (y.1, n, .inl f))]
theorem pWs_D {y : zY} {r n : Nat} {f : Nat → Int32} : va_D (fun q => q = r) (pWs y r n f) := by
  refine ⟨fun i j p q hi hj _ => ?_, fun k q hk => ?_⟩
  · have h1 : i < 1 := (List.getElem?_eq_some_iff.mp hi).1
    have h2 : j < 1 := (List.getElem?_eq_some_iff.mp hj).1
    omega
  · have h1 : k < 1 := (List.getElem?_eq_some_iff.mp hk).1
    rw [show k = 0 by omega] at hk
    cases hk
    rfl
theorem pw_P {D : va_G} {y : zY} {r n : Nat} {f : Nat → Int32} {H : Heap} (h : va_at D vwCl (r, .inl (y.1, n, .inl f)) H) : va_P D vwCl (pWs y r n f) H := z_one h
theorem va_at.S {D : va_G} {A : Nat → Prop} {H0 H : Heap} {locs : List Loc} {q : Nat × va_E} (h : va_at D vwCl q H0) (hS : va_S A H0 H locs) (hA : ¬ A q.1) : va_at D vwCl q H := h.kept (hS.2.1 q.1 h.lt hA)
theorem crA.S {D : va_G} {y : zY} {A : Nat → Prop} {H0 H : Heap} {locs : List Loc} {bd q c : Nat} {d : Nat → Int32} (h : crA D y q c d H0) (hq : bd ≤ q) (hS : va_S A H0 H locs) (hA : ∀ q, bd ≤ q → q < H0.size → ¬ A q) : crA D y q c d H :=
  ⟨h.1.S hS (hA q hq h.1.lt), h.2.S hS (hA (q + 1) (by omega) h.2.lt)⟩
theorem peA.S {D : va_G} {y : zY} {A : Nat → Prop} {H0 H : Heap} {locs : List Loc} {bd q p cq : Nat} {d : Nat → Int32} (h : peA D y q p cq d H0) (hq : bd ≤ q) (hq2 : bd ≤ cq) (hS : va_S A H0 H locs) (hA : ∀ q, bd ≤ q → q < H0.size → ¬ A q) : peA D y q p cq d H :=
  ⟨h.1.S hS (hA q hq h.1.lt), h.2.S hq2 hS hA⟩
theorem tyO.S {D : va_G} {A : Nat → Prop} {H0 H : Heap} {locs : List Loc} {bd q c : Nat} (h : tyO D c q H0) (hq : bd ≤ q) (hS : va_S A H0 H locs) (hA : ∀ q, bd ≤ q → q < H0.size → ¬ A q) : tyO D c q H := by
  obtain ⟨fs, hf⟩ := h
  exact ⟨fs, hf.S hS (hA q hq hf.lt)⟩
theorem sT.S {D : va_G} {A : Nat → Prop} {H0 H : Heap} {locs : List Loc} {bd : Nat} {cs ps vs : Nat → Option Nat} (h : sT D bd cs ps vs H0) (hS : va_S A H0 H locs) (hA : ∀ q, bd ≤ q → q < H0.size → ¬ A q) : sT D bd cs ps vs H :=
  ⟨fun i q hi => ⟨(h.1 i q hi).1, (h.1 i q hi).2.S (h.1 i q hi).1 hS hA⟩, fun i q hi => ⟨(h.2.1 i q hi).1, (h.2.1 i q hi).2.S (h.2.1 i q hi).1 hS hA⟩, fun i q hi => ⟨(h.2.2 i q hi).1, (h.2.2 i q hi).2.S (h.2.2 i q hi).1 hS hA⟩⟩
theorem recv_S {A : Nat → Prop} {H0 H : Heap} {locs : List Loc} {v : Nat} {s : State} {C : String} (h : ∃ cellV : Cell, H0[v]? = some cellV ∧ cellV.vm.isStatics = false ∧ s.vm.findClass C = some cellV.cls) (hS : va_S A H0 H locs) (hA : ¬ A v) : ∃ cellV : Cell, H[v]? = some cellV ∧ cellV.vm.isStatics = false ∧ s.vm.findClass C = some cellV.cls := by
  obtain ⟨cellV, h1, h2, h3⟩ := h
  exact ⟨cellV, by rw [hS.2.1 v (Array.getElem?_eq_some_iff.mp h1).1 hA]; exact h1, h2, h3⟩
theorem blk_no {a n bd q : Nat} (h : a + n ≤ bd) (hq : bd ≤ q) : ¬ blk a n q := fun z => by
  have := z.2
  omega
/-- two rows of numbers say the same of cranes, permits and nights -/
def sameD (d e : Nat → Int32) : Prop := ∀ i, i < 1445 → i ≠ 443 → i ≠ 444 → d i = e i
theorem crA.cong {D : va_G} {y : zY} {q c : Nat} {d d' : Nat → Int32} {H : Heap} (h : crA D y q c d H) (e : ∀ k, k < 6 → gr d' c k = gr d c k) : crA D y q c d' H := by
  unfold crA eiF at *
  rw [e 0 (by decide), e 1 (by decide), e 2 (by decide), e 3 (by decide), e 4 (by decide)]
  exact h
theorem peA.cong {D : va_G} {y : zY} {q p cq : Nat} {d d' : Nat → Int32} {H : Heap} (h : peA D y q p cq d H) (e : ∀ k, k < 4 → pm d' p k = pm d p k) (e2 : ∀ k, k < 6 → gr d' (pC d p) k = gr d (pC d p) k) : peA D y q p cq d' H := by
  have hc : pC d' p = pC d p := by unfold pC; rw [e 0 (by decide)]
  refine ⟨?_, ?_⟩
  · rw [e 1 (by decide), e 2 (by decide), e 3 (by decide)]
    exact h.1
  · rw [hc]
    exact h.2.cong e2
/-- a site, put together again behind a change -/
theorem sD_mk {D : va_G} {y : zY} {bd a : Nat} {A : Nat → Prop} {H0 H : Heap} {locs : List Loc} {d : Nat → Int32} {ca pa pk : Nat → Nat} {cs : Nat → Option Nat} {ns se wi al re gi : Nat → Int32} {ps : Nat → Option Nat} {ss : Nat → Int32} {vs : Nat → Option Nat} {nc ng vc : Int32} (hS : va_S A H0 H locs) (hA : ∀ q, bd ≤ q → q < H0.size → ¬ A q) (hP : va_P D vwCl (sWs y a cs nc ns se wi al re gi ps ng ss vs vc) H) (e1 : nc = nI (nC d)) (e2 : ng = nI (nG d)) (e3 : vc = nI (vn d)) (hR : sR d ca pa cs ns se wi al re gi ps ss vs) (hC : ∀ c, c < nC d → bd ≤ ca c ∧ crA D y (ca c) c d H0) (hE : ∀ p, p < nG d → bd ≤ pa p ∧ bd ≤ pk p ∧ peA D y (pa p) p (pk p) d H0) (hT : sT D bd cs ps vs H0) : sD D y bd a d ca pa pk H := by
  subst e1 e2 e3
  exact ⟨cs, ns, se, wi, al, re, gi, ps, ss, vs, hP, hR, fun c hc => ⟨(hC c hc).1, (hC c hc).2.S (hC c hc).1 hS hA⟩, fun p hp => ⟨(hE p hp).1, (hE p hp).2.1, (hE p hp).2.2.S (hE p hp).1 (hE p hp).2.1 hS hA⟩, hT.S hS hA⟩
/-- a site, untouched by what went on elsewhere -/
theorem sD.kept {D : va_G} {y : zY} {bd a : Nat} {H H1 : Heap} {d : Nat → Int32} {ca pa pk : Nat → Nat} (h : sD D y bd a d ca pa pk H) (h1 : ∀ q, q < H.size → a ≤ q → q < a + 11 → H1[q]? = H[q]?) (h2 : ∀ q, q < H.size → bd ≤ q → H1[q]? = H[q]?) : sD D y bd a d ca pa pk H1 := by
  obtain ⟨cs, ns, se, wi, al, re, gi, ps, ss, vs, hP, hR, hC, hE, hT⟩ := h
  have t : ∀ {c q : Nat}, bd ≤ q → tyO D c q H → tyO D c q H1 := fun hq ht => by
    obtain ⟨fs, hf⟩ := ht
    exact ⟨fs, hf.kept (h2 _ hf.lt hq)⟩
  have cr : ∀ {c q : Nat}, bd ≤ q → crA D y q c d H → crA D y q c d H1 := fun hq ht => ⟨ht.1.kept (h2 _ ht.1.lt hq), ht.2.kept (h2 _ ht.2.lt (by show bd ≤ _ + 1; omega))⟩
  refine ⟨cs, ns, se, wi, al, re, gi, ps, ss, vs, hP.kept (fun k q hk => h1 q.1 (hP k q hk).lt (sWs_D.2 k q hk).1 (sWs_D.2 k q hk).2), hR, fun c hc => ⟨(hC c hc).1, cr (hC c hc).1 (hC c hc).2⟩, fun p hp => ⟨(hE p hp).1, (hE p hp).2.1, (hE p hp).2.2.1.kept (h2 _ (hE p hp).2.2.1.lt (hE p hp).1), cr (hE p hp).2.1 (hE p hp).2.2.2⟩, ?_⟩
  exact ⟨fun i q hi => ⟨(hT.1 i q hi).1, t (hT.1 i q hi).1 (hT.1 i q hi).2⟩, fun i q hi => ⟨(hT.2.1 i q hi).1, t (hT.2.1 i q hi).1 (hT.2.1 i q hi).2⟩, fun i q hi => ⟨(hT.2.2 i q hi).1, t (hT.2.2 i q hi).1 (hT.2.2 i q hi).2⟩⟩
theorem cpy_at {α : Type} {f g : Nat → α} {n i : Nat} (h : i < n) : va_cpy f g 0 0 n i = f i := by
  unfold va_cpy
  rw [if_pos ⟨Nat.zero_le i, by omega⟩, Nat.zero_add, Nat.sub_zero]
theorem cpy_or {α : Type} (f g : Nat → α) (n i : Nat) : va_cpy f g 0 0 n i = f i ∨ va_cpy f g 0 0 n i = g i := by
  unfold va_cpy
  split
  · rw [Nat.zero_add, Nat.sub_zero]; exact Or.inl rfl
  · exact Or.inr rfl
/-- two sites -/
def cWs (y : zY) (a b : Nat) (cs : Nat → Option Nat) (nc : Int32) (ns se wi al re gi : Nat → Int32) (ps : Nat → Option Nat) (ng : Int32) (ss : Nat → Int32) (vs : Nat → Option Nat) (vc : Int32) (cs2 : Nat → Option Nat) (nc2 : Int32) (ns2 se2 wi2 al2 re2 gi2 : Nat → Int32) (ps2 : Nat → Option Nat) (ng2 : Int32) (ss2 : Nat → Int32) (vs2 : Nat → Option Nat) (vc2 : Int32) : va_W := sWs y a cs nc ns se wi al re gi ps ng ss vs vc ++ sWs y b cs2 nc2 ns2 se2 wi2 al2 re2 gi2 ps2 ng2 ss2 vs2 vc2
def blk2 (a b : Nat) : Nat → Prop := fun q => blk a 11 q ∨ blk b 11 q
theorem cWs_D {y : zY} {a b : Nat} (hab : a + 11 ≤ b ∨ b + 11 ≤ a) {cs : Nat → Option Nat} {nc : Int32} {ns se wi al re gi : Nat → Int32} {ps : Nat → Option Nat} {ng : Int32} {ss : Nat → Int32} {vs : Nat → Option Nat} {vc : Int32} {cs2 : Nat → Option Nat} {nc2 : Int32} {ns2 se2 wi2 al2 re2 gi2 : Nat → Int32} {ps2 : Nat → Option Nat} {ng2 : Int32} {ss2 : Nat → Int32} {vs2 : Nat → Option Nat} {vc2 : Int32} : va_D (blk2 a b) (cWs y a b cs nc ns se wi al re gi ps ng ss vs vc cs2 nc2 ns2 se2 wi2 al2 re2 gi2 ps2 ng2 ss2 vs2 vc2) := by
  refine va_D.app (sWs_D.weaken (fun k q hk h => Or.inl h)) (sWs_D.weaken (fun k q hk h => Or.inr h)) (fun i j p q hp hq e => ?_)
  have h1 := sWs_D.2 i p hp
  have h2 := sWs_D.2 j q hq
  rw [e] at h1
  have := h1.1; have := h1.2; have := h2.1; have := h2.2
  omega
/-- the crane's row behind one more crane -/
theorem up_lt {α : Type} {f : Nat → α} {k i : Nat} {v : α} (h : i < k) : va_up f k v i = f i := va_up_ne f v (Nat.ne_of_lt h)
theorem up_some {f : Nat → Option Nat} {k v i q : Nat} (h : va_up f k (some v) i = some q) : q = v ∨ f i = some q := by
  unfold va_up at h
  split at h
  · exact Or.inl (Option.some.inj h).symm
  · exact Or.inr h
