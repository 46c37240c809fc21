/-! BASE, 3: the rows that write; calls of methods that write -/
/-- one cell has changed -/
def zU (a : Nat) (H H1 : Heap) : Prop := H1.size = H.size ∧ ∀ q : Nat, q ≠ a → H1[q]? = H[q]?
section ZW
variable {p : Program} {l : Launch} {e : Env} {R : Room} {s : State} {m : MethodId} {args : Array Value} {below : List Frame} {meth : Method} {c : Code} {H : Heap} {locs : List Loc} {cells slots : Nat} {Q : State → Prop}
variable {cc : ByteArray} {pc : Nat} {ls : Array Slot} {rest : List Value} {D : va_G} {y : zY} {a : Nat}
theorem y_iast (hx : p.tables.exec = Jvm.exec) (hb : c.code = cc) (hK : zK D y s) {n i : Nat} {x : Int32} {f : Nat → Int32} (hP : va_at D vwCl (a, .inl (y.1, n, .inl f)) H) (hi : i < n) (hn : n < 2147483648) (hdg : decode cc pc = .ok (.iastore, 1))
    (kk : ∀ H1 : Heap, zU a H H1 → va_at D vwCl (a, .inl (y.1, n, .inl (upd f i x))) H1 → W p l e R s m args below meth c H1 (locs ++ [⟨a, i⟩]) cells slots Q (F0 m (pc + 1) ls rest)) : W p l e R s m args below meth c H locs cells slots Q (F0 m pc ls (.int x :: .int (nI i) :: .ref a :: rest)) := by
  have hc : (nI i).toNatClampNeg = i := nI_clamp (Nat.lt_trans hi hn)
  refine W.iast hx hb hP ((hK.1.2 0 _ rfl).1 n (fun j => .int (f j))) (fun q => by cases q) (by show ¬ (nI i < 0 ∨ (arrV _ _ _).slots.size ≤ _); rw [arrV_size]; exact vp_in_nI hi hn) rfl rfl hdg fun H1 e z oq => ?_
  rw [hc]
  refine kk H1 ⟨z, oq⟩ ?_
  show H1[a]? = some (vp_cell _ _)
  rw [e, hc, vp_cell_i, vp_cell_i, arrV_store]
  congr 2
  funext q
  by_cases hq : q = i
  · subst hq; simp [updV, upd]
  · simp [updV, upd, hq]
theorem y_cast (hx : p.tables.exec = Jvm.exec) (hb : c.code = cc) (hK : zK D y s) {n i : Nat} {x : Int32} {f : Nat → Int32} (hP : va_at D vwCl (a, .inl (y.2.1, n, .inl f)) H) (hi : i < n) (hn : n < 2147483648) (hdg : decode cc pc = .ok (.castore, 1))
    (kk : ∀ H1 : Heap, zU a H H1 → va_at D vwCl (a, .inl (y.2.1, n, .inl (upd f i (vp_nar .char x)))) H1 → W p l e R s m args below meth c H1 (locs ++ [⟨a, i⟩]) cells slots Q (F0 m (pc + 1) ls rest)) : W p l e R s m args below meth c H locs cells slots Q (F0 m pc ls (.int x :: .int (nI i) :: .ref a :: rest)) := by
  have hc : (nI i).toNatClampNeg = i := nI_clamp (Nat.lt_trans hi hn)
  refine W.cast hx hb hP ((hK.1.2 1 _ rfl).1 n (fun j => .int (f j))) (fun q => by cases q) (by show ¬ (nI i < 0 ∨ (arrV _ _ _).slots.size ≤ _); rw [arrV_size]; exact vp_in_nI hi hn) rfl rfl hdg fun H1 e z oq => ?_
  rw [hc]
  refine kk H1 ⟨z, oq⟩ ?_
  show H1[a]? = some (vp_cell _ _)
  rw [e, hc, vp_cell_i, vp_cell_i, arrV_store]
  congr 2
  funext q
  by_cases hq : q = i
  · subst hq; simp [updV, upd, vp_nar]; try rfl
  · simp [updV, upd, hq]
theorem y_last (hx : p.tables.exec = Jvm.exec) (hb : c.code = cc) (hK : zK D y s) {n i : Nat} {x : Int64} {f : Nat → Int64} (hP : va_at D vwCl (a, .inl (y.2.2.1, n, .inr (.inl f))) H) (hi : i < n) (hn : n < 2147483648) (hdg : decode cc pc = .ok (.lastore, 1))
    (kk : ∀ H1 : Heap, zU a H H1 → va_at D vwCl (a, .inl (y.2.2.1, n, .inr (.inl (vp_updL f i x)))) H1 → W p l e R s m args below meth c H1 (locs ++ [⟨a, i⟩]) cells slots Q (F0 m (pc + 1) ls rest)) : W p l e R s m args below meth c H locs cells slots Q (F0 m pc ls (.long x :: .int (nI i) :: .ref a :: rest)) := by
  have hc : (nI i).toNatClampNeg = i := nI_clamp (Nat.lt_trans hi hn)
  refine W.last hx hb hP ((hK.1.2 2 _ rfl).1 n (fun j => .long (f j))) (fun q => by cases q) (by show ¬ (nI i < 0 ∨ (arrV _ _ _).slots.size ≤ _); rw [arrV_size]; exact vp_in_nI hi hn) rfl rfl hdg fun H1 e z oq => ?_
  rw [hc]
  refine kk H1 ⟨z, oq⟩ ?_
  show H1[a]? = some (vp_cell _ _)
  rw [e, hc, vp_cell_l, vp_cell_l, arrV_store]
  congr 2
  funext q
  by_cases hq : q = i
  · subst hq; simp [updV, vp_updL]
  · simp [updV, vp_updL, hq]
theorem y_put (hx : p.tables.exec = Jvm.exec) (hb : c.code = cc) {own ref C : String} {T : u_T} {N ci index : Nat} {Ts : List Cond} (hts : ∀ w ∈ Ts, w.before args s = true) (hin : ∀ w ∈ u_ws C T N, w ∈ Ts) (ty0 : Nat → FieldType) (hty : ∀ k, k < N → parseFieldDescriptor (T k).2.2.1 = some (ty0 k)) (hnm : ∀ a, a < N → ∀ b, b < N → a ≠ b → (T a).2.1 ≠ (T b).2.1) (hown : s.vm.findClass own = some m.cls) (hK : zK D y s) {fs : List Value} (hP : va_at D vwCl (a, .inr (ci, fs)) H) (k : Nat) (hk : k < N) (hc : vwCl[ci]? = some (C, T, N)) (hlink : (Cond.fieldLink own index ref (T k).2.1 (T k).2.2.1).before args s = true) (hsame : (T k).1 = ref) (hfin : (T k).2.2.2 = false) {ty : FieldType} {v : Value} (hd : parseFieldDescriptor (T k).2.2.1 = some ty) (hn : narrow ty v = v) (hfit : fits ty v = true) (hl : k < fs.length) (hdg : decode cc pc = .ok (.putfield index, 3))
    (kk : ∀ (H1 : Heap) (x : Nat), zU a H H1 → va_at D vwCl (a, .inr (ci, fs.set k v)) H1 → W p l e R s m args below meth c H1 (locs ++ [⟨a, x⟩]) cells slots Q (F0 m (pc + 3) ls rest)) : W p l e R s m args below meth c H locs cells slots Q (F0 m pc ls (v :: .ref a :: rest)) := by
  have hap := va_apart (own := own) hts hin ty0 hty hnm hK.1 hc
  obtain ⟨r, h1, cell, q1, q2, q3, q4⟩ := hP
  have hr : r = (C, T, N) := Option.some.inj (h1.symm.trans hc)
  subst hr
  obtain ⟨hS, hfc, kC, hkC, hkind⟩ := hK.1.1 ci _ hc
  obtain ⟨cf, kf, fi, f, hi, hsl⟩ := hS k hk
  have hlay := hts _ (hin _ (u_in_lay hk))
  unfold u_lay at hlay
  rw [if_neg (by rw [hfin]; decide)] at hlay
  have hst := (u_facts hfc hkC (u_lays hts hin hk) hi).1
  have h6 := u_store hfc hkC hkind hlay hi hd hn hfit
  refine W.putK hx hb (f := f) ⟨hown, hlink, ⟨_, _, _, by rw [← hsame]; exact hi⟩, hst⟩ (by rw [q2]; exact h6) q1 q3 (by rw [hsl]; exact k2_hasslot (q4 k hk)) rfl rfl hdg fun H' e1 e2 e3 => ?_
  rw [hsl] at e1 ⊢
  exact kk H' _ ⟨e2, e3⟩ ⟨_, hc, t_OB.to (V := updV (vp_V fs) k v) ⟨_, e1, q2, q3, t_set q4 hap hk v⟩ (fun j _ => vp_updV_set hl v j)⟩
theorem y_putF (hx : p.tables.exec = Jvm.exec) (hb : c.code = cc) {own ref C : String} {T : u_T} {N ci index : Nat} {Ts : List Cond} (hts : ∀ w ∈ Ts, w.before args s = true) (hin : ∀ w ∈ u_ws C T N, w ∈ Ts) (ty0 : Nat → FieldType) (hty : ∀ k, k < N → parseFieldDescriptor (T k).2.2.1 = some (ty0 k)) (hnm : ∀ a, a < N → ∀ b, b < N → a ≠ b → (T a).2.1 ≠ (T b).2.1) (hown : s.vm.findClass own = some m.cls) (hK : zK D y s) {fs : List Value} (hP : va_at D vwCl (a, .inr (ci, fs)) H) (k : Nat) (hk : k < N) (hc : vwCl[ci]? = some (C, T, N)) (hlink : (Cond.fieldLink own index ref (T k).2.1 (T k).2.2.1).before args s = true) (hsame : (T k).1 = ref) (hfin : (T k).2.2.2 = true) (hin2 : meth.name = "<init>") (hdecl : (T k).1 = own) {ty : FieldType} {v : Value} (hd : parseFieldDescriptor (T k).2.2.1 = some ty) (hn : narrow ty v = v) (hfit : fits ty v = true) (hl : k < fs.length) (hdg : decode cc pc = .ok (.putfield index, 3))
    (kk : ∀ (H1 : Heap) (x : Nat), zU a H H1 → va_at D vwCl (a, .inr (ci, fs.set k v)) H1 → W p l e R s m args below meth c H1 (locs ++ [⟨a, x⟩]) cells slots Q (F0 m (pc + 3) ls rest)) : W p l e R s m args below meth c H locs cells slots Q (F0 m pc ls (v :: .ref a :: rest)) := by
  have hap := va_apart (own := own) hts hin ty0 hty hnm hK.1 hc
  obtain ⟨r, h1, cell, q1, q2, q3, q4⟩ := hP
  have hr : r = (C, T, N) := Option.some.inj (h1.symm.trans hc)
  subst hr
  obtain ⟨hS, hfc, kC, hkC, hkind⟩ := hK.1.1 ci _ hc
  obtain ⟨cf, kf, fi, f, hi, hsl⟩ := hS k hk
  have hlay := hts _ (hin _ (u_in_lay hk))
  unfold u_lay at hlay
  rw [if_pos hfin] at hlay
  have hst := (u_facts hfc hkC (u_lays hts hin hk) hi).1
  have hcf : m.cls = cf := by
    obtain ⟨_, _, c', _, _, _, -, -, hf', -, -, -, hown2, -⟩ := Cond.laysFinal_spec hlay
    have e1 : c' = cf := by have := hi.symm.trans hf'; simp at this; exact this.1.symm
    rw [hdecl] at hown2
    rw [← e1]; exact Option.some.inj (hown.symm.trans hown2)
  have h6 := u_fits hfc hkC hkind (Or.inr hlay) hi hd hn hfit
  refine W.putFinK hx hb hown hlink (by rw [← hsame]; exact hi) hst hcf hin2 (by rw [q2]; exact h6) q1 q3 (by rw [hsl]; exact k2_hasslot (q4 k hk)) rfl rfl hdg fun H' e1 e2 e3 => ?_
  rw [hsl] at e1 ⊢
  exact kk H' _ ⟨e2, e3⟩ ⟨_, hc, t_OB.to (V := updV (vp_V fs) k v) ⟨_, e1, q2, q3, t_set q4 hap hk v⟩ (fun j _ => vp_updV_set hl v j)⟩
/-- a call of a method that writes -/
theorem z_afterW {aa : Array Value} {v : Option Value} {Ψ : Heap → Prop} {A1 : Nat → Prop} {g : JFrame} {mc ms : Nat} {free : Addr → Prop} (hr : CallRun p l e R s m args below meth c H locs cells slots mc ms g rest (zW v Ψ A1 aa) free)
    (kk : ∀ (H1 : Heap) (L : List Loc), Ψ H1 → H.size ≤ H1.size → (∀ q : Nat, q < H.size → ¬ A1 q → H1[q]? = H[q]?) → (∀ q ∈ L, free q.base) → W p l e R s m args below meth c H1 (locs ++ L) (cells + mc) (slots + ms) Q { g with pc := g.pc + 3, stack := v.toList ++ rest }) : W p l e R s m args below meth c H locs cells slots Q g := by
  intro T hT X
  obtain ⟨v', st₀, t, T', L, h0, X', hL, e1, ⟨hv, hΨ, hF1, hF2⟩, st⟩ := hr T hT X
  cases hv
  rw [h0] at hF1 hF2
  obtain ⟨t2, a1, b1⟩ := kk t.heap L hΨ hF1 hF2 hL T' e1 X'
  exact ⟨t2, st t2 a1, b1⟩
theorem va_S.call {A A1 : Nat → Prop} {H0 H1 : Heap} {L : List Loc} (h : va_S A H0 H locs) (hz : H.size ≤ H1.size) (hk : ∀ q : Nat, q < H.size → ¬ A1 q → H1[q]? = H[q]?) (hA : ∀ q, q < H.size → A1 q → A q) {free : Addr → Prop} (hL : ∀ q ∈ L, free q.base) (hf : ∀ q, free q → A q) : va_S A H0 H1 (locs ++ L) :=
  ⟨Nat.le_trans h.1 hz, fun q h1 h2 => (hk q (Nat.lt_of_lt_of_le h1 h.1) (fun z => h2 (hA q (Nat.lt_of_lt_of_le h1 h.1) z))).trans (h.2.1 q h1 h2), fun q hq => by
    rcases List.mem_append.mp hq with q1 | q1
    · exact h.2.2 q q1
    · exact hf _ (hL q q1)⟩
theorem va_S.upd {A : Nat → Prop} {H0 H1 : Heap} {x : Nat} (h : va_S A H0 H locs) (hu : zU a H H1) (ha : A a) : va_S A H0 H1 (locs ++ [⟨a, x⟩]) := h.put hu.1 hu.2 ha
theorem va_P.upd {A : Nat → Prop} {cl : List vw_C} {q0 : Nat} {ws : va_W} {e0 e1 : va_E} {H1 : Heap} (hP : va_P D cl ws H) (hD : va_D A ws) (h0 : ws[q0]? = some (a, e0)) (hu : zU a H H1) (he : va_at D cl (a, e1) H1) : va_P D cl (ws.set q0 (a, e1)) H1 := hP.set hD h0 he hu.2
variable {Ts ws : List Cond} {yy : MethodName} {bytes : ByteArray} {maxL nL index n mc ms : Nat} {own C : String} {ret : Option FieldType} {rm : Room} {Φ Ψ : Heap → Prop} {b : Nat} {As st0 : List Value} {v : Option Value} {A1 A : Nat → Prop} {H0 : Heap}
theorem w_callV (S : CallFix p m c cc nL s args Ts own) (hK : zK D y s) (hM : Met l yy ws rm (zP (.ref b :: As) Φ D y) (zW v Ψ A1) mc ms A1) (cw : CallW R s args own C index yy bytes maxL ret ws rm mc ms n) (hrecv : ∃ cell : Cell, H[b]? = some cell ∧ cell.vm.isStatics = false ∧ s.vm.findClass C = some cell.cls) (hΦ : Φ H) (hS : va_S A H0 H locs) (hA : ∀ q, A1 q → A q) (hn : As.length = n) (hsz : ls.size = nL) (hst : st0 = As.reverse ++ .ref b :: rest) (hW : (rest.map fun v => v.category).sum ≤ 8) (hdg : decode cc pc = .ok (.invokevirtual index, 3)) (hcs : cells + mc ≤ R.cells ∧ slots + ms ≤ R.slots)
    (kk : ∀ (H1 : Heap) (locs1 : List Loc), Ψ H1 → H.size ≤ H1.size → (∀ q : Nat, q < H.size → ¬ A1 q → H1[q]? = H[q]?) → va_S A H0 H1 locs1 → W p l e R s m args below meth c H1 locs1 (cells + mc) (slots + ms) Q (F0 m (pc + 3) ls (v.toList ++ rest))) : W p l e R s m args below meth c H locs cells slots Q (F0 m pc ls st0) :=
  z_afterW (W.runV (rest := rest) S hM cw ⟨zP.blind, hrecv, fun U hU hW => ⟨rfl, by rw [hU]; exact hΦ, hK.warm hW⟩⟩ rfl hn hsz hst (lv_room hW) hdg hcs) (fun H1 L h1 h2 h3 h4 => kk H1 _ h1 h2 h3 (hS.call h2 h3 (fun q _ h => hA q h) h4 hA))
theorem w_callS (S : CallFix p m c cc nL s args Ts own) (hK : zK D y s) (hM : Met l yy ws rm (zP As Φ D y) (zW v Ψ A1) mc ms A1) (cw : CallB R s args own index yy bytes maxL ret ws rm mc ms n ∧ (Cond.static yy).before args s = true) (hΦ : Φ H) (hS : va_S A H0 H locs) (hA : ∀ q, A1 q → A q) (hn : As.length = n) (hsz : ls.size = nL) (hst : st0 = As.reverse ++ rest) (hW : (rest.map fun v => v.category).sum ≤ 8) (hdg : decode cc pc = .ok (.invokestatic index, 3)) (hcs : cells + mc ≤ R.cells ∧ slots + ms ≤ R.slots)
    (kk : ∀ (H1 : Heap) (locs1 : List Loc), Ψ H1 → H.size ≤ H1.size → (∀ q : Nat, q < H.size → ¬ A1 q → H1[q]? = H[q]?) → va_S A H0 H1 locs1 → W p l e R s m args below meth c H1 locs1 (cells + mc) (slots + ms) Q (F0 m (pc + 3) ls (v.toList ++ rest))) : W p l e R s m args below meth c H locs cells slots Q (F0 m pc ls st0) :=
  z_afterW (W.runS (rest := rest) S hM cw ⟨zP.blind, fun U hU hW => ⟨rfl, by rw [hU]; exact hΦ, hK.warm hW⟩⟩ rfl hn hsz hst (lv_room hW) hdg hcs) (fun H1 L h1 h2 h3 h4 => kk H1 _ h1 h2 h3 (hS.call h2 h3 (fun q _ h => hA q h) h4 hA))
theorem w_callI (S : CallFix p m c cc nL s args Ts own) (hK : zK D y s) (hM : Met l yy ws rm (zP (.ref b :: As) Φ D y) (zW v Ψ A1) mc ms A1) (cw : CallB R s args own index yy bytes maxL none ws rm mc ms n ∧ yy.name = "<init>" ∧ (Cond.instanceMethod yy).before args s = true) (hΦ : Φ H) (hS : va_S A H0 H locs) (hA : ∀ q, A1 q → A q) (hn : As.length = n) (hsz : ls.size = nL) (hst : st0 = As.reverse ++ .ref b :: rest) (hW : (rest.map fun v => v.category).sum ≤ 8) (hdg : decode cc pc = .ok (.invokespecial index, 3)) (hcs : cells + mc ≤ R.cells ∧ slots + ms ≤ R.slots)
    (kk : ∀ (H1 : Heap) (locs1 : List Loc), Ψ H1 → H.size ≤ H1.size → (∀ q : Nat, q < H.size → ¬ A1 q → H1[q]? = H[q]?) → va_S A H0 H1 locs1 → W p l e R s m args below meth c H1 locs1 (cells + mc) (slots + ms) Q (F0 m (pc + 3) ls (v.toList ++ rest))) : W p l e R s m args below meth c H locs cells slots Q (F0 m pc ls st0) :=
  z_afterW (W.runI (rest := rest) S hM cw ⟨zP.blind, fun U hU hW => ⟨rfl, by rw [hU]; exact hΦ, hK.warm hW⟩⟩ rfl hn hsz hst (lv_room hW) hdg hcs) (fun H1 L h1 h2 h3 h4 => kk H1 _ h1 h2 h3 (hS.call h2 h3 (fun q _ h => hA q h) h4 hA))
/-- a method that writes ends -/
theorem w_reti {x r : Int32} (hx : p.tables.exec = Jvm.exec) (hb : c.code = cc) (hr : meth.sig.returnType = some .int) (hlocks : meth.locks = false) (hS : va_S A s.heap H locs) (hΨ : Ψ H) (hv : x = r) (hdg : decode cc pc = .ok (.ireturn, 1)) : W p l e R s m args below meth c H locs cells slots (MQ below (zW (some (.int r)) Ψ A) args s cells slots A) (F0 m pc ls [.int x]) := by
  subst hv
  exact W.iret hx hb hr (fun t ht _ => ⟨rfl, by rw [ht]; exact hΨ, hS.F ht⟩) hS.2.2 hdg
theorem w_retz {x : Int32} {b : Bool} (hx : p.tables.exec = Jvm.exec) (hb : c.code = cc) (hr : meth.sig.returnType = some .boolean) (hlocks : meth.locks = false) (hS : va_S A s.heap H locs) (hΨ : Ψ H) (hv : x = bI b) (hdg : decode cc pc = .ok (.ireturn, 1)) : W p l e R s m args below meth c H locs cells slots (MQ below (zW (some (.int (bI b))) Ψ A) args s cells slots A) (F0 m pc ls [.int x]) := by
  subst hv
  exact W.zret hx hb hr (bI_nar b) (fun t ht _ => ⟨rfl, by rw [ht]; exact hΨ, hS.F ht⟩) hS.2.2 hdg
theorem w_retv (hx : p.tables.exec = Jvm.exec) (hb : c.code = cc) (hr : meth.sig.returnType = none) (hlocks : meth.locks = false) (hS : va_S A s.heap H locs) (hΨ : Ψ H) (hdg : decode cc pc = .ok (.return_, 1)) : W p l e R s m args below meth c H locs cells slots (MQ below (zW none Ψ A) args s cells slots A) (F0 m pc ls []) :=
  W.vret hx hb hr (fun t ht _ => ⟨rfl, by rw [ht]; exact hΨ, hS.F ht⟩) hS.2.2 hdg
end ZW
/-- a block of addresses -/
def blk (a n : Nat) : Nat → Prop := fun q => a ≤ q ∧ q < a + n
