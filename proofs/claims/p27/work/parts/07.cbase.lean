/-! BASE, 4: rows that the class's own methods want -/
theorem nI_e0 {n : Nat} (h : n < 2147483648) : nI n = 0 ↔ n = 0 := (nI_eq h (by decide : (0 : Nat) < 2147483648) : nI n = nI 0 ↔ n = 0)
theorem nI_le0 {n : Nat} (h : n < 2147483648) : nI n ≤ 0 ↔ n = 0 := by
  have h2 : nI n ≤ nI 0 ↔ n ≤ 0 := nI_leI h (by decide)
  exact ⟨fun q => Nat.le_zero.mp (h2.mp q), fun q => h2.mpr (Nat.le_of_eq q)⟩
section ZC
variable {p : Program} {l : Launch} {e : Env} {R : Room} {s : State} {m : MethodId} {args : Array Value} {below : List Frame} {meth : Method} {c : Code} {H : Heap} {locs : List Loc} {cells slots : Nat} {Q : State → Prop}
variable {cc : ByteArray} {pc : Nat} {ls : Array Slot} {rest : List Value} {D : va_G} {y : zY} {a : Nat}
theorem n_if_eq (hx : p.tables.exec = Jvm.exec) (hb : c.code = cc) {x : Nat} (h : x < 2147483648) {off : Int} {tgt : Nat} (hdg : decode cc pc = .ok (.ifCond .eq off, 3)) (ht : (pc : Int) + off = (tgt : Int)) (kt : x = 0 → W p l e R s m args below meth c H locs cells slots Q (F0 m tgt ls rest)) (kf : x ≠ 0 → W p l e R s m args below meth c H locs cells slots Q (F0 m (pc + 3) ls rest)) : W p l e R s m args below meth c H locs cells slots Q (F0 m pc ls (.int (nI x) :: rest)) := lv_if_eq hx hb hdg ht (fun q => kt ((nI_e0 h).mp q)) (fun q => kf (fun z => q ((nI_e0 h).mpr z)))
theorem n_if_ne (hx : p.tables.exec = Jvm.exec) (hb : c.code = cc) {x : Nat} (h : x < 2147483648) {off : Int} {tgt : Nat} (hdg : decode cc pc = .ok (.ifCond .ne off, 3)) (ht : (pc : Int) + off = (tgt : Int)) (kt : x ≠ 0 → W p l e R s m args below meth c H locs cells slots Q (F0 m tgt ls rest)) (kf : x = 0 → W p l e R s m args below meth c H locs cells slots Q (F0 m (pc + 3) ls rest)) : W p l e R s m args below meth c H locs cells slots Q (F0 m pc ls (.int (nI x) :: rest)) := lv_if_ne hx hb hdg ht (fun q => kt (fun z => q ((nI_e0 h).mpr z))) (fun q => kf ((nI_e0 h).mp q))
theorem n_if_le (hx : p.tables.exec = Jvm.exec) (hb : c.code = cc) {x : Nat} (h : x < 2147483648) {off : Int} {tgt : Nat} (hdg : decode cc pc = .ok (.ifCond .le off, 3)) (ht : (pc : Int) + off = (tgt : Int)) (kt : x = 0 → W p l e R s m args below meth c H locs cells slots Q (F0 m tgt ls rest)) (kf : x ≠ 0 → W p l e R s m args below meth c H locs cells slots Q (F0 m (pc + 3) ls rest)) : W p l e R s m args below meth c H locs cells slots Q (F0 m pc ls (.int (nI x) :: rest)) := lv_if_le hx hb hdg ht (fun q => kt ((nI_le0 h).mp q)) (fun q => kf (fun z => q ((nI_le0 h).mpr z)))
/-- a small number is never below 0 -/
theorem n_if_lt (hx : p.tables.exec = Jvm.exec) (hb : c.code = cc) {x : Nat} (h : x < 2147483648) {off : Int} {tgt : Nat} (hdg : decode cc pc = .ok (.ifCond .lt off, 3)) (ht : (pc : Int) + off = (tgt : Int)) (kf : W p l e R s m args below meth c H locs cells slots Q (F0 m (pc + 3) ls rest)) : W p l e R s m args below meth c H locs cells slots Q (F0 m pc ls (.int (nI x) :: rest)) := lv_if_lt hx hb hdg ht (fun q => absurd q (nI_pos h)) (fun _ => kf)
theorem n_if_ge (hx : p.tables.exec = Jvm.exec) (hb : c.code = cc) {x : Nat} (h : x < 2147483648) {off : Int} {tgt : Nat} (hdg : decode cc pc = .ok (.ifCond .ge off, 3)) (ht : (pc : Int) + off = (tgt : Int)) (kt : W p l e R s m args below meth c H locs cells slots Q (F0 m tgt ls rest)) : W p l e R s m args below meth c H locs cells slots Q (F0 m pc ls (.int (nI x) :: rest)) := lv_if_ge hx hb hdg ht (fun _ => kt) (fun q => absurd (nI_pos' h) q)
theorem z_aald {k : Nat} (hx : p.tables.exec = Jvm.exec) (hb : c.code = cc) (hK : zK D y s) {n i : Nat} {f : Nat → Option Nat} {cA : ClassId} {C : String} (ht : (zT y)[k]? = some (cA, .object C)) (hP : va_at D vwCl (a, .inl (cA, n, .inr (.inr (.inr (.inr f))))) H) (hi : i < n) (hn : n < 2147483648) {r : Nat} (hf : f i = some r) (hdg : decode cc pc = .ok (.aaload, 1))
    (kk : W p l e R s m args below meth c H locs cells slots Q (F0 m (pc + 1) ls (.ref r :: rest))) : W p l e R s m args below meth c H locs cells slots Q (F0 m pc ls (.int (nI i) :: .ref a :: rest)) :=
  va_aldq hx hb hK.1 (z_one hP) 0 k rfl ht (vp_in_nI hi hn) hdg (z_top (by rw [nI_clamp (Nat.lt_trans hi hn), hf]; rfl) kk)
theorem z_alen (k : Nat) (hx : p.tables.exec = Jvm.exec) (hb : c.code = cc) (hK : zK D y s) {x : vp_A} {cA : ClassId} {ty : FieldType} (ht : (zT y)[k]? = some (cA, ty)) (hP : va_at D vwCl (a, .inl (cA, x)) H) {n : Nat} (hn : x.1 = n) (hdg : decode cc pc = .ok (.arraylength, 1))
    (kk : W p l e R s m args below meth c H locs cells slots Q (F0 m (pc + 1) ls (.int (nI n) :: rest))) : W p l e R s m args below meth c H locs cells slots Q (F0 m pc ls (.ref a :: rest)) :=
  va_alen hx hb hK.1 (z_one hP) 0 k rfl ht (by rw [hn]; rfl) hdg kk
theorem z_abs {Ts : List Cond} {own : String} {nL index : Nat} (S : CallFix p m c cc nL s args Ts own) (h1 : (Cond.methodLink own index Lib.Math.abs.name).before args s = true) (h2 : (Cond.static Lib.Math.abs.name).before args s = true) (h3 : (Cond.initialized "java/lang/Math").before args s = true) (h4 : (Cond.code Lib.Math.abs.name Lib.Math.abs.code 1 (some .int)).before args s = true) (hsz : ls.size = nL) (hf : 1 ≤ R.frames) (hlo : (rest.map fun v => v.category).sum + 13 ≤ R.locals) (hcs : cells ≤ R.cells ∧ slots ≤ R.slots) {x : Int32} (hdg : decode cc pc = .ok (.invokestatic index, 3))
    (kk : W p l e R s m args below meth c H locs cells slots Q (F0 m (pc + 3) ls (.int (if 0 ≤ x then x else 0 - x) :: rest))) : W p l e R s m args below meth c H locs cells slots Q (F0 m pc ls (.int x :: rest)) :=
  va_mabs S.1 S.2.1 (S.2.2.1.trans hsz.symm) S.2.2.2.1 h1 h2 h3 h4 hf hlo hcs.1 hcs.2 hdg kk
end ZC
/-- a world's cell, behind a call that changed it alone -/
theorem va_P.callset {D : va_G} {cl : List vw_C} {A : Nat → Prop} {q0 r : Nat} {ws : va_W} {e0 e1 : va_E} {H H1 : Heap} (hP : va_P D cl ws H) (hD : va_D A ws) (h0 : ws[q0]? = some (r, e0)) (hk : ∀ q : Nat, q < H.size → ¬ (q = r) → H1[q]? = H[q]?) (he : va_at D cl (r, e1) H1) : va_P D cl (ws.set q0 (r, e1)) H1 := by
  have hl := (List.getElem?_eq_some_iff.mp h0).1
  intro k q hkq
  by_cases hkp : k = q0
  · subst hkp
    rw [List.getElem?_set_self hl] at hkq
    cases hkq
    exact he
  · rw [List.getElem?_set_ne (Ne.symm hkp)] at hkq
    have h1 := hP k q hkq
    exact h1.kept (hk q.1 h1.lt (fun z => hkp (hD.1 k q0 q (r, e0) hkq h0 z)))
/-! THE CLASS: cranes -/
def dirC (dx dy : Int32) : Int32 := if ¬ dx ≤ 0 ∧ ¬ dy < 0 then (if dx ≤ dy then nI 1 else nI 0) else if ¬ dy ≤ 0 then (if dy ≤ -dx then nI 3 else nI 2) else if ¬ 0 ≤ dx then (if -dx ≤ -dy then nI 5 else nI 4) else if -dy ≤ dx then nI 7 else nI 6
theorem dirC_n (dx dy : Int32) : dirC dx dy = nI (cl (dirC dx dy)) ∧ cl (dirC dx dy) < 8 := by
  unfold dirC
  split
  · split <;> exact ⟨rfl, by decide⟩
  · split
    · split <;> exact ⟨rfl, by decide⟩
    · split
      · split <;> exact ⟨rfl, by decide⟩
      · split <;> exact ⟨rfl, by decide⟩
theorem dirC_I (dx dy : Int32) : dirC dx dy = dirI dx dy := by
  have e : ∀ a b : Int32, (¬ a ≤ b) ↔ b < a := fun a b => Int32.not_le
  have e2 : ∀ a b : Int32, (¬ a < b) ↔ b ≤ a := fun a b => Int32.not_lt
  unfold dirC dirI
  by_cases h1 : ¬ dx ≤ 0 ∧ ¬ dy < 0
  · rw [if_pos h1, if_pos h1]
  · rw [if_neg h1, if_neg h1]
    by_cases h2 : dy ≤ 0
    · rw [if_neg (show ¬ ¬ dy ≤ 0 from fun q => q h2), if_neg (show ¬ (¬ 0 < dx ∧ ¬ dy ≤ 0) from fun q => q.2 h2)]
      by_cases h3 : 0 ≤ dx
      · rw [if_neg (show ¬ ¬ 0 ≤ dx from fun q => q h3), if_neg (show ¬ (¬ 0 ≤ dx ∧ ¬ 0 < dy) from fun q => q.1 h3)]
      · rw [if_pos (show ¬ 0 ≤ dx from h3), if_pos (show ¬ 0 ≤ dx ∧ ¬ 0 < dy from ⟨h3, by rw [e2]; exact h2⟩)]
    · have h4 : dx ≤ 0 := by
        by_cases q : dx ≤ 0
        · exact q
        · exfalso
          apply h1
          refine ⟨q, ?_⟩
          rw [e2]
          rw [e] at h2
          exact Int32.le_of_lt h2
      rw [if_pos (show ¬ dy ≤ 0 from h2), if_pos (show ¬ 0 < dx ∧ ¬ dy ≤ 0 from ⟨by rw [e2]; exact h4, h2⟩)]
def bitL (i : Nat) : Int64 := (1 : Int64) <<< ((nI (i % 64)).toInt64 &&& 63)
def mkL (f : Nat → Int64) (e i : Nat) : Nat → Int64 := vp_updL f (4 * e + i / 64) (f (4 * e + i / 64) ||| bitL i)
def mkN (f : Nat → Int64) (i : Nat) : Nat → Nat → Int64
  | 0 => f
  | e + 1 => mkL (mkN f i e) e i
def eiS (x z r : Int32) : Nat → Nat → Int64
  | 0 => fun _ => 0
  | i + 1 => if nI (i % 16) - x = 0 ∧ nI (i / 16) - z = 0 then mkN (eiS x z r i) i 8 else if r * r < (nI (i % 16) - x) * (nI (i % 16) - x) + (nI (i / 16) - z) * (nI (i / 16) - z) then eiS x z r i else mkL (eiS x z r i) (cl (dirC (nI (i % 16) - x) (nI (i / 16) - z))) i
def swB (sw : Int32) (e : Nat) : Bool := !decide ((sw >>> (nI e &&& 31)) &&& nI 1 = 0)
def airS (f : Nat → Int64) (sw : Int32) (part : Nat) : Nat → Int64
  | 0 => (0)
  | e + 1 => if swB sw e = true then airS f sw part e ||| f (4 * e + part) else airS f sw part e
def eiF (d : Nat → Int32) (c : Nat) : Nat → Int64 := eiS (gr d c 0) (gr d c 1) (gr d c 2) 256
def crA (D : va_G) (y : zY) (q c : Nat) (d : Nat → Int32) (H : Heap) : Prop := va_at D vwCl (q, .inr (0, [.int (nI c), .int (gr d c 0), .int (gr d c 1), .int (gr d c 2), .int (gr d c 3), .int (gr d c 4), .ref (q + 1)])) H ∧ va_at D vwCl (q + 1, .inl (y.2.2.1, 32, .inr (.inl (eiF d c)))) H
/-! permits -/
def peA (D : va_G) (y : zY) (q p cq : Nat) (d : Nat → Int32) (H : Heap) : Prop := va_at D vwCl (q, .inr (1, [.int (nI p), .ref cq, .int (pm d p 1), .int (pm d p 2), .int (pm d p 2 / nI 10), .int (pm d p 2 - pm d p 2 / nI 10 * nI 10), .int (pm d p 3)])) H ∧ crA D y cq (pC d p) d H
def pofB (d : Nat → Int32) (p : Nat) (st n : Int32) : Bool := decide (gr d (pC d p) 4 = st) && decide (pm d p 1 = n)
def metB (d : Nat → Int32) (p : Nat) (n h : Int32) : Bool := decide (pm d p 1 = n) && hmB h (pm d p 2)
def fsI (d : Nat → Int32) (p : Nat) : Int32 := pm d p 2 / nI 10
def ahcB (d : Nat → Int32) (p q : Nat) : Bool := if pm d p 1 = pm d q 1 then (if fsI d p = fsI d q then decide (p < q) else decide (fsI d p < fsI d q)) else decide (pm d p 1 < pm d q 1)
/-! sites -/
def vL (d : Nat → Int32) : List Nat := (List.range (nG d)).filter (fun p => decide (pm d p 4 = nI 1))
def vn (d : Nat → Int32) : Nat := (vL d).length
def vx (d : Nat → Int32) (i : Nat) : Nat := (vL d).getD i 0
theorem vx_in {d : Nat → Int32} {i : Nat} (h : i < vn d) : vx d i < nG d ∧ pm d (vx d i) 4 = nI 1 := by
  have h1 : (vL d)[i]? = some (vx d i) := by
    unfold vx
    rw [List.getD_eq_getElem?_getD, List.getElem?_eq_getElem h]
    rfl
  have h2 := List.mem_of_getElem? h1
  unfold vL at h2
  rw [List.mem_filter, List.mem_range] at h2
  exact ⟨h2.1, by simpa using h2.2⟩
def sWs (y : zY) (a : Nat) (cs : Nat → Option Nat) (nc : Int32) (ns se wi al re gi : Nat → Int32) (ps : Nat → Option Nat) (ng : Int32) (ss : Nat → Int32) (vs : Nat → Option Nat) (vc : Int32) : va_W := [(a, .inr (2, [.ref (a + 1), .int nc, .ref (a + 2), .ref (a + 3), .ref (a + 4), .ref (a + 5), .ref (a + 6), .ref (a + 7), .ref (a + 8), .int ng, .ref (a + 9), .ref (a + 10), .int vc])), (a + 1, .inl (y.2.2.2.1, 8, .inr (.inr (.inr (.inr cs))))), (a + 2, .inl (y.1, 8, .inl ns)), (a + 3, .inl (y.1, 3, .inl se)), (a + 4, .inl (y.1, 30, .inl wi)), (a + 5, .inl (y.1, 120, .inl al)), (a + 6, .inl (y.1, 120, .inl re)), (a + 7, .inl (y.1, 120, .inl gi)), (a + 8, .inl (y.2.2.2.2.1, 200, .inr (.inr (.inr (.inr ps))))), (a + 9, .inl (y.1, 200, .inl ss)), (a + 10, .inl (y.2.2.2.2.1, 24, .inr (.inr (.inr (.inr vs)))))]
theorem sWs_D {y : zY} {a : Nat} {cs : Nat → Option Nat} {nc : Int32} {ns se wi al re gi : Nat → Int32} {ps : Nat → Option Nat} {ng : Int32} {ss : Nat → Int32} {vs : Nat → Option Nat} {vc : Int32} : va_D (blk a 11) (sWs y a cs nc ns se wi al re gi ps ng ss vs vc) := by
  refine va_D_blk (fun k q hk => ?_) (Nat.le_of_ble_eq_true rfl)
  match k, hk with
  | 0, hk => cases hk; rfl
  | 1, hk => cases hk; rfl
  | 2, hk => cases hk; rfl
  | 3, hk => cases hk; rfl
  | 4, hk => cases hk; rfl
  | 5, hk => cases hk; rfl
  | 6, hk => cases hk; rfl
  | 7, hk => cases hk; rfl
  | 8, hk => cases hk; rfl
  | 9, hk => cases hk; rfl
  | 10, hk => cases hk; rfl
  | k + 11, hk => simp [sWs] at hk
/-- the rows of a site that stands for d -/
def sR (d : Nat → Int32) (ca pa : Nat → Nat) (cs : Nat → Option Nat) (ns se wi al re gi : Nat → Int32) (ps : Nat → Option Nat) (ss : Nat → Int32) (vs : Nat → Option Nat) : Prop :=
  (∀ c, c < nC d → cs c = some (ca c)) ∧ (∀ c, c < nC d → ns c = gr d c 5) ∧ (∀ i, i < 3 → se i = d (1 + i)) ∧ (∀ i, i < 30 → wi i = d (52 + i)) ∧ (∀ i, i < 120 → al i = d (82 + i)) ∧ (∀ i, i < 120 → re i = d (202 + i)) ∧ (∀ i, i < 120 → gi i = d (322 + i)) ∧ (∀ p, p < nG d → ps p = some (pa p)) ∧ (∀ p, p < nG d → ss p = pm d p 4) ∧ (∀ i, i < vn d → vs i = some (pa (vx d i)))
/-- an object of a class -/
def tyO (D : va_G) (c q : Nat) (H : Heap) : Prop := ∃ fs : List Value, va_at D vwCl (q, .inr (c, fs)) H
/-- what the arrays of a site hold: nothing, or an object of the right class, beyond the site -/
def sT (D : va_G) (bd : Nat) (cs ps vs : Nat → Option Nat) (H : Heap) : Prop := (∀ i q, cs i = some q → bd ≤ q ∧ tyO D 0 q H) ∧ (∀ i q, ps i = some q → bd ≤ q ∧ tyO D 1 q H) ∧ (∀ i q, vs i = some q → bd ≤ q ∧ tyO D 1 q H)
/-- a site at a stands for d; cranes and permits lie from bd on -/
def sD (D : va_G) (y : zY) (bd a : Nat) (d : Nat → Int32) (ca pa pk : Nat → Nat) (H : Heap) : Prop := ∃ (cs : Nat → Option Nat) (ns se wi al re gi : Nat → Int32) (ps : Nat → Option Nat) (ss : Nat → Int32) (vs : Nat → Option Nat), va_P D vwCl (sWs y a cs (nI (nC d)) ns se wi al re gi ps (nI (nG d)) ss vs (nI (vn d))) H ∧ sR d ca pa cs ns se wi al re gi ps ss vs ∧ (∀ c, c < nC d → bd ≤ ca c ∧ crA D y (ca c) c d H) ∧ (∀ p, p < nG d → bd ≤ pa p ∧ bd ≤ pk p ∧ peA D y (pa p) p (pk p) d H) ∧ sT D bd cs ps vs H
