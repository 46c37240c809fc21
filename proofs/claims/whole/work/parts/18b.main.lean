/-! THE CLASS: set, and the tables of the least and the most of each setting -/
def setL (i : Nat) : Nat := if i = 0 then 50 else 0
def setM (i : Nat) : Nat := if i = 0 then 150 else if i = 1 then 200 else 50
def stL (i : Nat) : Value := .int (nI (setL i))
def stM (i : Nat) : Value := .int (nI (setM i))
def zZ (A : Nat → Prop) (U : State) (H : Heap) : Prop := ∃ t1 t2 : Nat, va_Z RX4 "SETTING_LEAST" "[I" (.ref t1) A U H ∧ va_T .int t1 3 stL A U H ∧ va_Z RX4 "SETTING_MOST" "[I" (.ref t2) A U H ∧ va_T .int t2 3 stM A U H
theorem zZ.moved {A : Nat → Prop} {u U : State} {H : Heap} (hvm : u.vm.Alike U.vm) (h : zZ A u H) : zZ A U H := by
  obtain ⟨t1, t2, a, b, c, e⟩ := h
  exact ⟨t1, t2, a.moved hvm, b.moved hvm, c.moved hvm, e.moved hvm⟩
theorem zZ.kept {A : Nat → Prop} {U : State} {H H1 : Heap} (h : zZ A U H) (hq : ∀ a : Nat, a < H.size → ¬ A a → H1[a]? = H[a]?) : zZ A U H1 := by
  obtain ⟨t1, t2, a, b, c, e⟩ := h
  exact ⟨t1, t2, a.kept hq, b.kept hq, c.kept hq, e.kept hq⟩
theorem zZ.narrow {A B : Nat → Prop} {U : State} {H : Heap} (h : zZ A U H) (hAB : ∀ q, B q → A q) : zZ B U H := by
  obtain ⟨t1, t2, a, b, c, e⟩ := h
  exact ⟨t1, t2, a.narrow hAB, b.narrow hAB, c.narrow hAB, e.narrow hAB⟩
/-- a method's start where the state's own tables count -/
def zPg (av : List Value) (Φ : State → Heap → Prop) (D : va_G) (y : zY) : Array Value → State → Prop := fun v U => v = av.toArray ∧ Φ U U.heap ∧ zK D y U
theorem zPg.blind {av : List Value} {Φ : State → Heap → Prop} {D : va_G} {y : zY} (hm : ∀ (u U : State) (H : Heap), u.vm.Alike U.vm → Φ u H → Φ U H) : FrameBlind (zPg av Φ D y) := fun a U g mk q => ⟨q.1, hm U (U.calling g mk a) U.heap (Vm.Alike.refl U.vm) q.2.1, zK.same (u := U) (U := U.calling g mk a) rfl q.2.2⟩
theorem z_bodyG {l : Launch} {yy : MethodName} {ws ws' : List Cond} {rm : Room} {av : List Value} {Φ : State → Heap → Prop} {D : va_G} {y : zY} {Qc : Array Value → State → Outcome → State → Prop} {mc ms : Nat} {free : Addr → Prop} {cc : ByteArray} {maxL : Nat} {ret : Option FieldType} {la : List (Nat × Value)}
    (hy : plainName yy.cls = true) (hw : ws = Cond.code yy cc maxL ret :: ws') (hlen : (lg_sl av).length ≤ maxL) (hla : lv_args 0 av = la)
    (body : ∀ (p : Program) (e : Env) (s : State) (mm : MethodId) (below : List Frame) (meth : Method) (c0 : Code) (ls : Array Slot), p.tables.exec = Jvm.exec → c0.code = cc → meth.sig.returnType = ret → CallFix p mm c0 cc maxL s av.toArray ws yy.cls → meth.locks = false → Φ s s.heap → zK D y s → lv_has ls maxL la → meth.name = yy.name →
      W p l e rm s mm av.toArray below meth c0 s.heap [] 0 0 (MQ below Qc av.toArray s mc ms free) (F0 mm 0 ls [])) : Met l yy ws rm (zPg av Φ D y) Qc mc ms free := by
  refine Met.ofW (cc := cc) (maxL := maxL) (ret := ret) hy hw ?_
  intro p e s m args below meth c s₁ B hml hv
  obtain ⟨rfl, hΦ, hK⟩ := hv
  have hl := lv_entry av (n := maxL) hlen
  rw [hla] at hl
  rw [lg_entry_eq]
  exact body p e s m below meth c _ B.exec B.bytes B.returns ⟨B.exec, B.bytes, hml, findClass_of_methodNamed B.named, atoms_spec (ws := ws) B.pre⟩ B.notSynchronized hΦ hK hl (name_of_methodNamed B.named B.method).1
section ZG
variable {p : Program} {l : Launch} {e : Env} {R : Room} {s : State} {m : MethodId} {args : Array Value} {below : List Frame} {meth : Method} {c : Code} {H : Heap} {locs : List Loc} {cells slots : Nat} {Q : State → Prop}
variable {cc : ByteArray} {pc : Nat} {ls : Array Slot} {rest : List Value} {D : va_G} {y : zY}
variable {Ts ws : List Cond} {yy : MethodName} {bytes : ByteArray} {maxL nL index n mc ms : Nat} {own C : String} {ret : Option FieldType} {rm : Room} {Φ : State → Heap → Prop} {Ψ : Heap → Prop} {b : Nat} {As st0 : List Value} {v : Option Value} {A1 A : Nat → Prop} {H0 : Heap}
theorem z_callSG (hm : ∀ (u U : State) (H : Heap), u.vm.Alike U.vm → Φ u H → Φ U H) (S : CallFix p m c cc nL s args Ts own) (hK : zK D y s) (hM : Met l yy ws rm (zPg As Φ D y) (zQ v) 0 0 nofree) (cw : CallB R s args own index yy bytes maxL ret ws rm 0 0 n ∧ (Cond.static yy).before args s = true) (hΦ : Φ s H) (hn : As.length = n) (hsz : ls.size = nL) (hst : st0 = As.reverse ++ rest) (hW : (rest.map fun v => v.category).sum ≤ 8) (hdg : decode cc pc = .ok (.invokestatic index, 3)) (hcs : cells ≤ R.cells ∧ slots ≤ R.slots)
    (kk : W p l e R s m args below meth c H locs cells slots Q (F0 m (pc + 3) ls (v.toList ++ rest))) : W p l e R s m args below meth c H locs cells slots Q (F0 m pc ls st0) :=
  z_after (yy := yy) (W.runS (rest := rest) S hM cw ⟨zPg.blind hm, fun U hU hW => ⟨rfl, hm s U _ hW.alike (by rw [hU]; exact hΦ), hK.warm hW⟩⟩ rfl hn hsz hst (lv_room hW) hdg hcs) kk
theorem z_callVG (hm : ∀ (u U : State) (H : Heap), u.vm.Alike U.vm → Φ u H → Φ U H) (S : CallFix p m c cc nL s args Ts own) (hK : zK D y s) (hM : Met l yy ws rm (zPg (.ref b :: As) Φ D y) (zQ v) 0 0 nofree) (cw : CallW R s args own C index yy bytes maxL ret ws rm 0 0 n) (hrecv : ∃ cell : Cell, H[b]? = some cell ∧ cell.vm.isStatics = false ∧ s.vm.findClass C = some cell.cls) (hΦ : Φ s H) (hn : As.length = n) (hsz : ls.size = nL) (hst : st0 = As.reverse ++ .ref b :: rest) (hW : (rest.map fun v => v.category).sum ≤ 8) (hdg : decode cc pc = .ok (.invokevirtual index, 3)) (hcs : cells ≤ R.cells ∧ slots ≤ R.slots)
    (kk : W p l e R s m args below meth c H locs cells slots Q (F0 m (pc + 3) ls (v.toList ++ rest))) : W p l e R s m args below meth c H locs cells slots Q (F0 m pc ls st0) :=
  z_after (yy := yy) (W.runV (rest := rest) S hM cw ⟨zPg.blind hm, hrecv, fun U hU hW => ⟨rfl, hm s U _ hW.alike (by rw [hU]; exact hΦ), hK.warm hW⟩⟩ rfl hn hsz hst (lv_room hW) hdg hcs) kk
theorem w_callVG (hm : ∀ (u U : State) (H : Heap), u.vm.Alike U.vm → Φ u H → Φ U H) (S : CallFix p m c cc nL s args Ts own) (hK : zK D y s) (hM : Met l yy ws rm (zPg (.ref b :: As) Φ D y) (zW v Ψ A1) mc ms A1) (cw : CallW R s args own C index yy bytes maxL ret ws rm mc ms n) (hrecv : ∃ cell : Cell, H[b]? = some cell ∧ cell.vm.isStatics = false ∧ s.vm.findClass C = some cell.cls) (hΦ : Φ s H) (hS : va_S A H0 H locs) (hA : ∀ q, A1 q → A q) (hn : As.length = n) (hsz : ls.size = nL) (hst : st0 = As.reverse ++ .ref b :: rest) (hW : (rest.map fun v => v.category).sum ≤ 8) (hdg : decode cc pc = .ok (.invokevirtual index, 3)) (hcs : cells + mc ≤ R.cells ∧ slots + ms ≤ R.slots)
    (kk : ∀ (H1 : Heap) (locs1 : List Loc), Ψ H1 → H.size ≤ H1.size → (∀ q : Nat, q < H.size → ¬ A1 q → H1[q]? = H[q]?) → va_S A H0 H1 locs1 → W p l e R s m args below meth c H1 locs1 (cells + mc) (slots + ms) Q (F0 m (pc + 3) ls (v.toList ++ rest))) : W p l e R s m args below meth c H locs cells slots Q (F0 m pc ls st0) :=
  z_afterW (W.runV (rest := rest) S hM cw ⟨zPg.blind hm, hrecv, fun U hU hW => ⟨rfl, hm s U _ hW.alike (by rw [hU]; exact hΦ), hK.warm hW⟩⟩ rfl hn hsz hst (lv_room hW) hdg hcs) (fun H1 L h1 h2 h3 h4 => kk H1 _ h1 h2 h3 (hS.call h2 h3 (fun q _ h => hA q h) h4 hA))
end ZG
set_option maxRecDepth 100000 in
set_option maxHeartbeats 4000000 in
theorem c_X4_at_t (l : Launch) (D : va_G) (y : zY) (A : Nat → Prop) (t n : Nat) (f : Nat → Value) (g : Nat → Int32) (hfg : ∀ j, j < n → f j = .int (g j)) (i : Nat) (hi : i < n) (hn : n < 2147483648) : Met l yX4_at wsX4_at ({ frames := 0, cells := 0, slots := 0, locals := 0 }) (zPg [.ref t, .int (nI i)] (fun U H => va_T .int t n f A U H) D y) (zQ (some (.int (g i)))) 0 0 nofree := by
  refine z_bodyG (cc := cX4_at) (maxL := 2) (ret := (some .int)) (la := [(0, .ref t), (1, .int (nI i))]) (by decide) rfl (Nat.le_of_ble_eq_true rfl) rfl ?_
  intro pg ev s mm below meth c0 ls hx hb hr hF hlocks hΦ hK hl _
  refine lv_iload_n hx hb dX4_at_0 rfl (lv_at hl 1 rfl) ?_
  refine n_if_lt (tgt := 16) hx hb (by omega) dX4_at_1 (by decide) ?_
  refine lv_iload_n hx hb dX4_at_4 rfl (lv_at hl 1 rfl) ?_
  refine lv_aload_n hx hb dX4_at_5 rfl (lv_at hl 0 rfl) ?_
  refine va_tlen (v := nI n) hx hb hΦ va_S.rf rfl dX4_at_6 ?_
  refine z_ge (tgt := 16) hx hb (by omega) (by omega) dX4_at_7 (by decide) (fun c7 => ?_) (fun c7 => ?_)
  · exact absurd c7 (by omega)
  · refine lv_aload_n hx hb dX4_at_10 rfl (lv_at hl 0 rfl) ?_
    refine lv_iload_n hx hb dX4_at_11 rfl (lv_at hl 1 rfl) ?_
    refine va_ti (v := .int (g i)) hx hb hΦ va_S.rf (vp_in_nI hi hn) (by rw [nI_clamp (Nat.lt_trans hi hn)]; exact hfg i hi) dX4_at_12 ?_
    refine lv_goto (tgt := 17) hx hb dX4_at_13 (by decide) ?_
    exact z_reti hx hb hr hlocks rfl (rfl) dX4_at_17
theorem okSet_j {j : Nat} {v : Int32} (h : j < 3) : okSet (nI j) v = inB v (nI (setL j)) (nI (setM j)) := by
  rcases (show j = 0 ∨ j = 1 ∨ j = 2 by omega) with rfl | rfl | rfl
  · unfold okSet; rw [if_pos (by decide)]; rfl
  · unfold okSet; rw [if_neg (by decide), if_pos rfl]; rfl
  · unfold okSet; rw [if_neg (by decide), if_neg (by decide), if_pos rfl]; rfl
theorem i_c_X4_set_ok_X4 : ∀ w ∈ wsX40, w ∈ wsX4_set := fun w h => (List.mem_cons_of_mem _ (List.mem_append_left _ (List.mem_append_left _ (List.mem_append_left _ (List.mem_append_right _ h)))))
theorem i_c_X4_set_ok_X2 : ∀ w ∈ wsX20, w ∈ wsX4_set := fun w h => (List.mem_cons_of_mem _ (List.mem_append_left _ (List.mem_append_left _ (List.mem_append_right _ h))))
set_option maxRecDepth 100000 in
set_option maxHeartbeats 4000000 in
theorem c_X4_set_ok (l : Launch) (D : va_G) (y : zY) (x : Nat) (bd : Nat) (d : Nat → Int32) (ca : Nat → Nat) (pa : Nat → Nat) (pk : Nat → Nat) (T : Pic) (P : Nat → Pic) (k : Nat) (rot : Nat) (len : Nat) (ts : Int32) (tn : Nat) (tx : Nat → Int32) (w : Nat) (v : Int32) (hJ : rJ d) (hk4 : k ≤ 4) (hbd : x + 70 ≤ bd) (hw : w < 3) (hv : inB v (nI (setL w)) (nI (setM w)) = true) : Met l yX4_set wsX4_set ({ frames := 5, cells := 0, slots := 0, locals := 113 }) (zPg [.ref x, .int (nI w), .int v] (fun U H => xO D y bd x (d, ca, pa, pk) T P k rot len ts tn tx H ∧ zZ (xB x bd) U H) D y) (zW (some (.int (wfC (upd d (1 + w) v) (vn (upd d (1 + w) v))))) (fun H => xO D y bd x (wfD (upd d (1 + w) v) (vn (upd d (1 + w) v)), ca, pa, pk) T (remP P k rot (d, ca, pa, pk)) (recN k) (remR k rot) len ts tn tx H) (xB x bd)) 0 0 (xB x bd) := by
  refine z_bodyG (cc := cX4_set) (maxL := 3) (ret := (some .int)) (la := [(0, .ref x), (1, .int (nI w)), (2, .int v)]) (by decide) rfl (Nat.le_of_ble_eq_true rfl) rfl ?_
  intro pg ev s mm below meth c0 ls hx hb hr hF hlocks hΦ hK hl _
  have hts := hF.2.2.2.2
  have hown : s.vm.findClass RX4 = some mm.cls := hF.2.2.2.1
  have hS : va_S (xB x bd) s.heap s.heap [] := va_S.rf
  have hI := hJ.1
  have hv24 := hJ.2.1
  have hpl := hJ.2.2.1
  have hS9 := hpl.w
  have hG2 := hI.ng2
  have hC8 := hI.nc8
  obtain ⟨t1, t2, hZ1, hT1, hZ2, hT2⟩ := id hΦ.2
  obtain ⟨pf, f2, f3, f4, f5, f6, hP, hps, hX⟩ := hΦ.1
  obtain ⟨cs, ns, se, wi, al, re, gi, ps, ss, vs, hQ, hR, hC, hE, hT⟩ := (show sD D y bd (x + 1) d ca pa pk s.heap from hX.1)
  refine lv_iload_n hx hb dX4_set_0 rfl (lv_at hl 1 rfl) ?_
  refine lv_iconst (v := (nI 0)) hx hb dX4_set_1 (by decide) ?_
  refine lv_iconst (v := (nI 2)) hx hb dX4_set_2 (by decide) ?_
  refine z_callS (As := [.int (nI w), .int (nI 0), .int (nI 2)]) (rest := []) hF hK (c_X4_isIn l D y (nI w) (nI 0) (nI 2) ) (va_cwS 3 hts gX4_set_X4_isIn rfl rfl rfl (by decide +kernel) ⟨Nat.le_of_ble_eq_true rfl, Nat.le_of_ble_eq_true rfl⟩) trivial rfl hl.1 rfl (Nat.le_of_ble_eq_true rfl) dX4_set_3 ⟨Nat.zero_le _, Nat.zero_le _⟩ ?_
  refine z_ifeq (tgt := 30) hx hb dX4_set_6 (by decide) (fun c6 => ?_) (fun c6 => ?_)
  · first | exact absurd (inB_of (lo := 0) (hi := 2) (Nat.zero_le w) (by omega) (by decide)) (bf c6) | exact absurd hv (bf c27)
  · refine lv_iload_n hx hb dX4_set_9 rfl (lv_at hl 2 rfl) ?_
    refine va_gets hx hb hZ1 va_S.rf hown (hts (.fieldLink RX4 109 "CranePermits" "SETTING_LEAST" "[I") (List.mem_of_getElem? (i := 1) rfl)) (fun _ h => h) dX4_set_10 ?_
    refine lv_iload_n hx hb dX4_set_13 rfl (lv_at hl 1 rfl) ?_
    refine z_callSG (Φ := fun U H => va_T .int t1 3 stL (xB x bd) U H) (rm := { frames := 0, cells := 0, slots := 0, locals := 0 }) (As := [.ref t1, .int (nI w)]) (rest := [.int v]) (fun u U H h q => va_T.moved h q) hF hK (c_X4_at_t l D y (xB x bd) t1 3 stL (fun j => nI (setL j)) (fun _ _ => rfl) w (by omega) (by decide)) (va_cwS 2 hts gX4_set_X4_at rfl rfl rfl (by decide +kernel) ⟨Nat.le_of_ble_eq_true rfl, Nat.le_of_ble_eq_true rfl⟩) hT1 rfl hl.1 rfl (Nat.le_of_ble_eq_true rfl) dX4_set_14 ⟨Nat.zero_le _, Nat.zero_le _⟩ ?_
    refine va_gets hx hb hZ2 va_S.rf hown (hts (.fieldLink RX4 112 "CranePermits" "SETTING_MOST" "[I") (List.mem_of_getElem? (i := 2) rfl)) (fun _ h => h) dX4_set_17 ?_
    refine lv_iload_n hx hb dX4_set_20 rfl (lv_at hl 1 rfl) ?_
    refine z_callSG (Φ := fun U H => va_T .int t2 3 stM (xB x bd) U H) (rm := { frames := 0, cells := 0, slots := 0, locals := 0 }) (As := [.ref t2, .int (nI w)]) (rest := [.int (nI (setL w)), .int v]) (fun u U H h q => va_T.moved h q) hF hK (c_X4_at_t l D y (xB x bd) t2 3 stM (fun j => nI (setM j)) (fun _ _ => rfl) w (by omega) (by decide)) (va_cwS 2 hts gX4_set_X4_at rfl rfl rfl (by decide +kernel) ⟨Nat.le_of_ble_eq_true rfl, Nat.le_of_ble_eq_true rfl⟩) hT2 rfl hl.1 rfl (Nat.le_of_ble_eq_true rfl) dX4_set_21 ⟨Nat.zero_le _, Nat.zero_le _⟩ ?_
    refine z_callS (As := [.int v, .int (nI (setL w)), .int (nI (setM w))]) (rest := []) hF hK (c_X4_isIn l D y v (nI (setL w)) (nI (setM w)) ) (va_cwS 3 hts gX4_set_X4_isIn rfl rfl rfl (by decide +kernel) ⟨Nat.le_of_ble_eq_true rfl, Nat.le_of_ble_eq_true rfl⟩) trivial rfl hl.1 rfl (Nat.le_of_ble_eq_true rfl) dX4_set_24 ⟨Nat.zero_le _, Nat.zero_le _⟩ ?_
    refine z_ifne (tgt := 34) hx hb dX4_set_27 (by decide) (fun c27 => ?_) (fun c27 => ?_)
    · refine lv_aload_n hx hb dX4_set_34 rfl (lv_at hl 0 rfl) ?_
      refine w_callV (As := []) (rest := []) hF hK (c_X4_remember l D y x bd d ca pa pk T P k rot len ts tn tx (hJ) (hk4) (hbd)) (cwV 0 hts gX4_set_X4_remember rfl rfl rfl (by decide +kernel) ⟨Nat.le_of_ble_eq_true rfl, Nat.le_of_ble_eq_true rfl⟩) (z_recv (q := (RX4, TX4, 5)) hK (hP 0 _ rfl) rfl) ⟨_, _, _, _, _, _, hP, hps, hX⟩ hS (fun q h => h) rfl hl.1 rfl (Nat.le_of_ble_eq_true rfl) dX4_set_35 ⟨Nat.zero_le _, Nat.zero_le _⟩ (fun H1 locs1 hq hz1 hk hS => ?_)
      clear hP hX hps
      obtain ⟨pf, f2, f3, f4, f5, f6, hP, hps, hX⟩ := hq
      clear hz1 hk
      obtain ⟨cs, ns, se, wi, al, re, gi, ps, ss, vs, hQ, hR, hC, hE, hT⟩ := (show sD D y bd (x + 1) d ca pa pk H1 from hX.1)
      refine lv_aload_n hx hb dX4_set_38 rfl (lv_at hl 0 rfl) ?_
      refine z_get (fs := [.ref (x + 1), .ref (x + 12), .ref (x + 23), .int (nI (recN k)), .ref (x + 24)]) (ref := "CranePermits") (C := RX4) (T := TX4) (N := 5) (ci := 4) (v := .ref (x + 1)) hx hb hts i_c_X4_set_ok_X4 hown hK (hP 0 _ rfl) 0 (by decide) rfl (hts (.fieldLink RX4 10 "CranePermits" "now" "LCranePermits$Site;") (List.mem_of_getElem? (i := 3) rfl)) rfl rfl dX4_set_39 ?_
      refine z_get (fs := [.ref ((x + 1) + 1), .int (nI (nC d)), .ref ((x + 1) + 2), .ref ((x + 1) + 3), .ref ((x + 1) + 4), .ref ((x + 1) + 5), .ref ((x + 1) + 6), .ref ((x + 1) + 7), .ref ((x + 1) + 8), .int (nI (nG d)), .ref ((x + 1) + 9), .ref ((x + 1) + 10), .int (nI (vn d))]) (ref := "CranePermits$Site") (C := RX2) (T := TX2) (N := 13) (ci := 2) (v := .ref ((x + 1) + 3)) hx hb hts i_c_X4_set_ok_X2 hown hK (hQ 0 _ rfl) 3 (by decide) rfl (hts (.fieldLink RX4 115 "CranePermits$Site" "settings" "[I") (List.mem_of_getElem? (i := 4) rfl)) rfl rfl dX4_set_42 ?_
      refine lv_iload_n hx hb dX4_set_45 rfl (lv_at hl 1 rfl) ?_
      refine lv_iload_n hx hb dX4_set_46 rfl (lv_at hl 2 rfl) ?_
      refine w_callS (As := [.ref ((x + 1) + 3), .int (nI w), .int v]) (rest := []) hF hK (c_X4_put l D y ((x + 1) + 3) 3 se w v (by omega) (by decide)) (va_cwS 3 hts gX4_set_X4_put rfl rfl rfl (by decide +kernel) ⟨Nat.le_of_ble_eq_true rfl, Nat.le_of_ble_eq_true rfl⟩) (pw_P (hQ 3 _ rfl)) hS (fun q h => by rw [show q = _ from h]; exact xb_k (k := 4) (by decide)) rfl hl.1 rfl (Nat.le_of_ble_eq_true rfl) dX4_set_47 ⟨Nat.zero_le _, Nat.zero_le _⟩ (fun H2 locs1 hq hz1 hk hS => ?_)
      have hN1 : sD D y bd (x + 1) (upd d (1 + w) v) ca pa pk H2 := put_se hQ hR hC hE hT hI (by omega) (by omega) hk hq
      have hk1 : ∀ q : Nat, q < H1.size → ¬ blk (x + 1) 11 q → H2[q]? = H1[q]? := fun q h1 h2 => hk q h1 (fun e => h2 (by rw [e]; exact blk_k (by decide)))
      have hP := xW7_k hP hk1 nA_N
      have hX := hX.setN hbd hk1 (show sP D y bd (x + 1) (upd d (1 + w) v, ca, pa, pk) H2 from hN1)
      clear hq hz1 hk hk1 hN1
      obtain ⟨cs, ns, se, wi, al, re, gi, ps, ss, vs, hQ, hR, hC, hE, hT⟩ := (show sD D y bd (x + 1) (upd d (1 + w) v) ca pa pk H2 from hX.1)
      refine lv_aload_n hx hb dX4_set_50 rfl (lv_at hl 0 rfl) ?_
      refine z_get (fs := [.ref (x + 1), .ref (x + 12), .ref (x + 23), .int (nI (recN k)), .ref (x + 24)]) (ref := "CranePermits") (C := RX4) (T := TX4) (N := 5) (ci := 4) (v := .ref (x + 1)) hx hb hts i_c_X4_set_ok_X4 hown hK (hP 0 _ rfl) 0 (by decide) rfl (hts (.fieldLink RX4 10 "CranePermits" "now" "LCranePermits$Site;") (List.mem_of_getElem? (i := 3) rfl)) rfl rfl dX4_set_51 ?_
      refine w_callV (As := []) (rest := []) hF hK (c_X2_withdrawFailing l D y bd (x + 1) (upd d (1 + w) v) ca pa pk ((hI.low (1 + w) (by omega) v).1) ((rJ_upd hJ (k := 1 + w) (by omega) (by omega)).1) ((rJ_upd hJ (k := 1 + w) (by omega) (by omega)).2) (by omega)) (cwV 0 hts gX4_set_X2_withdrawFailing rfl rfl rfl (by decide +kernel) ⟨Nat.le_of_ble_eq_true rfl, Nat.le_of_ble_eq_true rfl⟩) (sD_recv hK hX.1) hX.1 hS (fun q h => xb_b (by omega) (by omega) h) rfl hl.1 rfl (Nat.le_of_ble_eq_true rfl) dX4_set_54 ⟨Nat.zero_le _, Nat.zero_le _⟩ (fun H3 locs1 hq hz1 hk hS => ?_)
      have hP := xW7_k hP hk nA_N
      have hX := hX.setN hbd hk (show sP D y bd (x + 1) (wfD (upd d (1 + w) v) (vn (upd d (1 + w) v)), ca, pa, pk) H3 from hq)
      clear hq hz1 hk
      exact w_reti hx hb hr hlocks hS (⟨_, _, _, _, _, _, hP, hps, hX⟩) (rfl) dX4_set_57
    · first | exact absurd (inB_of (lo := 0) (hi := 2) (Nat.zero_le w) (by omega) (by decide)) (bf c6) | exact absurd hv (bf c27)
set_option maxRecDepth 100000 in
set_option maxHeartbeats 4000000 in
theorem c_X4_set_no (l : Launch) (D : va_G) (y : zY) (x : Nat) (bd : Nat) (d : Nat → Int32) (ca : Nat → Nat) (pa : Nat → Nat) (pk : Nat → Nat) (k : Nat) (len : Nat) (tf : Nat → Int32) (w : Int32) (v : Int32) (hJ : rJ d) (hk4 : k ≤ 4) (hl80 : len ≤ 80) (hno : okSet w v = false) : Met l yX4_set wsX4_set ({ frames := 1, cells := 0, slots := 0, locals := 22 }) (zPg [.ref x, .int w, .int v] (fun U H => clR D y x bd d ca pa pk k len tf H ∧ zZ (xB x bd) U H) D y) (zQ (some (.int (-1001)))) 0 0 nofree := by
  refine z_bodyG (cc := cX4_set) (maxL := 3) (ret := (some .int)) (la := [(0, .ref x), (1, .int w), (2, .int v)]) (by decide) rfl (Nat.le_of_ble_eq_true rfl) rfl ?_
  intro pg ev s mm below meth c0 ls hx hb hr hF hlocks hΦ hK hl _
  have hts := hF.2.2.2.2
  have hown : s.vm.findClass RX4 = some mm.cls := hF.2.2.2.1
  obtain ⟨t1, t2, hZ1, hT1, hZ2, hT2⟩ := id hΦ.2
  have hI := hJ.1
  have hv24 := hJ.2.1
  have hpl := hJ.2.2.1
  have hS := hpl.w
  have hG2 := hI.ng2
  have hC8 := hI.nc8
  have hS0 := hΦ.1.2.2
  obtain ⟨cs, ns, se, wi, al, re, gi, ps, ss, vs, hP, hR, hC, hE, hT⟩ := hS0
  refine lv_iload_n hx hb dX4_set_0 rfl (lv_at hl 1 rfl) ?_
  refine lv_iconst (v := (nI 0)) hx hb dX4_set_1 (by decide) ?_
  refine lv_iconst (v := (nI 2)) hx hb dX4_set_2 (by decide) ?_
  refine z_callS (As := [.int w, .int (nI 0), .int (nI 2)]) (rest := []) hF hK (c_X4_isIn l D y w (nI 0) (nI 2) ) (va_cwS 3 hts gX4_set_X4_isIn rfl rfl rfl (by decide +kernel) ⟨Nat.le_of_ble_eq_true rfl, Nat.le_of_ble_eq_true rfl⟩) trivial rfl hl.1 rfl (Nat.le_of_ble_eq_true rfl) dX4_set_3 ⟨Nat.zero_le _, Nat.zero_le _⟩ ?_
  refine z_ifeq (tgt := 30) hx hb dX4_set_6 (by decide) (fun c6 => ?_) (fun c6 => ?_)
  · refine lv_sipush (v := (-1001)) hx hb dX4_set_30 (by decide) ?_
    exact z_reti hx hb hr hlocks rfl (rfl) dX4_set_33
  · obtain ⟨j, lj, hj, rfl⟩ := inB_nat (by decide) c6 (by decide)
    have ej : cl (nI j) = j := cl_nI (by omega)
    refine lv_iload_n hx hb dX4_set_9 rfl (lv_at hl 2 rfl) ?_
    refine va_gets hx hb hZ1 va_S.rf hown (hts (.fieldLink RX4 109 "CranePermits" "SETTING_LEAST" "[I") (List.mem_of_getElem? (i := 1) rfl)) (fun _ h => h) dX4_set_10 ?_
    refine lv_iload_n hx hb dX4_set_13 rfl (lv_at hl 1 rfl) ?_
    refine z_callSG (Φ := fun U H => va_T .int t1 3 stL (xB x bd) U H) (rm := { frames := 0, cells := 0, slots := 0, locals := 0 }) (As := [.ref t1, .int (nI j)]) (rest := [.int v]) (fun u U H h q => va_T.moved h q) hF hK (c_X4_at_t l D y (xB x bd) t1 3 stL (fun j => nI (setL j)) (fun _ _ => rfl) j (by omega) (by decide)) (va_cwS 2 hts gX4_set_X4_at rfl rfl rfl (by decide +kernel) ⟨Nat.le_of_ble_eq_true rfl, Nat.le_of_ble_eq_true rfl⟩) hT1 rfl hl.1 rfl (Nat.le_of_ble_eq_true rfl) dX4_set_14 ⟨Nat.zero_le _, Nat.zero_le _⟩ ?_
    refine va_gets hx hb hZ2 va_S.rf hown (hts (.fieldLink RX4 112 "CranePermits" "SETTING_MOST" "[I") (List.mem_of_getElem? (i := 2) rfl)) (fun _ h => h) dX4_set_17 ?_
    refine lv_iload_n hx hb dX4_set_20 rfl (lv_at hl 1 rfl) ?_
    refine z_callSG (Φ := fun U H => va_T .int t2 3 stM (xB x bd) U H) (rm := { frames := 0, cells := 0, slots := 0, locals := 0 }) (As := [.ref t2, .int (nI j)]) (rest := [.int (nI (setL j)), .int v]) (fun u U H h q => va_T.moved h q) hF hK (c_X4_at_t l D y (xB x bd) t2 3 stM (fun j => nI (setM j)) (fun _ _ => rfl) j (by omega) (by decide)) (va_cwS 2 hts gX4_set_X4_at rfl rfl rfl (by decide +kernel) ⟨Nat.le_of_ble_eq_true rfl, Nat.le_of_ble_eq_true rfl⟩) hT2 rfl hl.1 rfl (Nat.le_of_ble_eq_true rfl) dX4_set_21 ⟨Nat.zero_le _, Nat.zero_le _⟩ ?_
    refine z_callS (As := [.int v, .int (nI (setL j)), .int (nI (setM j))]) (rest := []) hF hK (c_X4_isIn l D y v (nI (setL j)) (nI (setM j)) ) (va_cwS 3 hts gX4_set_X4_isIn rfl rfl rfl (by decide +kernel) ⟨Nat.le_of_ble_eq_true rfl, Nat.le_of_ble_eq_true rfl⟩) trivial rfl hl.1 rfl (Nat.le_of_ble_eq_true rfl) dX4_set_24 ⟨Nat.zero_le _, Nat.zero_le _⟩ ?_
    refine z_ifne (tgt := 34) hx hb dX4_set_27 (by decide) (fun c27 => ?_) (fun c27 => ?_)
    · exact absurd ((okSet_j (by omega)).trans c27) (bf hno)
    · refine lv_sipush (v := (-1001)) hx hb dX4_set_30 (by decide) ?_
      exact z_reti hx hb hr hlocks rfl (rfl) dX4_set_33
