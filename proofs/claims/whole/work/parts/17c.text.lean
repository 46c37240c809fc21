/-! THE CLASS: the run over a text -/
section ZC2
variable {p : Program} {l : Launch} {e : Env} {R : Room} {s : State} {m : MethodId} {args : Array Value} {below : List Frame} {meth : Method} {c : Code} {H : Heap} {locs : List Loc} {cells slots : Nat} {Q : State → Prop} {pc : Nat} {ls : Array Slot}
/-- a loop that makes objects: what was made so far is counted -/
theorem z_loopC {S : Type} {nL : Nat} {cN sN : S → Nat} (μ : S → Nat) (Lf : S → List (Nat × Value)) (I : S → Heap → List Loc → Prop) (σ0 : S) (hI : I σ0 H locs) (hl : lv_has ls nL (Lf σ0)) (hc : cells = cN σ0) (hs : slots = sN σ0)
    (step : ∀ (σ : S) (H : Heap) (locs : List Loc) (ls : Array Slot), I σ H locs → lv_has ls nL (Lf σ) → (∀ (σ' : S) (H' : Heap) (locs' : List Loc) (ls' : Array Slot), μ σ' < μ σ → I σ' H' locs' → lv_has ls' nL (Lf σ') → W p l e R s m args below meth c H' locs' (cN σ') (sN σ') Q (F0 m pc ls' [])) → W p l e R s m args below meth c H locs (cN σ) (sN σ) Q (F0 m pc ls [])) :
    W p l e R s m args below meth c H locs cells slots Q (F0 m pc ls []) := by
  have key : ∀ (n : Nat) (σ : S) (H : Heap) (locs : List Loc) (ls : Array Slot), μ σ < n → I σ H locs → lv_has ls nL (Lf σ) → W p l e R s m args below meth c H locs (cN σ) (sN σ) Q (F0 m pc ls []) := by
    intro n
    induction n with
    | zero => intro σ H locs ls h; exact absurd h (Nat.not_lt_zero _)
    | succ n ih => intro σ H locs ls h h1 h2; exact step σ H locs ls h1 h2 (fun σ' H' locs' ls' h3 h4 h5 => ih σ' H' locs' ls' (by omega) h4 h5)
  subst hc hs
  exact key _ σ0 H locs ls (Nat.lt_succ_self _) hI hl
end ZC2
theorem i_c_X4_tryText_X4 : ∀ w ∈ wsX40, w ∈ wsX4_tryText := fun w h => (List.mem_cons_of_mem _ (List.mem_append_left _ (List.mem_append_left _ (List.mem_append_left _ (List.mem_append_left _ (List.mem_append_right _ h))))))
theorem i_c_X4_tryText_X3 : ∀ w ∈ wsX30, w ∈ wsX4_tryText := fun w h => (List.mem_cons_of_mem _ (List.mem_append_left _ (List.mem_append_left _ (List.mem_append_left _ (List.mem_append_right _ h)))))
set_option maxRecDepth 100000 in
set_option maxHeartbeats 4000000 in
theorem c_X4_tryText (l : Launch) (D : va_G) (y : zY) (x : Nat) (bd : Nat) (N : Pic) (d : Nat → Int32) (ca : Nat → Nat) (pa : Nat → Nat) (pk : Nat → Nat) (P : Nat → Pic) (k : Nat) (rot : Nat) (len : Nat) (ts : Int32) (tn : Nat) (tx : Nat → Int32) (hJ : rJ d) (hk4 : k ≤ 4) (hbd : x + 70 ≤ bd) (hl80 : len ≤ 80) : Met l yX4_tryText wsX4_tryText ({ frames := 5, cells := 16, slots := 112, locals := 127 }) (zP [.ref x] (fun H => xO D y bd x N (d, ca, pa, pk) P k rot len ts tn tx H ∧ bd ≤ H.size) D y) (zW (some (.int (tryR d tx len))) (fun H => ∃ (c1 p1 k1 : Nat → Nat) (t9 : Int32) (n9 : Nat), xO D y bd x N (fD d tx len (fN d tx len), c1, p1, k1) P k rot len t9 n9 tx H ∧ (¬ fPl d tx len = (-1004) → t9 = fPl d tx len)) (xB x bd)) 16 112 (xB x bd) := by
  refine z_body (cc := cX4_tryText) (maxL := 3) (ret := (some .int)) (la := [(0, .ref x)]) (by decide) rfl (Nat.le_of_ble_eq_true rfl) rfl ?_
  intro pg ev s mm below meth c0 ls hx hb hr hF hlocks hΦ hK hl _
  have hts := hF.2.2.2.2
  have hown : s.vm.findClass RX4 = some mm.cls := hF.2.2.2.1
  have hS : va_S (xB x bd) s.heap s.heap [] := va_S.rf
  have hI := hJ.1
  have hv24 := hJ.2.1
  have hpl := hJ.2.2.1
  have hS9 := hpl.w
  have hG2 := hI.ng2
  have hC8 := hI.nc8
  have hb0 := hΦ.2
  obtain ⟨pf, f2, f3, f4, f5, f6, hP, hps, hX⟩ := hΦ.1
  refine lv_aload_n hx hb dX4_tryText_0 rfl (lv_at hl 0 rfl) ?_
  refine z_get (fs := [.ref (x + 1), .ref (x + 12), .ref (x + 23), .int (nI k), .ref (x + 24)]) (ref := "CranePermits") (C := RX4) (T := TX4) (N := 5) (ci := 4) (v := .ref (x + 24)) hx hb hts i_c_X4_tryText_X4 hown hK (hP 0 _ rfl) 4 (by decide) rfl (hts (.fieldLink RX4 30 "CranePermits" "text" "LCranePermits$Text;") (List.mem_of_getElem? (i := 1) rfl)) rfl rfl dX4_tryText_1 ?_
  refine lv_iconst (v := (nI 0)) hx hb dX4_tryText_4 (by decide) ?_
  refine y_put (a := (x + 24)) (fs := [.ref (x + 25), .int (nI len), .int ts, .int (nI tn), .int (bI f2), .int f3, .int f4, .int f5, .int f6]) (ref := "CranePermits$Text") (C := RX3) (T := TX3) (N := 9) (ci := 3) (v := .int (nI 0)) (ty := .int) hx hb hts i_c_X4_tryText_X3 tyX3 tyX3_ok nmX3 hown hK (hP 2 _ rfl) 3 (by decide) rfl (hts (.fieldLink RX4 268 "CranePermits$Text" "next" "I") (List.mem_of_getElem? (i := 2) rfl)) rfl rfl (by decide +kernel) (rfl) rfl (Nat.le_of_ble_eq_true rfl) dX4_tryText_5 (fun H1 x1 hU hV => ?_)
  have hS := hS.upd (x := x1) hU (xb_k (by decide))
  have hX := hX.upd hbd 24 (by decide) hU
  have hP : va_P D vwCl (xW7 y x (nI k) pf (nI len) ts (nI 0) (bI f2) f3 f4 f5 f6 tx) H1 := hP.upd (q0 := 2) xW7_D rfl hU hV
  clear hU hV
  refine lv_iconst (v := (nI 0)) hx hb dX4_tryText_8 (by decide) ?_
  refine lv_istore_n (lv' := [(1, .int (nI 0)), (0, .ref x)]) hx hb dX4_tryText_9 rfl hl (by decide) rfl (fun ls hl => ?_)
  have hP : va_P D vwCl (xW7 y x (nI k) pf (nI len) ts (nI 0) (bI f2) f3 f4 f5 f6 tx) H1 := hP
  have hM : xO D y bd x N (d, ca, pa, pk) P k rot len ts 0 tx H1 := ⟨_, _, _, _, _, _, hP, hps, hX⟩
  refine z_loopC (S := Nat × (Nat → Nat) × (Nat → Nat) × (Nat → Nat) × Int32) (nL := 3) (cN := fun σ => σ.1) (sN := fun σ => 7 * σ.1) (fun σ => 20 - σ.1) (fun σ => [(1, .int (nI σ.1)), (0, .ref x)]) (fun σ H locs => match σ with | (i, c1, p1, k1, t9) => xO D y bd x N (fD d tx len i, c1, p1, k1) P k rot len t9 (fA d tx len i) tx H ∧ va_S (xB x bd) s.heap H locs ∧ (∀ j, j < i → (!goB d tx len j) = false)) (0, ca, pa, pk, ts) ⟨hM, hS, fun j hj => absurd hj (Nat.not_lt_zero j)⟩ (lv_sub hl [0, 1] rfl) rfl rfl ?_
  clear hl hP hps hX hM hS
  rintro ⟨i, c1, p1, k1, t9⟩ H2 locs ls ⟨hM, hS, hall⟩ hl ih
  dsimp only at hM hl ih ⊢
  have hal := fA_le hall
  have hag := fA_ge d tx len i
  have hzJ := (fD_J (tx := tx) (len := len) hJ hall).1
  have hsz := hS.1
  obtain ⟨pf, f2, f3, f4, f5, f6, hP, hps, hX⟩ := id hM
  refine lv_iload_n hx hb dX4_tryText_10 rfl (lv_at hl 0 rfl) ?_
  refine lv_bipush (v := (nI 80)) hx hb dX4_tryText_11 (by decide) ?_
  refine z_ge (tgt := 50) hx hb (by omega) (by omega) dX4_tryText_13 (by decide) (fun c13 => ?_) (fun c13 => ?_)
  · exact absurd c13 (by omega)
  · refine lv_aload_n hx hb dX4_tryText_16 rfl (lv_at hl 1 rfl) ?_
    refine z_get (fs := [.ref (x + 1), .ref (x + 12), .ref (x + 23), .int (nI k), .ref (x + 24)]) (ref := "CranePermits") (C := RX4) (T := TX4) (N := 5) (ci := 4) (v := .ref (x + 24)) hx hb hts i_c_X4_tryText_X4 hown hK (hP 0 _ rfl) 4 (by decide) rfl (hts (.fieldLink RX4 30 "CranePermits" "text" "LCranePermits$Text;") (List.mem_of_getElem? (i := 1) rfl)) rfl rfl dX4_tryText_17 ?_
    refine z_get (fs := [.ref (x + 25), .int (nI len), .int t9, .int (nI (fA d tx len i)), .int (bI f2), .int f3, .int f4, .int f5, .int f6]) (ref := "CranePermits$Text") (C := RX3) (T := TX3) (N := 9) (ci := 3) (v := .int (nI (fA d tx len i))) hx hb hts i_c_X4_tryText_X3 hown hK (hP 2 _ rfl) 3 (by decide) rfl (hts (.fieldLink RX4 268 "CranePermits$Text" "next" "I") (List.mem_of_getElem? (i := 2) rfl)) rfl rfl dX4_tryText_20 ?_
    refine lv_aload_n hx hb dX4_tryText_23 rfl (lv_at hl 1 rfl) ?_
    refine z_get (fs := [.ref (x + 1), .ref (x + 12), .ref (x + 23), .int (nI k), .ref (x + 24)]) (ref := "CranePermits") (C := RX4) (T := TX4) (N := 5) (ci := 4) (v := .ref (x + 24)) hx hb hts i_c_X4_tryText_X4 hown hK (hP 0 _ rfl) 4 (by decide) rfl (hts (.fieldLink RX4 30 "CranePermits" "text" "LCranePermits$Text;") (List.mem_of_getElem? (i := 1) rfl)) rfl rfl dX4_tryText_24 ?_
    refine z_get (fs := [.ref (x + 25), .int (nI len), .int t9, .int (nI (fA d tx len i)), .int (bI f2), .int f3, .int f4, .int f5, .int f6]) (ref := "CranePermits$Text") (C := RX3) (T := TX3) (N := 9) (ci := 3) (v := .int (nI len)) hx hb hts i_c_X4_tryText_X3 hown hK (hP 2 _ rfl) 1 (by decide) rfl (hts (.fieldLink RX4 168 "CranePermits$Text" "length" "I") (List.mem_of_getElem? (i := 3) rfl)) rfl rfl dX4_tryText_27 ?_
    refine z_ge (tgt := 50) hx hb (by omega) (by omega) dX4_tryText_30 (by decide) (fun c30 => ?_) (fun c30 => ?_)
    · obtain ⟨hN, hPl, hR0⟩ := try_ok hl80 hall c30
      refine W.widen (k := 16) (n := 112) (by omega) (by omega) ?_
      refine lv_iconst (v := (nI 0)) hx hb dX4_tryText_50 (by decide) ?_
      exact w_reti hx hb hr hlocks hS (⟨_, _, _, _, _, by rw [hN]; exact hM, fun q => absurd hPl q⟩) (hR0) dX4_tryText_51
    · refine lv_aload_n hx hb dX4_tryText_33 rfl (lv_at hl 1 rfl) ?_
      by_cases hone : oneB (fD d tx len i) tx len (fA d tx len i) = true
      · refine w_callV (As := []) (rest := []) hF hK (c_X4_tryApplication_ok l D y x bd N (fD d tx len i) c1 p1 k1 P k rot len t9 (fA d tx len i) tx (hzJ) (hk4) (hbd) (hl80) (hal) (hone)) (cwV 0 hts gX4_tryText_X4_tryApplication rfl rfl rfl (by decide +kernel) ⟨Nat.le_of_ble_eq_true rfl, Nat.le_of_ble_eq_true rfl⟩) (z_recv (q := (RX4, TX4, 5)) hK (hP 0 _ rfl) rfl) ⟨hM, Nat.le_trans hb0 hsz⟩ hS (fun q h => h) rfl hl.1 rfl (Nat.le_of_ble_eq_true rfl) dX4_tryText_34 ⟨by show i + _ ≤ 16; omega, by show 7 * i + _ ≤ 112; omega⟩ (fun H3 locs1 hq hz1 hk hS => ?_)
        clear hM hP hps hX
        obtain ⟨q9, hM⟩ := hq
        clear hz1 hk
        refine lv_istore_n (lv' := [(2, .int (nI 0)), (1, .int (nI i)), (0, .ref x)]) hx hb dX4_tryText_37 rfl hl (by decide) rfl (fun ls hl => ?_)
        refine lv_iload_n hx hb dX4_tryText_38 rfl (lv_at hl 0 rfl) ?_
        refine n_if_eq (tgt := 44) hx hb (by omega) dX4_tryText_39 (by decide) (fun _ => ?_) (fun c => absurd c (by decide))
        refine lv_iinc (v := (nI (i + 1))) (lv' := [(1, .int (nI (i + 1))), (2, .int (nI 0)), (0, .ref x)]) hx hb dX4_tryText_44 hl (k := 1) rfl (in1 _) (by decide) rfl (fun ls hl => ?_)
        refine lv_goto (tgt := 10) hx hb dX4_tryText_47 (by decide) ?_
        exact ih (i + 1, c1, va_up p1 _ q9, va_up k1 _ _, _) _ _ _ (by show 20 - (i + 1) < 20 - i; omega) ⟨hM, hS, lt_sc hall (go_t c30 hone)⟩ (lv_sub hl [0, 2] rfl)
      · have hone : oneB (fD d tx len i) tx len (fA d tx len i) = false := by simpa using hone
        refine w_callV (As := []) (rest := []) hF hK (c_X4_tryApplication_no l D y x bd N (fD d tx len i) c1 p1 k1 P k rot len t9 (fA d tx len i) tx (hzJ) (hk4) (hbd) (hl80) (hal) (hone)) (cwV 0 hts gX4_tryText_X4_tryApplication rfl rfl rfl (by decide +kernel) ⟨Nat.le_of_ble_eq_true rfl, Nat.le_of_ble_eq_true rfl⟩) (z_recv (q := (RX4, TX4, 5)) hK (hP 0 _ rfl) rfl) ⟨hM, Nat.le_trans hb0 hsz⟩ hS (fun q h => h) rfl hl.1 rfl (Nat.le_of_ble_eq_true rfl) dX4_tryText_34 ⟨by show i + _ ≤ 16; omega, by show 7 * i + _ ≤ 112; omega⟩ (fun H4 locs1 hq hz1 hk hS => ?_)
        clear hM hP hps hX
        obtain ⟨q9, hM⟩ := hq
        clear hz1 hk
        refine lv_istore_n (lv' := [(2, .int (eOne (fD d tx len i) tx len (fA d tx len i))), (1, .int (nI i)), (0, .ref x)]) hx hb dX4_tryText_37 rfl hl (by decide) rfl (fun ls hl => ?_)
        refine lv_iload_n hx hb dX4_tryText_38 rfl (lv_at hl 0 rfl) ?_
        refine lv_if_eq (tgt := 44) hx hb dX4_tryText_39 (by decide) (fun c39 => ?_) (fun c39 => ?_)
        · exact absurd (by rw [c39]; decide) (eOne_pos hone)
        · obtain ⟨hN, hPl, hT9, hR1⟩ := try_no hl80 hall c30 hone
          refine W.widen (k := 16) (n := 112) (by omega) (by omega) ?_
          refine lv_iload_n hx hb dX4_tryText_42 rfl (lv_at hl 0 rfl) ?_
          exact w_reti hx hb hr hlocks hS (⟨_, _, _, _, _, by rw [hN]; exact hM, fun _ => hT9⟩) (hR1) dX4_tryText_43
