/-! CONSTRUCTORS, 2 -/
def filN (f : Nat → Int32) (v : Int32) (n : Nat) : Nat → Int32 := fun i => if i < n then v else f i
theorem fil_0 (f : Nat → Int32) (v : Int32) : filN f v 0 = f := by
  funext i
  unfold filN
  rw [if_neg (Nat.not_lt_zero i)]
theorem fil_s (f : Nat → Int32) (v : Int32) (n : Nat) : upd (filN f v n) n v = filN f v (n + 1) := by
  funext i
  unfold filN upd
  by_cases h : i = n
  · rw [if_pos h, if_pos (by omega)]
  · rw [if_neg h]
    show (if i < n then v else f i) = _
    by_cases h2 : i < n
    · rw [if_pos h2, if_pos (by omega)]
    · rw [if_neg h2, if_neg (by omega)]
theorem fil_at (f : Nat → Int32) (v : Int32) (n i : Nat) : filN f v n i = if i < n then v else f i := rfl
/-- the row of numbers at the start -/
def iniZ : Nat → Int32 := upd (upd (upd (fun _ => 0) 1 (nI 100)) 2 (nI 40)) 3 (nI 5)
def iniD (n : Nat) : Nat → Int32 := fun i => if 82 ≤ i ∧ i < 82 + n then (-1) else iniZ i
theorem ini_z : iniD 0 = iniZ := by
  funext i
  unfold iniD
  rw [if_neg (by omega)]
theorem ini_s (n : Nat) : upd (iniD n) (82 + n) (-1) = iniD (n + 1) := by
  funext i
  unfold iniD upd
  by_cases h : i = 82 + n
  · rw [if_pos h, if_pos (by omega)]
  · rw [if_neg h]
    show (if 82 ≤ i ∧ i < 82 + n then (-1) else iniZ i) = _
    by_cases h2 : 82 ≤ i ∧ i < 82 + n
    · rw [if_pos h2, if_pos (by omega)]
    · rw [if_neg h2, if_neg (by omega)]
theorem ini_at (n i : Nat) : iniD n i = if 82 ≤ i ∧ i < 82 + n then (-1) else iniZ i := rfl
theorem ini_0 {i : Nat} (h : i < 1 ∨ (4 ≤ i ∧ i < 82) ∨ 202 ≤ i) : iniD 120 i = 0 := by
  rw [ini_at, if_neg (by omega)]
  show (if i = 3 then nI 5 else if i = 2 then nI 40 else if i = 1 then nI 100 else 0) = _
  rw [if_neg (by omega), if_neg (by omega), if_neg (by omega)]
theorem ini_C : nC (iniD 120) = 0 := by unfold nC; rw [ini_0 (by omega)]; decide
theorem ini_G : nG (iniD 120) = 0 := by unfold nG; rw [ini_0 (by omega)]; decide
theorem ini_V : vn (iniD 120) = 0 := by unfold vn vL; rw [ini_G]; rfl
theorem ini_site {D : va_G} {y : zY} {bd a : Nat} {ca pa pk : Nat → Nat} {H : Heap} (hP : va_P D vwCl (sWs y a (fun _ => none) (nI 0) (fun _ => 0) (upd (upd (upd (fun _ => 0) 0 (nI 100)) 1 (nI 40)) 2 (nI 5)) (fun _ => 0) (filN (fun _ => 0) (-1) 120) (fun _ => 0) (fun _ => 0) (fun _ => none) (nI 0) (fun _ => 0) (fun _ => none) (nI 0)) H) : sD D y bd a (iniD 120) ca pa pk H := by
  refine ⟨_, _, _, _, _, _, _, _, _, _, by rw [ini_C, ini_G, ini_V]; exact hP, ⟨fun c hc => ?_, fun c hc => ?_, fun i hi => ?_, fun i hi => ?_, fun i hi => ?_, fun i hi => ?_, fun i hi => ?_, fun p hp => ?_, fun p hp => ?_, fun i hi => ?_⟩, fun c hc => ?_, fun p hp => ?_, ⟨fun i q h => (by cases h), fun i q h => (by cases h), fun i q h => (by cases h)⟩⟩
  · rw [ini_C] at hc; omega
  · rw [ini_C] at hc; omega
  · rw [ini_at, if_neg (by omega)]
    have : i = 0 ∨ i = 1 ∨ i = 2 := by omega
    rcases this with rfl | rfl | rfl <;> rfl
  · rw [ini_0 (by omega)]
  · rw [fil_at, if_pos (by omega), ini_at, if_pos (by omega)]
  · rw [ini_0 (by omega)]
  · rw [ini_0 (by omega)]
  · rw [ini_G] at hp; omega
  · rw [ini_G] at hp; omega
  · rw [ini_V] at hi; omega
  · rw [ini_C] at hc; omega
  · rw [ini_G] at hp; omega
set_option maxRecDepth 100000 in
set_option maxHeartbeats 4000000 in
theorem c_J7_fill_53178 (l : Launch) (D : va_G) (y : zY) (r : Nat) (n : Nat) (f : Nat → Int32) (v : Int32) (z : Nat) (hn : n < 2147483648) : Met l yJ7_fill_53178 wsJ7_fill_53178 ({ frames := 0, cells := 0, slots := 0, locals := 0 }) (zP [.ref r, .int v] (fun H => va_P D vwCl [(r, .inl (y.1, n, .inl f))] H ∧ H.size = z) D y) (zW none (fun H => va_P D vwCl [(r, .inl (y.1, n, .inl (filN f v n)))] H ∧ H.size = z) (blk r 1)) 0 0 (blk r 1) := by
  refine z_body (cc := cJ7_fill_53178) (maxL := 4) (ret := none) (la := [(0, .ref r), (1, .int v)]) (by decide) rfl (Nat.le_of_ble_eq_true rfl) rfl ?_
  intro pg ev s mm below meth c0 ls hx hb hr hF hlocks hΦ hK hl hnm
  have hts := hF.2.2.2.2
  have hown : s.vm.findClass RJ7 = some mm.cls := hF.2.2.2.1
  have hS : va_S (blk r 1) s.heap s.heap [] := va_S.rf
  obtain ⟨hP, hz⟩ := hΦ
  have hD : va_D (blk r 1) [(r, .inl (y.1, n, .inl f))] := va_D_one (blk_in (by omega) (by omega))
  refine lv_iconst (v := (nI 0)) hx hb dJ7_fill_53178_0 (by decide) ?_
  refine lv_istore_n (lv' := [(2, .int (nI 0)), (0, .ref r), (1, .int v)]) hx hb dJ7_fill_53178_1 rfl hl (by decide) rfl (fun ls hl => ?_)
  refine lv_aload_n hx hb dJ7_fill_53178_2 rfl (lv_at hl 1 rfl) ?_
  refine z_alen 0 (n := n) hx hb hK rfl (hP 0 _ rfl) rfl dJ7_fill_53178_3 ?_
  refine lv_istore_n (lv' := [(3, .int (nI n)), (2, .int (nI 0)), (0, .ref r), (1, .int v)]) hx hb dJ7_fill_53178_4 rfl hl (by decide) rfl (fun ls hl => ?_)
  refine z_loopW (S := Nat) (nL := 4) (fun (i : Nat) => n - i) (fun (i : Nat) => [(2, .int (nI i)), (3, .int (nI n)), (0, .ref r), (1, .int v)]) (fun (i : Nat) (H : Heap) (locs : List Loc) => va_P D vwCl [(r, .inl (y.1, n, .inl (filN f v i)))] H ∧ va_S (blk r 1) s.heap H locs ∧ (i ≤ n ∧ H.size = z)) 0 ⟨by rw [fil_0]; exact hP, hS, ⟨by omega, hz⟩⟩ (lv_sub hl [1, 0, 2, 3] rfl) ?_
  clear hl hP hS
  rintro i H1 locs ls ⟨hP, hS, hI_5⟩ hl ih_5
  obtain ⟨hi, hz⟩ := hI_5
  have hD : va_D (blk r 1) [(r, .inl (y.1, n, .inl (filN f v i)))] := hD.set (p := 0) rfl
  refine lv_iload_n hx hb dJ7_fill_53178_5 rfl (lv_at hl 0 rfl) ?_
  refine lv_iload_n hx hb dJ7_fill_53178_6 rfl (lv_at hl 1 rfl) ?_
  refine z_ge (tgt := 20) hx hb (by omega) (by omega) dJ7_fill_53178_7 (by decide) (fun c7 => ?_) (fun c7 => ?_)
  · exact w_retv hx hb hr hlocks hS (⟨by rw [show i = n by omega] at hP; exact hP, hz⟩) dJ7_fill_53178_20
  · refine lv_aload_n hx hb dJ7_fill_53178_10 rfl (lv_at hl 2 rfl) ?_
    refine lv_iload_n hx hb dJ7_fill_53178_11 rfl (lv_at hl 0 rfl) ?_
    refine lv_iload_n hx hb dJ7_fill_53178_12 rfl (lv_at hl 3 rfl) ?_
    refine y_iast (a := r) (f := (filN f v i)) (i := i) hx hb hK (hP 0 _ rfl) (by omega) (by omega) dJ7_fill_53178_13 (fun H2 hU hV => ?_)
    have hS := hS.upd (x := i) hU (blk_0 (by decide))
    have hP2 := hP.upd (q0 := 0) hD rfl hU hV
    have hP : va_P D vwCl [(r, .inl (y.1, n, .inl (upd (filN f v i) i v)))] H2 := hP2
    have hD : va_D (blk r 1) [(r, .inl (y.1, n, .inl (upd (filN f v i) i v)))] := hD.set (p := 0) rfl
    clear hP2
    have hz := hU.1.trans hz
    clear hU hV
    refine lv_iinc (v := (nI (i + 1))) (lv' := [(2, .int (nI (i + 1))), (3, .int (nI n)), (0, .ref r), (1, .int v)]) hx hb dJ7_fill_53178_14 hl (k := 0) rfl (in1 _) (by decide) rfl (fun ls hl => ?_)
    refine lv_goto (tgt := 5) hx hb dJ7_fill_53178_17 (by decide) ?_
    exact ih_5 (i + 1) _ _ _ (by omega) ⟨by rw [fil_s] at hP; exact hP, hS, ⟨by omega, hz⟩⟩ (lv_sub hl [0, 1, 2, 3] rfl)
theorem i_c_X3_init_X3 : ∀ w ∈ wsX30, w ∈ wsX3_init := fun w h => (List.mem_cons_of_mem _ (List.mem_append_right _ h))
set_option maxRecDepth 100000 in
set_option maxHeartbeats 4000000 in
theorem c_X3_init (l : Launch) (D : va_G) (y : zY) (q : Nat)  : Met l yX3_init wsX3_init ({ frames := 1, cells := 1, slots := 80, locals := 40 }) (zP [.ref q] (fun H => va_P D vwCl [(q, .inr (3, [.null, .int 0, .int 0, .int 0, .int 0, .int 0, .int 0, .int 0, .int 0]))] H ∧ H.size = q + 1) D y) (zW none (fun H => va_P D vwCl [(q, .inr (3, [.ref (q + 1), .int (nI 0), .int (nI 0), .int (nI 0), .int (nI 1), .int (nI 0), .int (nI 0), .int (nI 0), .int (nI 0)])), (q + 1, .inl (y.2.1, 80, .inl (fun _ => 0)))] H ∧ H.size = q + 2) (blk q 2)) 1 80 (blk q 2) := by
  refine z_body (cc := cX3_init) (maxL := 1) (ret := none) (la := [(0, .ref q)]) (by decide) rfl (Nat.le_of_ble_eq_true rfl) rfl ?_
  intro pg ev s mm below meth c0 ls hx hb hr hF hlocks hΦ hK hl hnm
  have hts := hF.2.2.2.2
  have hown : s.vm.findClass RX3 = some mm.cls := hF.2.2.2.1
  have hS : va_S (blk q 2) s.heap s.heap [] := va_S.rf
  obtain ⟨hP, hz⟩ := hΦ
  have hD : va_D (blk q 2) [(q, .inr (3, [.null, .int 0, .int 0, .int 0, .int 0, .int 0, .int 0, .int 0, .int 0]))] := va_D_one (blk_in (by omega) (by omega))
  refine lv_aload_n hx hb dX3_init_0 rfl (lv_at hl 0 rfl) ?_
  refine y_obj (a := q) hx hb (hF.2.2.1.trans hl.1.symm) hown (hts (.methodLink RX3 3 objectInit) (List.mem_of_getElem? (i := 1) rfl)) (hts (.instanceMethod objectInit) (List.mem_of_getElem? (i := 2) rfl)) (hts (.code objectInit ⟨#[0xb1]⟩ 1 none) (List.mem_of_getElem? (i := 3) rfl)) (by decide) (by decide) dX3_init_1 ?_
  refine lv_aload_n hx hb dX3_init_4 rfl (lv_at hl 0 rfl) ?_
  refine lv_bipush (v := (nI 80)) hx hb dX3_init_5 (by decide) ?_
  refine y_newc (N := 80) hx hb (hts (.arrayClass .char) (by decide +kernel)) hK (by decide) (by decide) (by decide) hz (by decide) (by decide) dX3_init_7 (fun H1 hz1 hk hV => ?_)
  have hD2 := hD.push (e := .inl (y.2.1, 80, .inl (fun _ => 0))) hP hz.symm (blk_k (by decide))
  have hD : va_D (blk q 2) [(q, .inr (3, [.null, .int 0, .int 0, .int 0, .int 0, .int 0, .int 0, .int 0, .int 0])), (q + 1, .inl (y.2.1, 80, .inl (fun _ => 0)))] := hD2
  have hP2 := (hP.grow hk).app (z_one hV)
  have hP : va_P D vwCl [(q, .inr (3, [.null, .int 0, .int 0, .int 0, .int 0, .int 0, .int 0, .int 0, .int 0])), (q + 1, .inl (y.2.1, 80, .inl (fun _ => 0)))] H1 := hP2
  clear hD2 hP2
  have hS := hS.grow hz1 hk
  have hz : H1.size = q + 2 := hz1.trans (congrArg (fun n => n + 1) hz)
  clear hz1 hk hV
  refine y_putF (a := q) (fs := [.null, .int 0, .int 0, .int 0, .int 0, .int 0, .int 0, .int 0, .int 0]) (ref := "CranePermits$Text") (C := RX3) (T := TX3) (N := 9) (ci := 3) (v := .ref (q + 1)) (ty := (.array .char)) hx hb hts i_c_X3_init_X3 tyX3 tyX3_ok nmX3 hown hK (hP 0 _ rfl) 0 (by decide) rfl (hts (.fieldLink RX3 9 "CranePermits$Text" "signs" "[C") (List.mem_of_getElem? (i := 5) rfl)) rfl rfl (hnm.trans rfl) rfl (by decide +kernel) (rfl) rfl (Nat.le_of_ble_eq_true rfl) dX3_init_9 (fun H2 x1 hU hV => ?_)
  have hS := hS.upd (x := x1) hU (blk_0 (by decide))
  have hP2 := hP.upd (q0 := 0) hD rfl hU hV
  have hP : va_P D vwCl [(q, .inr (3, [.ref (q + 1), .int 0, .int 0, .int 0, .int 0, .int 0, .int 0, .int 0, .int 0])), (q + 1, .inl (y.2.1, 80, .inl (fun _ => 0)))] H2 := hP2
  have hD : va_D (blk q 2) [(q, .inr (3, [.ref (q + 1), .int 0, .int 0, .int 0, .int 0, .int 0, .int 0, .int 0, .int 0])), (q + 1, .inl (y.2.1, 80, .inl (fun _ => 0)))] := hD.set (p := 0) rfl
  clear hP2
  have hz := hU.1.trans hz
  clear hU hV
  refine lv_aload_n hx hb dX3_init_12 rfl (lv_at hl 0 rfl) ?_
  refine lv_iconst (v := (nI 0)) hx hb dX3_init_13 (by decide) ?_
  refine y_put (a := q) (fs := [.ref (q + 1), .int 0, .int 0, .int 0, .int 0, .int 0, .int 0, .int 0, .int 0]) (ref := "CranePermits$Text") (C := RX3) (T := TX3) (N := 9) (ci := 3) (v := .int (nI 0)) (ty := .int) hx hb hts i_c_X3_init_X3 tyX3 tyX3_ok nmX3 hown hK (hP 0 _ rfl) 1 (by decide) rfl (hts (.fieldLink RX3 15 "CranePermits$Text" "length" "I") (List.mem_of_getElem? (i := 6) rfl)) rfl rfl (by decide +kernel) (rfl) rfl (Nat.le_of_ble_eq_true rfl) dX3_init_14 (fun H3 x1 hU hV => ?_)
  have hS := hS.upd (x := x1) hU (blk_0 (by decide))
  have hP2 := hP.upd (q0 := 0) hD rfl hU hV
  have hP : va_P D vwCl [(q, .inr (3, [.ref (q + 1), .int (nI 0), .int 0, .int 0, .int 0, .int 0, .int 0, .int 0, .int 0])), (q + 1, .inl (y.2.1, 80, .inl (fun _ => 0)))] H3 := hP2
  have hD : va_D (blk q 2) [(q, .inr (3, [.ref (q + 1), .int (nI 0), .int 0, .int 0, .int 0, .int 0, .int 0, .int 0, .int 0])), (q + 1, .inl (y.2.1, 80, .inl (fun _ => 0)))] := hD.set (p := 0) rfl
  clear hP2
  have hz := hU.1.trans hz
  clear hU hV
  refine lv_aload_n hx hb dX3_init_17 rfl (lv_at hl 0 rfl) ?_
  refine lv_iconst (v := (nI 0)) hx hb dX3_init_18 (by decide) ?_
  refine y_put (a := q) (fs := [.ref (q + 1), .int (nI 0), .int 0, .int 0, .int 0, .int 0, .int 0, .int 0, .int 0]) (ref := "CranePermits$Text") (C := RX3) (T := TX3) (N := 9) (ci := 3) (v := .int (nI 0)) (ty := .int) hx hb hts i_c_X3_init_X3 tyX3 tyX3_ok nmX3 hown hK (hP 0 _ rfl) 2 (by decide) rfl (hts (.fieldLink RX3 19 "CranePermits$Text" "start" "I") (List.mem_of_getElem? (i := 7) rfl)) rfl rfl (by decide +kernel) (rfl) rfl (Nat.le_of_ble_eq_true rfl) dX3_init_19 (fun H4 x1 hU hV => ?_)
  have hS := hS.upd (x := x1) hU (blk_0 (by decide))
  have hP2 := hP.upd (q0 := 0) hD rfl hU hV
  have hP : va_P D vwCl [(q, .inr (3, [.ref (q + 1), .int (nI 0), .int (nI 0), .int 0, .int 0, .int 0, .int 0, .int 0, .int 0])), (q + 1, .inl (y.2.1, 80, .inl (fun _ => 0)))] H4 := hP2
  have hD : va_D (blk q 2) [(q, .inr (3, [.ref (q + 1), .int (nI 0), .int (nI 0), .int 0, .int 0, .int 0, .int 0, .int 0, .int 0])), (q + 1, .inl (y.2.1, 80, .inl (fun _ => 0)))] := hD.set (p := 0) rfl
  clear hP2
  have hz := hU.1.trans hz
  clear hU hV
  refine lv_aload_n hx hb dX3_init_22 rfl (lv_at hl 0 rfl) ?_
  refine lv_iconst (v := (nI 0)) hx hb dX3_init_23 (by decide) ?_
  refine y_put (a := q) (fs := [.ref (q + 1), .int (nI 0), .int (nI 0), .int 0, .int 0, .int 0, .int 0, .int 0, .int 0]) (ref := "CranePermits$Text") (C := RX3) (T := TX3) (N := 9) (ci := 3) (v := .int (nI 0)) (ty := .int) hx hb hts i_c_X3_init_X3 tyX3 tyX3_ok nmX3 hown hK (hP 0 _ rfl) 3 (by decide) rfl (hts (.fieldLink RX3 22 "CranePermits$Text" "next" "I") (List.mem_of_getElem? (i := 8) rfl)) rfl rfl (by decide +kernel) (rfl) rfl (Nat.le_of_ble_eq_true rfl) dX3_init_24 (fun H5 x1 hU hV => ?_)
  have hS := hS.upd (x := x1) hU (blk_0 (by decide))
  have hP2 := hP.upd (q0 := 0) hD rfl hU hV
  have hP : va_P D vwCl [(q, .inr (3, [.ref (q + 1), .int (nI 0), .int (nI 0), .int (nI 0), .int 0, .int 0, .int 0, .int 0, .int 0])), (q + 1, .inl (y.2.1, 80, .inl (fun _ => 0)))] H5 := hP2
  have hD : va_D (blk q 2) [(q, .inr (3, [.ref (q + 1), .int (nI 0), .int (nI 0), .int (nI 0), .int 0, .int 0, .int 0, .int 0, .int 0])), (q + 1, .inl (y.2.1, 80, .inl (fun _ => 0)))] := hD.set (p := 0) rfl
  clear hP2
  have hz := hU.1.trans hz
  clear hU hV
  refine lv_aload_n hx hb dX3_init_27 rfl (lv_at hl 0 rfl) ?_
  refine lv_iconst (v := (nI 1)) hx hb dX3_init_28 (by decide) ?_
  refine y_put (a := q) (fs := [.ref (q + 1), .int (nI 0), .int (nI 0), .int (nI 0), .int 0, .int 0, .int 0, .int 0, .int 0]) (ref := "CranePermits$Text") (C := RX3) (T := TX3) (N := 9) (ci := 3) (v := .int (nI 1)) (ty := .boolean) hx hb hts i_c_X3_init_X3 tyX3 tyX3_ok nmX3 hown hK (hP 0 _ rfl) 4 (by decide) rfl (hts (.fieldLink RX3 25 "CranePermits$Text" "formed" "Z") (List.mem_of_getElem? (i := 9) rfl)) rfl rfl (by decide +kernel) (rfl) rfl (Nat.le_of_ble_eq_true rfl) dX3_init_29 (fun H6 x1 hU hV => ?_)
  have hS := hS.upd (x := x1) hU (blk_0 (by decide))
  have hP2 := hP.upd (q0 := 0) hD rfl hU hV
  have hP : va_P D vwCl [(q, .inr (3, [.ref (q + 1), .int (nI 0), .int (nI 0), .int (nI 0), .int (nI 1), .int 0, .int 0, .int 0, .int 0])), (q + 1, .inl (y.2.1, 80, .inl (fun _ => 0)))] H6 := hP2
  have hD : va_D (blk q 2) [(q, .inr (3, [.ref (q + 1), .int (nI 0), .int (nI 0), .int (nI 0), .int (nI 1), .int 0, .int 0, .int 0, .int 0])), (q + 1, .inl (y.2.1, 80, .inl (fun _ => 0)))] := hD.set (p := 0) rfl
  clear hP2
  have hz := hU.1.trans hz
  clear hU hV
  refine lv_aload_n hx hb dX3_init_32 rfl (lv_at hl 0 rfl) ?_
  refine lv_iconst (v := (nI 0)) hx hb dX3_init_33 (by decide) ?_
  refine y_put (a := q) (fs := [.ref (q + 1), .int (nI 0), .int (nI 0), .int (nI 0), .int (nI 1), .int 0, .int 0, .int 0, .int 0]) (ref := "CranePermits$Text") (C := RX3) (T := TX3) (N := 9) (ci := 3) (v := .int (nI 0)) (ty := .int) hx hb hts i_c_X3_init_X3 tyX3 tyX3_ok nmX3 hown hK (hP 0 _ rfl) 5 (by decide) rfl (hts (.fieldLink RX3 29 "CranePermits$Text" "crane" "I") (List.mem_of_getElem? (i := 10) rfl)) rfl rfl (by decide +kernel) (rfl) rfl (Nat.le_of_ble_eq_true rfl) dX3_init_34 (fun H7 x1 hU hV => ?_)
  have hS := hS.upd (x := x1) hU (blk_0 (by decide))
  have hP2 := hP.upd (q0 := 0) hD rfl hU hV
  have hP : va_P D vwCl [(q, .inr (3, [.ref (q + 1), .int (nI 0), .int (nI 0), .int (nI 0), .int (nI 1), .int (nI 0), .int 0, .int 0, .int 0])), (q + 1, .inl (y.2.1, 80, .inl (fun _ => 0)))] H7 := hP2
  have hD : va_D (blk q 2) [(q, .inr (3, [.ref (q + 1), .int (nI 0), .int (nI 0), .int (nI 0), .int (nI 1), .int (nI 0), .int 0, .int 0, .int 0])), (q + 1, .inl (y.2.1, 80, .inl (fun _ => 0)))] := hD.set (p := 0) rfl
  clear hP2
  have hz := hU.1.trans hz
  clear hU hV
  refine lv_aload_n hx hb dX3_init_37 rfl (lv_at hl 0 rfl) ?_
  refine lv_iconst (v := (nI 0)) hx hb dX3_init_38 (by decide) ?_
  refine y_put (a := q) (fs := [.ref (q + 1), .int (nI 0), .int (nI 0), .int (nI 0), .int (nI 1), .int (nI 0), .int 0, .int 0, .int 0]) (ref := "CranePermits$Text") (C := RX3) (T := TX3) (N := 9) (ci := 3) (v := .int (nI 0)) (ty := .int) hx hb hts i_c_X3_init_X3 tyX3 tyX3_ok nmX3 hown hK (hP 0 _ rfl) 6 (by decide) rfl (hts (.fieldLink RX3 32 "CranePermits$Text" "night" "I") (List.mem_of_getElem? (i := 11) rfl)) rfl rfl (by decide +kernel) (rfl) rfl (Nat.le_of_ble_eq_true rfl) dX3_init_39 (fun H8 x1 hU hV => ?_)
  have hS := hS.upd (x := x1) hU (blk_0 (by decide))
  have hP2 := hP.upd (q0 := 0) hD rfl hU hV
  have hP : va_P D vwCl [(q, .inr (3, [.ref (q + 1), .int (nI 0), .int (nI 0), .int (nI 0), .int (nI 1), .int (nI 0), .int (nI 0), .int 0, .int 0])), (q + 1, .inl (y.2.1, 80, .inl (fun _ => 0)))] H8 := hP2
  have hD : va_D (blk q 2) [(q, .inr (3, [.ref (q + 1), .int (nI 0), .int (nI 0), .int (nI 0), .int (nI 1), .int (nI 0), .int (nI 0), .int 0, .int 0])), (q + 1, .inl (y.2.1, 80, .inl (fun _ => 0)))] := hD.set (p := 0) rfl
  clear hP2
  have hz := hU.1.trans hz
  clear hU hV
  refine lv_aload_n hx hb dX3_init_42 rfl (lv_at hl 0 rfl) ?_
  refine lv_iconst (v := (nI 0)) hx hb dX3_init_43 (by decide) ?_
  refine y_put (a := q) (fs := [.ref (q + 1), .int (nI 0), .int (nI 0), .int (nI 0), .int (nI 1), .int (nI 0), .int (nI 0), .int 0, .int 0]) (ref := "CranePermits$Text") (C := RX3) (T := TX3) (N := 9) (ci := 3) (v := .int (nI 0)) (ty := .int) hx hb hts i_c_X3_init_X3 tyX3 tyX3_ok nmX3 hown hK (hP 0 _ rfl) 7 (by decide) rfl (hts (.fieldLink RX3 35 "CranePermits$Text" "hours" "I") (List.mem_of_getElem? (i := 12) rfl)) rfl rfl (by decide +kernel) (rfl) rfl (Nat.le_of_ble_eq_true rfl) dX3_init_44 (fun H9 x1 hU hV => ?_)
  have hS := hS.upd (x := x1) hU (blk_0 (by decide))
  have hP2 := hP.upd (q0 := 0) hD rfl hU hV
  have hP : va_P D vwCl [(q, .inr (3, [.ref (q + 1), .int (nI 0), .int (nI 0), .int (nI 0), .int (nI 1), .int (nI 0), .int (nI 0), .int (nI 0), .int 0])), (q + 1, .inl (y.2.1, 80, .inl (fun _ => 0)))] H9 := hP2
  have hD : va_D (blk q 2) [(q, .inr (3, [.ref (q + 1), .int (nI 0), .int (nI 0), .int (nI 0), .int (nI 1), .int (nI 0), .int (nI 0), .int (nI 0), .int 0])), (q + 1, .inl (y.2.1, 80, .inl (fun _ => 0)))] := hD.set (p := 0) rfl
  clear hP2
  have hz := hU.1.trans hz
  clear hU hV
  refine lv_aload_n hx hb dX3_init_47 rfl (lv_at hl 0 rfl) ?_
  refine lv_iconst (v := (nI 0)) hx hb dX3_init_48 (by decide) ?_
  refine y_put (a := q) (fs := [.ref (q + 1), .int (nI 0), .int (nI 0), .int (nI 0), .int (nI 1), .int (nI 0), .int (nI 0), .int (nI 0), .int 0]) (ref := "CranePermits$Text") (C := RX3) (T := TX3) (N := 9) (ci := 3) (v := .int (nI 0)) (ty := .int) hx hb hts i_c_X3_init_X3 tyX3 tyX3_ok nmX3 hown hK (hP 0 _ rfl) 8 (by decide) rfl (hts (.fieldLink RX3 38 "CranePermits$Text" "swing" "I") (List.mem_of_getElem? (i := 13) rfl)) rfl rfl (by decide +kernel) (rfl) rfl (Nat.le_of_ble_eq_true rfl) dX3_init_49 (fun H10 x1 hU hV => ?_)
  have hS := hS.upd (x := x1) hU (blk_0 (by decide))
  have hP2 := hP.upd (q0 := 0) hD rfl hU hV
  have hP : va_P D vwCl [(q, .inr (3, [.ref (q + 1), .int (nI 0), .int (nI 0), .int (nI 0), .int (nI 1), .int (nI 0), .int (nI 0), .int (nI 0), .int (nI 0)])), (q + 1, .inl (y.2.1, 80, .inl (fun _ => 0)))] H10 := hP2
  have hD : va_D (blk q 2) [(q, .inr (3, [.ref (q + 1), .int (nI 0), .int (nI 0), .int (nI 0), .int (nI 1), .int (nI 0), .int (nI 0), .int (nI 0), .int (nI 0)])), (q + 1, .inl (y.2.1, 80, .inl (fun _ => 0)))] := hD.set (p := 0) rfl
  clear hP2
  have hz := hU.1.trans hz
  clear hU hV
  exact w_retv hx hb hr hlocks hS (⟨hP, hz⟩) dX3_init_52
