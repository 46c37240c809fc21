/-! THE CLASS: its text -/
def tWs (y : zY) (t : Nat) (len st nx fo cr ni ho sw : Int32) (tx : Nat → Int32) : va_W := [(t, .inr (3, [.ref (t + 1), .int len, .int st, .int nx, .int fo, .int cr, .int ni, .int ho, .int sw])), (t + 1, .inl (y.2.1, 80, .inl tx))]
theorem tWs_D {y : zY} {t : Nat} {len st nx fo cr ni ho sw : Int32} {tx : Nat → Int32} : va_D (blk t 2) (tWs y t len st nx fo cr ni ho sw tx) :=
  va_D_blk (fun k q hk => match k, hk with
  | 0, hk => by cases hk; rfl
  | 1, hk => by cases hk; rfl
  | k + 2, hk => by simp [tWs] at hk) (Nat.le_of_ble_eq_true rfl)
def sgA (tx : Nat → Int32) (len i : Nat) : Int32 := if i < len then tx i else nI 0
theorem sg_y {tx : Nat → Int32} {len a : Nat} {c : Int32} {fo : Bool} (hc : ¬ c = nI 0) (h : sgA tx len a = c) : a + 1 = atP tx len a c ∧ fo = (fo && pasB tx len a c) := by
  have hp : pasB tx len a c = true := by
    unfold sgA at h
    by_cases q : a < len
    · rw [if_pos q] at h
      unfold pasB
      rw [decide_eq_true q, decide_eq_true h]; rfl
    · rw [if_neg q] at h
      exact absurd h.symm hc
  unfold atP
  rw [if_pos hp, hp, Bool.and_true]
  exact ⟨rfl, rfl⟩
theorem sg_n {tx : Nat → Int32} {len a : Nat} {c : Int32} {fo : Bool} (hc : ¬ c = nI 0) (h : ¬ sgA tx len a = c) : a = atP tx len a c ∧ false = (fo && pasB tx len a c) := by
  have hp : pasB tx len a c = false := by
    unfold sgA at h
    unfold pasB
    by_cases q : a < len
    · rw [if_pos q] at h
      rw [decide_eq_false h, Bool.and_false]
    · rw [decide_eq_false q, Bool.false_and]
  unfold atP
  rw [if_neg (bf hp), hp, Bool.and_false]
  exact ⟨rfl, rfl⟩
theorem dg_sg (tx : Nat → Int32) (len a i : Nat) : digP tx len a i = inB (sgA tx len (a + i)) (nI 48) (nI 57) := by
  unfold digP sgA
  by_cases q : a + i < len
  · rw [if_pos q, decide_eq_true q, Bool.true_and]
  · rw [if_neg q, decide_eq_false q, Bool.false_and]; decide
theorem dg_lt {tx : Nat → Int32} {len a i : Nat} (h : digP tx len a i = true) : a + i < len := by
  unfold digP at h
  simp only [Bool.and_eq_true, decide_eq_true_eq] at h
  exact h.1
theorem dg_le {tx : Nat → Int32} {len a j : Nat} (ha : a ≤ len) (h : ∀ i, i < j → (!digP tx len a i) = false) : a + j ≤ len := by
  rcases Nat.eq_zero_or_pos j with q | q
  · omega
  · have h1 := h (j - 1) (by omega)
    have h2 : digP tx len a (j - 1) = true := by simpa using h1
    have := dg_lt h2
    omega
theorem sg_dig {tx : Nat → Int32} {len a : Nat} (h : inB (sgA tx len a) (nI 48) (nI 57) = true) : sgA tx len a = tx a := by
  have h2 : digP tx len a 0 = true := by rw [dg_sg]; exact h
  have := dg_lt h2
  unfold sgA
  rw [if_pos (by omega)]
theorem i_c_X3_signAt_X3 : ∀ w ∈ wsX30, w ∈ wsX3_signAt := fun w h => (List.mem_cons_of_mem _ (List.mem_append_right _ h))
set_option maxRecDepth 100000 in
set_option maxHeartbeats 4000000 in
theorem c_X3_signAt (l : Launch) (D : va_G) (y : zY) (t : Nat) (len : Nat) (st : Int32) (nx : Nat) (fo : Bool) (cr : Int32) (ni : Int32) (ho : Int32) (sw : Int32) (tx : Nat → Int32) (i : Nat) (hl80 : len ≤ 80) (hi : i < 2147483648) : Met l yX3_signAt wsX3_signAt ({ frames := 0, cells := 0, slots := 0, locals := 0 }) (zP [.ref t, .int (nI i)] (fun H => va_P D vwCl (tWs y t (nI len) st (nI nx) (bI fo) cr ni ho sw tx) H) D y) (zQ (some (.int (sgA tx len i)))) 0 0 nofree := by
  refine z_body (cc := cX3_signAt) (maxL := 2) (ret := (some .int)) (la := [(0, .ref t), (1, .int (nI i))]) (by decide) rfl (Nat.le_of_ble_eq_true rfl) rfl ?_
  intro pg ev s mm below meth c0 ls hx hb hr hF hlocks hΦ hK hl _
  have hts := hF.2.2.2.2
  have hown : s.vm.findClass RX3 = some mm.cls := hF.2.2.2.1
  refine lv_iload_n hx hb dX3_signAt_0 rfl (lv_at hl 1 rfl) ?_
  refine n_if_lt (tgt := 30) hx hb (by omega) dX3_signAt_1 (by decide) ?_
  refine lv_iload_n hx hb dX3_signAt_4 rfl (lv_at hl 1 rfl) ?_
  refine lv_aload_n hx hb dX3_signAt_5 rfl (lv_at hl 0 rfl) ?_
  refine z_get (fs := [.ref (t + 1), .int (nI len), .int st, .int (nI nx), .int (bI fo), .int cr, .int ni, .int ho, .int sw]) (ref := "CranePermits$Text") (C := RX3) (T := TX3) (N := 9) (ci := 3) (v := .int (nI len)) hx hb hts i_c_X3_signAt_X3 hown hK (hΦ 0 _ rfl) 1 (by decide) rfl (hts (.fieldLink RX3 15 "CranePermits$Text" "length" "I") (List.mem_of_getElem? (i := 1) rfl)) rfl rfl dX3_signAt_6 ?_
  refine z_ge (tgt := 30) hx hb (by omega) (by omega) dX3_signAt_9 (by decide) (fun c9 => ?_) (fun c9 => ?_)
  · refine lv_iconst (v := (nI 0)) hx hb dX3_signAt_30 (by decide) ?_
    exact z_reti hx hb hr hlocks rfl (by unfold sgA; rw [if_neg (Nat.not_lt.mpr c9)]) dX3_signAt_31
  · refine lv_iload_n hx hb dX3_signAt_12 rfl (lv_at hl 1 rfl) ?_
    refine lv_aload_n hx hb dX3_signAt_13 rfl (lv_at hl 0 rfl) ?_
    refine z_get (fs := [.ref (t + 1), .int (nI len), .int st, .int (nI nx), .int (bI fo), .int cr, .int ni, .int ho, .int sw]) (ref := "CranePermits$Text") (C := RX3) (T := TX3) (N := 9) (ci := 3) (v := .ref (t + 1)) hx hb hts i_c_X3_signAt_X3 hown hK (hΦ 0 _ rfl) 0 (by decide) rfl (hts (.fieldLink RX3 9 "CranePermits$Text" "signs" "[C") (List.mem_of_getElem? (i := 2) rfl)) rfl rfl dX3_signAt_14 ?_
    refine z_alen 1 (n := 80) hx hb hK rfl (hΦ 1 _ rfl) rfl dX3_signAt_17 ?_
    refine z_ge (tgt := 30) hx hb (by omega) (by omega) dX3_signAt_18 (by decide) (fun c18 => ?_) (fun c18 => ?_)
    · exact absurd c18 (by omega)
    · refine lv_aload_n hx hb dX3_signAt_21 rfl (lv_at hl 0 rfl) ?_
      refine z_get (fs := [.ref (t + 1), .int (nI len), .int st, .int (nI nx), .int (bI fo), .int cr, .int ni, .int ho, .int sw]) (ref := "CranePermits$Text") (C := RX3) (T := TX3) (N := 9) (ci := 3) (v := .ref (t + 1)) hx hb hts i_c_X3_signAt_X3 hown hK (hΦ 0 _ rfl) 0 (by decide) rfl (hts (.fieldLink RX3 9 "CranePermits$Text" "signs" "[C") (List.mem_of_getElem? (i := 2) rfl)) rfl rfl dX3_signAt_22 ?_
      refine lv_iload_n hx hb dX3_signAt_25 rfl (lv_at hl 1 rfl) ?_
      refine z_cald (f := tx) hx hb hK (hΦ 1 _ rfl) (by omega) (by omega) dX3_signAt_26 ?_
      refine lv_goto (tgt := 31) hx hb dX3_signAt_27 (by decide) ?_
      exact z_reti hx hb hr hlocks rfl (by unfold sgA; rw [if_pos c9]) dX3_signAt_31
theorem i_c_X3_append_X3 : ∀ w ∈ wsX30, w ∈ wsX3_append := fun w h => (List.mem_cons_of_mem _ (List.mem_append_right _ h))
set_option maxRecDepth 100000 in
set_option maxHeartbeats 4000000 in
theorem c_X3_append (l : Launch) (D : va_G) (y : zY) (t : Nat) (len : Nat) (st : Int32) (nx : Nat) (fo : Bool) (cr : Int32) (ni : Int32) (ho : Int32) (sw : Int32) (tx : Nat → Int32) (v : Int32) (hlen : len < 80) : Met l yX3_append wsX3_append ({ frames := 0, cells := 0, slots := 0, locals := 0 }) (zP [.ref t, .int v] (va_P D vwCl (tWs y t (nI len) st (nI nx) (bI fo) cr ni ho sw tx)) D y) (zW none (va_P D vwCl (tWs y t (nI (len + 1)) st (nI nx) (bI fo) cr ni ho sw (upd tx len (vp_nar .char v)))) (blk t 2)) 0 0 (blk t 2) := by
  refine z_body (cc := cX3_append) (maxL := 2) (ret := none) (la := [(0, .ref t), (1, .int v)]) (by decide) rfl (Nat.le_of_ble_eq_true rfl) rfl ?_
  intro pg ev s mm below meth c0 ls hx hb hr hF hlocks hΦ hK hl _
  have hts := hF.2.2.2.2
  have hown : s.vm.findClass RX3 = some mm.cls := hF.2.2.2.1
  have hP : va_P D vwCl (tWs y t (nI len) st (nI nx) (bI fo) cr ni ho sw tx) s.heap := hΦ
  have hS : va_S (blk t 2) s.heap s.heap [] := va_S.rf
  refine lv_aload_n hx hb dX3_append_0 rfl (lv_at hl 0 rfl) ?_
  refine z_get (fs := [.ref (t + 1), .int (nI len), .int st, .int (nI nx), .int (bI fo), .int cr, .int ni, .int ho, .int sw]) (ref := "CranePermits$Text") (C := RX3) (T := TX3) (N := 9) (ci := 3) (v := .int (nI len)) hx hb hts i_c_X3_append_X3 hown hK (hP 0 _ rfl) 1 (by decide) rfl (hts (.fieldLink RX3 15 "CranePermits$Text" "length" "I") (List.mem_of_getElem? (i := 1) rfl)) rfl rfl dX3_append_1 ?_
  refine n_if_lt (tgt := 39) hx hb (by omega) dX3_append_4 (by decide) ?_
  refine lv_aload_n hx hb dX3_append_7 rfl (lv_at hl 0 rfl) ?_
  refine z_get (fs := [.ref (t + 1), .int (nI len), .int st, .int (nI nx), .int (bI fo), .int cr, .int ni, .int ho, .int sw]) (ref := "CranePermits$Text") (C := RX3) (T := TX3) (N := 9) (ci := 3) (v := .int (nI len)) hx hb hts i_c_X3_append_X3 hown hK (hP 0 _ rfl) 1 (by decide) rfl (hts (.fieldLink RX3 15 "CranePermits$Text" "length" "I") (List.mem_of_getElem? (i := 1) rfl)) rfl rfl dX3_append_8 ?_
  refine lv_aload_n hx hb dX3_append_11 rfl (lv_at hl 0 rfl) ?_
  refine z_get (fs := [.ref (t + 1), .int (nI len), .int st, .int (nI nx), .int (bI fo), .int cr, .int ni, .int ho, .int sw]) (ref := "CranePermits$Text") (C := RX3) (T := TX3) (N := 9) (ci := 3) (v := .ref (t + 1)) hx hb hts i_c_X3_append_X3 hown hK (hP 0 _ rfl) 0 (by decide) rfl (hts (.fieldLink RX3 9 "CranePermits$Text" "signs" "[C") (List.mem_of_getElem? (i := 2) rfl)) rfl rfl dX3_append_12 ?_
  refine z_alen 1 (n := 80) hx hb hK rfl (hP 1 _ rfl) rfl dX3_append_15 ?_
  refine z_ge (tgt := 39) hx hb (by omega) (by omega) dX3_append_16 (by decide) (fun c16 => ?_) (fun c16 => ?_)
  · exact absurd c16 (by omega)
  · refine lv_aload_n hx hb dX3_append_19 rfl (lv_at hl 0 rfl) ?_
    refine z_get (fs := [.ref (t + 1), .int (nI len), .int st, .int (nI nx), .int (bI fo), .int cr, .int ni, .int ho, .int sw]) (ref := "CranePermits$Text") (C := RX3) (T := TX3) (N := 9) (ci := 3) (v := .ref (t + 1)) hx hb hts i_c_X3_append_X3 hown hK (hP 0 _ rfl) 0 (by decide) rfl (hts (.fieldLink RX3 9 "CranePermits$Text" "signs" "[C") (List.mem_of_getElem? (i := 2) rfl)) rfl rfl dX3_append_20 ?_
    refine lv_aload_n hx hb dX3_append_23 rfl (lv_at hl 0 rfl) ?_
    refine z_get (fs := [.ref (t + 1), .int (nI len), .int st, .int (nI nx), .int (bI fo), .int cr, .int ni, .int ho, .int sw]) (ref := "CranePermits$Text") (C := RX3) (T := TX3) (N := 9) (ci := 3) (v := .int (nI len)) hx hb hts i_c_X3_append_X3 hown hK (hP 0 _ rfl) 1 (by decide) rfl (hts (.fieldLink RX3 15 "CranePermits$Text" "length" "I") (List.mem_of_getElem? (i := 1) rfl)) rfl rfl dX3_append_24 ?_
    refine lv_iload_n hx hb dX3_append_27 rfl (lv_at hl 1 rfl) ?_
    refine y_cast (a := (t + 1)) (f := tx) (i := len) hx hb hK (hP 1 _ rfl) (by omega) (by omega) dX3_append_28 (fun H1 hU hV => ?_)
    have hS := hS.upd (x := len) hU (blk_in (by omega) (by omega))
    have hP : va_P D vwCl (tWs y t (nI len) st (nI nx) (bI fo) cr ni ho sw (upd tx len (vp_nar .char v))) H1 := hP.upd (q0 := 1) tWs_D rfl hU hV
    clear hU hV
    refine lv_aload_n hx hb dX3_append_29 rfl (lv_at hl 0 rfl) ?_
    refine lv_dup hx hb dX3_append_30 rfl ?_
    refine z_get (fs := [.ref (t + 1), .int (nI len), .int st, .int (nI nx), .int (bI fo), .int cr, .int ni, .int ho, .int sw]) (ref := "CranePermits$Text") (C := RX3) (T := TX3) (N := 9) (ci := 3) (v := .int (nI len)) hx hb hts i_c_X3_append_X3 hown hK (hP 0 _ rfl) 1 (by decide) rfl (hts (.fieldLink RX3 15 "CranePermits$Text" "length" "I") (List.mem_of_getElem? (i := 1) rfl)) rfl rfl dX3_append_31 ?_
    refine lv_iconst (v := (nI 1)) hx hb dX3_append_34 (by decide) ?_
    refine z_iadd hx hb dX3_append_35 ?_
    refine y_put (a := t) (fs := [.ref (t + 1), .int (nI len), .int st, .int (nI nx), .int (bI fo), .int cr, .int ni, .int ho, .int sw]) (ref := "CranePermits$Text") (C := RX3) (T := TX3) (N := 9) (ci := 3) (v := .int (nI (len + 1))) (ty := .int) hx hb hts i_c_X3_append_X3 tyX3 tyX3_ok nmX3 hown hK (hP 0 _ rfl) 1 (by decide) rfl (hts (.fieldLink RX3 15 "CranePermits$Text" "length" "I") (List.mem_of_getElem? (i := 1) rfl)) rfl rfl (by decide +kernel) (rfl) rfl (Nat.le_of_ble_eq_true rfl) dX3_append_36 (fun H2 x1 hU hV => ?_)
    have hS := hS.upd (x := x1) hU (blk_in (by omega) (by omega))
    have hP : va_P D vwCl (tWs y t (nI (len + 1)) st (nI nx) (bI fo) cr ni ho sw (upd tx len (vp_nar .char v))) H2 := hP.upd (q0 := 0) tWs_D rfl hU hV
    clear hU hV
    exact w_retv hx hb hr hlocks hS (hP) dX3_append_39
theorem i_c_X3_readSign_X3 : ∀ w ∈ wsX30, w ∈ wsX3_readSign := fun w h => (List.mem_cons_of_mem _ (List.mem_append_right _ h))
set_option maxRecDepth 100000 in
set_option maxHeartbeats 4000000 in
theorem c_X3_readSign (l : Launch) (D : va_G) (y : zY) (t : Nat) (len : Nat) (st : Int32) (nx : Nat) (fo : Bool) (cr : Int32) (ni : Int32) (ho : Int32) (sw : Int32) (tx : Nat → Int32) (c : Int32) (hl80 : len ≤ 80) (hn : nx ≤ len) (hc : ¬ c = nI 0) : Met l yX3_readSign wsX3_readSign ({ frames := 1, cells := 0, slots := 0, locals := 21 }) (zP [.ref t, .int c] (va_P D vwCl (tWs y t (nI len) st (nI nx) (bI fo) cr ni ho sw tx)) D y) (zW none (va_P D vwCl (tWs y t (nI len) st (nI (atP tx len nx c)) (bI (fo && pasB tx len nx c)) cr ni ho sw tx)) (blk t 2)) 0 0 (blk t 2) := by
  refine z_body (cc := cX3_readSign) (maxL := 2) (ret := none) (la := [(0, .ref t), (1, .int c)]) (by decide) rfl (Nat.le_of_ble_eq_true rfl) rfl ?_
  intro pg ev s mm below meth c0 ls hx hb hr hF hlocks hΦ hK hl _
  have hts := hF.2.2.2.2
  have hown : s.vm.findClass RX3 = some mm.cls := hF.2.2.2.1
  have hP : va_P D vwCl (tWs y t (nI len) st (nI nx) (bI fo) cr ni ho sw tx) s.heap := hΦ
  have hS : va_S (blk t 2) s.heap s.heap [] := va_S.rf
  refine lv_aload_n hx hb dX3_readSign_0 rfl (lv_at hl 0 rfl) ?_
  refine lv_aload_n hx hb dX3_readSign_1 rfl (lv_at hl 0 rfl) ?_
  refine z_get (fs := [.ref (t + 1), .int (nI len), .int st, .int (nI nx), .int (bI fo), .int cr, .int ni, .int ho, .int sw]) (ref := "CranePermits$Text") (C := RX3) (T := TX3) (N := 9) (ci := 3) (v := .int (nI nx)) hx hb hts i_c_X3_readSign_X3 hown hK (hP 0 _ rfl) 3 (by decide) rfl (hts (.fieldLink RX3 22 "CranePermits$Text" "next" "I") (List.mem_of_getElem? (i := 1) rfl)) rfl rfl dX3_readSign_2 ?_
  refine z_callV (As := [.int (nI nx)]) (rest := []) hF hK (c_X3_signAt l D y t len st nx fo cr ni ho sw tx nx (by omega) (by omega)) (cwV 1 hts gX3_readSign_X3_signAt rfl rfl rfl (by decide +kernel) ⟨Nat.le_of_ble_eq_true rfl, Nat.le_of_ble_eq_true rfl⟩) (z_recv (q := (RX3, TX3, 9)) hK (hP 0 _ rfl) rfl) hP rfl hl.1 rfl (Nat.le_of_ble_eq_true rfl) dX3_readSign_5 ⟨Nat.zero_le _, Nat.zero_le _⟩ ?_
  refine lv_iload_n hx hb dX3_readSign_8 rfl (lv_at hl 1 rfl) ?_
  refine lv_icmp_ne (tgt := 25) hx hb dX3_readSign_9 (by decide) (fun c9 => ?_) (fun c9 => ?_)
  · refine lv_aload_n hx hb dX3_readSign_25 rfl (lv_at hl 0 rfl) ?_
    refine lv_iconst (v := (nI 0)) hx hb dX3_readSign_26 (by decide) ?_
    refine y_put (a := t) (fs := [.ref (t + 1), .int (nI len), .int st, .int (nI nx), .int (bI fo), .int cr, .int ni, .int ho, .int sw]) (ref := "CranePermits$Text") (C := RX3) (T := TX3) (N := 9) (ci := 3) (v := .int (bI false)) (ty := .boolean) hx hb hts i_c_X3_readSign_X3 tyX3 tyX3_ok nmX3 hown hK (hP 0 _ rfl) 4 (by decide) rfl (hts (.fieldLink RX3 25 "CranePermits$Text" "formed" "Z") (List.mem_of_getElem? (i := 2) rfl)) rfl rfl (by decide +kernel) (bI_nar _) rfl (Nat.le_of_ble_eq_true rfl) dX3_readSign_27 (fun H1 x1 hU hV => ?_)
    have hS := hS.upd (x := x1) hU (blk_in (by omega) (by omega))
    have hP : va_P D vwCl (tWs y t (nI len) st (nI nx) (bI false) cr ni ho sw tx) H1 := hP.upd (q0 := 0) tWs_D rfl hU hV
    clear hU hV
    exact w_retv hx hb hr hlocks hS (by first | (rw [← (sg_y (fo := fo) hc c9).1, ← (sg_y (fo := fo) hc c9).2]; exact hP) | (rw [← (sg_n (fo := fo) hc c9).1, ← (sg_n (fo := fo) hc c9).2]; exact hP)) dX3_readSign_30
  · refine lv_aload_n hx hb dX3_readSign_12 rfl (lv_at hl 0 rfl) ?_
    refine lv_dup hx hb dX3_readSign_13 rfl ?_
    refine z_get (fs := [.ref (t + 1), .int (nI len), .int st, .int (nI nx), .int (bI fo), .int cr, .int ni, .int ho, .int sw]) (ref := "CranePermits$Text") (C := RX3) (T := TX3) (N := 9) (ci := 3) (v := .int (nI nx)) hx hb hts i_c_X3_readSign_X3 hown hK (hP 0 _ rfl) 3 (by decide) rfl (hts (.fieldLink RX3 22 "CranePermits$Text" "next" "I") (List.mem_of_getElem? (i := 1) rfl)) rfl rfl dX3_readSign_14 ?_
    refine lv_iconst (v := (nI 1)) hx hb dX3_readSign_17 (by decide) ?_
    refine z_iadd hx hb dX3_readSign_18 ?_
    refine y_put (a := t) (fs := [.ref (t + 1), .int (nI len), .int st, .int (nI nx), .int (bI fo), .int cr, .int ni, .int ho, .int sw]) (ref := "CranePermits$Text") (C := RX3) (T := TX3) (N := 9) (ci := 3) (v := .int (nI (nx + 1))) (ty := .int) hx hb hts i_c_X3_readSign_X3 tyX3 tyX3_ok nmX3 hown hK (hP 0 _ rfl) 3 (by decide) rfl (hts (.fieldLink RX3 22 "CranePermits$Text" "next" "I") (List.mem_of_getElem? (i := 1) rfl)) rfl rfl (by decide +kernel) (rfl) rfl (Nat.le_of_ble_eq_true rfl) dX3_readSign_19 (fun H2 x1 hU hV => ?_)
    have hS := hS.upd (x := x1) hU (blk_in (by omega) (by omega))
    have hP : va_P D vwCl (tWs y t (nI len) st (nI (nx + 1)) (bI fo) cr ni ho sw tx) H2 := hP.upd (q0 := 0) tWs_D rfl hU hV
    clear hU hV
    refine lv_goto (tgt := 30) hx hb dX3_readSign_22 (by decide) ?_
    exact w_retv hx hb hr hlocks hS (by first | (rw [← (sg_y (fo := fo) hc c9).1, ← (sg_y (fo := fo) hc c9).2]; exact hP) | (rw [← (sg_n (fo := fo) hc c9).1, ← (sg_n (fo := fo) hc c9).2]; exact hP)) dX3_readSign_30
theorem i_c_X3_readNumber_X3 : ∀ w ∈ wsX30, w ∈ wsX3_readNumber := fun w h => (List.mem_cons_of_mem _ (List.mem_append_right _ h))
set_option maxRecDepth 100000 in
set_option maxHeartbeats 4000000 in
theorem c_X3_readNumber (l : Launch) (D : va_G) (y : zY) (t : Nat) (len : Nat) (st : Int32) (nx : Nat) (fo : Bool) (cr : Int32) (ni : Int32) (ho : Int32) (sw : Int32) (tx : Nat → Int32) (q : Nat) (hl80 : len ≤ 80) (hn : nx ≤ len) (hq : q ≤ 3) : Met l yX3_readNumber wsX3_readNumber ({ frames := 1, cells := 0, slots := 0, locals := 22 }) (zP [.ref t, .int (nI q)] (va_P D vwCl (tWs y t (nI len) st (nI nx) (bI fo) cr ni ho sw tx)) D y) (zW (some (.int (numV tx nx (numJ tx len nx q)))) (va_P D vwCl (tWs y t (nI len) st (nI (nx + numJ tx len nx q)) (bI (fo && decide (0 < numJ tx len nx q))) cr ni ho sw tx)) (blk t 2)) 0 0 (blk t 2) := by
  refine z_body (cc := cX3_readNumber) (maxL := 4) (ret := (some .int)) (la := [(0, .ref t), (1, .int (nI q))]) (by decide) rfl (Nat.le_of_ble_eq_true rfl) rfl ?_
  intro pg ev s mm below meth c0 ls hx hb hr hF hlocks hΦ hK hl _
  have hts := hF.2.2.2.2
  have hown : s.vm.findClass RX3 = some mm.cls := hF.2.2.2.1
  have hP : va_P D vwCl (tWs y t (nI len) st (nI nx) (bI fo) cr ni ho sw tx) s.heap := hΦ
  have hS : va_S (blk t 2) s.heap s.heap [] := va_S.rf
  refine lv_iconst (v := (nI 0)) hx hb dX3_readNumber_0 (by decide) ?_
  refine lv_istore_n (lv' := [(2, .int (nI 0)), (0, .ref t), (1, .int (nI q))]) hx hb dX3_readNumber_1 rfl hl (by decide) rfl (fun ls hl => ?_)
  refine lv_iconst (v := (nI 0)) hx hb dX3_readNumber_2 (by decide) ?_
  refine lv_istore_n (lv' := [(3, .int (nI 0)), (2, .int (nI 0)), (0, .ref t), (1, .int (nI q))]) hx hb dX3_readNumber_3 rfl hl (by decide) rfl (fun ls hl => ?_)
  have hl := lv_repl (l' := [(3, .int (nI 0)), (2, .int (numV tx nx 0)), (0, .ref t), (1, .int (nI q))]) hl 1 rfl (congrArg Value.int (show (nI 0) = (numV tx nx 0) from rfl)) rfl
  refine z_loopW (S := Nat) (nL := 4) (fun (j : Nat) => q - j) (fun (j : Nat) => [(3, .int (nI j)), (2, .int (numV tx nx j)), (0, .ref t), (1, .int (nI q))]) (fun (j : Nat) (H : Heap) (locs : List Loc) => va_P D vwCl (tWs y t (nI len) st (nI (nx + j)) (bI fo) cr ni ho sw tx) H ∧ va_S (blk t 2) s.heap H locs ∧ (j ≤ q ∧ ∀ i, i < j → (!digP tx len nx i) = false)) 0 ⟨hP, hS, ⟨Nat.zero_le _, fun i hi => absurd hi (Nat.not_lt_zero i)⟩⟩ (lv_sub hl [0, 1, 2, 3] rfl) ?_
  clear hl hP hS
  rintro j H1 locs ls ⟨hP, hS, hI_4⟩ hl ih_4
  obtain ⟨hj, hall⟩ := hI_4
  have hjl := dg_le hn hall
  refine lv_iload_n hx hb dX3_readNumber_4 rfl (lv_at hl 0 rfl) ?_
  refine lv_iload_n hx hb dX3_readNumber_5 rfl (lv_at hl 3 rfl) ?_
  refine z_ge (tgt := 60) hx hb (by omega) (by omega) dX3_readNumber_6 (by decide) (fun c6 => ?_) (fun c6 => ?_)
  · refine lv_aload_n hx hb dX3_readNumber_60 rfl (lv_at hl 2 rfl) ?_
    refine lv_aload_n hx hb dX3_readNumber_61 rfl (lv_at hl 2 rfl) ?_
    refine z_get (fs := [.ref (t + 1), .int (nI len), .int st, .int (nI (nx + j)), .int (bI fo), .int cr, .int ni, .int ho, .int sw]) (ref := "CranePermits$Text") (C := RX3) (T := TX3) (N := 9) (ci := 3) (v := .int (bI fo)) hx hb hts i_c_X3_readNumber_X3 hown hK (hP 0 _ rfl) 4 (by decide) rfl (hts (.fieldLink RX3 25 "CranePermits$Text" "formed" "Z") (List.mem_of_getElem? (i := 2) rfl)) rfl rfl dX3_readNumber_62 ?_
    refine z_ifeq (tgt := 76) hx hb dX3_readNumber_65 (by decide) (fun c65 => ?_) (fun c65 => ?_)
    · refine lv_iconst (v := (nI 0)) hx hb dX3_readNumber_76 (by decide) ?_
      refine y_put (a := t) (fs := [.ref (t + 1), .int (nI len), .int st, .int (nI (nx + j)), .int (bI fo), .int cr, .int ni, .int ho, .int sw]) (ref := "CranePermits$Text") (C := RX3) (T := TX3) (N := 9) (ci := 3) (v := .int (bI false)) (ty := .boolean) hx hb hts i_c_X3_readNumber_X3 tyX3 tyX3_ok nmX3 hown hK (hP 0 _ rfl) 4 (by decide) rfl (hts (.fieldLink RX3 25 "CranePermits$Text" "formed" "Z") (List.mem_of_getElem? (i := 2) rfl)) rfl rfl (by decide +kernel) (bI_nar _) rfl (Nat.le_of_ble_eq_true rfl) dX3_readNumber_77 (fun H2 x1 hU hV => ?_)
      have hS := hS.upd (x := x1) hU (blk_in (by omega) (by omega))
      have hP : va_P D vwCl (tWs y t (nI len) st (nI (nx + j)) (bI false) cr ni ho sw tx) H2 := hP.upd (q0 := 0) tWs_D rfl hU hV
      clear hU hV
      refine lv_iload_n hx hb dX3_readNumber_80 rfl (lv_at hl 1 rfl) ?_
      exact w_reti hx hb hr hlocks hS (by rw [show numJ tx len nx q = j from num_end hj hall (by first | exact Or.inl (by omega) | exact Or.inr (by rw [dg_sg, c24]))]; first | (rw [c65, decide_eq_true (Nat.pos_of_ne_zero c69)]; exact hP) | (rw [c65, decide_eq_false (show ¬ 0 < j by omega)]; exact hP) | (rw [c65, Bool.false_and]; exact hP)) (by rw [show numJ tx len nx q = j from num_end hj hall (by first | exact Or.inl (by omega) | exact Or.inr (by rw [dg_sg, c24]))]) dX3_readNumber_81
    · refine lv_iload_n hx hb dX3_readNumber_68 rfl (lv_at hl 0 rfl) ?_
      refine n_if_le (tgt := 76) hx hb (by omega) dX3_readNumber_69 (by decide) (fun c69 => ?_) (fun c69 => ?_)
      · refine lv_iconst (v := (nI 0)) hx hb dX3_readNumber_76 (by decide) ?_
        refine y_put (a := t) (fs := [.ref (t + 1), .int (nI len), .int st, .int (nI (nx + j)), .int (bI fo), .int cr, .int ni, .int ho, .int sw]) (ref := "CranePermits$Text") (C := RX3) (T := TX3) (N := 9) (ci := 3) (v := .int (bI false)) (ty := .boolean) hx hb hts i_c_X3_readNumber_X3 tyX3 tyX3_ok nmX3 hown hK (hP 0 _ rfl) 4 (by decide) rfl (hts (.fieldLink RX3 25 "CranePermits$Text" "formed" "Z") (List.mem_of_getElem? (i := 2) rfl)) rfl rfl (by decide +kernel) (bI_nar _) rfl (Nat.le_of_ble_eq_true rfl) dX3_readNumber_77 (fun H3 x1 hU hV => ?_)
        have hS := hS.upd (x := x1) hU (blk_in (by omega) (by omega))
        have hP : va_P D vwCl (tWs y t (nI len) st (nI (nx + j)) (bI false) cr ni ho sw tx) H3 := hP.upd (q0 := 0) tWs_D rfl hU hV
        clear hU hV
        refine lv_iload_n hx hb dX3_readNumber_80 rfl (lv_at hl 1 rfl) ?_
        exact w_reti hx hb hr hlocks hS (by rw [show numJ tx len nx q = j from num_end hj hall (by first | exact Or.inl (by omega) | exact Or.inr (by rw [dg_sg, c24]))]; first | (rw [c65, decide_eq_true (Nat.pos_of_ne_zero c69)]; exact hP) | (rw [c65, decide_eq_false (show ¬ 0 < j by omega)]; exact hP) | (rw [c65, Bool.false_and]; exact hP)) (by rw [show numJ tx len nx q = j from num_end hj hall (by first | exact Or.inl (by omega) | exact Or.inr (by rw [dg_sg, c24]))]) dX3_readNumber_81
      · refine lv_iconst (v := (nI 1)) hx hb dX3_readNumber_72 (by decide) ?_
        refine lv_goto (tgt := 77) hx hb dX3_readNumber_73 (by decide) ?_
        refine y_put (a := t) (fs := [.ref (t + 1), .int (nI len), .int st, .int (nI (nx + j)), .int (bI fo), .int cr, .int ni, .int ho, .int sw]) (ref := "CranePermits$Text") (C := RX3) (T := TX3) (N := 9) (ci := 3) (v := .int (bI true)) (ty := .boolean) hx hb hts i_c_X3_readNumber_X3 tyX3 tyX3_ok nmX3 hown hK (hP 0 _ rfl) 4 (by decide) rfl (hts (.fieldLink RX3 25 "CranePermits$Text" "formed" "Z") (List.mem_of_getElem? (i := 2) rfl)) rfl rfl (by decide +kernel) (bI_nar _) rfl (Nat.le_of_ble_eq_true rfl) dX3_readNumber_77 (fun H4 x1 hU hV => ?_)
        have hS := hS.upd (x := x1) hU (blk_in (by omega) (by omega))
        have hP : va_P D vwCl (tWs y t (nI len) st (nI (nx + j)) (bI true) cr ni ho sw tx) H4 := hP.upd (q0 := 0) tWs_D rfl hU hV
        clear hU hV
        refine lv_iload_n hx hb dX3_readNumber_80 rfl (lv_at hl 1 rfl) ?_
        exact w_reti hx hb hr hlocks hS (by rw [show numJ tx len nx q = j from num_end hj hall (by first | exact Or.inl (by omega) | exact Or.inr (by rw [dg_sg, c24]))]; first | (rw [c65, decide_eq_true (Nat.pos_of_ne_zero c69)]; exact hP) | (rw [c65, decide_eq_false (show ¬ 0 < j by omega)]; exact hP) | (rw [c65, Bool.false_and]; exact hP)) (by rw [show numJ tx len nx q = j from num_end hj hall (by first | exact Or.inl (by omega) | exact Or.inr (by rw [dg_sg, c24]))]) dX3_readNumber_81
  · refine lv_aload_n hx hb dX3_readNumber_9 rfl (lv_at hl 2 rfl) ?_
    refine lv_aload_n hx hb dX3_readNumber_10 rfl (lv_at hl 2 rfl) ?_
    refine z_get (fs := [.ref (t + 1), .int (nI len), .int st, .int (nI (nx + j)), .int (bI fo), .int cr, .int ni, .int ho, .int sw]) (ref := "CranePermits$Text") (C := RX3) (T := TX3) (N := 9) (ci := 3) (v := .int (nI (nx + j))) hx hb hts i_c_X3_readNumber_X3 hown hK (hP 0 _ rfl) 3 (by decide) rfl (hts (.fieldLink RX3 22 "CranePermits$Text" "next" "I") (List.mem_of_getElem? (i := 1) rfl)) rfl rfl dX3_readNumber_11 ?_
    refine z_callV (As := [.int (nI (nx + j))]) (rest := []) hF hK (c_X3_signAt l D y t len st (nx + j) fo cr ni ho sw tx (nx + j) (by omega) (by omega)) (cwV 1 hts gX3_readNumber_X3_signAt rfl rfl rfl (by decide +kernel) ⟨Nat.le_of_ble_eq_true rfl, Nat.le_of_ble_eq_true rfl⟩) (z_recv (q := (RX3, TX3, 9)) hK (hP 0 _ rfl) rfl) hP rfl hl.1 rfl (Nat.le_of_ble_eq_true rfl) dX3_readNumber_14 ⟨Nat.zero_le _, Nat.zero_le _⟩ ?_
    refine lv_bipush (v := (nI 48)) hx hb dX3_readNumber_17 (by decide) ?_
    refine lv_bipush (v := (nI 57)) hx hb dX3_readNumber_19 (by decide) ?_
    refine z_callN (As := [.int (sgA tx len (nx + j)), .int (nI 48), .int (nI 57)]) (rest := []) hF hK (c_X4_isIn l D y (sgA tx len (nx + j)) (nI 48) (nI 57) ) ⟨va_cnB 3 hts gX3_readNumber_X4_isIn_n52 rfl rfl rfl hK.2.2.2.2.2.1 (hts (.initialized RX4) (List.mem_of_getElem? (i := 11) rfl)) (by decide +kernel) ⟨Nat.le_of_ble_eq_true rfl, Nat.le_of_ble_eq_true rfl⟩, (hts (.static yX4_isIn) (List.mem_of_getElem? (i := 10) rfl)), trivial⟩ trivial rfl hl.1 rfl (Nat.le_of_ble_eq_true rfl) dX3_readNumber_21 ⟨Nat.zero_le _, Nat.zero_le _⟩ ?_
    refine z_ifeq (tgt := 60) hx hb dX3_readNumber_24 (by decide) (fun c24 => ?_) (fun c24 => ?_)
    · refine lv_aload_n hx hb dX3_readNumber_60 rfl (lv_at hl 2 rfl) ?_
      refine lv_aload_n hx hb dX3_readNumber_61 rfl (lv_at hl 2 rfl) ?_
      refine z_get (fs := [.ref (t + 1), .int (nI len), .int st, .int (nI (nx + j)), .int (bI fo), .int cr, .int ni, .int ho, .int sw]) (ref := "CranePermits$Text") (C := RX3) (T := TX3) (N := 9) (ci := 3) (v := .int (bI fo)) hx hb hts i_c_X3_readNumber_X3 hown hK (hP 0 _ rfl) 4 (by decide) rfl (hts (.fieldLink RX3 25 "CranePermits$Text" "formed" "Z") (List.mem_of_getElem? (i := 2) rfl)) rfl rfl dX3_readNumber_62 ?_
      refine z_ifeq (tgt := 76) hx hb dX3_readNumber_65 (by decide) (fun c65 => ?_) (fun c65 => ?_)
      · refine lv_iconst (v := (nI 0)) hx hb dX3_readNumber_76 (by decide) ?_
        refine y_put (a := t) (fs := [.ref (t + 1), .int (nI len), .int st, .int (nI (nx + j)), .int (bI fo), .int cr, .int ni, .int ho, .int sw]) (ref := "CranePermits$Text") (C := RX3) (T := TX3) (N := 9) (ci := 3) (v := .int (bI false)) (ty := .boolean) hx hb hts i_c_X3_readNumber_X3 tyX3 tyX3_ok nmX3 hown hK (hP 0 _ rfl) 4 (by decide) rfl (hts (.fieldLink RX3 25 "CranePermits$Text" "formed" "Z") (List.mem_of_getElem? (i := 2) rfl)) rfl rfl (by decide +kernel) (bI_nar _) rfl (Nat.le_of_ble_eq_true rfl) dX3_readNumber_77 (fun H5 x1 hU hV => ?_)
        have hS := hS.upd (x := x1) hU (blk_in (by omega) (by omega))
        have hP : va_P D vwCl (tWs y t (nI len) st (nI (nx + j)) (bI false) cr ni ho sw tx) H5 := hP.upd (q0 := 0) tWs_D rfl hU hV
        clear hU hV
        refine lv_iload_n hx hb dX3_readNumber_80 rfl (lv_at hl 1 rfl) ?_
        exact w_reti hx hb hr hlocks hS (by rw [show numJ tx len nx q = j from num_end hj hall (by first | exact Or.inl (by omega) | exact Or.inr (by rw [dg_sg, c24]))]; first | (rw [c65, decide_eq_true (Nat.pos_of_ne_zero c69)]; exact hP) | (rw [c65, decide_eq_false (show ¬ 0 < j by omega)]; exact hP) | (rw [c65, Bool.false_and]; exact hP)) (by rw [show numJ tx len nx q = j from num_end hj hall (by first | exact Or.inl (by omega) | exact Or.inr (by rw [dg_sg, c24]))]) dX3_readNumber_81
      · refine lv_iload_n hx hb dX3_readNumber_68 rfl (lv_at hl 0 rfl) ?_
        refine n_if_le (tgt := 76) hx hb (by omega) dX3_readNumber_69 (by decide) (fun c69 => ?_) (fun c69 => ?_)
        · refine lv_iconst (v := (nI 0)) hx hb dX3_readNumber_76 (by decide) ?_
          refine y_put (a := t) (fs := [.ref (t + 1), .int (nI len), .int st, .int (nI (nx + j)), .int (bI fo), .int cr, .int ni, .int ho, .int sw]) (ref := "CranePermits$Text") (C := RX3) (T := TX3) (N := 9) (ci := 3) (v := .int (bI false)) (ty := .boolean) hx hb hts i_c_X3_readNumber_X3 tyX3 tyX3_ok nmX3 hown hK (hP 0 _ rfl) 4 (by decide) rfl (hts (.fieldLink RX3 25 "CranePermits$Text" "formed" "Z") (List.mem_of_getElem? (i := 2) rfl)) rfl rfl (by decide +kernel) (bI_nar _) rfl (Nat.le_of_ble_eq_true rfl) dX3_readNumber_77 (fun H6 x1 hU hV => ?_)
          have hS := hS.upd (x := x1) hU (blk_in (by omega) (by omega))
          have hP : va_P D vwCl (tWs y t (nI len) st (nI (nx + j)) (bI false) cr ni ho sw tx) H6 := hP.upd (q0 := 0) tWs_D rfl hU hV
          clear hU hV
          refine lv_iload_n hx hb dX3_readNumber_80 rfl (lv_at hl 1 rfl) ?_
          exact w_reti hx hb hr hlocks hS (by rw [show numJ tx len nx q = j from num_end hj hall (by first | exact Or.inl (by omega) | exact Or.inr (by rw [dg_sg, c24]))]; first | (rw [c65, decide_eq_true (Nat.pos_of_ne_zero c69)]; exact hP) | (rw [c65, decide_eq_false (show ¬ 0 < j by omega)]; exact hP) | (rw [c65, Bool.false_and]; exact hP)) (by rw [show numJ tx len nx q = j from num_end hj hall (by first | exact Or.inl (by omega) | exact Or.inr (by rw [dg_sg, c24]))]) dX3_readNumber_81
        · refine lv_iconst (v := (nI 1)) hx hb dX3_readNumber_72 (by decide) ?_
          refine lv_goto (tgt := 77) hx hb dX3_readNumber_73 (by decide) ?_
          refine y_put (a := t) (fs := [.ref (t + 1), .int (nI len), .int st, .int (nI (nx + j)), .int (bI fo), .int cr, .int ni, .int ho, .int sw]) (ref := "CranePermits$Text") (C := RX3) (T := TX3) (N := 9) (ci := 3) (v := .int (bI true)) (ty := .boolean) hx hb hts i_c_X3_readNumber_X3 tyX3 tyX3_ok nmX3 hown hK (hP 0 _ rfl) 4 (by decide) rfl (hts (.fieldLink RX3 25 "CranePermits$Text" "formed" "Z") (List.mem_of_getElem? (i := 2) rfl)) rfl rfl (by decide +kernel) (bI_nar _) rfl (Nat.le_of_ble_eq_true rfl) dX3_readNumber_77 (fun H7 x1 hU hV => ?_)
          have hS := hS.upd (x := x1) hU (blk_in (by omega) (by omega))
          have hP : va_P D vwCl (tWs y t (nI len) st (nI (nx + j)) (bI true) cr ni ho sw tx) H7 := hP.upd (q0 := 0) tWs_D rfl hU hV
          clear hU hV
          refine lv_iload_n hx hb dX3_readNumber_80 rfl (lv_at hl 1 rfl) ?_
          exact w_reti hx hb hr hlocks hS (by rw [show numJ tx len nx q = j from num_end hj hall (by first | exact Or.inl (by omega) | exact Or.inr (by rw [dg_sg, c24]))]; first | (rw [c65, decide_eq_true (Nat.pos_of_ne_zero c69)]; exact hP) | (rw [c65, decide_eq_false (show ¬ 0 < j by omega)]; exact hP) | (rw [c65, Bool.false_and]; exact hP)) (by rw [show numJ tx len nx q = j from num_end hj hall (by first | exact Or.inl (by omega) | exact Or.inr (by rw [dg_sg, c24]))]) dX3_readNumber_81
    · refine lv_bipush (v := (nI 10)) hx hb dX3_readNumber_27 (by decide) ?_
      refine lv_iload_n hx hb dX3_readNumber_29 rfl (lv_at hl 1 rfl) ?_
      refine lv_imul hx hb dX3_readNumber_30 ?_
      refine lv_aload_n hx hb dX3_readNumber_31 rfl (lv_at hl 2 rfl) ?_
      refine lv_aload_n hx hb dX3_readNumber_32 rfl (lv_at hl 2 rfl) ?_
      refine z_get (fs := [.ref (t + 1), .int (nI len), .int st, .int (nI (nx + j)), .int (bI fo), .int cr, .int ni, .int ho, .int sw]) (ref := "CranePermits$Text") (C := RX3) (T := TX3) (N := 9) (ci := 3) (v := .int (nI (nx + j))) hx hb hts i_c_X3_readNumber_X3 hown hK (hP 0 _ rfl) 3 (by decide) rfl (hts (.fieldLink RX3 22 "CranePermits$Text" "next" "I") (List.mem_of_getElem? (i := 1) rfl)) rfl rfl dX3_readNumber_33 ?_
      refine z_callV (As := [.int (nI (nx + j))]) (rest := [.int ((nI 10) * (numV tx nx j))]) hF hK (c_X3_signAt l D y t len st (nx + j) fo cr ni ho sw tx (nx + j) (by omega) (by omega)) (cwV 1 hts gX3_readNumber_X3_signAt rfl rfl rfl (by decide +kernel) ⟨Nat.le_of_ble_eq_true rfl, Nat.le_of_ble_eq_true rfl⟩) (z_recv (q := (RX3, TX3, 9)) hK (hP 0 _ rfl) rfl) hP rfl hl.1 rfl (Nat.le_of_ble_eq_true rfl) dX3_readNumber_36 ⟨Nat.zero_le _, Nat.zero_le _⟩ ?_
      refine lv_iadd hx hb dX3_readNumber_39 ?_
      refine lv_bipush (v := (nI 48)) hx hb dX3_readNumber_40 (by decide) ?_
      refine lv_isub hx hb dX3_readNumber_42 ?_
      refine lv_istore_n (lv' := [(2, .int ((((nI 10) * (numV tx nx j)) + (sgA tx len (nx + j))) - (nI 48))), (3, .int (nI j)), (0, .ref t), (1, .int (nI q))]) hx hb dX3_readNumber_43 rfl hl (by decide) rfl (fun ls hl => ?_)
      refine lv_iinc (v := (nI (j + 1))) (lv' := [(3, .int (nI (j + 1))), (2, .int ((((nI 10) * (numV tx nx j)) + (sgA tx len (nx + j))) - (nI 48))), (0, .ref t), (1, .int (nI q))]) hx hb dX3_readNumber_44 hl (k := 1) rfl (in1 _) (by decide) rfl (fun ls hl => ?_)
      refine lv_aload_n hx hb dX3_readNumber_47 rfl (lv_at hl 2 rfl) ?_
      refine lv_dup hx hb dX3_readNumber_48 rfl ?_
      refine z_get (fs := [.ref (t + 1), .int (nI len), .int st, .int (nI (nx + j)), .int (bI fo), .int cr, .int ni, .int ho, .int sw]) (ref := "CranePermits$Text") (C := RX3) (T := TX3) (N := 9) (ci := 3) (v := .int (nI (nx + j))) hx hb hts i_c_X3_readNumber_X3 hown hK (hP 0 _ rfl) 3 (by decide) rfl (hts (.fieldLink RX3 22 "CranePermits$Text" "next" "I") (List.mem_of_getElem? (i := 1) rfl)) rfl rfl dX3_readNumber_49 ?_
      refine lv_iconst (v := (nI 1)) hx hb dX3_readNumber_52 (by decide) ?_
      refine z_iadd hx hb dX3_readNumber_53 ?_
      refine y_put (a := t) (fs := [.ref (t + 1), .int (nI len), .int st, .int (nI (nx + j)), .int (bI fo), .int cr, .int ni, .int ho, .int sw]) (ref := "CranePermits$Text") (C := RX3) (T := TX3) (N := 9) (ci := 3) (v := .int (nI ((nx + j) + 1))) (ty := .int) hx hb hts i_c_X3_readNumber_X3 tyX3 tyX3_ok nmX3 hown hK (hP 0 _ rfl) 3 (by decide) rfl (hts (.fieldLink RX3 22 "CranePermits$Text" "next" "I") (List.mem_of_getElem? (i := 1) rfl)) rfl rfl (by decide +kernel) (rfl) rfl (Nat.le_of_ble_eq_true rfl) dX3_readNumber_54 (fun H8 x1 hU hV => ?_)
      have hS := hS.upd (x := x1) hU (blk_in (by omega) (by omega))
      have hP : va_P D vwCl (tWs y t (nI len) st (nI ((nx + j) + 1)) (bI fo) cr ni ho sw tx) H8 := hP.upd (q0 := 0) tWs_D rfl hU hV
      clear hU hV
      refine lv_goto (tgt := 4) hx hb dX3_readNumber_57 (by decide) ?_
      have hl := lv_repl (l' := [(3, .int (nI (j + 1))), (2, .int (numV tx nx (j + 1))), (0, .ref t), (1, .int (nI q))]) hl 1 rfl (congrArg Value.int (show ((((nI 10) * (numV tx nx j)) + (sgA tx len (nx + j))) - (nI 48)) = (numV tx nx (j + 1)) from by rw [sg_dig c24]; rfl)) rfl
      exact ih_4 (j + 1) _ _ _ (by omega) ⟨hP, hS, ⟨by omega, lt_sc hall (by rw [dg_sg, c24]; rfl)⟩⟩ (lv_sub hl [0, 1, 2, 3] rfl)
