/-! THE CLASS: an application, read -/
def P1 (tx : Nat → Int32) (len a : Nat) : Nat := a + numJ tx len a 1
def Q1 (tx : Nat → Int32) (len a : Nat) : Nat := atP tx len (P1 tx len a) (nI 110)
def U0 (tx : Nat → Int32) (len a : Nat) : Int32 := numV tx a (numJ tx len a 1)
def G0 (tx : Nat → Int32) (len a : Nat) : Bool := true && decide (0 < numJ tx len a 1)
def G1 (tx : Nat → Int32) (len a : Nat) : Bool := G0 tx len a && pasB tx len (P1 tx len a) (nI 110)
def P2 (tx : Nat → Int32) (len a : Nat) : Nat := (Q1 tx len a) + numJ tx len (Q1 tx len a) 2
def Q2 (tx : Nat → Int32) (len a : Nat) : Nat := atP tx len (P2 tx len a) (nI 104)
def U1 (tx : Nat → Int32) (len a : Nat) : Int32 := numV tx (Q1 tx len a) (numJ tx len (Q1 tx len a) 2)
def G2 (tx : Nat → Int32) (len a : Nat) : Bool := G1 tx len a && decide (0 < numJ tx len (Q1 tx len a) 2)
def G3 (tx : Nat → Int32) (len a : Nat) : Bool := G2 tx len a && pasB tx len (P2 tx len a) (nI 104)
def P3 (tx : Nat → Int32) (len a : Nat) : Nat := (Q2 tx len a) + numJ tx len (Q2 tx len a) 1
def Q3 (tx : Nat → Int32) (len a : Nat) : Nat := atP tx len (P3 tx len a) (nI 45)
def U2 (tx : Nat → Int32) (len a : Nat) : Int32 := numV tx (Q2 tx len a) (numJ tx len (Q2 tx len a) 1)
def G4 (tx : Nat → Int32) (len a : Nat) : Bool := G3 tx len a && decide (0 < numJ tx len (Q2 tx len a) 1)
def G5 (tx : Nat → Int32) (len a : Nat) : Bool := G4 tx len a && pasB tx len (P3 tx len a) (nI 45)
def P4 (tx : Nat → Int32) (len a : Nat) : Nat := (Q3 tx len a) + numJ tx len (Q3 tx len a) 1
def Q4 (tx : Nat → Int32) (len a : Nat) : Nat := atP tx len (P4 tx len a) (nI 115)
def U3 (tx : Nat → Int32) (len a : Nat) : Int32 := numV tx (Q3 tx len a) (numJ tx len (Q3 tx len a) 1)
def G6 (tx : Nat → Int32) (len a : Nat) : Bool := G5 tx len a && decide (0 < numJ tx len (Q3 tx len a) 1)
def G7 (tx : Nat → Int32) (len a : Nat) : Bool := G6 tx len a && pasB tx len (P4 tx len a) (nI 115)
def P5 (tx : Nat → Int32) (len a : Nat) : Nat := (Q4 tx len a) + numJ tx len (Q4 tx len a) 3
def Q5 (tx : Nat → Int32) (len a : Nat) : Nat := atP tx len (P5 tx len a) (nI 59)
def U4 (tx : Nat → Int32) (len a : Nat) : Int32 := numV tx (Q4 tx len a) (numJ tx len (Q4 tx len a) 3)
def G8 (tx : Nat → Int32) (len a : Nat) : Bool := G7 tx len a && decide (0 < numJ tx len (Q4 tx len a) 3)
def G9 (tx : Nat → Int32) (len a : Nat) : Bool := G8 tx len a && pasB tx len (P5 tx len a) (nI 59)
def UH (tx : Nat → Int32) (len a : Nat) : Int32 := nI 10 * U2 tx len a + U3 tx len a
theorem Q1_le {tx : Nat → Int32} {len a : Nat} (h : a ≤ len) : Q1 tx len a ≤ len := atP_le (num_end_le h)
theorem Q2_le {tx : Nat → Int32} {len a : Nat} (h : a ≤ len) : Q2 tx len a ≤ len := atP_le (num_end_le (Q1_le h))
theorem Q3_le {tx : Nat → Int32} {len a : Nat} (h : a ≤ len) : Q3 tx len a ≤ len := atP_le (num_end_le (Q2_le h))
theorem Q4_le {tx : Nat → Int32} {len a : Nat} (h : a ≤ len) : Q4 tx len a ≤ len := atP_le (num_end_le (Q3_le h))
theorem Q5_le {tx : Nat → Int32} {len a : Nat} (h : a ≤ len) : Q5 tx len a ≤ len := atP_le (num_end_le (Q4_le h))
theorem i_c_X3_readApplication_X3 : ∀ w ∈ wsX30, w ∈ wsX3_readApplication := fun w h => (List.mem_cons_of_mem _ (List.mem_append_right _ h))
set_option maxRecDepth 100000 in
set_option maxHeartbeats 4000000 in
theorem c_X3_readApplication (l : Launch) (D : va_G) (y : zY) (t : Nat) (len : Nat) (st : Int32) (nx : Nat) (fo : Bool) (cr : Int32) (ni : Int32) (ho : Int32) (sw : Int32) (tx : Nat → Int32) (hl80 : len ≤ 80) (hn : nx ≤ len) : Met l yX3_readApplication wsX3_readApplication ({ frames := 2, cells := 0, slots := 0, locals := 45 }) (zP [.ref t] (va_P D vwCl (tWs y t (nI len) st (nI nx) (bI fo) cr ni ho sw tx)) D y) (zW (some (.int (bI (G9 tx len nx)))) (va_P D vwCl (tWs y t (nI len) (nI nx) (nI (Q5 tx len nx)) (bI (G9 tx len nx)) (U0 tx len nx) (U1 tx len nx) (UH tx len nx) (U4 tx len nx) tx)) (blk t 2)) 0 0 (blk t 2) := by
  refine z_body (cc := cX3_readApplication) (maxL := 3) (ret := (some .boolean)) (la := [(0, .ref t)]) (by decide) rfl (Nat.le_of_ble_eq_true rfl) rfl ?_
  intro pg ev s mm below meth c0 ls hx hb hr hF hlocks hΦ hK hl _
  have hts := hF.2.2.2.2
  have hown : s.vm.findClass RX3 = some mm.cls := hF.2.2.2.1
  have hP : va_P D vwCl (tWs y t (nI len) st (nI nx) (bI fo) cr ni ho sw tx) s.heap := hΦ
  have hS : va_S (blk t 2) s.heap s.heap [] := va_S.rf
  refine lv_aload_n hx hb dX3_readApplication_0 rfl (lv_at hl 0 rfl) ?_
  refine lv_aload_n hx hb dX3_readApplication_1 rfl (lv_at hl 0 rfl) ?_
  refine z_get (fs := [.ref (t + 1), .int (nI len), .int st, .int (nI nx), .int (bI fo), .int cr, .int ni, .int ho, .int sw]) (ref := "CranePermits$Text") (C := RX3) (T := TX3) (N := 9) (ci := 3) (v := .int (nI nx)) hx hb hts i_c_X3_readApplication_X3 hown hK (hP 0 _ rfl) 3 (by decide) rfl (hts (.fieldLink RX3 22 "CranePermits$Text" "next" "I") (List.mem_of_getElem? (i := 1) rfl)) rfl rfl dX3_readApplication_2 ?_
  refine y_put (a := t) (fs := [.ref (t + 1), .int (nI len), .int st, .int (nI nx), .int (bI fo), .int cr, .int ni, .int ho, .int sw]) (ref := "CranePermits$Text") (C := RX3) (T := TX3) (N := 9) (ci := 3) (v := .int (nI nx)) (ty := .int) hx hb hts i_c_X3_readApplication_X3 tyX3 tyX3_ok nmX3 hown hK (hP 0 _ rfl) 2 (by decide) rfl (hts (.fieldLink RX3 19 "CranePermits$Text" "start" "I") (List.mem_of_getElem? (i := 2) rfl)) rfl rfl (by decide +kernel) (rfl) rfl (Nat.le_of_ble_eq_true rfl) dX3_readApplication_5 (fun H1 x1 hU hV => ?_)
  have hS := hS.upd (x := x1) hU (blk_in (by omega) (by omega))
  have hP : va_P D vwCl (tWs y t (nI len) (nI nx) (nI nx) (bI fo) cr ni ho sw tx) H1 := hP.upd (q0 := 0) tWs_D rfl hU hV
  clear hU hV
  refine lv_aload_n hx hb dX3_readApplication_8 rfl (lv_at hl 0 rfl) ?_
  refine lv_iconst (v := (nI 1)) hx hb dX3_readApplication_9 (by decide) ?_
  refine y_put (a := t) (fs := [.ref (t + 1), .int (nI len), .int (nI nx), .int (nI nx), .int (bI fo), .int cr, .int ni, .int ho, .int sw]) (ref := "CranePermits$Text") (C := RX3) (T := TX3) (N := 9) (ci := 3) (v := .int (bI true)) (ty := .boolean) hx hb hts i_c_X3_readApplication_X3 tyX3 tyX3_ok nmX3 hown hK (hP 0 _ rfl) 4 (by decide) rfl (hts (.fieldLink RX3 25 "CranePermits$Text" "formed" "Z") (List.mem_of_getElem? (i := 3) rfl)) rfl rfl (by decide +kernel) (bI_nar _) rfl (Nat.le_of_ble_eq_true rfl) dX3_readApplication_10 (fun H2 x1 hU hV => ?_)
  have hS := hS.upd (x := x1) hU (blk_in (by omega) (by omega))
  have hP : va_P D vwCl (tWs y t (nI len) (nI nx) (nI nx) (bI true) cr ni ho sw tx) H2 := hP.upd (q0 := 0) tWs_D rfl hU hV
  clear hU hV
  refine lv_aload_n hx hb dX3_readApplication_13 rfl (lv_at hl 0 rfl) ?_
  refine lv_aload_n hx hb dX3_readApplication_14 rfl (lv_at hl 0 rfl) ?_
  refine lv_iconst (v := (nI 1)) hx hb dX3_readApplication_15 (by decide) ?_
  refine w_callV (As := [.int (nI 1)]) (rest := [.ref t]) hF hK (c_X3_readNumber l D y t len (nI nx) nx true cr ni ho sw tx 1 (by omega) (hn) (by omega)) (cwV 1 hts gX3_readApplication_X3_readNumber rfl rfl rfl (by decide +kernel) ⟨Nat.le_of_ble_eq_true rfl, Nat.le_of_ble_eq_true rfl⟩) (z_recv (q := (RX3, TX3, 9)) hK (hP 0 _ rfl) rfl) hP hS (fun q h => h) rfl hl.1 rfl (Nat.le_of_ble_eq_true rfl) dX3_readApplication_16 ⟨Nat.zero_le _, Nat.zero_le _⟩ (fun H3 locs1 hP hz hk hS => ?_)
  have hP : va_P D vwCl (tWs y t (nI len) (nI nx) (nI (nx + numJ tx len nx 1)) (bI (true && decide (0 < numJ tx len nx 1))) cr ni ho sw tx) H3 := hP
  clear hz hk
  have hP : va_P D vwCl (tWs y t (nI len) (nI nx) (nI (P1 tx len nx)) (bI (G0 tx len nx)) cr ni ho sw tx) H3 := hP
  refine z_topi (z := (U0 tx len nx)) (rfl) ?_
  refine y_put (a := t) (fs := [.ref (t + 1), .int (nI len), .int (nI nx), .int (nI (P1 tx len nx)), .int (bI (G0 tx len nx)), .int cr, .int ni, .int ho, .int sw]) (ref := "CranePermits$Text") (C := RX3) (T := TX3) (N := 9) (ci := 3) (v := .int (U0 tx len nx)) (ty := .int) hx hb hts i_c_X3_readApplication_X3 tyX3 tyX3_ok nmX3 hown hK (hP 0 _ rfl) 5 (by decide) rfl (hts (.fieldLink RX3 29 "CranePermits$Text" "crane" "I") (List.mem_of_getElem? (i := 4) rfl)) rfl rfl (by decide +kernel) (rfl) rfl (Nat.le_of_ble_eq_true rfl) dX3_readApplication_19 (fun H4 x1 hU hV => ?_)
  have hS := hS.upd (x := x1) hU (blk_in (by omega) (by omega))
  have hP : va_P D vwCl (tWs y t (nI len) (nI nx) (nI (P1 tx len nx)) (bI (G0 tx len nx)) (U0 tx len nx) ni ho sw tx) H4 := hP.upd (q0 := 0) tWs_D rfl hU hV
  clear hU hV
  refine lv_aload_n hx hb dX3_readApplication_22 rfl (lv_at hl 0 rfl) ?_
  refine lv_bipush (v := (nI 110)) hx hb dX3_readApplication_23 (by decide) ?_
  refine w_callV (As := [.int (nI 110)]) (rest := []) hF hK (c_X3_readSign l D y t len (nI nx) (P1 tx len nx) (G0 tx len nx) (U0 tx len nx) ni ho sw tx (nI 110) (by omega) (num_end_le hn) (by decide)) (cwV 1 hts gX3_readApplication_X3_readSign rfl rfl rfl (by decide +kernel) ⟨Nat.le_of_ble_eq_true rfl, Nat.le_of_ble_eq_true rfl⟩) (z_recv (q := (RX3, TX3, 9)) hK (hP 0 _ rfl) rfl) hP hS (fun q h => h) rfl hl.1 rfl (Nat.le_of_ble_eq_true rfl) dX3_readApplication_25 ⟨Nat.zero_le _, Nat.zero_le _⟩ (fun H5 locs1 hP hz hk hS => ?_)
  have hP : va_P D vwCl (tWs y t (nI len) (nI nx) (nI (atP tx len (P1 tx len nx) (nI 110))) (bI ((G0 tx len nx) && pasB tx len (P1 tx len nx) (nI 110))) (U0 tx len nx) ni ho sw tx) H5 := hP
  clear hz hk
  have hP : va_P D vwCl (tWs y t (nI len) (nI nx) (nI (Q1 tx len nx)) (bI (G1 tx len nx)) (U0 tx len nx) ni ho sw tx) H5 := hP
  refine lv_aload_n hx hb dX3_readApplication_28 rfl (lv_at hl 0 rfl) ?_
  refine lv_aload_n hx hb dX3_readApplication_29 rfl (lv_at hl 0 rfl) ?_
  refine lv_iconst (v := (nI 2)) hx hb dX3_readApplication_30 (by decide) ?_
  refine w_callV (As := [.int (nI 2)]) (rest := [.ref t]) hF hK (c_X3_readNumber l D y t len (nI nx) (Q1 tx len nx) (G1 tx len nx) (U0 tx len nx) ni ho sw tx 2 (by omega) (atP_le (num_end_le hn)) (by omega)) (cwV 1 hts gX3_readApplication_X3_readNumber rfl rfl rfl (by decide +kernel) ⟨Nat.le_of_ble_eq_true rfl, Nat.le_of_ble_eq_true rfl⟩) (z_recv (q := (RX3, TX3, 9)) hK (hP 0 _ rfl) rfl) hP hS (fun q h => h) rfl hl.1 rfl (Nat.le_of_ble_eq_true rfl) dX3_readApplication_31 ⟨Nat.zero_le _, Nat.zero_le _⟩ (fun H6 locs1 hP hz hk hS => ?_)
  have hP : va_P D vwCl (tWs y t (nI len) (nI nx) (nI ((Q1 tx len nx) + numJ tx len (Q1 tx len nx) 2)) (bI ((G1 tx len nx) && decide (0 < numJ tx len (Q1 tx len nx) 2))) (U0 tx len nx) ni ho sw tx) H6 := hP
  clear hz hk
  have hP : va_P D vwCl (tWs y t (nI len) (nI nx) (nI (P2 tx len nx)) (bI (G2 tx len nx)) (U0 tx len nx) ni ho sw tx) H6 := hP
  refine z_topi (z := (U1 tx len nx)) (rfl) ?_
  refine y_put (a := t) (fs := [.ref (t + 1), .int (nI len), .int (nI nx), .int (nI (P2 tx len nx)), .int (bI (G2 tx len nx)), .int (U0 tx len nx), .int ni, .int ho, .int sw]) (ref := "CranePermits$Text") (C := RX3) (T := TX3) (N := 9) (ci := 3) (v := .int (U1 tx len nx)) (ty := .int) hx hb hts i_c_X3_readApplication_X3 tyX3 tyX3_ok nmX3 hown hK (hP 0 _ rfl) 6 (by decide) rfl (hts (.fieldLink RX3 32 "CranePermits$Text" "night" "I") (List.mem_of_getElem? (i := 5) rfl)) rfl rfl (by decide +kernel) (rfl) rfl (Nat.le_of_ble_eq_true rfl) dX3_readApplication_34 (fun H7 x1 hU hV => ?_)
  have hS := hS.upd (x := x1) hU (blk_in (by omega) (by omega))
  have hP : va_P D vwCl (tWs y t (nI len) (nI nx) (nI (P2 tx len nx)) (bI (G2 tx len nx)) (U0 tx len nx) (U1 tx len nx) ho sw tx) H7 := hP.upd (q0 := 0) tWs_D rfl hU hV
  clear hU hV
  refine lv_aload_n hx hb dX3_readApplication_37 rfl (lv_at hl 0 rfl) ?_
  refine lv_bipush (v := (nI 104)) hx hb dX3_readApplication_38 (by decide) ?_
  refine w_callV (As := [.int (nI 104)]) (rest := []) hF hK (c_X3_readSign l D y t len (nI nx) (P2 tx len nx) (G2 tx len nx) (U0 tx len nx) (U1 tx len nx) ho sw tx (nI 104) (by omega) (num_end_le (Q1_le hn)) (by decide)) (cwV 1 hts gX3_readApplication_X3_readSign rfl rfl rfl (by decide +kernel) ⟨Nat.le_of_ble_eq_true rfl, Nat.le_of_ble_eq_true rfl⟩) (z_recv (q := (RX3, TX3, 9)) hK (hP 0 _ rfl) rfl) hP hS (fun q h => h) rfl hl.1 rfl (Nat.le_of_ble_eq_true rfl) dX3_readApplication_40 ⟨Nat.zero_le _, Nat.zero_le _⟩ (fun H8 locs1 hP hz hk hS => ?_)
  have hP : va_P D vwCl (tWs y t (nI len) (nI nx) (nI (atP tx len (P2 tx len nx) (nI 104))) (bI ((G2 tx len nx) && pasB tx len (P2 tx len nx) (nI 104))) (U0 tx len nx) (U1 tx len nx) ho sw tx) H8 := hP
  clear hz hk
  have hP : va_P D vwCl (tWs y t (nI len) (nI nx) (nI (Q2 tx len nx)) (bI (G3 tx len nx)) (U0 tx len nx) (U1 tx len nx) ho sw tx) H8 := hP
  refine lv_aload_n hx hb dX3_readApplication_43 rfl (lv_at hl 0 rfl) ?_
  refine lv_iconst (v := (nI 1)) hx hb dX3_readApplication_44 (by decide) ?_
  refine w_callV (As := [.int (nI 1)]) (rest := []) hF hK (c_X3_readNumber l D y t len (nI nx) (Q2 tx len nx) (G3 tx len nx) (U0 tx len nx) (U1 tx len nx) ho sw tx 1 (by omega) (Q2_le hn) (by omega)) (cwV 1 hts gX3_readApplication_X3_readNumber rfl rfl rfl (by decide +kernel) ⟨Nat.le_of_ble_eq_true rfl, Nat.le_of_ble_eq_true rfl⟩) (z_recv (q := (RX3, TX3, 9)) hK (hP 0 _ rfl) rfl) hP hS (fun q h => h) rfl hl.1 rfl (Nat.le_of_ble_eq_true rfl) dX3_readApplication_45 ⟨Nat.zero_le _, Nat.zero_le _⟩ (fun H9 locs1 hP hz hk hS => ?_)
  have hP : va_P D vwCl (tWs y t (nI len) (nI nx) (nI ((Q2 tx len nx) + numJ tx len (Q2 tx len nx) 1)) (bI ((G3 tx len nx) && decide (0 < numJ tx len (Q2 tx len nx) 1))) (U0 tx len nx) (U1 tx len nx) ho sw tx) H9 := hP
  clear hz hk
  have hP : va_P D vwCl (tWs y t (nI len) (nI nx) (nI (P3 tx len nx)) (bI (G4 tx len nx)) (U0 tx len nx) (U1 tx len nx) ho sw tx) H9 := hP
  refine z_topi (z := (U2 tx len nx)) (rfl) ?_
  refine lv_istore_n (lv' := [(1, .int (U2 tx len nx)), (0, .ref t)]) hx hb dX3_readApplication_48 rfl hl (by decide) rfl (fun ls hl => ?_)
  refine lv_aload_n hx hb dX3_readApplication_49 rfl (lv_at hl 1 rfl) ?_
  refine lv_bipush (v := (nI 45)) hx hb dX3_readApplication_50 (by decide) ?_
  refine w_callV (As := [.int (nI 45)]) (rest := []) hF hK (c_X3_readSign l D y t len (nI nx) (P3 tx len nx) (G4 tx len nx) (U0 tx len nx) (U1 tx len nx) ho sw tx (nI 45) (by omega) (num_end_le (Q2_le hn)) (by decide)) (cwV 1 hts gX3_readApplication_X3_readSign rfl rfl rfl (by decide +kernel) ⟨Nat.le_of_ble_eq_true rfl, Nat.le_of_ble_eq_true rfl⟩) (z_recv (q := (RX3, TX3, 9)) hK (hP 0 _ rfl) rfl) hP hS (fun q h => h) rfl hl.1 rfl (Nat.le_of_ble_eq_true rfl) dX3_readApplication_52 ⟨Nat.zero_le _, Nat.zero_le _⟩ (fun H10 locs1 hP hz hk hS => ?_)
  have hP : va_P D vwCl (tWs y t (nI len) (nI nx) (nI (atP tx len (P3 tx len nx) (nI 45))) (bI ((G4 tx len nx) && pasB tx len (P3 tx len nx) (nI 45))) (U0 tx len nx) (U1 tx len nx) ho sw tx) H10 := hP
  clear hz hk
  have hP : va_P D vwCl (tWs y t (nI len) (nI nx) (nI (Q3 tx len nx)) (bI (G5 tx len nx)) (U0 tx len nx) (U1 tx len nx) ho sw tx) H10 := hP
  refine lv_aload_n hx hb dX3_readApplication_55 rfl (lv_at hl 1 rfl) ?_
  refine lv_iconst (v := (nI 1)) hx hb dX3_readApplication_56 (by decide) ?_
  refine w_callV (As := [.int (nI 1)]) (rest := []) hF hK (c_X3_readNumber l D y t len (nI nx) (Q3 tx len nx) (G5 tx len nx) (U0 tx len nx) (U1 tx len nx) ho sw tx 1 (by omega) (Q3_le hn) (by omega)) (cwV 1 hts gX3_readApplication_X3_readNumber rfl rfl rfl (by decide +kernel) ⟨Nat.le_of_ble_eq_true rfl, Nat.le_of_ble_eq_true rfl⟩) (z_recv (q := (RX3, TX3, 9)) hK (hP 0 _ rfl) rfl) hP hS (fun q h => h) rfl hl.1 rfl (Nat.le_of_ble_eq_true rfl) dX3_readApplication_57 ⟨Nat.zero_le _, Nat.zero_le _⟩ (fun H11 locs1 hP hz hk hS => ?_)
  have hP : va_P D vwCl (tWs y t (nI len) (nI nx) (nI ((Q3 tx len nx) + numJ tx len (Q3 tx len nx) 1)) (bI ((G5 tx len nx) && decide (0 < numJ tx len (Q3 tx len nx) 1))) (U0 tx len nx) (U1 tx len nx) ho sw tx) H11 := hP
  clear hz hk
  have hP : va_P D vwCl (tWs y t (nI len) (nI nx) (nI (P4 tx len nx)) (bI (G6 tx len nx)) (U0 tx len nx) (U1 tx len nx) ho sw tx) H11 := hP
  refine z_topi (z := (U3 tx len nx)) (rfl) ?_
  refine lv_istore_n (lv' := [(2, .int (U3 tx len nx)), (1, .int (U2 tx len nx)), (0, .ref t)]) hx hb dX3_readApplication_60 rfl hl (by decide) rfl (fun ls hl => ?_)
  refine lv_aload_n hx hb dX3_readApplication_61 rfl (lv_at hl 2 rfl) ?_
  refine lv_bipush (v := (nI 10)) hx hb dX3_readApplication_62 (by decide) ?_
  refine lv_iload_n hx hb dX3_readApplication_64 rfl (lv_at hl 1 rfl) ?_
  refine lv_imul hx hb dX3_readApplication_65 ?_
  refine lv_iload_n hx hb dX3_readApplication_66 rfl (lv_at hl 0 rfl) ?_
  refine lv_iadd hx hb dX3_readApplication_67 ?_
  refine z_topi (z := (UH tx len nx)) (rfl) ?_
  refine y_put (a := t) (fs := [.ref (t + 1), .int (nI len), .int (nI nx), .int (nI (P4 tx len nx)), .int (bI (G6 tx len nx)), .int (U0 tx len nx), .int (U1 tx len nx), .int ho, .int sw]) (ref := "CranePermits$Text") (C := RX3) (T := TX3) (N := 9) (ci := 3) (v := .int (UH tx len nx)) (ty := .int) hx hb hts i_c_X3_readApplication_X3 tyX3 tyX3_ok nmX3 hown hK (hP 0 _ rfl) 7 (by decide) rfl (hts (.fieldLink RX3 35 "CranePermits$Text" "hours" "I") (List.mem_of_getElem? (i := 6) rfl)) rfl rfl (by decide +kernel) (rfl) rfl (Nat.le_of_ble_eq_true rfl) dX3_readApplication_68 (fun H12 x1 hU hV => ?_)
  have hS := hS.upd (x := x1) hU (blk_in (by omega) (by omega))
  have hP : va_P D vwCl (tWs y t (nI len) (nI nx) (nI (P4 tx len nx)) (bI (G6 tx len nx)) (U0 tx len nx) (U1 tx len nx) (UH tx len nx) sw tx) H12 := hP.upd (q0 := 0) tWs_D rfl hU hV
  clear hU hV
  refine lv_aload_n hx hb dX3_readApplication_71 rfl (lv_at hl 2 rfl) ?_
  refine lv_bipush (v := (nI 115)) hx hb dX3_readApplication_72 (by decide) ?_
  refine w_callV (As := [.int (nI 115)]) (rest := []) hF hK (c_X3_readSign l D y t len (nI nx) (P4 tx len nx) (G6 tx len nx) (U0 tx len nx) (U1 tx len nx) (UH tx len nx) sw tx (nI 115) (by omega) (num_end_le (Q3_le hn)) (by decide)) (cwV 1 hts gX3_readApplication_X3_readSign rfl rfl rfl (by decide +kernel) ⟨Nat.le_of_ble_eq_true rfl, Nat.le_of_ble_eq_true rfl⟩) (z_recv (q := (RX3, TX3, 9)) hK (hP 0 _ rfl) rfl) hP hS (fun q h => h) rfl hl.1 rfl (Nat.le_of_ble_eq_true rfl) dX3_readApplication_74 ⟨Nat.zero_le _, Nat.zero_le _⟩ (fun H13 locs1 hP hz hk hS => ?_)
  have hP : va_P D vwCl (tWs y t (nI len) (nI nx) (nI (atP tx len (P4 tx len nx) (nI 115))) (bI ((G6 tx len nx) && pasB tx len (P4 tx len nx) (nI 115))) (U0 tx len nx) (U1 tx len nx) (UH tx len nx) sw tx) H13 := hP
  clear hz hk
  have hP : va_P D vwCl (tWs y t (nI len) (nI nx) (nI (Q4 tx len nx)) (bI (G7 tx len nx)) (U0 tx len nx) (U1 tx len nx) (UH tx len nx) sw tx) H13 := hP
  refine lv_aload_n hx hb dX3_readApplication_77 rfl (lv_at hl 2 rfl) ?_
  refine lv_aload_n hx hb dX3_readApplication_78 rfl (lv_at hl 2 rfl) ?_
  refine lv_iconst (v := (nI 3)) hx hb dX3_readApplication_79 (by decide) ?_
  refine w_callV (As := [.int (nI 3)]) (rest := [.ref t]) hF hK (c_X3_readNumber l D y t len (nI nx) (Q4 tx len nx) (G7 tx len nx) (U0 tx len nx) (U1 tx len nx) (UH tx len nx) sw tx 3 (by omega) (Q4_le hn) (by omega)) (cwV 1 hts gX3_readApplication_X3_readNumber rfl rfl rfl (by decide +kernel) ⟨Nat.le_of_ble_eq_true rfl, Nat.le_of_ble_eq_true rfl⟩) (z_recv (q := (RX3, TX3, 9)) hK (hP 0 _ rfl) rfl) hP hS (fun q h => h) rfl hl.1 rfl (Nat.le_of_ble_eq_true rfl) dX3_readApplication_80 ⟨Nat.zero_le _, Nat.zero_le _⟩ (fun H14 locs1 hP hz hk hS => ?_)
  have hP : va_P D vwCl (tWs y t (nI len) (nI nx) (nI ((Q4 tx len nx) + numJ tx len (Q4 tx len nx) 3)) (bI ((G7 tx len nx) && decide (0 < numJ tx len (Q4 tx len nx) 3))) (U0 tx len nx) (U1 tx len nx) (UH tx len nx) sw tx) H14 := hP
  clear hz hk
  have hP : va_P D vwCl (tWs y t (nI len) (nI nx) (nI (P5 tx len nx)) (bI (G8 tx len nx)) (U0 tx len nx) (U1 tx len nx) (UH tx len nx) sw tx) H14 := hP
  refine z_topi (z := (U4 tx len nx)) (rfl) ?_
  refine y_put (a := t) (fs := [.ref (t + 1), .int (nI len), .int (nI nx), .int (nI (P5 tx len nx)), .int (bI (G8 tx len nx)), .int (U0 tx len nx), .int (U1 tx len nx), .int (UH tx len nx), .int sw]) (ref := "CranePermits$Text") (C := RX3) (T := TX3) (N := 9) (ci := 3) (v := .int (U4 tx len nx)) (ty := .int) hx hb hts i_c_X3_readApplication_X3 tyX3 tyX3_ok nmX3 hown hK (hP 0 _ rfl) 8 (by decide) rfl (hts (.fieldLink RX3 38 "CranePermits$Text" "swing" "I") (List.mem_of_getElem? (i := 7) rfl)) rfl rfl (by decide +kernel) (rfl) rfl (Nat.le_of_ble_eq_true rfl) dX3_readApplication_83 (fun H15 x1 hU hV => ?_)
  have hS := hS.upd (x := x1) hU (blk_in (by omega) (by omega))
  have hP : va_P D vwCl (tWs y t (nI len) (nI nx) (nI (P5 tx len nx)) (bI (G8 tx len nx)) (U0 tx len nx) (U1 tx len nx) (UH tx len nx) (U4 tx len nx) tx) H15 := hP.upd (q0 := 0) tWs_D rfl hU hV
  clear hU hV
  refine lv_aload_n hx hb dX3_readApplication_86 rfl (lv_at hl 2 rfl) ?_
  refine lv_bipush (v := (nI 59)) hx hb dX3_readApplication_87 (by decide) ?_
  refine w_callV (As := [.int (nI 59)]) (rest := []) hF hK (c_X3_readSign l D y t len (nI nx) (P5 tx len nx) (G8 tx len nx) (U0 tx len nx) (U1 tx len nx) (UH tx len nx) (U4 tx len nx) tx (nI 59) (by omega) (num_end_le (Q4_le hn)) (by decide)) (cwV 1 hts gX3_readApplication_X3_readSign rfl rfl rfl (by decide +kernel) ⟨Nat.le_of_ble_eq_true rfl, Nat.le_of_ble_eq_true rfl⟩) (z_recv (q := (RX3, TX3, 9)) hK (hP 0 _ rfl) rfl) hP hS (fun q h => h) rfl hl.1 rfl (Nat.le_of_ble_eq_true rfl) dX3_readApplication_89 ⟨Nat.zero_le _, Nat.zero_le _⟩ (fun H16 locs1 hP hz hk hS => ?_)
  have hP : va_P D vwCl (tWs y t (nI len) (nI nx) (nI (atP tx len (P5 tx len nx) (nI 59))) (bI ((G8 tx len nx) && pasB tx len (P5 tx len nx) (nI 59))) (U0 tx len nx) (U1 tx len nx) (UH tx len nx) (U4 tx len nx) tx) H16 := hP
  clear hz hk
  have hP : va_P D vwCl (tWs y t (nI len) (nI nx) (nI (Q5 tx len nx)) (bI (G9 tx len nx)) (U0 tx len nx) (U1 tx len nx) (UH tx len nx) (U4 tx len nx) tx) H16 := hP
  refine lv_aload_n hx hb dX3_readApplication_92 rfl (lv_at hl 2 rfl) ?_
  refine z_get (fs := [.ref (t + 1), .int (nI len), .int (nI nx), .int (nI (Q5 tx len nx)), .int (bI (G9 tx len nx)), .int (U0 tx len nx), .int (U1 tx len nx), .int (UH tx len nx), .int (U4 tx len nx)]) (ref := "CranePermits$Text") (C := RX3) (T := TX3) (N := 9) (ci := 3) (v := .int (bI (G9 tx len nx))) hx hb hts i_c_X3_readApplication_X3 hown hK (hP 0 _ rfl) 4 (by decide) rfl (hts (.fieldLink RX3 25 "CranePermits$Text" "formed" "Z") (List.mem_of_getElem? (i := 3) rfl)) rfl rfl dX3_readApplication_93 ?_
  exact w_retz hx hb hr hlocks hS (hP) (rfl) dX3_readApplication_96
