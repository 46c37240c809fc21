/-! THE CLASS ITSELF: its world, its constructor -/
abbrev Pic : Type := (Nat → Int32) × (Nat → Nat) × (Nat → Nat) × (Nat → Nat)
def sP (D : va_G) (y : zY) (bd a : Nat) (P : Pic) (H : Heap) : Prop := sD D y bd a P.1 P.2.1 P.2.2.1 P.2.2.2 H
def xWs (y : zY) (x k : Nat) (ps : Nat → Option Nat) (len : Nat) (tf tx : Nat → Int32) : va_W := [(x, .inr (4, [.ref (x + 1), .ref (x + 12), .ref (x + 23), .int (nI k), .ref (x + 24)])), (x + 23, .inl (y.2.2.2.2.2, 4, .inr (.inr (.inr (.inr ps))))), (x + 24, .inr (3, [.ref (x + 25), .int (nI len), .int (tf 0), .int (tf 1), .int (tf 2), .int (tf 3), .int (tf 4), .int (tf 5), .int (tf 6)])), (x + 25, .inl (y.2.1, 80, .inl tx))]
/-- the class's main object: two sites, the four past ones, the text -/
def xM (D : va_G) (y : zY) (bd x : Nat) (N T : Pic) (P : Nat → Pic) (k rot len : Nat) (tf tx : Nat → Int32) (H : Heap) : Prop := ∃ ps : Nat → Option Nat, va_P D vwCl (xWs y x k ps len tf tx) H ∧ (∀ j, j < 4 → ps j = some (x + 26 + 11 * ((j + rot) % 4))) ∧ sP D y bd (x + 1) N H ∧ sP D y bd (x + 12) T H ∧ ∀ i, i < 4 → sP D y bd (x + 26 + 11 * i) (P i) H
def iniP (ca pa pk : Nat → Nat) : Pic := (iniD 120, ca, pa, pk)
def iniT : Nat → Int32 := fun i => if i = 2 then nI 1 else nI 0
theorem blk_11 {a n k q : Nat} (hk : k + 11 ≤ n) (h : blk (a + k) 11 q) : blk a n q := ⟨by have := h.1; omega, by have := h.2; omega⟩
theorem blk_m {a n k m q : Nat} (hk : k + m ≤ n) (h : blk (a + k) m q) : blk a n q := ⟨by have := h.1; omega, by have := h.2; omega⟩
theorem blk_lo0 {a m n : Nat} (h : 0 < m) : ¬ blk (a + m) n a := fun z => by have := z.1; omega
theorem blk_lo {a m j n : Nat} (h : j < m) : ¬ blk (a + m) n (a + j) := fun z => by have := z.1; omega
theorem blk_dj {x i j q : Nat} (h : i + 11 ≤ j) (h1 : x + i ≤ q) (h2 : q < x + i + 11) : ¬ blk (x + j) 11 q := fun z => by have := z.1; omega
theorem blk_dj2 {x i j n q : Nat} (h : i + 11 ≤ j) (h1 : x + i ≤ q) (h2 : q < x + i + 11) : ¬ blk (x + j) n q := fun z => by have := z.1; omega
theorem blk_bd {x j n bd q : Nat} (h : j + 11 ≤ n) (hb : x + n ≤ bd) (hq : bd ≤ q) : ¬ blk (x + j) 11 q := fun z => by have := z.2; omega
theorem blk_bd2 {x j m n bd q : Nat} (h : j + m ≤ n) (hb : x + n ≤ bd) (hq : bd ≤ q) : ¬ blk (x + j) m q := fun z => by have := z.2; omega
/-- cells at known distances are apart -/
theorem va_D_list (x n : Nat) {ws : va_W} (os : List Nat) (hn : os.Nodup) (hl : ∀ o ∈ os, o < n) (h : ws.map Prod.fst = os.map (fun o => x + o)) : va_D (blk x n) ws := by
  have g : ∀ (k : Nat) (q : Nat × va_E), ws[k]? = some q → ∃ o, os[k]? = some o ∧ q.1 = x + o := fun k q hk => by
    have h1 : (ws.map Prod.fst)[k]? = some q.1 := by rw [List.getElem?_map, hk]; rfl
    rw [h, List.getElem?_map] at h1
    cases e : os[k]? with
    | none => rw [e] at h1; cases h1
    | some o => rw [e] at h1; exact ⟨o, rfl, (Option.some.inj h1).symm⟩
  refine ⟨fun i j p q hi hj e => ?_, fun k q hk => ?_⟩
  · obtain ⟨o1, a1, b1⟩ := g i p hi
    obtain ⟨o2, a2, b2⟩ := g j q hj
    have e2 : o1 = o2 := by omega
    subst e2
    exact (List.getElem?_inj (List.getElem?_eq_some_iff.mp a1).1 hn).mp (a1.trans a2.symm)
  · obtain ⟨o, a1, b1⟩ := g k q hk
    have := hl o (List.mem_of_getElem? a1)
    exact ⟨by omega, by omega⟩
theorem sD_recv {D : va_G} {y : zY} {s : State} {bd a : Nat} {H : Heap} {d : Nat → Int32} {ca pa pk : Nat → Nat} (hK : zK D y s) (h : sD D y bd a d ca pa pk H) : ∃ cellV : Cell, H[a]? = some cellV ∧ cellV.vm.isStatics = false ∧ s.vm.findClass RX2 = some cellV.cls := by
  obtain ⟨cs, ns, se, wi, al, re, gi, ps, ss, vs, hP, -⟩ := h
  exact z_recv (q := (RX2, TX2, 13)) hK (hP 0 _ rfl) rfl
theorem ini_main {D : va_G} {y : zY} {bd x : Nat} {ca pa pk : Nat → Nat} {H : Heap} (hP : va_P D vwCl (xWs y x 0 (va_up (va_up (va_up (va_up (fun _ => none) 0 (some (x + 26))) 1 (some (x + 37))) 2 (some (x + 48))) 3 (some (x + 59))) 0 iniT (fun _ => 0)) H) (h1 : sD D y bd (x + 1) (iniD 120) ca pa pk H) (h2 : sD D y bd (x + 12) (iniD 120) ca pa pk H) (h3 : sD D y bd (x + 26) (iniD 120) ca pa pk H) (h4 : sD D y bd (x + 37) (iniD 120) ca pa pk H) (h5 : sD D y bd (x + 48) (iniD 120) ca pa pk H) (h6 : sD D y bd (x + 59) (iniD 120) ca pa pk H) : xM D y bd x (iniP ca pa pk) (iniP ca pa pk) (fun _ => iniP ca pa pk) 0 0 0 iniT (fun _ => 0) H := by
  refine ⟨_, hP, fun j hj => ?_, h1, h2, fun i hi => ?_⟩
  · have : j = 0 ∨ j = 1 ∨ j = 2 ∨ j = 3 := by omega
    rcases this with rfl | rfl | rfl | rfl <;> rfl
  · have : i = 0 ∨ i = 1 ∨ i = 2 ∨ i = 3 := by omega
    rcases this with rfl | rfl | rfl | rfl
    · exact h3
    · exact h4
    · exact h5
    · exact h6
theorem i_c_X4_init_X2 : ∀ w ∈ wsX20, w ∈ wsX4_init := fun w h => (List.mem_cons_of_mem _ (List.mem_append_left _ (List.mem_append_left _ (List.mem_append_right _ h))))
theorem i_c_X4_init_X4 : ∀ w ∈ wsX40, w ∈ wsX4_init := fun w h => (List.mem_cons_of_mem _ (List.mem_append_left _ (List.mem_append_right _ h)))
theorem i_c_X4_init_X3 : ∀ w ∈ wsX30, w ∈ wsX4_init := fun w h => (List.mem_cons_of_mem _ (List.mem_append_right _ h))
set_option maxRecDepth 100000 in
set_option maxHeartbeats 4000000 in
theorem c_X4_init (l : Launch) (D : va_G) (y : zY) (x : Nat) (bd : Nat) (ca : Nat → Nat) (pa : Nat → Nat) (pk : Nat → Nat) (hbd : x + 70 ≤ bd) : Met l yX4_init wsX4_init ({ frames := 2, cells := 69, slots := 5169, locals := 60 }) (zP [.ref x] (fun H => va_P D vwCl [(x, .inr (4, [.null, .null, .null, .int 0, .null]))] H ∧ H.size = x + 1) D y) (zW none (fun H => xM D y bd x (iniP ca pa pk) (iniP ca pa pk) (fun _ => iniP ca pa pk) 0 0 0 iniT (fun _ => 0) H ∧ H.size = x + 70) (blk x 70)) 69 5169 (blk x 70) := by
  refine z_body (cc := cX4_init) (maxL := 2) (ret := none) (la := [(0, .ref x)]) (by decide) rfl (Nat.le_of_ble_eq_true rfl) rfl ?_
  intro pg ev s mm below meth c0 ls hx hb hr hF hlocks hΦ hK hl hnm
  have hts := hF.2.2.2.2
  have hown : s.vm.findClass RX4 = some mm.cls := hF.2.2.2.1
  have hS : va_S (blk x 70) s.heap s.heap [] := va_S.rf
  obtain ⟨hP, hz⟩ := hΦ
  have hD : va_D (blk x 70) [(x, .inr (4, [.null, .null, .null, .int 0, .null]))] := va_D_one (blk_in (by omega) (by omega))
  refine lv_aload_n hx hb dX4_init_0 rfl (lv_at hl 0 rfl) ?_
  refine y_obj (a := x) hx hb (hF.2.2.1.trans hl.1.symm) hown (hts (.methodLink RX4 1 objectInit) (List.mem_of_getElem? (i := 1) rfl)) (hts (.instanceMethod objectInit) (List.mem_of_getElem? (i := 2) rfl)) (hts (.code objectInit ⟨#[0xb1]⟩ 1 none) (List.mem_of_getElem? (i := 3) rfl)) (by decide) (by decide) dX4_init_1 ?_
  refine lv_aload_n hx hb dX4_init_4 rfl (lv_at hl 0 rfl) ?_
  refine y_new (C := RX2) (T := TX2) (N := 13) (ci := 2) (fs := [.null, .int 0, .null, .null, .null, .null, .null, .null, .null, .int 0, .null, .null, .int 0]) hx hb hts i_c_X4_init_X2 tyX2 tyX2_ok hown (hts (.classLink RX4 7 RX2) (List.mem_of_getElem? (i := 4) rfl)) (hts (.instantiable RX2 13) (List.mem_of_getElem? (i := 5) rfl)) (hts (.initialized RX2) (List.mem_of_getElem? (i := 6) rfl)) hK rfl (fun j hj => by rcases (show j = 0 ∨ j = 1 ∨ j = 2 ∨ j = 3 ∨ j = 4 ∨ j = 5 ∨ j = 6 ∨ j = 7 ∨ j = 8 ∨ j = 9 ∨ j = 10 ∨ j = 11 ∨ j = 12 by omega) with rfl | rfl | rfl | rfl | rfl | rfl | rfl | rfl | rfl | rfl | rfl | rfl | rfl <;> rfl) hz (by decide) (by decide) dX4_init_5 (fun H1 hz1 hk hV => ?_)
  have hD2 := hD.push (e := .inr (2, [.null, .int 0, .null, .null, .null, .null, .null, .null, .null, .int 0, .null, .null, .int 0])) hP hz.symm (blk_k (by decide))
  have hD : va_D (blk x 70) [(x, .inr (4, [.null, .null, .null, .int 0, .null])), (x + 1, .inr (2, [.null, .int 0, .null, .null, .null, .null, .null, .null, .null, .int 0, .null, .null, .int 0]))] := hD2
  have hP2 := (hP.grow hk).app (z_one hV)
  have hP : va_P D vwCl [(x, .inr (4, [.null, .null, .null, .int 0, .null])), (x + 1, .inr (2, [.null, .int 0, .null, .null, .null, .null, .null, .null, .null, .int 0, .null, .null, .int 0]))] H1 := hP2
  clear hD2 hP2
  have hS := hS.grow hz1 hk
  have hz : H1.size = x + 2 := hz1.trans (congrArg (fun n => n + 1) hz)
  clear hz1 hk hV
  refine lv_dup hx hb dX4_init_8 rfl ?_
  refine w_callI (b := x + 1) (As := []) (rest := [.ref (x + 1), .ref x]) hF hK (c_X2_init l D y (x + 1) bd ca pa pk) (cwI 0 hts gX4_init_X2_init rfl rfl rfl (hts (.initialized RX2) (List.mem_of_getElem? (i := 6) rfl)) (hts (.methodLink RX4 9 yX2_init) (List.mem_of_getElem? (i := 15) rfl)) (hts (.instanceMethod yX2_init) (List.mem_of_getElem? (i := 16) rfl)) rfl (by decide +kernel) ⟨Nat.le_of_ble_eq_true rfl, Nat.le_of_ble_eq_true rfl⟩) ⟨z_one (hP 1 _ rfl), hz⟩ hS (fun q h => blk_11 (by decide) h) rfl hl.1 rfl (Nat.le_of_ble_eq_true rfl) dX4_init_9 ⟨Nat.le_of_ble_eq_true rfl, Nat.le_of_ble_eq_true rfl⟩ (fun H2 locs1 hsi hz1 hk hS => ?_)
  obtain ⟨hs1, hz⟩ := hsi
  have hP2 : va_P D vwCl [(x, .inr (4, [.null, .null, .null, .int 0, .null]))] _ := hP.sub [0] rfl
  have hP : va_P D vwCl [(x, .inr (4, [.null, .null, .null, .int 0, .null]))] H2 := hP2.kept (fun k q h => hk q.1 (hP2 k q h).lt (match k, h with | 0, h => by cases h; exact blk_lo0 (by decide) | k + 1, h => by simp at h))
  have hD2 : va_D (blk x 70) [(x, .inr (4, [.null, .null, .null, .int 0, .null]))] := hD.sub [0] (by decide) rfl
  have hD := hD2
  have hz : H2.size = x + 12 := hz
  clear hP2 hD2 hz1 hk
  refine y_putF (a := x) (fs := [.null, .null, .null, .int 0, .null]) (ref := "CranePermits") (C := RX4) (T := TX4) (N := 5) (ci := 4) (v := .ref (x + 1)) (ty := (.object "CranePermits$Site")) hx hb hts i_c_X4_init_X4 tyX4 tyX4_ok nmX4 hown hK (hP 0 _ rfl) 0 (by decide) rfl (hts (.fieldLink RX4 10 "CranePermits" "now" "LCranePermits$Site;") (List.mem_of_getElem? (i := 7) rfl)) rfl rfl (hnm.trans rfl) rfl (by decide +kernel) (rfl) rfl (Nat.le_of_ble_eq_true rfl) dX4_init_12 (fun H3 x1 hU hV => ?_)
  have hS := hS.upd (x := x1) hU (blk_0 (by decide))
  have hP2 := hP.upd (q0 := 0) hD rfl hU hV
  have hP : va_P D vwCl [(x, .inr (4, [.ref (x + 1), .null, .null, .int 0, .null]))] H3 := hP2
  have hD : va_D (blk x 70) [(x, .inr (4, [.ref (x + 1), .null, .null, .int 0, .null]))] := hD.set (p := 0) rfl
  clear hP2
  have hz := hU.1.trans hz
  have hs1 := hs1.upd hU (Or.inl (Nat.lt_add_of_pos_right (by decide))) (Nat.lt_of_lt_of_le (Nat.lt_add_of_pos_right (by decide)) hbd)
  clear hU hV
  refine lv_aload_n hx hb dX4_init_15 rfl (lv_at hl 0 rfl) ?_
  refine y_new (C := RX2) (T := TX2) (N := 13) (ci := 2) (fs := [.null, .int 0, .null, .null, .null, .null, .null, .null, .null, .int 0, .null, .null, .int 0]) hx hb hts i_c_X4_init_X2 tyX2 tyX2_ok hown (hts (.classLink RX4 7 RX2) (List.mem_of_getElem? (i := 4) rfl)) (hts (.instantiable RX2 13) (List.mem_of_getElem? (i := 5) rfl)) (hts (.initialized RX2) (List.mem_of_getElem? (i := 6) rfl)) hK rfl (fun j hj => by rcases (show j = 0 ∨ j = 1 ∨ j = 2 ∨ j = 3 ∨ j = 4 ∨ j = 5 ∨ j = 6 ∨ j = 7 ∨ j = 8 ∨ j = 9 ∨ j = 10 ∨ j = 11 ∨ j = 12 by omega) with rfl | rfl | rfl | rfl | rfl | rfl | rfl | rfl | rfl | rfl | rfl | rfl | rfl <;> rfl) hz (by decide) (by decide) dX4_init_16 (fun H4 hz1 hk hV => ?_)
  have hD2 := hD.push (e := .inr (2, [.null, .int 0, .null, .null, .null, .null, .null, .null, .null, .int 0, .null, .null, .int 0])) hP hz.symm (blk_k (by decide))
  have hD : va_D (blk x 70) [(x, .inr (4, [.ref (x + 1), .null, .null, .int 0, .null])), (x + 12, .inr (2, [.null, .int 0, .null, .null, .null, .null, .null, .null, .null, .int 0, .null, .null, .int 0]))] := hD2
  have hP2 := (hP.grow hk).app (z_one hV)
  have hP : va_P D vwCl [(x, .inr (4, [.ref (x + 1), .null, .null, .int 0, .null])), (x + 12, .inr (2, [.null, .int 0, .null, .null, .null, .null, .null, .null, .null, .int 0, .null, .null, .int 0]))] H4 := hP2
  clear hD2 hP2
  have hS := hS.grow hz1 hk
  have hs1 := hs1.grow hk
  have hz : H4.size = x + 13 := hz1.trans (congrArg (fun n => n + 1) hz)
  clear hz1 hk hV
  refine lv_dup hx hb dX4_init_19 rfl ?_
  refine w_callI (b := x + 12) (As := []) (rest := [.ref (x + 12), .ref x]) hF hK (c_X2_init l D y (x + 12) bd ca pa pk) (cwI 0 hts gX4_init_X2_init rfl rfl rfl (hts (.initialized RX2) (List.mem_of_getElem? (i := 6) rfl)) (hts (.methodLink RX4 9 yX2_init) (List.mem_of_getElem? (i := 15) rfl)) (hts (.instanceMethod yX2_init) (List.mem_of_getElem? (i := 16) rfl)) rfl (by decide +kernel) ⟨Nat.le_of_ble_eq_true rfl, Nat.le_of_ble_eq_true rfl⟩) ⟨z_one (hP 1 _ rfl), hz⟩ hS (fun q h => blk_11 (by decide) h) rfl hl.1 rfl (Nat.le_of_ble_eq_true rfl) dX4_init_20 ⟨Nat.le_of_ble_eq_true rfl, Nat.le_of_ble_eq_true rfl⟩ (fun H5 locs1 hsi hz1 hk hS => ?_)
  obtain ⟨hs12, hz⟩ := hsi
  have hP2 : va_P D vwCl [(x, .inr (4, [.ref (x + 1), .null, .null, .int 0, .null]))] _ := hP.sub [0] rfl
  have hP : va_P D vwCl [(x, .inr (4, [.ref (x + 1), .null, .null, .int 0, .null]))] H5 := hP2.kept (fun k q h => hk q.1 (hP2 k q h).lt (match k, h with | 0, h => by cases h; exact blk_lo0 (by decide) | k + 1, h => by simp at h))
  have hD2 : va_D (blk x 70) [(x, .inr (4, [.ref (x + 1), .null, .null, .int 0, .null]))] := hD.sub [0] (by decide) rfl
  have hD := hD2
  have hs1 := hs1.call hk (fun q h1 h2 => blk_dj (i := 1) (by decide) h1 h2) (fun q h => blk_bd (by decide) hbd h)
  have hz : H5.size = x + 23 := hz
  clear hP2 hD2 hz1 hk
  refine y_putF (a := x) (fs := [.ref (x + 1), .null, .null, .int 0, .null]) (ref := "CranePermits") (C := RX4) (T := TX4) (N := 5) (ci := 4) (v := .ref (x + 12)) (ty := (.object "CranePermits$Site")) hx hb hts i_c_X4_init_X4 tyX4 tyX4_ok nmX4 hown hK (hP 0 _ rfl) 1 (by decide) rfl (hts (.fieldLink RX4 16 "CranePermits" "trial" "LCranePermits$Site;") (List.mem_of_getElem? (i := 8) rfl)) rfl rfl (hnm.trans rfl) rfl (by decide +kernel) (rfl) rfl (Nat.le_of_ble_eq_true rfl) dX4_init_23 (fun H6 x1 hU hV => ?_)
  have hS := hS.upd (x := x1) hU (blk_0 (by decide))
  have hP2 := hP.upd (q0 := 0) hD rfl hU hV
  have hP : va_P D vwCl [(x, .inr (4, [.ref (x + 1), .ref (x + 12), .null, .int 0, .null]))] H6 := hP2
  have hD : va_D (blk x 70) [(x, .inr (4, [.ref (x + 1), .ref (x + 12), .null, .int 0, .null]))] := hD.set (p := 0) rfl
  clear hP2
  have hz := hU.1.trans hz
  have hs1 := hs1.upd hU (Or.inl (Nat.lt_add_of_pos_right (by decide))) (Nat.lt_of_lt_of_le (Nat.lt_add_of_pos_right (by decide)) hbd)
  have hs12 := hs12.upd hU (Or.inl (Nat.lt_add_of_pos_right (by decide))) (Nat.lt_of_lt_of_le (Nat.lt_add_of_pos_right (by decide)) hbd)
  clear hU hV
  refine lv_aload_n hx hb dX4_init_26 rfl (lv_at hl 0 rfl) ?_
  refine lv_iconst (v := (nI 4)) hx hb dX4_init_27 (by decide) ?_
  refine y_newq (k := 5) (N := 4) hx hb rfl hown (hts (.classLink RX4 7 RX2) (List.mem_of_getElem? (i := 4) rfl)) hK.2.2.2.2.2.2.2.2 hK (by decide) (by decide) (by decide) hz (by decide) (by decide) dX4_init_28 (fun H7 hz1 hk hV => ?_)
  have hD2 := hD.push (e := .inl (y.2.2.2.2.2, 4, .inr (.inr (.inr (.inr (fun _ => none)))))) hP hz.symm (blk_k (by decide))
  have hD : va_D (blk x 70) [(x, .inr (4, [.ref (x + 1), .ref (x + 12), .null, .int 0, .null])), (x + 23, .inl (y.2.2.2.2.2, 4, .inr (.inr (.inr (.inr (fun _ => none))))))] := hD2
  have hP2 := (hP.grow hk).app (z_one hV)
  have hP : va_P D vwCl [(x, .inr (4, [.ref (x + 1), .ref (x + 12), .null, .int 0, .null])), (x + 23, .inl (y.2.2.2.2.2, 4, .inr (.inr (.inr (.inr (fun _ => none))))))] H7 := hP2
  clear hD2 hP2
  have hS := hS.grow hz1 hk
  have hs1 := hs1.grow hk
  have hs12 := hs12.grow hk
  have hz : H7.size = x + 24 := hz1.trans (congrArg (fun n => n + 1) hz)
  clear hz1 hk hV
  refine y_putF (a := x) (fs := [.ref (x + 1), .ref (x + 12), .null, .int 0, .null]) (ref := "CranePermits") (C := RX4) (T := TX4) (N := 5) (ci := 4) (v := .ref (x + 23)) (ty := (.array (.object "CranePermits$Site"))) hx hb hts i_c_X4_init_X4 tyX4 tyX4_ok nmX4 hown hK (hP 0 _ rfl) 2 (by decide) rfl (hts (.fieldLink RX4 19 "CranePermits" "past" "[LCranePermits$Site;") (List.mem_of_getElem? (i := 9) rfl)) rfl rfl (hnm.trans rfl) rfl (by decide +kernel) (rfl) rfl (Nat.le_of_ble_eq_true rfl) dX4_init_31 (fun H8 x1 hU hV => ?_)
  have hS := hS.upd (x := x1) hU (blk_0 (by decide))
  have hP2 := hP.upd (q0 := 0) hD rfl hU hV
  have hP : va_P D vwCl [(x, .inr (4, [.ref (x + 1), .ref (x + 12), .ref (x + 23), .int 0, .null])), (x + 23, .inl (y.2.2.2.2.2, 4, .inr (.inr (.inr (.inr (fun _ => none))))))] H8 := hP2
  have hD : va_D (blk x 70) [(x, .inr (4, [.ref (x + 1), .ref (x + 12), .ref (x + 23), .int 0, .null])), (x + 23, .inl (y.2.2.2.2.2, 4, .inr (.inr (.inr (.inr (fun _ => none))))))] := hD.set (p := 0) rfl
  clear hP2
  have hz := hU.1.trans hz
  have hs1 := hs1.upd hU (Or.inl (Nat.lt_add_of_pos_right (by decide))) (Nat.lt_of_lt_of_le (Nat.lt_add_of_pos_right (by decide)) hbd)
  have hs12 := hs12.upd hU (Or.inl (Nat.lt_add_of_pos_right (by decide))) (Nat.lt_of_lt_of_le (Nat.lt_add_of_pos_right (by decide)) hbd)
  clear hU hV
  refine lv_aload_n hx hb dX4_init_34 rfl (lv_at hl 0 rfl) ?_
  refine lv_iconst (v := (nI 0)) hx hb dX4_init_35 (by decide) ?_
  refine y_put (a := x) (fs := [.ref (x + 1), .ref (x + 12), .ref (x + 23), .int 0, .null]) (ref := "CranePermits") (C := RX4) (T := TX4) (N := 5) (ci := 4) (v := .int (nI 0)) (ty := .int) hx hb hts i_c_X4_init_X4 tyX4 tyX4_ok nmX4 hown hK (hP 0 _ rfl) 3 (by decide) rfl (hts (.fieldLink RX4 23 "CranePermits" "pastCount" "I") (List.mem_of_getElem? (i := 10) rfl)) rfl rfl (by decide +kernel) (rfl) rfl (Nat.le_of_ble_eq_true rfl) dX4_init_36 (fun H9 x1 hU hV => ?_)
  have hS := hS.upd (x := x1) hU (blk_0 (by decide))
  have hP2 := hP.upd (q0 := 0) hD rfl hU hV
  have hP : va_P D vwCl [(x, .inr (4, [.ref (x + 1), .ref (x + 12), .ref (x + 23), .int (nI 0), .null])), (x + 23, .inl (y.2.2.2.2.2, 4, .inr (.inr (.inr (.inr (fun _ => none))))))] H9 := hP2
  have hD : va_D (blk x 70) [(x, .inr (4, [.ref (x + 1), .ref (x + 12), .ref (x + 23), .int (nI 0), .null])), (x + 23, .inl (y.2.2.2.2.2, 4, .inr (.inr (.inr (.inr (fun _ => none))))))] := hD.set (p := 0) rfl
  clear hP2
  have hz := hU.1.trans hz
  have hs1 := hs1.upd hU (Or.inl (Nat.lt_add_of_pos_right (by decide))) (Nat.lt_of_lt_of_le (Nat.lt_add_of_pos_right (by decide)) hbd)
  have hs12 := hs12.upd hU (Or.inl (Nat.lt_add_of_pos_right (by decide))) (Nat.lt_of_lt_of_le (Nat.lt_add_of_pos_right (by decide)) hbd)
  clear hU hV
  refine lv_aload_n hx hb dX4_init_39 rfl (lv_at hl 0 rfl) ?_
  refine y_new (C := RX3) (T := TX3) (N := 9) (ci := 3) (fs := [.null, .int 0, .int 0, .int 0, .int 0, .int 0, .int 0, .int 0, .int 0]) hx hb hts i_c_X4_init_X3 tyX3 tyX3_ok hown (hts (.classLink RX4 27 RX3) (List.mem_of_getElem? (i := 11) rfl)) (hts (.instantiable RX3 9) (List.mem_of_getElem? (i := 12) rfl)) (hts (.initialized RX3) (List.mem_of_getElem? (i := 13) rfl)) hK rfl (fun j hj => by rcases (show j = 0 ∨ j = 1 ∨ j = 2 ∨ j = 3 ∨ j = 4 ∨ j = 5 ∨ j = 6 ∨ j = 7 ∨ j = 8 by omega) with rfl | rfl | rfl | rfl | rfl | rfl | rfl | rfl | rfl <;> rfl) hz (by decide) (by decide) dX4_init_40 (fun H10 hz1 hk hV => ?_)
  have hD2 := hD.push (e := .inr (3, [.null, .int 0, .int 0, .int 0, .int 0, .int 0, .int 0, .int 0, .int 0])) hP hz.symm (blk_k (by decide))
  have hD : va_D (blk x 70) [(x, .inr (4, [.ref (x + 1), .ref (x + 12), .ref (x + 23), .int (nI 0), .null])), (x + 23, .inl (y.2.2.2.2.2, 4, .inr (.inr (.inr (.inr (fun _ => none)))))), (x + 24, .inr (3, [.null, .int 0, .int 0, .int 0, .int 0, .int 0, .int 0, .int 0, .int 0]))] := hD2
  have hP2 := (hP.grow hk).app (z_one hV)
  have hP : va_P D vwCl [(x, .inr (4, [.ref (x + 1), .ref (x + 12), .ref (x + 23), .int (nI 0), .null])), (x + 23, .inl (y.2.2.2.2.2, 4, .inr (.inr (.inr (.inr (fun _ => none)))))), (x + 24, .inr (3, [.null, .int 0, .int 0, .int 0, .int 0, .int 0, .int 0, .int 0, .int 0]))] H10 := hP2
  clear hD2 hP2
  have hS := hS.grow hz1 hk
  have hs1 := hs1.grow hk
  have hs12 := hs12.grow hk
  have hz : H10.size = x + 25 := hz1.trans (congrArg (fun n => n + 1) hz)
  clear hz1 hk hV
  refine lv_dup hx hb dX4_init_43 rfl ?_
  refine w_callIN (b := x + 24) (As := []) (rest := [.ref (x + 24), .ref x]) hF hK (c_X3_init l D y (x + 24)) ⟨va_cnB 0 hts gX4_init_X3_init_n29 rfl rfl rfl hK.2.1 (hts (.initialized RX3) (List.mem_of_getElem? (i := 13) rfl)) (by decide +kernel) ⟨Nat.le_of_ble_eq_true rfl, Nat.le_of_ble_eq_true rfl⟩, rfl, (hts (.instanceMethod yX3_init) (List.mem_of_getElem? (i := 39) rfl))⟩ ⟨z_one (hP 2 _ rfl), hz⟩ hS (fun q h => blk_m (by decide) h) rfl hl.1 rfl (Nat.le_of_ble_eq_true rfl) dX4_init_44 ⟨Nat.le_of_ble_eq_true rfl, Nat.le_of_ble_eq_true rfl⟩ (fun H11 locs1 hsi hz1 hk hS => ?_)
  obtain ⟨hP1, hz⟩ := hsi
  have hP2 : va_P D vwCl [(x, .inr (4, [.ref (x + 1), .ref (x + 12), .ref (x + 23), .int (nI 0), .null])), (x + 23, .inl (y.2.2.2.2.2, 4, .inr (.inr (.inr (.inr (fun _ => none))))))] _ := hP.sub [0, 1] rfl
  have hP3 := (hP2.kept (fun k q h => hk q.1 (hP2 k q h).lt (match k, h with | 0, h => by cases h; exact blk_lo0 (by decide) | 1, h => by cases h; exact blk_lo (by decide) | k + 2, h => by simp at h))).app hP1
  have hP : va_P D vwCl [(x, .inr (4, [.ref (x + 1), .ref (x + 12), .ref (x + 23), .int (nI 0), .null])), (x + 23, .inl (y.2.2.2.2.2, 4, .inr (.inr (.inr (.inr (fun _ => none)))))), (x + 24, .inr (3, [.ref (x + 25), .int (nI 0), .int (nI 0), .int (nI 0), .int (nI 1), .int (nI 0), .int (nI 0), .int (nI 0), .int (nI 0)])), (x + 25, .inl (y.2.1, 80, .inl (fun _ => 0)))] H11 := hP3
  have hs1 := hs1.call hk (fun q h1 h2 => blk_dj2 (i := 1) (by decide) h1 h2) (fun q h => blk_bd2 (by decide) hbd h)
  have hs12 := hs12.call hk (fun q h1 h2 => blk_dj2 (i := 12) (by decide) h1 h2) (fun q h => blk_bd2 (by decide) hbd h)
  have hD : va_D (blk x 70) [(x, .inr (4, [.ref (x + 1), .ref (x + 12), .ref (x + 23), .int (nI 0), .null])), (x + 23, .inl (y.2.2.2.2.2, 4, .inr (.inr (.inr (.inr (fun _ => none)))))), (x + 24, .inr (3, [.ref (x + 25), .int (nI 0), .int (nI 0), .int (nI 0), .int (nI 1), .int (nI 0), .int (nI 0), .int (nI 0), .int (nI 0)])), (x + 25, .inl (y.2.1, 80, .inl (fun _ => 0)))] := va_D_list x 70 [0, 23, 24, 25] (by decide) (by decide) rfl
  have hz : H11.size = x + 26 := hz
  clear hP1 hP2 hP3 hz1 hk
  refine y_putF (a := x) (fs := [.ref (x + 1), .ref (x + 12), .ref (x + 23), .int (nI 0), .null]) (ref := "CranePermits") (C := RX4) (T := TX4) (N := 5) (ci := 4) (v := .ref (x + 24)) (ty := (.object "CranePermits$Text")) hx hb hts i_c_X4_init_X4 tyX4 tyX4_ok nmX4 hown hK (hP 0 _ rfl) 4 (by decide) rfl (hts (.fieldLink RX4 30 "CranePermits" "text" "LCranePermits$Text;") (List.mem_of_getElem? (i := 14) rfl)) rfl rfl (hnm.trans rfl) rfl (by decide +kernel) (rfl) rfl (Nat.le_of_ble_eq_true rfl) dX4_init_47 (fun H12 x1 hU hV => ?_)
  have hS := hS.upd (x := x1) hU (blk_0 (by decide))
  have hP2 := hP.upd (q0 := 0) hD rfl hU hV
  have hP : va_P D vwCl [(x, .inr (4, [.ref (x + 1), .ref (x + 12), .ref (x + 23), .int (nI 0), .ref (x + 24)])), (x + 23, .inl (y.2.2.2.2.2, 4, .inr (.inr (.inr (.inr (fun _ => none)))))), (x + 24, .inr (3, [.ref (x + 25), .int (nI 0), .int (nI 0), .int (nI 0), .int (nI 1), .int (nI 0), .int (nI 0), .int (nI 0), .int (nI 0)])), (x + 25, .inl (y.2.1, 80, .inl (fun _ => 0)))] H12 := hP2
  have hD : va_D (blk x 70) [(x, .inr (4, [.ref (x + 1), .ref (x + 12), .ref (x + 23), .int (nI 0), .ref (x + 24)])), (x + 23, .inl (y.2.2.2.2.2, 4, .inr (.inr (.inr (.inr (fun _ => none)))))), (x + 24, .inr (3, [.ref (x + 25), .int (nI 0), .int (nI 0), .int (nI 0), .int (nI 1), .int (nI 0), .int (nI 0), .int (nI 0), .int (nI 0)])), (x + 25, .inl (y.2.1, 80, .inl (fun _ => 0)))] := hD.set (p := 0) rfl
  clear hP2
  have hz := hU.1.trans hz
  have hs1 := hs1.upd hU (Or.inl (Nat.lt_add_of_pos_right (by decide))) (Nat.lt_of_lt_of_le (Nat.lt_add_of_pos_right (by decide)) hbd)
  have hs12 := hs12.upd hU (Or.inl (Nat.lt_add_of_pos_right (by decide))) (Nat.lt_of_lt_of_le (Nat.lt_add_of_pos_right (by decide)) hbd)
  clear hU hV
  refine lv_iconst (v := (nI 0)) hx hb dX4_init_50 (by decide) ?_
  refine lv_istore_n (lv' := [(1, .int (nI 0)), (0, .ref x)]) hx hb dX4_init_51 rfl hl (by decide) rfl (fun ls hl => ?_)
  refine lv_iload_n hx hb dX4_init_52 rfl (lv_at hl 0 rfl) ?_
  refine lv_aload_n hx hb dX4_init_53 rfl (lv_at hl 1 rfl) ?_
  refine z_get (fs := [.ref (x + 1), .ref (x + 12), .ref (x + 23), .int (nI 0), .ref (x + 24)]) (ref := "CranePermits") (C := RX4) (T := TX4) (N := 5) (ci := 4) (v := .ref (x + 23)) hx hb hts i_c_X4_init_X4 hown hK (hP 0 _ rfl) 2 (by decide) rfl (hts (.fieldLink RX4 19 "CranePermits" "past" "[LCranePermits$Site;") (List.mem_of_getElem? (i := 9) rfl)) rfl rfl dX4_init_54 ?_
  refine z_alen 5 (n := 4) hx hb hK rfl (hP 1 _ rfl) rfl dX4_init_57 ?_
  refine z_ge (tgt := 80) hx hb (by omega) (by omega) dX4_init_58 (by decide) (fun c58 => ?_) (fun c58 => ?_)
  · exact absurd c58 (by decide)
  · refine lv_aload_n hx hb dX4_init_61 rfl (lv_at hl 1 rfl) ?_
    refine z_get (fs := [.ref (x + 1), .ref (x + 12), .ref (x + 23), .int (nI 0), .ref (x + 24)]) (ref := "CranePermits") (C := RX4) (T := TX4) (N := 5) (ci := 4) (v := .ref (x + 23)) hx hb hts i_c_X4_init_X4 hown hK (hP 0 _ rfl) 2 (by decide) rfl (hts (.fieldLink RX4 19 "CranePermits" "past" "[LCranePermits$Site;") (List.mem_of_getElem? (i := 9) rfl)) rfl rfl dX4_init_62 ?_
    refine lv_iload_n hx hb dX4_init_65 rfl (lv_at hl 0 rfl) ?_
    refine y_new (C := RX2) (T := TX2) (N := 13) (ci := 2) (fs := [.null, .int 0, .null, .null, .null, .null, .null, .null, .null, .int 0, .null, .null, .int 0]) hx hb hts i_c_X4_init_X2 tyX2 tyX2_ok hown (hts (.classLink RX4 7 RX2) (List.mem_of_getElem? (i := 4) rfl)) (hts (.instantiable RX2 13) (List.mem_of_getElem? (i := 5) rfl)) (hts (.initialized RX2) (List.mem_of_getElem? (i := 6) rfl)) hK rfl (fun j hj => by rcases (show j = 0 ∨ j = 1 ∨ j = 2 ∨ j = 3 ∨ j = 4 ∨ j = 5 ∨ j = 6 ∨ j = 7 ∨ j = 8 ∨ j = 9 ∨ j = 10 ∨ j = 11 ∨ j = 12 by omega) with rfl | rfl | rfl | rfl | rfl | rfl | rfl | rfl | rfl | rfl | rfl | rfl | rfl <;> rfl) hz (by decide) (by decide) dX4_init_66 (fun H13 hz1 hk hV => ?_)
    have hD2 := hD.push (e := .inr (2, [.null, .int 0, .null, .null, .null, .null, .null, .null, .null, .int 0, .null, .null, .int 0])) hP hz.symm (blk_k (by decide))
    have hD : va_D (blk x 70) [(x, .inr (4, [.ref (x + 1), .ref (x + 12), .ref (x + 23), .int (nI 0), .ref (x + 24)])), (x + 23, .inl (y.2.2.2.2.2, 4, .inr (.inr (.inr (.inr (fun _ => none)))))), (x + 24, .inr (3, [.ref (x + 25), .int (nI 0), .int (nI 0), .int (nI 0), .int (nI 1), .int (nI 0), .int (nI 0), .int (nI 0), .int (nI 0)])), (x + 25, .inl (y.2.1, 80, .inl (fun _ => 0))), (x + 26, .inr (2, [.null, .int 0, .null, .null, .null, .null, .null, .null, .null, .int 0, .null, .null, .int 0]))] := hD2
    have hP2 := (hP.grow hk).app (z_one hV)
    have hP : va_P D vwCl [(x, .inr (4, [.ref (x + 1), .ref (x + 12), .ref (x + 23), .int (nI 0), .ref (x + 24)])), (x + 23, .inl (y.2.2.2.2.2, 4, .inr (.inr (.inr (.inr (fun _ => none)))))), (x + 24, .inr (3, [.ref (x + 25), .int (nI 0), .int (nI 0), .int (nI 0), .int (nI 1), .int (nI 0), .int (nI 0), .int (nI 0), .int (nI 0)])), (x + 25, .inl (y.2.1, 80, .inl (fun _ => 0))), (x + 26, .inr (2, [.null, .int 0, .null, .null, .null, .null, .null, .null, .null, .int 0, .null, .null, .int 0]))] H13 := hP2
    clear hD2 hP2
    have hS := hS.grow hz1 hk
    have hs1 := hs1.grow hk
    have hs12 := hs12.grow hk
    have hz : H13.size = x + 27 := hz1.trans (congrArg (fun n => n + 1) hz)
    clear hz1 hk hV
    refine lv_dup hx hb dX4_init_69 rfl ?_
    refine w_callI (b := x + 26) (As := []) (rest := [.ref (x + 26), .int (nI 0), .ref (x + 23)]) hF hK (c_X2_init l D y (x + 26) bd ca pa pk) (cwI 0 hts gX4_init_X2_init rfl rfl rfl (hts (.initialized RX2) (List.mem_of_getElem? (i := 6) rfl)) (hts (.methodLink RX4 9 yX2_init) (List.mem_of_getElem? (i := 15) rfl)) (hts (.instanceMethod yX2_init) (List.mem_of_getElem? (i := 16) rfl)) rfl (by decide +kernel) ⟨Nat.le_of_ble_eq_true rfl, Nat.le_of_ble_eq_true rfl⟩) ⟨z_one (hP 4 _ rfl), hz⟩ hS (fun q h => blk_11 (by decide) h) rfl hl.1 rfl (Nat.le_of_ble_eq_true rfl) dX4_init_70 ⟨Nat.le_of_ble_eq_true rfl, Nat.le_of_ble_eq_true rfl⟩ (fun H14 locs1 hsi hz1 hk hS => ?_)
    obtain ⟨hs26, hz⟩ := hsi
    have hP2 : va_P D vwCl [(x, .inr (4, [.ref (x + 1), .ref (x + 12), .ref (x + 23), .int (nI 0), .ref (x + 24)])), (x + 23, .inl (y.2.2.2.2.2, 4, .inr (.inr (.inr (.inr (fun _ => none)))))), (x + 24, .inr (3, [.ref (x + 25), .int (nI 0), .int (nI 0), .int (nI 0), .int (nI 1), .int (nI 0), .int (nI 0), .int (nI 0), .int (nI 0)])), (x + 25, .inl (y.2.1, 80, .inl (fun _ => 0)))] _ := hP.sub [0, 1, 2, 3] rfl
    have hP : va_P D vwCl [(x, .inr (4, [.ref (x + 1), .ref (x + 12), .ref (x + 23), .int (nI 0), .ref (x + 24)])), (x + 23, .inl (y.2.2.2.2.2, 4, .inr (.inr (.inr (.inr (fun _ => none)))))), (x + 24, .inr (3, [.ref (x + 25), .int (nI 0), .int (nI 0), .int (nI 0), .int (nI 1), .int (nI 0), .int (nI 0), .int (nI 0), .int (nI 0)])), (x + 25, .inl (y.2.1, 80, .inl (fun _ => 0)))] H14 := hP2.kept (fun k q h => hk q.1 (hP2 k q h).lt (match k, h with | 0, h => by cases h; exact blk_lo0 (by decide) | 1, h => by cases h; exact blk_lo (by decide) | 2, h => by cases h; exact blk_lo (by decide) | 3, h => by cases h; exact blk_lo (by decide) | k + 4, h => by simp at h))
    have hD2 : va_D (blk x 70) [(x, .inr (4, [.ref (x + 1), .ref (x + 12), .ref (x + 23), .int (nI 0), .ref (x + 24)])), (x + 23, .inl (y.2.2.2.2.2, 4, .inr (.inr (.inr (.inr (fun _ => none)))))), (x + 24, .inr (3, [.ref (x + 25), .int (nI 0), .int (nI 0), .int (nI 0), .int (nI 1), .int (nI 0), .int (nI 0), .int (nI 0), .int (nI 0)])), (x + 25, .inl (y.2.1, 80, .inl (fun _ => 0)))] := hD.sub [0, 1, 2, 3] (by decide) rfl
    have hD := hD2
    have hs1 := hs1.call hk (fun q h1 h2 => blk_dj (i := 1) (by decide) h1 h2) (fun q h => blk_bd (by decide) hbd h)
    have hs12 := hs12.call hk (fun q h1 h2 => blk_dj (i := 12) (by decide) h1 h2) (fun q h => blk_bd (by decide) hbd h)
    have hz : H14.size = x + 37 := hz
    clear hP2 hD2 hz1 hk
    refine y_aast (a := (x + 23)) (k := 5) (f := (fun _ => none)) (i := 0) (v := (x + 26)) hx hb hK rfl (hP 1 _ rfl) (sD_recv hK hs26) (by decide) (by decide) dX4_init_73 (fun H15 hU hV => ?_)
    have hS := hS.upd (x := 0) hU (blk_k (by decide))
    have hP2 := hP.upd (q0 := 1) hD rfl hU hV
    have hP : va_P D vwCl [(x, .inr (4, [.ref (x + 1), .ref (x + 12), .ref (x + 23), .int (nI 0), .ref (x + 24)])), (x + 23, .inl (y.2.2.2.2.2, 4, .inr (.inr (.inr (.inr (va_up (fun _ => none) 0 (some (x + 26)))))))), (x + 24, .inr (3, [.ref (x + 25), .int (nI 0), .int (nI 0), .int (nI 0), .int (nI 1), .int (nI 0), .int (nI 0), .int (nI 0), .int (nI 0)])), (x + 25, .inl (y.2.1, 80, .inl (fun _ => 0)))] H15 := hP2
    have hD : va_D (blk x 70) [(x, .inr (4, [.ref (x + 1), .ref (x + 12), .ref (x + 23), .int (nI 0), .ref (x + 24)])), (x + 23, .inl (y.2.2.2.2.2, 4, .inr (.inr (.inr (.inr (va_up (fun _ => none) 0 (some (x + 26)))))))), (x + 24, .inr (3, [.ref (x + 25), .int (nI 0), .int (nI 0), .int (nI 0), .int (nI 1), .int (nI 0), .int (nI 0), .int (nI 0), .int (nI 0)])), (x + 25, .inl (y.2.1, 80, .inl (fun _ => 0)))] := hD.set (p := 1) rfl
    clear hP2
    have hz := hU.1.trans hz
    have hs1 := hs1.upd hU (Or.inr (Nat.add_le_add_left (show 1 + 11 ≤ 23 by decide) x)) (Nat.lt_of_lt_of_le (Nat.add_lt_add_left (by decide) x) hbd)
    have hs12 := hs12.upd hU (Or.inr (Nat.add_le_add_left (show 12 + 11 ≤ 23 by decide) x)) (Nat.lt_of_lt_of_le (Nat.add_lt_add_left (by decide) x) hbd)
    have hs26 := hs26.upd hU (Or.inl (Nat.add_lt_add_left (by decide) x)) (Nat.lt_of_lt_of_le (Nat.add_lt_add_left (by decide) x) hbd)
    clear hU hV
    refine lv_iinc (v := (nI (0 + 1))) (lv' := [(1, .int (nI (0 + 1))), (0, .ref x)]) hx hb dX4_init_74 hl (k := 0) rfl (in1 _) (by decide) rfl (fun ls hl => ?_)
    refine lv_goto (tgt := 52) hx hb dX4_init_77 (by decide) ?_
    refine lv_iload_n hx hb dX4_init_52 rfl (lv_at hl 0 rfl) ?_
    refine lv_aload_n hx hb dX4_init_53 rfl (lv_at hl 1 rfl) ?_
    refine z_get (fs := [.ref (x + 1), .ref (x + 12), .ref (x + 23), .int (nI 0), .ref (x + 24)]) (ref := "CranePermits") (C := RX4) (T := TX4) (N := 5) (ci := 4) (v := .ref (x + 23)) hx hb hts i_c_X4_init_X4 hown hK (hP 0 _ rfl) 2 (by decide) rfl (hts (.fieldLink RX4 19 "CranePermits" "past" "[LCranePermits$Site;") (List.mem_of_getElem? (i := 9) rfl)) rfl rfl dX4_init_54 ?_
    refine z_alen 5 (n := 4) hx hb hK rfl (hP 1 _ rfl) rfl dX4_init_57 ?_
    refine z_ge (tgt := 80) hx hb (by omega) (by omega) dX4_init_58 (by decide) (fun c58 => ?_) (fun c58 => ?_)
    · exact absurd c58 (by decide)
    · refine lv_aload_n hx hb dX4_init_61 rfl (lv_at hl 1 rfl) ?_
      refine z_get (fs := [.ref (x + 1), .ref (x + 12), .ref (x + 23), .int (nI 0), .ref (x + 24)]) (ref := "CranePermits") (C := RX4) (T := TX4) (N := 5) (ci := 4) (v := .ref (x + 23)) hx hb hts i_c_X4_init_X4 hown hK (hP 0 _ rfl) 2 (by decide) rfl (hts (.fieldLink RX4 19 "CranePermits" "past" "[LCranePermits$Site;") (List.mem_of_getElem? (i := 9) rfl)) rfl rfl dX4_init_62 ?_
      refine lv_iload_n hx hb dX4_init_65 rfl (lv_at hl 0 rfl) ?_
      refine y_new (C := RX2) (T := TX2) (N := 13) (ci := 2) (fs := [.null, .int 0, .null, .null, .null, .null, .null, .null, .null, .int 0, .null, .null, .int 0]) hx hb hts i_c_X4_init_X2 tyX2 tyX2_ok hown (hts (.classLink RX4 7 RX2) (List.mem_of_getElem? (i := 4) rfl)) (hts (.instantiable RX2 13) (List.mem_of_getElem? (i := 5) rfl)) (hts (.initialized RX2) (List.mem_of_getElem? (i := 6) rfl)) hK rfl (fun j hj => by rcases (show j = 0 ∨ j = 1 ∨ j = 2 ∨ j = 3 ∨ j = 4 ∨ j = 5 ∨ j = 6 ∨ j = 7 ∨ j = 8 ∨ j = 9 ∨ j = 10 ∨ j = 11 ∨ j = 12 by omega) with rfl | rfl | rfl | rfl | rfl | rfl | rfl | rfl | rfl | rfl | rfl | rfl | rfl <;> rfl) hz (by decide) (by decide) dX4_init_66 (fun H16 hz1 hk hV => ?_)
      have hD2 := hD.push (e := .inr (2, [.null, .int 0, .null, .null, .null, .null, .null, .null, .null, .int 0, .null, .null, .int 0])) hP hz.symm (blk_k (by decide))
      have hD : va_D (blk x 70) [(x, .inr (4, [.ref (x + 1), .ref (x + 12), .ref (x + 23), .int (nI 0), .ref (x + 24)])), (x + 23, .inl (y.2.2.2.2.2, 4, .inr (.inr (.inr (.inr (va_up (fun _ => none) 0 (some (x + 26)))))))), (x + 24, .inr (3, [.ref (x + 25), .int (nI 0), .int (nI 0), .int (nI 0), .int (nI 1), .int (nI 0), .int (nI 0), .int (nI 0), .int (nI 0)])), (x + 25, .inl (y.2.1, 80, .inl (fun _ => 0))), (x + 37, .inr (2, [.null, .int 0, .null, .null, .null, .null, .null, .null, .null, .int 0, .null, .null, .int 0]))] := hD2
      have hP2 := (hP.grow hk).app (z_one hV)
      have hP : va_P D vwCl [(x, .inr (4, [.ref (x + 1), .ref (x + 12), .ref (x + 23), .int (nI 0), .ref (x + 24)])), (x + 23, .inl (y.2.2.2.2.2, 4, .inr (.inr (.inr (.inr (va_up (fun _ => none) 0 (some (x + 26)))))))), (x + 24, .inr (3, [.ref (x + 25), .int (nI 0), .int (nI 0), .int (nI 0), .int (nI 1), .int (nI 0), .int (nI 0), .int (nI 0), .int (nI 0)])), (x + 25, .inl (y.2.1, 80, .inl (fun _ => 0))), (x + 37, .inr (2, [.null, .int 0, .null, .null, .null, .null, .null, .null, .null, .int 0, .null, .null, .int 0]))] H16 := hP2
      clear hD2 hP2
      have hS := hS.grow hz1 hk
      have hs1 := hs1.grow hk
      have hs12 := hs12.grow hk
      have hs26 := hs26.grow hk
      have hz : H16.size = x + 38 := hz1.trans (congrArg (fun n => n + 1) hz)
      clear hz1 hk hV
      refine lv_dup hx hb dX4_init_69 rfl ?_
      refine w_callI (b := x + 37) (As := []) (rest := [.ref (x + 37), .int (nI (0 + 1)), .ref (x + 23)]) hF hK (c_X2_init l D y (x + 37) bd ca pa pk) (cwI 0 hts gX4_init_X2_init rfl rfl rfl (hts (.initialized RX2) (List.mem_of_getElem? (i := 6) rfl)) (hts (.methodLink RX4 9 yX2_init) (List.mem_of_getElem? (i := 15) rfl)) (hts (.instanceMethod yX2_init) (List.mem_of_getElem? (i := 16) rfl)) rfl (by decide +kernel) ⟨Nat.le_of_ble_eq_true rfl, Nat.le_of_ble_eq_true rfl⟩) ⟨z_one (hP 4 _ rfl), hz⟩ hS (fun q h => blk_11 (by decide) h) rfl hl.1 rfl (Nat.le_of_ble_eq_true rfl) dX4_init_70 ⟨Nat.le_of_ble_eq_true rfl, Nat.le_of_ble_eq_true rfl⟩ (fun H17 locs1 hsi hz1 hk hS => ?_)
      obtain ⟨hs37, hz⟩ := hsi
      have hP2 : va_P D vwCl [(x, .inr (4, [.ref (x + 1), .ref (x + 12), .ref (x + 23), .int (nI 0), .ref (x + 24)])), (x + 23, .inl (y.2.2.2.2.2, 4, .inr (.inr (.inr (.inr (va_up (fun _ => none) 0 (some (x + 26)))))))), (x + 24, .inr (3, [.ref (x + 25), .int (nI 0), .int (nI 0), .int (nI 0), .int (nI 1), .int (nI 0), .int (nI 0), .int (nI 0), .int (nI 0)])), (x + 25, .inl (y.2.1, 80, .inl (fun _ => 0)))] _ := hP.sub [0, 1, 2, 3] rfl
      have hP : va_P D vwCl [(x, .inr (4, [.ref (x + 1), .ref (x + 12), .ref (x + 23), .int (nI 0), .ref (x + 24)])), (x + 23, .inl (y.2.2.2.2.2, 4, .inr (.inr (.inr (.inr (va_up (fun _ => none) 0 (some (x + 26)))))))), (x + 24, .inr (3, [.ref (x + 25), .int (nI 0), .int (nI 0), .int (nI 0), .int (nI 1), .int (nI 0), .int (nI 0), .int (nI 0), .int (nI 0)])), (x + 25, .inl (y.2.1, 80, .inl (fun _ => 0)))] H17 := hP2.kept (fun k q h => hk q.1 (hP2 k q h).lt (match k, h with | 0, h => by cases h; exact blk_lo0 (by decide) | 1, h => by cases h; exact blk_lo (by decide) | 2, h => by cases h; exact blk_lo (by decide) | 3, h => by cases h; exact blk_lo (by decide) | k + 4, h => by simp at h))
      have hD2 : va_D (blk x 70) [(x, .inr (4, [.ref (x + 1), .ref (x + 12), .ref (x + 23), .int (nI 0), .ref (x + 24)])), (x + 23, .inl (y.2.2.2.2.2, 4, .inr (.inr (.inr (.inr (va_up (fun _ => none) 0 (some (x + 26)))))))), (x + 24, .inr (3, [.ref (x + 25), .int (nI 0), .int (nI 0), .int (nI 0), .int (nI 1), .int (nI 0), .int (nI 0), .int (nI 0), .int (nI 0)])), (x + 25, .inl (y.2.1, 80, .inl (fun _ => 0)))] := hD.sub [0, 1, 2, 3] (by decide) rfl
      have hD := hD2
      have hs1 := hs1.call hk (fun q h1 h2 => blk_dj (i := 1) (by decide) h1 h2) (fun q h => blk_bd (by decide) hbd h)
      have hs12 := hs12.call hk (fun q h1 h2 => blk_dj (i := 12) (by decide) h1 h2) (fun q h => blk_bd (by decide) hbd h)
      have hs26 := hs26.call hk (fun q h1 h2 => blk_dj (i := 26) (by decide) h1 h2) (fun q h => blk_bd (by decide) hbd h)
      have hz : H17.size = x + 48 := hz
      clear hP2 hD2 hz1 hk
      refine y_aast (a := (x + 23)) (k := 5) (f := (va_up (fun _ => none) 0 (some (x + 26)))) (i := 1) (v := (x + 37)) hx hb hK rfl (hP 1 _ rfl) (sD_recv hK hs37) (by decide) (by decide) dX4_init_73 (fun H18 hU hV => ?_)
      have hS := hS.upd (x := 1) hU (blk_k (by decide))
      have hP2 := hP.upd (q0 := 1) hD rfl hU hV
      have hP : va_P D vwCl [(x, .inr (4, [.ref (x + 1), .ref (x + 12), .ref (x + 23), .int (nI 0), .ref (x + 24)])), (x + 23, .inl (y.2.2.2.2.2, 4, .inr (.inr (.inr (.inr (va_up (va_up (fun _ => none) 0 (some (x + 26))) 1 (some (x + 37)))))))), (x + 24, .inr (3, [.ref (x + 25), .int (nI 0), .int (nI 0), .int (nI 0), .int (nI 1), .int (nI 0), .int (nI 0), .int (nI 0), .int (nI 0)])), (x + 25, .inl (y.2.1, 80, .inl (fun _ => 0)))] H18 := hP2
      have hD : va_D (blk x 70) [(x, .inr (4, [.ref (x + 1), .ref (x + 12), .ref (x + 23), .int (nI 0), .ref (x + 24)])), (x + 23, .inl (y.2.2.2.2.2, 4, .inr (.inr (.inr (.inr (va_up (va_up (fun _ => none) 0 (some (x + 26))) 1 (some (x + 37)))))))), (x + 24, .inr (3, [.ref (x + 25), .int (nI 0), .int (nI 0), .int (nI 0), .int (nI 1), .int (nI 0), .int (nI 0), .int (nI 0), .int (nI 0)])), (x + 25, .inl (y.2.1, 80, .inl (fun _ => 0)))] := hD.set (p := 1) rfl
      clear hP2
      have hz := hU.1.trans hz
      have hs1 := hs1.upd hU (Or.inr (Nat.add_le_add_left (show 1 + 11 ≤ 23 by decide) x)) (Nat.lt_of_lt_of_le (Nat.add_lt_add_left (by decide) x) hbd)
      have hs12 := hs12.upd hU (Or.inr (Nat.add_le_add_left (show 12 + 11 ≤ 23 by decide) x)) (Nat.lt_of_lt_of_le (Nat.add_lt_add_left (by decide) x) hbd)
      have hs26 := hs26.upd hU (Or.inl (Nat.add_lt_add_left (by decide) x)) (Nat.lt_of_lt_of_le (Nat.add_lt_add_left (by decide) x) hbd)
      have hs37 := hs37.upd hU (Or.inl (Nat.add_lt_add_left (by decide) x)) (Nat.lt_of_lt_of_le (Nat.add_lt_add_left (by decide) x) hbd)
      clear hU hV
      refine lv_iinc (v := (nI (0 + 1 + 1))) (lv' := [(1, .int (nI (0 + 1 + 1))), (0, .ref x)]) hx hb dX4_init_74 hl (k := 0) rfl (in1 _) (by decide) rfl (fun ls hl => ?_)
      refine lv_goto (tgt := 52) hx hb dX4_init_77 (by decide) ?_
      refine lv_iload_n hx hb dX4_init_52 rfl (lv_at hl 0 rfl) ?_
      refine lv_aload_n hx hb dX4_init_53 rfl (lv_at hl 1 rfl) ?_
      refine z_get (fs := [.ref (x + 1), .ref (x + 12), .ref (x + 23), .int (nI 0), .ref (x + 24)]) (ref := "CranePermits") (C := RX4) (T := TX4) (N := 5) (ci := 4) (v := .ref (x + 23)) hx hb hts i_c_X4_init_X4 hown hK (hP 0 _ rfl) 2 (by decide) rfl (hts (.fieldLink RX4 19 "CranePermits" "past" "[LCranePermits$Site;") (List.mem_of_getElem? (i := 9) rfl)) rfl rfl dX4_init_54 ?_
      refine z_alen 5 (n := 4) hx hb hK rfl (hP 1 _ rfl) rfl dX4_init_57 ?_
      refine z_ge (tgt := 80) hx hb (by omega) (by omega) dX4_init_58 (by decide) (fun c58 => ?_) (fun c58 => ?_)
      · exact absurd c58 (by decide)
      · refine lv_aload_n hx hb dX4_init_61 rfl (lv_at hl 1 rfl) ?_
        refine z_get (fs := [.ref (x + 1), .ref (x + 12), .ref (x + 23), .int (nI 0), .ref (x + 24)]) (ref := "CranePermits") (C := RX4) (T := TX4) (N := 5) (ci := 4) (v := .ref (x + 23)) hx hb hts i_c_X4_init_X4 hown hK (hP 0 _ rfl) 2 (by decide) rfl (hts (.fieldLink RX4 19 "CranePermits" "past" "[LCranePermits$Site;") (List.mem_of_getElem? (i := 9) rfl)) rfl rfl dX4_init_62 ?_
        refine lv_iload_n hx hb dX4_init_65 rfl (lv_at hl 0 rfl) ?_
        refine y_new (C := RX2) (T := TX2) (N := 13) (ci := 2) (fs := [.null, .int 0, .null, .null, .null, .null, .null, .null, .null, .int 0, .null, .null, .int 0]) hx hb hts i_c_X4_init_X2 tyX2 tyX2_ok hown (hts (.classLink RX4 7 RX2) (List.mem_of_getElem? (i := 4) rfl)) (hts (.instantiable RX2 13) (List.mem_of_getElem? (i := 5) rfl)) (hts (.initialized RX2) (List.mem_of_getElem? (i := 6) rfl)) hK rfl (fun j hj => by rcases (show j = 0 ∨ j = 1 ∨ j = 2 ∨ j = 3 ∨ j = 4 ∨ j = 5 ∨ j = 6 ∨ j = 7 ∨ j = 8 ∨ j = 9 ∨ j = 10 ∨ j = 11 ∨ j = 12 by omega) with rfl | rfl | rfl | rfl | rfl | rfl | rfl | rfl | rfl | rfl | rfl | rfl | rfl <;> rfl) hz (by decide) (by decide) dX4_init_66 (fun H19 hz1 hk hV => ?_)
        have hD2 := hD.push (e := .inr (2, [.null, .int 0, .null, .null, .null, .null, .null, .null, .null, .int 0, .null, .null, .int 0])) hP hz.symm (blk_k (by decide))
        have hD : va_D (blk x 70) [(x, .inr (4, [.ref (x + 1), .ref (x + 12), .ref (x + 23), .int (nI 0), .ref (x + 24)])), (x + 23, .inl (y.2.2.2.2.2, 4, .inr (.inr (.inr (.inr (va_up (va_up (fun _ => none) 0 (some (x + 26))) 1 (some (x + 37)))))))), (x + 24, .inr (3, [.ref (x + 25), .int (nI 0), .int (nI 0), .int (nI 0), .int (nI 1), .int (nI 0), .int (nI 0), .int (nI 0), .int (nI 0)])), (x + 25, .inl (y.2.1, 80, .inl (fun _ => 0))), (x + 48, .inr (2, [.null, .int 0, .null, .null, .null, .null, .null, .null, .null, .int 0, .null, .null, .int 0]))] := hD2
        have hP2 := (hP.grow hk).app (z_one hV)
        have hP : va_P D vwCl [(x, .inr (4, [.ref (x + 1), .ref (x + 12), .ref (x + 23), .int (nI 0), .ref (x + 24)])), (x + 23, .inl (y.2.2.2.2.2, 4, .inr (.inr (.inr (.inr (va_up (va_up (fun _ => none) 0 (some (x + 26))) 1 (some (x + 37)))))))), (x + 24, .inr (3, [.ref (x + 25), .int (nI 0), .int (nI 0), .int (nI 0), .int (nI 1), .int (nI 0), .int (nI 0), .int (nI 0), .int (nI 0)])), (x + 25, .inl (y.2.1, 80, .inl (fun _ => 0))), (x + 48, .inr (2, [.null, .int 0, .null, .null, .null, .null, .null, .null, .null, .int 0, .null, .null, .int 0]))] H19 := hP2
        clear hD2 hP2
        have hS := hS.grow hz1 hk
        have hs1 := hs1.grow hk
        have hs12 := hs12.grow hk
        have hs26 := hs26.grow hk
        have hs37 := hs37.grow hk
        have hz : H19.size = x + 49 := hz1.trans (congrArg (fun n => n + 1) hz)
        clear hz1 hk hV
        refine lv_dup hx hb dX4_init_69 rfl ?_
        refine w_callI (b := x + 48) (As := []) (rest := [.ref (x + 48), .int (nI (0 + 1 + 1)), .ref (x + 23)]) hF hK (c_X2_init l D y (x + 48) bd ca pa pk) (cwI 0 hts gX4_init_X2_init rfl rfl rfl (hts (.initialized RX2) (List.mem_of_getElem? (i := 6) rfl)) (hts (.methodLink RX4 9 yX2_init) (List.mem_of_getElem? (i := 15) rfl)) (hts (.instanceMethod yX2_init) (List.mem_of_getElem? (i := 16) rfl)) rfl (by decide +kernel) ⟨Nat.le_of_ble_eq_true rfl, Nat.le_of_ble_eq_true rfl⟩) ⟨z_one (hP 4 _ rfl), hz⟩ hS (fun q h => blk_11 (by decide) h) rfl hl.1 rfl (Nat.le_of_ble_eq_true rfl) dX4_init_70 ⟨Nat.le_of_ble_eq_true rfl, Nat.le_of_ble_eq_true rfl⟩ (fun H20 locs1 hsi hz1 hk hS => ?_)
        obtain ⟨hs48, hz⟩ := hsi
        have hP2 : va_P D vwCl [(x, .inr (4, [.ref (x + 1), .ref (x + 12), .ref (x + 23), .int (nI 0), .ref (x + 24)])), (x + 23, .inl (y.2.2.2.2.2, 4, .inr (.inr (.inr (.inr (va_up (va_up (fun _ => none) 0 (some (x + 26))) 1 (some (x + 37)))))))), (x + 24, .inr (3, [.ref (x + 25), .int (nI 0), .int (nI 0), .int (nI 0), .int (nI 1), .int (nI 0), .int (nI 0), .int (nI 0), .int (nI 0)])), (x + 25, .inl (y.2.1, 80, .inl (fun _ => 0)))] _ := hP.sub [0, 1, 2, 3] rfl
        have hP : va_P D vwCl [(x, .inr (4, [.ref (x + 1), .ref (x + 12), .ref (x + 23), .int (nI 0), .ref (x + 24)])), (x + 23, .inl (y.2.2.2.2.2, 4, .inr (.inr (.inr (.inr (va_up (va_up (fun _ => none) 0 (some (x + 26))) 1 (some (x + 37)))))))), (x + 24, .inr (3, [.ref (x + 25), .int (nI 0), .int (nI 0), .int (nI 0), .int (nI 1), .int (nI 0), .int (nI 0), .int (nI 0), .int (nI 0)])), (x + 25, .inl (y.2.1, 80, .inl (fun _ => 0)))] H20 := hP2.kept (fun k q h => hk q.1 (hP2 k q h).lt (match k, h with | 0, h => by cases h; exact blk_lo0 (by decide) | 1, h => by cases h; exact blk_lo (by decide) | 2, h => by cases h; exact blk_lo (by decide) | 3, h => by cases h; exact blk_lo (by decide) | k + 4, h => by simp at h))
        have hD2 : va_D (blk x 70) [(x, .inr (4, [.ref (x + 1), .ref (x + 12), .ref (x + 23), .int (nI 0), .ref (x + 24)])), (x + 23, .inl (y.2.2.2.2.2, 4, .inr (.inr (.inr (.inr (va_up (va_up (fun _ => none) 0 (some (x + 26))) 1 (some (x + 37)))))))), (x + 24, .inr (3, [.ref (x + 25), .int (nI 0), .int (nI 0), .int (nI 0), .int (nI 1), .int (nI 0), .int (nI 0), .int (nI 0), .int (nI 0)])), (x + 25, .inl (y.2.1, 80, .inl (fun _ => 0)))] := hD.sub [0, 1, 2, 3] (by decide) rfl
        have hD := hD2
        have hs1 := hs1.call hk (fun q h1 h2 => blk_dj (i := 1) (by decide) h1 h2) (fun q h => blk_bd (by decide) hbd h)
        have hs12 := hs12.call hk (fun q h1 h2 => blk_dj (i := 12) (by decide) h1 h2) (fun q h => blk_bd (by decide) hbd h)
        have hs26 := hs26.call hk (fun q h1 h2 => blk_dj (i := 26) (by decide) h1 h2) (fun q h => blk_bd (by decide) hbd h)
        have hs37 := hs37.call hk (fun q h1 h2 => blk_dj (i := 37) (by decide) h1 h2) (fun q h => blk_bd (by decide) hbd h)
        have hz : H20.size = x + 59 := hz
        clear hP2 hD2 hz1 hk
        refine y_aast (a := (x + 23)) (k := 5) (f := (va_up (va_up (fun _ => none) 0 (some (x + 26))) 1 (some (x + 37)))) (i := 2) (v := (x + 48)) hx hb hK rfl (hP 1 _ rfl) (sD_recv hK hs48) (by decide) (by decide) dX4_init_73 (fun H21 hU hV => ?_)
        have hS := hS.upd (x := 2) hU (blk_k (by decide))
        have hP2 := hP.upd (q0 := 1) hD rfl hU hV
        have hP : va_P D vwCl [(x, .inr (4, [.ref (x + 1), .ref (x + 12), .ref (x + 23), .int (nI 0), .ref (x + 24)])), (x + 23, .inl (y.2.2.2.2.2, 4, .inr (.inr (.inr (.inr (va_up (va_up (va_up (fun _ => none) 0 (some (x + 26))) 1 (some (x + 37))) 2 (some (x + 48)))))))), (x + 24, .inr (3, [.ref (x + 25), .int (nI 0), .int (nI 0), .int (nI 0), .int (nI 1), .int (nI 0), .int (nI 0), .int (nI 0), .int (nI 0)])), (x + 25, .inl (y.2.1, 80, .inl (fun _ => 0)))] H21 := hP2
        have hD : va_D (blk x 70) [(x, .inr (4, [.ref (x + 1), .ref (x + 12), .ref (x + 23), .int (nI 0), .ref (x + 24)])), (x + 23, .inl (y.2.2.2.2.2, 4, .inr (.inr (.inr (.inr (va_up (va_up (va_up (fun _ => none) 0 (some (x + 26))) 1 (some (x + 37))) 2 (some (x + 48)))))))), (x + 24, .inr (3, [.ref (x + 25), .int (nI 0), .int (nI 0), .int (nI 0), .int (nI 1), .int (nI 0), .int (nI 0), .int (nI 0), .int (nI 0)])), (x + 25, .inl (y.2.1, 80, .inl (fun _ => 0)))] := hD.set (p := 1) rfl
        clear hP2
        have hz := hU.1.trans hz
        have hs1 := hs1.upd hU (Or.inr (Nat.add_le_add_left (show 1 + 11 ≤ 23 by decide) x)) (Nat.lt_of_lt_of_le (Nat.add_lt_add_left (by decide) x) hbd)
        have hs12 := hs12.upd hU (Or.inr (Nat.add_le_add_left (show 12 + 11 ≤ 23 by decide) x)) (Nat.lt_of_lt_of_le (Nat.add_lt_add_left (by decide) x) hbd)
        have hs26 := hs26.upd hU (Or.inl (Nat.add_lt_add_left (by decide) x)) (Nat.lt_of_lt_of_le (Nat.add_lt_add_left (by decide) x) hbd)
        have hs37 := hs37.upd hU (Or.inl (Nat.add_lt_add_left (by decide) x)) (Nat.lt_of_lt_of_le (Nat.add_lt_add_left (by decide) x) hbd)
        have hs48 := hs48.upd hU (Or.inl (Nat.add_lt_add_left (by decide) x)) (Nat.lt_of_lt_of_le (Nat.add_lt_add_left (by decide) x) hbd)
        clear hU hV
        refine lv_iinc (v := (nI (0 + 1 + 1 + 1))) (lv' := [(1, .int (nI (0 + 1 + 1 + 1))), (0, .ref x)]) hx hb dX4_init_74 hl (k := 0) rfl (in1 _) (by decide) rfl (fun ls hl => ?_)
        refine lv_goto (tgt := 52) hx hb dX4_init_77 (by decide) ?_
        refine lv_iload_n hx hb dX4_init_52 rfl (lv_at hl 0 rfl) ?_
        refine lv_aload_n hx hb dX4_init_53 rfl (lv_at hl 1 rfl) ?_
        refine z_get (fs := [.ref (x + 1), .ref (x + 12), .ref (x + 23), .int (nI 0), .ref (x + 24)]) (ref := "CranePermits") (C := RX4) (T := TX4) (N := 5) (ci := 4) (v := .ref (x + 23)) hx hb hts i_c_X4_init_X4 hown hK (hP 0 _ rfl) 2 (by decide) rfl (hts (.fieldLink RX4 19 "CranePermits" "past" "[LCranePermits$Site;") (List.mem_of_getElem? (i := 9) rfl)) rfl rfl dX4_init_54 ?_
        refine z_alen 5 (n := 4) hx hb hK rfl (hP 1 _ rfl) rfl dX4_init_57 ?_
        refine z_ge (tgt := 80) hx hb (by omega) (by omega) dX4_init_58 (by decide) (fun c58 => ?_) (fun c58 => ?_)
        · exact absurd c58 (by decide)
        · refine lv_aload_n hx hb dX4_init_61 rfl (lv_at hl 1 rfl) ?_
          refine z_get (fs := [.ref (x + 1), .ref (x + 12), .ref (x + 23), .int (nI 0), .ref (x + 24)]) (ref := "CranePermits") (C := RX4) (T := TX4) (N := 5) (ci := 4) (v := .ref (x + 23)) hx hb hts i_c_X4_init_X4 hown hK (hP 0 _ rfl) 2 (by decide) rfl (hts (.fieldLink RX4 19 "CranePermits" "past" "[LCranePermits$Site;") (List.mem_of_getElem? (i := 9) rfl)) rfl rfl dX4_init_62 ?_
          refine lv_iload_n hx hb dX4_init_65 rfl (lv_at hl 0 rfl) ?_
          refine y_new (C := RX2) (T := TX2) (N := 13) (ci := 2) (fs := [.null, .int 0, .null, .null, .null, .null, .null, .null, .null, .int 0, .null, .null, .int 0]) hx hb hts i_c_X4_init_X2 tyX2 tyX2_ok hown (hts (.classLink RX4 7 RX2) (List.mem_of_getElem? (i := 4) rfl)) (hts (.instantiable RX2 13) (List.mem_of_getElem? (i := 5) rfl)) (hts (.initialized RX2) (List.mem_of_getElem? (i := 6) rfl)) hK rfl (fun j hj => by rcases (show j = 0 ∨ j = 1 ∨ j = 2 ∨ j = 3 ∨ j = 4 ∨ j = 5 ∨ j = 6 ∨ j = 7 ∨ j = 8 ∨ j = 9 ∨ j = 10 ∨ j = 11 ∨ j = 12 by omega) with rfl | rfl | rfl | rfl | rfl | rfl | rfl | rfl | rfl | rfl | rfl | rfl | rfl <;> rfl) hz (by decide) (by decide) dX4_init_66 (fun H22 hz1 hk hV => ?_)
          have hD2 := hD.push (e := .inr (2, [.null, .int 0, .null, .null, .null, .null, .null, .null, .null, .int 0, .null, .null, .int 0])) hP hz.symm (blk_k (by decide))
          have hD : va_D (blk x 70) [(x, .inr (4, [.ref (x + 1), .ref (x + 12), .ref (x + 23), .int (nI 0), .ref (x + 24)])), (x + 23, .inl (y.2.2.2.2.2, 4, .inr (.inr (.inr (.inr (va_up (va_up (va_up (fun _ => none) 0 (some (x + 26))) 1 (some (x + 37))) 2 (some (x + 48)))))))), (x + 24, .inr (3, [.ref (x + 25), .int (nI 0), .int (nI 0), .int (nI 0), .int (nI 1), .int (nI 0), .int (nI 0), .int (nI 0), .int (nI 0)])), (x + 25, .inl (y.2.1, 80, .inl (fun _ => 0))), (x + 59, .inr (2, [.null, .int 0, .null, .null, .null, .null, .null, .null, .null, .int 0, .null, .null, .int 0]))] := hD2
          have hP2 := (hP.grow hk).app (z_one hV)
          have hP : va_P D vwCl [(x, .inr (4, [.ref (x + 1), .ref (x + 12), .ref (x + 23), .int (nI 0), .ref (x + 24)])), (x + 23, .inl (y.2.2.2.2.2, 4, .inr (.inr (.inr (.inr (va_up (va_up (va_up (fun _ => none) 0 (some (x + 26))) 1 (some (x + 37))) 2 (some (x + 48)))))))), (x + 24, .inr (3, [.ref (x + 25), .int (nI 0), .int (nI 0), .int (nI 0), .int (nI 1), .int (nI 0), .int (nI 0), .int (nI 0), .int (nI 0)])), (x + 25, .inl (y.2.1, 80, .inl (fun _ => 0))), (x + 59, .inr (2, [.null, .int 0, .null, .null, .null, .null, .null, .null, .null, .int 0, .null, .null, .int 0]))] H22 := hP2
          clear hD2 hP2
          have hS := hS.grow hz1 hk
          have hs1 := hs1.grow hk
          have hs12 := hs12.grow hk
          have hs26 := hs26.grow hk
          have hs37 := hs37.grow hk
          have hs48 := hs48.grow hk
          have hz : H22.size = x + 60 := hz1.trans (congrArg (fun n => n + 1) hz)
          clear hz1 hk hV
          refine lv_dup hx hb dX4_init_69 rfl ?_
          refine w_callI (b := x + 59) (As := []) (rest := [.ref (x + 59), .int (nI (0 + 1 + 1 + 1)), .ref (x + 23)]) hF hK (c_X2_init l D y (x + 59) bd ca pa pk) (cwI 0 hts gX4_init_X2_init rfl rfl rfl (hts (.initialized RX2) (List.mem_of_getElem? (i := 6) rfl)) (hts (.methodLink RX4 9 yX2_init) (List.mem_of_getElem? (i := 15) rfl)) (hts (.instanceMethod yX2_init) (List.mem_of_getElem? (i := 16) rfl)) rfl (by decide +kernel) ⟨Nat.le_of_ble_eq_true rfl, Nat.le_of_ble_eq_true rfl⟩) ⟨z_one (hP 4 _ rfl), hz⟩ hS (fun q h => blk_11 (by decide) h) rfl hl.1 rfl (Nat.le_of_ble_eq_true rfl) dX4_init_70 ⟨Nat.le_of_ble_eq_true rfl, Nat.le_of_ble_eq_true rfl⟩ (fun H23 locs1 hsi hz1 hk hS => ?_)
          obtain ⟨hs59, hz⟩ := hsi
          have hP2 : va_P D vwCl [(x, .inr (4, [.ref (x + 1), .ref (x + 12), .ref (x + 23), .int (nI 0), .ref (x + 24)])), (x + 23, .inl (y.2.2.2.2.2, 4, .inr (.inr (.inr (.inr (va_up (va_up (va_up (fun _ => none) 0 (some (x + 26))) 1 (some (x + 37))) 2 (some (x + 48)))))))), (x + 24, .inr (3, [.ref (x + 25), .int (nI 0), .int (nI 0), .int (nI 0), .int (nI 1), .int (nI 0), .int (nI 0), .int (nI 0), .int (nI 0)])), (x + 25, .inl (y.2.1, 80, .inl (fun _ => 0)))] _ := hP.sub [0, 1, 2, 3] rfl
          have hP : va_P D vwCl [(x, .inr (4, [.ref (x + 1), .ref (x + 12), .ref (x + 23), .int (nI 0), .ref (x + 24)])), (x + 23, .inl (y.2.2.2.2.2, 4, .inr (.inr (.inr (.inr (va_up (va_up (va_up (fun _ => none) 0 (some (x + 26))) 1 (some (x + 37))) 2 (some (x + 48)))))))), (x + 24, .inr (3, [.ref (x + 25), .int (nI 0), .int (nI 0), .int (nI 0), .int (nI 1), .int (nI 0), .int (nI 0), .int (nI 0), .int (nI 0)])), (x + 25, .inl (y.2.1, 80, .inl (fun _ => 0)))] H23 := hP2.kept (fun k q h => hk q.1 (hP2 k q h).lt (match k, h with | 0, h => by cases h; exact blk_lo0 (by decide) | 1, h => by cases h; exact blk_lo (by decide) | 2, h => by cases h; exact blk_lo (by decide) | 3, h => by cases h; exact blk_lo (by decide) | k + 4, h => by simp at h))
          have hD2 : va_D (blk x 70) [(x, .inr (4, [.ref (x + 1), .ref (x + 12), .ref (x + 23), .int (nI 0), .ref (x + 24)])), (x + 23, .inl (y.2.2.2.2.2, 4, .inr (.inr (.inr (.inr (va_up (va_up (va_up (fun _ => none) 0 (some (x + 26))) 1 (some (x + 37))) 2 (some (x + 48)))))))), (x + 24, .inr (3, [.ref (x + 25), .int (nI 0), .int (nI 0), .int (nI 0), .int (nI 1), .int (nI 0), .int (nI 0), .int (nI 0), .int (nI 0)])), (x + 25, .inl (y.2.1, 80, .inl (fun _ => 0)))] := hD.sub [0, 1, 2, 3] (by decide) rfl
          have hD := hD2
          have hs1 := hs1.call hk (fun q h1 h2 => blk_dj (i := 1) (by decide) h1 h2) (fun q h => blk_bd (by decide) hbd h)
          have hs12 := hs12.call hk (fun q h1 h2 => blk_dj (i := 12) (by decide) h1 h2) (fun q h => blk_bd (by decide) hbd h)
          have hs26 := hs26.call hk (fun q h1 h2 => blk_dj (i := 26) (by decide) h1 h2) (fun q h => blk_bd (by decide) hbd h)
          have hs37 := hs37.call hk (fun q h1 h2 => blk_dj (i := 37) (by decide) h1 h2) (fun q h => blk_bd (by decide) hbd h)
          have hs48 := hs48.call hk (fun q h1 h2 => blk_dj (i := 48) (by decide) h1 h2) (fun q h => blk_bd (by decide) hbd h)
          have hz : H23.size = x + 70 := hz
          clear hP2 hD2 hz1 hk
          refine y_aast (a := (x + 23)) (k := 5) (f := (va_up (va_up (va_up (fun _ => none) 0 (some (x + 26))) 1 (some (x + 37))) 2 (some (x + 48)))) (i := 3) (v := (x + 59)) hx hb hK rfl (hP 1 _ rfl) (sD_recv hK hs59) (by decide) (by decide) dX4_init_73 (fun H24 hU hV => ?_)
          have hS := hS.upd (x := 3) hU (blk_k (by decide))
          have hP2 := hP.upd (q0 := 1) hD rfl hU hV
          have hP : va_P D vwCl [(x, .inr (4, [.ref (x + 1), .ref (x + 12), .ref (x + 23), .int (nI 0), .ref (x + 24)])), (x + 23, .inl (y.2.2.2.2.2, 4, .inr (.inr (.inr (.inr (va_up (va_up (va_up (va_up (fun _ => none) 0 (some (x + 26))) 1 (some (x + 37))) 2 (some (x + 48))) 3 (some (x + 59)))))))), (x + 24, .inr (3, [.ref (x + 25), .int (nI 0), .int (nI 0), .int (nI 0), .int (nI 1), .int (nI 0), .int (nI 0), .int (nI 0), .int (nI 0)])), (x + 25, .inl (y.2.1, 80, .inl (fun _ => 0)))] H24 := hP2
          have hD : va_D (blk x 70) [(x, .inr (4, [.ref (x + 1), .ref (x + 12), .ref (x + 23), .int (nI 0), .ref (x + 24)])), (x + 23, .inl (y.2.2.2.2.2, 4, .inr (.inr (.inr (.inr (va_up (va_up (va_up (va_up (fun _ => none) 0 (some (x + 26))) 1 (some (x + 37))) 2 (some (x + 48))) 3 (some (x + 59)))))))), (x + 24, .inr (3, [.ref (x + 25), .int (nI 0), .int (nI 0), .int (nI 0), .int (nI 1), .int (nI 0), .int (nI 0), .int (nI 0), .int (nI 0)])), (x + 25, .inl (y.2.1, 80, .inl (fun _ => 0)))] := hD.set (p := 1) rfl
          clear hP2
          have hz := hU.1.trans hz
          have hs1 := hs1.upd hU (Or.inr (Nat.add_le_add_left (show 1 + 11 ≤ 23 by decide) x)) (Nat.lt_of_lt_of_le (Nat.add_lt_add_left (by decide) x) hbd)
          have hs12 := hs12.upd hU (Or.inr (Nat.add_le_add_left (show 12 + 11 ≤ 23 by decide) x)) (Nat.lt_of_lt_of_le (Nat.add_lt_add_left (by decide) x) hbd)
          have hs26 := hs26.upd hU (Or.inl (Nat.add_lt_add_left (by decide) x)) (Nat.lt_of_lt_of_le (Nat.add_lt_add_left (by decide) x) hbd)
          have hs37 := hs37.upd hU (Or.inl (Nat.add_lt_add_left (by decide) x)) (Nat.lt_of_lt_of_le (Nat.add_lt_add_left (by decide) x) hbd)
          have hs48 := hs48.upd hU (Or.inl (Nat.add_lt_add_left (by decide) x)) (Nat.lt_of_lt_of_le (Nat.add_lt_add_left (by decide) x) hbd)
          have hs59 := hs59.upd hU (Or.inl (Nat.add_lt_add_left (by decide) x)) (Nat.lt_of_lt_of_le (Nat.add_lt_add_left (by decide) x) hbd)
          clear hU hV
          refine lv_iinc (v := (nI (0 + 1 + 1 + 1 + 1))) (lv' := [(1, .int (nI (0 + 1 + 1 + 1 + 1))), (0, .ref x)]) hx hb dX4_init_74 hl (k := 0) rfl (in1 _) (by decide) rfl (fun ls hl => ?_)
          refine lv_goto (tgt := 52) hx hb dX4_init_77 (by decide) ?_
          refine lv_iload_n hx hb dX4_init_52 rfl (lv_at hl 0 rfl) ?_
          refine lv_aload_n hx hb dX4_init_53 rfl (lv_at hl 1 rfl) ?_
          refine z_get (fs := [.ref (x + 1), .ref (x + 12), .ref (x + 23), .int (nI 0), .ref (x + 24)]) (ref := "CranePermits") (C := RX4) (T := TX4) (N := 5) (ci := 4) (v := .ref (x + 23)) hx hb hts i_c_X4_init_X4 hown hK (hP 0 _ rfl) 2 (by decide) rfl (hts (.fieldLink RX4 19 "CranePermits" "past" "[LCranePermits$Site;") (List.mem_of_getElem? (i := 9) rfl)) rfl rfl dX4_init_54 ?_
          refine z_alen 5 (n := 4) hx hb hK rfl (hP 1 _ rfl) rfl dX4_init_57 ?_
          refine z_ge (tgt := 80) hx hb (by omega) (by omega) dX4_init_58 (by decide) (fun c58 => ?_) (fun c58 => ?_)
          · exact w_retv hx hb hr hlocks hS (⟨ini_main hP hs1 hs12 hs26 hs37 hs48 hs59, hz⟩) dX4_init_80
          · exact absurd c58 (by decide)
