/-! THE CLASS: helpers, cranes, permits: reading -/
set_option maxRecDepth 100000 in
set_option maxHeartbeats 4000000 in
theorem c_X4_isIn (l : Launch) (D : va_G) (y : zY) (v : Int32) (lo : Int32) (hi : Int32)  : Met l yX4_isIn wsX4_isIn ({ frames := 0, cells := 0, slots := 0, locals := 0 }) (zP [.int v, .int lo, .int hi] zT0 D y) (zQ (some (.int (bI (inB v lo hi))))) 0 0 nofree := by
  refine z_body (cc := cX4_isIn) (maxL := 3) (ret := (some .boolean)) (la := [(0, .int v), (1, .int lo), (2, .int hi)]) (by decide) rfl (Nat.le_of_ble_eq_true rfl) rfl ?_
  intro pg ev s mm below meth c0 ls hx hb hr hF hlocks hΦ hK hl _
  have hts := hF.2.2.2.2
  have hown : s.vm.findClass RX4 = some mm.cls := hF.2.2.2.1
  refine lv_iload_n hx hb dX4_isIn_0 rfl (lv_at hl 0 rfl) ?_
  refine lv_iload_n hx hb dX4_isIn_1 rfl (lv_at hl 1 rfl) ?_
  refine lv_icmp_lt (tgt := 14) hx hb dX4_isIn_2 (by decide) (fun c2 => ?_) (fun c2 => ?_)
  · refine lv_iconst (v := (nI 0)) hx hb dX4_isIn_14 (by decide) ?_
    exact z_retz hx hb hr hlocks rfl (bI_ff (by unfold inB; first | (rw [decide_eq_false (Int32.not_le.mpr c2)]; rfl) | (rw [decide_eq_false (Int32.not_le.mpr c7)]; exact Bool.and_false _))) dX4_isIn_15
  · refine lv_iload_n hx hb dX4_isIn_5 rfl (lv_at hl 0 rfl) ?_
    refine lv_iload_n hx hb dX4_isIn_6 rfl (lv_at hl 2 rfl) ?_
    refine lv_icmp_gt (tgt := 14) hx hb dX4_isIn_7 (by decide) (fun c7 => ?_) (fun c7 => ?_)
    · refine lv_iconst (v := (nI 0)) hx hb dX4_isIn_14 (by decide) ?_
      exact z_retz hx hb hr hlocks rfl (bI_ff (by unfold inB; first | (rw [decide_eq_false (Int32.not_le.mpr c2)]; rfl) | (rw [decide_eq_false (Int32.not_le.mpr c7)]; exact Bool.and_false _))) dX4_isIn_15
    · refine lv_iconst (v := (nI 1)) hx hb dX4_isIn_10 (by decide) ?_
      refine lv_goto (tgt := 15) hx hb dX4_isIn_11 (by decide) ?_
      exact z_retz hx hb hr hlocks rfl (bI_tt (by simp only [inB, Bool.and_eq_true, decide_eq_true_eq]; exact ⟨Int32.not_lt.mp c2, Int32.not_lt.mp c7⟩)) dX4_isIn_15
set_option maxRecDepth 100000 in
set_option maxHeartbeats 4000000 in
theorem c_X4_isCell (l : Launch) (D : va_G) (y : zY) (x : Int32) (z : Int32)  : Met l yX4_isCell wsX4_isCell ({ frames := 1, cells := 0, slots := 0, locals := 22 }) (zP [.int x, .int z] zT0 D y) (zQ (some (.int (bI (inB x (nI 0) (nI 15) && inB z (nI 0) (nI 15)))))) 0 0 nofree := by
  refine z_body (cc := cX4_isCell) (maxL := 2) (ret := (some .boolean)) (la := [(0, .int x), (1, .int z)]) (by decide) rfl (Nat.le_of_ble_eq_true rfl) rfl ?_
  intro pg ev s mm below meth c0 ls hx hb hr hF hlocks hΦ hK hl _
  have hts := hF.2.2.2.2
  have hown : s.vm.findClass RX4 = some mm.cls := hF.2.2.2.1
  refine lv_iload_n hx hb dX4_isCell_0 rfl (lv_at hl 0 rfl) ?_
  refine lv_iconst (v := (nI 0)) hx hb dX4_isCell_1 (by decide) ?_
  refine lv_bipush (v := (nI 15)) hx hb dX4_isCell_2 (by decide) ?_
  refine z_callS (As := [.int x, .int (nI 0), .int (nI 15)]) (rest := []) hF hK (c_X4_isIn l D y x (nI 0) (nI 15) ) (va_cwS 3 hts gX4_isCell_X4_isIn rfl rfl rfl (by decide +kernel) ⟨Nat.le_of_ble_eq_true rfl, Nat.le_of_ble_eq_true rfl⟩) trivial rfl hl.1 rfl (Nat.le_of_ble_eq_true rfl) dX4_isCell_4 ⟨Nat.zero_le _, Nat.zero_le _⟩ ?_
  refine z_ifeq (tgt := 24) hx hb dX4_isCell_7 (by decide) (fun c7 => ?_) (fun c7 => ?_)
  · refine lv_iconst (v := (nI 0)) hx hb dX4_isCell_24 (by decide) ?_
    exact z_retz hx hb hr hlocks rfl (bI_ff (by first | (simp only [c7, if_true, if_false, eq_self, decide_true, decide_false, Bool.and_true, Bool.true_and, Bool.and_false, Bool.false_and, Bool.or_true, Bool.true_or, Bool.or_false, Bool.false_or, Bool.not_true, Bool.not_false, not_true_eq_false, not_false_eq_true, and_true, true_and, and_false, false_and, gt_iff_lt, ge_iff_le, ne_eq, Bool.false_eq_true]; done) | (simp [c7]; done) | (simp_all [c7]; done))) dX4_isCell_25
  · refine lv_iload_n hx hb dX4_isCell_10 rfl (lv_at hl 1 rfl) ?_
    refine lv_iconst (v := (nI 0)) hx hb dX4_isCell_11 (by decide) ?_
    refine lv_bipush (v := (nI 15)) hx hb dX4_isCell_12 (by decide) ?_
    refine z_callS (As := [.int z, .int (nI 0), .int (nI 15)]) (rest := []) hF hK (c_X4_isIn l D y z (nI 0) (nI 15) ) (va_cwS 3 hts gX4_isCell_X4_isIn rfl rfl rfl (by decide +kernel) ⟨Nat.le_of_ble_eq_true rfl, Nat.le_of_ble_eq_true rfl⟩) trivial rfl hl.1 rfl (Nat.le_of_ble_eq_true rfl) dX4_isCell_14 ⟨Nat.zero_le _, Nat.zero_le _⟩ ?_
    refine z_ifeq (tgt := 24) hx hb dX4_isCell_17 (by decide) (fun c17 => ?_) (fun c17 => ?_)
    · refine lv_iconst (v := (nI 0)) hx hb dX4_isCell_24 (by decide) ?_
      exact z_retz hx hb hr hlocks rfl (bI_ff (by first | (simp only [c7, c17, if_true, if_false, eq_self, decide_true, decide_false, Bool.and_true, Bool.true_and, Bool.and_false, Bool.false_and, Bool.or_true, Bool.true_or, Bool.or_false, Bool.false_or, Bool.not_true, Bool.not_false, not_true_eq_false, not_false_eq_true, and_true, true_and, and_false, false_and, gt_iff_lt, ge_iff_le, ne_eq, Bool.false_eq_true]; done) | (simp [c7, c17]; done) | (simp_all [c7, c17]; done))) dX4_isCell_25
    · refine lv_iconst (v := (nI 1)) hx hb dX4_isCell_20 (by decide) ?_
      refine lv_goto (tgt := 25) hx hb dX4_isCell_21 (by decide) ?_
      exact z_retz hx hb hr hlocks rfl (bI_tt (by first | (simp only [c7, c17, if_true, if_false, eq_self, decide_true, decide_false, Bool.and_true, Bool.true_and, Bool.and_false, Bool.false_and, Bool.or_true, Bool.true_or, Bool.or_false, Bool.false_or, Bool.not_true, Bool.not_false, not_true_eq_false, not_false_eq_true, and_true, true_and, and_false, false_and, gt_iff_lt, ge_iff_le, ne_eq, Bool.false_eq_true]; done) | (simp [c7, c17]; done) | (simp_all [c7, c17]; done))) dX4_isCell_25
set_option maxRecDepth 100000 in
set_option maxHeartbeats 4000000 in
theorem c_X4_isStreet (l : Launch) (D : va_G) (y : zY) (n : Int32)  : Met l yX4_isStreet wsX4_isStreet ({ frames := 1, cells := 0, slots := 0, locals := 22 }) (zP [.int n] zT0 D y) (zQ (some (.int (bI (inB n (nI 0) (nI 3)))))) 0 0 nofree := by
  refine z_body (cc := cX4_isStreet) (maxL := 1) (ret := (some .boolean)) (la := [(0, .int n)]) (by decide) rfl (Nat.le_of_ble_eq_true rfl) rfl ?_
  intro pg ev s mm below meth c0 ls hx hb hr hF hlocks hΦ hK hl _
  have hts := hF.2.2.2.2
  have hown : s.vm.findClass RX4 = some mm.cls := hF.2.2.2.1
  refine lv_iload_n hx hb dX4_isStreet_0 rfl (lv_at hl 0 rfl) ?_
  refine lv_iconst (v := (nI 0)) hx hb dX4_isStreet_1 (by decide) ?_
  refine lv_iconst (v := (nI 3)) hx hb dX4_isStreet_2 (by decide) ?_
  refine z_callS (As := [.int n, .int (nI 0), .int (nI 3)]) (rest := []) hF hK (c_X4_isIn l D y n (nI 0) (nI 3) ) (va_cwS 3 hts gX4_isStreet_X4_isIn rfl rfl rfl (by decide +kernel) ⟨Nat.le_of_ble_eq_true rfl, Nat.le_of_ble_eq_true rfl⟩) trivial rfl hl.1 rfl (Nat.le_of_ble_eq_true rfl) dX4_isStreet_3 ⟨Nat.zero_le _, Nat.zero_le _⟩ ?_
  exact z_retz hx hb hr hlocks rfl (rfl) dX4_isStreet_6
set_option maxRecDepth 100000 in
set_option maxHeartbeats 4000000 in
theorem c_X4_isNight (l : Launch) (D : va_G) (y : zY) (n : Int32)  : Met l yX4_isNight wsX4_isNight ({ frames := 1, cells := 0, slots := 0, locals := 22 }) (zP [.int n] zT0 D y) (zQ (some (.int (bI (inB n (nI 0) (nI 29)))))) 0 0 nofree := by
  refine z_body (cc := cX4_isNight) (maxL := 1) (ret := (some .boolean)) (la := [(0, .int n)]) (by decide) rfl (Nat.le_of_ble_eq_true rfl) rfl ?_
  intro pg ev s mm below meth c0 ls hx hb hr hF hlocks hΦ hK hl _
  have hts := hF.2.2.2.2
  have hown : s.vm.findClass RX4 = some mm.cls := hF.2.2.2.1
  refine lv_iload_n hx hb dX4_isNight_0 rfl (lv_at hl 0 rfl) ?_
  refine lv_iconst (v := (nI 0)) hx hb dX4_isNight_1 (by decide) ?_
  refine lv_bipush (v := (nI 29)) hx hb dX4_isNight_2 (by decide) ?_
  refine z_callS (As := [.int n, .int (nI 0), .int (nI 29)]) (rest := []) hF hK (c_X4_isIn l D y n (nI 0) (nI 29) ) (va_cwS 3 hts gX4_isNight_X4_isIn rfl rfl rfl (by decide +kernel) ⟨Nat.le_of_ble_eq_true rfl, Nat.le_of_ble_eq_true rfl⟩) trivial rfl hl.1 rfl (Nat.le_of_ble_eq_true rfl) dX4_isNight_4 ⟨Nat.zero_le _, Nat.zero_le _⟩ ?_
  exact z_retz hx hb hr hlocks rfl (rfl) dX4_isNight_7
set_option maxRecDepth 100000 in
set_option maxHeartbeats 4000000 in
theorem c_X4_isSwing (l : Launch) (D : va_G) (y : zY) (n : Int32)  : Met l yX4_isSwing wsX4_isSwing ({ frames := 1, cells := 0, slots := 0, locals := 22 }) (zP [.int n] zT0 D y) (zQ (some (.int (bI (inB n (nI 1) (nI 255)))))) 0 0 nofree := by
  refine z_body (cc := cX4_isSwing) (maxL := 1) (ret := (some .boolean)) (la := [(0, .int n)]) (by decide) rfl (Nat.le_of_ble_eq_true rfl) rfl ?_
  intro pg ev s mm below meth c0 ls hx hb hr hF hlocks hΦ hK hl _
  have hts := hF.2.2.2.2
  have hown : s.vm.findClass RX4 = some mm.cls := hF.2.2.2.1
  refine lv_iload_n hx hb dX4_isSwing_0 rfl (lv_at hl 0 rfl) ?_
  refine lv_iconst (v := (nI 1)) hx hb dX4_isSwing_1 (by decide) ?_
  refine lv_sipush (v := (nI 255)) hx hb dX4_isSwing_2 (by decide) ?_
  refine z_callS (As := [.int n, .int (nI 1), .int (nI 255)]) (rest := []) hF hK (c_X4_isIn l D y n (nI 1) (nI 255) ) (va_cwS 3 hts gX4_isSwing_X4_isIn rfl rfl rfl (by decide +kernel) ⟨Nat.le_of_ble_eq_true rfl, Nat.le_of_ble_eq_true rfl⟩) trivial rfl hl.1 rfl (Nat.le_of_ble_eq_true rfl) dX4_isSwing_5 ⟨Nat.zero_le _, Nat.zero_le _⟩ ?_
  exact z_retz hx hb hr hlocks rfl (rfl) dX4_isSwing_8
set_option maxRecDepth 100000 in
set_option maxHeartbeats 4000000 in
theorem c_X4_isPlan (l : Launch) (D : va_G) (y : zY) (n : Int32) (h : Int32) (sw : Int32)  : Met l yX4_isPlan wsX4_isPlan ({ frames := 2, cells := 0, slots := 0, locals := 42 }) (zP [.int n, .int h, .int sw] zT0 D y) (zQ (some (.int (bI (planB n h sw))))) 0 0 nofree := by
  refine z_body (cc := cX4_isPlan) (maxL := 3) (ret := (some .boolean)) (la := [(0, .int n), (1, .int h), (2, .int sw)]) (by decide) rfl (Nat.le_of_ble_eq_true rfl) rfl ?_
  intro pg ev s mm below meth c0 ls hx hb hr hF hlocks hΦ hK hl _
  have hts := hF.2.2.2.2
  have hown : s.vm.findClass RX4 = some mm.cls := hF.2.2.2.1
  refine lv_iload_n hx hb dX4_isPlan_0 rfl (lv_at hl 0 rfl) ?_
  refine z_callS (As := [.int n]) (rest := []) hF hK (c_X4_isNight l D y n ) (va_cwS 1 hts gX4_isPlan_X4_isNight rfl rfl rfl (by decide +kernel) ⟨Nat.le_of_ble_eq_true rfl, Nat.le_of_ble_eq_true rfl⟩) trivial rfl hl.1 rfl (Nat.le_of_ble_eq_true rfl) dX4_isPlan_1 ⟨Nat.zero_le _, Nat.zero_le _⟩ ?_
  refine z_ifeq (tgt := 39) hx hb dX4_isPlan_4 (by decide) (fun c4 => ?_) (fun c4 => ?_)
  · refine lv_iconst (v := (nI 0)) hx hb dX4_isPlan_39 (by decide) ?_
    exact z_retz hx hb hr hlocks rfl (bI_ff (by first | (simp only [planB, ahrB, c4, if_true, if_false, eq_self, decide_true, decide_false, Bool.and_true, Bool.true_and, Bool.and_false, Bool.false_and, Bool.or_true, Bool.true_or, Bool.or_false, Bool.false_or, Bool.not_true, Bool.not_false, not_true_eq_false, not_false_eq_true, and_true, true_and, and_false, false_and, gt_iff_lt, ge_iff_le, ne_eq, Bool.false_eq_true]; done) | (simp [planB, ahrB, c4]; done) | (simp_all [planB, ahrB, c4]; done))) dX4_isPlan_40
  · refine lv_iload_n hx hb dX4_isPlan_7 rfl (lv_at hl 1 rfl) ?_
    refine lv_iconst (v := (nI 0)) hx hb dX4_isPlan_8 (by decide) ?_
    refine lv_bipush (v := (nI 99)) hx hb dX4_isPlan_9 (by decide) ?_
    refine z_callS (As := [.int h, .int (nI 0), .int (nI 99)]) (rest := []) hF hK (c_X4_isIn l D y h (nI 0) (nI 99) ) (va_cwS 3 hts gX4_isPlan_X4_isIn rfl rfl rfl (by decide +kernel) ⟨Nat.le_of_ble_eq_true rfl, Nat.le_of_ble_eq_true rfl⟩) trivial rfl hl.1 rfl (Nat.le_of_ble_eq_true rfl) dX4_isPlan_11 ⟨Nat.zero_le _, Nat.zero_le _⟩ ?_
    refine z_ifeq (tgt := 39) hx hb dX4_isPlan_14 (by decide) (fun c14 => ?_) (fun c14 => ?_)
    · refine lv_iconst (v := (nI 0)) hx hb dX4_isPlan_39 (by decide) ?_
      exact z_retz hx hb hr hlocks rfl (bI_ff (by first | (simp only [planB, ahrB, c4, c14, if_true, if_false, eq_self, decide_true, decide_false, Bool.and_true, Bool.true_and, Bool.and_false, Bool.false_and, Bool.or_true, Bool.true_or, Bool.or_false, Bool.false_or, Bool.not_true, Bool.not_false, not_true_eq_false, not_false_eq_true, and_true, true_and, and_false, false_and, gt_iff_lt, ge_iff_le, ne_eq, Bool.false_eq_true]; done) | (simp [planB, ahrB, c4, c14]; done) | (simp_all [planB, ahrB, c4, c14]; done))) dX4_isPlan_40
    · refine lv_iload_n hx hb dX4_isPlan_17 rfl (lv_at hl 1 rfl) ?_
      refine lv_bipush (v := (nI 10)) hx hb dX4_isPlan_18 (by decide) ?_
      refine lv_idiv hx hb dX4_isPlan_20 (by decide) ?_
      refine lv_iload_n hx hb dX4_isPlan_21 rfl (lv_at hl 1 rfl) ?_
      refine lv_bipush (v := (nI 10)) hx hb dX4_isPlan_22 (by decide) ?_
      refine lv_irem hx hb dX4_isPlan_24 (by decide) ?_
      refine lv_icmp_gt (tgt := 39) hx hb dX4_isPlan_25 (by decide) (fun c25 => ?_) (fun c25 => ?_)
      · refine lv_iconst (v := (nI 0)) hx hb dX4_isPlan_39 (by decide) ?_
        exact z_retz hx hb hr hlocks rfl (bI_ff (by first | (simp only [planB, ahrB, c4, c14, c25, if_true, if_false, eq_self, decide_true, decide_false, Bool.and_true, Bool.true_and, Bool.and_false, Bool.false_and, Bool.or_true, Bool.true_or, Bool.or_false, Bool.false_or, Bool.not_true, Bool.not_false, not_true_eq_false, not_false_eq_true, and_true, true_and, and_false, false_and, gt_iff_lt, ge_iff_le, ne_eq, Bool.false_eq_true]; done) | (simp [planB, ahrB, c4, c14, c25]; done) | (simp_all [planB, ahrB, c4, c14, c25]; done))) dX4_isPlan_40
      · refine lv_iload_n hx hb dX4_isPlan_28 rfl (lv_at hl 2 rfl) ?_
        refine z_callS (As := [.int sw]) (rest := []) hF hK (c_X4_isSwing l D y sw ) (va_cwS 1 hts gX4_isPlan_X4_isSwing rfl rfl rfl (by decide +kernel) ⟨Nat.le_of_ble_eq_true rfl, Nat.le_of_ble_eq_true rfl⟩) trivial rfl hl.1 rfl (Nat.le_of_ble_eq_true rfl) dX4_isPlan_29 ⟨Nat.zero_le _, Nat.zero_le _⟩ ?_
        refine z_ifeq (tgt := 39) hx hb dX4_isPlan_32 (by decide) (fun c32 => ?_) (fun c32 => ?_)
        · refine lv_iconst (v := (nI 0)) hx hb dX4_isPlan_39 (by decide) ?_
          exact z_retz hx hb hr hlocks rfl (bI_ff (by first | (simp only [planB, ahrB, c4, c14, c25, c32, if_true, if_false, eq_self, decide_true, decide_false, Bool.and_true, Bool.true_and, Bool.and_false, Bool.false_and, Bool.or_true, Bool.true_or, Bool.or_false, Bool.false_or, Bool.not_true, Bool.not_false, not_true_eq_false, not_false_eq_true, and_true, true_and, and_false, false_and, gt_iff_lt, ge_iff_le, ne_eq, Bool.false_eq_true]; done) | (simp [planB, ahrB, c4, c14, c25, c32]; done) | (simp_all [planB, ahrB, c4, c14, c25, c32]; done))) dX4_isPlan_40
        · refine lv_iconst (v := (nI 1)) hx hb dX4_isPlan_35 (by decide) ?_
          refine lv_goto (tgt := 40) hx hb dX4_isPlan_36 (by decide) ?_
          exact z_retz hx hb hr hlocks rfl (bI_tt (by first | (simp only [planB, ahrB, c4, c14, c25, c32, if_true, if_false, eq_self, decide_true, decide_false, Bool.and_true, Bool.true_and, Bool.and_false, Bool.false_and, Bool.or_true, Bool.true_or, Bool.or_false, Bool.false_or, Bool.not_true, Bool.not_false, not_true_eq_false, not_false_eq_true, and_true, true_and, and_false, false_and, gt_iff_lt, ge_iff_le, ne_eq, Bool.false_eq_true]; done) | (simp [planB, ahrB, c4, c14, c25, c32]; done) | (simp_all [planB, ahrB, c4, c14, c25, c32]; done))) dX4_isPlan_40
set_option maxRecDepth 100000 in
set_option maxHeartbeats 4000000 in
theorem c_X4_streetNight (l : Launch) (D : va_G) (y : zY) (st : Nat) (n : Nat)  : Met l yX4_streetNight wsX4_streetNight ({ frames := 0, cells := 0, slots := 0, locals := 0 }) (zP [.int (nI st), .int (nI n)] zT0 D y) (zQ (some (.int (nI (30 * st + n))))) 0 0 nofree := by
  refine z_body (cc := cX4_streetNight) (maxL := 2) (ret := (some .int)) (la := [(0, .int (nI st)), (1, .int (nI n))]) (by decide) rfl (Nat.le_of_ble_eq_true rfl) rfl ?_
  intro pg ev s mm below meth c0 ls hx hb hr hF hlocks hΦ hK hl _
  have hts := hF.2.2.2.2
  have hown : s.vm.findClass RX4 = some mm.cls := hF.2.2.2.1
  refine lv_bipush (v := (nI 30)) hx hb dX4_streetNight_0 (by decide) ?_
  refine lv_iload_n hx hb dX4_streetNight_2 rfl (lv_at hl 0 rfl) ?_
  refine z_imul hx hb dX4_streetNight_3 ?_
  refine lv_iload_n hx hb dX4_streetNight_4 rfl (lv_at hl 1 rfl) ?_
  refine z_iadd hx hb dX4_streetNight_5 ?_
  exact z_reti hx hb hr hlocks rfl (rfl) dX4_streetNight_6
set_option maxRecDepth 100000 in
set_option maxHeartbeats 4000000 in
theorem c_X4_at (l : Launch) (D : va_G) (y : zY) (r : Nat) (n : Nat) (f : Nat → Int32) (i : Nat) (hi : i < n) (hn : n < 2147483648) : Met l yX4_at wsX4_at ({ frames := 0, cells := 0, slots := 0, locals := 0 }) (zP [.ref r, .int (nI i)] (fun H => va_at D vwCl (r, .inl (y.1, n, .inl f)) H) D y) (zQ (some (.int (f i)))) 0 0 nofree := by
  refine z_body (cc := cX4_at) (maxL := 2) (ret := (some .int)) (la := [(0, .ref r), (1, .int (nI i))]) (by decide) rfl (Nat.le_of_ble_eq_true rfl) rfl ?_
  intro pg ev s mm below meth c0 ls hx hb hr hF hlocks hΦ hK hl _
  have hts := hF.2.2.2.2
  have hown : s.vm.findClass RX4 = some mm.cls := hF.2.2.2.1
  refine lv_iload_n hx hb dX4_at_0 rfl (lv_at hl 1 rfl) ?_
  refine n_if_lt (tgt := 16) hx hb (by omega) dX4_at_1 (by decide) ?_
  refine lv_iload_n hx hb dX4_at_4 rfl (lv_at hl 1 rfl) ?_
  refine lv_aload_n hx hb dX4_at_5 rfl (lv_at hl 0 rfl) ?_
  refine z_alen 0 hx hb hK rfl hΦ rfl dX4_at_6 ?_
  refine z_ge (tgt := 16) hx hb (by omega) (by omega) dX4_at_7 (by decide) (fun c7 => ?_) (fun c7 => ?_)
  · exact absurd c7 (by omega)
  · refine lv_aload_n hx hb dX4_at_10 rfl (lv_at hl 0 rfl) ?_
    refine lv_iload_n hx hb dX4_at_11 rfl (lv_at hl 1 rfl) ?_
    refine z_iald (f := f) hx hb hK hΦ (by omega) (by omega) dX4_at_12 ?_
    refine lv_goto (tgt := 17) hx hb dX4_at_13 (by decide) ?_
    exact z_reti hx hb hr hlocks rfl (rfl) dX4_at_17
set_option maxRecDepth 100000 in
set_option maxHeartbeats 4000000 in
theorem c_X0_directionOf (l : Launch) (D : va_G) (y : zY) (dx : Int32) (dy : Int32)  : Met l yX0_directionOf wsX0_directionOf ({ frames := 0, cells := 0, slots := 0, locals := 0 }) (zP [.int dx, .int dy] zT0 D y) (zQ (some (.int (dirC dx dy)))) 0 0 nofree := by
  refine z_body (cc := cX0_directionOf) (maxL := 2) (ret := (some .int)) (la := [(0, .int dx), (1, .int dy)]) (by decide) rfl (Nat.le_of_ble_eq_true rfl) rfl ?_
  intro pg ev s mm below meth c0 ls hx hb hr hF hlocks hΦ hK hl _
  have hts := hF.2.2.2.2
  have hown : s.vm.findClass RX0 = some mm.cls := hF.2.2.2.1
  refine lv_iload_n hx hb dX0_directionOf_0 rfl (lv_at hl 0 rfl) ?_
  refine lv_if_le (tgt := 19) hx hb dX0_directionOf_1 (by decide) (fun c1 => ?_) (fun c1 => ?_)
  · refine lv_iload_n hx hb dX0_directionOf_19 rfl (lv_at hl 1 rfl) ?_
    refine lv_if_le (tgt := 35) hx hb dX0_directionOf_20 (by decide) (fun c20 => ?_) (fun c20 => ?_)
    · refine lv_iload_n hx hb dX0_directionOf_35 rfl (lv_at hl 0 rfl) ?_
      refine lv_if_ge (tgt := 52) hx hb dX0_directionOf_36 (by decide) (fun c36 => ?_) (fun c36 => ?_)
      · refine lv_iload_n hx hb dX0_directionOf_52 rfl (lv_at hl 0 rfl) ?_
        refine lv_iload_n hx hb dX0_directionOf_53 rfl (lv_at hl 1 rfl) ?_
        refine lv_ineg hx hb dX0_directionOf_54 ?_
        refine lv_icmp_ge (tgt := 63) hx hb dX0_directionOf_55 (by decide) (fun c55 => ?_) (fun c55 => ?_)
        · refine lv_bipush (v := (nI 7)) hx hb dX0_directionOf_63 (by decide) ?_
          exact z_reti hx hb hr hlocks rfl (by first | (simp only [dirC, c1, c20, c36, c55, if_true, if_false, eq_self, decide_true, decide_false, Bool.and_true, Bool.true_and, Bool.and_false, Bool.false_and, Bool.or_true, Bool.true_or, Bool.or_false, Bool.false_or, Bool.not_true, Bool.not_false, not_true_eq_false, not_false_eq_true, and_true, true_and, and_false, false_and, gt_iff_lt, ge_iff_le, ne_eq, Bool.false_eq_true]; done) | (simp [dirC, c1, c20, c36, c55]; done) | (simp_all [dirC, c1, c20, c36, c55]; done)) dX0_directionOf_65
        · refine lv_bipush (v := (nI 6)) hx hb dX0_directionOf_58 (by decide) ?_
          refine lv_goto (tgt := 65) hx hb dX0_directionOf_60 (by decide) ?_
          exact z_reti hx hb hr hlocks rfl (by first | (simp only [dirC, c1, c20, c36, c55, if_true, if_false, eq_self, decide_true, decide_false, Bool.and_true, Bool.true_and, Bool.and_false, Bool.false_and, Bool.or_true, Bool.true_or, Bool.or_false, Bool.false_or, Bool.not_true, Bool.not_false, not_true_eq_false, not_false_eq_true, and_true, true_and, and_false, false_and, gt_iff_lt, ge_iff_le, ne_eq, Bool.false_eq_true]; done) | (simp [dirC, c1, c20, c36, c55]; done) | (simp_all [dirC, c1, c20, c36, c55]; done)) dX0_directionOf_65
      · refine lv_iload_n hx hb dX0_directionOf_39 rfl (lv_at hl 1 rfl) ?_
        refine lv_ineg hx hb dX0_directionOf_40 ?_
        refine lv_iload_n hx hb dX0_directionOf_41 rfl (lv_at hl 0 rfl) ?_
        refine lv_ineg hx hb dX0_directionOf_42 ?_
        refine lv_icmp_ge (tgt := 50) hx hb dX0_directionOf_43 (by decide) (fun c43 => ?_) (fun c43 => ?_)
        · refine lv_iconst (v := (nI 5)) hx hb dX0_directionOf_50 (by decide) ?_
          exact z_reti hx hb hr hlocks rfl (by first | (simp only [dirC, c1, c20, c36, c43, if_true, if_false, eq_self, decide_true, decide_false, Bool.and_true, Bool.true_and, Bool.and_false, Bool.false_and, Bool.or_true, Bool.true_or, Bool.or_false, Bool.false_or, Bool.not_true, Bool.not_false, not_true_eq_false, not_false_eq_true, and_true, true_and, and_false, false_and, gt_iff_lt, ge_iff_le, ne_eq, Bool.false_eq_true]; done) | (simp [dirC, c1, c20, c36, c43]; done) | (simp_all [dirC, c1, c20, c36, c43]; done)) dX0_directionOf_51
        · refine lv_iconst (v := (nI 4)) hx hb dX0_directionOf_46 (by decide) ?_
          refine lv_goto (tgt := 51) hx hb dX0_directionOf_47 (by decide) ?_
          exact z_reti hx hb hr hlocks rfl (by first | (simp only [dirC, c1, c20, c36, c43, if_true, if_false, eq_self, decide_true, decide_false, Bool.and_true, Bool.true_and, Bool.and_false, Bool.false_and, Bool.or_true, Bool.true_or, Bool.or_false, Bool.false_or, Bool.not_true, Bool.not_false, not_true_eq_false, not_false_eq_true, and_true, true_and, and_false, false_and, gt_iff_lt, ge_iff_le, ne_eq, Bool.false_eq_true]; done) | (simp [dirC, c1, c20, c36, c43]; done) | (simp_all [dirC, c1, c20, c36, c43]; done)) dX0_directionOf_51
    · refine lv_iload_n hx hb dX0_directionOf_23 rfl (lv_at hl 0 rfl) ?_
      refine lv_ineg hx hb dX0_directionOf_24 ?_
      refine lv_iload_n hx hb dX0_directionOf_25 rfl (lv_at hl 1 rfl) ?_
      refine lv_icmp_ge (tgt := 33) hx hb dX0_directionOf_26 (by decide) (fun c26 => ?_) (fun c26 => ?_)
      · refine lv_iconst (v := (nI 3)) hx hb dX0_directionOf_33 (by decide) ?_
        exact z_reti hx hb hr hlocks rfl (by first | (simp only [dirC, c1, c20, c26, if_true, if_false, eq_self, decide_true, decide_false, Bool.and_true, Bool.true_and, Bool.and_false, Bool.false_and, Bool.or_true, Bool.true_or, Bool.or_false, Bool.false_or, Bool.not_true, Bool.not_false, not_true_eq_false, not_false_eq_true, and_true, true_and, and_false, false_and, gt_iff_lt, ge_iff_le, ne_eq, Bool.false_eq_true]; done) | (simp [dirC, c1, c20, c26]; done) | (simp_all [dirC, c1, c20, c26]; done)) dX0_directionOf_34
      · refine lv_iconst (v := (nI 2)) hx hb dX0_directionOf_29 (by decide) ?_
        refine lv_goto (tgt := 34) hx hb dX0_directionOf_30 (by decide) ?_
        exact z_reti hx hb hr hlocks rfl (by first | (simp only [dirC, c1, c20, c26, if_true, if_false, eq_self, decide_true, decide_false, Bool.and_true, Bool.true_and, Bool.and_false, Bool.false_and, Bool.or_true, Bool.true_or, Bool.or_false, Bool.false_or, Bool.not_true, Bool.not_false, not_true_eq_false, not_false_eq_true, and_true, true_and, and_false, false_and, gt_iff_lt, ge_iff_le, ne_eq, Bool.false_eq_true]; done) | (simp [dirC, c1, c20, c26]; done) | (simp_all [dirC, c1, c20, c26]; done)) dX0_directionOf_34
  · refine lv_iload_n hx hb dX0_directionOf_4 rfl (lv_at hl 1 rfl) ?_
    refine lv_if_lt (tgt := 19) hx hb dX0_directionOf_5 (by decide) (fun c5 => ?_) (fun c5 => ?_)
    · refine lv_iload_n hx hb dX0_directionOf_19 rfl (lv_at hl 1 rfl) ?_
      refine lv_if_le (tgt := 35) hx hb dX0_directionOf_20 (by decide) (fun c20 => ?_) (fun c20 => ?_)
      · refine lv_iload_n hx hb dX0_directionOf_35 rfl (lv_at hl 0 rfl) ?_
        refine lv_if_ge (tgt := 52) hx hb dX0_directionOf_36 (by decide) (fun c36 => ?_) (fun c36 => ?_)
        · refine lv_iload_n hx hb dX0_directionOf_52 rfl (lv_at hl 0 rfl) ?_
          refine lv_iload_n hx hb dX0_directionOf_53 rfl (lv_at hl 1 rfl) ?_
          refine lv_ineg hx hb dX0_directionOf_54 ?_
          refine lv_icmp_ge (tgt := 63) hx hb dX0_directionOf_55 (by decide) (fun c55 => ?_) (fun c55 => ?_)
          · refine lv_bipush (v := (nI 7)) hx hb dX0_directionOf_63 (by decide) ?_
            exact z_reti hx hb hr hlocks rfl (by first | (simp only [dirC, c1, c5, c20, c36, c55, if_true, if_false, eq_self, decide_true, decide_false, Bool.and_true, Bool.true_and, Bool.and_false, Bool.false_and, Bool.or_true, Bool.true_or, Bool.or_false, Bool.false_or, Bool.not_true, Bool.not_false, not_true_eq_false, not_false_eq_true, and_true, true_and, and_false, false_and, gt_iff_lt, ge_iff_le, ne_eq, Bool.false_eq_true]; done) | (simp [dirC, c1, c5, c20, c36, c55]; done) | (simp_all [dirC, c1, c5, c20, c36, c55]; done)) dX0_directionOf_65
          · refine lv_bipush (v := (nI 6)) hx hb dX0_directionOf_58 (by decide) ?_
            refine lv_goto (tgt := 65) hx hb dX0_directionOf_60 (by decide) ?_
            exact z_reti hx hb hr hlocks rfl (by first | (simp only [dirC, c1, c5, c20, c36, c55, if_true, if_false, eq_self, decide_true, decide_false, Bool.and_true, Bool.true_and, Bool.and_false, Bool.false_and, Bool.or_true, Bool.true_or, Bool.or_false, Bool.false_or, Bool.not_true, Bool.not_false, not_true_eq_false, not_false_eq_true, and_true, true_and, and_false, false_and, gt_iff_lt, ge_iff_le, ne_eq, Bool.false_eq_true]; done) | (simp [dirC, c1, c5, c20, c36, c55]; done) | (simp_all [dirC, c1, c5, c20, c36, c55]; done)) dX0_directionOf_65
        · refine lv_iload_n hx hb dX0_directionOf_39 rfl (lv_at hl 1 rfl) ?_
          refine lv_ineg hx hb dX0_directionOf_40 ?_
          refine lv_iload_n hx hb dX0_directionOf_41 rfl (lv_at hl 0 rfl) ?_
          refine lv_ineg hx hb dX0_directionOf_42 ?_
          refine lv_icmp_ge (tgt := 50) hx hb dX0_directionOf_43 (by decide) (fun c43 => ?_) (fun c43 => ?_)
          · refine lv_iconst (v := (nI 5)) hx hb dX0_directionOf_50 (by decide) ?_
            exact z_reti hx hb hr hlocks rfl (by first | (simp only [dirC, c1, c5, c20, c36, c43, if_true, if_false, eq_self, decide_true, decide_false, Bool.and_true, Bool.true_and, Bool.and_false, Bool.false_and, Bool.or_true, Bool.true_or, Bool.or_false, Bool.false_or, Bool.not_true, Bool.not_false, not_true_eq_false, not_false_eq_true, and_true, true_and, and_false, false_and, gt_iff_lt, ge_iff_le, ne_eq, Bool.false_eq_true]; done) | (simp [dirC, c1, c5, c20, c36, c43]; done) | (simp_all [dirC, c1, c5, c20, c36, c43]; done)) dX0_directionOf_51
          · refine lv_iconst (v := (nI 4)) hx hb dX0_directionOf_46 (by decide) ?_
            refine lv_goto (tgt := 51) hx hb dX0_directionOf_47 (by decide) ?_
            exact z_reti hx hb hr hlocks rfl (by first | (simp only [dirC, c1, c5, c20, c36, c43, if_true, if_false, eq_self, decide_true, decide_false, Bool.and_true, Bool.true_and, Bool.and_false, Bool.false_and, Bool.or_true, Bool.true_or, Bool.or_false, Bool.false_or, Bool.not_true, Bool.not_false, not_true_eq_false, not_false_eq_true, and_true, true_and, and_false, false_and, gt_iff_lt, ge_iff_le, ne_eq, Bool.false_eq_true]; done) | (simp [dirC, c1, c5, c20, c36, c43]; done) | (simp_all [dirC, c1, c5, c20, c36, c43]; done)) dX0_directionOf_51
      · refine lv_iload_n hx hb dX0_directionOf_23 rfl (lv_at hl 0 rfl) ?_
        refine lv_ineg hx hb dX0_directionOf_24 ?_
        refine lv_iload_n hx hb dX0_directionOf_25 rfl (lv_at hl 1 rfl) ?_
        refine lv_icmp_ge (tgt := 33) hx hb dX0_directionOf_26 (by decide) (fun c26 => ?_) (fun c26 => ?_)
        · refine lv_iconst (v := (nI 3)) hx hb dX0_directionOf_33 (by decide) ?_
          exact z_reti hx hb hr hlocks rfl (by first | (simp only [dirC, c1, c5, c20, c26, if_true, if_false, eq_self, decide_true, decide_false, Bool.and_true, Bool.true_and, Bool.and_false, Bool.false_and, Bool.or_true, Bool.true_or, Bool.or_false, Bool.false_or, Bool.not_true, Bool.not_false, not_true_eq_false, not_false_eq_true, and_true, true_and, and_false, false_and, gt_iff_lt, ge_iff_le, ne_eq, Bool.false_eq_true]; done) | (simp [dirC, c1, c5, c20, c26]; done) | (simp_all [dirC, c1, c5, c20, c26]; done)) dX0_directionOf_34
        · refine lv_iconst (v := (nI 2)) hx hb dX0_directionOf_29 (by decide) ?_
          refine lv_goto (tgt := 34) hx hb dX0_directionOf_30 (by decide) ?_
          exact z_reti hx hb hr hlocks rfl (by first | (simp only [dirC, c1, c5, c20, c26, if_true, if_false, eq_self, decide_true, decide_false, Bool.and_true, Bool.true_and, Bool.and_false, Bool.false_and, Bool.or_true, Bool.true_or, Bool.or_false, Bool.false_or, Bool.not_true, Bool.not_false, not_true_eq_false, not_false_eq_true, and_true, true_and, and_false, false_and, gt_iff_lt, ge_iff_le, ne_eq, Bool.false_eq_true]; done) | (simp [dirC, c1, c5, c20, c26]; done) | (simp_all [dirC, c1, c5, c20, c26]; done)) dX0_directionOf_34
    · refine lv_iload_n hx hb dX0_directionOf_8 rfl (lv_at hl 1 rfl) ?_
      refine lv_iload_n hx hb dX0_directionOf_9 rfl (lv_at hl 0 rfl) ?_
      refine lv_icmp_ge (tgt := 17) hx hb dX0_directionOf_10 (by decide) (fun c10 => ?_) (fun c10 => ?_)
      · refine lv_iconst (v := (nI 1)) hx hb dX0_directionOf_17 (by decide) ?_
        exact z_reti hx hb hr hlocks rfl (by first | (simp only [dirC, c1, c5, c10, if_true, if_false, eq_self, decide_true, decide_false, Bool.and_true, Bool.true_and, Bool.and_false, Bool.false_and, Bool.or_true, Bool.true_or, Bool.or_false, Bool.false_or, Bool.not_true, Bool.not_false, not_true_eq_false, not_false_eq_true, and_true, true_and, and_false, false_and, gt_iff_lt, ge_iff_le, ne_eq, Bool.false_eq_true]; done) | (simp [dirC, c1, c5, c10]; done) | (simp_all [dirC, c1, c5, c10]; done)) dX0_directionOf_18
      · refine lv_iconst (v := (nI 0)) hx hb dX0_directionOf_13 (by decide) ?_
        refine lv_goto (tgt := 18) hx hb dX0_directionOf_14 (by decide) ?_
        exact z_reti hx hb hr hlocks rfl (by first | (simp only [dirC, c1, c5, c10, if_true, if_false, eq_self, decide_true, decide_false, Bool.and_true, Bool.true_and, Bool.and_false, Bool.false_and, Bool.or_true, Bool.true_or, Bool.or_false, Bool.false_or, Bool.not_true, Bool.not_false, not_true_eq_false, not_false_eq_true, and_true, true_and, and_false, false_and, gt_iff_lt, ge_iff_le, ne_eq, Bool.false_eq_true]; done) | (simp [dirC, c1, c5, c10]; done) | (simp_all [dirC, c1, c5, c10]; done)) dX0_directionOf_18
theorem i_c_X0_airOf_X0 : ∀ w ∈ wsX00, w ∈ wsX0_airOf := fun w h => (List.mem_cons_of_mem _ (List.mem_append_right _ h))
set_option maxRecDepth 100000 in
set_option maxHeartbeats 4000000 in
theorem c_X0_airOf (l : Launch) (D : va_G) (y : zY) (q : Nat) (c : Nat) (d : Nat → Int32) (sw : Int32) (u : Nat) (hu : u < 4) : Met l yX0_airOf wsX0_airOf ({ frames := 0, cells := 0, slots := 0, locals := 0 }) (zP [.ref q, .int sw, .int (nI u)] (fun H => crA D y q c d H) D y) (zQ (some (.long (airS (eiF d c) sw u 8)))) 0 0 nofree := by
  refine z_body (cc := cX0_airOf) (maxL := 8) (ret := (some .long)) (la := [(0, .ref q), (1, .int sw), (2, .int (nI u))]) (by decide) rfl (Nat.le_of_ble_eq_true rfl) rfl ?_
  intro pg ev s mm below meth c0 ls hx hb hr hF hlocks hΦ hK hl _
  have hts := hF.2.2.2.2
  have hown : s.vm.findClass RX0 = some mm.cls := hF.2.2.2.1
  refine lv_lconst (v := 0) hx hb dX0_airOf_0 (by decide) ?_
  refine lv_lstore_n (lv' := [(3, .long (0)), (0, .ref q), (1, .int sw), (2, .int (nI u))]) hx hb dX0_airOf_1 rfl hl (by decide) rfl (fun ls hl => ?_)
  refine lv_iconst (v := (nI 0)) hx hb dX0_airOf_2 (by decide) ?_
  refine lv_istore (lv' := [(5, .int (nI 0)), (3, .long (0)), (0, .ref q), (1, .int sw), (2, .int (nI u))]) hx hb dX0_airOf_3 hl (by decide) rfl (fun ls hl => ?_)
  have hl := lv_repl (l' := [(5, .int (nI 0)), (3, .long (airS (eiF d c) sw u 0)), (0, .ref q), (1, .int sw), (2, .int (nI u))]) hl 1 rfl (congrArg Value.long (show (0) = airS (eiF d c) sw u 0 from rfl)) rfl
  refine z_loop (S := Nat) (nL := 8) (fun (i : Nat) => 8 - i) (fun (i : Nat) => [(5, .int (nI i)), (3, .long (airS (eiF d c) sw u i)), (0, .ref q), (1, .int sw), (2, .int (nI u))]) (fun (i : Nat) => i ≤ 8) 0 (by omega) (lv_sub hl [0, 1, 2, 3, 4] rfl) ?_
  clear hl
  rintro i ls hI_5 hl ih_5
  have hi := hI_5
  refine lv_iload hx hb dX0_airOf_5 (lv_at hl 0 rfl) ?_
  refine lv_bipush (v := (nI 8)) hx hb dX0_airOf_7 (by decide) ?_
  refine z_ge (tgt := 72) hx hb (by omega) (by omega) dX0_airOf_9 (by decide) (fun c9 => ?_) (fun c9 => ?_)
  · refine lv_lload_n hx hb dX0_airOf_72 rfl (lv_at hl 1 rfl) ?_
    exact z_retl hx hb hr hlocks rfl (by rw [show i = 8 by omega]) dX0_airOf_73
  · refine lv_iconst (v := (nI 4)) hx hb dX0_airOf_12 (by decide) ?_
    refine lv_iload hx hb dX0_airOf_13 (lv_at hl 0 rfl) ?_
    refine z_imul hx hb dX0_airOf_15 ?_
    refine lv_iload_n hx hb dX0_airOf_16 rfl (lv_at hl 4 rfl) ?_
    refine z_iadd hx hb dX0_airOf_17 ?_
    refine lv_istore (lv' := [(6, .int (nI ((4 * i) + u))), (5, .int (nI i)), (3, .long (airS (eiF d c) sw u i)), (0, .ref q), (1, .int sw), (2, .int (nI u))]) hx hb dX0_airOf_18 hl (by decide) rfl (fun ls hl => ?_)
    refine lv_iload_n hx hb dX0_airOf_20 rfl (lv_at hl 4 rfl) ?_
    refine lv_iload hx hb dX0_airOf_21 (lv_at hl 1 rfl) ?_
    refine lv_ishr hx hb dX0_airOf_23 ?_
    refine lv_iconst (v := (nI 1)) hx hb dX0_airOf_24 (by decide) ?_
    refine lv_iand hx hb dX0_airOf_25 ?_
    refine lv_if_eq (tgt := 33) hx hb dX0_airOf_26 (by decide) (fun c26 => ?_) (fun c26 => ?_)
    · refine lv_iconst (v := (nI 0)) hx hb dX0_airOf_33 (by decide) ?_
      refine lv_istore (lv' := [(7, .int (nI 0)), (6, .int (nI ((4 * i) + u))), (5, .int (nI i)), (3, .long (airS (eiF d c) sw u i)), (0, .ref q), (1, .int sw), (2, .int (nI u))]) hx hb dX0_airOf_34 hl (by decide) rfl (fun ls hl => ?_)
      refine lv_iload hx hb dX0_airOf_36 (lv_at hl 0 rfl) ?_
      refine n_if_eq (tgt := 66) hx hb (by omega) dX0_airOf_38 (by decide) (fun _ => ?_) (fun c => absurd c (by decide))
      refine lv_iinc (v := (nI (i + 1))) (lv' := [(5, .int (nI (i + 1))), (7, .int (nI 0)), (6, .int (nI ((4 * i) + u))), (3, .long (airS (eiF d c) sw u i)), (0, .ref q), (1, .int sw), (2, .int (nI u))]) hx hb dX0_airOf_66 hl (k := 2) rfl (in1 _) (by decide) rfl (fun ls hl => ?_)
      refine lv_goto (tgt := 5) hx hb dX0_airOf_69 (by decide) ?_
      have hl := lv_repl (l' := [(5, .int (nI (i + 1))), (7, .int (nI 0)), (6, .int (nI ((4 * i) + u))), (3, .long (airS (eiF d c) sw u (i + 1))), (0, .ref q), (1, .int sw), (2, .int (nI u))]) hl 3 rfl (congrArg Value.long (show airS (eiF d c) sw u i = airS (eiF d c) sw u (i + 1) from by rw [airS]; first | (rw [if_pos (show swB sw i = true by unfold swB; rw [decide_eq_false c26]; rfl)]; done) | (rw [if_neg (show ¬ swB sw i = true by unfold swB; rw [decide_eq_true c26]; decide)]; done))) rfl
      exact ih_5 (i + 1) _ (by omega) (by omega) (lv_sub hl [0, 3, 4, 5, 6] rfl)
    · refine lv_iconst (v := (nI 1)) hx hb dX0_airOf_29 (by decide) ?_
      refine lv_goto (tgt := 34) hx hb dX0_airOf_30 (by decide) ?_
      refine lv_istore (lv' := [(7, .int (nI 1)), (6, .int (nI ((4 * i) + u))), (5, .int (nI i)), (3, .long (airS (eiF d c) sw u i)), (0, .ref q), (1, .int sw), (2, .int (nI u))]) hx hb dX0_airOf_34 hl (by decide) rfl (fun ls hl => ?_)
      refine lv_iload hx hb dX0_airOf_36 (lv_at hl 0 rfl) ?_
      refine n_if_eq (tgt := 66) hx hb (by omega) dX0_airOf_38 (by decide) (fun c => absurd c (by decide)) (fun _ => ?_)
      refine lv_iload hx hb dX0_airOf_41 (lv_at hl 1 rfl) ?_
      refine n_if_lt (tgt := 66) hx hb (by omega) dX0_airOf_43 (by decide) ?_
      refine lv_iload hx hb dX0_airOf_46 (lv_at hl 1 rfl) ?_
      refine lv_aload_n hx hb dX0_airOf_48 rfl (lv_at hl 4 rfl) ?_
      refine z_get (fs := [.int (nI c), .int (gr d c 0), .int (gr d c 1), .int (gr d c 2), .int (gr d c 3), .int (gr d c 4), .ref (q + 1)]) (ref := "CranePermits$Crane") (C := RX0) (T := TX0) (N := 7) (ci := 0) (v := .ref (q + 1)) hx hb hts i_c_X0_airOf_X0 hown hK hΦ.1 6 (by decide) rfl (hts (.fieldLink RX0 9 "CranePermits$Crane" "eighths" "[J") (List.mem_of_getElem? (i := 1) rfl)) rfl rfl dX0_airOf_49 ?_
      refine z_alen 2 hx hb hK rfl hΦ.2 rfl dX0_airOf_52 ?_
      refine z_ge (tgt := 66) hx hb (by omega) (by omega) dX0_airOf_53 (by decide) (fun c53 => ?_) (fun c53 => ?_)
      · exact absurd c53 (by omega)
      · refine lv_lload_n hx hb dX0_airOf_56 rfl (lv_at hl 3 rfl) ?_
        refine lv_aload_n hx hb dX0_airOf_57 rfl (lv_at hl 4 rfl) ?_
        refine z_get (fs := [.int (nI c), .int (gr d c 0), .int (gr d c 1), .int (gr d c 2), .int (gr d c 3), .int (gr d c 4), .ref (q + 1)]) (ref := "CranePermits$Crane") (C := RX0) (T := TX0) (N := 7) (ci := 0) (v := .ref (q + 1)) hx hb hts i_c_X0_airOf_X0 hown hK hΦ.1 6 (by decide) rfl (hts (.fieldLink RX0 9 "CranePermits$Crane" "eighths" "[J") (List.mem_of_getElem? (i := 1) rfl)) rfl rfl dX0_airOf_58 ?_
        refine lv_iload hx hb dX0_airOf_61 (lv_at hl 1 rfl) ?_
        refine z_lald (f := (eiF d c)) hx hb hK hΦ.2 (by omega) (by omega) dX0_airOf_63 ?_
        refine lv_lor hx hb dX0_airOf_64 ?_
        refine lv_lstore_n (lv' := [(3, .long ((airS (eiF d c) sw u i) ||| ((eiF d c) ((4 * i) + u)))), (7, .int (nI 1)), (6, .int (nI ((4 * i) + u))), (5, .int (nI i)), (0, .ref q), (1, .int sw), (2, .int (nI u))]) hx hb dX0_airOf_65 rfl hl (by decide) rfl (fun ls hl => ?_)
        refine lv_iinc (v := (nI (i + 1))) (lv' := [(5, .int (nI (i + 1))), (3, .long ((airS (eiF d c) sw u i) ||| ((eiF d c) ((4 * i) + u)))), (7, .int (nI 1)), (6, .int (nI ((4 * i) + u))), (0, .ref q), (1, .int sw), (2, .int (nI u))]) hx hb dX0_airOf_66 hl (k := 3) rfl (in1 _) (by decide) rfl (fun ls hl => ?_)
        refine lv_goto (tgt := 5) hx hb dX0_airOf_69 (by decide) ?_
        have hl := lv_repl (l' := [(5, .int (nI (i + 1))), (3, .long (airS (eiF d c) sw u (i + 1))), (7, .int (nI 1)), (6, .int (nI ((4 * i) + u))), (0, .ref q), (1, .int sw), (2, .int (nI u))]) hl 1 rfl (congrArg Value.long (show (airS (eiF d c) sw u i) ||| ((eiF d c) ((4 * i) + u)) = airS (eiF d c) sw u (i + 1) from by rw [airS]; first | (rw [if_pos (show swB sw i = true by unfold swB; rw [decide_eq_false c26]; rfl)]; done) | (rw [if_neg (show ¬ swB sw i = true by unfold swB; rw [decide_eq_true c26]; decide)]; done))) rfl
        exact ih_5 (i + 1) _ (by omega) (by omega) (lv_sub hl [0, 1, 4, 5, 6] rfl)
theorem i_c_X1_isFor_X1 : ∀ w ∈ wsX10, w ∈ wsX1_isFor := fun w h => (List.mem_cons_of_mem _ (List.mem_append_left _ (List.mem_append_right _ h)))
theorem i_c_X1_isFor_X0 : ∀ w ∈ wsX00, w ∈ wsX1_isFor := fun w h => (List.mem_cons_of_mem _ (List.mem_append_right _ h))
set_option maxRecDepth 100000 in
set_option maxHeartbeats 4000000 in
theorem c_X1_isFor (l : Launch) (D : va_G) (y : zY) (q : Nat) (p : Nat) (cq : Nat) (d : Nat → Int32) (cr : Nat) (c : Nat) (h1 : pC d p < 8) (h2 : c < 8) : Met l yX1_isFor wsX1_isFor ({ frames := 0, cells := 0, slots := 0, locals := 0 }) (zP [.ref q, .ref cr] (fun H => peA D y q p cq d H ∧ crA D y cr c d H) D y) (zQ (some (.int (bI (decide (pC d p = c)))))) 0 0 nofree := by
  refine z_body (cc := cX1_isFor) (maxL := 2) (ret := (some .boolean)) (la := [(0, .ref q), (1, .ref cr)]) (by decide) rfl (Nat.le_of_ble_eq_true rfl) rfl ?_
  intro pg ev s mm below meth c0 ls hx hb hr hF hlocks hΦ hK hl _
  have hts := hF.2.2.2.2
  have hown : s.vm.findClass RX1 = some mm.cls := hF.2.2.2.1
  refine lv_aload_n hx hb dX1_isFor_0 rfl (lv_at hl 0 rfl) ?_
  refine z_get (fs := [.int (nI p), .ref cq, .int (pm d p 1), .int (pm d p 2), .int (pm d p 2 / nI 10), .int (pm d p 2 - pm d p 2 / nI 10 * nI 10), .int (pm d p 3)]) (ref := "CranePermits$Permit") (C := RX1) (T := TX1) (N := 7) (ci := 1) (v := .ref cq) hx hb hts i_c_X1_isFor_X1 hown hK hΦ.1.1 1 (by decide) rfl (hts (.fieldLink RX1 13 "CranePermits$Permit" "crane" "LCranePermits$Crane;") (List.mem_of_getElem? (i := 1) rfl)) rfl rfl dX1_isFor_1 ?_
  refine z_get (fs := [.int (nI (pC d p)), .int (gr d (pC d p) 0), .int (gr d (pC d p) 1), .int (gr d (pC d p) 2), .int (gr d (pC d p) 3), .int (gr d (pC d p) 4), .ref (cq + 1)]) (ref := "CranePermits$Crane") (C := RX0) (T := TX0) (N := 7) (ci := 0) (v := .int (nI (pC d p))) hx hb hts i_c_X1_isFor_X0 hown hK hΦ.1.2.1 0 (by decide) rfl (hts (.fieldLink RX1 32 "CranePermits$Crane" "number" "I") (List.mem_of_getElem? (i := 2) rfl)) rfl rfl dX1_isFor_4 ?_
  refine lv_aload_n hx hb dX1_isFor_7 rfl (lv_at hl 1 rfl) ?_
  refine z_get (fs := [.int (nI c), .int (gr d c 0), .int (gr d c 1), .int (gr d c 2), .int (gr d c 3), .int (gr d c 4), .ref (cr + 1)]) (ref := "CranePermits$Crane") (C := RX0) (T := TX0) (N := 7) (ci := 0) (v := .int (nI c)) hx hb hts i_c_X1_isFor_X0 hown hK hΦ.2.1 0 (by decide) rfl (hts (.fieldLink RX1 32 "CranePermits$Crane" "number" "I") (List.mem_of_getElem? (i := 2) rfl)) rfl rfl dX1_isFor_8 ?_
  refine z_ne (tgt := 18) hx hb (by omega) (by omega) dX1_isFor_11 (by decide) (fun c11 => ?_) (fun c11 => ?_)
  · refine lv_iconst (v := (nI 0)) hx hb dX1_isFor_18 (by decide) ?_
    exact z_retz hx hb hr hlocks rfl (bI_ff (decide_eq_false c11)) dX1_isFor_19
  · refine lv_iconst (v := (nI 1)) hx hb dX1_isFor_14 (by decide) ?_
    refine lv_goto (tgt := 19) hx hb dX1_isFor_15 (by decide) ?_
    exact z_retz hx hb hr hlocks rfl (bI_tt (decide_eq_true c11)) dX1_isFor_19
theorem i_c_X1_isOf_X1 : ∀ w ∈ wsX10, w ∈ wsX1_isOf := fun w h => (List.mem_cons_of_mem _ (List.mem_append_left _ (List.mem_append_right _ h)))
theorem i_c_X1_isOf_X0 : ∀ w ∈ wsX00, w ∈ wsX1_isOf := fun w h => (List.mem_cons_of_mem _ (List.mem_append_right _ h))
set_option maxRecDepth 100000 in
set_option maxHeartbeats 4000000 in
theorem c_X1_isOf (l : Launch) (D : va_G) (y : zY) (q : Nat) (p : Nat) (cq : Nat) (d : Nat → Int32) (st : Int32) (n : Int32)  : Met l yX1_isOf wsX1_isOf ({ frames := 0, cells := 0, slots := 0, locals := 0 }) (zP [.ref q, .int st, .int n] (fun H => peA D y q p cq d H) D y) (zQ (some (.int (bI (pofB d p st n))))) 0 0 nofree := by
  refine z_body (cc := cX1_isOf) (maxL := 3) (ret := (some .boolean)) (la := [(0, .ref q), (1, .int st), (2, .int n)]) (by decide) rfl (Nat.le_of_ble_eq_true rfl) rfl ?_
  intro pg ev s mm below meth c0 ls hx hb hr hF hlocks hΦ hK hl _
  have hts := hF.2.2.2.2
  have hown : s.vm.findClass RX1 = some mm.cls := hF.2.2.2.1
  refine lv_aload_n hx hb dX1_isOf_0 rfl (lv_at hl 0 rfl) ?_
  refine z_get (fs := [.int (nI p), .ref cq, .int (pm d p 1), .int (pm d p 2), .int (pm d p 2 / nI 10), .int (pm d p 2 - pm d p 2 / nI 10 * nI 10), .int (pm d p 3)]) (ref := "CranePermits$Permit") (C := RX1) (T := TX1) (N := 7) (ci := 1) (v := .ref cq) hx hb hts i_c_X1_isOf_X1 hown hK hΦ.1 1 (by decide) rfl (hts (.fieldLink RX1 13 "CranePermits$Permit" "crane" "LCranePermits$Crane;") (List.mem_of_getElem? (i := 1) rfl)) rfl rfl dX1_isOf_1 ?_
  refine z_get (fs := [.int (nI (pC d p)), .int (gr d (pC d p) 0), .int (gr d (pC d p) 1), .int (gr d (pC d p) 2), .int (gr d (pC d p) 3), .int (gr d (pC d p) 4), .ref (cq + 1)]) (ref := "CranePermits$Crane") (C := RX0) (T := TX0) (N := 7) (ci := 0) (v := .int (gr d (pC d p) 4)) hx hb hts i_c_X1_isOf_X0 hown hK hΦ.2.1 5 (by decide) rfl (hts (.fieldLink RX1 35 "CranePermits$Crane" "street" "I") (List.mem_of_getElem? (i := 2) rfl)) rfl rfl dX1_isOf_4 ?_
  refine lv_iload_n hx hb dX1_isOf_7 rfl (lv_at hl 1 rfl) ?_
  refine lv_icmp_ne (tgt := 23) hx hb dX1_isOf_8 (by decide) (fun c8 => ?_) (fun c8 => ?_)
  · refine lv_iconst (v := (nI 0)) hx hb dX1_isOf_23 (by decide) ?_
    exact z_retz hx hb hr hlocks rfl (bI_ff (by first | (simp only [pofB, c8, if_true, if_false, eq_self, decide_true, decide_false, Bool.and_true, Bool.true_and, Bool.and_false, Bool.false_and, Bool.or_true, Bool.true_or, Bool.or_false, Bool.false_or, Bool.not_true, Bool.not_false, not_true_eq_false, not_false_eq_true, and_true, true_and, and_false, false_and, gt_iff_lt, ge_iff_le, ne_eq, Bool.false_eq_true]; done) | (simp [pofB, c8]; done) | (simp_all [pofB, c8]; done))) dX1_isOf_24
  · refine lv_aload_n hx hb dX1_isOf_11 rfl (lv_at hl 0 rfl) ?_
    refine z_get (fs := [.int (nI p), .ref cq, .int (pm d p 1), .int (pm d p 2), .int (pm d p 2 / nI 10), .int (pm d p 2 - pm d p 2 / nI 10 * nI 10), .int (pm d p 3)]) (ref := "CranePermits$Permit") (C := RX1) (T := TX1) (N := 7) (ci := 1) (v := .int (pm d p 1)) hx hb hts i_c_X1_isOf_X1 hown hK hΦ.1 2 (by decide) rfl (hts (.fieldLink RX1 17 "CranePermits$Permit" "night" "I") (List.mem_of_getElem? (i := 3) rfl)) rfl rfl dX1_isOf_12 ?_
    refine lv_iload_n hx hb dX1_isOf_15 rfl (lv_at hl 2 rfl) ?_
    refine lv_icmp_ne (tgt := 23) hx hb dX1_isOf_16 (by decide) (fun c16 => ?_) (fun c16 => ?_)
    · refine lv_iconst (v := (nI 0)) hx hb dX1_isOf_23 (by decide) ?_
      exact z_retz hx hb hr hlocks rfl (bI_ff (by first | (simp only [pofB, c8, c16, if_true, if_false, eq_self, decide_true, decide_false, Bool.and_true, Bool.true_and, Bool.and_false, Bool.false_and, Bool.or_true, Bool.true_or, Bool.or_false, Bool.false_or, Bool.not_true, Bool.not_false, not_true_eq_false, not_false_eq_true, and_true, true_and, and_false, false_and, gt_iff_lt, ge_iff_le, ne_eq, Bool.false_eq_true]; done) | (simp [pofB, c8, c16]; done) | (simp_all [pofB, c8, c16]; done))) dX1_isOf_24
    · refine lv_iconst (v := (nI 1)) hx hb dX1_isOf_19 (by decide) ?_
      refine lv_goto (tgt := 24) hx hb dX1_isOf_20 (by decide) ?_
      exact z_retz hx hb hr hlocks rfl (bI_tt (by first | (simp only [pofB, c8, c16, if_true, if_false, eq_self, decide_true, decide_false, Bool.and_true, Bool.true_and, Bool.and_false, Bool.false_and, Bool.or_true, Bool.true_or, Bool.or_false, Bool.false_or, Bool.not_true, Bool.not_false, not_true_eq_false, not_false_eq_true, and_true, true_and, and_false, false_and, gt_iff_lt, ge_iff_le, ne_eq, Bool.false_eq_true]; done) | (simp [pofB, c8, c16]; done) | (simp_all [pofB, c8, c16]; done))) dX1_isOf_24
theorem i_c_X1_meets_X1 : ∀ w ∈ wsX10, w ∈ wsX1_meets := fun w h => (List.mem_cons_of_mem _ (List.mem_append_right _ h))
set_option maxRecDepth 100000 in
set_option maxHeartbeats 4000000 in
theorem c_X1_meets (l : Launch) (D : va_G) (y : zY) (q : Nat) (p : Nat) (cq : Nat) (d : Nat → Int32) (n : Int32) (h : Int32)  : Met l yX1_meets wsX1_meets ({ frames := 0, cells := 0, slots := 0, locals := 0 }) (zP [.ref q, .int n, .int h] (fun H => peA D y q p cq d H) D y) (zQ (some (.int (bI (metB d p n h))))) 0 0 nofree := by
  refine z_body (cc := cX1_meets) (maxL := 5) (ret := (some .boolean)) (la := [(0, .ref q), (1, .int n), (2, .int h)]) (by decide) rfl (Nat.le_of_ble_eq_true rfl) rfl ?_
  intro pg ev s mm below meth c0 ls hx hb hr hF hlocks hΦ hK hl _
  have hts := hF.2.2.2.2
  have hown : s.vm.findClass RX1 = some mm.cls := hF.2.2.2.1
  refine lv_aload_n hx hb dX1_meets_0 rfl (lv_at hl 0 rfl) ?_
  refine z_get (fs := [.int (nI p), .ref cq, .int (pm d p 1), .int (pm d p 2), .int (pm d p 2 / nI 10), .int (pm d p 2 - pm d p 2 / nI 10 * nI 10), .int (pm d p 3)]) (ref := "CranePermits$Permit") (C := RX1) (T := TX1) (N := 7) (ci := 1) (v := .int (pm d p 2 - pm d p 2 / nI 10 * nI 10)) hx hb hts i_c_X1_meets_X1 hown hK hΦ.1 5 (by decide) rfl (hts (.fieldLink RX1 26 "CranePermits$Permit" "last" "I") (List.mem_of_getElem? (i := 1) rfl)) rfl rfl dX1_meets_1 ?_
  refine lv_iload_n hx hb dX1_meets_4 rfl (lv_at hl 2 rfl) ?_
  refine lv_bipush (v := (nI 10)) hx hb dX1_meets_5 (by decide) ?_
  refine lv_idiv hx hb dX1_meets_7 (by decide) ?_
  refine lv_icmp_ge (tgt := 15) hx hb dX1_meets_8 (by decide) (fun c8 => ?_) (fun c8 => ?_)
  · refine lv_iconst (v := (nI 0)) hx hb dX1_meets_15 (by decide) ?_
    refine lv_istore_n (lv' := [(3, .int (nI 0)), (0, .ref q), (1, .int n), (2, .int h)]) hx hb dX1_meets_16 rfl hl (by decide) rfl (fun ls hl => ?_)
    refine lv_aload_n hx hb dX1_meets_17 rfl (lv_at hl 1 rfl) ?_
    refine z_get (fs := [.int (nI p), .ref cq, .int (pm d p 1), .int (pm d p 2), .int (pm d p 2 / nI 10), .int (pm d p 2 - pm d p 2 / nI 10 * nI 10), .int (pm d p 3)]) (ref := "CranePermits$Permit") (C := RX1) (T := TX1) (N := 7) (ci := 1) (v := .int (pm d p 2 / nI 10)) hx hb hts i_c_X1_meets_X1 hown hK hΦ.1 4 (by decide) rfl (hts (.fieldLink RX1 23 "CranePermits$Permit" "first" "I") (List.mem_of_getElem? (i := 2) rfl)) rfl rfl dX1_meets_18 ?_
    refine lv_iload_n hx hb dX1_meets_21 rfl (lv_at hl 3 rfl) ?_
    refine lv_bipush (v := (nI 10)) hx hb dX1_meets_22 (by decide) ?_
    refine lv_irem hx hb dX1_meets_24 (by decide) ?_
    refine lv_icmp_le (tgt := 32) hx hb dX1_meets_25 (by decide) (fun c25 => ?_) (fun c25 => ?_)
    · refine lv_iconst (v := (nI 0)) hx hb dX1_meets_32 (by decide) ?_
      refine lv_istore (lv' := [(4, .int (nI 0)), (3, .int (nI 0)), (0, .ref q), (1, .int n), (2, .int h)]) hx hb dX1_meets_33 hl (by decide) rfl (fun ls hl => ?_)
      refine lv_aload_n hx hb dX1_meets_35 rfl (lv_at hl 2 rfl) ?_
      refine z_get (fs := [.int (nI p), .ref cq, .int (pm d p 1), .int (pm d p 2), .int (pm d p 2 / nI 10), .int (pm d p 2 - pm d p 2 / nI 10 * nI 10), .int (pm d p 3)]) (ref := "CranePermits$Permit") (C := RX1) (T := TX1) (N := 7) (ci := 1) (v := .int (pm d p 1)) hx hb hts i_c_X1_meets_X1 hown hK hΦ.1 2 (by decide) rfl (hts (.fieldLink RX1 17 "CranePermits$Permit" "night" "I") (List.mem_of_getElem? (i := 3) rfl)) rfl rfl dX1_meets_36 ?_
      refine lv_iload_n hx hb dX1_meets_39 rfl (lv_at hl 3 rfl) ?_
      refine lv_icmp_ne (tgt := 56) hx hb dX1_meets_40 (by decide) (fun c40 => ?_) (fun c40 => ?_)
      · refine lv_iconst (v := (nI 0)) hx hb dX1_meets_56 (by decide) ?_
        exact z_retz hx hb hr hlocks rfl (bI_ff (by unfold metB hmB; first | (rw [decide_eq_false c40]; rfl) | (rw [decide_eq_true (Int32.not_le.mp c8)]; simp) | (rw [decide_eq_true (Int32.not_le.mp c25)]; simp))) dX1_meets_57
      · refine lv_iload_n hx hb dX1_meets_43 rfl (lv_at hl 1 rfl) ?_
        refine n_if_ne (tgt := 56) hx hb (by omega) dX1_meets_44 (by decide) (fun c => absurd c (by decide)) (fun _ => ?_)
        refine lv_iload hx hb dX1_meets_47 (lv_at hl 0 rfl) ?_
        refine n_if_ne (tgt := 56) hx hb (by omega) dX1_meets_49 (by decide) (fun c => absurd c (by decide)) (fun _ => ?_)
        refine lv_iconst (v := (nI 1)) hx hb dX1_meets_52 (by decide) ?_
        refine lv_goto (tgt := 57) hx hb dX1_meets_53 (by decide) ?_
        exact z_retz hx hb hr hlocks rfl (bI_tt (met_t c40 c8 c25)) dX1_meets_57
    · refine lv_iconst (v := (nI 1)) hx hb dX1_meets_28 (by decide) ?_
      refine lv_goto (tgt := 33) hx hb dX1_meets_29 (by decide) ?_
      refine lv_istore (lv' := [(4, .int (nI 1)), (3, .int (nI 0)), (0, .ref q), (1, .int n), (2, .int h)]) hx hb dX1_meets_33 hl (by decide) rfl (fun ls hl => ?_)
      refine lv_aload_n hx hb dX1_meets_35 rfl (lv_at hl 2 rfl) ?_
      refine z_get (fs := [.int (nI p), .ref cq, .int (pm d p 1), .int (pm d p 2), .int (pm d p 2 / nI 10), .int (pm d p 2 - pm d p 2 / nI 10 * nI 10), .int (pm d p 3)]) (ref := "CranePermits$Permit") (C := RX1) (T := TX1) (N := 7) (ci := 1) (v := .int (pm d p 1)) hx hb hts i_c_X1_meets_X1 hown hK hΦ.1 2 (by decide) rfl (hts (.fieldLink RX1 17 "CranePermits$Permit" "night" "I") (List.mem_of_getElem? (i := 3) rfl)) rfl rfl dX1_meets_36 ?_
      refine lv_iload_n hx hb dX1_meets_39 rfl (lv_at hl 3 rfl) ?_
      refine lv_icmp_ne (tgt := 56) hx hb dX1_meets_40 (by decide) (fun c40 => ?_) (fun c40 => ?_)
      · refine lv_iconst (v := (nI 0)) hx hb dX1_meets_56 (by decide) ?_
        exact z_retz hx hb hr hlocks rfl (bI_ff (by unfold metB hmB; first | (rw [decide_eq_false c40]; rfl) | (rw [decide_eq_true (Int32.not_le.mp c8)]; simp) | (rw [decide_eq_true (Int32.not_le.mp c25)]; simp))) dX1_meets_57
      · refine lv_iload_n hx hb dX1_meets_43 rfl (lv_at hl 1 rfl) ?_
        refine n_if_ne (tgt := 56) hx hb (by omega) dX1_meets_44 (by decide) (fun c => absurd c (by decide)) (fun _ => ?_)
        refine lv_iload hx hb dX1_meets_47 (lv_at hl 0 rfl) ?_
        refine n_if_ne (tgt := 56) hx hb (by omega) dX1_meets_49 (by decide) (fun _ => ?_) (fun c => absurd c (by decide))
        refine lv_iconst (v := (nI 0)) hx hb dX1_meets_56 (by decide) ?_
        exact z_retz hx hb hr hlocks rfl (bI_ff (by unfold metB hmB; first | (rw [decide_eq_false c40]; rfl) | (rw [decide_eq_true (Int32.not_le.mp c8)]; simp) | (rw [decide_eq_true (Int32.not_le.mp c25)]; simp))) dX1_meets_57
  · refine lv_iconst (v := (nI 1)) hx hb dX1_meets_11 (by decide) ?_
    refine lv_goto (tgt := 16) hx hb dX1_meets_12 (by decide) ?_
    refine lv_istore_n (lv' := [(3, .int (nI 1)), (0, .ref q), (1, .int n), (2, .int h)]) hx hb dX1_meets_16 rfl hl (by decide) rfl (fun ls hl => ?_)
    refine lv_aload_n hx hb dX1_meets_17 rfl (lv_at hl 1 rfl) ?_
    refine z_get (fs := [.int (nI p), .ref cq, .int (pm d p 1), .int (pm d p 2), .int (pm d p 2 / nI 10), .int (pm d p 2 - pm d p 2 / nI 10 * nI 10), .int (pm d p 3)]) (ref := "CranePermits$Permit") (C := RX1) (T := TX1) (N := 7) (ci := 1) (v := .int (pm d p 2 / nI 10)) hx hb hts i_c_X1_meets_X1 hown hK hΦ.1 4 (by decide) rfl (hts (.fieldLink RX1 23 "CranePermits$Permit" "first" "I") (List.mem_of_getElem? (i := 2) rfl)) rfl rfl dX1_meets_18 ?_
    refine lv_iload_n hx hb dX1_meets_21 rfl (lv_at hl 3 rfl) ?_
    refine lv_bipush (v := (nI 10)) hx hb dX1_meets_22 (by decide) ?_
    refine lv_irem hx hb dX1_meets_24 (by decide) ?_
    refine lv_icmp_le (tgt := 32) hx hb dX1_meets_25 (by decide) (fun c25 => ?_) (fun c25 => ?_)
    · refine lv_iconst (v := (nI 0)) hx hb dX1_meets_32 (by decide) ?_
      refine lv_istore (lv' := [(4, .int (nI 0)), (3, .int (nI 1)), (0, .ref q), (1, .int n), (2, .int h)]) hx hb dX1_meets_33 hl (by decide) rfl (fun ls hl => ?_)
      refine lv_aload_n hx hb dX1_meets_35 rfl (lv_at hl 2 rfl) ?_
      refine z_get (fs := [.int (nI p), .ref cq, .int (pm d p 1), .int (pm d p 2), .int (pm d p 2 / nI 10), .int (pm d p 2 - pm d p 2 / nI 10 * nI 10), .int (pm d p 3)]) (ref := "CranePermits$Permit") (C := RX1) (T := TX1) (N := 7) (ci := 1) (v := .int (pm d p 1)) hx hb hts i_c_X1_meets_X1 hown hK hΦ.1 2 (by decide) rfl (hts (.fieldLink RX1 17 "CranePermits$Permit" "night" "I") (List.mem_of_getElem? (i := 3) rfl)) rfl rfl dX1_meets_36 ?_
      refine lv_iload_n hx hb dX1_meets_39 rfl (lv_at hl 3 rfl) ?_
      refine lv_icmp_ne (tgt := 56) hx hb dX1_meets_40 (by decide) (fun c40 => ?_) (fun c40 => ?_)
      · refine lv_iconst (v := (nI 0)) hx hb dX1_meets_56 (by decide) ?_
        exact z_retz hx hb hr hlocks rfl (bI_ff (by unfold metB hmB; first | (rw [decide_eq_false c40]; rfl) | (rw [decide_eq_true (Int32.not_le.mp c8)]; simp) | (rw [decide_eq_true (Int32.not_le.mp c25)]; simp))) dX1_meets_57
      · refine lv_iload_n hx hb dX1_meets_43 rfl (lv_at hl 1 rfl) ?_
        refine n_if_ne (tgt := 56) hx hb (by omega) dX1_meets_44 (by decide) (fun _ => ?_) (fun c => absurd c (by decide))
        refine lv_iconst (v := (nI 0)) hx hb dX1_meets_56 (by decide) ?_
        exact z_retz hx hb hr hlocks rfl (bI_ff (by unfold metB hmB; first | (rw [decide_eq_false c40]; rfl) | (rw [decide_eq_true (Int32.not_le.mp c8)]; simp) | (rw [decide_eq_true (Int32.not_le.mp c25)]; simp))) dX1_meets_57
    · refine lv_iconst (v := (nI 1)) hx hb dX1_meets_28 (by decide) ?_
      refine lv_goto (tgt := 33) hx hb dX1_meets_29 (by decide) ?_
      refine lv_istore (lv' := [(4, .int (nI 1)), (3, .int (nI 1)), (0, .ref q), (1, .int n), (2, .int h)]) hx hb dX1_meets_33 hl (by decide) rfl (fun ls hl => ?_)
      refine lv_aload_n hx hb dX1_meets_35 rfl (lv_at hl 2 rfl) ?_
      refine z_get (fs := [.int (nI p), .ref cq, .int (pm d p 1), .int (pm d p 2), .int (pm d p 2 / nI 10), .int (pm d p 2 - pm d p 2 / nI 10 * nI 10), .int (pm d p 3)]) (ref := "CranePermits$Permit") (C := RX1) (T := TX1) (N := 7) (ci := 1) (v := .int (pm d p 1)) hx hb hts i_c_X1_meets_X1 hown hK hΦ.1 2 (by decide) rfl (hts (.fieldLink RX1 17 "CranePermits$Permit" "night" "I") (List.mem_of_getElem? (i := 3) rfl)) rfl rfl dX1_meets_36 ?_
      refine lv_iload_n hx hb dX1_meets_39 rfl (lv_at hl 3 rfl) ?_
      refine lv_icmp_ne (tgt := 56) hx hb dX1_meets_40 (by decide) (fun c40 => ?_) (fun c40 => ?_)
      · refine lv_iconst (v := (nI 0)) hx hb dX1_meets_56 (by decide) ?_
        exact z_retz hx hb hr hlocks rfl (bI_ff (by unfold metB hmB; first | (rw [decide_eq_false c40]; rfl) | (rw [decide_eq_true (Int32.not_le.mp c8)]; simp) | (rw [decide_eq_true (Int32.not_le.mp c25)]; simp))) dX1_meets_57
      · refine lv_iload_n hx hb dX1_meets_43 rfl (lv_at hl 1 rfl) ?_
        refine n_if_ne (tgt := 56) hx hb (by omega) dX1_meets_44 (by decide) (fun _ => ?_) (fun c => absurd c (by decide))
        refine lv_iconst (v := (nI 0)) hx hb dX1_meets_56 (by decide) ?_
        exact z_retz hx hb hr hlocks rfl (bI_ff (by unfold metB hmB; first | (rw [decide_eq_false c40]; rfl) | (rw [decide_eq_true (Int32.not_le.mp c8)]; simp) | (rw [decide_eq_true (Int32.not_le.mp c25)]; simp))) dX1_meets_57
theorem i_c_X1_isAheadOf_X1 : ∀ w ∈ wsX10, w ∈ wsX1_isAheadOf := fun w h => (List.mem_cons_of_mem _ (List.mem_append_right _ h))
set_option maxRecDepth 100000 in
set_option maxHeartbeats 4000000 in
theorem c_X1_isAheadOf (l : Launch) (D : va_G) (y : zY) (q : Nat) (p : Nat) (cq : Nat) (d : Nat → Int32) (q2 : Nat) (p2 : Nat) (cq2 : Nat) (h1 : p < 200) (h2 : p2 < 200) : Met l yX1_isAheadOf wsX1_isAheadOf ({ frames := 0, cells := 0, slots := 0, locals := 0 }) (zP [.ref q, .ref q2] (fun H => peA D y q p cq d H ∧ peA D y q2 p2 cq2 d H) D y) (zQ (some (.int (bI (ahcB d p p2))))) 0 0 nofree := by
  refine z_body (cc := cX1_isAheadOf) (maxL := 2) (ret := (some .boolean)) (la := [(0, .ref q), (1, .ref q2)]) (by decide) rfl (Nat.le_of_ble_eq_true rfl) rfl ?_
  intro pg ev s mm below meth c0 ls hx hb hr hF hlocks hΦ hK hl _
  have hts := hF.2.2.2.2
  have hown : s.vm.findClass RX1 = some mm.cls := hF.2.2.2.1
  refine lv_aload_n hx hb dX1_isAheadOf_0 rfl (lv_at hl 0 rfl) ?_
  refine z_get (fs := [.int (nI p), .ref cq, .int (pm d p 1), .int (pm d p 2), .int (pm d p 2 / nI 10), .int (pm d p 2 - pm d p 2 / nI 10 * nI 10), .int (pm d p 3)]) (ref := "CranePermits$Permit") (C := RX1) (T := TX1) (N := 7) (ci := 1) (v := .int (pm d p 1)) hx hb hts i_c_X1_isAheadOf_X1 hown hK hΦ.1.1 2 (by decide) rfl (hts (.fieldLink RX1 17 "CranePermits$Permit" "night" "I") (List.mem_of_getElem? (i := 1) rfl)) rfl rfl dX1_isAheadOf_1 ?_
  refine lv_aload_n hx hb dX1_isAheadOf_4 rfl (lv_at hl 1 rfl) ?_
  refine z_get (fs := [.int (nI p2), .ref cq2, .int (pm d p2 1), .int (pm d p2 2), .int (pm d p2 2 / nI 10), .int (pm d p2 2 - pm d p2 2 / nI 10 * nI 10), .int (pm d p2 3)]) (ref := "CranePermits$Permit") (C := RX1) (T := TX1) (N := 7) (ci := 1) (v := .int (pm d p2 1)) hx hb hts i_c_X1_isAheadOf_X1 hown hK hΦ.2.1 2 (by decide) rfl (hts (.fieldLink RX1 17 "CranePermits$Permit" "night" "I") (List.mem_of_getElem? (i := 1) rfl)) rfl rfl dX1_isAheadOf_5 ?_
  refine lv_icmp_eq (tgt := 28) hx hb dX1_isAheadOf_8 (by decide) (fun c8 => ?_) (fun c8 => ?_)
  · refine lv_aload_n hx hb dX1_isAheadOf_28 rfl (lv_at hl 0 rfl) ?_
    refine z_get (fs := [.int (nI p), .ref cq, .int (pm d p 1), .int (pm d p 2), .int (pm d p 2 / nI 10), .int (pm d p 2 - pm d p 2 / nI 10 * nI 10), .int (pm d p 3)]) (ref := "CranePermits$Permit") (C := RX1) (T := TX1) (N := 7) (ci := 1) (v := .int (pm d p 2 / nI 10)) hx hb hts i_c_X1_isAheadOf_X1 hown hK hΦ.1.1 4 (by decide) rfl (hts (.fieldLink RX1 23 "CranePermits$Permit" "first" "I") (List.mem_of_getElem? (i := 2) rfl)) rfl rfl dX1_isAheadOf_29 ?_
    refine lv_aload_n hx hb dX1_isAheadOf_32 rfl (lv_at hl 1 rfl) ?_
    refine z_get (fs := [.int (nI p2), .ref cq2, .int (pm d p2 1), .int (pm d p2 2), .int (pm d p2 2 / nI 10), .int (pm d p2 2 - pm d p2 2 / nI 10 * nI 10), .int (pm d p2 3)]) (ref := "CranePermits$Permit") (C := RX1) (T := TX1) (N := 7) (ci := 1) (v := .int (pm d p2 2 / nI 10)) hx hb hts i_c_X1_isAheadOf_X1 hown hK hΦ.2.1 4 (by decide) rfl (hts (.fieldLink RX1 23 "CranePermits$Permit" "first" "I") (List.mem_of_getElem? (i := 2) rfl)) rfl rfl dX1_isAheadOf_33 ?_
    refine lv_icmp_ne (tgt := 58) hx hb dX1_isAheadOf_36 (by decide) (fun c36 => ?_) (fun c36 => ?_)
    · refine lv_aload_n hx hb dX1_isAheadOf_58 rfl (lv_at hl 0 rfl) ?_
      refine z_get (fs := [.int (nI p), .ref cq, .int (pm d p 1), .int (pm d p 2), .int (pm d p 2 / nI 10), .int (pm d p 2 - pm d p 2 / nI 10 * nI 10), .int (pm d p 3)]) (ref := "CranePermits$Permit") (C := RX1) (T := TX1) (N := 7) (ci := 1) (v := .int (pm d p 2 / nI 10)) hx hb hts i_c_X1_isAheadOf_X1 hown hK hΦ.1.1 4 (by decide) rfl (hts (.fieldLink RX1 23 "CranePermits$Permit" "first" "I") (List.mem_of_getElem? (i := 2) rfl)) rfl rfl dX1_isAheadOf_59 ?_
      refine lv_aload_n hx hb dX1_isAheadOf_62 rfl (lv_at hl 1 rfl) ?_
      refine z_get (fs := [.int (nI p2), .ref cq2, .int (pm d p2 1), .int (pm d p2 2), .int (pm d p2 2 / nI 10), .int (pm d p2 2 - pm d p2 2 / nI 10 * nI 10), .int (pm d p2 3)]) (ref := "CranePermits$Permit") (C := RX1) (T := TX1) (N := 7) (ci := 1) (v := .int (pm d p2 2 / nI 10)) hx hb hts i_c_X1_isAheadOf_X1 hown hK hΦ.2.1 4 (by decide) rfl (hts (.fieldLink RX1 23 "CranePermits$Permit" "first" "I") (List.mem_of_getElem? (i := 2) rfl)) rfl rfl dX1_isAheadOf_63 ?_
      refine lv_icmp_ge (tgt := 73) hx hb dX1_isAheadOf_66 (by decide) (fun c66 => ?_) (fun c66 => ?_)
      · refine lv_iconst (v := (nI 0)) hx hb dX1_isAheadOf_73 (by decide) ?_
        exact z_retz hx hb hr hlocks rfl (bI_ff (by unfold ahcB fsI; first | (rw [if_neg c8]; first | exact decide_eq_true (Int32.not_le.mp c19) | exact decide_eq_false (fun q => absurd c19 (Int32.not_le.mpr q))) | (rw [if_pos c8, if_pos c36]; first | exact decide_eq_true c47 | exact decide_eq_false (Nat.not_lt.mpr c47)) | (rw [if_pos c8, if_neg c36]; first | exact decide_eq_true (Int32.not_le.mp c66) | exact decide_eq_false (fun q => absurd c66 (Int32.not_le.mpr q))))) dX1_isAheadOf_74
      · refine lv_iconst (v := (nI 1)) hx hb dX1_isAheadOf_69 (by decide) ?_
        refine lv_goto (tgt := 74) hx hb dX1_isAheadOf_70 (by decide) ?_
        exact z_retz hx hb hr hlocks rfl (bI_tt (by unfold ahcB fsI; first | (rw [if_neg c8]; first | exact decide_eq_true (Int32.not_le.mp c19) | exact decide_eq_false (fun q => absurd c19 (Int32.not_le.mpr q))) | (rw [if_pos c8, if_pos c36]; first | exact decide_eq_true c47 | exact decide_eq_false (Nat.not_lt.mpr c47)) | (rw [if_pos c8, if_neg c36]; first | exact decide_eq_true (Int32.not_le.mp c66) | exact decide_eq_false (fun q => absurd c66 (Int32.not_le.mpr q))))) dX1_isAheadOf_74
    · refine lv_aload_n hx hb dX1_isAheadOf_39 rfl (lv_at hl 0 rfl) ?_
      refine z_get (fs := [.int (nI p), .ref cq, .int (pm d p 1), .int (pm d p 2), .int (pm d p 2 / nI 10), .int (pm d p 2 - pm d p 2 / nI 10 * nI 10), .int (pm d p 3)]) (ref := "CranePermits$Permit") (C := RX1) (T := TX1) (N := 7) (ci := 1) (v := .int (nI p)) hx hb hts i_c_X1_isAheadOf_X1 hown hK hΦ.1.1 0 (by decide) rfl (hts (.fieldLink RX1 7 "CranePermits$Permit" "number" "I") (List.mem_of_getElem? (i := 3) rfl)) rfl rfl dX1_isAheadOf_40 ?_
      refine lv_aload_n hx hb dX1_isAheadOf_43 rfl (lv_at hl 1 rfl) ?_
      refine z_get (fs := [.int (nI p2), .ref cq2, .int (pm d p2 1), .int (pm d p2 2), .int (pm d p2 2 / nI 10), .int (pm d p2 2 - pm d p2 2 / nI 10 * nI 10), .int (pm d p2 3)]) (ref := "CranePermits$Permit") (C := RX1) (T := TX1) (N := 7) (ci := 1) (v := .int (nI p2)) hx hb hts i_c_X1_isAheadOf_X1 hown hK hΦ.2.1 0 (by decide) rfl (hts (.fieldLink RX1 7 "CranePermits$Permit" "number" "I") (List.mem_of_getElem? (i := 3) rfl)) rfl rfl dX1_isAheadOf_44 ?_
      refine z_ge (tgt := 54) hx hb (by omega) (by omega) dX1_isAheadOf_47 (by decide) (fun c47 => ?_) (fun c47 => ?_)
      · refine lv_iconst (v := (nI 0)) hx hb dX1_isAheadOf_54 (by decide) ?_
        refine lv_goto (tgt := 74) hx hb dX1_isAheadOf_55 (by decide) ?_
        exact z_retz hx hb hr hlocks rfl (bI_ff (by unfold ahcB fsI; first | (rw [if_neg c8]; first | exact decide_eq_true (Int32.not_le.mp c19) | exact decide_eq_false (fun q => absurd c19 (Int32.not_le.mpr q))) | (rw [if_pos c8, if_pos c36]; first | exact decide_eq_true c47 | exact decide_eq_false (Nat.not_lt.mpr c47)) | (rw [if_pos c8, if_neg c36]; first | exact decide_eq_true (Int32.not_le.mp c66) | exact decide_eq_false (fun q => absurd c66 (Int32.not_le.mpr q))))) dX1_isAheadOf_74
      · refine lv_iconst (v := (nI 1)) hx hb dX1_isAheadOf_50 (by decide) ?_
        refine lv_goto (tgt := 74) hx hb dX1_isAheadOf_51 (by decide) ?_
        exact z_retz hx hb hr hlocks rfl (bI_tt (by unfold ahcB fsI; first | (rw [if_neg c8]; first | exact decide_eq_true (Int32.not_le.mp c19) | exact decide_eq_false (fun q => absurd c19 (Int32.not_le.mpr q))) | (rw [if_pos c8, if_pos c36]; first | exact decide_eq_true c47 | exact decide_eq_false (Nat.not_lt.mpr c47)) | (rw [if_pos c8, if_neg c36]; first | exact decide_eq_true (Int32.not_le.mp c66) | exact decide_eq_false (fun q => absurd c66 (Int32.not_le.mpr q))))) dX1_isAheadOf_74
  · refine lv_aload_n hx hb dX1_isAheadOf_11 rfl (lv_at hl 0 rfl) ?_
    refine z_get (fs := [.int (nI p), .ref cq, .int (pm d p 1), .int (pm d p 2), .int (pm d p 2 / nI 10), .int (pm d p 2 - pm d p 2 / nI 10 * nI 10), .int (pm d p 3)]) (ref := "CranePermits$Permit") (C := RX1) (T := TX1) (N := 7) (ci := 1) (v := .int (pm d p 1)) hx hb hts i_c_X1_isAheadOf_X1 hown hK hΦ.1.1 2 (by decide) rfl (hts (.fieldLink RX1 17 "CranePermits$Permit" "night" "I") (List.mem_of_getElem? (i := 1) rfl)) rfl rfl dX1_isAheadOf_12 ?_
    refine lv_aload_n hx hb dX1_isAheadOf_15 rfl (lv_at hl 1 rfl) ?_
    refine z_get (fs := [.int (nI p2), .ref cq2, .int (pm d p2 1), .int (pm d p2 2), .int (pm d p2 2 / nI 10), .int (pm d p2 2 - pm d p2 2 / nI 10 * nI 10), .int (pm d p2 3)]) (ref := "CranePermits$Permit") (C := RX1) (T := TX1) (N := 7) (ci := 1) (v := .int (pm d p2 1)) hx hb hts i_c_X1_isAheadOf_X1 hown hK hΦ.2.1 2 (by decide) rfl (hts (.fieldLink RX1 17 "CranePermits$Permit" "night" "I") (List.mem_of_getElem? (i := 1) rfl)) rfl rfl dX1_isAheadOf_16 ?_
    refine lv_icmp_ge (tgt := 26) hx hb dX1_isAheadOf_19 (by decide) (fun c19 => ?_) (fun c19 => ?_)
    · refine lv_iconst (v := (nI 0)) hx hb dX1_isAheadOf_26 (by decide) ?_
      exact z_retz hx hb hr hlocks rfl (bI_ff (by unfold ahcB fsI; first | (rw [if_neg c8]; first | exact decide_eq_true (Int32.not_le.mp c19) | exact decide_eq_false (fun q => absurd c19 (Int32.not_le.mpr q))) | (rw [if_pos c8, if_pos c36]; first | exact decide_eq_true c47 | exact decide_eq_false (Nat.not_lt.mpr c47)) | (rw [if_pos c8, if_neg c36]; first | exact decide_eq_true (Int32.not_le.mp c66) | exact decide_eq_false (fun q => absurd c66 (Int32.not_le.mpr q))))) dX1_isAheadOf_27
    · refine lv_iconst (v := (nI 1)) hx hb dX1_isAheadOf_22 (by decide) ?_
      refine lv_goto (tgt := 27) hx hb dX1_isAheadOf_23 (by decide) ?_
      exact z_retz hx hb hr hlocks rfl (bI_tt (by unfold ahcB fsI; first | (rw [if_neg c8]; first | exact decide_eq_true (Int32.not_le.mp c19) | exact decide_eq_false (fun q => absurd c19 (Int32.not_le.mpr q))) | (rw [if_pos c8, if_pos c36]; first | exact decide_eq_true c47 | exact decide_eq_false (Nat.not_lt.mpr c47)) | (rw [if_pos c8, if_neg c36]; first | exact decide_eq_true (Int32.not_le.mp c66) | exact decide_eq_false (fun q => absurd c66 (Int32.not_le.mpr q))))) dX1_isAheadOf_27
