/-! THE REFERENCE: the methods that read -/
set_option maxRecDepth 100000 in
set_option maxHeartbeats 4000000 in
theorem c_X5_in (l : Launch) (D : va_G) (y : zY) (v : Int32) (lo : Int32) (hi : Int32)  : Met l yX5_in wsX5_in ({ frames := 0, cells := 0, slots := 0, locals := 0 }) (zP [.int v, .int lo, .int hi] zT0 D y) (zQ (some (.int (bI (inB v lo hi))))) 0 0 nofree := by
  refine z_body (cc := cX5_in) (maxL := 3) (ret := (some .boolean)) (la := [(0, .int v), (1, .int lo), (2, .int hi)]) (by decide) rfl (Nat.le_of_ble_eq_true rfl) rfl ?_
  intro pg ev s mm below meth c0 ls hx hb hr hF hlocks hΦ hK hl _
  have hts := hF.2.2.2.2
  have hown : s.vm.findClass RX5 = some mm.cls := hF.2.2.2.1
  refine lv_iload_n hx hb dX5_in_0 rfl (lv_at hl 0 rfl) ?_
  refine lv_iload_n hx hb dX5_in_1 rfl (lv_at hl 1 rfl) ?_
  refine lv_icmp_lt (tgt := 14) hx hb dX5_in_2 (by decide) (fun c2 => ?_) (fun c2 => ?_)
  · refine lv_iconst (v := (nI 0)) hx hb dX5_in_14 (by decide) ?_
    exact z_retz hx hb hr hlocks rfl (bI_ff (by unfold inB; first | (rw [decide_eq_false (Int32.not_le.mpr c2)]; rfl) | (rw [decide_eq_false (Int32.not_le.mpr c7)]; exact Bool.and_false _))) dX5_in_15
  · refine lv_iload_n hx hb dX5_in_5 rfl (lv_at hl 0 rfl) ?_
    refine lv_iload_n hx hb dX5_in_6 rfl (lv_at hl 2 rfl) ?_
    refine lv_icmp_gt (tgt := 14) hx hb dX5_in_7 (by decide) (fun c7 => ?_) (fun c7 => ?_)
    · refine lv_iconst (v := (nI 0)) hx hb dX5_in_14 (by decide) ?_
      exact z_retz hx hb hr hlocks rfl (bI_ff (by unfold inB; first | (rw [decide_eq_false (Int32.not_le.mpr c2)]; rfl) | (rw [decide_eq_false (Int32.not_le.mpr c7)]; exact Bool.and_false _))) dX5_in_15
    · refine lv_iconst (v := (nI 1)) hx hb dX5_in_10 (by decide) ?_
      refine lv_goto (tgt := 15) hx hb dX5_in_11 (by decide) ?_
      exact z_retz hx hb hr hlocks rfl (bI_tt (by simp only [inB, Bool.and_eq_true, decide_eq_true_eq]; exact ⟨Int32.not_lt.mp c2, Int32.not_lt.mp c7⟩)) dX5_in_15
theorem iX5_isCrane_X5 : ∀ w ∈ wsX50, w ∈ wsX5_isCrane := fun w h => (List.mem_cons_of_mem _ (List.mem_append_right _ h))
set_option maxRecDepth 100000 in
set_option maxHeartbeats 4000000 in
theorem c_X5_isCrane (l : Launch) (D : va_G) (y : zY) (m : Nat) (d : Nat → Int32) (c : Int32) (hI : zI d) : Met l yX5_isCrane wsX5_isCrane ({ frames := 1, cells := 0, slots := 0, locals := 22 }) (zP [.ref m, .int c] (zM D y m d) D y) (zQ (some (.int (bI (inB c (nI 0) (d 0 - nI 1)))))) 0 0 nofree := by
  refine z_body (cc := cX5_isCrane) (maxL := 2) (ret := (some .boolean)) (la := [(0, .ref m), (1, .int c)]) (by decide) rfl (Nat.le_of_ble_eq_true rfl) rfl ?_
  intro pg ev s mm below meth c0 ls hx hb hr hF hlocks hΦ hK hl _
  have hts := hF.2.2.2.2
  have hown : s.vm.findClass RX5 = some mm.cls := hF.2.2.2.1
  obtain ⟨⟨fs, hO⟩, hA⟩ := id hΦ
  have hG2 := hI.ng2
  have hC8 := hI.nc8
  refine lv_iload_n hx hb dX5_isCrane_0 rfl (lv_at hl 1 rfl) ?_
  refine lv_iconst (v := (nI 0)) hx hb dX5_isCrane_1 (by decide) ?_
  refine lv_aload_n hx hb dX5_isCrane_2 rfl (lv_at hl 0 rfl) ?_
  refine z_get (fs := (.ref (m + 1) :: fs)) (ref := "CranePermitsModel") (C := RX5) (T := TX5) (N := 9) (ci := 5) (v := .ref (m + 1)) hx hb hts iX5_isCrane_X5 hown hK hO 0 (by decide) rfl (hts (.fieldLink RX5 7 "CranePermitsModel" "d" "[I") (List.mem_of_getElem? (i := 1) rfl)) rfl rfl dX5_isCrane_3 ?_
  refine lv_iconst (v := (nI 0)) hx hb dX5_isCrane_6 (by decide) ?_
  refine z_iald (f := d) hx hb hK hA (by omega) (by decide) dX5_isCrane_7 ?_
  refine lv_iconst (v := (nI 1)) hx hb dX5_isCrane_8 (by decide) ?_
  refine lv_isub hx hb dX5_isCrane_9 ?_
  refine z_callS (As := [.int c, .int (nI 0), .int ((d 0) - (nI 1))]) (rest := []) hF hK (c_X5_in l D y c (nI 0) ((d 0) - (nI 1)) ) (va_cwS 3 hts gX5_isCrane_X5_in rfl rfl rfl (by decide +kernel) ⟨Nat.le_of_ble_eq_true rfl, Nat.le_of_ble_eq_true rfl⟩) trivial rfl hl.1 rfl (Nat.le_of_ble_eq_true rfl) dX5_isCrane_10 ⟨Nat.zero_le _, Nat.zero_le _⟩ ?_
  exact z_retz hx hb hr hlocks rfl (rfl) dX5_isCrane_13
theorem iX5_isPermit_X5 : ∀ w ∈ wsX50, w ∈ wsX5_isPermit := fun w h => (List.mem_cons_of_mem _ (List.mem_append_right _ h))
set_option maxRecDepth 100000 in
set_option maxHeartbeats 4000000 in
theorem c_X5_isPermit (l : Launch) (D : va_G) (y : zY) (m : Nat) (d : Nat → Int32) (c : Int32) (hI : zI d) : Met l yX5_isPermit wsX5_isPermit ({ frames := 1, cells := 0, slots := 0, locals := 22 }) (zP [.ref m, .int c] (zM D y m d) D y) (zQ (some (.int (bI (inB c (nI 0) (d 442 - nI 1)))))) 0 0 nofree := by
  refine z_body (cc := cX5_isPermit) (maxL := 2) (ret := (some .boolean)) (la := [(0, .ref m), (1, .int c)]) (by decide) rfl (Nat.le_of_ble_eq_true rfl) rfl ?_
  intro pg ev s mm below meth c0 ls hx hb hr hF hlocks hΦ hK hl _
  have hts := hF.2.2.2.2
  have hown : s.vm.findClass RX5 = some mm.cls := hF.2.2.2.1
  obtain ⟨⟨fs, hO⟩, hA⟩ := id hΦ
  have hG2 := hI.ng2
  have hC8 := hI.nc8
  refine lv_iload_n hx hb dX5_isPermit_0 rfl (lv_at hl 1 rfl) ?_
  refine lv_iconst (v := (nI 0)) hx hb dX5_isPermit_1 (by decide) ?_
  refine lv_aload_n hx hb dX5_isPermit_2 rfl (lv_at hl 0 rfl) ?_
  refine z_get (fs := (.ref (m + 1) :: fs)) (ref := "CranePermitsModel") (C := RX5) (T := TX5) (N := 9) (ci := 5) (v := .ref (m + 1)) hx hb hts iX5_isPermit_X5 hown hK hO 0 (by decide) rfl (hts (.fieldLink RX5 7 "CranePermitsModel" "d" "[I") (List.mem_of_getElem? (i := 1) rfl)) rfl rfl dX5_isPermit_3 ?_
  refine lv_sipush (v := (nI 442)) hx hb dX5_isPermit_6 (by decide) ?_
  refine z_iald (f := d) hx hb hK hA (by omega) (by decide) dX5_isPermit_9 ?_
  refine lv_iconst (v := (nI 1)) hx hb dX5_isPermit_10 (by decide) ?_
  refine lv_isub hx hb dX5_isPermit_11 ?_
  refine z_callS (As := [.int c, .int (nI 0), .int ((d 442) - (nI 1))]) (rest := []) hF hK (c_X5_in l D y c (nI 0) ((d 442) - (nI 1)) ) (va_cwS 3 hts gX5_isPermit_X5_in rfl rfl rfl (by decide +kernel) ⟨Nat.le_of_ble_eq_true rfl, Nat.le_of_ble_eq_true rfl⟩) trivial rfl hl.1 rfl (Nat.le_of_ble_eq_true rfl) dX5_isPermit_12 ⟨Nat.zero_le _, Nat.zero_le _⟩ ?_
  exact z_retz hx hb hr hlocks rfl (rfl) dX5_isPermit_15
set_option maxRecDepth 100000 in
set_option maxHeartbeats 4000000 in
theorem c_X5_isNight (l : Launch) (D : va_G) (y : zY) (n : Int32)  : Met l yX5_isNight wsX5_isNight ({ frames := 1, cells := 0, slots := 0, locals := 22 }) (zP [.int n] zT0 D y) (zQ (some (.int (bI (inB n (nI 0) (nI 29)))))) 0 0 nofree := by
  refine z_body (cc := cX5_isNight) (maxL := 1) (ret := (some .boolean)) (la := [(0, .int n)]) (by decide) rfl (Nat.le_of_ble_eq_true rfl) rfl ?_
  intro pg ev s mm below meth c0 ls hx hb hr hF hlocks hΦ hK hl _
  have hts := hF.2.2.2.2
  have hown : s.vm.findClass RX5 = some mm.cls := hF.2.2.2.1
  refine lv_iload_n hx hb dX5_isNight_0 rfl (lv_at hl 0 rfl) ?_
  refine lv_iconst (v := (nI 0)) hx hb dX5_isNight_1 (by decide) ?_
  refine lv_bipush (v := (nI 29)) hx hb dX5_isNight_2 (by decide) ?_
  refine z_callS (As := [.int n, .int (nI 0), .int (nI 29)]) (rest := []) hF hK (c_X5_in l D y n (nI 0) (nI 29) ) (va_cwS 3 hts gX5_isNight_X5_in rfl rfl rfl (by decide +kernel) ⟨Nat.le_of_ble_eq_true rfl, Nat.le_of_ble_eq_true rfl⟩) trivial rfl hl.1 rfl (Nat.le_of_ble_eq_true rfl) dX5_isNight_4 ⟨Nat.zero_le _, Nat.zero_le _⟩ ?_
  exact z_retz hx hb hr hlocks rfl (rfl) dX5_isNight_7
set_option maxRecDepth 100000 in
set_option maxHeartbeats 4000000 in
theorem c_X5_isStreet (l : Launch) (D : va_G) (y : zY) (n : Int32)  : Met l yX5_isStreet wsX5_isStreet ({ frames := 1, cells := 0, slots := 0, locals := 22 }) (zP [.int n] zT0 D y) (zQ (some (.int (bI (inB n (nI 0) (nI 3)))))) 0 0 nofree := by
  refine z_body (cc := cX5_isStreet) (maxL := 1) (ret := (some .boolean)) (la := [(0, .int n)]) (by decide) rfl (Nat.le_of_ble_eq_true rfl) rfl ?_
  intro pg ev s mm below meth c0 ls hx hb hr hF hlocks hΦ hK hl _
  have hts := hF.2.2.2.2
  have hown : s.vm.findClass RX5 = some mm.cls := hF.2.2.2.1
  refine lv_iload_n hx hb dX5_isStreet_0 rfl (lv_at hl 0 rfl) ?_
  refine lv_iconst (v := (nI 0)) hx hb dX5_isStreet_1 (by decide) ?_
  refine lv_iconst (v := (nI 3)) hx hb dX5_isStreet_2 (by decide) ?_
  refine z_callS (As := [.int n, .int (nI 0), .int (nI 3)]) (rest := []) hF hK (c_X5_in l D y n (nI 0) (nI 3) ) (va_cwS 3 hts gX5_isStreet_X5_in rfl rfl rfl (by decide +kernel) ⟨Nat.le_of_ble_eq_true rfl, Nat.le_of_ble_eq_true rfl⟩) trivial rfl hl.1 rfl (Nat.le_of_ble_eq_true rfl) dX5_isStreet_3 ⟨Nat.zero_le _, Nat.zero_le _⟩ ?_
  exact z_retz hx hb hr hlocks rfl (rfl) dX5_isStreet_6
set_option maxRecDepth 100000 in
set_option maxHeartbeats 4000000 in
theorem c_X5_isSwing (l : Launch) (D : va_G) (y : zY) (n : Int32)  : Met l yX5_isSwing wsX5_isSwing ({ frames := 1, cells := 0, slots := 0, locals := 22 }) (zP [.int n] zT0 D y) (zQ (some (.int (bI (inB n (nI 1) (nI 255)))))) 0 0 nofree := by
  refine z_body (cc := cX5_isSwing) (maxL := 1) (ret := (some .boolean)) (la := [(0, .int n)]) (by decide) rfl (Nat.le_of_ble_eq_true rfl) rfl ?_
  intro pg ev s mm below meth c0 ls hx hb hr hF hlocks hΦ hK hl _
  have hts := hF.2.2.2.2
  have hown : s.vm.findClass RX5 = some mm.cls := hF.2.2.2.1
  refine lv_iload_n hx hb dX5_isSwing_0 rfl (lv_at hl 0 rfl) ?_
  refine lv_iconst (v := (nI 1)) hx hb dX5_isSwing_1 (by decide) ?_
  refine lv_sipush (v := (nI 255)) hx hb dX5_isSwing_2 (by decide) ?_
  refine z_callS (As := [.int n, .int (nI 1), .int (nI 255)]) (rest := []) hF hK (c_X5_in l D y n (nI 1) (nI 255) ) (va_cwS 3 hts gX5_isSwing_X5_in rfl rfl rfl (by decide +kernel) ⟨Nat.le_of_ble_eq_true rfl, Nat.le_of_ble_eq_true rfl⟩) trivial rfl hl.1 rfl (Nat.le_of_ble_eq_true rfl) dX5_isSwing_5 ⟨Nat.zero_le _, Nat.zero_le _⟩ ?_
  exact z_retz hx hb hr hlocks rfl (rfl) dX5_isSwing_8
set_option maxRecDepth 100000 in
set_option maxHeartbeats 4000000 in
theorem c_X5_areHours (l : Launch) (D : va_G) (y : zY) (h : Int32)  : Met l yX5_areHours wsX5_areHours ({ frames := 1, cells := 0, slots := 0, locals := 22 }) (zP [.int h] zT0 D y) (zQ (some (.int (bI (ahrB h))))) 0 0 nofree := by
  refine z_body (cc := cX5_areHours) (maxL := 1) (ret := (some .boolean)) (la := [(0, .int h)]) (by decide) rfl (Nat.le_of_ble_eq_true rfl) rfl ?_
  intro pg ev s mm below meth c0 ls hx hb hr hF hlocks hΦ hK hl _
  have hts := hF.2.2.2.2
  have hown : s.vm.findClass RX5 = some mm.cls := hF.2.2.2.1
  refine lv_iload_n hx hb dX5_areHours_0 rfl (lv_at hl 0 rfl) ?_
  refine lv_iconst (v := (nI 0)) hx hb dX5_areHours_1 (by decide) ?_
  refine lv_bipush (v := (nI 99)) hx hb dX5_areHours_2 (by decide) ?_
  refine z_callS (As := [.int h, .int (nI 0), .int (nI 99)]) (rest := []) hF hK (c_X5_in l D y h (nI 0) (nI 99) ) (va_cwS 3 hts gX5_areHours_X5_in rfl rfl rfl (by decide +kernel) ⟨Nat.le_of_ble_eq_true rfl, Nat.le_of_ble_eq_true rfl⟩) trivial rfl hl.1 rfl (Nat.le_of_ble_eq_true rfl) dX5_areHours_4 ⟨Nat.zero_le _, Nat.zero_le _⟩ ?_
  refine z_ifeq (tgt := 25) hx hb dX5_areHours_7 (by decide) (fun c7 => ?_) (fun c7 => ?_)
  · refine lv_iconst (v := (nI 0)) hx hb dX5_areHours_25 (by decide) ?_
    exact z_retz hx hb hr hlocks rfl (bI_ff (by first | (simp only [ahrB, c7, if_true, if_false, eq_self, decide_true, decide_false, Bool.and_true, Bool.true_and, Bool.and_false, Bool.false_and, Bool.or_true, Bool.true_or, Bool.or_false, Bool.false_or, Bool.not_true, Bool.not_false, not_true_eq_false, not_false_eq_true, and_true, true_and, and_false, false_and, gt_iff_lt, ge_iff_le, ne_eq, Bool.false_eq_true]; done) | (simp [ahrB, c7]; done) | (simp_all [ahrB, c7]; done))) dX5_areHours_26
  · refine lv_iload_n hx hb dX5_areHours_10 rfl (lv_at hl 0 rfl) ?_
    refine lv_bipush (v := (nI 10)) hx hb dX5_areHours_11 (by decide) ?_
    refine lv_idiv hx hb dX5_areHours_13 (by decide) ?_
    refine lv_iload_n hx hb dX5_areHours_14 rfl (lv_at hl 0 rfl) ?_
    refine lv_bipush (v := (nI 10)) hx hb dX5_areHours_15 (by decide) ?_
    refine lv_irem hx hb dX5_areHours_17 (by decide) ?_
    refine lv_icmp_gt (tgt := 25) hx hb dX5_areHours_18 (by decide) (fun c18 => ?_) (fun c18 => ?_)
    · refine lv_iconst (v := (nI 0)) hx hb dX5_areHours_25 (by decide) ?_
      exact z_retz hx hb hr hlocks rfl (bI_ff (by first | (simp only [ahrB, c7, c18, if_true, if_false, eq_self, decide_true, decide_false, Bool.and_true, Bool.true_and, Bool.and_false, Bool.false_and, Bool.or_true, Bool.true_or, Bool.or_false, Bool.false_or, Bool.not_true, Bool.not_false, not_true_eq_false, not_false_eq_true, and_true, true_and, and_false, false_and, gt_iff_lt, ge_iff_le, ne_eq, Bool.false_eq_true]; done) | (simp [ahrB, c7, c18]; done) | (simp_all [ahrB, c7, c18]; done))) dX5_areHours_26
    · refine lv_iconst (v := (nI 1)) hx hb dX5_areHours_21 (by decide) ?_
      refine lv_goto (tgt := 26) hx hb dX5_areHours_22 (by decide) ?_
      exact z_retz hx hb hr hlocks rfl (bI_tt (by first | (simp only [ahrB, c7, c18, if_true, if_false, eq_self, decide_true, decide_false, Bool.and_true, Bool.true_and, Bool.and_false, Bool.false_and, Bool.or_true, Bool.true_or, Bool.or_false, Bool.false_or, Bool.not_true, Bool.not_false, not_true_eq_false, not_false_eq_true, and_true, true_and, and_false, false_and, gt_iff_lt, ge_iff_le, ne_eq, Bool.false_eq_true]; done) | (simp [ahrB, c7, c18]; done) | (simp_all [ahrB, c7, c18]; done))) dX5_areHours_26
theorem iX5_craned_X5 : ∀ w ∈ wsX50, w ∈ wsX5_craned := fun w h => (List.mem_cons_of_mem _ (List.mem_append_right _ h))
set_option maxRecDepth 100000 in
set_option maxHeartbeats 4000000 in
theorem c_X5_craned (l : Launch) (D : va_G) (y : zY) (m : Nat) (d : Nat → Int32) (c : Nat) (k : Nat) (hc : c < 8) (hk : k < 6) : Met l yX5_craned wsX5_craned ({ frames := 0, cells := 0, slots := 0, locals := 0 }) (zP [.ref m, .int (nI c), .int (nI k)] (zM D y m d) D y) (zQ (some (.int (gr d c k)))) 0 0 nofree := by
  refine z_body (cc := cX5_craned) (maxL := 3) (ret := (some .int)) (la := [(0, .ref m), (1, .int (nI c)), (2, .int (nI k))]) (by decide) rfl (Nat.le_of_ble_eq_true rfl) rfl ?_
  intro pg ev s mm below meth c0 ls hx hb hr hF hlocks hΦ hK hl _
  have hts := hF.2.2.2.2
  have hown : s.vm.findClass RX5 = some mm.cls := hF.2.2.2.1
  obtain ⟨⟨fs, hO⟩, hA⟩ := id hΦ
  refine lv_aload_n hx hb dX5_craned_0 rfl (lv_at hl 0 rfl) ?_
  refine z_get (fs := (.ref (m + 1) :: fs)) (ref := "CranePermitsModel") (C := RX5) (T := TX5) (N := 9) (ci := 5) (v := .ref (m + 1)) hx hb hts iX5_craned_X5 hown hK hO 0 (by decide) rfl (hts (.fieldLink RX5 7 "CranePermitsModel" "d" "[I") (List.mem_of_getElem? (i := 1) rfl)) rfl rfl dX5_craned_1 ?_
  refine lv_iconst (v := (nI 4)) hx hb dX5_craned_4 (by decide) ?_
  refine lv_bipush (v := (nI 6)) hx hb dX5_craned_5 (by decide) ?_
  refine lv_iload_n hx hb dX5_craned_7 rfl (lv_at hl 1 rfl) ?_
  refine z_imul hx hb dX5_craned_8 ?_
  refine z_iadd hx hb dX5_craned_9 ?_
  refine lv_iload_n hx hb dX5_craned_10 rfl (lv_at hl 2 rfl) ?_
  refine z_iadd hx hb dX5_craned_11 ?_
  refine z_iald (f := d) hx hb hK hA (by omega) (by decide) dX5_craned_12 ?_
  exact z_reti hx hb hr hlocks rfl (rfl) dX5_craned_13
theorem iX5_of_X5 : ∀ w ∈ wsX50, w ∈ wsX5_of := fun w h => (List.mem_cons_of_mem _ (List.mem_append_right _ h))
set_option maxRecDepth 100000 in
set_option maxHeartbeats 4000000 in
theorem c_X5_of (l : Launch) (D : va_G) (y : zY) (m : Nat) (d : Nat → Int32) (p : Nat) (k : Nat) (hp : p < 200) (hk : k < 5) : Met l yX5_of wsX5_of ({ frames := 0, cells := 0, slots := 0, locals := 0 }) (zP [.ref m, .int (nI p), .int (nI k)] (zM D y m d) D y) (zQ (some (.int (pm d p k)))) 0 0 nofree := by
  refine z_body (cc := cX5_of) (maxL := 3) (ret := (some .int)) (la := [(0, .ref m), (1, .int (nI p)), (2, .int (nI k))]) (by decide) rfl (Nat.le_of_ble_eq_true rfl) rfl ?_
  intro pg ev s mm below meth c0 ls hx hb hr hF hlocks hΦ hK hl _
  have hts := hF.2.2.2.2
  have hown : s.vm.findClass RX5 = some mm.cls := hF.2.2.2.1
  obtain ⟨⟨fs, hO⟩, hA⟩ := id hΦ
  refine lv_aload_n hx hb dX5_of_0 rfl (lv_at hl 0 rfl) ?_
  refine z_get (fs := (.ref (m + 1) :: fs)) (ref := "CranePermitsModel") (C := RX5) (T := TX5) (N := 9) (ci := 5) (v := .ref (m + 1)) hx hb hts iX5_of_X5 hown hK hO 0 (by decide) rfl (hts (.fieldLink RX5 7 "CranePermitsModel" "d" "[I") (List.mem_of_getElem? (i := 1) rfl)) rfl rfl dX5_of_1 ?_
  refine lv_sipush (v := (nI 445)) hx hb dX5_of_4 (by decide) ?_
  refine lv_iconst (v := (nI 5)) hx hb dX5_of_7 (by decide) ?_
  refine lv_iload_n hx hb dX5_of_8 rfl (lv_at hl 1 rfl) ?_
  refine z_imul hx hb dX5_of_9 ?_
  refine z_iadd hx hb dX5_of_10 ?_
  refine lv_iload_n hx hb dX5_of_11 rfl (lv_at hl 2 rfl) ?_
  refine z_iadd hx hb dX5_of_12 ?_
  refine z_iald (f := d) hx hb hK hA (by omega) (by decide) dX5_of_13 ?_
  exact z_reti hx hb hr hlocks rfl (rfl) dX5_of_14
set_option maxRecDepth 100000 in
set_option maxHeartbeats 4000000 in
theorem c_X5_spot (l : Launch) (D : va_G) (y : zY) (st : Nat) (n : Nat)  : Met l yX5_spot wsX5_spot ({ frames := 0, cells := 0, slots := 0, locals := 0 }) (zP [.int (nI st), .int (nI n)] zT0 D y) (zQ (some (.int (nI (30 * st + n))))) 0 0 nofree := by
  refine z_body (cc := cX5_spot) (maxL := 2) (ret := (some .int)) (la := [(0, .int (nI st)), (1, .int (nI n))]) (by decide) rfl (Nat.le_of_ble_eq_true rfl) rfl ?_
  intro pg ev s mm below meth c0 ls hx hb hr hF hlocks hΦ hK hl _
  have hts := hF.2.2.2.2
  have hown : s.vm.findClass RX5 = some mm.cls := hF.2.2.2.1
  refine lv_bipush (v := (nI 30)) hx hb dX5_spot_0 (by decide) ?_
  refine lv_iload_n hx hb dX5_spot_2 rfl (lv_at hl 0 rfl) ?_
  refine z_imul hx hb dX5_spot_3 ?_
  refine lv_iload_n hx hb dX5_spot_4 rfl (lv_at hl 1 rfl) ?_
  refine z_iadd hx hb dX5_spot_5 ?_
  exact z_reti hx hb hr hlocks rfl (rfl) dX5_spot_6
set_option maxRecDepth 100000 in
set_option maxHeartbeats 4000000 in
theorem c_X5_direction (l : Launch) (D : va_G) (y : zY) (dx : Int32) (dy : Int32)  : Met l yX5_direction wsX5_direction ({ frames := 0, cells := 0, slots := 0, locals := 0 }) (zP [.int dx, .int dy] zT0 D y) (zQ (some (.int (dirI dx dy)))) 0 0 nofree := by
  refine z_body (cc := cX5_direction) (maxL := 2) (ret := (some .int)) (la := [(0, .int dx), (1, .int dy)]) (by decide) rfl (Nat.le_of_ble_eq_true rfl) rfl ?_
  intro pg ev s mm below meth c0 ls hx hb hr hF hlocks hΦ hK hl _
  have hts := hF.2.2.2.2
  have hown : s.vm.findClass RX5 = some mm.cls := hF.2.2.2.1
  refine lv_iload_n hx hb dX5_direction_0 rfl (lv_at hl 0 rfl) ?_
  refine lv_if_le (tgt := 19) hx hb dX5_direction_1 (by decide) (fun c1 => ?_) (fun c1 => ?_)
  · refine lv_iload_n hx hb dX5_direction_19 rfl (lv_at hl 0 rfl) ?_
    refine lv_if_gt (tgt := 39) hx hb dX5_direction_20 (by decide) (fun c20 => ?_) (fun c20 => ?_)
    · refine lv_iload_n hx hb dX5_direction_39 rfl (lv_at hl 0 rfl) ?_
      refine lv_if_ge (tgt := 60) hx hb dX5_direction_40 (by decide) (fun c40 => ?_) (fun c40 => ?_)
      · refine lv_iload_n hx hb dX5_direction_60 rfl (lv_at hl 0 rfl) ?_
        refine lv_iload_n hx hb dX5_direction_61 rfl (lv_at hl 1 rfl) ?_
        refine lv_ineg hx hb dX5_direction_62 ?_
        refine lv_icmp_ge (tgt := 71) hx hb dX5_direction_63 (by decide) (fun c63 => ?_) (fun c63 => ?_)
        · refine lv_bipush (v := (nI 7)) hx hb dX5_direction_71 (by decide) ?_
          exact z_reti hx hb hr hlocks rfl (by first | (simp only [dirI, c1, c20, c40, c63, if_true, if_false, eq_self, decide_true, decide_false, Bool.and_true, Bool.true_and, Bool.and_false, Bool.false_and, Bool.or_true, Bool.true_or, Bool.or_false, Bool.false_or, Bool.not_true, Bool.not_false, not_true_eq_false, not_false_eq_true, and_true, true_and, and_false, false_and, gt_iff_lt, ge_iff_le, ne_eq, Bool.false_eq_true]; done) | (simp [dirI, c1, c20, c40, c63]; done) | (simp_all [dirI, c1, c20, c40, c63]; done)) dX5_direction_73
        · refine lv_bipush (v := (nI 6)) hx hb dX5_direction_66 (by decide) ?_
          refine lv_goto (tgt := 73) hx hb dX5_direction_68 (by decide) ?_
          exact z_reti hx hb hr hlocks rfl (by first | (simp only [dirI, c1, c20, c40, c63, if_true, if_false, eq_self, decide_true, decide_false, Bool.and_true, Bool.true_and, Bool.and_false, Bool.false_and, Bool.or_true, Bool.true_or, Bool.or_false, Bool.false_or, Bool.not_true, Bool.not_false, not_true_eq_false, not_false_eq_true, and_true, true_and, and_false, false_and, gt_iff_lt, ge_iff_le, ne_eq, Bool.false_eq_true]; done) | (simp [dirI, c1, c20, c40, c63]; done) | (simp_all [dirI, c1, c20, c40, c63]; done)) dX5_direction_73
      · refine lv_iload_n hx hb dX5_direction_43 rfl (lv_at hl 1 rfl) ?_
        refine lv_if_gt (tgt := 60) hx hb dX5_direction_44 (by decide) (fun c44 => ?_) (fun c44 => ?_)
        · refine lv_iload_n hx hb dX5_direction_60 rfl (lv_at hl 0 rfl) ?_
          refine lv_iload_n hx hb dX5_direction_61 rfl (lv_at hl 1 rfl) ?_
          refine lv_ineg hx hb dX5_direction_62 ?_
          refine lv_icmp_ge (tgt := 71) hx hb dX5_direction_63 (by decide) (fun c63 => ?_) (fun c63 => ?_)
          · refine lv_bipush (v := (nI 7)) hx hb dX5_direction_71 (by decide) ?_
            exact z_reti hx hb hr hlocks rfl (by first | (simp only [dirI, c1, c20, c40, c44, c63, if_true, if_false, eq_self, decide_true, decide_false, Bool.and_true, Bool.true_and, Bool.and_false, Bool.false_and, Bool.or_true, Bool.true_or, Bool.or_false, Bool.false_or, Bool.not_true, Bool.not_false, not_true_eq_false, not_false_eq_true, and_true, true_and, and_false, false_and, gt_iff_lt, ge_iff_le, ne_eq, Bool.false_eq_true]; done) | (simp [dirI, c1, c20, c40, c44, c63]; done) | (simp_all [dirI, c1, c20, c40, c44, c63]; done)) dX5_direction_73
          · refine lv_bipush (v := (nI 6)) hx hb dX5_direction_66 (by decide) ?_
            refine lv_goto (tgt := 73) hx hb dX5_direction_68 (by decide) ?_
            exact z_reti hx hb hr hlocks rfl (by first | (simp only [dirI, c1, c20, c40, c44, c63, if_true, if_false, eq_self, decide_true, decide_false, Bool.and_true, Bool.true_and, Bool.and_false, Bool.false_and, Bool.or_true, Bool.true_or, Bool.or_false, Bool.false_or, Bool.not_true, Bool.not_false, not_true_eq_false, not_false_eq_true, and_true, true_and, and_false, false_and, gt_iff_lt, ge_iff_le, ne_eq, Bool.false_eq_true]; done) | (simp [dirI, c1, c20, c40, c44, c63]; done) | (simp_all [dirI, c1, c20, c40, c44, c63]; done)) dX5_direction_73
        · refine lv_iload_n hx hb dX5_direction_47 rfl (lv_at hl 1 rfl) ?_
          refine lv_ineg hx hb dX5_direction_48 ?_
          refine lv_iload_n hx hb dX5_direction_49 rfl (lv_at hl 0 rfl) ?_
          refine lv_ineg hx hb dX5_direction_50 ?_
          refine lv_icmp_ge (tgt := 58) hx hb dX5_direction_51 (by decide) (fun c51 => ?_) (fun c51 => ?_)
          · refine lv_iconst (v := (nI 5)) hx hb dX5_direction_58 (by decide) ?_
            exact z_reti hx hb hr hlocks rfl (by first | (simp only [dirI, c1, c20, c40, c44, c51, if_true, if_false, eq_self, decide_true, decide_false, Bool.and_true, Bool.true_and, Bool.and_false, Bool.false_and, Bool.or_true, Bool.true_or, Bool.or_false, Bool.false_or, Bool.not_true, Bool.not_false, not_true_eq_false, not_false_eq_true, and_true, true_and, and_false, false_and, gt_iff_lt, ge_iff_le, ne_eq, Bool.false_eq_true]; done) | (simp [dirI, c1, c20, c40, c44, c51]; done) | (simp_all [dirI, c1, c20, c40, c44, c51]; done)) dX5_direction_59
          · refine lv_iconst (v := (nI 4)) hx hb dX5_direction_54 (by decide) ?_
            refine lv_goto (tgt := 59) hx hb dX5_direction_55 (by decide) ?_
            exact z_reti hx hb hr hlocks rfl (by first | (simp only [dirI, c1, c20, c40, c44, c51, if_true, if_false, eq_self, decide_true, decide_false, Bool.and_true, Bool.true_and, Bool.and_false, Bool.false_and, Bool.or_true, Bool.true_or, Bool.or_false, Bool.false_or, Bool.not_true, Bool.not_false, not_true_eq_false, not_false_eq_true, and_true, true_and, and_false, false_and, gt_iff_lt, ge_iff_le, ne_eq, Bool.false_eq_true]; done) | (simp [dirI, c1, c20, c40, c44, c51]; done) | (simp_all [dirI, c1, c20, c40, c44, c51]; done)) dX5_direction_59
    · refine lv_iload_n hx hb dX5_direction_23 rfl (lv_at hl 1 rfl) ?_
      refine lv_if_le (tgt := 39) hx hb dX5_direction_24 (by decide) (fun c24 => ?_) (fun c24 => ?_)
      · refine lv_iload_n hx hb dX5_direction_39 rfl (lv_at hl 0 rfl) ?_
        refine lv_if_ge (tgt := 60) hx hb dX5_direction_40 (by decide) (fun c40 => ?_) (fun c40 => ?_)
        · refine lv_iload_n hx hb dX5_direction_60 rfl (lv_at hl 0 rfl) ?_
          refine lv_iload_n hx hb dX5_direction_61 rfl (lv_at hl 1 rfl) ?_
          refine lv_ineg hx hb dX5_direction_62 ?_
          refine lv_icmp_ge (tgt := 71) hx hb dX5_direction_63 (by decide) (fun c63 => ?_) (fun c63 => ?_)
          · refine lv_bipush (v := (nI 7)) hx hb dX5_direction_71 (by decide) ?_
            exact z_reti hx hb hr hlocks rfl (by first | (simp only [dirI, c1, c20, c24, c40, c63, if_true, if_false, eq_self, decide_true, decide_false, Bool.and_true, Bool.true_and, Bool.and_false, Bool.false_and, Bool.or_true, Bool.true_or, Bool.or_false, Bool.false_or, Bool.not_true, Bool.not_false, not_true_eq_false, not_false_eq_true, and_true, true_and, and_false, false_and, gt_iff_lt, ge_iff_le, ne_eq, Bool.false_eq_true]; done) | (simp [dirI, c1, c20, c24, c40, c63]; done) | (simp_all [dirI, c1, c20, c24, c40, c63]; done)) dX5_direction_73
          · refine lv_bipush (v := (nI 6)) hx hb dX5_direction_66 (by decide) ?_
            refine lv_goto (tgt := 73) hx hb dX5_direction_68 (by decide) ?_
            exact z_reti hx hb hr hlocks rfl (by first | (simp only [dirI, c1, c20, c24, c40, c63, if_true, if_false, eq_self, decide_true, decide_false, Bool.and_true, Bool.true_and, Bool.and_false, Bool.false_and, Bool.or_true, Bool.true_or, Bool.or_false, Bool.false_or, Bool.not_true, Bool.not_false, not_true_eq_false, not_false_eq_true, and_true, true_and, and_false, false_and, gt_iff_lt, ge_iff_le, ne_eq, Bool.false_eq_true]; done) | (simp [dirI, c1, c20, c24, c40, c63]; done) | (simp_all [dirI, c1, c20, c24, c40, c63]; done)) dX5_direction_73
        · refine lv_iload_n hx hb dX5_direction_43 rfl (lv_at hl 1 rfl) ?_
          refine lv_if_gt (tgt := 60) hx hb dX5_direction_44 (by decide) (fun c44 => ?_) (fun c44 => ?_)
          · refine lv_iload_n hx hb dX5_direction_60 rfl (lv_at hl 0 rfl) ?_
            refine lv_iload_n hx hb dX5_direction_61 rfl (lv_at hl 1 rfl) ?_
            refine lv_ineg hx hb dX5_direction_62 ?_
            refine lv_icmp_ge (tgt := 71) hx hb dX5_direction_63 (by decide) (fun c63 => ?_) (fun c63 => ?_)
            · refine lv_bipush (v := (nI 7)) hx hb dX5_direction_71 (by decide) ?_
              exact z_reti hx hb hr hlocks rfl (by first | (simp only [dirI, c1, c20, c24, c40, c44, c63, if_true, if_false, eq_self, decide_true, decide_false, Bool.and_true, Bool.true_and, Bool.and_false, Bool.false_and, Bool.or_true, Bool.true_or, Bool.or_false, Bool.false_or, Bool.not_true, Bool.not_false, not_true_eq_false, not_false_eq_true, and_true, true_and, and_false, false_and, gt_iff_lt, ge_iff_le, ne_eq, Bool.false_eq_true]; done) | (simp [dirI, c1, c20, c24, c40, c44, c63]; done) | (simp_all [dirI, c1, c20, c24, c40, c44, c63]; done)) dX5_direction_73
            · refine lv_bipush (v := (nI 6)) hx hb dX5_direction_66 (by decide) ?_
              refine lv_goto (tgt := 73) hx hb dX5_direction_68 (by decide) ?_
              exact z_reti hx hb hr hlocks rfl (by first | (simp only [dirI, c1, c20, c24, c40, c44, c63, if_true, if_false, eq_self, decide_true, decide_false, Bool.and_true, Bool.true_and, Bool.and_false, Bool.false_and, Bool.or_true, Bool.true_or, Bool.or_false, Bool.false_or, Bool.not_true, Bool.not_false, not_true_eq_false, not_false_eq_true, and_true, true_and, and_false, false_and, gt_iff_lt, ge_iff_le, ne_eq, Bool.false_eq_true]; done) | (simp [dirI, c1, c20, c24, c40, c44, c63]; done) | (simp_all [dirI, c1, c20, c24, c40, c44, c63]; done)) dX5_direction_73
          · refine lv_iload_n hx hb dX5_direction_47 rfl (lv_at hl 1 rfl) ?_
            refine lv_ineg hx hb dX5_direction_48 ?_
            refine lv_iload_n hx hb dX5_direction_49 rfl (lv_at hl 0 rfl) ?_
            refine lv_ineg hx hb dX5_direction_50 ?_
            refine lv_icmp_ge (tgt := 58) hx hb dX5_direction_51 (by decide) (fun c51 => ?_) (fun c51 => ?_)
            · refine lv_iconst (v := (nI 5)) hx hb dX5_direction_58 (by decide) ?_
              exact z_reti hx hb hr hlocks rfl (by first | (simp only [dirI, c1, c20, c24, c40, c44, c51, if_true, if_false, eq_self, decide_true, decide_false, Bool.and_true, Bool.true_and, Bool.and_false, Bool.false_and, Bool.or_true, Bool.true_or, Bool.or_false, Bool.false_or, Bool.not_true, Bool.not_false, not_true_eq_false, not_false_eq_true, and_true, true_and, and_false, false_and, gt_iff_lt, ge_iff_le, ne_eq, Bool.false_eq_true]; done) | (simp [dirI, c1, c20, c24, c40, c44, c51]; done) | (simp_all [dirI, c1, c20, c24, c40, c44, c51]; done)) dX5_direction_59
            · refine lv_iconst (v := (nI 4)) hx hb dX5_direction_54 (by decide) ?_
              refine lv_goto (tgt := 59) hx hb dX5_direction_55 (by decide) ?_
              exact z_reti hx hb hr hlocks rfl (by first | (simp only [dirI, c1, c20, c24, c40, c44, c51, if_true, if_false, eq_self, decide_true, decide_false, Bool.and_true, Bool.true_and, Bool.and_false, Bool.false_and, Bool.or_true, Bool.true_or, Bool.or_false, Bool.false_or, Bool.not_true, Bool.not_false, not_true_eq_false, not_false_eq_true, and_true, true_and, and_false, false_and, gt_iff_lt, ge_iff_le, ne_eq, Bool.false_eq_true]; done) | (simp [dirI, c1, c20, c24, c40, c44, c51]; done) | (simp_all [dirI, c1, c20, c24, c40, c44, c51]; done)) dX5_direction_59
      · refine lv_iload_n hx hb dX5_direction_27 rfl (lv_at hl 0 rfl) ?_
        refine lv_ineg hx hb dX5_direction_28 ?_
        refine lv_iload_n hx hb dX5_direction_29 rfl (lv_at hl 1 rfl) ?_
        refine lv_icmp_ge (tgt := 37) hx hb dX5_direction_30 (by decide) (fun c30 => ?_) (fun c30 => ?_)
        · refine lv_iconst (v := (nI 3)) hx hb dX5_direction_37 (by decide) ?_
          exact z_reti hx hb hr hlocks rfl (by first | (simp only [dirI, c1, c20, c24, c30, if_true, if_false, eq_self, decide_true, decide_false, Bool.and_true, Bool.true_and, Bool.and_false, Bool.false_and, Bool.or_true, Bool.true_or, Bool.or_false, Bool.false_or, Bool.not_true, Bool.not_false, not_true_eq_false, not_false_eq_true, and_true, true_and, and_false, false_and, gt_iff_lt, ge_iff_le, ne_eq, Bool.false_eq_true]; done) | (simp [dirI, c1, c20, c24, c30]; done) | (simp_all [dirI, c1, c20, c24, c30]; done)) dX5_direction_38
        · refine lv_iconst (v := (nI 2)) hx hb dX5_direction_33 (by decide) ?_
          refine lv_goto (tgt := 38) hx hb dX5_direction_34 (by decide) ?_
          exact z_reti hx hb hr hlocks rfl (by first | (simp only [dirI, c1, c20, c24, c30, if_true, if_false, eq_self, decide_true, decide_false, Bool.and_true, Bool.true_and, Bool.and_false, Bool.false_and, Bool.or_true, Bool.true_or, Bool.or_false, Bool.false_or, Bool.not_true, Bool.not_false, not_true_eq_false, not_false_eq_true, and_true, true_and, and_false, false_and, gt_iff_lt, ge_iff_le, ne_eq, Bool.false_eq_true]; done) | (simp [dirI, c1, c20, c24, c30]; done) | (simp_all [dirI, c1, c20, c24, c30]; done)) dX5_direction_38
  · refine lv_iload_n hx hb dX5_direction_4 rfl (lv_at hl 1 rfl) ?_
    refine lv_if_lt (tgt := 19) hx hb dX5_direction_5 (by decide) (fun c5 => ?_) (fun c5 => ?_)
    · refine lv_iload_n hx hb dX5_direction_19 rfl (lv_at hl 0 rfl) ?_
      refine lv_if_gt (tgt := 39) hx hb dX5_direction_20 (by decide) (fun c20 => ?_) (fun c20 => ?_)
      · refine lv_iload_n hx hb dX5_direction_39 rfl (lv_at hl 0 rfl) ?_
        refine lv_if_ge (tgt := 60) hx hb dX5_direction_40 (by decide) (fun c40 => ?_) (fun c40 => ?_)
        · refine lv_iload_n hx hb dX5_direction_60 rfl (lv_at hl 0 rfl) ?_
          refine lv_iload_n hx hb dX5_direction_61 rfl (lv_at hl 1 rfl) ?_
          refine lv_ineg hx hb dX5_direction_62 ?_
          refine lv_icmp_ge (tgt := 71) hx hb dX5_direction_63 (by decide) (fun c63 => ?_) (fun c63 => ?_)
          · refine lv_bipush (v := (nI 7)) hx hb dX5_direction_71 (by decide) ?_
            exact z_reti hx hb hr hlocks rfl (by first | (simp only [dirI, c1, c5, c20, c40, c63, if_true, if_false, eq_self, decide_true, decide_false, Bool.and_true, Bool.true_and, Bool.and_false, Bool.false_and, Bool.or_true, Bool.true_or, Bool.or_false, Bool.false_or, Bool.not_true, Bool.not_false, not_true_eq_false, not_false_eq_true, and_true, true_and, and_false, false_and, gt_iff_lt, ge_iff_le, ne_eq, Bool.false_eq_true]; done) | (simp [dirI, c1, c5, c20, c40, c63]; done) | (simp_all [dirI, c1, c5, c20, c40, c63]; done)) dX5_direction_73
          · refine lv_bipush (v := (nI 6)) hx hb dX5_direction_66 (by decide) ?_
            refine lv_goto (tgt := 73) hx hb dX5_direction_68 (by decide) ?_
            exact z_reti hx hb hr hlocks rfl (by first | (simp only [dirI, c1, c5, c20, c40, c63, if_true, if_false, eq_self, decide_true, decide_false, Bool.and_true, Bool.true_and, Bool.and_false, Bool.false_and, Bool.or_true, Bool.true_or, Bool.or_false, Bool.false_or, Bool.not_true, Bool.not_false, not_true_eq_false, not_false_eq_true, and_true, true_and, and_false, false_and, gt_iff_lt, ge_iff_le, ne_eq, Bool.false_eq_true]; done) | (simp [dirI, c1, c5, c20, c40, c63]; done) | (simp_all [dirI, c1, c5, c20, c40, c63]; done)) dX5_direction_73
        · refine lv_iload_n hx hb dX5_direction_43 rfl (lv_at hl 1 rfl) ?_
          refine lv_if_gt (tgt := 60) hx hb dX5_direction_44 (by decide) (fun c44 => ?_) (fun c44 => ?_)
          · refine lv_iload_n hx hb dX5_direction_60 rfl (lv_at hl 0 rfl) ?_
            refine lv_iload_n hx hb dX5_direction_61 rfl (lv_at hl 1 rfl) ?_
            refine lv_ineg hx hb dX5_direction_62 ?_
            refine lv_icmp_ge (tgt := 71) hx hb dX5_direction_63 (by decide) (fun c63 => ?_) (fun c63 => ?_)
            · refine lv_bipush (v := (nI 7)) hx hb dX5_direction_71 (by decide) ?_
              exact z_reti hx hb hr hlocks rfl (by first | (simp only [dirI, c1, c5, c20, c40, c44, c63, if_true, if_false, eq_self, decide_true, decide_false, Bool.and_true, Bool.true_and, Bool.and_false, Bool.false_and, Bool.or_true, Bool.true_or, Bool.or_false, Bool.false_or, Bool.not_true, Bool.not_false, not_true_eq_false, not_false_eq_true, and_true, true_and, and_false, false_and, gt_iff_lt, ge_iff_le, ne_eq, Bool.false_eq_true]; done) | (simp [dirI, c1, c5, c20, c40, c44, c63]; done) | (simp_all [dirI, c1, c5, c20, c40, c44, c63]; done)) dX5_direction_73
            · refine lv_bipush (v := (nI 6)) hx hb dX5_direction_66 (by decide) ?_
              refine lv_goto (tgt := 73) hx hb dX5_direction_68 (by decide) ?_
              exact z_reti hx hb hr hlocks rfl (by first | (simp only [dirI, c1, c5, c20, c40, c44, c63, if_true, if_false, eq_self, decide_true, decide_false, Bool.and_true, Bool.true_and, Bool.and_false, Bool.false_and, Bool.or_true, Bool.true_or, Bool.or_false, Bool.false_or, Bool.not_true, Bool.not_false, not_true_eq_false, not_false_eq_true, and_true, true_and, and_false, false_and, gt_iff_lt, ge_iff_le, ne_eq, Bool.false_eq_true]; done) | (simp [dirI, c1, c5, c20, c40, c44, c63]; done) | (simp_all [dirI, c1, c5, c20, c40, c44, c63]; done)) dX5_direction_73
          · refine lv_iload_n hx hb dX5_direction_47 rfl (lv_at hl 1 rfl) ?_
            refine lv_ineg hx hb dX5_direction_48 ?_
            refine lv_iload_n hx hb dX5_direction_49 rfl (lv_at hl 0 rfl) ?_
            refine lv_ineg hx hb dX5_direction_50 ?_
            refine lv_icmp_ge (tgt := 58) hx hb dX5_direction_51 (by decide) (fun c51 => ?_) (fun c51 => ?_)
            · refine lv_iconst (v := (nI 5)) hx hb dX5_direction_58 (by decide) ?_
              exact z_reti hx hb hr hlocks rfl (by first | (simp only [dirI, c1, c5, c20, c40, c44, c51, if_true, if_false, eq_self, decide_true, decide_false, Bool.and_true, Bool.true_and, Bool.and_false, Bool.false_and, Bool.or_true, Bool.true_or, Bool.or_false, Bool.false_or, Bool.not_true, Bool.not_false, not_true_eq_false, not_false_eq_true, and_true, true_and, and_false, false_and, gt_iff_lt, ge_iff_le, ne_eq, Bool.false_eq_true]; done) | (simp [dirI, c1, c5, c20, c40, c44, c51]; done) | (simp_all [dirI, c1, c5, c20, c40, c44, c51]; done)) dX5_direction_59
            · refine lv_iconst (v := (nI 4)) hx hb dX5_direction_54 (by decide) ?_
              refine lv_goto (tgt := 59) hx hb dX5_direction_55 (by decide) ?_
              exact z_reti hx hb hr hlocks rfl (by first | (simp only [dirI, c1, c5, c20, c40, c44, c51, if_true, if_false, eq_self, decide_true, decide_false, Bool.and_true, Bool.true_and, Bool.and_false, Bool.false_and, Bool.or_true, Bool.true_or, Bool.or_false, Bool.false_or, Bool.not_true, Bool.not_false, not_true_eq_false, not_false_eq_true, and_true, true_and, and_false, false_and, gt_iff_lt, ge_iff_le, ne_eq, Bool.false_eq_true]; done) | (simp [dirI, c1, c5, c20, c40, c44, c51]; done) | (simp_all [dirI, c1, c5, c20, c40, c44, c51]; done)) dX5_direction_59
      · refine lv_iload_n hx hb dX5_direction_23 rfl (lv_at hl 1 rfl) ?_
        refine lv_if_le (tgt := 39) hx hb dX5_direction_24 (by decide) (fun c24 => ?_) (fun c24 => ?_)
        · refine lv_iload_n hx hb dX5_direction_39 rfl (lv_at hl 0 rfl) ?_
          refine lv_if_ge (tgt := 60) hx hb dX5_direction_40 (by decide) (fun c40 => ?_) (fun c40 => ?_)
          · refine lv_iload_n hx hb dX5_direction_60 rfl (lv_at hl 0 rfl) ?_
            refine lv_iload_n hx hb dX5_direction_61 rfl (lv_at hl 1 rfl) ?_
            refine lv_ineg hx hb dX5_direction_62 ?_
            refine lv_icmp_ge (tgt := 71) hx hb dX5_direction_63 (by decide) (fun c63 => ?_) (fun c63 => ?_)
            · refine lv_bipush (v := (nI 7)) hx hb dX5_direction_71 (by decide) ?_
              exact z_reti hx hb hr hlocks rfl (by first | (simp only [dirI, c1, c5, c20, c24, c40, c63, if_true, if_false, eq_self, decide_true, decide_false, Bool.and_true, Bool.true_and, Bool.and_false, Bool.false_and, Bool.or_true, Bool.true_or, Bool.or_false, Bool.false_or, Bool.not_true, Bool.not_false, not_true_eq_false, not_false_eq_true, and_true, true_and, and_false, false_and, gt_iff_lt, ge_iff_le, ne_eq, Bool.false_eq_true]; done) | (simp [dirI, c1, c5, c20, c24, c40, c63]; done) | (simp_all [dirI, c1, c5, c20, c24, c40, c63]; done)) dX5_direction_73
            · refine lv_bipush (v := (nI 6)) hx hb dX5_direction_66 (by decide) ?_
              refine lv_goto (tgt := 73) hx hb dX5_direction_68 (by decide) ?_
              exact z_reti hx hb hr hlocks rfl (by first | (simp only [dirI, c1, c5, c20, c24, c40, c63, if_true, if_false, eq_self, decide_true, decide_false, Bool.and_true, Bool.true_and, Bool.and_false, Bool.false_and, Bool.or_true, Bool.true_or, Bool.or_false, Bool.false_or, Bool.not_true, Bool.not_false, not_true_eq_false, not_false_eq_true, and_true, true_and, and_false, false_and, gt_iff_lt, ge_iff_le, ne_eq, Bool.false_eq_true]; done) | (simp [dirI, c1, c5, c20, c24, c40, c63]; done) | (simp_all [dirI, c1, c5, c20, c24, c40, c63]; done)) dX5_direction_73
          · refine lv_iload_n hx hb dX5_direction_43 rfl (lv_at hl 1 rfl) ?_
            refine lv_if_gt (tgt := 60) hx hb dX5_direction_44 (by decide) (fun c44 => ?_) (fun c44 => ?_)
            · refine lv_iload_n hx hb dX5_direction_60 rfl (lv_at hl 0 rfl) ?_
              refine lv_iload_n hx hb dX5_direction_61 rfl (lv_at hl 1 rfl) ?_
              refine lv_ineg hx hb dX5_direction_62 ?_
              refine lv_icmp_ge (tgt := 71) hx hb dX5_direction_63 (by decide) (fun c63 => ?_) (fun c63 => ?_)
              · refine lv_bipush (v := (nI 7)) hx hb dX5_direction_71 (by decide) ?_
                exact z_reti hx hb hr hlocks rfl (by first | (simp only [dirI, c1, c5, c20, c24, c40, c44, c63, if_true, if_false, eq_self, decide_true, decide_false, Bool.and_true, Bool.true_and, Bool.and_false, Bool.false_and, Bool.or_true, Bool.true_or, Bool.or_false, Bool.false_or, Bool.not_true, Bool.not_false, not_true_eq_false, not_false_eq_true, and_true, true_and, and_false, false_and, gt_iff_lt, ge_iff_le, ne_eq, Bool.false_eq_true]; done) | (simp [dirI, c1, c5, c20, c24, c40, c44, c63]; done) | (simp_all [dirI, c1, c5, c20, c24, c40, c44, c63]; done)) dX5_direction_73
              · refine lv_bipush (v := (nI 6)) hx hb dX5_direction_66 (by decide) ?_
                refine lv_goto (tgt := 73) hx hb dX5_direction_68 (by decide) ?_
                exact z_reti hx hb hr hlocks rfl (by first | (simp only [dirI, c1, c5, c20, c24, c40, c44, c63, if_true, if_false, eq_self, decide_true, decide_false, Bool.and_true, Bool.true_and, Bool.and_false, Bool.false_and, Bool.or_true, Bool.true_or, Bool.or_false, Bool.false_or, Bool.not_true, Bool.not_false, not_true_eq_false, not_false_eq_true, and_true, true_and, and_false, false_and, gt_iff_lt, ge_iff_le, ne_eq, Bool.false_eq_true]; done) | (simp [dirI, c1, c5, c20, c24, c40, c44, c63]; done) | (simp_all [dirI, c1, c5, c20, c24, c40, c44, c63]; done)) dX5_direction_73
            · refine lv_iload_n hx hb dX5_direction_47 rfl (lv_at hl 1 rfl) ?_
              refine lv_ineg hx hb dX5_direction_48 ?_
              refine lv_iload_n hx hb dX5_direction_49 rfl (lv_at hl 0 rfl) ?_
              refine lv_ineg hx hb dX5_direction_50 ?_
              refine lv_icmp_ge (tgt := 58) hx hb dX5_direction_51 (by decide) (fun c51 => ?_) (fun c51 => ?_)
              · refine lv_iconst (v := (nI 5)) hx hb dX5_direction_58 (by decide) ?_
                exact z_reti hx hb hr hlocks rfl (by first | (simp only [dirI, c1, c5, c20, c24, c40, c44, c51, if_true, if_false, eq_self, decide_true, decide_false, Bool.and_true, Bool.true_and, Bool.and_false, Bool.false_and, Bool.or_true, Bool.true_or, Bool.or_false, Bool.false_or, Bool.not_true, Bool.not_false, not_true_eq_false, not_false_eq_true, and_true, true_and, and_false, false_and, gt_iff_lt, ge_iff_le, ne_eq, Bool.false_eq_true]; done) | (simp [dirI, c1, c5, c20, c24, c40, c44, c51]; done) | (simp_all [dirI, c1, c5, c20, c24, c40, c44, c51]; done)) dX5_direction_59
              · refine lv_iconst (v := (nI 4)) hx hb dX5_direction_54 (by decide) ?_
                refine lv_goto (tgt := 59) hx hb dX5_direction_55 (by decide) ?_
                exact z_reti hx hb hr hlocks rfl (by first | (simp only [dirI, c1, c5, c20, c24, c40, c44, c51, if_true, if_false, eq_self, decide_true, decide_false, Bool.and_true, Bool.true_and, Bool.and_false, Bool.false_and, Bool.or_true, Bool.true_or, Bool.or_false, Bool.false_or, Bool.not_true, Bool.not_false, not_true_eq_false, not_false_eq_true, and_true, true_and, and_false, false_and, gt_iff_lt, ge_iff_le, ne_eq, Bool.false_eq_true]; done) | (simp [dirI, c1, c5, c20, c24, c40, c44, c51]; done) | (simp_all [dirI, c1, c5, c20, c24, c40, c44, c51]; done)) dX5_direction_59
        · refine lv_iload_n hx hb dX5_direction_27 rfl (lv_at hl 0 rfl) ?_
          refine lv_ineg hx hb dX5_direction_28 ?_
          refine lv_iload_n hx hb dX5_direction_29 rfl (lv_at hl 1 rfl) ?_
          refine lv_icmp_ge (tgt := 37) hx hb dX5_direction_30 (by decide) (fun c30 => ?_) (fun c30 => ?_)
          · refine lv_iconst (v := (nI 3)) hx hb dX5_direction_37 (by decide) ?_
            exact z_reti hx hb hr hlocks rfl (by first | (simp only [dirI, c1, c5, c20, c24, c30, if_true, if_false, eq_self, decide_true, decide_false, Bool.and_true, Bool.true_and, Bool.and_false, Bool.false_and, Bool.or_true, Bool.true_or, Bool.or_false, Bool.false_or, Bool.not_true, Bool.not_false, not_true_eq_false, not_false_eq_true, and_true, true_and, and_false, false_and, gt_iff_lt, ge_iff_le, ne_eq, Bool.false_eq_true]; done) | (simp [dirI, c1, c5, c20, c24, c30]; done) | (simp_all [dirI, c1, c5, c20, c24, c30]; done)) dX5_direction_38
          · refine lv_iconst (v := (nI 2)) hx hb dX5_direction_33 (by decide) ?_
            refine lv_goto (tgt := 38) hx hb dX5_direction_34 (by decide) ?_
            exact z_reti hx hb hr hlocks rfl (by first | (simp only [dirI, c1, c5, c20, c24, c30, if_true, if_false, eq_self, decide_true, decide_false, Bool.and_true, Bool.true_and, Bool.and_false, Bool.false_and, Bool.or_true, Bool.true_or, Bool.or_false, Bool.false_or, Bool.not_true, Bool.not_false, not_true_eq_false, not_false_eq_true, and_true, true_and, and_false, false_and, gt_iff_lt, ge_iff_le, ne_eq, Bool.false_eq_true]; done) | (simp [dirI, c1, c5, c20, c24, c30]; done) | (simp_all [dirI, c1, c5, c20, c24, c30]; done)) dX5_direction_38
    · refine lv_iload_n hx hb dX5_direction_8 rfl (lv_at hl 1 rfl) ?_
      refine lv_iload_n hx hb dX5_direction_9 rfl (lv_at hl 0 rfl) ?_
      refine lv_icmp_ge (tgt := 17) hx hb dX5_direction_10 (by decide) (fun c10 => ?_) (fun c10 => ?_)
      · refine lv_iconst (v := (nI 1)) hx hb dX5_direction_17 (by decide) ?_
        exact z_reti hx hb hr hlocks rfl (by first | (simp only [dirI, c1, c5, c10, if_true, if_false, eq_self, decide_true, decide_false, Bool.and_true, Bool.true_and, Bool.and_false, Bool.false_and, Bool.or_true, Bool.true_or, Bool.or_false, Bool.false_or, Bool.not_true, Bool.not_false, not_true_eq_false, not_false_eq_true, and_true, true_and, and_false, false_and, gt_iff_lt, ge_iff_le, ne_eq, Bool.false_eq_true]; done) | (simp [dirI, c1, c5, c10]; done) | (simp_all [dirI, c1, c5, c10]; done)) dX5_direction_18
      · refine lv_iconst (v := (nI 0)) hx hb dX5_direction_13 (by decide) ?_
        refine lv_goto (tgt := 18) hx hb dX5_direction_14 (by decide) ?_
        exact z_reti hx hb hr hlocks rfl (by first | (simp only [dirI, c1, c5, c10, if_true, if_false, eq_self, decide_true, decide_false, Bool.and_true, Bool.true_and, Bool.and_false, Bool.false_and, Bool.or_true, Bool.true_or, Bool.or_false, Bool.false_or, Bool.not_true, Bool.not_false, not_true_eq_false, not_false_eq_true, and_true, true_and, and_false, false_and, gt_iff_lt, ge_iff_le, ne_eq, Bool.false_eq_true]; done) | (simp [dirI, c1, c5, c10]; done) | (simp_all [dirI, c1, c5, c10]; done)) dX5_direction_18
set_option maxRecDepth 100000 in
set_option maxHeartbeats 4000000 in
theorem c_X5_isCovered (l : Launch) (D : va_G) (y : zY) (m : Nat) (d : Nat → Int32) (c : Nat) (sw : Int32) (x : Int32) (z : Int32) (hc : c < 8) : Met l yX5_isCovered wsX5_isCovered ({ frames := 1, cells := 0, slots := 0, locals := 22 }) (zP [.ref m, .int (nI c), .int sw, .int x, .int z] (zM D y m d) D y) (zQ (some (.int (bI (covB d c sw x z))))) 0 0 nofree := by
  refine z_body (cc := cX5_isCovered) (maxL := 7) (ret := (some .boolean)) (la := [(0, .ref m), (1, .int (nI c)), (2, .int sw), (3, .int x), (4, .int z)]) (by decide) rfl (Nat.le_of_ble_eq_true rfl) rfl ?_
  intro pg ev s mm below meth c0 ls hx hb hr hF hlocks hΦ hK hl _
  have hts := hF.2.2.2.2
  have hown : s.vm.findClass RX5 = some mm.cls := hF.2.2.2.1
  obtain ⟨⟨fs, hO⟩, hA⟩ := id hΦ
  refine lv_iload_n hx hb dX5_isCovered_0 rfl (lv_at hl 3 rfl) ?_
  refine lv_aload_n hx hb dX5_isCovered_1 rfl (lv_at hl 0 rfl) ?_
  refine lv_iload_n hx hb dX5_isCovered_2 rfl (lv_at hl 1 rfl) ?_
  refine lv_iconst (v := (nI 0)) hx hb dX5_isCovered_3 (by decide) ?_
  refine z_callV (As := [.int (nI c), .int (nI 0)]) (rest := [.int x]) hF hK (c_X5_craned l D y m d c 0 (by omega) (by omega)) (cwV 2 hts gX5_isCovered_X5_craned rfl rfl rfl (by decide +kernel) ⟨Nat.le_of_ble_eq_true rfl, Nat.le_of_ble_eq_true rfl⟩) (z_recv (q := (RX5, TX5, 9)) hK hO rfl) hΦ rfl hl.1 rfl (Nat.le_of_ble_eq_true rfl) dX5_isCovered_4 ⟨Nat.zero_le _, Nat.zero_le _⟩ ?_
  refine lv_isub hx hb dX5_isCovered_7 ?_
  refine lv_istore (lv' := [(5, .int (x - (gr d c 0))), (0, .ref m), (1, .int (nI c)), (2, .int sw), (3, .int x), (4, .int z)]) hx hb dX5_isCovered_8 hl (by decide) rfl (fun ls hl => ?_)
  refine lv_iload hx hb dX5_isCovered_10 (lv_at hl 5 rfl) ?_
  refine lv_aload_n hx hb dX5_isCovered_12 rfl (lv_at hl 1 rfl) ?_
  refine lv_iload_n hx hb dX5_isCovered_13 rfl (lv_at hl 2 rfl) ?_
  refine lv_iconst (v := (nI 1)) hx hb dX5_isCovered_14 (by decide) ?_
  refine z_callV (As := [.int (nI c), .int (nI 1)]) (rest := [.int z]) hF hK (c_X5_craned l D y m d c 1 (by omega) (by omega)) (cwV 2 hts gX5_isCovered_X5_craned rfl rfl rfl (by decide +kernel) ⟨Nat.le_of_ble_eq_true rfl, Nat.le_of_ble_eq_true rfl⟩) (z_recv (q := (RX5, TX5, 9)) hK hO rfl) hΦ rfl hl.1 rfl (Nat.le_of_ble_eq_true rfl) dX5_isCovered_15 ⟨Nat.zero_le _, Nat.zero_le _⟩ ?_
  refine lv_isub hx hb dX5_isCovered_18 ?_
  refine lv_istore (lv' := [(6, .int (z - (gr d c 1))), (5, .int (x - (gr d c 0))), (0, .ref m), (1, .int (nI c)), (2, .int sw), (3, .int x), (4, .int z)]) hx hb dX5_isCovered_19 hl (by decide) rfl (fun ls hl => ?_)
  refine lv_iload hx hb dX5_isCovered_21 (lv_at hl 1 rfl) ?_
  refine lv_if_ne (tgt := 33) hx hb dX5_isCovered_23 (by decide) (fun c23 => ?_) (fun c23 => ?_)
  · refine lv_iload hx hb dX5_isCovered_33 (lv_at hl 1 rfl) ?_
    refine lv_iload hx hb dX5_isCovered_35 (lv_at hl 1 rfl) ?_
    refine lv_imul hx hb dX5_isCovered_37 ?_
    refine lv_iload hx hb dX5_isCovered_38 (lv_at hl 0 rfl) ?_
    refine lv_iload hx hb dX5_isCovered_40 (lv_at hl 0 rfl) ?_
    refine lv_imul hx hb dX5_isCovered_42 ?_
    refine lv_iadd hx hb dX5_isCovered_43 ?_
    refine lv_aload_n hx hb dX5_isCovered_44 rfl (lv_at hl 2 rfl) ?_
    refine lv_iload_n hx hb dX5_isCovered_45 rfl (lv_at hl 3 rfl) ?_
    refine lv_iconst (v := (nI 2)) hx hb dX5_isCovered_46 (by decide) ?_
    refine z_callV (As := [.int (nI c), .int (nI 2)]) (rest := [.int (((x - (gr d c 0)) * (x - (gr d c 0))) + ((z - (gr d c 1)) * (z - (gr d c 1))))]) hF hK (c_X5_craned l D y m d c 2 (by omega) (by omega)) (cwV 2 hts gX5_isCovered_X5_craned rfl rfl rfl (by decide +kernel) ⟨Nat.le_of_ble_eq_true rfl, Nat.le_of_ble_eq_true rfl⟩) (z_recv (q := (RX5, TX5, 9)) hK hO rfl) hΦ rfl hl.1 rfl (Nat.le_of_ble_eq_true rfl) dX5_isCovered_47 ⟨Nat.zero_le _, Nat.zero_le _⟩ ?_
    refine lv_aload_n hx hb dX5_isCovered_50 rfl (lv_at hl 2 rfl) ?_
    refine lv_iload_n hx hb dX5_isCovered_51 rfl (lv_at hl 3 rfl) ?_
    refine lv_iconst (v := (nI 2)) hx hb dX5_isCovered_52 (by decide) ?_
    refine z_callV (As := [.int (nI c), .int (nI 2)]) (rest := [.int (gr d c 2), .int (((x - (gr d c 0)) * (x - (gr d c 0))) + ((z - (gr d c 1)) * (z - (gr d c 1))))]) hF hK (c_X5_craned l D y m d c 2 (by omega) (by omega)) (cwV 2 hts gX5_isCovered_X5_craned rfl rfl rfl (by decide +kernel) ⟨Nat.le_of_ble_eq_true rfl, Nat.le_of_ble_eq_true rfl⟩) (z_recv (q := (RX5, TX5, 9)) hK hO rfl) hΦ rfl hl.1 rfl (Nat.le_of_ble_eq_true rfl) dX5_isCovered_53 ⟨Nat.zero_le _, Nat.zero_le _⟩ ?_
    refine lv_imul hx hb dX5_isCovered_56 ?_
    refine lv_icmp_gt (tgt := 79) hx hb dX5_isCovered_57 (by decide) (fun c57 => ?_) (fun c57 => ?_)
    · refine lv_iconst (v := (nI 0)) hx hb dX5_isCovered_79 (by decide) ?_
      exact z_retz hx hb hr hlocks rfl (bI_ff (by first | (simp only [covB, c23, c57, if_true, if_false, eq_self, decide_true, decide_false, Bool.and_true, Bool.true_and, Bool.and_false, Bool.false_and, Bool.or_true, Bool.true_or, Bool.or_false, Bool.false_or, Bool.not_true, Bool.not_false, not_true_eq_false, not_false_eq_true, and_true, true_and, and_false, false_and, gt_iff_lt, ge_iff_le, ne_eq, Bool.false_eq_true]; done) | (simp [covB, c23, c57]; done) | (simp_all [covB, c23, c57]; done))) dX5_isCovered_80
    · refine lv_iload_n hx hb dX5_isCovered_60 rfl (lv_at hl 4 rfl) ?_
      refine lv_iload hx hb dX5_isCovered_61 (lv_at hl 1 rfl) ?_
      refine lv_iload hx hb dX5_isCovered_63 (lv_at hl 0 rfl) ?_
      refine z_callS (As := [.int (x - (gr d c 0)), .int (z - (gr d c 1))]) (rest := [.int sw]) hF hK (c_X5_direction l D y (x - (gr d c 0)) (z - (gr d c 1)) ) (va_cwS 2 hts gX5_isCovered_X5_direction rfl rfl rfl (by decide +kernel) ⟨Nat.le_of_ble_eq_true rfl, Nat.le_of_ble_eq_true rfl⟩) trivial rfl hl.1 rfl (Nat.le_of_ble_eq_true rfl) dX5_isCovered_65 ⟨Nat.zero_le _, Nat.zero_le _⟩ ?_
      refine lv_ishr hx hb dX5_isCovered_68 ?_
      refine lv_iconst (v := (nI 1)) hx hb dX5_isCovered_69 (by decide) ?_
      refine lv_iand hx hb dX5_isCovered_70 ?_
      refine lv_iconst (v := (nI 1)) hx hb dX5_isCovered_71 (by decide) ?_
      refine lv_icmp_ne (tgt := 79) hx hb dX5_isCovered_72 (by decide) (fun c72 => ?_) (fun c72 => ?_)
      · refine lv_iconst (v := (nI 0)) hx hb dX5_isCovered_79 (by decide) ?_
        exact z_retz hx hb hr hlocks rfl (bI_ff (by first | (simp only [covB, c23, c57, c72, if_true, if_false, eq_self, decide_true, decide_false, Bool.and_true, Bool.true_and, Bool.and_false, Bool.false_and, Bool.or_true, Bool.true_or, Bool.or_false, Bool.false_or, Bool.not_true, Bool.not_false, not_true_eq_false, not_false_eq_true, and_true, true_and, and_false, false_and, gt_iff_lt, ge_iff_le, ne_eq, Bool.false_eq_true]; done) | (simp [covB, c23, c57, c72]; done) | (simp_all [covB, c23, c57, c72]; done))) dX5_isCovered_80
      · refine lv_iconst (v := (nI 1)) hx hb dX5_isCovered_75 (by decide) ?_
        refine lv_goto (tgt := 80) hx hb dX5_isCovered_76 (by decide) ?_
        exact z_retz hx hb hr hlocks rfl (bI_tt (by first | (simp only [covB, c23, c57, c72, if_true, if_false, eq_self, decide_true, decide_false, Bool.and_true, Bool.true_and, Bool.and_false, Bool.false_and, Bool.or_true, Bool.true_or, Bool.or_false, Bool.false_or, Bool.not_true, Bool.not_false, not_true_eq_false, not_false_eq_true, and_true, true_and, and_false, false_and, gt_iff_lt, ge_iff_le, ne_eq, Bool.false_eq_true]; done) | (simp [covB, c23, c57, c72]; done) | (simp_all [covB, c23, c57, c72]; done))) dX5_isCovered_80
  · refine lv_iload hx hb dX5_isCovered_26 (lv_at hl 0 rfl) ?_
    refine lv_if_ne (tgt := 33) hx hb dX5_isCovered_28 (by decide) (fun c28 => ?_) (fun c28 => ?_)
    · refine lv_iload hx hb dX5_isCovered_33 (lv_at hl 1 rfl) ?_
      refine lv_iload hx hb dX5_isCovered_35 (lv_at hl 1 rfl) ?_
      refine lv_imul hx hb dX5_isCovered_37 ?_
      refine lv_iload hx hb dX5_isCovered_38 (lv_at hl 0 rfl) ?_
      refine lv_iload hx hb dX5_isCovered_40 (lv_at hl 0 rfl) ?_
      refine lv_imul hx hb dX5_isCovered_42 ?_
      refine lv_iadd hx hb dX5_isCovered_43 ?_
      refine lv_aload_n hx hb dX5_isCovered_44 rfl (lv_at hl 2 rfl) ?_
      refine lv_iload_n hx hb dX5_isCovered_45 rfl (lv_at hl 3 rfl) ?_
      refine lv_iconst (v := (nI 2)) hx hb dX5_isCovered_46 (by decide) ?_
      refine z_callV (As := [.int (nI c), .int (nI 2)]) (rest := [.int (((x - (gr d c 0)) * (x - (gr d c 0))) + ((z - (gr d c 1)) * (z - (gr d c 1))))]) hF hK (c_X5_craned l D y m d c 2 (by omega) (by omega)) (cwV 2 hts gX5_isCovered_X5_craned rfl rfl rfl (by decide +kernel) ⟨Nat.le_of_ble_eq_true rfl, Nat.le_of_ble_eq_true rfl⟩) (z_recv (q := (RX5, TX5, 9)) hK hO rfl) hΦ rfl hl.1 rfl (Nat.le_of_ble_eq_true rfl) dX5_isCovered_47 ⟨Nat.zero_le _, Nat.zero_le _⟩ ?_
      refine lv_aload_n hx hb dX5_isCovered_50 rfl (lv_at hl 2 rfl) ?_
      refine lv_iload_n hx hb dX5_isCovered_51 rfl (lv_at hl 3 rfl) ?_
      refine lv_iconst (v := (nI 2)) hx hb dX5_isCovered_52 (by decide) ?_
      refine z_callV (As := [.int (nI c), .int (nI 2)]) (rest := [.int (gr d c 2), .int (((x - (gr d c 0)) * (x - (gr d c 0))) + ((z - (gr d c 1)) * (z - (gr d c 1))))]) hF hK (c_X5_craned l D y m d c 2 (by omega) (by omega)) (cwV 2 hts gX5_isCovered_X5_craned rfl rfl rfl (by decide +kernel) ⟨Nat.le_of_ble_eq_true rfl, Nat.le_of_ble_eq_true rfl⟩) (z_recv (q := (RX5, TX5, 9)) hK hO rfl) hΦ rfl hl.1 rfl (Nat.le_of_ble_eq_true rfl) dX5_isCovered_53 ⟨Nat.zero_le _, Nat.zero_le _⟩ ?_
      refine lv_imul hx hb dX5_isCovered_56 ?_
      refine lv_icmp_gt (tgt := 79) hx hb dX5_isCovered_57 (by decide) (fun c57 => ?_) (fun c57 => ?_)
      · refine lv_iconst (v := (nI 0)) hx hb dX5_isCovered_79 (by decide) ?_
        exact z_retz hx hb hr hlocks rfl (bI_ff (by first | (simp only [covB, c23, c28, c57, if_true, if_false, eq_self, decide_true, decide_false, Bool.and_true, Bool.true_and, Bool.and_false, Bool.false_and, Bool.or_true, Bool.true_or, Bool.or_false, Bool.false_or, Bool.not_true, Bool.not_false, not_true_eq_false, not_false_eq_true, and_true, true_and, and_false, false_and, gt_iff_lt, ge_iff_le, ne_eq, Bool.false_eq_true]; done) | (simp [covB, c23, c28, c57]; done) | (simp_all [covB, c23, c28, c57]; done))) dX5_isCovered_80
      · refine lv_iload_n hx hb dX5_isCovered_60 rfl (lv_at hl 4 rfl) ?_
        refine lv_iload hx hb dX5_isCovered_61 (lv_at hl 1 rfl) ?_
        refine lv_iload hx hb dX5_isCovered_63 (lv_at hl 0 rfl) ?_
        refine z_callS (As := [.int (x - (gr d c 0)), .int (z - (gr d c 1))]) (rest := [.int sw]) hF hK (c_X5_direction l D y (x - (gr d c 0)) (z - (gr d c 1)) ) (va_cwS 2 hts gX5_isCovered_X5_direction rfl rfl rfl (by decide +kernel) ⟨Nat.le_of_ble_eq_true rfl, Nat.le_of_ble_eq_true rfl⟩) trivial rfl hl.1 rfl (Nat.le_of_ble_eq_true rfl) dX5_isCovered_65 ⟨Nat.zero_le _, Nat.zero_le _⟩ ?_
        refine lv_ishr hx hb dX5_isCovered_68 ?_
        refine lv_iconst (v := (nI 1)) hx hb dX5_isCovered_69 (by decide) ?_
        refine lv_iand hx hb dX5_isCovered_70 ?_
        refine lv_iconst (v := (nI 1)) hx hb dX5_isCovered_71 (by decide) ?_
        refine lv_icmp_ne (tgt := 79) hx hb dX5_isCovered_72 (by decide) (fun c72 => ?_) (fun c72 => ?_)
        · refine lv_iconst (v := (nI 0)) hx hb dX5_isCovered_79 (by decide) ?_
          exact z_retz hx hb hr hlocks rfl (bI_ff (by first | (simp only [covB, c23, c28, c57, c72, if_true, if_false, eq_self, decide_true, decide_false, Bool.and_true, Bool.true_and, Bool.and_false, Bool.false_and, Bool.or_true, Bool.true_or, Bool.or_false, Bool.false_or, Bool.not_true, Bool.not_false, not_true_eq_false, not_false_eq_true, and_true, true_and, and_false, false_and, gt_iff_lt, ge_iff_le, ne_eq, Bool.false_eq_true]; done) | (simp [covB, c23, c28, c57, c72]; done) | (simp_all [covB, c23, c28, c57, c72]; done))) dX5_isCovered_80
        · refine lv_iconst (v := (nI 1)) hx hb dX5_isCovered_75 (by decide) ?_
          refine lv_goto (tgt := 80) hx hb dX5_isCovered_76 (by decide) ?_
          exact z_retz hx hb hr hlocks rfl (bI_tt (by first | (simp only [covB, c23, c28, c57, c72, if_true, if_false, eq_self, decide_true, decide_false, Bool.and_true, Bool.true_and, Bool.and_false, Bool.false_and, Bool.or_true, Bool.true_or, Bool.or_false, Bool.false_or, Bool.not_true, Bool.not_false, not_true_eq_false, not_false_eq_true, and_true, true_and, and_false, false_and, gt_iff_lt, ge_iff_le, ne_eq, Bool.false_eq_true]; done) | (simp [covB, c23, c28, c57, c72]; done) | (simp_all [covB, c23, c28, c57, c72]; done))) dX5_isCovered_80
    · refine lv_iconst (v := (nI 1)) hx hb dX5_isCovered_31 (by decide) ?_
      exact z_retz hx hb hr hlocks rfl (bI_tt (by first | (simp only [covB, c23, c28, if_true, if_false, eq_self, decide_true, decide_false, Bool.and_true, Bool.true_and, Bool.and_false, Bool.false_and, Bool.or_true, Bool.true_or, Bool.or_false, Bool.false_or, Bool.not_true, Bool.not_false, not_true_eq_false, not_false_eq_true, and_true, true_and, and_false, false_and, gt_iff_lt, ge_iff_le, ne_eq, Bool.false_eq_true]; done) | (simp [covB, c23, c28]; done) | (simp_all [covB, c23, c28]; done))) dX5_isCovered_32
set_option maxRecDepth 100000 in
set_option maxHeartbeats 4000000 in
theorem c_X5_areaMeets (l : Launch) (D : va_G) (y : zY) (m : Nat) (d : Nat → Int32) (a : Nat) (s1 : Int32) (b : Nat) (s2 : Int32) (ha : a < 8) (hb8 : b < 8) : Met l yX5_areaMeets wsX5_areaMeets ({ frames := 2, cells := 0, slots := 0, locals := 48 }) (zP [.ref m, .int (nI a), .int s1, .int (nI b), .int s2] (zM D y m d) D y) (zQ (some (.int (bI (amB d a s1 b s2))))) 0 0 nofree := by
  refine z_body (cc := cX5_areaMeets) (maxL := 6) (ret := (some .boolean)) (la := [(0, .ref m), (1, .int (nI a)), (2, .int s1), (3, .int (nI b)), (4, .int s2)]) (by decide) rfl (Nat.le_of_ble_eq_true rfl) rfl ?_
  intro pg ev s mm below meth c0 ls hx hb hr hF hlocks hΦ hK hl _
  have hts := hF.2.2.2.2
  have hown : s.vm.findClass RX5 = some mm.cls := hF.2.2.2.1
  obtain ⟨⟨fs, hO⟩, hA⟩ := id hΦ
  refine lv_iconst (v := (nI 0)) hx hb dX5_areaMeets_0 (by decide) ?_
  refine lv_istore (lv' := [(5, .int (nI 0)), (0, .ref m), (1, .int (nI a)), (2, .int s1), (3, .int (nI b)), (4, .int s2)]) hx hb dX5_areaMeets_1 hl (by decide) rfl (fun ls hl => ?_)
  refine z_loop (S := Nat) (nL := 6) (fun (i : Nat) => 256 - i) (fun (i : Nat) => [(5, .int (nI i)), (0, .ref m), (1, .int (nI a)), (2, .int s1), (3, .int (nI b)), (4, .int s2)]) (fun (i : Nat) => i ≤ 256 ∧ ∀ j, j < i → (covC d a s1 j && covC d b s2 j) = false) 0 (⟨Nat.zero_le _, fun j hj => absurd hj (Nat.not_lt_zero j)⟩) (lv_sub hl [0, 1, 2, 3, 4, 5] rfl) ?_
  clear hl
  rintro i ls hI_3 hl ih_3
  obtain ⟨hi, hall⟩ := hI_3
  refine lv_iload hx hb dX5_areaMeets_3 (lv_at hl 0 rfl) ?_
  refine lv_sipush (v := (nI 256)) hx hb dX5_areaMeets_5 (by decide) ?_
  refine z_ge (tgt := 58) hx hb (by omega) (by omega) dX5_areaMeets_8 (by decide) (fun c8 => ?_) (fun c8 => ?_)
  · refine lv_iconst (v := (nI 0)) hx hb dX5_areaMeets_58 (by decide) ?_
    exact z_retz hx hb hr hlocks rfl (bI_ff (any_f (fun j hj => hall j (by omega)))) dX5_areaMeets_59
  · refine lv_aload_n hx hb dX5_areaMeets_11 rfl (lv_at hl 1 rfl) ?_
    refine lv_iload_n hx hb dX5_areaMeets_12 rfl (lv_at hl 2 rfl) ?_
    refine lv_iload_n hx hb dX5_areaMeets_13 rfl (lv_at hl 3 rfl) ?_
    refine lv_iload hx hb dX5_areaMeets_14 (lv_at hl 0 rfl) ?_
    refine lv_bipush (v := (nI 16)) hx hb dX5_areaMeets_16 (by decide) ?_
    refine z_irem hx hb (by omega) (by omega) (by omega) dX5_areaMeets_18 ?_
    refine lv_iload hx hb dX5_areaMeets_19 (lv_at hl 0 rfl) ?_
    refine lv_bipush (v := (nI 16)) hx hb dX5_areaMeets_21 (by decide) ?_
    refine z_idiv hx hb (by omega) (by omega) (by omega) dX5_areaMeets_23 ?_
    refine z_callV (As := [.int (nI a), .int s1, .int (nI (i % 16)), .int (nI (i / 16))]) (rest := []) hF hK (c_X5_isCovered l D y m d a s1 (nI (i % 16)) (nI (i / 16)) (by omega)) (cwV 4 hts gX5_areaMeets_X5_isCovered rfl rfl rfl (by decide +kernel) ⟨Nat.le_of_ble_eq_true rfl, Nat.le_of_ble_eq_true rfl⟩) (z_recv (q := (RX5, TX5, 9)) hK hO rfl) hΦ rfl hl.1 rfl (Nat.le_of_ble_eq_true rfl) dX5_areaMeets_24 ⟨Nat.zero_le _, Nat.zero_le _⟩ ?_
    refine z_ifeq (tgt := 52) hx hb dX5_areaMeets_27 (by decide) (fun c27 => ?_) (fun c27 => ?_)
    · refine lv_iinc (v := (nI (i + 1))) (lv' := [(5, .int (nI (i + 1))), (0, .ref m), (1, .int (nI a)), (2, .int s1), (3, .int (nI b)), (4, .int s2)]) hx hb dX5_areaMeets_52 hl (k := 0) rfl (in1 _) (by decide) rfl (fun ls hl => ?_)
      refine lv_goto (tgt := 3) hx hb dX5_areaMeets_55 (by decide) ?_
      exact ih_3 (i + 1) _ (by omega) (by refine ⟨by omega, lt_sc hall ?_⟩; first | (show (covB d a s1 _ _ && _) = false; rw [c27]; rfl) | (show (_ && covB d b s2 _ _) = false; rw [c47]; exact Bool.and_false _)) (lv_sub hl [0, 1, 2, 3, 4, 5] rfl)
    · refine lv_aload_n hx hb dX5_areaMeets_30 rfl (lv_at hl 1 rfl) ?_
      refine lv_iload_n hx hb dX5_areaMeets_31 rfl (lv_at hl 4 rfl) ?_
      refine lv_iload hx hb dX5_areaMeets_32 (lv_at hl 5 rfl) ?_
      refine lv_iload hx hb dX5_areaMeets_34 (lv_at hl 0 rfl) ?_
      refine lv_bipush (v := (nI 16)) hx hb dX5_areaMeets_36 (by decide) ?_
      refine z_irem hx hb (by omega) (by omega) (by omega) dX5_areaMeets_38 ?_
      refine lv_iload hx hb dX5_areaMeets_39 (lv_at hl 0 rfl) ?_
      refine lv_bipush (v := (nI 16)) hx hb dX5_areaMeets_41 (by decide) ?_
      refine z_idiv hx hb (by omega) (by omega) (by omega) dX5_areaMeets_43 ?_
      refine z_callV (As := [.int (nI b), .int s2, .int (nI (i % 16)), .int (nI (i / 16))]) (rest := []) hF hK (c_X5_isCovered l D y m d b s2 (nI (i % 16)) (nI (i / 16)) (by omega)) (cwV 4 hts gX5_areaMeets_X5_isCovered rfl rfl rfl (by decide +kernel) ⟨Nat.le_of_ble_eq_true rfl, Nat.le_of_ble_eq_true rfl⟩) (z_recv (q := (RX5, TX5, 9)) hK hO rfl) hΦ rfl hl.1 rfl (Nat.le_of_ble_eq_true rfl) dX5_areaMeets_44 ⟨Nat.zero_le _, Nat.zero_le _⟩ ?_
      refine z_ifeq (tgt := 52) hx hb dX5_areaMeets_47 (by decide) (fun c47 => ?_) (fun c47 => ?_)
      · refine lv_iinc (v := (nI (i + 1))) (lv' := [(5, .int (nI (i + 1))), (0, .ref m), (1, .int (nI a)), (2, .int s1), (3, .int (nI b)), (4, .int s2)]) hx hb dX5_areaMeets_52 hl (k := 0) rfl (in1 _) (by decide) rfl (fun ls hl => ?_)
        refine lv_goto (tgt := 3) hx hb dX5_areaMeets_55 (by decide) ?_
        exact ih_3 (i + 1) _ (by omega) (by refine ⟨by omega, lt_sc hall ?_⟩; first | (show (covB d a s1 _ _ && _) = false; rw [c27]; rfl) | (show (_ && covB d b s2 _ _) = false; rw [c47]; exact Bool.and_false _)) (lv_sub hl [0, 1, 2, 3, 4, 5] rfl)
      · refine lv_iconst (v := (nI 1)) hx hb dX5_areaMeets_50 (by decide) ?_
        exact z_retz hx hb hr hlocks rfl (bI_tt (any_t (i := i) (by omega) (show (covB d a s1 _ _ && covB d b s2 _ _) = true by rw [c27, c47]; rfl))) dX5_areaMeets_51
set_option maxRecDepth 100000 in
set_option maxHeartbeats 4000000 in
theorem c_X5_hoursMeet (l : Launch) (D : va_G) (y : zY) (a : Int32) (b : Int32)  : Met l yX5_hoursMeet wsX5_hoursMeet ({ frames := 0, cells := 0, slots := 0, locals := 0 }) (zP [.int a, .int b] zT0 D y) (zQ (some (.int (bI (hmB a b))))) 0 0 nofree := by
  refine z_body (cc := cX5_hoursMeet) (maxL := 2) (ret := (some .boolean)) (la := [(0, .int a), (1, .int b)]) (by decide) rfl (Nat.le_of_ble_eq_true rfl) rfl ?_
  intro pg ev s mm below meth c0 ls hx hb hr hF hlocks hΦ hK hl _
  have hts := hF.2.2.2.2
  have hown : s.vm.findClass RX5 = some mm.cls := hF.2.2.2.1
  refine lv_iload_n hx hb dX5_hoursMeet_0 rfl (lv_at hl 0 rfl) ?_
  refine lv_bipush (v := (nI 10)) hx hb dX5_hoursMeet_1 (by decide) ?_
  refine lv_idiv hx hb dX5_hoursMeet_3 (by decide) ?_
  refine lv_iload_n hx hb dX5_hoursMeet_4 rfl (lv_at hl 1 rfl) ?_
  refine lv_bipush (v := (nI 10)) hx hb dX5_hoursMeet_5 (by decide) ?_
  refine lv_irem hx hb dX5_hoursMeet_7 (by decide) ?_
  refine lv_icmp_gt (tgt := 26) hx hb dX5_hoursMeet_8 (by decide) (fun c8 => ?_) (fun c8 => ?_)
  · refine lv_iconst (v := (nI 0)) hx hb dX5_hoursMeet_26 (by decide) ?_
    exact z_retz hx hb hr hlocks rfl (bI_ff (by first | (simp only [hmB, c8, if_true, if_false, eq_self, decide_true, decide_false, Bool.and_true, Bool.true_and, Bool.and_false, Bool.false_and, Bool.or_true, Bool.true_or, Bool.or_false, Bool.false_or, Bool.not_true, Bool.not_false, not_true_eq_false, not_false_eq_true, and_true, true_and, and_false, false_and, gt_iff_lt, ge_iff_le, ne_eq, Bool.false_eq_true]; done) | (simp [hmB, c8]; done) | (simp_all [hmB, c8]; done))) dX5_hoursMeet_27
  · refine lv_iload_n hx hb dX5_hoursMeet_11 rfl (lv_at hl 1 rfl) ?_
    refine lv_bipush (v := (nI 10)) hx hb dX5_hoursMeet_12 (by decide) ?_
    refine lv_idiv hx hb dX5_hoursMeet_14 (by decide) ?_
    refine lv_iload_n hx hb dX5_hoursMeet_15 rfl (lv_at hl 0 rfl) ?_
    refine lv_bipush (v := (nI 10)) hx hb dX5_hoursMeet_16 (by decide) ?_
    refine lv_irem hx hb dX5_hoursMeet_18 (by decide) ?_
    refine lv_icmp_gt (tgt := 26) hx hb dX5_hoursMeet_19 (by decide) (fun c19 => ?_) (fun c19 => ?_)
    · refine lv_iconst (v := (nI 0)) hx hb dX5_hoursMeet_26 (by decide) ?_
      exact z_retz hx hb hr hlocks rfl (bI_ff (by first | (simp only [hmB, c8, c19, if_true, if_false, eq_self, decide_true, decide_false, Bool.and_true, Bool.true_and, Bool.and_false, Bool.false_and, Bool.or_true, Bool.true_or, Bool.or_false, Bool.false_or, Bool.not_true, Bool.not_false, not_true_eq_false, not_false_eq_true, and_true, true_and, and_false, false_and, gt_iff_lt, ge_iff_le, ne_eq, Bool.false_eq_true]; done) | (simp [hmB, c8, c19]; done) | (simp_all [hmB, c8, c19]; done))) dX5_hoursMeet_27
    · refine lv_iconst (v := (nI 1)) hx hb dX5_hoursMeet_22 (by decide) ?_
      refine lv_goto (tgt := 27) hx hb dX5_hoursMeet_23 (by decide) ?_
      exact z_retz hx hb hr hlocks rfl (bI_tt (by first | (simp only [hmB, c8, c19, if_true, if_false, eq_self, decide_true, decide_false, Bool.and_true, Bool.true_and, Bool.and_false, Bool.false_and, Bool.or_true, Bool.true_or, Bool.or_false, Bool.false_or, Bool.not_true, Bool.not_false, not_true_eq_false, not_false_eq_true, and_true, true_and, and_false, false_and, gt_iff_lt, ge_iff_le, ne_eq, Bool.false_eq_true]; done) | (simp [hmB, c8, c19]; done) | (simp_all [hmB, c8, c19]; done))) dX5_hoursMeet_27
theorem iX5_air_X5 : ∀ w ∈ wsX50, w ∈ wsX5_air := fun w h => (List.mem_cons_of_mem _ (List.mem_append_right _ h))
set_option maxRecDepth 100000 in
set_option maxHeartbeats 4000000 in
theorem c_X5_air (l : Launch) (D : va_G) (y : zY) (m : Nat) (d : Nat → Int32) (c : Nat) (n : Int32) (h : Int32) (sw : Int32) (p : Nat) (hI : zI d) (hc : c < 8) (hp : p < nG d) : Met l yX5_air wsX5_air ({ frames := 3, cells := 0, slots := 0, locals := 73 }) (zP [.ref m, .int (nI c), .int n, .int h, .int sw, .int (nI p)] (zM D y m d) D y) (zQ (some (.int (bI (airB d c n h sw p))))) 0 0 nofree := by
  refine z_body (cc := cX5_air) (maxL := 8) (ret := (some .boolean)) (la := [(0, .ref m), (1, .int (nI c)), (2, .int n), (3, .int h), (4, .int sw), (5, .int (nI p))]) (by decide) rfl (Nat.le_of_ble_eq_true rfl) rfl ?_
  intro pg ev s mm below meth c0 ls hx hb hr hF hlocks hΦ hK hl _
  have hts := hF.2.2.2.2
  have hown : s.vm.findClass RX5 = some mm.cls := hF.2.2.2.1
  obtain ⟨⟨fs, hO⟩, hA⟩ := id hΦ
  have hG2 := hI.ng2
  have hC8 := hI.nc8
  have hp8 := hI.pc8 hp
  refine lv_aload_n hx hb dX5_air_0 rfl (lv_at hl 0 rfl) ?_
  refine lv_iload hx hb dX5_air_1 (lv_at hl 5 rfl) ?_
  refine lv_iconst (v := (nI 0)) hx hb dX5_air_3 (by decide) ?_
  refine z_callV (As := [.int (nI p), .int (nI 0)]) (rest := []) hF hK (c_X5_of l D y m d p 0 (by omega) (by omega)) (cwV 2 hts gX5_air_X5_of rfl rfl rfl (by decide +kernel) ⟨Nat.le_of_ble_eq_true rfl, Nat.le_of_ble_eq_true rfl⟩) (z_recv (q := (RX5, TX5, 9)) hK hO rfl) hΦ rfl hl.1 rfl (Nat.le_of_ble_eq_true rfl) dX5_air_4 ⟨Nat.zero_le _, Nat.zero_le _⟩ ?_
  refine z_topi (z := (nI (pC d p))) (hI.pc (by omega)) ?_
  refine lv_istore (lv' := [(6, .int (nI (pC d p))), (0, .ref m), (1, .int (nI c)), (2, .int n), (3, .int h), (4, .int sw), (5, .int (nI p))]) hx hb dX5_air_7 hl (by decide) rfl (fun ls hl => ?_)
  refine lv_aload_n hx hb dX5_air_9 rfl (lv_at hl 1 rfl) ?_
  refine lv_iload_n hx hb dX5_air_10 rfl (lv_at hl 2 rfl) ?_
  refine lv_iconst (v := (nI 3)) hx hb dX5_air_11 (by decide) ?_
  refine z_callV (As := [.int (nI c), .int (nI 3)]) (rest := []) hF hK (c_X5_craned l D y m d c 3 (by omega) (by omega)) (cwV 2 hts gX5_air_X5_craned rfl rfl rfl (by decide +kernel) ⟨Nat.le_of_ble_eq_true rfl, Nat.le_of_ble_eq_true rfl⟩) (z_recv (q := (RX5, TX5, 9)) hK hO rfl) hΦ rfl hl.1 rfl (Nat.le_of_ble_eq_true rfl) dX5_air_12 ⟨Nat.zero_le _, Nat.zero_le _⟩ ?_
  refine lv_aload_n hx hb dX5_air_15 rfl (lv_at hl 1 rfl) ?_
  refine lv_iload hx hb dX5_air_16 (lv_at hl 0 rfl) ?_
  refine lv_iconst (v := (nI 3)) hx hb dX5_air_18 (by decide) ?_
  refine z_callV (As := [.int (nI (pC d p)), .int (nI 3)]) (rest := [.int (gr d c 3)]) hF hK (c_X5_craned l D y m d (pC d p) 3 (by omega) (by omega)) (cwV 2 hts gX5_air_X5_craned rfl rfl rfl (by decide +kernel) ⟨Nat.le_of_ble_eq_true rfl, Nat.le_of_ble_eq_true rfl⟩) (z_recv (q := (RX5, TX5, 9)) hK hO rfl) hΦ rfl hl.1 rfl (Nat.le_of_ble_eq_true rfl) dX5_air_19 ⟨Nat.zero_le _, Nat.zero_le _⟩ ?_
  refine lv_isub hx hb dX5_air_22 ?_
  refine lv_istore (lv' := [(7, .int ((gr d c 3) - (gr d (pC d p) 3))), (6, .int (nI (pC d p))), (0, .ref m), (1, .int (nI c)), (2, .int n), (3, .int h), (4, .int sw), (5, .int (nI p))]) hx hb dX5_air_23 hl (by decide) rfl (fun ls hl => ?_)
  refine lv_iload hx hb dX5_air_25 (lv_at hl 0 rfl) ?_
  refine lv_if_ge (tgt := 36) hx hb dX5_air_27 (by decide) (fun c27 => ?_) (fun c27 => ?_)
  · refine lv_iload hx hb dX5_air_36 (lv_at hl 0 rfl) ?_
    refine z_topi (z := (absM (gr d c 3 - gr d (pC d p) 3))) (by first | (unfold absM; rw [if_pos c27]) | (unfold absM; rw [if_neg c27])) ?_
    refine lv_istore (lv' := [(7, .int (absM (gr d c 3 - gr d (pC d p) 3))), (6, .int (nI (pC d p))), (0, .ref m), (1, .int (nI c)), (2, .int n), (3, .int h), (4, .int sw), (5, .int (nI p))]) hx hb dX5_air_38 hl (by decide) rfl (fun ls hl => ?_)
    refine lv_iload_n hx hb dX5_air_40 rfl (lv_at hl 3 rfl) ?_
    refine lv_iload hx hb dX5_air_41 (lv_at hl 1 rfl) ?_
    refine z_eq (tgt := 105) hx hb (by omega) (by omega) dX5_air_43 (by decide) (fun c43 => ?_) (fun c43 => ?_)
    · refine lv_iconst (v := (nI 0)) hx hb dX5_air_105 (by decide) ?_
      exact z_retz hx hb hr hlocks rfl (bI_ff (by first | (simp only [airB, c27, c43, if_true, if_false, eq_self, decide_true, decide_false, Bool.and_true, Bool.true_and, Bool.and_false, Bool.false_and, Bool.or_true, Bool.true_or, Bool.or_false, Bool.false_or, Bool.not_true, Bool.not_false, not_true_eq_false, not_false_eq_true, and_true, true_and, and_false, false_and, gt_iff_lt, ge_iff_le, ne_eq, Bool.false_eq_true]; done) | (simp [airB, c27, c43]; done) | (simp_all [airB, c27, c43]; done))) dX5_air_106
    · refine lv_iload_n hx hb dX5_air_46 rfl (lv_at hl 4 rfl) ?_
      refine lv_aload_n hx hb dX5_air_47 rfl (lv_at hl 2 rfl) ?_
      refine lv_iload hx hb dX5_air_48 (lv_at hl 7 rfl) ?_
      refine lv_iconst (v := (nI 1)) hx hb dX5_air_50 (by decide) ?_
      refine z_callV (As := [.int (nI p), .int (nI 1)]) (rest := [.int n]) hF hK (c_X5_of l D y m d p 1 (by omega) (by omega)) (cwV 2 hts gX5_air_X5_of rfl rfl rfl (by decide +kernel) ⟨Nat.le_of_ble_eq_true rfl, Nat.le_of_ble_eq_true rfl⟩) (z_recv (q := (RX5, TX5, 9)) hK hO rfl) hΦ rfl hl.1 rfl (Nat.le_of_ble_eq_true rfl) dX5_air_51 ⟨Nat.zero_le _, Nat.zero_le _⟩ ?_
      refine lv_icmp_ne (tgt := 105) hx hb dX5_air_54 (by decide) (fun c54 => ?_) (fun c54 => ?_)
      · refine lv_iconst (v := (nI 0)) hx hb dX5_air_105 (by decide) ?_
        exact z_retz hx hb hr hlocks rfl (bI_ff (by first | (simp only [airB, c27, c43, c54, if_true, if_false, eq_self, decide_true, decide_false, Bool.and_true, Bool.true_and, Bool.and_false, Bool.false_and, Bool.or_true, Bool.true_or, Bool.or_false, Bool.false_or, Bool.not_true, Bool.not_false, not_true_eq_false, not_false_eq_true, and_true, true_and, and_false, false_and, gt_iff_lt, ge_iff_le, ne_eq, Bool.false_eq_true]; done) | (simp [airB, c27, c43, c54]; done) | (simp_all [airB, c27, c43, c54]; done))) dX5_air_106
      · refine lv_iload_n hx hb dX5_air_57 rfl (lv_at hl 5 rfl) ?_
        refine lv_aload_n hx hb dX5_air_58 rfl (lv_at hl 2 rfl) ?_
        refine lv_iload hx hb dX5_air_59 (lv_at hl 7 rfl) ?_
        refine lv_iconst (v := (nI 2)) hx hb dX5_air_61 (by decide) ?_
        refine z_callV (As := [.int (nI p), .int (nI 2)]) (rest := [.int h]) hF hK (c_X5_of l D y m d p 2 (by omega) (by omega)) (cwV 2 hts gX5_air_X5_of rfl rfl rfl (by decide +kernel) ⟨Nat.le_of_ble_eq_true rfl, Nat.le_of_ble_eq_true rfl⟩) (z_recv (q := (RX5, TX5, 9)) hK hO rfl) hΦ rfl hl.1 rfl (Nat.le_of_ble_eq_true rfl) dX5_air_62 ⟨Nat.zero_le _, Nat.zero_le _⟩ ?_
        refine z_callS (As := [.int h, .int (pm d p 2)]) (rest := []) hF hK (c_X5_hoursMeet l D y h (pm d p 2) ) (va_cwS 2 hts gX5_air_X5_hoursMeet rfl rfl rfl (by decide +kernel) ⟨Nat.le_of_ble_eq_true rfl, Nat.le_of_ble_eq_true rfl⟩) trivial rfl hl.1 rfl (Nat.le_of_ble_eq_true rfl) dX5_air_65 ⟨Nat.zero_le _, Nat.zero_le _⟩ ?_
        refine z_ifeq (tgt := 105) hx hb dX5_air_68 (by decide) (fun c68 => ?_) (fun c68 => ?_)
        · refine lv_iconst (v := (nI 0)) hx hb dX5_air_105 (by decide) ?_
          exact z_retz hx hb hr hlocks rfl (bI_ff (by first | (simp only [airB, c27, c43, c54, c68, if_true, if_false, eq_self, decide_true, decide_false, Bool.and_true, Bool.true_and, Bool.and_false, Bool.false_and, Bool.or_true, Bool.true_or, Bool.or_false, Bool.false_or, Bool.not_true, Bool.not_false, not_true_eq_false, not_false_eq_true, and_true, true_and, and_false, false_and, gt_iff_lt, ge_iff_le, ne_eq, Bool.false_eq_true]; done) | (simp [airB, c27, c43, c54, c68]; done) | (simp_all [airB, c27, c43, c54, c68]; done))) dX5_air_106
        · refine lv_iload hx hb dX5_air_71 (lv_at hl 0 rfl) ?_
          refine lv_aload_n hx hb dX5_air_73 rfl (lv_at hl 2 rfl) ?_
          refine z_get (fs := (.ref (m + 1) :: fs)) (ref := "CranePermitsModel") (C := RX5) (T := TX5) (N := 9) (ci := 5) (v := .ref (m + 1)) hx hb hts iX5_air_X5 hown hK hO 0 (by decide) rfl (hts (.fieldLink RX5 7 "CranePermitsModel" "d" "[I") (List.mem_of_getElem? (i := 1) rfl)) rfl rfl dX5_air_74 ?_
          refine lv_iconst (v := (nI 3)) hx hb dX5_air_77 (by decide) ?_
          refine z_iald (f := d) hx hb hK hA (by omega) (by decide) dX5_air_78 ?_
          refine lv_icmp_ge (tgt := 105) hx hb dX5_air_79 (by decide) (fun c79 => ?_) (fun c79 => ?_)
          · refine lv_iconst (v := (nI 0)) hx hb dX5_air_105 (by decide) ?_
            exact z_retz hx hb hr hlocks rfl (bI_ff (by first | (simp only [airB, c27, c43, c54, c68, c79, if_true, if_false, eq_self, decide_true, decide_false, Bool.and_true, Bool.true_and, Bool.and_false, Bool.false_and, Bool.or_true, Bool.true_or, Bool.or_false, Bool.false_or, Bool.not_true, Bool.not_false, not_true_eq_false, not_false_eq_true, and_true, true_and, and_false, false_and, gt_iff_lt, ge_iff_le, ne_eq, Bool.false_eq_true]; done) | (simp [airB, c27, c43, c54, c68, c79]; done) | (simp_all [airB, c27, c43, c54, c68, c79]; done))) dX5_air_106
          · refine lv_aload_n hx hb dX5_air_82 rfl (lv_at hl 2 rfl) ?_
            refine lv_iload_n hx hb dX5_air_83 rfl (lv_at hl 3 rfl) ?_
            refine lv_iload hx hb dX5_air_84 (lv_at hl 6 rfl) ?_
            refine lv_iload hx hb dX5_air_86 (lv_at hl 1 rfl) ?_
            refine lv_aload_n hx hb dX5_air_88 rfl (lv_at hl 2 rfl) ?_
            refine lv_iload hx hb dX5_air_89 (lv_at hl 7 rfl) ?_
            refine lv_iconst (v := (nI 3)) hx hb dX5_air_91 (by decide) ?_
            refine z_callV (As := [.int (nI p), .int (nI 3)]) (rest := [.int (nI (pC d p)), .int sw, .int (nI c), .ref m]) hF hK (c_X5_of l D y m d p 3 (by omega) (by omega)) (cwV 2 hts gX5_air_X5_of rfl rfl rfl (by decide +kernel) ⟨Nat.le_of_ble_eq_true rfl, Nat.le_of_ble_eq_true rfl⟩) (z_recv (q := (RX5, TX5, 9)) hK hO rfl) hΦ rfl hl.1 rfl (Nat.le_of_ble_eq_true rfl) dX5_air_92 ⟨Nat.zero_le _, Nat.zero_le _⟩ ?_
            refine z_callV (As := [.int (nI c), .int sw, .int (nI (pC d p)), .int (pm d p 3)]) (rest := []) hF hK (c_X5_areaMeets l D y m d c sw (pC d p) (pm d p 3) (by omega) (by omega)) (cwV 4 hts gX5_air_X5_areaMeets rfl rfl rfl (by decide +kernel) ⟨Nat.le_of_ble_eq_true rfl, Nat.le_of_ble_eq_true rfl⟩) (z_recv (q := (RX5, TX5, 9)) hK hO rfl) hΦ rfl hl.1 rfl (Nat.le_of_ble_eq_true rfl) dX5_air_95 ⟨Nat.zero_le _, Nat.zero_le _⟩ ?_
            refine z_ifeq (tgt := 105) hx hb dX5_air_98 (by decide) (fun c98 => ?_) (fun c98 => ?_)
            · refine lv_iconst (v := (nI 0)) hx hb dX5_air_105 (by decide) ?_
              exact z_retz hx hb hr hlocks rfl (bI_ff (by first | (simp only [airB, c27, c43, c54, c68, c79, c98, if_true, if_false, eq_self, decide_true, decide_false, Bool.and_true, Bool.true_and, Bool.and_false, Bool.false_and, Bool.or_true, Bool.true_or, Bool.or_false, Bool.false_or, Bool.not_true, Bool.not_false, not_true_eq_false, not_false_eq_true, and_true, true_and, and_false, false_and, gt_iff_lt, ge_iff_le, ne_eq, Bool.false_eq_true]; done) | (simp [airB, c27, c43, c54, c68, c79, c98]; done) | (simp_all [airB, c27, c43, c54, c68, c79, c98]; done))) dX5_air_106
            · refine lv_iconst (v := (nI 1)) hx hb dX5_air_101 (by decide) ?_
              refine lv_goto (tgt := 106) hx hb dX5_air_102 (by decide) ?_
              exact z_retz hx hb hr hlocks rfl (bI_tt (by first | (simp only [airB, c27, c43, c54, c68, c79, c98, if_true, if_false, eq_self, decide_true, decide_false, Bool.and_true, Bool.true_and, Bool.and_false, Bool.false_and, Bool.or_true, Bool.true_or, Bool.or_false, Bool.false_or, Bool.not_true, Bool.not_false, not_true_eq_false, not_false_eq_true, and_true, true_and, and_false, false_and, gt_iff_lt, ge_iff_le, ne_eq, Bool.false_eq_true]; done) | (simp [airB, c27, c43, c54, c68, c79, c98]; done) | (simp_all [airB, c27, c43, c54, c68, c79, c98]; done))) dX5_air_106
  · refine lv_iload hx hb dX5_air_30 (lv_at hl 0 rfl) ?_
    refine lv_ineg hx hb dX5_air_32 ?_
    refine lv_goto (tgt := 38) hx hb dX5_air_33 (by decide) ?_
    refine z_topi (z := (absM (gr d c 3 - gr d (pC d p) 3))) (by first | (unfold absM; rw [if_pos c27]) | (unfold absM; rw [if_neg c27])) ?_
    refine lv_istore (lv' := [(7, .int (absM (gr d c 3 - gr d (pC d p) 3))), (6, .int (nI (pC d p))), (0, .ref m), (1, .int (nI c)), (2, .int n), (3, .int h), (4, .int sw), (5, .int (nI p))]) hx hb dX5_air_38 hl (by decide) rfl (fun ls hl => ?_)
    refine lv_iload_n hx hb dX5_air_40 rfl (lv_at hl 3 rfl) ?_
    refine lv_iload hx hb dX5_air_41 (lv_at hl 1 rfl) ?_
    refine z_eq (tgt := 105) hx hb (by omega) (by omega) dX5_air_43 (by decide) (fun c43 => ?_) (fun c43 => ?_)
    · refine lv_iconst (v := (nI 0)) hx hb dX5_air_105 (by decide) ?_
      exact z_retz hx hb hr hlocks rfl (bI_ff (by first | (simp only [airB, c27, c43, if_true, if_false, eq_self, decide_true, decide_false, Bool.and_true, Bool.true_and, Bool.and_false, Bool.false_and, Bool.or_true, Bool.true_or, Bool.or_false, Bool.false_or, Bool.not_true, Bool.not_false, not_true_eq_false, not_false_eq_true, and_true, true_and, and_false, false_and, gt_iff_lt, ge_iff_le, ne_eq, Bool.false_eq_true]; done) | (simp [airB, c27, c43]; done) | (simp_all [airB, c27, c43]; done))) dX5_air_106
    · refine lv_iload_n hx hb dX5_air_46 rfl (lv_at hl 4 rfl) ?_
      refine lv_aload_n hx hb dX5_air_47 rfl (lv_at hl 2 rfl) ?_
      refine lv_iload hx hb dX5_air_48 (lv_at hl 7 rfl) ?_
      refine lv_iconst (v := (nI 1)) hx hb dX5_air_50 (by decide) ?_
      refine z_callV (As := [.int (nI p), .int (nI 1)]) (rest := [.int n]) hF hK (c_X5_of l D y m d p 1 (by omega) (by omega)) (cwV 2 hts gX5_air_X5_of rfl rfl rfl (by decide +kernel) ⟨Nat.le_of_ble_eq_true rfl, Nat.le_of_ble_eq_true rfl⟩) (z_recv (q := (RX5, TX5, 9)) hK hO rfl) hΦ rfl hl.1 rfl (Nat.le_of_ble_eq_true rfl) dX5_air_51 ⟨Nat.zero_le _, Nat.zero_le _⟩ ?_
      refine lv_icmp_ne (tgt := 105) hx hb dX5_air_54 (by decide) (fun c54 => ?_) (fun c54 => ?_)
      · refine lv_iconst (v := (nI 0)) hx hb dX5_air_105 (by decide) ?_
        exact z_retz hx hb hr hlocks rfl (bI_ff (by first | (simp only [airB, c27, c43, c54, if_true, if_false, eq_self, decide_true, decide_false, Bool.and_true, Bool.true_and, Bool.and_false, Bool.false_and, Bool.or_true, Bool.true_or, Bool.or_false, Bool.false_or, Bool.not_true, Bool.not_false, not_true_eq_false, not_false_eq_true, and_true, true_and, and_false, false_and, gt_iff_lt, ge_iff_le, ne_eq, Bool.false_eq_true]; done) | (simp [airB, c27, c43, c54]; done) | (simp_all [airB, c27, c43, c54]; done))) dX5_air_106
      · refine lv_iload_n hx hb dX5_air_57 rfl (lv_at hl 5 rfl) ?_
        refine lv_aload_n hx hb dX5_air_58 rfl (lv_at hl 2 rfl) ?_
        refine lv_iload hx hb dX5_air_59 (lv_at hl 7 rfl) ?_
        refine lv_iconst (v := (nI 2)) hx hb dX5_air_61 (by decide) ?_
        refine z_callV (As := [.int (nI p), .int (nI 2)]) (rest := [.int h]) hF hK (c_X5_of l D y m d p 2 (by omega) (by omega)) (cwV 2 hts gX5_air_X5_of rfl rfl rfl (by decide +kernel) ⟨Nat.le_of_ble_eq_true rfl, Nat.le_of_ble_eq_true rfl⟩) (z_recv (q := (RX5, TX5, 9)) hK hO rfl) hΦ rfl hl.1 rfl (Nat.le_of_ble_eq_true rfl) dX5_air_62 ⟨Nat.zero_le _, Nat.zero_le _⟩ ?_
        refine z_callS (As := [.int h, .int (pm d p 2)]) (rest := []) hF hK (c_X5_hoursMeet l D y h (pm d p 2) ) (va_cwS 2 hts gX5_air_X5_hoursMeet rfl rfl rfl (by decide +kernel) ⟨Nat.le_of_ble_eq_true rfl, Nat.le_of_ble_eq_true rfl⟩) trivial rfl hl.1 rfl (Nat.le_of_ble_eq_true rfl) dX5_air_65 ⟨Nat.zero_le _, Nat.zero_le _⟩ ?_
        refine z_ifeq (tgt := 105) hx hb dX5_air_68 (by decide) (fun c68 => ?_) (fun c68 => ?_)
        · refine lv_iconst (v := (nI 0)) hx hb dX5_air_105 (by decide) ?_
          exact z_retz hx hb hr hlocks rfl (bI_ff (by first | (simp only [airB, c27, c43, c54, c68, if_true, if_false, eq_self, decide_true, decide_false, Bool.and_true, Bool.true_and, Bool.and_false, Bool.false_and, Bool.or_true, Bool.true_or, Bool.or_false, Bool.false_or, Bool.not_true, Bool.not_false, not_true_eq_false, not_false_eq_true, and_true, true_and, and_false, false_and, gt_iff_lt, ge_iff_le, ne_eq, Bool.false_eq_true]; done) | (simp [airB, c27, c43, c54, c68]; done) | (simp_all [airB, c27, c43, c54, c68]; done))) dX5_air_106
        · refine lv_iload hx hb dX5_air_71 (lv_at hl 0 rfl) ?_
          refine lv_aload_n hx hb dX5_air_73 rfl (lv_at hl 2 rfl) ?_
          refine z_get (fs := (.ref (m + 1) :: fs)) (ref := "CranePermitsModel") (C := RX5) (T := TX5) (N := 9) (ci := 5) (v := .ref (m + 1)) hx hb hts iX5_air_X5 hown hK hO 0 (by decide) rfl (hts (.fieldLink RX5 7 "CranePermitsModel" "d" "[I") (List.mem_of_getElem? (i := 1) rfl)) rfl rfl dX5_air_74 ?_
          refine lv_iconst (v := (nI 3)) hx hb dX5_air_77 (by decide) ?_
          refine z_iald (f := d) hx hb hK hA (by omega) (by decide) dX5_air_78 ?_
          refine lv_icmp_ge (tgt := 105) hx hb dX5_air_79 (by decide) (fun c79 => ?_) (fun c79 => ?_)
          · refine lv_iconst (v := (nI 0)) hx hb dX5_air_105 (by decide) ?_
            exact z_retz hx hb hr hlocks rfl (bI_ff (by first | (simp only [airB, c27, c43, c54, c68, c79, if_true, if_false, eq_self, decide_true, decide_false, Bool.and_true, Bool.true_and, Bool.and_false, Bool.false_and, Bool.or_true, Bool.true_or, Bool.or_false, Bool.false_or, Bool.not_true, Bool.not_false, not_true_eq_false, not_false_eq_true, and_true, true_and, and_false, false_and, gt_iff_lt, ge_iff_le, ne_eq, Bool.false_eq_true]; done) | (simp [airB, c27, c43, c54, c68, c79]; done) | (simp_all [airB, c27, c43, c54, c68, c79]; done))) dX5_air_106
          · refine lv_aload_n hx hb dX5_air_82 rfl (lv_at hl 2 rfl) ?_
            refine lv_iload_n hx hb dX5_air_83 rfl (lv_at hl 3 rfl) ?_
            refine lv_iload hx hb dX5_air_84 (lv_at hl 6 rfl) ?_
            refine lv_iload hx hb dX5_air_86 (lv_at hl 1 rfl) ?_
            refine lv_aload_n hx hb dX5_air_88 rfl (lv_at hl 2 rfl) ?_
            refine lv_iload hx hb dX5_air_89 (lv_at hl 7 rfl) ?_
            refine lv_iconst (v := (nI 3)) hx hb dX5_air_91 (by decide) ?_
            refine z_callV (As := [.int (nI p), .int (nI 3)]) (rest := [.int (nI (pC d p)), .int sw, .int (nI c), .ref m]) hF hK (c_X5_of l D y m d p 3 (by omega) (by omega)) (cwV 2 hts gX5_air_X5_of rfl rfl rfl (by decide +kernel) ⟨Nat.le_of_ble_eq_true rfl, Nat.le_of_ble_eq_true rfl⟩) (z_recv (q := (RX5, TX5, 9)) hK hO rfl) hΦ rfl hl.1 rfl (Nat.le_of_ble_eq_true rfl) dX5_air_92 ⟨Nat.zero_le _, Nat.zero_le _⟩ ?_
            refine z_callV (As := [.int (nI c), .int sw, .int (nI (pC d p)), .int (pm d p 3)]) (rest := []) hF hK (c_X5_areaMeets l D y m d c sw (pC d p) (pm d p 3) (by omega) (by omega)) (cwV 4 hts gX5_air_X5_areaMeets rfl rfl rfl (by decide +kernel) ⟨Nat.le_of_ble_eq_true rfl, Nat.le_of_ble_eq_true rfl⟩) (z_recv (q := (RX5, TX5, 9)) hK hO rfl) hΦ rfl hl.1 rfl (Nat.le_of_ble_eq_true rfl) dX5_air_95 ⟨Nat.zero_le _, Nat.zero_le _⟩ ?_
            refine z_ifeq (tgt := 105) hx hb dX5_air_98 (by decide) (fun c98 => ?_) (fun c98 => ?_)
            · refine lv_iconst (v := (nI 0)) hx hb dX5_air_105 (by decide) ?_
              exact z_retz hx hb hr hlocks rfl (bI_ff (by first | (simp only [airB, c27, c43, c54, c68, c79, c98, if_true, if_false, eq_self, decide_true, decide_false, Bool.and_true, Bool.true_and, Bool.and_false, Bool.false_and, Bool.or_true, Bool.true_or, Bool.or_false, Bool.false_or, Bool.not_true, Bool.not_false, not_true_eq_false, not_false_eq_true, and_true, true_and, and_false, false_and, gt_iff_lt, ge_iff_le, ne_eq, Bool.false_eq_true]; done) | (simp [airB, c27, c43, c54, c68, c79, c98]; done) | (simp_all [airB, c27, c43, c54, c68, c79, c98]; done))) dX5_air_106
            · refine lv_iconst (v := (nI 1)) hx hb dX5_air_101 (by decide) ?_
              refine lv_goto (tgt := 106) hx hb dX5_air_102 (by decide) ?_
              exact z_retz hx hb hr hlocks rfl (bI_tt (by first | (simp only [airB, c27, c43, c54, c68, c79, c98, if_true, if_false, eq_self, decide_true, decide_false, Bool.and_true, Bool.true_and, Bool.and_false, Bool.false_and, Bool.or_true, Bool.true_or, Bool.or_false, Bool.false_or, Bool.not_true, Bool.not_false, not_true_eq_false, not_false_eq_true, and_true, true_and, and_false, false_and, gt_iff_lt, ge_iff_le, ne_eq, Bool.false_eq_true]; done) | (simp [airB, c27, c43, c54, c68, c79, c98]; done) | (simp_all [airB, c27, c43, c54, c68, c79, c98]; done))) dX5_air_106
theorem iX5_firstInAir_X5 : ∀ w ∈ wsX50, w ∈ wsX5_firstInAir := fun w h => (List.mem_cons_of_mem _ (List.mem_append_right _ h))
set_option maxRecDepth 100000 in
set_option maxHeartbeats 4000000 in
theorem c_X5_firstInAir (l : Launch) (D : va_G) (y : zY) (m : Nat) (d : Nat → Int32) (c : Nat) (n : Int32) (h : Int32) (sw : Int32) (hI : zI d) (hc : c < 8) : Met l yX5_firstInAir wsX5_firstInAir ({ frames := 4, cells := 0, slots := 0, locals := 100 }) (zP [.ref m, .int (nI c), .int n, .int h, .int sw] (zM D y m d) D y) (zQ (some (.int (oI (fiaO d c n h sw))))) 0 0 nofree := by
  refine z_body (cc := cX5_firstInAir) (maxL := 6) (ret := (some .int)) (la := [(0, .ref m), (1, .int (nI c)), (2, .int n), (3, .int h), (4, .int sw)]) (by decide) rfl (Nat.le_of_ble_eq_true rfl) rfl ?_
  intro pg ev s mm below meth c0 ls hx hb hr hF hlocks hΦ hK hl _
  have hts := hF.2.2.2.2
  have hown : s.vm.findClass RX5 = some mm.cls := hF.2.2.2.1
  obtain ⟨⟨fs, hO⟩, hA⟩ := id hΦ
  have hG2 := hI.ng2
  have hC8 := hI.nc8
  refine lv_iconst (v := (nI 0)) hx hb dX5_firstInAir_0 (by decide) ?_
  refine lv_istore (lv' := [(5, .int (nI 0)), (0, .ref m), (1, .int (nI c)), (2, .int n), (3, .int h), (4, .int sw)]) hx hb dX5_firstInAir_1 hl (by decide) rfl (fun ls hl => ?_)
  refine z_loop (S := Nat) (nL := 6) (fun (i : Nat) => nG d - i) (fun (i : Nat) => [(5, .int (nI i)), (0, .ref m), (1, .int (nI c)), (2, .int n), (3, .int h), (4, .int sw)]) (fun (i : Nat) => i ≤ nG d ∧ ∀ j, j < i → fiaP d c n h sw j = false) 0 (⟨Nat.zero_le _, fun j hj => absurd hj (Nat.not_lt_zero j)⟩) (lv_sub hl [0, 1, 2, 3, 4, 5] rfl) ?_
  clear hl
  rintro i ls hI_3 hl ih_3
  obtain ⟨hi, hall⟩ := hI_3
  refine lv_iload hx hb dX5_firstInAir_3 (lv_at hl 0 rfl) ?_
  refine lv_aload_n hx hb dX5_firstInAir_5 rfl (lv_at hl 1 rfl) ?_
  refine z_get (fs := (.ref (m + 1) :: fs)) (ref := "CranePermitsModel") (C := RX5) (T := TX5) (N := 9) (ci := 5) (v := .ref (m + 1)) hx hb hts iX5_firstInAir_X5 hown hK hO 0 (by decide) rfl (hts (.fieldLink RX5 7 "CranePermitsModel" "d" "[I") (List.mem_of_getElem? (i := 1) rfl)) rfl rfl dX5_firstInAir_6 ?_
  refine lv_sipush (v := (nI 442)) hx hb dX5_firstInAir_9 (by decide) ?_
  refine z_iald (f := d) hx hb hK hA (by omega) (by decide) dX5_firstInAir_12 ?_
  refine z_topi (z := (nI (nG d))) (hI.ng) ?_
  refine z_ge (tgt := 50) hx hb (by omega) (by omega) dX5_firstInAir_13 (by decide) (fun c13 => ?_) (fun c13 => ?_)
  · refine lv_iconst (v := (-1)) hx hb dX5_firstInAir_50 (by decide) ?_
    exact z_reti hx hb hr hlocks rfl (by unfold fiaO; rw [fst_n (fun j hj => hall j (by omega))]; rfl) dX5_firstInAir_51
  · refine lv_aload_n hx hb dX5_firstInAir_16 rfl (lv_at hl 1 rfl) ?_
    refine lv_iload hx hb dX5_firstInAir_17 (lv_at hl 0 rfl) ?_
    refine lv_iconst (v := (nI 4)) hx hb dX5_firstInAir_19 (by decide) ?_
    refine z_callV (As := [.int (nI i), .int (nI 4)]) (rest := []) hF hK (c_X5_of l D y m d i 4 (by omega) (by omega)) (cwV 2 hts gX5_firstInAir_X5_of rfl rfl rfl (by decide +kernel) ⟨Nat.le_of_ble_eq_true rfl, Nat.le_of_ble_eq_true rfl⟩) (z_recv (q := (RX5, TX5, 9)) hK hO rfl) hΦ rfl hl.1 rfl (Nat.le_of_ble_eq_true rfl) dX5_firstInAir_20 ⟨Nat.zero_le _, Nat.zero_le _⟩ ?_
    refine lv_iconst (v := (nI 1)) hx hb dX5_firstInAir_23 (by decide) ?_
    refine lv_icmp_ne (tgt := 44) hx hb dX5_firstInAir_24 (by decide) (fun c24 => ?_) (fun c24 => ?_)
    · refine lv_iinc (v := (nI (i + 1))) (lv' := [(5, .int (nI (i + 1))), (0, .ref m), (1, .int (nI c)), (2, .int n), (3, .int h), (4, .int sw)]) hx hb dX5_firstInAir_44 hl (k := 0) rfl (in1 _) (by decide) rfl (fun ls hl => ?_)
      refine lv_goto (tgt := 3) hx hb dX5_firstInAir_47 (by decide) ?_
      exact ih_3 (i + 1) _ (by omega) (by refine ⟨by omega, lt_sc hall ?_⟩; unfold fiaP; first | (rw [c38]; exact Bool.and_false _) | (rw [decide_eq_false c24]; rfl)) (lv_sub hl [0, 1, 2, 3, 4, 5] rfl)
    · refine lv_aload_n hx hb dX5_firstInAir_27 rfl (lv_at hl 1 rfl) ?_
      refine lv_iload_n hx hb dX5_firstInAir_28 rfl (lv_at hl 2 rfl) ?_
      refine lv_iload_n hx hb dX5_firstInAir_29 rfl (lv_at hl 3 rfl) ?_
      refine lv_iload_n hx hb dX5_firstInAir_30 rfl (lv_at hl 4 rfl) ?_
      refine lv_iload hx hb dX5_firstInAir_31 (lv_at hl 5 rfl) ?_
      refine lv_iload hx hb dX5_firstInAir_33 (lv_at hl 0 rfl) ?_
      refine z_callV (As := [.int (nI c), .int n, .int h, .int sw, .int (nI i)]) (rest := []) hF hK (c_X5_air l D y m d c n h sw i (hI) (by omega) (by omega)) (cwV 5 hts gX5_firstInAir_X5_air rfl rfl rfl (by decide +kernel) ⟨Nat.le_of_ble_eq_true rfl, Nat.le_of_ble_eq_true rfl⟩) (z_recv (q := (RX5, TX5, 9)) hK hO rfl) hΦ rfl hl.1 rfl (Nat.le_of_ble_eq_true rfl) dX5_firstInAir_35 ⟨Nat.zero_le _, Nat.zero_le _⟩ ?_
      refine z_ifeq (tgt := 44) hx hb dX5_firstInAir_38 (by decide) (fun c38 => ?_) (fun c38 => ?_)
      · refine lv_iinc (v := (nI (i + 1))) (lv' := [(5, .int (nI (i + 1))), (0, .ref m), (1, .int (nI c)), (2, .int n), (3, .int h), (4, .int sw)]) hx hb dX5_firstInAir_44 hl (k := 0) rfl (in1 _) (by decide) rfl (fun ls hl => ?_)
        refine lv_goto (tgt := 3) hx hb dX5_firstInAir_47 (by decide) ?_
        exact ih_3 (i + 1) _ (by omega) (by refine ⟨by omega, lt_sc hall ?_⟩; unfold fiaP; first | (rw [c38]; exact Bool.and_false _) | (rw [decide_eq_false c24]; rfl)) (lv_sub hl [0, 1, 2, 3, 4, 5] rfl)
      · refine lv_iload hx hb dX5_firstInAir_41 (lv_at hl 0 rfl) ?_
        exact z_reti hx hb hr hlocks rfl (by unfold fiaO; rw [fst_s (show fiaP d c n h sw i = true by unfold fiaP; rw [c38, decide_eq_true c24]; rfl) hall (by omega)]; rfl) dX5_firstInAir_43
theorem iX5_allowed_X5 : ∀ w ∈ wsX50, w ∈ wsX5_allowed := fun w h => (List.mem_cons_of_mem _ (List.mem_append_right _ h))
set_option maxRecDepth 100000 in
set_option maxHeartbeats 4000000 in
theorem c_X5_allowed (l : Launch) (D : va_G) (y : zY) (m : Nat) (d : Nat → Int32) (st : Nat) (n : Nat) (hst : st < 4) (hn : n < 30) : Met l yX5_allowed wsX5_allowed ({ frames := 1, cells := 0, slots := 0, locals := 21 }) (zP [.ref m, .int (nI st), .int (nI n)] (zM D y m d) D y) (zQ (some (.int (alwI d st n)))) 0 0 nofree := by
  refine z_body (cc := cX5_allowed) (maxL := 4) (ret := (some .int)) (la := [(0, .ref m), (1, .int (nI st)), (2, .int (nI n))]) (by decide) rfl (Nat.le_of_ble_eq_true rfl) rfl ?_
  intro pg ev s mm below meth c0 ls hx hb hr hF hlocks hΦ hK hl _
  have hts := hF.2.2.2.2
  have hown : s.vm.findClass RX5 = some mm.cls := hF.2.2.2.1
  obtain ⟨⟨fs, hO⟩, hA⟩ := id hΦ
  refine lv_aload_n hx hb dX5_allowed_0 rfl (lv_at hl 0 rfl) ?_
  refine z_get (fs := (.ref (m + 1) :: fs)) (ref := "CranePermitsModel") (C := RX5) (T := TX5) (N := 9) (ci := 5) (v := .ref (m + 1)) hx hb hts iX5_allowed_X5 hown hK hO 0 (by decide) rfl (hts (.fieldLink RX5 7 "CranePermitsModel" "d" "[I") (List.mem_of_getElem? (i := 1) rfl)) rfl rfl dX5_allowed_1 ?_
  refine lv_bipush (v := (nI 82)) hx hb dX5_allowed_4 (by decide) ?_
  refine lv_iload_n hx hb dX5_allowed_6 rfl (lv_at hl 1 rfl) ?_
  refine lv_iload_n hx hb dX5_allowed_7 rfl (lv_at hl 2 rfl) ?_
  refine z_callS (As := [.int (nI st), .int (nI n)]) (rest := [.int (nI 82), .ref (m + 1)]) hF hK (c_X5_spot l D y st n ) (va_cwS 2 hts gX5_allowed_X5_spot rfl rfl rfl (by decide +kernel) ⟨Nat.le_of_ble_eq_true rfl, Nat.le_of_ble_eq_true rfl⟩) trivial rfl hl.1 rfl (Nat.le_of_ble_eq_true rfl) dX5_allowed_8 ⟨Nat.zero_le _, Nat.zero_le _⟩ ?_
  refine z_iadd hx hb dX5_allowed_11 ?_
  refine z_iald (f := d) hx hb hK hA (by omega) (by decide) dX5_allowed_12 ?_
  refine lv_istore_n (lv' := [(3, .int (d (82 + (30 * st + n)))), (0, .ref m), (1, .int (nI st)), (2, .int (nI n))]) hx hb dX5_allowed_13 rfl hl (by decide) rfl (fun ls hl => ?_)
  refine lv_iload_n hx hb dX5_allowed_14 rfl (lv_at hl 0 rfl) ?_
  refine lv_iconst (v := (-1)) hx hb dX5_allowed_15 (by decide) ?_
  refine lv_icmp_ne (tgt := 28) hx hb dX5_allowed_16 (by decide) (fun c16 => ?_) (fun c16 => ?_)
  · refine lv_iload_n hx hb dX5_allowed_28 rfl (lv_at hl 0 rfl) ?_
    exact z_reti hx hb hr hlocks rfl (by first | (simp only [alwI, c16, if_true, if_false, eq_self, decide_true, decide_false, Bool.and_true, Bool.true_and, Bool.and_false, Bool.false_and, Bool.or_true, Bool.true_or, Bool.or_false, Bool.false_or, Bool.not_true, Bool.not_false, not_true_eq_false, not_false_eq_true, and_true, true_and, and_false, false_and, gt_iff_lt, ge_iff_le, ne_eq, Bool.false_eq_true]; done) | (simp [alwI, c16]; done) | (simp_all [alwI, c16]; done)) dX5_allowed_29
  · refine lv_aload_n hx hb dX5_allowed_19 rfl (lv_at hl 1 rfl) ?_
    refine z_get (fs := (.ref (m + 1) :: fs)) (ref := "CranePermitsModel") (C := RX5) (T := TX5) (N := 9) (ci := 5) (v := .ref (m + 1)) hx hb hts iX5_allowed_X5 hown hK hO 0 (by decide) rfl (hts (.fieldLink RX5 7 "CranePermitsModel" "d" "[I") (List.mem_of_getElem? (i := 1) rfl)) rfl rfl dX5_allowed_20 ?_
    refine lv_iconst (v := (nI 2)) hx hb dX5_allowed_23 (by decide) ?_
    refine z_iald (f := d) hx hb hK hA (by omega) (by decide) dX5_allowed_24 ?_
    refine lv_goto (tgt := 29) hx hb dX5_allowed_25 (by decide) ?_
    exact z_reti hx hb hr hlocks rfl (by first | (simp only [alwI, c16, if_true, if_false, eq_self, decide_true, decide_false, Bool.and_true, Bool.true_and, Bool.and_false, Bool.false_and, Bool.or_true, Bool.true_or, Bool.or_false, Bool.false_or, Bool.not_true, Bool.not_false, not_true_eq_false, not_false_eq_true, and_true, true_and, and_false, false_and, gt_iff_lt, ge_iff_le, ne_eq, Bool.false_eq_true]; done) | (simp [alwI, c16]; done) | (simp_all [alwI, c16]; done)) dX5_allowed_29
theorem iX5_credits_X5 : ∀ w ∈ wsX50, w ∈ wsX5_credits := fun w h => (List.mem_cons_of_mem _ (List.mem_append_right _ h))
set_option maxRecDepth 100000 in
set_option maxHeartbeats 4000000 in
theorem c_X5_credits (l : Launch) (D : va_G) (y : zY) (m : Nat) (d : Nat → Int32) (st : Nat) (n : Nat) (hst : st < 4) (hn : n < 30) : Met l yX5_credits wsX5_credits ({ frames := 2, cells := 0, slots := 0, locals := 44 }) (zP [.ref m, .int (nI st), .int (nI n)] (zM D y m d) D y) (zQ (some (.int (creI d st n)))) 0 0 nofree := by
  refine z_body (cc := cX5_credits) (maxL := 4) (ret := (some .int)) (la := [(0, .ref m), (1, .int (nI st)), (2, .int (nI n))]) (by decide) rfl (Nat.le_of_ble_eq_true rfl) rfl ?_
  intro pg ev s mm below meth c0 ls hx hb hr hF hlocks hΦ hK hl _
  have hts := hF.2.2.2.2
  have hown : s.vm.findClass RX5 = some mm.cls := hF.2.2.2.1
  obtain ⟨⟨fs, hO⟩, hA⟩ := id hΦ
  refine lv_iload_n hx hb dX5_credits_0 rfl (lv_at hl 1 rfl) ?_
  refine lv_iload_n hx hb dX5_credits_1 rfl (lv_at hl 2 rfl) ?_
  refine z_callS (As := [.int (nI st), .int (nI n)]) (rest := []) hF hK (c_X5_spot l D y st n ) (va_cwS 2 hts gX5_credits_X5_spot rfl rfl rfl (by decide +kernel) ⟨Nat.le_of_ble_eq_true rfl, Nat.le_of_ble_eq_true rfl⟩) trivial rfl hl.1 rfl (Nat.le_of_ble_eq_true rfl) dX5_credits_2 ⟨Nat.zero_le _, Nat.zero_le _⟩ ?_
  refine lv_istore_n (lv' := [(3, .int (nI (30 * st + n))), (0, .ref m), (1, .int (nI st)), (2, .int (nI n))]) hx hb dX5_credits_5 rfl hl (by decide) rfl (fun ls hl => ?_)
  refine lv_aload_n hx hb dX5_credits_6 rfl (lv_at hl 1 rfl) ?_
  refine lv_iload_n hx hb dX5_credits_7 rfl (lv_at hl 2 rfl) ?_
  refine lv_iload_n hx hb dX5_credits_8 rfl (lv_at hl 3 rfl) ?_
  refine z_callV (As := [.int (nI st), .int (nI n)]) (rest := []) hF hK (c_X5_allowed l D y m d st n (by omega) (by omega)) (cwV 2 hts gX5_credits_X5_allowed rfl rfl rfl (by decide +kernel) ⟨Nat.le_of_ble_eq_true rfl, Nat.le_of_ble_eq_true rfl⟩) (z_recv (q := (RX5, TX5, 9)) hK hO rfl) hΦ rfl hl.1 rfl (Nat.le_of_ble_eq_true rfl) dX5_credits_9 ⟨Nat.zero_le _, Nat.zero_le _⟩ ?_
  refine lv_aload_n hx hb dX5_credits_12 rfl (lv_at hl 1 rfl) ?_
  refine z_get (fs := (.ref (m + 1) :: fs)) (ref := "CranePermitsModel") (C := RX5) (T := TX5) (N := 9) (ci := 5) (v := .ref (m + 1)) hx hb hts iX5_credits_X5 hown hK hO 0 (by decide) rfl (hts (.fieldLink RX5 7 "CranePermitsModel" "d" "[I") (List.mem_of_getElem? (i := 1) rfl)) rfl rfl dX5_credits_13 ?_
  refine lv_sipush (v := (nI 202)) hx hb dX5_credits_16 (by decide) ?_
  refine lv_iload_n hx hb dX5_credits_19 rfl (lv_at hl 0 rfl) ?_
  refine z_iadd hx hb dX5_credits_20 ?_
  refine z_iald (f := d) hx hb hK hA (by omega) (by decide) dX5_credits_21 ?_
  refine lv_iadd hx hb dX5_credits_22 ?_
  refine lv_aload_n hx hb dX5_credits_23 rfl (lv_at hl 1 rfl) ?_
  refine z_get (fs := (.ref (m + 1) :: fs)) (ref := "CranePermitsModel") (C := RX5) (T := TX5) (N := 9) (ci := 5) (v := .ref (m + 1)) hx hb hts iX5_credits_X5 hown hK hO 0 (by decide) rfl (hts (.fieldLink RX5 7 "CranePermitsModel" "d" "[I") (List.mem_of_getElem? (i := 1) rfl)) rfl rfl dX5_credits_24 ?_
  refine lv_sipush (v := (nI 322)) hx hb dX5_credits_27 (by decide) ?_
  refine lv_iload_n hx hb dX5_credits_30 rfl (lv_at hl 0 rfl) ?_
  refine z_iadd hx hb dX5_credits_31 ?_
  refine z_iald (f := d) hx hb hK hA (by omega) (by decide) dX5_credits_32 ?_
  refine lv_isub hx hb dX5_credits_33 ?_
  exact z_reti hx hb hr hlocks rfl (rfl) dX5_credits_34
set_option maxRecDepth 100000 in
set_option maxHeartbeats 4000000 in
theorem c_X5_hoursIn (l : Launch) (D : va_G) (y : zY) (h : Int32)  : Met l yX5_hoursIn wsX5_hoursIn ({ frames := 0, cells := 0, slots := 0, locals := 0 }) (zP [.int h] zT0 D y) (zQ (some (.int (hrsI h)))) 0 0 nofree := by
  refine z_body (cc := cX5_hoursIn) (maxL := 1) (ret := (some .int)) (la := [(0, .int h)]) (by decide) rfl (Nat.le_of_ble_eq_true rfl) rfl ?_
  intro pg ev s mm below meth c0 ls hx hb hr hF hlocks hΦ hK hl _
  have hts := hF.2.2.2.2
  have hown : s.vm.findClass RX5 = some mm.cls := hF.2.2.2.1
  refine lv_iload_n hx hb dX5_hoursIn_0 rfl (lv_at hl 0 rfl) ?_
  refine lv_bipush (v := (nI 10)) hx hb dX5_hoursIn_1 (by decide) ?_
  refine lv_irem hx hb dX5_hoursIn_3 (by decide) ?_
  refine lv_iload_n hx hb dX5_hoursIn_4 rfl (lv_at hl 0 rfl) ?_
  refine lv_bipush (v := (nI 10)) hx hb dX5_hoursIn_5 (by decide) ?_
  refine lv_idiv hx hb dX5_hoursIn_7 (by decide) ?_
  refine lv_isub hx hb dX5_hoursIn_8 ?_
  refine lv_iconst (v := (nI 1)) hx hb dX5_hoursIn_9 (by decide) ?_
  refine lv_iadd hx hb dX5_hoursIn_10 ?_
  exact z_reti hx hb hr hlocks rfl (rfl) dX5_hoursIn_11
set_option maxRecDepth 100000 in
set_option maxHeartbeats 4000000 in
theorem c_X5_uses (l : Launch) (D : va_G) (y : zY) (m : Nat) (d : Nat → Int32) (p : Nat) (hI : zI d) (hp : p < nG d) : Met l yX5_uses wsX5_uses ({ frames := 1, cells := 0, slots := 0, locals := 22 }) (zP [.ref m, .int (nI p)] (zM D y m d) D y) (zQ (some (.int (usI d p)))) 0 0 nofree := by
  refine z_body (cc := cX5_uses) (maxL := 2) (ret := (some .int)) (la := [(0, .ref m), (1, .int (nI p))]) (by decide) rfl (Nat.le_of_ble_eq_true rfl) rfl ?_
  intro pg ev s mm below meth c0 ls hx hb hr hF hlocks hΦ hK hl _
  have hts := hF.2.2.2.2
  have hown : s.vm.findClass RX5 = some mm.cls := hF.2.2.2.1
  obtain ⟨⟨fs, hO⟩, hA⟩ := id hΦ
  have hG2 := hI.ng2
  have hC8 := hI.nc8
  have hp8 := hI.pc8 hp
  refine lv_aload_n hx hb dX5_uses_0 rfl (lv_at hl 0 rfl) ?_
  refine lv_iload_n hx hb dX5_uses_1 rfl (lv_at hl 1 rfl) ?_
  refine lv_iconst (v := (nI 2)) hx hb dX5_uses_2 (by decide) ?_
  refine z_callV (As := [.int (nI p), .int (nI 2)]) (rest := []) hF hK (c_X5_of l D y m d p 2 (by omega) (by omega)) (cwV 2 hts gX5_uses_X5_of rfl rfl rfl (by decide +kernel) ⟨Nat.le_of_ble_eq_true rfl, Nat.le_of_ble_eq_true rfl⟩) (z_recv (q := (RX5, TX5, 9)) hK hO rfl) hΦ rfl hl.1 rfl (Nat.le_of_ble_eq_true rfl) dX5_uses_3 ⟨Nat.zero_le _, Nat.zero_le _⟩ ?_
  refine z_callS (As := [.int (pm d p 2)]) (rest := []) hF hK (c_X5_hoursIn l D y (pm d p 2) ) (va_cwS 1 hts gX5_uses_X5_hoursIn rfl rfl rfl (by decide +kernel) ⟨Nat.le_of_ble_eq_true rfl, Nat.le_of_ble_eq_true rfl⟩) trivial rfl hl.1 rfl (Nat.le_of_ble_eq_true rfl) dX5_uses_6 ⟨Nat.zero_le _, Nat.zero_le _⟩ ?_
  refine lv_aload_n hx hb dX5_uses_9 rfl (lv_at hl 0 rfl) ?_
  refine lv_aload_n hx hb dX5_uses_10 rfl (lv_at hl 0 rfl) ?_
  refine lv_iload_n hx hb dX5_uses_11 rfl (lv_at hl 1 rfl) ?_
  refine lv_iconst (v := (nI 0)) hx hb dX5_uses_12 (by decide) ?_
  refine z_callV (As := [.int (nI p), .int (nI 0)]) (rest := [.ref m, .int (hrsI (pm d p 2))]) hF hK (c_X5_of l D y m d p 0 (by omega) (by omega)) (cwV 2 hts gX5_uses_X5_of rfl rfl rfl (by decide +kernel) ⟨Nat.le_of_ble_eq_true rfl, Nat.le_of_ble_eq_true rfl⟩) (z_recv (q := (RX5, TX5, 9)) hK hO rfl) hΦ rfl hl.1 rfl (Nat.le_of_ble_eq_true rfl) dX5_uses_13 ⟨Nat.zero_le _, Nat.zero_le _⟩ ?_
  refine z_topi (z := (nI (pC d p))) (hI.pc (by omega)) ?_
  refine lv_iconst (v := (nI 5)) hx hb dX5_uses_16 (by decide) ?_
  refine z_callV (As := [.int (nI (pC d p)), .int (nI 5)]) (rest := [.int (hrsI (pm d p 2))]) hF hK (c_X5_craned l D y m d (pC d p) 5 (by omega) (by omega)) (cwV 2 hts gX5_uses_X5_craned rfl rfl rfl (by decide +kernel) ⟨Nat.le_of_ble_eq_true rfl, Nat.le_of_ble_eq_true rfl⟩) (z_recv (q := (RX5, TX5, 9)) hK hO rfl) hΦ rfl hl.1 rfl (Nat.le_of_ble_eq_true rfl) dX5_uses_17 ⟨Nat.zero_le _, Nat.zero_le _⟩ ?_
  refine lv_imul hx hb dX5_uses_20 ?_
  exact z_reti hx hb hr hlocks rfl (rfl) dX5_uses_21
set_option maxRecDepth 100000 in
set_option maxHeartbeats 4000000 in
theorem c_X5_isOf (l : Launch) (D : va_G) (y : zY) (m : Nat) (d : Nat → Int32) (p : Nat) (st : Int32) (n : Int32) (hI : zI d) (hp : p < nG d) : Met l yX5_isOf wsX5_isOf ({ frames := 1, cells := 0, slots := 0, locals := 22 }) (zP [.ref m, .int (nI p), .int st, .int n] (zM D y m d) D y) (zQ (some (.int (bI (ofB d p st n))))) 0 0 nofree := by
  refine z_body (cc := cX5_isOf) (maxL := 4) (ret := (some .boolean)) (la := [(0, .ref m), (1, .int (nI p)), (2, .int st), (3, .int n)]) (by decide) rfl (Nat.le_of_ble_eq_true rfl) rfl ?_
  intro pg ev s mm below meth c0 ls hx hb hr hF hlocks hΦ hK hl _
  have hts := hF.2.2.2.2
  have hown : s.vm.findClass RX5 = some mm.cls := hF.2.2.2.1
  obtain ⟨⟨fs, hO⟩, hA⟩ := id hΦ
  have hG2 := hI.ng2
  have hC8 := hI.nc8
  have hp8 := hI.pc8 hp
  refine lv_aload_n hx hb dX5_isOf_0 rfl (lv_at hl 0 rfl) ?_
  refine lv_iload_n hx hb dX5_isOf_1 rfl (lv_at hl 1 rfl) ?_
  refine lv_iconst (v := (nI 4)) hx hb dX5_isOf_2 (by decide) ?_
  refine z_callV (As := [.int (nI p), .int (nI 4)]) (rest := []) hF hK (c_X5_of l D y m d p 4 (by omega) (by omega)) (cwV 2 hts gX5_isOf_X5_of rfl rfl rfl (by decide +kernel) ⟨Nat.le_of_ble_eq_true rfl, Nat.le_of_ble_eq_true rfl⟩) (z_recv (q := (RX5, TX5, 9)) hK hO rfl) hΦ rfl hl.1 rfl (Nat.le_of_ble_eq_true rfl) dX5_isOf_3 ⟨Nat.zero_le _, Nat.zero_le _⟩ ?_
  refine lv_iconst (v := (nI 1)) hx hb dX5_isOf_6 (by decide) ?_
  refine lv_icmp_ne (tgt := 39) hx hb dX5_isOf_7 (by decide) (fun c7 => ?_) (fun c7 => ?_)
  · refine lv_iconst (v := (nI 0)) hx hb dX5_isOf_39 (by decide) ?_
    exact z_retz hx hb hr hlocks rfl (bI_ff (by first | (simp only [ofB, c7, if_true, if_false, eq_self, decide_true, decide_false, Bool.and_true, Bool.true_and, Bool.and_false, Bool.false_and, Bool.or_true, Bool.true_or, Bool.or_false, Bool.false_or, Bool.not_true, Bool.not_false, not_true_eq_false, not_false_eq_true, and_true, true_and, and_false, false_and, gt_iff_lt, ge_iff_le, ne_eq, Bool.false_eq_true]; done) | (simp [ofB, c7]; done) | (simp_all [ofB, c7]; done))) dX5_isOf_40
  · refine lv_aload_n hx hb dX5_isOf_10 rfl (lv_at hl 0 rfl) ?_
    refine lv_iload_n hx hb dX5_isOf_11 rfl (lv_at hl 1 rfl) ?_
    refine lv_iconst (v := (nI 1)) hx hb dX5_isOf_12 (by decide) ?_
    refine z_callV (As := [.int (nI p), .int (nI 1)]) (rest := []) hF hK (c_X5_of l D y m d p 1 (by omega) (by omega)) (cwV 2 hts gX5_isOf_X5_of rfl rfl rfl (by decide +kernel) ⟨Nat.le_of_ble_eq_true rfl, Nat.le_of_ble_eq_true rfl⟩) (z_recv (q := (RX5, TX5, 9)) hK hO rfl) hΦ rfl hl.1 rfl (Nat.le_of_ble_eq_true rfl) dX5_isOf_13 ⟨Nat.zero_le _, Nat.zero_le _⟩ ?_
    refine lv_iload_n hx hb dX5_isOf_16 rfl (lv_at hl 3 rfl) ?_
    refine lv_icmp_ne (tgt := 39) hx hb dX5_isOf_17 (by decide) (fun c17 => ?_) (fun c17 => ?_)
    · refine lv_iconst (v := (nI 0)) hx hb dX5_isOf_39 (by decide) ?_
      exact z_retz hx hb hr hlocks rfl (bI_ff (by first | (simp only [ofB, c7, c17, if_true, if_false, eq_self, decide_true, decide_false, Bool.and_true, Bool.true_and, Bool.and_false, Bool.false_and, Bool.or_true, Bool.true_or, Bool.or_false, Bool.false_or, Bool.not_true, Bool.not_false, not_true_eq_false, not_false_eq_true, and_true, true_and, and_false, false_and, gt_iff_lt, ge_iff_le, ne_eq, Bool.false_eq_true]; done) | (simp [ofB, c7, c17]; done) | (simp_all [ofB, c7, c17]; done))) dX5_isOf_40
    · refine lv_aload_n hx hb dX5_isOf_20 rfl (lv_at hl 0 rfl) ?_
      refine lv_aload_n hx hb dX5_isOf_21 rfl (lv_at hl 0 rfl) ?_
      refine lv_iload_n hx hb dX5_isOf_22 rfl (lv_at hl 1 rfl) ?_
      refine lv_iconst (v := (nI 0)) hx hb dX5_isOf_23 (by decide) ?_
      refine z_callV (As := [.int (nI p), .int (nI 0)]) (rest := [.ref m]) hF hK (c_X5_of l D y m d p 0 (by omega) (by omega)) (cwV 2 hts gX5_isOf_X5_of rfl rfl rfl (by decide +kernel) ⟨Nat.le_of_ble_eq_true rfl, Nat.le_of_ble_eq_true rfl⟩) (z_recv (q := (RX5, TX5, 9)) hK hO rfl) hΦ rfl hl.1 rfl (Nat.le_of_ble_eq_true rfl) dX5_isOf_24 ⟨Nat.zero_le _, Nat.zero_le _⟩ ?_
      refine z_topi (z := (nI (pC d p))) (hI.pc (by omega)) ?_
      refine lv_iconst (v := (nI 4)) hx hb dX5_isOf_27 (by decide) ?_
      refine z_callV (As := [.int (nI (pC d p)), .int (nI 4)]) (rest := []) hF hK (c_X5_craned l D y m d (pC d p) 4 (by omega) (by omega)) (cwV 2 hts gX5_isOf_X5_craned rfl rfl rfl (by decide +kernel) ⟨Nat.le_of_ble_eq_true rfl, Nat.le_of_ble_eq_true rfl⟩) (z_recv (q := (RX5, TX5, 9)) hK hO rfl) hΦ rfl hl.1 rfl (Nat.le_of_ble_eq_true rfl) dX5_isOf_28 ⟨Nat.zero_le _, Nat.zero_le _⟩ ?_
      refine lv_iload_n hx hb dX5_isOf_31 rfl (lv_at hl 2 rfl) ?_
      refine lv_icmp_ne (tgt := 39) hx hb dX5_isOf_32 (by decide) (fun c32 => ?_) (fun c32 => ?_)
      · refine lv_iconst (v := (nI 0)) hx hb dX5_isOf_39 (by decide) ?_
        exact z_retz hx hb hr hlocks rfl (bI_ff (by first | (simp only [ofB, c7, c17, c32, if_true, if_false, eq_self, decide_true, decide_false, Bool.and_true, Bool.true_and, Bool.and_false, Bool.false_and, Bool.or_true, Bool.true_or, Bool.or_false, Bool.false_or, Bool.not_true, Bool.not_false, not_true_eq_false, not_false_eq_true, and_true, true_and, and_false, false_and, gt_iff_lt, ge_iff_le, ne_eq, Bool.false_eq_true]; done) | (simp [ofB, c7, c17, c32]; done) | (simp_all [ofB, c7, c17, c32]; done))) dX5_isOf_40
      · refine lv_iconst (v := (nI 1)) hx hb dX5_isOf_35 (by decide) ?_
        refine lv_goto (tgt := 40) hx hb dX5_isOf_36 (by decide) ?_
        exact z_retz hx hb hr hlocks rfl (bI_tt (by first | (simp only [ofB, c7, c17, c32, if_true, if_false, eq_self, decide_true, decide_false, Bool.and_true, Bool.true_and, Bool.and_false, Bool.false_and, Bool.or_true, Bool.true_or, Bool.or_false, Bool.false_or, Bool.not_true, Bool.not_false, not_true_eq_false, not_false_eq_true, and_true, true_and, and_false, false_and, gt_iff_lt, ge_iff_le, ne_eq, Bool.false_eq_true]; done) | (simp [ofB, c7, c17, c32]; done) | (simp_all [ofB, c7, c17, c32]; done))) dX5_isOf_40
theorem iX5_used_X5 : ∀ w ∈ wsX50, w ∈ wsX5_used := fun w h => (List.mem_cons_of_mem _ (List.mem_append_right _ h))
set_option maxRecDepth 100000 in
set_option maxHeartbeats 4000000 in
theorem c_X5_used (l : Launch) (D : va_G) (y : zY) (m : Nat) (d : Nat → Int32) (st : Int32) (n : Int32) (hI : zI d) : Met l yX5_used wsX5_used ({ frames := 2, cells := 0, slots := 0, locals := 45 }) (zP [.ref m, .int st, .int n] (zM D y m d) D y) (zQ (some (.int (usedI d st n)))) 0 0 nofree := by
  refine z_body (cc := cX5_used) (maxL := 5) (ret := (some .int)) (la := [(0, .ref m), (1, .int st), (2, .int n)]) (by decide) rfl (Nat.le_of_ble_eq_true rfl) rfl ?_
  intro pg ev s mm below meth c0 ls hx hb hr hF hlocks hΦ hK hl _
  have hts := hF.2.2.2.2
  have hown : s.vm.findClass RX5 = some mm.cls := hF.2.2.2.1
  obtain ⟨⟨fs, hO⟩, hA⟩ := id hΦ
  have hG2 := hI.ng2
  have hC8 := hI.nc8
  refine lv_iconst (v := (nI 0)) hx hb dX5_used_0 (by decide) ?_
  refine lv_istore_n (lv' := [(3, .int (nI 0)), (0, .ref m), (1, .int st), (2, .int n)]) hx hb dX5_used_1 rfl hl (by decide) rfl (fun ls hl => ?_)
  refine lv_iconst (v := (nI 0)) hx hb dX5_used_2 (by decide) ?_
  refine lv_istore (lv' := [(4, .int (nI 0)), (3, .int (nI 0)), (0, .ref m), (1, .int st), (2, .int n)]) hx hb dX5_used_3 hl (by decide) rfl (fun ls hl => ?_)
  have hl := lv_repl (l' := [(4, .int (nI 0)), (3, .int (sumN (usedF d st n) 0)), (0, .ref m), (1, .int st), (2, .int n)]) hl 1 rfl (rfl) rfl
  refine z_loop (S := Nat) (nL := 5) (fun (i : Nat) => nG d - i) (fun (i : Nat) => [(4, .int (nI i)), (3, .int (sumN (usedF d st n) i)), (0, .ref m), (1, .int st), (2, .int n)]) (fun (i : Nat) => i ≤ nG d) 0 (by omega) (lv_sub hl [0, 1, 2, 3, 4] rfl) ?_
  clear hl
  rintro i ls hI_5 hl ih_5
  have hi := hI_5
  refine lv_iload hx hb dX5_used_5 (lv_at hl 0 rfl) ?_
  refine lv_aload_n hx hb dX5_used_7 rfl (lv_at hl 2 rfl) ?_
  refine z_get (fs := (.ref (m + 1) :: fs)) (ref := "CranePermitsModel") (C := RX5) (T := TX5) (N := 9) (ci := 5) (v := .ref (m + 1)) hx hb hts iX5_used_X5 hown hK hO 0 (by decide) rfl (hts (.fieldLink RX5 7 "CranePermitsModel" "d" "[I") (List.mem_of_getElem? (i := 1) rfl)) rfl rfl dX5_used_8 ?_
  refine lv_sipush (v := (nI 442)) hx hb dX5_used_11 (by decide) ?_
  refine z_iald (f := d) hx hb hK hA (by omega) (by decide) dX5_used_14 ?_
  refine z_topi (z := (nI (nG d))) (hI.ng) ?_
  refine z_ge (tgt := 48) hx hb (by omega) (by omega) dX5_used_15 (by decide) (fun c15 => ?_) (fun c15 => ?_)
  · refine lv_iload_n hx hb dX5_used_48 rfl (lv_at hl 1 rfl) ?_
    exact z_reti hx hb hr hlocks rfl (by rw [show i = nG d by omega]; rfl) dX5_used_49
  · refine lv_iload_n hx hb dX5_used_18 rfl (lv_at hl 1 rfl) ?_
    refine lv_aload_n hx hb dX5_used_19 rfl (lv_at hl 2 rfl) ?_
    refine lv_iload hx hb dX5_used_20 (lv_at hl 0 rfl) ?_
    refine lv_iload_n hx hb dX5_used_22 rfl (lv_at hl 3 rfl) ?_
    refine lv_iload_n hx hb dX5_used_23 rfl (lv_at hl 4 rfl) ?_
    refine z_callV (As := [.int (nI i), .int st, .int n]) (rest := [.int (sumN (usedF d st n) i)]) hF hK (c_X5_isOf l D y m d i st n (hI) (by omega)) (cwV 3 hts gX5_used_X5_isOf rfl rfl rfl (by decide +kernel) ⟨Nat.le_of_ble_eq_true rfl, Nat.le_of_ble_eq_true rfl⟩) (z_recv (q := (RX5, TX5, 9)) hK hO rfl) hΦ rfl hl.1 rfl (Nat.le_of_ble_eq_true rfl) dX5_used_24 ⟨Nat.zero_le _, Nat.zero_le _⟩ ?_
    refine z_ifeq (tgt := 39) hx hb dX5_used_27 (by decide) (fun c27 => ?_) (fun c27 => ?_)
    · refine lv_iconst (v := (nI 0)) hx hb dX5_used_39 (by decide) ?_
      refine lv_iadd hx hb dX5_used_40 ?_
      refine lv_istore_n (lv' := [(3, .int ((sumN (usedF d st n) i) + (nI 0))), (4, .int (nI i)), (0, .ref m), (1, .int st), (2, .int n)]) hx hb dX5_used_41 rfl hl (by decide) rfl (fun ls hl => ?_)
      refine lv_iinc (v := (nI (i + 1))) (lv' := [(4, .int (nI (i + 1))), (3, .int ((sumN (usedF d st n) i) + (nI 0))), (0, .ref m), (1, .int st), (2, .int n)]) hx hb dX5_used_42 hl (k := 1) rfl (in1 _) (by decide) rfl (fun ls hl => ?_)
      refine lv_goto (tgt := 5) hx hb dX5_used_45 (by decide) ?_
      have hl := lv_repl (l' := [(4, .int (nI (i + 1))), (3, .int (sumN (usedF d st n) (i + 1))), (0, .ref m), (1, .int st), (2, .int n)]) hl 1 rfl (by rw [sumN_s, usedF]; simp only [c27, if_true, Bool.false_eq_true, if_false]) rfl
      exact ih_5 (i + 1) _ (by omega) (by omega) (lv_sub hl [0, 1, 2, 3, 4] rfl)
    · refine lv_aload_n hx hb dX5_used_30 rfl (lv_at hl 2 rfl) ?_
      refine lv_iload hx hb dX5_used_31 (lv_at hl 0 rfl) ?_
      refine z_callV (As := [.int (nI i)]) (rest := [.int (sumN (usedF d st n) i)]) hF hK (c_X5_uses l D y m d i (hI) (by omega)) (cwV 1 hts gX5_used_X5_uses rfl rfl rfl (by decide +kernel) ⟨Nat.le_of_ble_eq_true rfl, Nat.le_of_ble_eq_true rfl⟩) (z_recv (q := (RX5, TX5, 9)) hK hO rfl) hΦ rfl hl.1 rfl (Nat.le_of_ble_eq_true rfl) dX5_used_33 ⟨Nat.zero_le _, Nat.zero_le _⟩ ?_
      refine lv_goto (tgt := 40) hx hb dX5_used_36 (by decide) ?_
      refine lv_iadd hx hb dX5_used_40 ?_
      refine lv_istore_n (lv' := [(3, .int ((sumN (usedF d st n) i) + (usI d i))), (4, .int (nI i)), (0, .ref m), (1, .int st), (2, .int n)]) hx hb dX5_used_41 rfl hl (by decide) rfl (fun ls hl => ?_)
      refine lv_iinc (v := (nI (i + 1))) (lv' := [(4, .int (nI (i + 1))), (3, .int ((sumN (usedF d st n) i) + (usI d i))), (0, .ref m), (1, .int st), (2, .int n)]) hx hb dX5_used_42 hl (k := 1) rfl (in1 _) (by decide) rfl (fun ls hl => ?_)
      refine lv_goto (tgt := 5) hx hb dX5_used_45 (by decide) ?_
      have hl := lv_repl (l' := [(4, .int (nI (i + 1))), (3, .int (sumN (usedF d st n) (i + 1))), (0, .ref m), (1, .int st), (2, .int n)]) hl 1 rfl (by rw [sumN_s, usedF]; simp only [c27, if_true, Bool.false_eq_true, if_false]) rfl
      exact ih_5 (i + 1) _ (by omega) (by omega) (lv_sub hl [0, 1, 2, 3, 4] rfl)
theorem iX5_stops_X5 : ∀ w ∈ wsX50, w ∈ wsX5_stops := fun w h => (List.mem_cons_of_mem _ (List.mem_append_right _ h))
set_option maxRecDepth 100000 in
set_option maxHeartbeats 4000000 in
theorem c_X5_stops (l : Launch) (D : va_G) (y : zY) (m : Nat) (d : Nat → Int32) (c : Nat) (n : Nat) (hc : c < 8) (hn : n < 30) : Met l yX5_stops wsX5_stops ({ frames := 1, cells := 0, slots := 0, locals := 22 }) (zP [.ref m, .int (nI c), .int (nI n)] (zM D y m d) D y) (zQ (some (.int (bI (stpB d c n))))) 0 0 nofree := by
  refine z_body (cc := cX5_stops) (maxL := 3) (ret := (some .boolean)) (la := [(0, .ref m), (1, .int (nI c)), (2, .int (nI n))]) (by decide) rfl (Nat.le_of_ble_eq_true rfl) rfl ?_
  intro pg ev s mm below meth c0 ls hx hb hr hF hlocks hΦ hK hl _
  have hts := hF.2.2.2.2
  have hown : s.vm.findClass RX5 = some mm.cls := hF.2.2.2.1
  obtain ⟨⟨fs, hO⟩, hA⟩ := id hΦ
  refine lv_aload_n hx hb dX5_stops_0 rfl (lv_at hl 0 rfl) ?_
  refine z_get (fs := (.ref (m + 1) :: fs)) (ref := "CranePermitsModel") (C := RX5) (T := TX5) (N := 9) (ci := 5) (v := .ref (m + 1)) hx hb hts iX5_stops_X5 hown hK hO 0 (by decide) rfl (hts (.fieldLink RX5 7 "CranePermitsModel" "d" "[I") (List.mem_of_getElem? (i := 1) rfl)) rfl rfl dX5_stops_1 ?_
  refine lv_bipush (v := (nI 52)) hx hb dX5_stops_4 (by decide) ?_
  refine lv_iload_n hx hb dX5_stops_6 rfl (lv_at hl 2 rfl) ?_
  refine z_iadd hx hb dX5_stops_7 ?_
  refine z_iald (f := d) hx hb hK hA (by omega) (by decide) dX5_stops_8 ?_
  refine lv_aload_n hx hb dX5_stops_9 rfl (lv_at hl 0 rfl) ?_
  refine z_get (fs := (.ref (m + 1) :: fs)) (ref := "CranePermitsModel") (C := RX5) (T := TX5) (N := 9) (ci := 5) (v := .ref (m + 1)) hx hb hts iX5_stops_X5 hown hK hO 0 (by decide) rfl (hts (.fieldLink RX5 7 "CranePermitsModel" "d" "[I") (List.mem_of_getElem? (i := 1) rfl)) rfl rfl dX5_stops_10 ?_
  refine lv_iconst (v := (nI 1)) hx hb dX5_stops_13 (by decide) ?_
  refine z_iald (f := d) hx hb hK hA (by omega) (by decide) dX5_stops_14 ?_
  refine lv_aload_n hx hb dX5_stops_15 rfl (lv_at hl 0 rfl) ?_
  refine lv_iload_n hx hb dX5_stops_16 rfl (lv_at hl 1 rfl) ?_
  refine lv_iconst (v := (nI 3)) hx hb dX5_stops_17 (by decide) ?_
  refine z_callV (As := [.int (nI c), .int (nI 3)]) (rest := [.int (d 1), .int (d (52 + n))]) hF hK (c_X5_craned l D y m d c 3 (by omega) (by omega)) (cwV 2 hts gX5_stops_X5_craned rfl rfl rfl (by decide +kernel) ⟨Nat.le_of_ble_eq_true rfl, Nat.le_of_ble_eq_true rfl⟩) (z_recv (q := (RX5, TX5, 9)) hK hO rfl) hΦ rfl hl.1 rfl (Nat.le_of_ble_eq_true rfl) dX5_stops_18 ⟨Nat.zero_le _, Nat.zero_le _⟩ ?_
  refine lv_iconst (v := (nI 2)) hx hb dX5_stops_21 (by decide) ?_
  refine lv_idiv hx hb dX5_stops_22 (by decide) ?_
  refine lv_isub hx hb dX5_stops_23 ?_
  refine lv_icmp_lt (tgt := 31) hx hb dX5_stops_24 (by decide) (fun c24 => ?_) (fun c24 => ?_)
  · refine lv_iconst (v := (nI 0)) hx hb dX5_stops_31 (by decide) ?_
    exact z_retz hx hb hr hlocks rfl (bI_ff (by first | (simp only [stpB, c24, if_true, if_false, eq_self, decide_true, decide_false, Bool.and_true, Bool.true_and, Bool.and_false, Bool.false_and, Bool.or_true, Bool.true_or, Bool.or_false, Bool.false_or, Bool.not_true, Bool.not_false, not_true_eq_false, not_false_eq_true, and_true, true_and, and_false, false_and, gt_iff_lt, ge_iff_le, ne_eq, Bool.false_eq_true]; done) | (simp [stpB, c24]; done) | (simp_all [stpB, c24]; done))) dX5_stops_32
  · refine lv_iconst (v := (nI 1)) hx hb dX5_stops_27 (by decide) ?_
    refine lv_goto (tgt := 32) hx hb dX5_stops_28 (by decide) ?_
    exact z_retz hx hb hr hlocks rfl (bI_tt (by first | (simp only [stpB, c24, if_true, if_false, eq_self, decide_true, decide_false, Bool.and_true, Bool.true_and, Bool.and_false, Bool.false_and, Bool.or_true, Bool.true_or, Bool.or_false, Bool.false_or, Bool.not_true, Bool.not_false, not_true_eq_false, not_false_eq_true, and_true, true_and, and_false, false_and, gt_iff_lt, ge_iff_le, ne_eq, Bool.false_eq_true]; done) | (simp [stpB, c24]; done) | (simp_all [stpB, c24]; done))) dX5_stops_32
theorem iX5_valid_X5 : ∀ w ∈ wsX50, w ∈ wsX5_valid := fun w h => (List.mem_cons_of_mem _ (List.mem_append_right _ h))
set_option maxRecDepth 100000 in
set_option maxHeartbeats 4000000 in
theorem c_X5_valid (l : Launch) (D : va_G) (y : zY) (m : Nat) (d : Nat → Int32) (c : Int32) (hI : zI d) : Met l yX5_valid wsX5_valid ({ frames := 1, cells := 0, slots := 0, locals := 22 }) (zP [.ref m, .int c] (zM D y m d) D y) (zQ (some (.int (vldI d c)))) 0 0 nofree := by
  refine z_body (cc := cX5_valid) (maxL := 4) (ret := (some .int)) (la := [(0, .ref m), (1, .int c)]) (by decide) rfl (Nat.le_of_ble_eq_true rfl) rfl ?_
  intro pg ev s mm below meth c0 ls hx hb hr hF hlocks hΦ hK hl _
  have hts := hF.2.2.2.2
  have hown : s.vm.findClass RX5 = some mm.cls := hF.2.2.2.1
  obtain ⟨⟨fs, hO⟩, hA⟩ := id hΦ
  have hG2 := hI.ng2
  have hC8 := hI.nc8
  refine lv_iconst (v := (nI 0)) hx hb dX5_valid_0 (by decide) ?_
  refine lv_istore_n (lv' := [(2, .int (nI 0)), (0, .ref m), (1, .int c)]) hx hb dX5_valid_1 rfl hl (by decide) rfl (fun ls hl => ?_)
  refine lv_iconst (v := (nI 0)) hx hb dX5_valid_2 (by decide) ?_
  refine lv_istore_n (lv' := [(3, .int (nI 0)), (2, .int (nI 0)), (0, .ref m), (1, .int c)]) hx hb dX5_valid_3 rfl hl (by decide) rfl (fun ls hl => ?_)
  have hl := lv_repl (l' := [(3, .int (nI 0)), (2, .int (sumN (vldF d c) 0)), (0, .ref m), (1, .int c)]) hl 1 rfl (rfl) rfl
  refine z_loop (S := Nat) (nL := 4) (fun (i : Nat) => nG d - i) (fun (i : Nat) => [(3, .int (nI i)), (2, .int (sumN (vldF d c) i)), (0, .ref m), (1, .int c)]) (fun (i : Nat) => i ≤ nG d) 0 (by omega) (lv_sub hl [0, 1, 2, 3] rfl) ?_
  clear hl
  rintro i ls hI_4 hl ih_4
  have hi := hI_4
  refine lv_iload_n hx hb dX5_valid_4 rfl (lv_at hl 0 rfl) ?_
  refine lv_aload_n hx hb dX5_valid_5 rfl (lv_at hl 2 rfl) ?_
  refine z_get (fs := (.ref (m + 1) :: fs)) (ref := "CranePermitsModel") (C := RX5) (T := TX5) (N := 9) (ci := 5) (v := .ref (m + 1)) hx hb hts iX5_valid_X5 hown hK hO 0 (by decide) rfl (hts (.fieldLink RX5 7 "CranePermitsModel" "d" "[I") (List.mem_of_getElem? (i := 1) rfl)) rfl rfl dX5_valid_6 ?_
  refine lv_sipush (v := (nI 442)) hx hb dX5_valid_9 (by decide) ?_
  refine z_iald (f := d) hx hb hK hA (by omega) (by decide) dX5_valid_12 ?_
  refine z_topi (z := (nI (nG d))) (hI.ng) ?_
  refine z_ge (tgt := 55) hx hb (by omega) (by omega) dX5_valid_13 (by decide) (fun c13 => ?_) (fun c13 => ?_)
  · refine lv_iload_n hx hb dX5_valid_55 rfl (lv_at hl 1 rfl) ?_
    exact z_reti hx hb hr hlocks rfl (by rw [show i = nG d by omega]; rfl) dX5_valid_56
  · refine lv_iload_n hx hb dX5_valid_16 rfl (lv_at hl 1 rfl) ?_
    refine lv_aload_n hx hb dX5_valid_17 rfl (lv_at hl 2 rfl) ?_
    refine lv_iload_n hx hb dX5_valid_18 rfl (lv_at hl 0 rfl) ?_
    refine lv_iconst (v := (nI 4)) hx hb dX5_valid_19 (by decide) ?_
    refine z_callV (As := [.int (nI i), .int (nI 4)]) (rest := [.int (sumN (vldF d c) i)]) hF hK (c_X5_of l D y m d i 4 (by omega) (by omega)) (cwV 2 hts gX5_valid_X5_of rfl rfl rfl (by decide +kernel) ⟨Nat.le_of_ble_eq_true rfl, Nat.le_of_ble_eq_true rfl⟩) (z_recv (q := (RX5, TX5, 9)) hK hO rfl) hΦ rfl hl.1 rfl (Nat.le_of_ble_eq_true rfl) dX5_valid_20 ⟨Nat.zero_le _, Nat.zero_le _⟩ ?_
    refine lv_iconst (v := (nI 1)) hx hb dX5_valid_23 (by decide) ?_
    refine lv_icmp_ne (tgt := 46) hx hb dX5_valid_24 (by decide) (fun c24 => ?_) (fun c24 => ?_)
    · refine lv_iconst (v := (nI 0)) hx hb dX5_valid_46 (by decide) ?_
      refine lv_iadd hx hb dX5_valid_47 ?_
      refine lv_istore_n (lv' := [(2, .int ((sumN (vldF d c) i) + (nI 0))), (3, .int (nI i)), (0, .ref m), (1, .int c)]) hx hb dX5_valid_48 rfl hl (by decide) rfl (fun ls hl => ?_)
      refine lv_iinc (v := (nI (i + 1))) (lv' := [(3, .int (nI (i + 1))), (2, .int ((sumN (vldF d c) i) + (nI 0))), (0, .ref m), (1, .int c)]) hx hb dX5_valid_49 hl (k := 1) rfl (in1 _) (by decide) rfl (fun ls hl => ?_)
      refine lv_goto (tgt := 4) hx hb dX5_valid_52 (by decide) ?_
      have hl := lv_repl (l' := [(3, .int (nI (i + 1))), (2, .int (sumN (vldF d c) (i + 1))), (0, .ref m), (1, .int c)]) hl 1 rfl (by rw [sumN_s, vldF]; first | (rw [if_neg c24]; done) | (rw [if_pos c24, if_pos c29]; done) | (rw [if_pos c24, if_neg c29, if_pos c39]; done) | (rw [if_pos c24, if_neg c29, if_neg c39]; done)) rfl
      exact ih_4 (i + 1) _ (by omega) (by omega) (lv_sub hl [0, 1, 2, 3] rfl)
    · refine lv_iload_n hx hb dX5_valid_27 rfl (lv_at hl 3 rfl) ?_
      refine lv_iconst (v := (-1)) hx hb dX5_valid_28 (by decide) ?_
      refine lv_icmp_eq (tgt := 42) hx hb dX5_valid_29 (by decide) (fun c29 => ?_) (fun c29 => ?_)
      · refine lv_iconst (v := (nI 1)) hx hb dX5_valid_42 (by decide) ?_
        refine lv_goto (tgt := 47) hx hb dX5_valid_43 (by decide) ?_
        refine lv_iadd hx hb dX5_valid_47 ?_
        refine lv_istore_n (lv' := [(2, .int ((sumN (vldF d c) i) + (nI 1))), (3, .int (nI i)), (0, .ref m), (1, .int c)]) hx hb dX5_valid_48 rfl hl (by decide) rfl (fun ls hl => ?_)
        refine lv_iinc (v := (nI (i + 1))) (lv' := [(3, .int (nI (i + 1))), (2, .int ((sumN (vldF d c) i) + (nI 1))), (0, .ref m), (1, .int c)]) hx hb dX5_valid_49 hl (k := 1) rfl (in1 _) (by decide) rfl (fun ls hl => ?_)
        refine lv_goto (tgt := 4) hx hb dX5_valid_52 (by decide) ?_
        have hl := lv_repl (l' := [(3, .int (nI (i + 1))), (2, .int (sumN (vldF d c) (i + 1))), (0, .ref m), (1, .int c)]) hl 1 rfl (by rw [sumN_s, vldF]; first | (rw [if_neg c24]; done) | (rw [if_pos c24, if_pos c29]; done) | (rw [if_pos c24, if_neg c29, if_pos c39]; done) | (rw [if_pos c24, if_neg c29, if_neg c39]; done)) rfl
        exact ih_4 (i + 1) _ (by omega) (by omega) (lv_sub hl [0, 1, 2, 3] rfl)
      · refine lv_aload_n hx hb dX5_valid_32 rfl (lv_at hl 2 rfl) ?_
        refine lv_iload_n hx hb dX5_valid_33 rfl (lv_at hl 0 rfl) ?_
        refine lv_iconst (v := (nI 0)) hx hb dX5_valid_34 (by decide) ?_
        refine z_callV (As := [.int (nI i), .int (nI 0)]) (rest := [.int (sumN (vldF d c) i)]) hF hK (c_X5_of l D y m d i 0 (by omega) (by omega)) (cwV 2 hts gX5_valid_X5_of rfl rfl rfl (by decide +kernel) ⟨Nat.le_of_ble_eq_true rfl, Nat.le_of_ble_eq_true rfl⟩) (z_recv (q := (RX5, TX5, 9)) hK hO rfl) hΦ rfl hl.1 rfl (Nat.le_of_ble_eq_true rfl) dX5_valid_35 ⟨Nat.zero_le _, Nat.zero_le _⟩ ?_
        refine lv_iload_n hx hb dX5_valid_38 rfl (lv_at hl 3 rfl) ?_
        refine lv_icmp_ne (tgt := 46) hx hb dX5_valid_39 (by decide) (fun c39 => ?_) (fun c39 => ?_)
        · refine lv_iconst (v := (nI 0)) hx hb dX5_valid_46 (by decide) ?_
          refine lv_iadd hx hb dX5_valid_47 ?_
          refine lv_istore_n (lv' := [(2, .int ((sumN (vldF d c) i) + (nI 0))), (3, .int (nI i)), (0, .ref m), (1, .int c)]) hx hb dX5_valid_48 rfl hl (by decide) rfl (fun ls hl => ?_)
          refine lv_iinc (v := (nI (i + 1))) (lv' := [(3, .int (nI (i + 1))), (2, .int ((sumN (vldF d c) i) + (nI 0))), (0, .ref m), (1, .int c)]) hx hb dX5_valid_49 hl (k := 1) rfl (in1 _) (by decide) rfl (fun ls hl => ?_)
          refine lv_goto (tgt := 4) hx hb dX5_valid_52 (by decide) ?_
          have hl := lv_repl (l' := [(3, .int (nI (i + 1))), (2, .int (sumN (vldF d c) (i + 1))), (0, .ref m), (1, .int c)]) hl 1 rfl (by rw [sumN_s, vldF]; first | (rw [if_neg c24]; done) | (rw [if_pos c24, if_pos c29]; done) | (rw [if_pos c24, if_neg c29, if_pos c39]; done) | (rw [if_pos c24, if_neg c29, if_neg c39]; done)) rfl
          exact ih_4 (i + 1) _ (by omega) (by omega) (lv_sub hl [0, 1, 2, 3] rfl)
        · refine lv_iconst (v := (nI 1)) hx hb dX5_valid_42 (by decide) ?_
          refine lv_goto (tgt := 47) hx hb dX5_valid_43 (by decide) ?_
          refine lv_iadd hx hb dX5_valid_47 ?_
          refine lv_istore_n (lv' := [(2, .int ((sumN (vldF d c) i) + (nI 1))), (3, .int (nI i)), (0, .ref m), (1, .int c)]) hx hb dX5_valid_48 rfl hl (by decide) rfl (fun ls hl => ?_)
          refine lv_iinc (v := (nI (i + 1))) (lv' := [(3, .int (nI (i + 1))), (2, .int ((sumN (vldF d c) i) + (nI 1))), (0, .ref m), (1, .int c)]) hx hb dX5_valid_49 hl (k := 1) rfl (in1 _) (by decide) rfl (fun ls hl => ?_)
          refine lv_goto (tgt := 4) hx hb dX5_valid_52 (by decide) ?_
          have hl := lv_repl (l' := [(3, .int (nI (i + 1))), (2, .int (sumN (vldF d c) (i + 1))), (0, .ref m), (1, .int c)]) hl 1 rfl (by rw [sumN_s, vldF]; first | (rw [if_neg c24]; done) | (rw [if_pos c24, if_pos c29]; done) | (rw [if_pos c24, if_neg c29, if_pos c39]; done) | (rw [if_pos c24, if_neg c29, if_neg c39]; done)) rfl
          exact ih_4 (i + 1) _ (by omega) (by omega) (lv_sub hl [0, 1, 2, 3] rfl)
theorem iX5_validOf_X5 : ∀ w ∈ wsX50, w ∈ wsX5_validOf := fun w h => (List.mem_cons_of_mem _ (List.mem_append_right _ h))
set_option maxRecDepth 100000 in
set_option maxHeartbeats 4000000 in
theorem c_X5_validOf (l : Launch) (D : va_G) (y : zY) (m : Nat) (d : Nat → Int32) (st : Int32) (n : Int32) (hI : zI d) : Met l yX5_validOf wsX5_validOf ({ frames := 2, cells := 0, slots := 0, locals := 45 }) (zP [.ref m, .int st, .int n] (zM D y m d) D y) (zQ (some (.int (vofI d st n)))) 0 0 nofree := by
  refine z_body (cc := cX5_validOf) (maxL := 5) (ret := (some .int)) (la := [(0, .ref m), (1, .int st), (2, .int n)]) (by decide) rfl (Nat.le_of_ble_eq_true rfl) rfl ?_
  intro pg ev s mm below meth c0 ls hx hb hr hF hlocks hΦ hK hl _
  have hts := hF.2.2.2.2
  have hown : s.vm.findClass RX5 = some mm.cls := hF.2.2.2.1
  obtain ⟨⟨fs, hO⟩, hA⟩ := id hΦ
  have hG2 := hI.ng2
  have hC8 := hI.nc8
  refine lv_iconst (v := (nI 0)) hx hb dX5_validOf_0 (by decide) ?_
  refine lv_istore_n (lv' := [(3, .int (nI 0)), (0, .ref m), (1, .int st), (2, .int n)]) hx hb dX5_validOf_1 rfl hl (by decide) rfl (fun ls hl => ?_)
  refine lv_iconst (v := (nI 0)) hx hb dX5_validOf_2 (by decide) ?_
  refine lv_istore (lv' := [(4, .int (nI 0)), (3, .int (nI 0)), (0, .ref m), (1, .int st), (2, .int n)]) hx hb dX5_validOf_3 hl (by decide) rfl (fun ls hl => ?_)
  have hl := lv_repl (l' := [(4, .int (nI 0)), (3, .int (sumN (vofF d st n) 0)), (0, .ref m), (1, .int st), (2, .int n)]) hl 1 rfl (rfl) rfl
  refine z_loop (S := Nat) (nL := 5) (fun (i : Nat) => nG d - i) (fun (i : Nat) => [(4, .int (nI i)), (3, .int (sumN (vofF d st n) i)), (0, .ref m), (1, .int st), (2, .int n)]) (fun (i : Nat) => i ≤ nG d) 0 (by omega) (lv_sub hl [0, 1, 2, 3, 4] rfl) ?_
  clear hl
  rintro i ls hI_5 hl ih_5
  have hi := hI_5
  refine lv_iload hx hb dX5_validOf_5 (lv_at hl 0 rfl) ?_
  refine lv_aload_n hx hb dX5_validOf_7 rfl (lv_at hl 2 rfl) ?_
  refine z_get (fs := (.ref (m + 1) :: fs)) (ref := "CranePermitsModel") (C := RX5) (T := TX5) (N := 9) (ci := 5) (v := .ref (m + 1)) hx hb hts iX5_validOf_X5 hown hK hO 0 (by decide) rfl (hts (.fieldLink RX5 7 "CranePermitsModel" "d" "[I") (List.mem_of_getElem? (i := 1) rfl)) rfl rfl dX5_validOf_8 ?_
  refine lv_sipush (v := (nI 442)) hx hb dX5_validOf_11 (by decide) ?_
  refine z_iald (f := d) hx hb hK hA (by omega) (by decide) dX5_validOf_14 ?_
  refine z_topi (z := (nI (nG d))) (hI.ng) ?_
  refine z_ge (tgt := 43) hx hb (by omega) (by omega) dX5_validOf_15 (by decide) (fun c15 => ?_) (fun c15 => ?_)
  · refine lv_iload_n hx hb dX5_validOf_43 rfl (lv_at hl 1 rfl) ?_
    exact z_reti hx hb hr hlocks rfl (by rw [show i = nG d by omega]; rfl) dX5_validOf_44
  · refine lv_iload_n hx hb dX5_validOf_18 rfl (lv_at hl 1 rfl) ?_
    refine lv_aload_n hx hb dX5_validOf_19 rfl (lv_at hl 2 rfl) ?_
    refine lv_iload hx hb dX5_validOf_20 (lv_at hl 0 rfl) ?_
    refine lv_iload_n hx hb dX5_validOf_22 rfl (lv_at hl 3 rfl) ?_
    refine lv_iload_n hx hb dX5_validOf_23 rfl (lv_at hl 4 rfl) ?_
    refine z_callV (As := [.int (nI i), .int st, .int n]) (rest := [.int (sumN (vofF d st n) i)]) hF hK (c_X5_isOf l D y m d i st n (hI) (by omega)) (cwV 3 hts gX5_validOf_X5_isOf rfl rfl rfl (by decide +kernel) ⟨Nat.le_of_ble_eq_true rfl, Nat.le_of_ble_eq_true rfl⟩) (z_recv (q := (RX5, TX5, 9)) hK hO rfl) hΦ rfl hl.1 rfl (Nat.le_of_ble_eq_true rfl) dX5_validOf_24 ⟨Nat.zero_le _, Nat.zero_le _⟩ ?_
    refine z_ifeq (tgt := 34) hx hb dX5_validOf_27 (by decide) (fun c27 => ?_) (fun c27 => ?_)
    · refine lv_iconst (v := (nI 0)) hx hb dX5_validOf_34 (by decide) ?_
      refine lv_iadd hx hb dX5_validOf_35 ?_
      refine lv_istore_n (lv' := [(3, .int ((sumN (vofF d st n) i) + (nI 0))), (4, .int (nI i)), (0, .ref m), (1, .int st), (2, .int n)]) hx hb dX5_validOf_36 rfl hl (by decide) rfl (fun ls hl => ?_)
      refine lv_iinc (v := (nI (i + 1))) (lv' := [(4, .int (nI (i + 1))), (3, .int ((sumN (vofF d st n) i) + (nI 0))), (0, .ref m), (1, .int st), (2, .int n)]) hx hb dX5_validOf_37 hl (k := 1) rfl (in1 _) (by decide) rfl (fun ls hl => ?_)
      refine lv_goto (tgt := 5) hx hb dX5_validOf_40 (by decide) ?_
      have hl := lv_repl (l' := [(4, .int (nI (i + 1))), (3, .int (sumN (vofF d st n) (i + 1))), (0, .ref m), (1, .int st), (2, .int n)]) hl 1 rfl (by rw [sumN_s, vofF]; simp only [c27, if_true, Bool.false_eq_true, if_false]) rfl
      exact ih_5 (i + 1) _ (by omega) (by omega) (lv_sub hl [0, 1, 2, 3, 4] rfl)
    · refine lv_iconst (v := (nI 1)) hx hb dX5_validOf_30 (by decide) ?_
      refine lv_goto (tgt := 35) hx hb dX5_validOf_31 (by decide) ?_
      refine lv_iadd hx hb dX5_validOf_35 ?_
      refine lv_istore_n (lv' := [(3, .int ((sumN (vofF d st n) i) + (nI 1))), (4, .int (nI i)), (0, .ref m), (1, .int st), (2, .int n)]) hx hb dX5_validOf_36 rfl hl (by decide) rfl (fun ls hl => ?_)
      refine lv_iinc (v := (nI (i + 1))) (lv' := [(4, .int (nI (i + 1))), (3, .int ((sumN (vofF d st n) i) + (nI 1))), (0, .ref m), (1, .int st), (2, .int n)]) hx hb dX5_validOf_37 hl (k := 1) rfl (in1 _) (by decide) rfl (fun ls hl => ?_)
      refine lv_goto (tgt := 5) hx hb dX5_validOf_40 (by decide) ?_
      have hl := lv_repl (l' := [(4, .int (nI (i + 1))), (3, .int (sumN (vofF d st n) (i + 1))), (0, .ref m), (1, .int st), (2, .int n)]) hl 1 rfl (by rw [sumN_s, vofF]; simp only [c27, if_true, Bool.false_eq_true, if_false]) rfl
      exact ih_5 (i + 1) _ (by omega) (by omega) (lv_sub hl [0, 1, 2, 3, 4] rfl)
theorem iX5_craneOf_X5 : ∀ w ∈ wsX50, w ∈ wsX5_craneOf := fun w h => (List.mem_cons_of_mem _ (List.mem_append_right _ h))
set_option maxRecDepth 100000 in
set_option maxHeartbeats 4000000 in
theorem c_X5_craneOf (l : Launch) (D : va_G) (y : zY) (m : Nat) (d : Nat → Int32) (c : Int32) (w : Int32) (hI : zI d) : Met l yX5_craneOf wsX5_craneOf ({ frames := 2, cells := 0, slots := 0, locals := 45 }) (zP [.ref m, .int c, .int w] (zM D y m d) D y) (zQ (some (.int (aCraneOf d c w)))) 0 0 nofree := by
  refine z_body (cc := cX5_craneOf) (maxL := 3) (ret := (some .int)) (la := [(0, .ref m), (1, .int c), (2, .int w)]) (by decide) rfl (Nat.le_of_ble_eq_true rfl) rfl ?_
  intro pg ev s mm below meth c0 ls hx hb hr hF hlocks hΦ hK hl _
  have hts := hF.2.2.2.2
  have hown : s.vm.findClass RX5 = some mm.cls := hF.2.2.2.1
  obtain ⟨⟨fs, hO⟩, hA⟩ := id hΦ
  have hG2 := hI.ng2
  have hC8 := hI.nc8
  refine lv_aload_n hx hb dX5_craneOf_0 rfl (lv_at hl 0 rfl) ?_
  refine lv_iload_n hx hb dX5_craneOf_1 rfl (lv_at hl 1 rfl) ?_
  refine z_callV (As := [.int c]) (rest := []) hF hK (c_X5_isCrane l D y m d c (hI)) (cwV 1 hts gX5_craneOf_X5_isCrane rfl rfl rfl (by decide +kernel) ⟨Nat.le_of_ble_eq_true rfl, Nat.le_of_ble_eq_true rfl⟩) (z_recv (q := (RX5, TX5, 9)) hK hO rfl) hΦ rfl hl.1 rfl (Nat.le_of_ble_eq_true rfl) dX5_craneOf_2 ⟨Nat.zero_le _, Nat.zero_le _⟩ ?_
  refine z_ifeq (tgt := 18) hx hb dX5_craneOf_5 (by decide) (fun c5 => ?_) (fun c5 => ?_)
  · refine lv_sipush (v := (-1001)) hx hb dX5_craneOf_18 (by decide) ?_
    exact z_reti hx hb hr hlocks rfl (by unfold aCraneOf; (first | rw [if_pos c5] | rw [if_neg c5] | rw [if_neg (bf c5)] | skip); try rfl) dX5_craneOf_21
  · refine lv_iload_n hx hb dX5_craneOf_8 rfl (lv_at hl 2 rfl) ?_
    refine lv_iconst (v := (nI 0)) hx hb dX5_craneOf_9 (by decide) ?_
    refine lv_bipush (v := (nI 7)) hx hb dX5_craneOf_10 (by decide) ?_
    refine z_callS (As := [.int w, .int (nI 0), .int (nI 7)]) (rest := []) hF hK (c_X5_in l D y w (nI 0) (nI 7) ) (va_cwS 3 hts gX5_craneOf_X5_in rfl rfl rfl (by decide +kernel) ⟨Nat.le_of_ble_eq_true rfl, Nat.le_of_ble_eq_true rfl⟩) trivial rfl hl.1 rfl (Nat.le_of_ble_eq_true rfl) dX5_craneOf_12 ⟨Nat.zero_le _, Nat.zero_le _⟩ ?_
    refine z_ifne (tgt := 22) hx hb dX5_craneOf_15 (by decide) (fun c15 => ?_) (fun c15 => ?_)
    · obtain ⟨j, hj, rfl⟩ := in_nc hI c5
      have ej : cl (nI j) = j := cl_nI (by omega)
      refine lv_iload_n hx hb dX5_craneOf_22 rfl (lv_at hl 2 rfl) ?_
      refine lv_bipush (v := (nI 6)) hx hb dX5_craneOf_23 (by decide) ?_
      refine lv_icmp_ge (tgt := 37) hx hb dX5_craneOf_25 (by decide) (fun c25 => ?_) (fun c25 => ?_)
      · refine lv_iload_n hx hb dX5_craneOf_37 rfl (lv_at hl 2 rfl) ?_
        refine lv_bipush (v := (nI 6)) hx hb dX5_craneOf_38 (by decide) ?_
        refine lv_icmp_ne (tgt := 51) hx hb dX5_craneOf_40 (by decide) (fun c40 => ?_) (fun c40 => ?_)
        · refine lv_aload_n hx hb dX5_craneOf_51 rfl (lv_at hl 0 rfl) ?_
          refine z_get (fs := (.ref (m + 1) :: fs)) (ref := "CranePermitsModel") (C := RX5) (T := TX5) (N := 9) (ci := 5) (v := .ref (m + 1)) hx hb hts iX5_craneOf_X5 hown hK hO 0 (by decide) rfl (hts (.fieldLink RX5 7 "CranePermitsModel" "d" "[I") (List.mem_of_getElem? (i := 1) rfl)) rfl rfl dX5_craneOf_52 ?_
          refine lv_iconst (v := (nI 1)) hx hb dX5_craneOf_55 (by decide) ?_
          refine z_iald (f := d) hx hb hK hA (by omega) (by decide) dX5_craneOf_56 ?_
          refine lv_aload_n hx hb dX5_craneOf_57 rfl (lv_at hl 0 rfl) ?_
          refine lv_iload_n hx hb dX5_craneOf_58 rfl (lv_at hl 1 rfl) ?_
          refine lv_iconst (v := (nI 3)) hx hb dX5_craneOf_59 (by decide) ?_
          refine z_callV (As := [.int (nI j), .int (nI 3)]) (rest := [.int (d 1)]) hF hK (c_X5_craned l D y m d j 3 (by omega) (by omega)) (cwV 2 hts gX5_craneOf_X5_craned rfl rfl rfl (by decide +kernel) ⟨Nat.le_of_ble_eq_true rfl, Nat.le_of_ble_eq_true rfl⟩) (z_recv (q := (RX5, TX5, 9)) hK hO rfl) hΦ rfl hl.1 rfl (Nat.le_of_ble_eq_true rfl) dX5_craneOf_60 ⟨Nat.zero_le _, Nat.zero_le _⟩ ?_
          refine lv_iconst (v := (nI 2)) hx hb dX5_craneOf_63 (by decide) ?_
          refine lv_idiv hx hb dX5_craneOf_64 (by decide) ?_
          refine lv_isub hx hb dX5_craneOf_65 ?_
          exact z_reti hx hb hr hlocks rfl (by unfold aCraneOf; try simp only [ej]; (first | rw [if_pos c5] | rw [if_neg c5] | rw [if_neg (bf c5)] | skip); (first | rw [if_pos c15] | rw [if_neg c15] | rw [if_neg (bf c15)] | skip); (first | rw [if_pos c25] | rw [if_neg c25] | rw [if_neg (bf c25)] | skip); (first | rw [if_pos c40] | rw [if_neg c40] | rw [if_neg (bf c40)] | skip); try rfl) dX5_craneOf_66
        · refine lv_aload_n hx hb dX5_craneOf_43 rfl (lv_at hl 0 rfl) ?_
          refine lv_iload_n hx hb dX5_craneOf_44 rfl (lv_at hl 1 rfl) ?_
          refine z_callV (As := [.int (nI j)]) (rest := []) hF hK (c_X5_valid l D y m d (nI j) (hI)) (cwV 1 hts gX5_craneOf_X5_valid rfl rfl rfl (by decide +kernel) ⟨Nat.le_of_ble_eq_true rfl, Nat.le_of_ble_eq_true rfl⟩) (z_recv (q := (RX5, TX5, 9)) hK hO rfl) hΦ rfl hl.1 rfl (Nat.le_of_ble_eq_true rfl) dX5_craneOf_45 ⟨Nat.zero_le _, Nat.zero_le _⟩ ?_
          refine lv_goto (tgt := 66) hx hb dX5_craneOf_48 (by decide) ?_
          exact z_reti hx hb hr hlocks rfl (by unfold aCraneOf; try simp only [ej]; (first | rw [if_pos c5] | rw [if_neg c5] | rw [if_neg (bf c5)] | skip); (first | rw [if_pos c15] | rw [if_neg c15] | rw [if_neg (bf c15)] | skip); (first | rw [if_pos c25] | rw [if_neg c25] | rw [if_neg (bf c25)] | skip); (first | rw [if_pos c40] | rw [if_neg c40] | rw [if_neg (bf c40)] | skip); try rfl) dX5_craneOf_66
      · obtain ⟨k, hk, rfl⟩ := inB_ltn (by decide) c15 c25
        have ek : cl (nI k) = k := cl_nI (by omega)
        refine lv_aload_n hx hb dX5_craneOf_28 rfl (lv_at hl 0 rfl) ?_
        refine lv_iload_n hx hb dX5_craneOf_29 rfl (lv_at hl 1 rfl) ?_
        refine lv_iload_n hx hb dX5_craneOf_30 rfl (lv_at hl 2 rfl) ?_
        refine z_callV (As := [.int (nI j), .int (nI k)]) (rest := []) hF hK (c_X5_craned l D y m d j k (by omega) (by omega)) (cwV 2 hts gX5_craneOf_X5_craned rfl rfl rfl (by decide +kernel) ⟨Nat.le_of_ble_eq_true rfl, Nat.le_of_ble_eq_true rfl⟩) (z_recv (q := (RX5, TX5, 9)) hK hO rfl) hΦ rfl hl.1 rfl (Nat.le_of_ble_eq_true rfl) dX5_craneOf_31 ⟨Nat.zero_le _, Nat.zero_le _⟩ ?_
        refine lv_goto (tgt := 66) hx hb dX5_craneOf_34 (by decide) ?_
        exact z_reti hx hb hr hlocks rfl (by unfold aCraneOf; try simp only [ej, ek]; (first | rw [if_pos c5] | rw [if_neg c5] | rw [if_neg (bf c5)] | skip); (first | rw [if_pos c15] | rw [if_neg c15] | rw [if_neg (bf c15)] | skip); (first | rw [if_pos c25] | rw [if_neg c25] | rw [if_neg (bf c25)] | skip); try rfl) dX5_craneOf_66
    · refine lv_sipush (v := (-1001)) hx hb dX5_craneOf_18 (by decide) ?_
      exact z_reti hx hb hr hlocks rfl (by unfold aCraneOf; (first | rw [if_pos c5] | rw [if_neg c5] | rw [if_neg (bf c5)] | skip); (first | rw [if_pos c15] | rw [if_neg c15] | rw [if_neg (bf c15)] | skip); try rfl) dX5_craneOf_21
theorem iX5_street_X5 : ∀ w ∈ wsX50, w ∈ wsX5_street := fun w h => (List.mem_cons_of_mem _ (List.mem_append_right _ h))
set_option maxRecDepth 100000 in
set_option maxHeartbeats 4000000 in
theorem c_X5_street (l : Launch) (D : va_G) (y : zY) (m : Nat) (d : Nat → Int32) (a : Int32) (n : Int32) (w : Int32) (hI : zI d) : Met l yX5_street wsX5_street ({ frames := 3, cells := 0, slots := 0, locals := 69 }) (zP [.ref m, .int a, .int n, .int w] (zM D y m d) D y) (zQ (some (.int (aStreet d a n w)))) 0 0 nofree := by
  refine z_body (cc := cX5_street) (maxL := 4) (ret := (some .int)) (la := [(0, .ref m), (1, .int a), (2, .int n), (3, .int w)]) (by decide) rfl (Nat.le_of_ble_eq_true rfl) rfl ?_
  intro pg ev s mm below meth c0 ls hx hb hr hF hlocks hΦ hK hl _
  have hts := hF.2.2.2.2
  have hown : s.vm.findClass RX5 = some mm.cls := hF.2.2.2.1
  obtain ⟨⟨fs, hO⟩, hA⟩ := id hΦ
  have hG2 := hI.ng2
  have hC8 := hI.nc8
  refine lv_iload_n hx hb dX5_street_0 rfl (lv_at hl 1 rfl) ?_
  refine z_callS (As := [.int a]) (rest := []) hF hK (c_X5_isStreet l D y a ) (va_cwS 1 hts gX5_street_X5_isStreet rfl rfl rfl (by decide +kernel) ⟨Nat.le_of_ble_eq_true rfl, Nat.le_of_ble_eq_true rfl⟩) trivial rfl hl.1 rfl (Nat.le_of_ble_eq_true rfl) dX5_street_1 ⟨Nat.zero_le _, Nat.zero_le _⟩ ?_
  refine z_ifeq (tgt := 24) hx hb dX5_street_4 (by decide) (fun c4 => ?_) (fun c4 => ?_)
  · refine lv_sipush (v := (-1001)) hx hb dX5_street_24 (by decide) ?_
    exact z_reti hx hb hr hlocks rfl (by unfold aStreet; (first | rw [if_pos c4] | rw [if_neg c4] | rw [if_neg (bf c4)] | skip); try rfl) dX5_street_27
  · refine lv_iload_n hx hb dX5_street_7 rfl (lv_at hl 2 rfl) ?_
    refine z_callS (As := [.int n]) (rest := []) hF hK (c_X5_isNight l D y n ) (va_cwS 1 hts gX5_street_X5_isNight rfl rfl rfl (by decide +kernel) ⟨Nat.le_of_ble_eq_true rfl, Nat.le_of_ble_eq_true rfl⟩) trivial rfl hl.1 rfl (Nat.le_of_ble_eq_true rfl) dX5_street_8 ⟨Nat.zero_le _, Nat.zero_le _⟩ ?_
    refine z_ifeq (tgt := 24) hx hb dX5_street_11 (by decide) (fun c11 => ?_) (fun c11 => ?_)
    · refine lv_sipush (v := (-1001)) hx hb dX5_street_24 (by decide) ?_
      exact z_reti hx hb hr hlocks rfl (by unfold aStreet; (first | rw [if_pos c4] | rw [if_neg c4] | rw [if_neg (bf c4)] | skip); (first | rw [if_pos c11] | rw [if_neg c11] | rw [if_neg (bf c11)] | skip); try rfl) dX5_street_27
    · refine lv_iload_n hx hb dX5_street_14 rfl (lv_at hl 3 rfl) ?_
      refine lv_iconst (v := (nI 0)) hx hb dX5_street_15 (by decide) ?_
      refine lv_bipush (v := (nI 6)) hx hb dX5_street_16 (by decide) ?_
      refine z_callS (As := [.int w, .int (nI 0), .int (nI 6)]) (rest := []) hF hK (c_X5_in l D y w (nI 0) (nI 6) ) (va_cwS 3 hts gX5_street_X5_in rfl rfl rfl (by decide +kernel) ⟨Nat.le_of_ble_eq_true rfl, Nat.le_of_ble_eq_true rfl⟩) trivial rfl hl.1 rfl (Nat.le_of_ble_eq_true rfl) dX5_street_18 ⟨Nat.zero_le _, Nat.zero_le _⟩ ?_
      refine z_ifne (tgt := 28) hx hb dX5_street_21 (by decide) (fun c21 => ?_) (fun c21 => ?_)
      · obtain ⟨j, lj, hj, rfl⟩ := inB_nat (by decide) c4 (by decide)
        have ej : cl (nI j) = j := cl_nI (by omega)
        obtain ⟨k, lk, hk, rfl⟩ := inB_nat (by decide) c11 (by decide)
        have ek : cl (nI k) = k := cl_nI (by omega)
        refine lv_iload_n hx hb dX5_street_28 rfl (lv_at hl 3 rfl) ?_
        rcases sw_0_5 w with c29 | c29 | c29 | c29 | c29 | c29 | ⟨c29_0, c29_1, c29_2, c29_3, c29_4, c29_5⟩
        · refine lv_tableIn (off := 39) (tgt := 68) hx hb dX5_street_29 (by rw [c29]; decide) (by rw [c29]; decide) (by rw [c29]; rfl) (by decide) ?_
          refine lv_aload_n hx hb dX5_street_68 rfl (lv_at hl 0 rfl) ?_
          refine lv_iload_n hx hb dX5_street_69 rfl (lv_at hl 1 rfl) ?_
          refine lv_iload_n hx hb dX5_street_70 rfl (lv_at hl 2 rfl) ?_
          refine z_callV (As := [.int (nI j), .int (nI k)]) (rest := []) hF hK (c_X5_allowed l D y m d j k (by omega) (by omega)) (cwV 2 hts gX5_street_X5_allowed rfl rfl rfl (by decide +kernel) ⟨Nat.le_of_ble_eq_true rfl, Nat.le_of_ble_eq_true rfl⟩) (z_recv (q := (RX5, TX5, 9)) hK hO rfl) hΦ rfl hl.1 rfl (Nat.le_of_ble_eq_true rfl) dX5_street_71 ⟨Nat.zero_le _, Nat.zero_le _⟩ ?_
          exact z_reti hx hb hr hlocks rfl (by unfold aStreet; try simp only [ej, ek]; (first | rw [if_pos c4] | rw [if_neg c4] | rw [if_neg (bf c4)] | skip); (first | rw [if_pos c11] | rw [if_neg c11] | rw [if_neg (bf c11)] | skip); (first | rw [if_pos c21] | rw [if_neg c21] | rw [if_neg (bf c21)] | skip); (rw [c29]); try rfl) dX5_street_74
        · refine lv_tableIn (off := 46) (tgt := 75) hx hb dX5_street_29 (by rw [c29]; decide) (by rw [c29]; decide) (by rw [c29]; rfl) (by decide) ?_
          refine lv_aload_n hx hb dX5_street_75 rfl (lv_at hl 0 rfl) ?_
          refine z_get (fs := (.ref (m + 1) :: fs)) (ref := "CranePermitsModel") (C := RX5) (T := TX5) (N := 9) (ci := 5) (v := .ref (m + 1)) hx hb hts iX5_street_X5 hown hK hO 0 (by decide) rfl (hts (.fieldLink RX5 7 "CranePermitsModel" "d" "[I") (List.mem_of_getElem? (i := 1) rfl)) rfl rfl dX5_street_76 ?_
          refine lv_sipush (v := (nI 202)) hx hb dX5_street_79 (by decide) ?_
          refine lv_iload_n hx hb dX5_street_82 rfl (lv_at hl 1 rfl) ?_
          refine lv_iload_n hx hb dX5_street_83 rfl (lv_at hl 2 rfl) ?_
          refine z_callS (As := [.int (nI j), .int (nI k)]) (rest := [.int (nI 202), .ref (m + 1)]) hF hK (c_X5_spot l D y j k ) (va_cwS 2 hts gX5_street_X5_spot rfl rfl rfl (by decide +kernel) ⟨Nat.le_of_ble_eq_true rfl, Nat.le_of_ble_eq_true rfl⟩) trivial rfl hl.1 rfl (Nat.le_of_ble_eq_true rfl) dX5_street_84 ⟨Nat.zero_le _, Nat.zero_le _⟩ ?_
          refine z_iadd hx hb dX5_street_87 ?_
          refine z_iald (f := d) hx hb hK hA (by omega) (by decide) dX5_street_88 ?_
          exact z_reti hx hb hr hlocks rfl (by unfold aStreet; try simp only [ej, ek]; (first | rw [if_pos c4] | rw [if_neg c4] | rw [if_neg (bf c4)] | skip); (first | rw [if_pos c11] | rw [if_neg c11] | rw [if_neg (bf c11)] | skip); (first | rw [if_pos c21] | rw [if_neg c21] | rw [if_neg (bf c21)] | skip); (rw [c29]); try rfl) dX5_street_89
        · refine lv_tableIn (off := 61) (tgt := 90) hx hb dX5_street_29 (by rw [c29]; decide) (by rw [c29]; decide) (by rw [c29]; rfl) (by decide) ?_
          refine lv_aload_n hx hb dX5_street_90 rfl (lv_at hl 0 rfl) ?_
          refine z_get (fs := (.ref (m + 1) :: fs)) (ref := "CranePermitsModel") (C := RX5) (T := TX5) (N := 9) (ci := 5) (v := .ref (m + 1)) hx hb hts iX5_street_X5 hown hK hO 0 (by decide) rfl (hts (.fieldLink RX5 7 "CranePermitsModel" "d" "[I") (List.mem_of_getElem? (i := 1) rfl)) rfl rfl dX5_street_91 ?_
          refine lv_sipush (v := (nI 322)) hx hb dX5_street_94 (by decide) ?_
          refine lv_iload_n hx hb dX5_street_97 rfl (lv_at hl 1 rfl) ?_
          refine lv_iload_n hx hb dX5_street_98 rfl (lv_at hl 2 rfl) ?_
          refine z_callS (As := [.int (nI j), .int (nI k)]) (rest := [.int (nI 322), .ref (m + 1)]) hF hK (c_X5_spot l D y j k ) (va_cwS 2 hts gX5_street_X5_spot rfl rfl rfl (by decide +kernel) ⟨Nat.le_of_ble_eq_true rfl, Nat.le_of_ble_eq_true rfl⟩) trivial rfl hl.1 rfl (Nat.le_of_ble_eq_true rfl) dX5_street_99 ⟨Nat.zero_le _, Nat.zero_le _⟩ ?_
          refine z_iadd hx hb dX5_street_102 ?_
          refine z_iald (f := d) hx hb hK hA (by omega) (by decide) dX5_street_103 ?_
          exact z_reti hx hb hr hlocks rfl (by unfold aStreet; try simp only [ej, ek]; (first | rw [if_pos c4] | rw [if_neg c4] | rw [if_neg (bf c4)] | skip); (first | rw [if_pos c11] | rw [if_neg c11] | rw [if_neg (bf c11)] | skip); (first | rw [if_pos c21] | rw [if_neg c21] | rw [if_neg (bf c21)] | skip); (rw [c29]); try rfl) dX5_street_104
        · refine lv_tableIn (off := 76) (tgt := 105) hx hb dX5_street_29 (by rw [c29]; decide) (by rw [c29]; decide) (by rw [c29]; rfl) (by decide) ?_
          refine lv_aload_n hx hb dX5_street_105 rfl (lv_at hl 0 rfl) ?_
          refine lv_iload_n hx hb dX5_street_106 rfl (lv_at hl 1 rfl) ?_
          refine lv_iload_n hx hb dX5_street_107 rfl (lv_at hl 2 rfl) ?_
          refine z_callV (As := [.int (nI j), .int (nI k)]) (rest := []) hF hK (c_X5_credits l D y m d j k (by omega) (by omega)) (cwV 2 hts gX5_street_X5_credits rfl rfl rfl (by decide +kernel) ⟨Nat.le_of_ble_eq_true rfl, Nat.le_of_ble_eq_true rfl⟩) (z_recv (q := (RX5, TX5, 9)) hK hO rfl) hΦ rfl hl.1 rfl (Nat.le_of_ble_eq_true rfl) dX5_street_108 ⟨Nat.zero_le _, Nat.zero_le _⟩ ?_
          exact z_reti hx hb hr hlocks rfl (by unfold aStreet; try simp only [ej, ek]; (first | rw [if_pos c4] | rw [if_neg c4] | rw [if_neg (bf c4)] | skip); (first | rw [if_pos c11] | rw [if_neg c11] | rw [if_neg (bf c11)] | skip); (first | rw [if_pos c21] | rw [if_neg c21] | rw [if_neg (bf c21)] | skip); (rw [c29]); try rfl) dX5_street_111
        · refine lv_tableIn (off := 83) (tgt := 112) hx hb dX5_street_29 (by rw [c29]; decide) (by rw [c29]; decide) (by rw [c29]; rfl) (by decide) ?_
          refine lv_aload_n hx hb dX5_street_112 rfl (lv_at hl 0 rfl) ?_
          refine lv_iload_n hx hb dX5_street_113 rfl (lv_at hl 1 rfl) ?_
          refine lv_iload_n hx hb dX5_street_114 rfl (lv_at hl 2 rfl) ?_
          refine z_callV (As := [.int (nI j), .int (nI k)]) (rest := []) hF hK (c_X5_used l D y m d (nI j) (nI k) (hI)) (cwV 2 hts gX5_street_X5_used rfl rfl rfl (by decide +kernel) ⟨Nat.le_of_ble_eq_true rfl, Nat.le_of_ble_eq_true rfl⟩) (z_recv (q := (RX5, TX5, 9)) hK hO rfl) hΦ rfl hl.1 rfl (Nat.le_of_ble_eq_true rfl) dX5_street_115 ⟨Nat.zero_le _, Nat.zero_le _⟩ ?_
          exact z_reti hx hb hr hlocks rfl (by unfold aStreet; try simp only [ej, ek]; (first | rw [if_pos c4] | rw [if_neg c4] | rw [if_neg (bf c4)] | skip); (first | rw [if_pos c11] | rw [if_neg c11] | rw [if_neg (bf c11)] | skip); (first | rw [if_pos c21] | rw [if_neg c21] | rw [if_neg (bf c21)] | skip); (rw [c29]); try rfl) dX5_street_118
        · refine lv_tableIn (off := 90) (tgt := 119) hx hb dX5_street_29 (by rw [c29]; decide) (by rw [c29]; decide) (by rw [c29]; rfl) (by decide) ?_
          refine lv_aload_n hx hb dX5_street_119 rfl (lv_at hl 0 rfl) ?_
          refine lv_iload_n hx hb dX5_street_120 rfl (lv_at hl 1 rfl) ?_
          refine lv_iload_n hx hb dX5_street_121 rfl (lv_at hl 2 rfl) ?_
          refine z_callV (As := [.int (nI j), .int (nI k)]) (rest := []) hF hK (c_X5_validOf l D y m d (nI j) (nI k) (hI)) (cwV 2 hts gX5_street_X5_validOf rfl rfl rfl (by decide +kernel) ⟨Nat.le_of_ble_eq_true rfl, Nat.le_of_ble_eq_true rfl⟩) (z_recv (q := (RX5, TX5, 9)) hK hO rfl) hΦ rfl hl.1 rfl (Nat.le_of_ble_eq_true rfl) dX5_street_122 ⟨Nat.zero_le _, Nat.zero_le _⟩ ?_
          exact z_reti hx hb hr hlocks rfl (by unfold aStreet; try simp only [ej, ek]; (first | rw [if_pos c4] | rw [if_neg c4] | rw [if_neg (bf c4)] | skip); (first | rw [if_pos c11] | rw [if_neg c11] | rw [if_neg (bf c11)] | skip); (first | rw [if_pos c21] | rw [if_neg c21] | rw [if_neg (bf c21)] | skip); (rw [c29]); try rfl) dX5_street_125
        · refine lv_tableOut (tgt := 126) hx hb dX5_street_29 (swOut_0_5 c29_0 c29_1 c29_2 c29_3 c29_4 c29_5) (by decide) ?_
          refine lv_aload_n hx hb dX5_street_126 rfl (lv_at hl 0 rfl) ?_
          refine z_get (fs := (.ref (m + 1) :: fs)) (ref := "CranePermitsModel") (C := RX5) (T := TX5) (N := 9) (ci := 5) (v := .ref (m + 1)) hx hb hts iX5_street_X5 hown hK hO 0 (by decide) rfl (hts (.fieldLink RX5 7 "CranePermitsModel" "d" "[I") (List.mem_of_getElem? (i := 1) rfl)) rfl rfl dX5_street_127 ?_
          refine lv_bipush (v := (nI 52)) hx hb dX5_street_130 (by decide) ?_
          refine lv_iload_n hx hb dX5_street_132 rfl (lv_at hl 2 rfl) ?_
          refine z_iadd hx hb dX5_street_133 ?_
          refine z_iald (f := d) hx hb hK hA (by omega) (by decide) dX5_street_134 ?_
          exact z_reti hx hb hr hlocks rfl (by unfold aStreet; try simp only [ej, ek]; (first | rw [if_pos c4] | rw [if_neg c4] | rw [if_neg (bf c4)] | skip); (first | rw [if_pos c11] | rw [if_neg c11] | rw [if_neg (bf c11)] | skip); (first | rw [if_pos c21] | rw [if_neg c21] | rw [if_neg (bf c21)] | skip); (first | rw [if_pos c29_0] | rw [if_neg c29_0] | rw [if_neg (bf c29_0)] | skip); (first | rw [if_pos c29_1] | rw [if_neg c29_1] | rw [if_neg (bf c29_1)] | skip); (first | rw [if_pos c29_2] | rw [if_neg c29_2] | rw [if_neg (bf c29_2)] | skip); (first | rw [if_pos c29_3] | rw [if_neg c29_3] | rw [if_neg (bf c29_3)] | skip); (first | rw [if_pos c29_4] | rw [if_neg c29_4] | rw [if_neg (bf c29_4)] | skip); (first | rw [if_pos c29_5] | rw [if_neg c29_5] | rw [if_neg (bf c29_5)] | skip); try rfl) dX5_street_135
      · refine lv_sipush (v := (-1001)) hx hb dX5_street_24 (by decide) ?_
        exact z_reti hx hb hr hlocks rfl (by unfold aStreet; (first | rw [if_pos c4] | rw [if_neg c4] | rw [if_neg (bf c4)] | skip); (first | rw [if_pos c11] | rw [if_neg c11] | rw [if_neg (bf c11)] | skip); (first | rw [if_pos c21] | rw [if_neg c21] | rw [if_neg (bf c21)] | skip); try rfl) dX5_street_27
set_option maxRecDepth 100000 in
set_option maxHeartbeats 4000000 in
theorem c_X5_covers (l : Launch) (D : va_G) (y : zY) (m : Nat) (d : Nat → Int32) (c : Int32) (sw : Int32) (x : Int32) (z : Int32) (hI : zI d) : Met l yX5_covers wsX5_covers ({ frames := 2, cells := 0, slots := 0, locals := 48 }) (zP [.ref m, .int c, .int sw, .int x, .int z] (zM D y m d) D y) (zQ (some (.int (aCovers d c sw x z)))) 0 0 nofree := by
  refine z_body (cc := cX5_covers) (maxL := 5) (ret := (some .int)) (la := [(0, .ref m), (1, .int c), (2, .int sw), (3, .int x), (4, .int z)]) (by decide) rfl (Nat.le_of_ble_eq_true rfl) rfl ?_
  intro pg ev s mm below meth c0 ls hx hb hr hF hlocks hΦ hK hl _
  have hts := hF.2.2.2.2
  have hown : s.vm.findClass RX5 = some mm.cls := hF.2.2.2.1
  obtain ⟨⟨fs, hO⟩, hA⟩ := id hΦ
  have hG2 := hI.ng2
  have hC8 := hI.nc8
  refine lv_aload_n hx hb dX5_covers_0 rfl (lv_at hl 0 rfl) ?_
  refine lv_iload_n hx hb dX5_covers_1 rfl (lv_at hl 1 rfl) ?_
  refine z_callV (As := [.int c]) (rest := []) hF hK (c_X5_isCrane l D y m d c (hI)) (cwV 1 hts gX5_covers_X5_isCrane rfl rfl rfl (by decide +kernel) ⟨Nat.le_of_ble_eq_true rfl, Nat.le_of_ble_eq_true rfl⟩) (z_recv (q := (RX5, TX5, 9)) hK hO rfl) hΦ rfl hl.1 rfl (Nat.le_of_ble_eq_true rfl) dX5_covers_2 ⟨Nat.zero_le _, Nat.zero_le _⟩ ?_
  refine z_ifeq (tgt := 36) hx hb dX5_covers_5 (by decide) (fun c5 => ?_) (fun c5 => ?_)
  · refine lv_sipush (v := (-1001)) hx hb dX5_covers_36 (by decide) ?_
    exact z_reti hx hb hr hlocks rfl (by unfold aCovers; (first | rw [if_pos c5] | rw [if_neg c5] | rw [if_neg (bf c5)] | skip); try rfl) dX5_covers_39
  · refine lv_iload_n hx hb dX5_covers_8 rfl (lv_at hl 2 rfl) ?_
    refine z_callS (As := [.int sw]) (rest := []) hF hK (c_X5_isSwing l D y sw ) (va_cwS 1 hts gX5_covers_X5_isSwing rfl rfl rfl (by decide +kernel) ⟨Nat.le_of_ble_eq_true rfl, Nat.le_of_ble_eq_true rfl⟩) trivial rfl hl.1 rfl (Nat.le_of_ble_eq_true rfl) dX5_covers_9 ⟨Nat.zero_le _, Nat.zero_le _⟩ ?_
    refine z_ifeq (tgt := 36) hx hb dX5_covers_12 (by decide) (fun c12 => ?_) (fun c12 => ?_)
    · refine lv_sipush (v := (-1001)) hx hb dX5_covers_36 (by decide) ?_
      exact z_reti hx hb hr hlocks rfl (by unfold aCovers; (first | rw [if_pos c5] | rw [if_neg c5] | rw [if_neg (bf c5)] | skip); (first | rw [if_pos c12] | rw [if_neg c12] | rw [if_neg (bf c12)] | skip); try rfl) dX5_covers_39
    · refine lv_iload_n hx hb dX5_covers_15 rfl (lv_at hl 3 rfl) ?_
      refine lv_iconst (v := (nI 0)) hx hb dX5_covers_16 (by decide) ?_
      refine lv_bipush (v := (nI 15)) hx hb dX5_covers_17 (by decide) ?_
      refine z_callS (As := [.int x, .int (nI 0), .int (nI 15)]) (rest := []) hF hK (c_X5_in l D y x (nI 0) (nI 15) ) (va_cwS 3 hts gX5_covers_X5_in rfl rfl rfl (by decide +kernel) ⟨Nat.le_of_ble_eq_true rfl, Nat.le_of_ble_eq_true rfl⟩) trivial rfl hl.1 rfl (Nat.le_of_ble_eq_true rfl) dX5_covers_19 ⟨Nat.zero_le _, Nat.zero_le _⟩ ?_
      refine z_ifeq (tgt := 36) hx hb dX5_covers_22 (by decide) (fun c22 => ?_) (fun c22 => ?_)
      · refine lv_sipush (v := (-1001)) hx hb dX5_covers_36 (by decide) ?_
        exact z_reti hx hb hr hlocks rfl (by unfold aCovers; (first | rw [if_pos c5] | rw [if_neg c5] | rw [if_neg (bf c5)] | skip); (first | rw [if_pos c12] | rw [if_neg c12] | rw [if_neg (bf c12)] | skip); (first | rw [if_pos c22] | rw [if_neg c22] | rw [if_neg (bf c22)] | skip); try rfl) dX5_covers_39
      · refine lv_iload hx hb dX5_covers_25 (lv_at hl 4 rfl) ?_
        refine lv_iconst (v := (nI 0)) hx hb dX5_covers_27 (by decide) ?_
        refine lv_bipush (v := (nI 15)) hx hb dX5_covers_28 (by decide) ?_
        refine z_callS (As := [.int z, .int (nI 0), .int (nI 15)]) (rest := []) hF hK (c_X5_in l D y z (nI 0) (nI 15) ) (va_cwS 3 hts gX5_covers_X5_in rfl rfl rfl (by decide +kernel) ⟨Nat.le_of_ble_eq_true rfl, Nat.le_of_ble_eq_true rfl⟩) trivial rfl hl.1 rfl (Nat.le_of_ble_eq_true rfl) dX5_covers_30 ⟨Nat.zero_le _, Nat.zero_le _⟩ ?_
        refine z_ifne (tgt := 40) hx hb dX5_covers_33 (by decide) (fun c33 => ?_) (fun c33 => ?_)
        · obtain ⟨j, hj, rfl⟩ := in_nc hI c5
          have ej : cl (nI j) = j := cl_nI (by omega)
          refine lv_aload_n hx hb dX5_covers_40 rfl (lv_at hl 0 rfl) ?_
          refine lv_iload_n hx hb dX5_covers_41 rfl (lv_at hl 1 rfl) ?_
          refine lv_iload_n hx hb dX5_covers_42 rfl (lv_at hl 2 rfl) ?_
          refine lv_iload_n hx hb dX5_covers_43 rfl (lv_at hl 3 rfl) ?_
          refine lv_iload hx hb dX5_covers_44 (lv_at hl 4 rfl) ?_
          refine z_callV (As := [.int (nI j), .int sw, .int x, .int z]) (rest := []) hF hK (c_X5_isCovered l D y m d j sw x z (by omega)) (cwV 4 hts gX5_covers_X5_isCovered rfl rfl rfl (by decide +kernel) ⟨Nat.le_of_ble_eq_true rfl, Nat.le_of_ble_eq_true rfl⟩) (z_recv (q := (RX5, TX5, 9)) hK hO rfl) hΦ rfl hl.1 rfl (Nat.le_of_ble_eq_true rfl) dX5_covers_46 ⟨Nat.zero_le _, Nat.zero_le _⟩ ?_
          refine z_ifeq (tgt := 56) hx hb dX5_covers_49 (by decide) (fun c49 => ?_) (fun c49 => ?_)
          · refine lv_iconst (v := (nI 0)) hx hb dX5_covers_56 (by decide) ?_
            exact z_reti hx hb hr hlocks rfl (by unfold aCovers; try simp only [ej]; (first | rw [if_pos c5] | rw [if_neg c5] | rw [if_neg (bf c5)] | skip); (first | rw [if_pos c12] | rw [if_neg c12] | rw [if_neg (bf c12)] | skip); (first | rw [if_pos c22] | rw [if_neg c22] | rw [if_neg (bf c22)] | skip); (first | rw [if_pos c33] | rw [if_neg c33] | rw [if_neg (bf c33)] | skip); (first | rw [if_pos c49] | rw [if_neg c49] | rw [if_neg (bf c49)] | skip); try rfl) dX5_covers_57
          · refine lv_iconst (v := (nI 1)) hx hb dX5_covers_52 (by decide) ?_
            refine lv_goto (tgt := 57) hx hb dX5_covers_53 (by decide) ?_
            exact z_reti hx hb hr hlocks rfl (by unfold aCovers; try simp only [ej]; (first | rw [if_pos c5] | rw [if_neg c5] | rw [if_neg (bf c5)] | skip); (first | rw [if_pos c12] | rw [if_neg c12] | rw [if_neg (bf c12)] | skip); (first | rw [if_pos c22] | rw [if_neg c22] | rw [if_neg (bf c22)] | skip); (first | rw [if_pos c33] | rw [if_neg c33] | rw [if_neg (bf c33)] | skip); (first | rw [if_pos c49] | rw [if_neg c49] | rw [if_neg (bf c49)] | skip); try rfl) dX5_covers_57
        · refine lv_sipush (v := (-1001)) hx hb dX5_covers_36 (by decide) ?_
          exact z_reti hx hb hr hlocks rfl (by unfold aCovers; (first | rw [if_pos c5] | rw [if_neg c5] | rw [if_neg (bf c5)] | skip); (first | rw [if_pos c12] | rw [if_neg c12] | rw [if_neg (bf c12)] | skip); (first | rw [if_pos c22] | rw [if_neg c22] | rw [if_neg (bf c22)] | skip); (first | rw [if_pos c33] | rw [if_neg c33] | rw [if_neg (bf c33)] | skip); try rfl) dX5_covers_39
set_option maxRecDepth 100000 in
set_option maxHeartbeats 4000000 in
theorem c_X5_area (l : Launch) (D : va_G) (y : zY) (m : Nat) (d : Nat → Int32) (c : Int32) (sw : Int32) (hI : zI d) : Met l yX5_area wsX5_area ({ frames := 2, cells := 0, slots := 0, locals := 48 }) (zP [.ref m, .int c, .int sw] (zM D y m d) D y) (zQ (some (.int (aArea d c sw)))) 0 0 nofree := by
  refine z_body (cc := cX5_area) (maxL := 5) (ret := (some .int)) (la := [(0, .ref m), (1, .int c), (2, .int sw)]) (by decide) rfl (Nat.le_of_ble_eq_true rfl) rfl ?_
  intro pg ev s mm below meth c0 ls hx hb hr hF hlocks hΦ hK hl _
  have hts := hF.2.2.2.2
  have hown : s.vm.findClass RX5 = some mm.cls := hF.2.2.2.1
  obtain ⟨⟨fs, hO⟩, hA⟩ := id hΦ
  have hG2 := hI.ng2
  have hC8 := hI.nc8
  refine lv_aload_n hx hb dX5_area_0 rfl (lv_at hl 0 rfl) ?_
  refine lv_iload_n hx hb dX5_area_1 rfl (lv_at hl 1 rfl) ?_
  refine z_callV (As := [.int c]) (rest := []) hF hK (c_X5_isCrane l D y m d c (hI)) (cwV 1 hts gX5_area_X5_isCrane rfl rfl rfl (by decide +kernel) ⟨Nat.le_of_ble_eq_true rfl, Nat.le_of_ble_eq_true rfl⟩) (z_recv (q := (RX5, TX5, 9)) hK hO rfl) hΦ rfl hl.1 rfl (Nat.le_of_ble_eq_true rfl) dX5_area_2 ⟨Nat.zero_le _, Nat.zero_le _⟩ ?_
  refine z_ifeq (tgt := 15) hx hb dX5_area_5 (by decide) (fun c5 => ?_) (fun c5 => ?_)
  · refine lv_sipush (v := (-1001)) hx hb dX5_area_15 (by decide) ?_
    exact z_reti hx hb hr hlocks rfl (by unfold aArea; (first | rw [if_pos c5] | rw [if_neg c5] | rw [if_neg (bf c5)] | skip); try rfl) dX5_area_18
  · refine lv_iload_n hx hb dX5_area_8 rfl (lv_at hl 2 rfl) ?_
    refine z_callS (As := [.int sw]) (rest := []) hF hK (c_X5_isSwing l D y sw ) (va_cwS 1 hts gX5_area_X5_isSwing rfl rfl rfl (by decide +kernel) ⟨Nat.le_of_ble_eq_true rfl, Nat.le_of_ble_eq_true rfl⟩) trivial rfl hl.1 rfl (Nat.le_of_ble_eq_true rfl) dX5_area_9 ⟨Nat.zero_le _, Nat.zero_le _⟩ ?_
    refine z_ifne (tgt := 19) hx hb dX5_area_12 (by decide) (fun c12 => ?_) (fun c12 => ?_)
    · obtain ⟨j, hj, rfl⟩ := in_nc hI c5
      have ej : cl (nI j) = j := cl_nI (by omega)
      refine lv_iconst (v := (nI 0)) hx hb dX5_area_19 (by decide) ?_
      refine lv_istore_n (lv' := [(3, .int (nI 0)), (0, .ref m), (1, .int (nI j)), (2, .int sw)]) hx hb dX5_area_20 rfl hl (by decide) rfl (fun ls hl => ?_)
      refine lv_iconst (v := (nI 0)) hx hb dX5_area_21 (by decide) ?_
      refine lv_istore (lv' := [(4, .int (nI 0)), (3, .int (nI 0)), (0, .ref m), (1, .int (nI j)), (2, .int sw)]) hx hb dX5_area_22 hl (by decide) rfl (fun ls hl => ?_)
      have hl := lv_repl (l' := [(4, .int (nI 0)), (3, .int (sumN (areF d j sw) 0)), (0, .ref m), (1, .int (nI j)), (2, .int sw)]) hl 1 rfl (rfl) rfl
      refine z_loop (S := Nat) (nL := 5) (fun (i : Nat) => 256 - i) (fun (i : Nat) => [(4, .int (nI i)), (3, .int (sumN (areF d j sw) i)), (0, .ref m), (1, .int (nI j)), (2, .int sw)]) (fun (i : Nat) => i ≤ 256) 0 (by omega) (lv_sub hl [0, 1, 2, 3, 4] rfl) ?_
      clear hl
      rintro i ls hI_24 hl ih_24
      have hi := hI_24
      refine lv_iload hx hb dX5_area_24 (lv_at hl 0 rfl) ?_
      refine lv_sipush (v := (nI 256)) hx hb dX5_area_26 (by decide) ?_
      refine z_ge (tgt := 65) hx hb (by omega) (by omega) dX5_area_29 (by decide) (fun c29 => ?_) (fun c29 => ?_)
      · refine lv_iload_n hx hb dX5_area_65 rfl (lv_at hl 1 rfl) ?_
        exact z_reti hx hb hr hlocks rfl (by unfold aArea; rw [if_pos c5, if_pos c12, ej, show i = 256 by omega]) dX5_area_66
      · refine lv_iload_n hx hb dX5_area_32 rfl (lv_at hl 1 rfl) ?_
        refine lv_aload_n hx hb dX5_area_33 rfl (lv_at hl 2 rfl) ?_
        refine lv_iload_n hx hb dX5_area_34 rfl (lv_at hl 3 rfl) ?_
        refine lv_iload_n hx hb dX5_area_35 rfl (lv_at hl 4 rfl) ?_
        refine lv_iload hx hb dX5_area_36 (lv_at hl 0 rfl) ?_
        refine lv_bipush (v := (nI 16)) hx hb dX5_area_38 (by decide) ?_
        refine z_irem hx hb (by omega) (by omega) (by omega) dX5_area_40 ?_
        refine lv_iload hx hb dX5_area_41 (lv_at hl 0 rfl) ?_
        refine lv_bipush (v := (nI 16)) hx hb dX5_area_43 (by decide) ?_
        refine z_idiv hx hb (by omega) (by omega) (by omega) dX5_area_45 ?_
        refine z_callV (As := [.int (nI j), .int sw, .int (nI (i % 16)), .int (nI (i / 16))]) (rest := [.int (sumN (areF d j sw) i)]) hF hK (c_X5_isCovered l D y m d j sw (nI (i % 16)) (nI (i / 16)) (by omega)) (cwV 4 hts gX5_area_X5_isCovered rfl rfl rfl (by decide +kernel) ⟨Nat.le_of_ble_eq_true rfl, Nat.le_of_ble_eq_true rfl⟩) (z_recv (q := (RX5, TX5, 9)) hK hO rfl) hΦ rfl hl.1 rfl (Nat.le_of_ble_eq_true rfl) dX5_area_46 ⟨Nat.zero_le _, Nat.zero_le _⟩ ?_
        refine z_ifeq (tgt := 56) hx hb dX5_area_49 (by decide) (fun c49 => ?_) (fun c49 => ?_)
        · refine lv_iconst (v := (nI 0)) hx hb dX5_area_56 (by decide) ?_
          refine lv_iadd hx hb dX5_area_57 ?_
          refine lv_istore_n (lv' := [(3, .int ((sumN (areF d j sw) i) + (nI 0))), (4, .int (nI i)), (0, .ref m), (1, .int (nI j)), (2, .int sw)]) hx hb dX5_area_58 rfl hl (by decide) rfl (fun ls hl => ?_)
          refine lv_iinc (v := (nI (i + 1))) (lv' := [(4, .int (nI (i + 1))), (3, .int ((sumN (areF d j sw) i) + (nI 0))), (0, .ref m), (1, .int (nI j)), (2, .int sw)]) hx hb dX5_area_59 hl (k := 1) rfl (in1 _) (by decide) rfl (fun ls hl => ?_)
          refine lv_goto (tgt := 24) hx hb dX5_area_62 (by decide) ?_
          have hl := lv_repl (l' := [(4, .int (nI (i + 1))), (3, .int (sumN (areF d j sw) (i + 1))), (0, .ref m), (1, .int (nI j)), (2, .int sw)]) hl 1 rfl (by rw [sumN_s, areF, covC]; simp only [c49, if_true, Bool.false_eq_true, if_false]) rfl
          exact ih_24 (i + 1) _ (by omega) (by omega) (lv_sub hl [0, 1, 2, 3, 4] rfl)
        · refine lv_iconst (v := (nI 1)) hx hb dX5_area_52 (by decide) ?_
          refine lv_goto (tgt := 57) hx hb dX5_area_53 (by decide) ?_
          refine lv_iadd hx hb dX5_area_57 ?_
          refine lv_istore_n (lv' := [(3, .int ((sumN (areF d j sw) i) + (nI 1))), (4, .int (nI i)), (0, .ref m), (1, .int (nI j)), (2, .int sw)]) hx hb dX5_area_58 rfl hl (by decide) rfl (fun ls hl => ?_)
          refine lv_iinc (v := (nI (i + 1))) (lv' := [(4, .int (nI (i + 1))), (3, .int ((sumN (areF d j sw) i) + (nI 1))), (0, .ref m), (1, .int (nI j)), (2, .int sw)]) hx hb dX5_area_59 hl (k := 1) rfl (in1 _) (by decide) rfl (fun ls hl => ?_)
          refine lv_goto (tgt := 24) hx hb dX5_area_62 (by decide) ?_
          have hl := lv_repl (l' := [(4, .int (nI (i + 1))), (3, .int (sumN (areF d j sw) (i + 1))), (0, .ref m), (1, .int (nI j)), (2, .int sw)]) hl 1 rfl (by rw [sumN_s, areF, covC]; simp only [c49, if_true, Bool.false_eq_true, if_false]) rfl
          exact ih_24 (i + 1) _ (by omega) (by omega) (lv_sub hl [0, 1, 2, 3, 4] rfl)
    · refine lv_sipush (v := (-1001)) hx hb dX5_area_15 (by decide) ?_
      exact z_reti hx hb hr hlocks rfl (by unfold aArea; (first | rw [if_pos c5] | rw [if_neg c5] | rw [if_neg (bf c5)] | skip); (first | rw [if_pos c12] | rw [if_neg c12] | rw [if_neg (bf c12)] | skip); try rfl) dX5_area_18
set_option maxRecDepth 100000 in
set_option maxHeartbeats 4000000 in
theorem c_X5_isApplication (l : Launch) (D : va_G) (y : zY) (m : Nat) (d : Nat → Int32) (c : Int32) (n : Int32) (h : Int32) (sw : Int32) (hI : zI d) : Met l yX5_isApplication wsX5_isApplication ({ frames := 2, cells := 0, slots := 0, locals := 43 }) (zP [.ref m, .int c, .int n, .int h, .int sw] (zM D y m d) D y) (zQ (some (.int (bI (aplB d c n h sw))))) 0 0 nofree := by
  refine z_body (cc := cX5_isApplication) (maxL := 5) (ret := (some .boolean)) (la := [(0, .ref m), (1, .int c), (2, .int n), (3, .int h), (4, .int sw)]) (by decide) rfl (Nat.le_of_ble_eq_true rfl) rfl ?_
  intro pg ev s mm below meth c0 ls hx hb hr hF hlocks hΦ hK hl _
  have hts := hF.2.2.2.2
  have hown : s.vm.findClass RX5 = some mm.cls := hF.2.2.2.1
  obtain ⟨⟨fs, hO⟩, hA⟩ := id hΦ
  have hG2 := hI.ng2
  have hC8 := hI.nc8
  refine lv_aload_n hx hb dX5_isApplication_0 rfl (lv_at hl 0 rfl) ?_
  refine lv_iload_n hx hb dX5_isApplication_1 rfl (lv_at hl 1 rfl) ?_
  refine z_callV (As := [.int c]) (rest := []) hF hK (c_X5_isCrane l D y m d c (hI)) (cwV 1 hts gX5_isApplication_X5_isCrane rfl rfl rfl (by decide +kernel) ⟨Nat.le_of_ble_eq_true rfl, Nat.le_of_ble_eq_true rfl⟩) (z_recv (q := (RX5, TX5, 9)) hK hO rfl) hΦ rfl hl.1 rfl (Nat.le_of_ble_eq_true rfl) dX5_isApplication_2 ⟨Nat.zero_le _, Nat.zero_le _⟩ ?_
  refine z_ifeq (tgt := 34) hx hb dX5_isApplication_5 (by decide) (fun c5 => ?_) (fun c5 => ?_)
  · refine lv_iconst (v := (nI 0)) hx hb dX5_isApplication_34 (by decide) ?_
    exact z_retz hx hb hr hlocks rfl (bI_ff (by first | (simp only [aplB, c5, if_true, if_false, eq_self, decide_true, decide_false, Bool.and_true, Bool.true_and, Bool.and_false, Bool.false_and, Bool.or_true, Bool.true_or, Bool.or_false, Bool.false_or, Bool.not_true, Bool.not_false, not_true_eq_false, not_false_eq_true, and_true, true_and, and_false, false_and, gt_iff_lt, ge_iff_le, ne_eq, Bool.false_eq_true]; done) | (simp [aplB, c5]; done) | (simp_all [aplB, c5]; done))) dX5_isApplication_35
  · refine lv_iload_n hx hb dX5_isApplication_8 rfl (lv_at hl 2 rfl) ?_
    refine z_callS (As := [.int n]) (rest := []) hF hK (c_X5_isNight l D y n ) (va_cwS 1 hts gX5_isApplication_X5_isNight rfl rfl rfl (by decide +kernel) ⟨Nat.le_of_ble_eq_true rfl, Nat.le_of_ble_eq_true rfl⟩) trivial rfl hl.1 rfl (Nat.le_of_ble_eq_true rfl) dX5_isApplication_9 ⟨Nat.zero_le _, Nat.zero_le _⟩ ?_
    refine z_ifeq (tgt := 34) hx hb dX5_isApplication_12 (by decide) (fun c12 => ?_) (fun c12 => ?_)
    · refine lv_iconst (v := (nI 0)) hx hb dX5_isApplication_34 (by decide) ?_
      exact z_retz hx hb hr hlocks rfl (bI_ff (by first | (simp only [aplB, c5, c12, if_true, if_false, eq_self, decide_true, decide_false, Bool.and_true, Bool.true_and, Bool.and_false, Bool.false_and, Bool.or_true, Bool.true_or, Bool.or_false, Bool.false_or, Bool.not_true, Bool.not_false, not_true_eq_false, not_false_eq_true, and_true, true_and, and_false, false_and, gt_iff_lt, ge_iff_le, ne_eq, Bool.false_eq_true]; done) | (simp [aplB, c5, c12]; done) | (simp_all [aplB, c5, c12]; done))) dX5_isApplication_35
    · refine lv_iload_n hx hb dX5_isApplication_15 rfl (lv_at hl 3 rfl) ?_
      refine z_callS (As := [.int h]) (rest := []) hF hK (c_X5_areHours l D y h ) (va_cwS 1 hts gX5_isApplication_X5_areHours rfl rfl rfl (by decide +kernel) ⟨Nat.le_of_ble_eq_true rfl, Nat.le_of_ble_eq_true rfl⟩) trivial rfl hl.1 rfl (Nat.le_of_ble_eq_true rfl) dX5_isApplication_16 ⟨Nat.zero_le _, Nat.zero_le _⟩ ?_
      refine z_ifeq (tgt := 34) hx hb dX5_isApplication_19 (by decide) (fun c19 => ?_) (fun c19 => ?_)
      · refine lv_iconst (v := (nI 0)) hx hb dX5_isApplication_34 (by decide) ?_
        exact z_retz hx hb hr hlocks rfl (bI_ff (by first | (simp only [aplB, c5, c12, c19, if_true, if_false, eq_self, decide_true, decide_false, Bool.and_true, Bool.true_and, Bool.and_false, Bool.false_and, Bool.or_true, Bool.true_or, Bool.or_false, Bool.false_or, Bool.not_true, Bool.not_false, not_true_eq_false, not_false_eq_true, and_true, true_and, and_false, false_and, gt_iff_lt, ge_iff_le, ne_eq, Bool.false_eq_true]; done) | (simp [aplB, c5, c12, c19]; done) | (simp_all [aplB, c5, c12, c19]; done))) dX5_isApplication_35
      · refine lv_iload hx hb dX5_isApplication_22 (lv_at hl 4 rfl) ?_
        refine z_callS (As := [.int sw]) (rest := []) hF hK (c_X5_isSwing l D y sw ) (va_cwS 1 hts gX5_isApplication_X5_isSwing rfl rfl rfl (by decide +kernel) ⟨Nat.le_of_ble_eq_true rfl, Nat.le_of_ble_eq_true rfl⟩) trivial rfl hl.1 rfl (Nat.le_of_ble_eq_true rfl) dX5_isApplication_24 ⟨Nat.zero_le _, Nat.zero_le _⟩ ?_
        refine z_ifeq (tgt := 34) hx hb dX5_isApplication_27 (by decide) (fun c27 => ?_) (fun c27 => ?_)
        · refine lv_iconst (v := (nI 0)) hx hb dX5_isApplication_34 (by decide) ?_
          exact z_retz hx hb hr hlocks rfl (bI_ff (by first | (simp only [aplB, c5, c12, c19, c27, if_true, if_false, eq_self, decide_true, decide_false, Bool.and_true, Bool.true_and, Bool.and_false, Bool.false_and, Bool.or_true, Bool.true_or, Bool.or_false, Bool.false_or, Bool.not_true, Bool.not_false, not_true_eq_false, not_false_eq_true, and_true, true_and, and_false, false_and, gt_iff_lt, ge_iff_le, ne_eq, Bool.false_eq_true]; done) | (simp [aplB, c5, c12, c19, c27]; done) | (simp_all [aplB, c5, c12, c19, c27]; done))) dX5_isApplication_35
        · refine lv_iconst (v := (nI 1)) hx hb dX5_isApplication_30 (by decide) ?_
          refine lv_goto (tgt := 35) hx hb dX5_isApplication_31 (by decide) ?_
          exact z_retz hx hb hr hlocks rfl (bI_tt (by first | (simp only [aplB, c5, c12, c19, c27, if_true, if_false, eq_self, decide_true, decide_false, Bool.and_true, Bool.true_and, Bool.and_false, Bool.false_and, Bool.or_true, Bool.true_or, Bool.or_false, Bool.false_or, Bool.not_true, Bool.not_false, not_true_eq_false, not_false_eq_true, and_true, true_and, and_false, false_and, gt_iff_lt, ge_iff_le, ne_eq, Bool.false_eq_true]; done) | (simp [aplB, c5, c12, c19, c27]; done) | (simp_all [aplB, c5, c12, c19, c27]; done))) dX5_isApplication_35
theorem iX5_refuses_X5 : ∀ w ∈ wsX50, w ∈ wsX5_refuses := fun w h => (List.mem_cons_of_mem _ (List.mem_append_right _ h))
set_option maxRecDepth 100000 in
set_option maxHeartbeats 4000000 in
theorem c_X5_refuses (l : Launch) (D : va_G) (y : zY) (m : Nat) (d : Nat → Int32) (c : Nat) (n : Nat) (h : Int32) (sw : Int32) (hI : zI d) (hc : c < nC d) (hn : n < 30) : Met l yX5_refuses wsX5_refuses ({ frames := 5, cells := 0, slots := 0, locals := 125 }) (zP [.ref m, .int (nI c), .int (nI n), .int h, .int sw] (zM D y m d) D y) (zQ (some (.int (rfsI d c n h sw)))) 0 0 nofree := by
  refine z_body (cc := cX5_refuses) (maxL := 6) (ret := (some .int)) (la := [(0, .ref m), (1, .int (nI c)), (2, .int (nI n)), (3, .int h), (4, .int sw)]) (by decide) rfl (Nat.le_of_ble_eq_true rfl) rfl ?_
  intro pg ev s mm below meth c0 ls hx hb hr hF hlocks hΦ hK hl _
  have hts := hF.2.2.2.2
  have hown : s.vm.findClass RX5 = some mm.cls := hF.2.2.2.1
  obtain ⟨⟨fs, hO⟩, hA⟩ := id hΦ
  have hG2 := hI.ng2
  have hC8 := hI.nc8
  have hs4 := hI.sc4 hc
  refine lv_iconst (v := (nI 0)) hx hb dX5_refuses_0 (by decide) ?_
  refine lv_istore (lv' := [(5, .int (nI 0)), (0, .ref m), (1, .int (nI c)), (2, .int (nI n)), (3, .int h), (4, .int sw)]) hx hb dX5_refuses_1 hl (by decide) rfl (fun ls hl => ?_)
  refine z_loop (S := Nat) (nL := 6) (fun (i : Nat) => nG d - i) (fun (i : Nat) => [(5, .int (nI i)), (0, .ref m), (1, .int (nI c)), (2, .int (nI n)), (3, .int h), (4, .int sw)]) (fun (i : Nat) => i ≤ nG d ∧ ∀ j, j < i → ownB d c (nI n) h j = false) 0 (⟨Nat.zero_le _, fun j hj => absurd hj (Nat.not_lt_zero j)⟩) (lv_sub hl [0, 1, 2, 3, 4, 5] rfl) ?_
  clear hl
  rintro i ls hI_3 hl ih_3
  obtain ⟨hi, hall⟩ := hI_3
  refine lv_iload hx hb dX5_refuses_3 (lv_at hl 0 rfl) ?_
  refine lv_aload_n hx hb dX5_refuses_5 rfl (lv_at hl 1 rfl) ?_
  refine z_get (fs := (.ref (m + 1) :: fs)) (ref := "CranePermitsModel") (C := RX5) (T := TX5) (N := 9) (ci := 5) (v := .ref (m + 1)) hx hb hts iX5_refuses_X5 hown hK hO 0 (by decide) rfl (hts (.fieldLink RX5 7 "CranePermitsModel" "d" "[I") (List.mem_of_getElem? (i := 1) rfl)) rfl rfl dX5_refuses_6 ?_
  refine lv_sipush (v := (nI 442)) hx hb dX5_refuses_9 (by decide) ?_
  refine z_iald (f := d) hx hb hK hA (by omega) (by decide) dX5_refuses_12 ?_
  refine z_topi (z := (nI (nG d))) (hI.ng) ?_
  refine z_ge (tgt := 71) hx hb (by omega) (by omega) dX5_refuses_13 (by decide) (fun c13 => ?_) (fun c13 => ?_)
  · refine lv_aload_n hx hb dX5_refuses_71 rfl (lv_at hl 1 rfl) ?_
    refine lv_iload_n hx hb dX5_refuses_72 rfl (lv_at hl 2 rfl) ?_
    refine lv_iload_n hx hb dX5_refuses_73 rfl (lv_at hl 3 rfl) ?_
    refine z_callV (As := [.int (nI c), .int (nI n)]) (rest := []) hF hK (c_X5_stops l D y m d c n (by omega) (by omega)) (cwV 2 hts gX5_refuses_X5_stops rfl rfl rfl (by decide +kernel) ⟨Nat.le_of_ble_eq_true rfl, Nat.le_of_ble_eq_true rfl⟩) (z_recv (q := (RX5, TX5, 9)) hK hO rfl) hΦ rfl hl.1 rfl (Nat.le_of_ble_eq_true rfl) dX5_refuses_74 ⟨Nat.zero_le _, Nat.zero_le _⟩ ?_
    refine z_ifeq (tgt := 82) hx hb dX5_refuses_77 (by decide) (fun c77 => ?_) (fun c77 => ?_)
    · refine lv_aload_n hx hb dX5_refuses_82 rfl (lv_at hl 1 rfl) ?_
      refine lv_iload_n hx hb dX5_refuses_83 rfl (lv_at hl 2 rfl) ?_
      refine lv_iload_n hx hb dX5_refuses_84 rfl (lv_at hl 3 rfl) ?_
      refine lv_iload_n hx hb dX5_refuses_85 rfl (lv_at hl 4 rfl) ?_
      refine lv_iload hx hb dX5_refuses_86 (lv_at hl 5 rfl) ?_
      refine z_callV (As := [.int (nI c), .int (nI n), .int h, .int sw]) (rest := []) hF hK (c_X5_firstInAir l D y m d c (nI n) h sw (hI) (by omega)) (cwV 4 hts gX5_refuses_X5_firstInAir rfl rfl rfl (by decide +kernel) ⟨Nat.le_of_ble_eq_true rfl, Nat.le_of_ble_eq_true rfl⟩) (z_recv (q := (RX5, TX5, 9)) hK hO rfl) hΦ rfl hl.1 rfl (Nat.le_of_ble_eq_true rfl) dX5_refuses_88 ⟨Nat.zero_le _, Nat.zero_le _⟩ ?_
      refine lv_iconst (v := (-1)) hx hb dX5_refuses_91 (by decide) ?_
      refine lv_icmp_eq (tgt := 97) hx hb dX5_refuses_92 (by decide) (fun c92 => ?_) (fun c92 => ?_)
      · refine lv_aload_n hx hb dX5_refuses_97 rfl (lv_at hl 1 rfl) ?_
        refine lv_iload_n hx hb dX5_refuses_98 rfl (lv_at hl 2 rfl) ?_
        refine lv_iconst (v := (nI 4)) hx hb dX5_refuses_99 (by decide) ?_
        refine z_callV (As := [.int (nI c), .int (nI 4)]) (rest := []) hF hK (c_X5_craned l D y m d c 4 (by omega) (by omega)) (cwV 2 hts gX5_refuses_X5_craned rfl rfl rfl (by decide +kernel) ⟨Nat.le_of_ble_eq_true rfl, Nat.le_of_ble_eq_true rfl⟩) (z_recv (q := (RX5, TX5, 9)) hK hO rfl) hΦ rfl hl.1 rfl (Nat.le_of_ble_eq_true rfl) dX5_refuses_100 ⟨Nat.zero_le _, Nat.zero_le _⟩ ?_
        refine z_topi (z := (nI (sC d c))) (hI.sc hc) ?_
        refine lv_istore (lv' := [(5, .int (nI (sC d c))), (0, .ref m), (1, .int (nI c)), (2, .int (nI n)), (3, .int h), (4, .int sw)]) hx hb dX5_refuses_103 hl (by decide) rfl (fun ls hl => ?_)
        refine lv_aload_n hx hb dX5_refuses_105 rfl (lv_at hl 1 rfl) ?_
        refine lv_iload hx hb dX5_refuses_106 (lv_at hl 0 rfl) ?_
        refine lv_iload_n hx hb dX5_refuses_108 rfl (lv_at hl 3 rfl) ?_
        refine z_callV (As := [.int (nI (sC d c)), .int (nI n)]) (rest := []) hF hK (c_X5_used l D y m d (nI (sC d c)) (nI n) (hI)) (cwV 2 hts gX5_refuses_X5_used rfl rfl rfl (by decide +kernel) ⟨Nat.le_of_ble_eq_true rfl, Nat.le_of_ble_eq_true rfl⟩) (z_recv (q := (RX5, TX5, 9)) hK hO rfl) hΦ rfl hl.1 rfl (Nat.le_of_ble_eq_true rfl) dX5_refuses_109 ⟨Nat.zero_le _, Nat.zero_le _⟩ ?_
        refine lv_iload_n hx hb dX5_refuses_112 rfl (lv_at hl 4 rfl) ?_
        refine z_callS (As := [.int h]) (rest := [.int (usedI d (nI (sC d c)) (nI n))]) hF hK (c_X5_hoursIn l D y h ) (va_cwS 1 hts gX5_refuses_X5_hoursIn rfl rfl rfl (by decide +kernel) ⟨Nat.le_of_ble_eq_true rfl, Nat.le_of_ble_eq_true rfl⟩) trivial rfl hl.1 rfl (Nat.le_of_ble_eq_true rfl) dX5_refuses_113 ⟨Nat.zero_le _, Nat.zero_le _⟩ ?_
        refine lv_aload_n hx hb dX5_refuses_116 rfl (lv_at hl 1 rfl) ?_
        refine lv_iload_n hx hb dX5_refuses_117 rfl (lv_at hl 2 rfl) ?_
        refine lv_iconst (v := (nI 5)) hx hb dX5_refuses_118 (by decide) ?_
        refine z_callV (As := [.int (nI c), .int (nI 5)]) (rest := [.int (hrsI h), .int (usedI d (nI (sC d c)) (nI n))]) hF hK (c_X5_craned l D y m d c 5 (by omega) (by omega)) (cwV 2 hts gX5_refuses_X5_craned rfl rfl rfl (by decide +kernel) ⟨Nat.le_of_ble_eq_true rfl, Nat.le_of_ble_eq_true rfl⟩) (z_recv (q := (RX5, TX5, 9)) hK hO rfl) hΦ rfl hl.1 rfl (Nat.le_of_ble_eq_true rfl) dX5_refuses_119 ⟨Nat.zero_le _, Nat.zero_le _⟩ ?_
        refine lv_imul hx hb dX5_refuses_122 ?_
        refine lv_iadd hx hb dX5_refuses_123 ?_
        refine lv_aload_n hx hb dX5_refuses_124 rfl (lv_at hl 1 rfl) ?_
        refine lv_iload hx hb dX5_refuses_125 (lv_at hl 0 rfl) ?_
        refine lv_iload_n hx hb dX5_refuses_127 rfl (lv_at hl 3 rfl) ?_
        refine z_callV (As := [.int (nI (sC d c)), .int (nI n)]) (rest := [.int ((usedI d (nI (sC d c)) (nI n)) + ((hrsI h) * (gr d c 5)))]) hF hK (c_X5_credits l D y m d (sC d c) n (by omega) (by omega)) (cwV 2 hts gX5_refuses_X5_credits rfl rfl rfl (by decide +kernel) ⟨Nat.le_of_ble_eq_true rfl, Nat.le_of_ble_eq_true rfl⟩) (z_recv (q := (RX5, TX5, 9)) hK hO rfl) hΦ rfl hl.1 rfl (Nat.le_of_ble_eq_true rfl) dX5_refuses_128 ⟨Nat.zero_le _, Nat.zero_le _⟩ ?_
        refine lv_icmp_le (tgt := 138) hx hb dX5_refuses_131 (by decide) (fun c131 => ?_) (fun c131 => ?_)
        · refine lv_iconst (v := (nI 0)) hx hb dX5_refuses_138 (by decide) ?_
          exact z_reti hx hb hr hlocks rfl (by unfold rfsI; rw [any_f (fun j hj => hall j (by omega)), if_neg (by decide), if_neg (bf c77), if_pos c92]; first | rw [if_pos c131] | rw [if_neg c131]) dX5_refuses_139
        · refine lv_iconst (v := (nI 4)) hx hb dX5_refuses_134 (by decide) ?_
          refine lv_goto (tgt := 139) hx hb dX5_refuses_135 (by decide) ?_
          exact z_reti hx hb hr hlocks rfl (by unfold rfsI; rw [any_f (fun j hj => hall j (by omega)), if_neg (by decide), if_neg (bf c77), if_pos c92]; first | rw [if_pos c131] | rw [if_neg c131]) dX5_refuses_139
      · refine lv_iconst (v := (nI 3)) hx hb dX5_refuses_95 (by decide) ?_
        exact z_reti hx hb hr hlocks rfl (by unfold rfsI; rw [any_f (fun j hj => hall j (by omega)), if_neg (by decide), if_neg (bf c77), if_neg c92]) dX5_refuses_96
    · refine lv_iconst (v := (nI 2)) hx hb dX5_refuses_80 (by decide) ?_
      exact z_reti hx hb hr hlocks rfl (by unfold rfsI; rw [any_f (fun j hj => hall j (by omega)), if_neg (by decide), if_pos c77]) dX5_refuses_81
  · refine lv_aload_n hx hb dX5_refuses_16 rfl (lv_at hl 1 rfl) ?_
    refine lv_iload hx hb dX5_refuses_17 (lv_at hl 0 rfl) ?_
    refine lv_iconst (v := (nI 4)) hx hb dX5_refuses_19 (by decide) ?_
    refine z_callV (As := [.int (nI i), .int (nI 4)]) (rest := []) hF hK (c_X5_of l D y m d i 4 (by omega) (by omega)) (cwV 2 hts gX5_refuses_X5_of rfl rfl rfl (by decide +kernel) ⟨Nat.le_of_ble_eq_true rfl, Nat.le_of_ble_eq_true rfl⟩) (z_recv (q := (RX5, TX5, 9)) hK hO rfl) hΦ rfl hl.1 rfl (Nat.le_of_ble_eq_true rfl) dX5_refuses_20 ⟨Nat.zero_le _, Nat.zero_le _⟩ ?_
    refine lv_iconst (v := (nI 1)) hx hb dX5_refuses_23 (by decide) ?_
    refine lv_icmp_ne (tgt := 65) hx hb dX5_refuses_24 (by decide) (fun c24 => ?_) (fun c24 => ?_)
    · refine lv_iinc (v := (nI (i + 1))) (lv' := [(5, .int (nI (i + 1))), (0, .ref m), (1, .int (nI c)), (2, .int (nI n)), (3, .int h), (4, .int sw)]) hx hb dX5_refuses_65 hl (k := 0) rfl (in1 _) (by decide) rfl (fun ls hl => ?_)
      refine lv_goto (tgt := 3) hx hb dX5_refuses_68 (by decide) ?_
      exact ih_3 (i + 1) _ (by omega) (by refine ⟨by omega, lt_sc hall ?_⟩; unfold ownB; first | (rw [decide_eq_false c24]; rfl) | (rw [decide_eq_false c35, Bool.false_and]; exact Bool.and_false _) | (rw [decide_eq_false c46, Bool.false_and, Bool.and_false]; exact Bool.and_false _) | (rw [c60, Bool.and_false, Bool.and_false]; exact Bool.and_false _)) (lv_sub hl [0, 1, 2, 3, 4, 5] rfl)
    · refine lv_aload_n hx hb dX5_refuses_27 rfl (lv_at hl 1 rfl) ?_
      refine lv_iload hx hb dX5_refuses_28 (lv_at hl 0 rfl) ?_
      refine lv_iconst (v := (nI 0)) hx hb dX5_refuses_30 (by decide) ?_
      refine z_callV (As := [.int (nI i), .int (nI 0)]) (rest := []) hF hK (c_X5_of l D y m d i 0 (by omega) (by omega)) (cwV 2 hts gX5_refuses_X5_of rfl rfl rfl (by decide +kernel) ⟨Nat.le_of_ble_eq_true rfl, Nat.le_of_ble_eq_true rfl⟩) (z_recv (q := (RX5, TX5, 9)) hK hO rfl) hΦ rfl hl.1 rfl (Nat.le_of_ble_eq_true rfl) dX5_refuses_31 ⟨Nat.zero_le _, Nat.zero_le _⟩ ?_
      refine lv_iload_n hx hb dX5_refuses_34 rfl (lv_at hl 2 rfl) ?_
      refine lv_icmp_ne (tgt := 65) hx hb dX5_refuses_35 (by decide) (fun c35 => ?_) (fun c35 => ?_)
      · refine lv_iinc (v := (nI (i + 1))) (lv' := [(5, .int (nI (i + 1))), (0, .ref m), (1, .int (nI c)), (2, .int (nI n)), (3, .int h), (4, .int sw)]) hx hb dX5_refuses_65 hl (k := 0) rfl (in1 _) (by decide) rfl (fun ls hl => ?_)
        refine lv_goto (tgt := 3) hx hb dX5_refuses_68 (by decide) ?_
        exact ih_3 (i + 1) _ (by omega) (by refine ⟨by omega, lt_sc hall ?_⟩; unfold ownB; first | (rw [decide_eq_false c24]; rfl) | (rw [decide_eq_false c35, Bool.false_and]; exact Bool.and_false _) | (rw [decide_eq_false c46, Bool.false_and, Bool.and_false]; exact Bool.and_false _) | (rw [c60, Bool.and_false, Bool.and_false]; exact Bool.and_false _)) (lv_sub hl [0, 1, 2, 3, 4, 5] rfl)
      · refine lv_aload_n hx hb dX5_refuses_38 rfl (lv_at hl 1 rfl) ?_
        refine lv_iload hx hb dX5_refuses_39 (lv_at hl 0 rfl) ?_
        refine lv_iconst (v := (nI 1)) hx hb dX5_refuses_41 (by decide) ?_
        refine z_callV (As := [.int (nI i), .int (nI 1)]) (rest := []) hF hK (c_X5_of l D y m d i 1 (by omega) (by omega)) (cwV 2 hts gX5_refuses_X5_of rfl rfl rfl (by decide +kernel) ⟨Nat.le_of_ble_eq_true rfl, Nat.le_of_ble_eq_true rfl⟩) (z_recv (q := (RX5, TX5, 9)) hK hO rfl) hΦ rfl hl.1 rfl (Nat.le_of_ble_eq_true rfl) dX5_refuses_42 ⟨Nat.zero_le _, Nat.zero_le _⟩ ?_
        refine lv_iload_n hx hb dX5_refuses_45 rfl (lv_at hl 3 rfl) ?_
        refine lv_icmp_ne (tgt := 65) hx hb dX5_refuses_46 (by decide) (fun c46 => ?_) (fun c46 => ?_)
        · refine lv_iinc (v := (nI (i + 1))) (lv' := [(5, .int (nI (i + 1))), (0, .ref m), (1, .int (nI c)), (2, .int (nI n)), (3, .int h), (4, .int sw)]) hx hb dX5_refuses_65 hl (k := 0) rfl (in1 _) (by decide) rfl (fun ls hl => ?_)
          refine lv_goto (tgt := 3) hx hb dX5_refuses_68 (by decide) ?_
          exact ih_3 (i + 1) _ (by omega) (by refine ⟨by omega, lt_sc hall ?_⟩; unfold ownB; first | (rw [decide_eq_false c24]; rfl) | (rw [decide_eq_false c35, Bool.false_and]; exact Bool.and_false _) | (rw [decide_eq_false c46, Bool.false_and, Bool.and_false]; exact Bool.and_false _) | (rw [c60, Bool.and_false, Bool.and_false]; exact Bool.and_false _)) (lv_sub hl [0, 1, 2, 3, 4, 5] rfl)
        · refine lv_iload_n hx hb dX5_refuses_49 rfl (lv_at hl 4 rfl) ?_
          refine lv_aload_n hx hb dX5_refuses_50 rfl (lv_at hl 1 rfl) ?_
          refine lv_iload hx hb dX5_refuses_51 (lv_at hl 0 rfl) ?_
          refine lv_iconst (v := (nI 2)) hx hb dX5_refuses_53 (by decide) ?_
          refine z_callV (As := [.int (nI i), .int (nI 2)]) (rest := [.int h]) hF hK (c_X5_of l D y m d i 2 (by omega) (by omega)) (cwV 2 hts gX5_refuses_X5_of rfl rfl rfl (by decide +kernel) ⟨Nat.le_of_ble_eq_true rfl, Nat.le_of_ble_eq_true rfl⟩) (z_recv (q := (RX5, TX5, 9)) hK hO rfl) hΦ rfl hl.1 rfl (Nat.le_of_ble_eq_true rfl) dX5_refuses_54 ⟨Nat.zero_le _, Nat.zero_le _⟩ ?_
          refine z_callS (As := [.int h, .int (pm d i 2)]) (rest := []) hF hK (c_X5_hoursMeet l D y h (pm d i 2) ) (va_cwS 2 hts gX5_refuses_X5_hoursMeet rfl rfl rfl (by decide +kernel) ⟨Nat.le_of_ble_eq_true rfl, Nat.le_of_ble_eq_true rfl⟩) trivial rfl hl.1 rfl (Nat.le_of_ble_eq_true rfl) dX5_refuses_57 ⟨Nat.zero_le _, Nat.zero_le _⟩ ?_
          refine z_ifeq (tgt := 65) hx hb dX5_refuses_60 (by decide) (fun c60 => ?_) (fun c60 => ?_)
          · refine lv_iinc (v := (nI (i + 1))) (lv' := [(5, .int (nI (i + 1))), (0, .ref m), (1, .int (nI c)), (2, .int (nI n)), (3, .int h), (4, .int sw)]) hx hb dX5_refuses_65 hl (k := 0) rfl (in1 _) (by decide) rfl (fun ls hl => ?_)
            refine lv_goto (tgt := 3) hx hb dX5_refuses_68 (by decide) ?_
            exact ih_3 (i + 1) _ (by omega) (by refine ⟨by omega, lt_sc hall ?_⟩; unfold ownB; first | (rw [decide_eq_false c24]; rfl) | (rw [decide_eq_false c35, Bool.false_and]; exact Bool.and_false _) | (rw [decide_eq_false c46, Bool.false_and, Bool.and_false]; exact Bool.and_false _) | (rw [c60, Bool.and_false, Bool.and_false]; exact Bool.and_false _)) (lv_sub hl [0, 1, 2, 3, 4, 5] rfl)
          · refine lv_iconst (v := (nI 1)) hx hb dX5_refuses_63 (by decide) ?_
            exact z_reti hx hb hr hlocks rfl (by unfold rfsI; rw [if_pos (any_t (i := i) (by omega) (show ownB d c (nI n) h i = true by unfold ownB; rw [decide_eq_true c24, decide_eq_true c35, decide_eq_true c46, c60]; rfl))]) dX5_refuses_64
set_option maxRecDepth 100000 in
set_option maxHeartbeats 4000000 in
theorem c_X5_refusal (l : Launch) (D : va_G) (y : zY) (m : Nat) (d : Nat → Int32) (c : Int32) (n : Int32) (h : Int32) (sw : Int32) (hI : zI d) : Met l yX5_refusal wsX5_refusal ({ frames := 6, cells := 0, slots := 0, locals := 150 }) (zP [.ref m, .int c, .int n, .int h, .int sw] (zM D y m d) D y) (zQ (some (.int (aRefusal d c n h sw)))) 0 0 nofree := by
  refine z_body (cc := cX5_refusal) (maxL := 5) (ret := (some .int)) (la := [(0, .ref m), (1, .int c), (2, .int n), (3, .int h), (4, .int sw)]) (by decide) rfl (Nat.le_of_ble_eq_true rfl) rfl ?_
  intro pg ev s mm below meth c0 ls hx hb hr hF hlocks hΦ hK hl _
  have hts := hF.2.2.2.2
  have hown : s.vm.findClass RX5 = some mm.cls := hF.2.2.2.1
  obtain ⟨⟨fs, hO⟩, hA⟩ := id hΦ
  have hG2 := hI.ng2
  have hC8 := hI.nc8
  refine lv_aload_n hx hb dX5_refusal_0 rfl (lv_at hl 0 rfl) ?_
  refine lv_iload_n hx hb dX5_refusal_1 rfl (lv_at hl 1 rfl) ?_
  refine lv_iload_n hx hb dX5_refusal_2 rfl (lv_at hl 2 rfl) ?_
  refine lv_iload_n hx hb dX5_refusal_3 rfl (lv_at hl 3 rfl) ?_
  refine lv_iload hx hb dX5_refusal_4 (lv_at hl 4 rfl) ?_
  refine z_callV (As := [.int c, .int n, .int h, .int sw]) (rest := []) hF hK (c_X5_isApplication l D y m d c n h sw (hI)) (cwV 4 hts gX5_refusal_X5_isApplication rfl rfl rfl (by decide +kernel) ⟨Nat.le_of_ble_eq_true rfl, Nat.le_of_ble_eq_true rfl⟩) (z_recv (q := (RX5, TX5, 9)) hK hO rfl) hΦ rfl hl.1 rfl (Nat.le_of_ble_eq_true rfl) dX5_refusal_6 ⟨Nat.zero_le _, Nat.zero_le _⟩ ?_
  refine z_ifeq (tgt := 24) hx hb dX5_refusal_9 (by decide) (fun c9 => ?_) (fun c9 => ?_)
  · refine lv_sipush (v := (-1001)) hx hb dX5_refusal_24 (by decide) ?_
    exact z_reti hx hb hr hlocks rfl (by unfold aRefusal; (first | rw [if_pos c9] | rw [if_neg c9] | rw [if_neg (bf c9)] | skip); try rfl) dX5_refusal_27
  · obtain ⟨⟨j, hj, rfl⟩, ⟨k, hk, rfl⟩⟩ := apl_nat hI c9
    have ej : cl (nI j) = j := cl_nI (by omega)
    have ek : cl (nI k) = k := cl_nI (by omega)
    refine lv_aload_n hx hb dX5_refusal_12 rfl (lv_at hl 0 rfl) ?_
    refine lv_iload_n hx hb dX5_refusal_13 rfl (lv_at hl 1 rfl) ?_
    refine lv_iload_n hx hb dX5_refusal_14 rfl (lv_at hl 2 rfl) ?_
    refine lv_iload_n hx hb dX5_refusal_15 rfl (lv_at hl 3 rfl) ?_
    refine lv_iload hx hb dX5_refusal_16 (lv_at hl 4 rfl) ?_
    refine z_callV (As := [.int (nI j), .int (nI k), .int h, .int sw]) (rest := []) hF hK (c_X5_refuses l D y m d j k h sw (hI) (by omega) (by omega)) (cwV 4 hts gX5_refusal_X5_refuses rfl rfl rfl (by decide +kernel) ⟨Nat.le_of_ble_eq_true rfl, Nat.le_of_ble_eq_true rfl⟩) (z_recv (q := (RX5, TX5, 9)) hK hO rfl) hΦ rfl hl.1 rfl (Nat.le_of_ble_eq_true rfl) dX5_refusal_18 ⟨Nat.zero_le _, Nat.zero_le _⟩ ?_
    refine lv_goto (tgt := 27) hx hb dX5_refusal_21 (by decide) ?_
    exact z_reti hx hb hr hlocks rfl (by unfold aRefusal; try simp only [ej, ek]; (first | rw [if_pos c9] | rw [if_neg c9] | rw [if_neg (bf c9)] | skip); try rfl) dX5_refusal_27
theorem iX5_isFull_X5 : ∀ w ∈ wsX50, w ∈ wsX5_isFull := fun w h => (List.mem_cons_of_mem _ (List.mem_append_right _ h))
set_option maxRecDepth 100000 in
set_option maxHeartbeats 4000000 in
theorem c_X5_isFull (l : Launch) (D : va_G) (y : zY) (m : Nat) (d : Nat → Int32) (hI : zI d) : Met l yX5_isFull wsX5_isFull ({ frames := 2, cells := 0, slots := 0, locals := 45 }) (zP [.ref m] (zM D y m d) D y) (zQ (some (.int (bI (fulB d))))) 0 0 nofree := by
  refine z_body (cc := cX5_isFull) (maxL := 1) (ret := (some .boolean)) (la := [(0, .ref m)]) (by decide) rfl (Nat.le_of_ble_eq_true rfl) rfl ?_
  intro pg ev s mm below meth c0 ls hx hb hr hF hlocks hΦ hK hl _
  have hts := hF.2.2.2.2
  have hown : s.vm.findClass RX5 = some mm.cls := hF.2.2.2.1
  obtain ⟨⟨fs, hO⟩, hA⟩ := id hΦ
  have hG2 := hI.ng2
  have hC8 := hI.nc8
  refine lv_aload_n hx hb dX5_isFull_0 rfl (lv_at hl 0 rfl) ?_
  refine lv_iconst (v := (-1)) hx hb dX5_isFull_1 (by decide) ?_
  refine z_callV (As := [.int (-1)]) (rest := []) hF hK (c_X5_valid l D y m d (-1) (hI)) (cwV 1 hts gX5_isFull_X5_valid rfl rfl rfl (by decide +kernel) ⟨Nat.le_of_ble_eq_true rfl, Nat.le_of_ble_eq_true rfl⟩) (z_recv (q := (RX5, TX5, 9)) hK hO rfl) hΦ rfl hl.1 rfl (Nat.le_of_ble_eq_true rfl) dX5_isFull_2 ⟨Nat.zero_le _, Nat.zero_le _⟩ ?_
  refine lv_bipush (v := (nI 24)) hx hb dX5_isFull_5 (by decide) ?_
  refine lv_icmp_eq (tgt := 24) hx hb dX5_isFull_7 (by decide) (fun c7 => ?_) (fun c7 => ?_)
  · refine lv_iconst (v := (nI 1)) hx hb dX5_isFull_24 (by decide) ?_
    refine lv_goto (tgt := 29) hx hb dX5_isFull_25 (by decide) ?_
    exact z_retz hx hb hr hlocks rfl (bI_tt (by first | (simp only [fulB, c7, if_true, if_false, eq_self, decide_true, decide_false, Bool.and_true, Bool.true_and, Bool.and_false, Bool.false_and, Bool.or_true, Bool.true_or, Bool.or_false, Bool.false_or, Bool.not_true, Bool.not_false, not_true_eq_false, not_false_eq_true, and_true, true_and, and_false, false_and, gt_iff_lt, ge_iff_le, ne_eq, Bool.false_eq_true]; done) | (simp [fulB, c7]; done) | (simp_all [fulB, c7]; done))) dX5_isFull_29
  · refine lv_aload_n hx hb dX5_isFull_10 rfl (lv_at hl 0 rfl) ?_
    refine z_get (fs := (.ref (m + 1) :: fs)) (ref := "CranePermitsModel") (C := RX5) (T := TX5) (N := 9) (ci := 5) (v := .ref (m + 1)) hx hb hts iX5_isFull_X5 hown hK hO 0 (by decide) rfl (hts (.fieldLink RX5 7 "CranePermitsModel" "d" "[I") (List.mem_of_getElem? (i := 1) rfl)) rfl rfl dX5_isFull_11 ?_
    refine lv_sipush (v := (nI 442)) hx hb dX5_isFull_14 (by decide) ?_
    refine z_iald (f := d) hx hb hK hA (by omega) (by decide) dX5_isFull_17 ?_
    refine lv_sipush (v := (nI 200)) hx hb dX5_isFull_18 (by decide) ?_
    refine lv_icmp_ne (tgt := 28) hx hb dX5_isFull_21 (by decide) (fun c21 => ?_) (fun c21 => ?_)
    · refine lv_iconst (v := (nI 0)) hx hb dX5_isFull_28 (by decide) ?_
      exact z_retz hx hb hr hlocks rfl (bI_ff (by first | (simp only [fulB, c7, c21, if_true, if_false, eq_self, decide_true, decide_false, Bool.and_true, Bool.true_and, Bool.and_false, Bool.false_and, Bool.or_true, Bool.true_or, Bool.or_false, Bool.false_or, Bool.not_true, Bool.not_false, not_true_eq_false, not_false_eq_true, and_true, true_and, and_false, false_and, gt_iff_lt, ge_iff_le, ne_eq, Bool.false_eq_true]; done) | (simp [fulB, c7, c21]; done) | (simp_all [fulB, c7, c21]; done))) dX5_isFull_29
    · refine lv_iconst (v := (nI 1)) hx hb dX5_isFull_24 (by decide) ?_
      refine lv_goto (tgt := 29) hx hb dX5_isFull_25 (by decide) ?_
      exact z_retz hx hb hr hlocks rfl (bI_tt (by first | (simp only [fulB, c7, c21, if_true, if_false, eq_self, decide_true, decide_false, Bool.and_true, Bool.true_and, Bool.and_false, Bool.false_and, Bool.or_true, Bool.true_or, Bool.or_false, Bool.false_or, Bool.not_true, Bool.not_false, not_true_eq_false, not_false_eq_true, and_true, true_and, and_false, false_and, gt_iff_lt, ge_iff_le, ne_eq, Bool.false_eq_true]; done) | (simp [fulB, c7, c21]; done) | (simp_all [fulB, c7, c21]; done))) dX5_isFull_29
set_option maxRecDepth 100000 in
set_option maxHeartbeats 4000000 in
theorem c_X5_permit (l : Launch) (D : va_G) (y : zY) (m : Nat) (d : Nat → Int32) (p : Int32) (w : Int32) (hI : zI d) : Met l yX5_permit wsX5_permit ({ frames := 2, cells := 0, slots := 0, locals := 43 }) (zP [.ref m, .int p, .int w] (zM D y m d) D y) (zQ (some (.int (aPermit d p w)))) 0 0 nofree := by
  refine z_body (cc := cX5_permit) (maxL := 3) (ret := (some .int)) (la := [(0, .ref m), (1, .int p), (2, .int w)]) (by decide) rfl (Nat.le_of_ble_eq_true rfl) rfl ?_
  intro pg ev s mm below meth c0 ls hx hb hr hF hlocks hΦ hK hl _
  have hts := hF.2.2.2.2
  have hown : s.vm.findClass RX5 = some mm.cls := hF.2.2.2.1
  obtain ⟨⟨fs, hO⟩, hA⟩ := id hΦ
  have hG2 := hI.ng2
  have hC8 := hI.nc8
  refine lv_aload_n hx hb dX5_permit_0 rfl (lv_at hl 0 rfl) ?_
  refine lv_iload_n hx hb dX5_permit_1 rfl (lv_at hl 1 rfl) ?_
  refine z_callV (As := [.int p]) (rest := []) hF hK (c_X5_isPermit l D y m d p (hI)) (cwV 1 hts gX5_permit_X5_isPermit rfl rfl rfl (by decide +kernel) ⟨Nat.le_of_ble_eq_true rfl, Nat.le_of_ble_eq_true rfl⟩) (z_recv (q := (RX5, TX5, 9)) hK hO rfl) hΦ rfl hl.1 rfl (Nat.le_of_ble_eq_true rfl) dX5_permit_2 ⟨Nat.zero_le _, Nat.zero_le _⟩ ?_
  refine z_ifeq (tgt := 17) hx hb dX5_permit_5 (by decide) (fun c5 => ?_) (fun c5 => ?_)
  · refine lv_sipush (v := (-1001)) hx hb dX5_permit_17 (by decide) ?_
    exact z_reti hx hb hr hlocks rfl (by unfold aPermit; (first | rw [if_pos c5] | rw [if_neg c5] | rw [if_neg (bf c5)] | skip); try rfl) dX5_permit_20
  · refine lv_iload_n hx hb dX5_permit_8 rfl (lv_at hl 2 rfl) ?_
    refine lv_iconst (v := (nI 0)) hx hb dX5_permit_9 (by decide) ?_
    refine lv_iconst (v := (nI 5)) hx hb dX5_permit_10 (by decide) ?_
    refine z_callS (As := [.int w, .int (nI 0), .int (nI 5)]) (rest := []) hF hK (c_X5_in l D y w (nI 0) (nI 5) ) (va_cwS 3 hts gX5_permit_X5_in rfl rfl rfl (by decide +kernel) ⟨Nat.le_of_ble_eq_true rfl, Nat.le_of_ble_eq_true rfl⟩) trivial rfl hl.1 rfl (Nat.le_of_ble_eq_true rfl) dX5_permit_11 ⟨Nat.zero_le _, Nat.zero_le _⟩ ?_
    refine z_ifne (tgt := 21) hx hb dX5_permit_14 (by decide) (fun c14 => ?_) (fun c14 => ?_)
    · obtain ⟨j, hj, rfl⟩ := in_ng hI c5
      have ej : cl (nI j) = j := cl_nI (by omega)
      refine lv_iload_n hx hb dX5_permit_21 rfl (lv_at hl 2 rfl) ?_
      refine lv_iconst (v := (nI 4)) hx hb dX5_permit_22 (by decide) ?_
      refine lv_icmp_ge (tgt := 35) hx hb dX5_permit_23 (by decide) (fun c23 => ?_) (fun c23 => ?_)
      · refine lv_iload_n hx hb dX5_permit_35 rfl (lv_at hl 2 rfl) ?_
        refine lv_iconst (v := (nI 4)) hx hb dX5_permit_36 (by decide) ?_
        refine lv_icmp_ne (tgt := 48) hx hb dX5_permit_37 (by decide) (fun c37 => ?_) (fun c37 => ?_)
        · refine lv_aload_n hx hb dX5_permit_48 rfl (lv_at hl 0 rfl) ?_
          refine lv_iload_n hx hb dX5_permit_49 rfl (lv_at hl 1 rfl) ?_
          refine lv_iconst (v := (nI 4)) hx hb dX5_permit_50 (by decide) ?_
          refine z_callV (As := [.int (nI j), .int (nI 4)]) (rest := []) hF hK (c_X5_of l D y m d j 4 (by omega) (by omega)) (cwV 2 hts gX5_permit_X5_of rfl rfl rfl (by decide +kernel) ⟨Nat.le_of_ble_eq_true rfl, Nat.le_of_ble_eq_true rfl⟩) (z_recv (q := (RX5, TX5, 9)) hK hO rfl) hΦ rfl hl.1 rfl (Nat.le_of_ble_eq_true rfl) dX5_permit_51 ⟨Nat.zero_le _, Nat.zero_le _⟩ ?_
          exact z_reti hx hb hr hlocks rfl (by unfold aPermit; try simp only [ej]; (first | rw [if_pos c5] | rw [if_neg c5] | rw [if_neg (bf c5)] | skip); (first | rw [if_pos c14] | rw [if_neg c14] | rw [if_neg (bf c14)] | skip); (first | rw [if_pos c23] | rw [if_neg c23] | rw [if_neg (bf c23)] | skip); (first | rw [if_pos c37] | rw [if_neg c37] | rw [if_neg (bf c37)] | skip); try rfl) dX5_permit_54
        · refine lv_aload_n hx hb dX5_permit_40 rfl (lv_at hl 0 rfl) ?_
          refine lv_iload_n hx hb dX5_permit_41 rfl (lv_at hl 1 rfl) ?_
          refine z_callV (As := [.int (nI j)]) (rest := []) hF hK (c_X5_uses l D y m d j (hI) (by omega)) (cwV 1 hts gX5_permit_X5_uses rfl rfl rfl (by decide +kernel) ⟨Nat.le_of_ble_eq_true rfl, Nat.le_of_ble_eq_true rfl⟩) (z_recv (q := (RX5, TX5, 9)) hK hO rfl) hΦ rfl hl.1 rfl (Nat.le_of_ble_eq_true rfl) dX5_permit_42 ⟨Nat.zero_le _, Nat.zero_le _⟩ ?_
          refine lv_goto (tgt := 54) hx hb dX5_permit_45 (by decide) ?_
          exact z_reti hx hb hr hlocks rfl (by unfold aPermit; try simp only [ej]; (first | rw [if_pos c5] | rw [if_neg c5] | rw [if_neg (bf c5)] | skip); (first | rw [if_pos c14] | rw [if_neg c14] | rw [if_neg (bf c14)] | skip); (first | rw [if_pos c23] | rw [if_neg c23] | rw [if_neg (bf c23)] | skip); (first | rw [if_pos c37] | rw [if_neg c37] | rw [if_neg (bf c37)] | skip); try rfl) dX5_permit_54
      · obtain ⟨k, hk, rfl⟩ := inB_ltn (by decide) c14 c23
        have ek : cl (nI k) = k := cl_nI (by omega)
        refine lv_aload_n hx hb dX5_permit_26 rfl (lv_at hl 0 rfl) ?_
        refine lv_iload_n hx hb dX5_permit_27 rfl (lv_at hl 1 rfl) ?_
        refine lv_iload_n hx hb dX5_permit_28 rfl (lv_at hl 2 rfl) ?_
        refine z_callV (As := [.int (nI j), .int (nI k)]) (rest := []) hF hK (c_X5_of l D y m d j k (by omega) (by omega)) (cwV 2 hts gX5_permit_X5_of rfl rfl rfl (by decide +kernel) ⟨Nat.le_of_ble_eq_true rfl, Nat.le_of_ble_eq_true rfl⟩) (z_recv (q := (RX5, TX5, 9)) hK hO rfl) hΦ rfl hl.1 rfl (Nat.le_of_ble_eq_true rfl) dX5_permit_29 ⟨Nat.zero_le _, Nat.zero_le _⟩ ?_
        refine lv_goto (tgt := 54) hx hb dX5_permit_32 (by decide) ?_
        exact z_reti hx hb hr hlocks rfl (by unfold aPermit; try simp only [ej, ek]; (first | rw [if_pos c5] | rw [if_neg c5] | rw [if_neg (bf c5)] | skip); (first | rw [if_pos c14] | rw [if_neg c14] | rw [if_neg (bf c14)] | skip); (first | rw [if_pos c23] | rw [if_neg c23] | rw [if_neg (bf c23)] | skip); try rfl) dX5_permit_54
    · refine lv_sipush (v := (-1001)) hx hb dX5_permit_17 (by decide) ?_
      exact z_reti hx hb hr hlocks rfl (by unfold aPermit; (first | rw [if_pos c5] | rw [if_neg c5] | rw [if_neg (bf c5)] | skip); (first | rw [if_pos c14] | rw [if_neg c14] | rw [if_neg (bf c14)] | skip); try rfl) dX5_permit_20
set_option maxRecDepth 100000 in
set_option maxHeartbeats 4000000 in
theorem c_X5_isAhead (l : Launch) (D : va_G) (y : zY) (m : Nat) (d : Nat → Int32) (p : Nat) (q : Nat) (hp : p < 200) (hq : q < 200) : Met l yX5_isAhead wsX5_isAhead ({ frames := 1, cells := 0, slots := 0, locals := 22 }) (zP [.ref m, .int (nI p), .int (nI q)] (zM D y m d) D y) (zQ (some (.int (bI (ahdB d p q))))) 0 0 nofree := by
  refine z_body (cc := cX5_isAhead) (maxL := 5) (ret := (some .boolean)) (la := [(0, .ref m), (1, .int (nI p)), (2, .int (nI q))]) (by decide) rfl (Nat.le_of_ble_eq_true rfl) rfl ?_
  intro pg ev s mm below meth c0 ls hx hb hr hF hlocks hΦ hK hl _
  have hts := hF.2.2.2.2
  have hown : s.vm.findClass RX5 = some mm.cls := hF.2.2.2.1
  obtain ⟨⟨fs, hO⟩, hA⟩ := id hΦ
  refine lv_bipush (v := (nI 10)) hx hb dX5_isAhead_0 (by decide) ?_
  refine lv_aload_n hx hb dX5_isAhead_2 rfl (lv_at hl 0 rfl) ?_
  refine lv_iload_n hx hb dX5_isAhead_3 rfl (lv_at hl 1 rfl) ?_
  refine lv_iconst (v := (nI 1)) hx hb dX5_isAhead_4 (by decide) ?_
  refine z_callV (As := [.int (nI p), .int (nI 1)]) (rest := [.int (nI 10)]) hF hK (c_X5_of l D y m d p 1 (by omega) (by omega)) (cwV 2 hts gX5_isAhead_X5_of rfl rfl rfl (by decide +kernel) ⟨Nat.le_of_ble_eq_true rfl, Nat.le_of_ble_eq_true rfl⟩) (z_recv (q := (RX5, TX5, 9)) hK hO rfl) hΦ rfl hl.1 rfl (Nat.le_of_ble_eq_true rfl) dX5_isAhead_5 ⟨Nat.zero_le _, Nat.zero_le _⟩ ?_
  refine lv_imul hx hb dX5_isAhead_8 ?_
  refine lv_aload_n hx hb dX5_isAhead_9 rfl (lv_at hl 0 rfl) ?_
  refine lv_iload_n hx hb dX5_isAhead_10 rfl (lv_at hl 1 rfl) ?_
  refine lv_iconst (v := (nI 2)) hx hb dX5_isAhead_11 (by decide) ?_
  refine z_callV (As := [.int (nI p), .int (nI 2)]) (rest := [.int ((nI 10) * (pm d p 1))]) hF hK (c_X5_of l D y m d p 2 (by omega) (by omega)) (cwV 2 hts gX5_isAhead_X5_of rfl rfl rfl (by decide +kernel) ⟨Nat.le_of_ble_eq_true rfl, Nat.le_of_ble_eq_true rfl⟩) (z_recv (q := (RX5, TX5, 9)) hK hO rfl) hΦ rfl hl.1 rfl (Nat.le_of_ble_eq_true rfl) dX5_isAhead_12 ⟨Nat.zero_le _, Nat.zero_le _⟩ ?_
  refine lv_bipush (v := (nI 10)) hx hb dX5_isAhead_15 (by decide) ?_
  refine lv_idiv hx hb dX5_isAhead_17 (by decide) ?_
  refine lv_iadd hx hb dX5_isAhead_18 ?_
  refine lv_istore_n (lv' := [(3, .int (((nI 10) * (pm d p 1)) + ((pm d p 2) / (nI 10)))), (0, .ref m), (1, .int (nI p)), (2, .int (nI q))]) hx hb dX5_isAhead_19 rfl hl (by decide) rfl (fun ls hl => ?_)
  refine lv_bipush (v := (nI 10)) hx hb dX5_isAhead_20 (by decide) ?_
  refine lv_aload_n hx hb dX5_isAhead_22 rfl (lv_at hl 1 rfl) ?_
  refine lv_iload_n hx hb dX5_isAhead_23 rfl (lv_at hl 3 rfl) ?_
  refine lv_iconst (v := (nI 1)) hx hb dX5_isAhead_24 (by decide) ?_
  refine z_callV (As := [.int (nI q), .int (nI 1)]) (rest := [.int (nI 10)]) hF hK (c_X5_of l D y m d q 1 (by omega) (by omega)) (cwV 2 hts gX5_isAhead_X5_of rfl rfl rfl (by decide +kernel) ⟨Nat.le_of_ble_eq_true rfl, Nat.le_of_ble_eq_true rfl⟩) (z_recv (q := (RX5, TX5, 9)) hK hO rfl) hΦ rfl hl.1 rfl (Nat.le_of_ble_eq_true rfl) dX5_isAhead_25 ⟨Nat.zero_le _, Nat.zero_le _⟩ ?_
  refine lv_imul hx hb dX5_isAhead_28 ?_
  refine lv_aload_n hx hb dX5_isAhead_29 rfl (lv_at hl 1 rfl) ?_
  refine lv_iload_n hx hb dX5_isAhead_30 rfl (lv_at hl 3 rfl) ?_
  refine lv_iconst (v := (nI 2)) hx hb dX5_isAhead_31 (by decide) ?_
  refine z_callV (As := [.int (nI q), .int (nI 2)]) (rest := [.int ((nI 10) * (pm d q 1))]) hF hK (c_X5_of l D y m d q 2 (by omega) (by omega)) (cwV 2 hts gX5_isAhead_X5_of rfl rfl rfl (by decide +kernel) ⟨Nat.le_of_ble_eq_true rfl, Nat.le_of_ble_eq_true rfl⟩) (z_recv (q := (RX5, TX5, 9)) hK hO rfl) hΦ rfl hl.1 rfl (Nat.le_of_ble_eq_true rfl) dX5_isAhead_32 ⟨Nat.zero_le _, Nat.zero_le _⟩ ?_
  refine lv_bipush (v := (nI 10)) hx hb dX5_isAhead_35 (by decide) ?_
  refine lv_idiv hx hb dX5_isAhead_37 (by decide) ?_
  refine lv_iadd hx hb dX5_isAhead_38 ?_
  refine lv_istore (lv' := [(4, .int (((nI 10) * (pm d q 1)) + ((pm d q 2) / (nI 10)))), (3, .int (((nI 10) * (pm d p 1)) + ((pm d p 2) / (nI 10)))), (0, .ref m), (1, .int (nI p)), (2, .int (nI q))]) hx hb dX5_isAhead_39 hl (by decide) rfl (fun ls hl => ?_)
  refine lv_iload_n hx hb dX5_isAhead_41 rfl (lv_at hl 1 rfl) ?_
  refine lv_iload hx hb dX5_isAhead_42 (lv_at hl 0 rfl) ?_
  refine lv_icmp_lt (tgt := 58) hx hb dX5_isAhead_44 (by decide) (fun c44 => ?_) (fun c44 => ?_)
  · refine lv_iconst (v := (nI 1)) hx hb dX5_isAhead_58 (by decide) ?_
    refine lv_goto (tgt := 63) hx hb dX5_isAhead_59 (by decide) ?_
    exact z_retz hx hb hr hlocks rfl (bI_tt (by unfold ahdB; first | (rw [decide_eq_true c44]; rfl) | (rw [decide_eq_true c50, decide_eq_true c55]; exact Bool.or_true _))) dX5_isAhead_63
  · refine lv_iload_n hx hb dX5_isAhead_47 rfl (lv_at hl 1 rfl) ?_
    refine lv_iload hx hb dX5_isAhead_48 (lv_at hl 0 rfl) ?_
    refine lv_icmp_ne (tgt := 62) hx hb dX5_isAhead_50 (by decide) (fun c50 => ?_) (fun c50 => ?_)
    · refine lv_iconst (v := (nI 0)) hx hb dX5_isAhead_62 (by decide) ?_
      exact z_retz hx hb hr hlocks rfl (bI_ff (by unfold ahdB; first | (rw [decide_eq_false c44, decide_eq_false c50]; rfl) | (rw [decide_eq_false c44, decide_eq_false (Nat.not_lt.mpr c55), Bool.and_false]; rfl))) dX5_isAhead_63
    · refine lv_iload_n hx hb dX5_isAhead_53 rfl (lv_at hl 3 rfl) ?_
      refine lv_iload_n hx hb dX5_isAhead_54 rfl (lv_at hl 4 rfl) ?_
      refine z_ge (tgt := 62) hx hb (by omega) (by omega) dX5_isAhead_55 (by decide) (fun c55 => ?_) (fun c55 => ?_)
      · refine lv_iconst (v := (nI 0)) hx hb dX5_isAhead_62 (by decide) ?_
        exact z_retz hx hb hr hlocks rfl (bI_ff (by unfold ahdB; first | (rw [decide_eq_false c44, decide_eq_false c50]; rfl) | (rw [decide_eq_false c44, decide_eq_false (Nat.not_lt.mpr c55), Bool.and_false]; rfl))) dX5_isAhead_63
      · refine lv_iconst (v := (nI 1)) hx hb dX5_isAhead_58 (by decide) ?_
        refine lv_goto (tgt := 63) hx hb dX5_isAhead_59 (by decide) ?_
        exact z_retz hx hb hr hlocks rfl (bI_tt (by unfold ahdB; first | (rw [decide_eq_true c44]; rfl) | (rw [decide_eq_true c50, decide_eq_true c55]; exact Bool.or_true _))) dX5_isAhead_63
theorem iX5_inOrder_X5 : ∀ w ∈ wsX50, w ∈ wsX5_inOrder := fun w h => (List.mem_cons_of_mem _ (List.mem_append_right _ h))
set_option maxRecDepth 100000 in
set_option maxHeartbeats 4000000 in
theorem c_X5_inOrder (l : Launch) (D : va_G) (y : zY) (m : Nat) (d : Nat → Int32) (x : Int32) (hI : zI d) : Met l yX5_inOrder wsX5_inOrder ({ frames := 2, cells := 0, slots := 0, locals := 46 }) (zP [.ref m, .int x] (zM D y m d) D y) (zQ (some (.int (aInOrder d x)))) 0 0 nofree := by
  refine z_body (cc := cX5_inOrder) (maxL := 5) (ret := (some .int)) (la := [(0, .ref m), (1, .int x)]) (by decide) rfl (Nat.le_of_ble_eq_true rfl) rfl ?_
  intro pg ev s mm below meth c0 ls hx hb hr hF hlocks hΦ hK hl _
  have hts := hF.2.2.2.2
  have hown : s.vm.findClass RX5 = some mm.cls := hF.2.2.2.1
  obtain ⟨⟨fs, hO⟩, hA⟩ := id hΦ
  have hG2 := hI.ng2
  have hC8 := hI.nc8
  refine lv_iload_n hx hb dX5_inOrder_0 rfl (lv_at hl 1 rfl) ?_
  refine lv_if_ge (tgt := 8) hx hb dX5_inOrder_1 (by decide) (fun c1 => ?_) (fun c1 => ?_)
  · refine lv_iconst (v := (nI 0)) hx hb dX5_inOrder_8 (by decide) ?_
    refine lv_istore_n (lv' := [(2, .int (nI 0)), (0, .ref m), (1, .int x)]) hx hb dX5_inOrder_9 rfl hl (by decide) rfl (fun ls hl => ?_)
    refine z_loop (S := Nat) (nL := 5) (fun (i : Nat) => nG d - i) (fun (i : Nat) => [(2, .int (nI i)), (0, .ref m), (1, .int x)]) (fun (i : Nat) => i ≤ nG d ∧ ∀ j, j < i → ordP d x j = false) 0 (⟨Nat.zero_le _, fun j hj => absurd hj (Nat.not_lt_zero j)⟩) (lv_sub hl [0, 1, 2] rfl) ?_
    clear hl
    rintro i ls hI_10 hl ih_10
    obtain ⟨hi, hall⟩ := hI_10
    refine lv_iload_n hx hb dX5_inOrder_10 rfl (lv_at hl 0 rfl) ?_
    refine lv_aload_n hx hb dX5_inOrder_11 rfl (lv_at hl 1 rfl) ?_
    refine z_get (fs := (.ref (m + 1) :: fs)) (ref := "CranePermitsModel") (C := RX5) (T := TX5) (N := 9) (ci := 5) (v := .ref (m + 1)) hx hb hts iX5_inOrder_X5 hown hK hO 0 (by decide) rfl (hts (.fieldLink RX5 7 "CranePermitsModel" "d" "[I") (List.mem_of_getElem? (i := 1) rfl)) rfl rfl dX5_inOrder_12 ?_
    refine lv_sipush (v := (nI 442)) hx hb dX5_inOrder_15 (by decide) ?_
    refine z_iald (f := d) hx hb hK hA (by omega) (by decide) dX5_inOrder_18 ?_
    refine z_topi (z := (nI (nG d))) (hI.ng) ?_
    refine z_ge (tgt := 98) hx hb (by omega) (by omega) dX5_inOrder_19 (by decide) (fun c19 => ?_) (fun c19 => ?_)
    · refine lv_sipush (v := (-1004)) hx hb dX5_inOrder_98 (by decide) ?_
      exact z_reti hx hb hr hlocks rfl (by unfold aInOrder; rw [if_pos c1, fst_n (fun j hj => hall j (by omega))]; rfl) dX5_inOrder_101
    · refine lv_iconst (v := (nI 0)) hx hb dX5_inOrder_22 (by decide) ?_
      refine lv_istore_n (lv' := [(3, .int (nI 0)), (2, .int (nI i)), (0, .ref m), (1, .int x)]) hx hb dX5_inOrder_23 rfl hl (by decide) rfl (fun ls hl => ?_)
      refine lv_iconst (v := (nI 0)) hx hb dX5_inOrder_24 (by decide) ?_
      refine lv_istore (lv' := [(4, .int (nI 0)), (3, .int (nI 0)), (2, .int (nI i)), (0, .ref m), (1, .int x)]) hx hb dX5_inOrder_25 hl (by decide) rfl (fun ls hl => ?_)
      have hl := lv_repl (l' := [(4, .int (nI 0)), (3, .int (sumN (ordF d i) 0)), (2, .int (nI i)), (0, .ref m), (1, .int x)]) hl 1 rfl (rfl) rfl
      refine z_loop (S := Nat) (nL := 5) (fun (q : Nat) => nG d - q) (fun (q : Nat) => [(4, .int (nI q)), (3, .int (sumN (ordF d i) q)), (2, .int (nI i)), (0, .ref m), (1, .int x)]) (fun (q : Nat) => q ≤ nG d) 0 (by omega) (lv_sub hl [0, 1, 2, 3, 4] rfl) ?_
      clear hl
      rintro q ls hI_27 hl ih_27
      have hq := hI_27
      refine lv_iload hx hb dX5_inOrder_27 (lv_at hl 0 rfl) ?_
      refine lv_aload_n hx hb dX5_inOrder_29 rfl (lv_at hl 3 rfl) ?_
      refine z_get (fs := (.ref (m + 1) :: fs)) (ref := "CranePermitsModel") (C := RX5) (T := TX5) (N := 9) (ci := 5) (v := .ref (m + 1)) hx hb hts iX5_inOrder_X5 hown hK hO 0 (by decide) rfl (hts (.fieldLink RX5 7 "CranePermitsModel" "d" "[I") (List.mem_of_getElem? (i := 1) rfl)) rfl rfl dX5_inOrder_30 ?_
      refine lv_sipush (v := (nI 442)) hx hb dX5_inOrder_33 (by decide) ?_
      refine z_iald (f := d) hx hb hK hA (by omega) (by decide) dX5_inOrder_36 ?_
      refine z_topi (z := (nI (nG d))) (hI.ng) ?_
      refine z_ge (tgt := 75) hx hb (by omega) (by omega) dX5_inOrder_37 (by decide) (fun c37 => ?_) (fun c37 => ?_)
      · refine lv_aload_n hx hb dX5_inOrder_75 rfl (lv_at hl 3 rfl) ?_
        refine lv_iload_n hx hb dX5_inOrder_76 rfl (lv_at hl 2 rfl) ?_
        refine lv_iconst (v := (nI 4)) hx hb dX5_inOrder_77 (by decide) ?_
        refine z_callV (As := [.int (nI i), .int (nI 4)]) (rest := []) hF hK (c_X5_of l D y m d i 4 (by omega) (by omega)) (cwV 2 hts gX5_inOrder_X5_of rfl rfl rfl (by decide +kernel) ⟨Nat.le_of_ble_eq_true rfl, Nat.le_of_ble_eq_true rfl⟩) (z_recv (q := (RX5, TX5, 9)) hK hO rfl) hΦ rfl hl.1 rfl (Nat.le_of_ble_eq_true rfl) dX5_inOrder_78 ⟨Nat.zero_le _, Nat.zero_le _⟩ ?_
        refine lv_iconst (v := (nI 1)) hx hb dX5_inOrder_81 (by decide) ?_
        refine lv_icmp_ne (tgt := 92) hx hb dX5_inOrder_82 (by decide) (fun c82 => ?_) (fun c82 => ?_)
        · refine lv_iinc (v := (nI (i + 1))) (lv' := [(2, .int (nI (i + 1))), (4, .int (nI q)), (3, .int (sumN (ordF d i) q)), (0, .ref m), (1, .int x)]) hx hb dX5_inOrder_92 hl (k := 2) rfl (in1 _) (by decide) rfl (fun ls hl => ?_)
          refine lv_goto (tgt := 10) hx hb dX5_inOrder_95 (by decide) ?_
          exact ih_10 (i + 1) _ (by omega) (by refine ⟨by omega, lt_sc hall ?_⟩; unfold ordP; rw [show nG d = q by omega]; first | (rw [decide_eq_false c82]; rfl) | (rw [decide_eq_false c87]; exact Bool.and_false _)) (lv_sub hl [0, 3, 4] rfl)
        · refine lv_iload_n hx hb dX5_inOrder_85 rfl (lv_at hl 1 rfl) ?_
          refine lv_iload_n hx hb dX5_inOrder_86 rfl (lv_at hl 4 rfl) ?_
          refine lv_icmp_ne (tgt := 92) hx hb dX5_inOrder_87 (by decide) (fun c87 => ?_) (fun c87 => ?_)
          · refine lv_iinc (v := (nI (i + 1))) (lv' := [(2, .int (nI (i + 1))), (4, .int (nI q)), (3, .int (sumN (ordF d i) q)), (0, .ref m), (1, .int x)]) hx hb dX5_inOrder_92 hl (k := 2) rfl (in1 _) (by decide) rfl (fun ls hl => ?_)
            refine lv_goto (tgt := 10) hx hb dX5_inOrder_95 (by decide) ?_
            exact ih_10 (i + 1) _ (by omega) (by refine ⟨by omega, lt_sc hall ?_⟩; unfold ordP; rw [show nG d = q by omega]; first | (rw [decide_eq_false c82]; rfl) | (rw [decide_eq_false c87]; exact Bool.and_false _)) (lv_sub hl [0, 3, 4] rfl)
          · refine lv_iload_n hx hb dX5_inOrder_90 rfl (lv_at hl 2 rfl) ?_
            exact z_reti hx hb hr hlocks rfl (by unfold aInOrder; rw [if_pos c1, fst_s (show ordP d x i = true by unfold ordP; rw [show nG d = q by omega, decide_eq_true c82, decide_eq_true c87]; rfl) hall (by omega)]; rfl) dX5_inOrder_91
      · refine lv_iload_n hx hb dX5_inOrder_40 rfl (lv_at hl 1 rfl) ?_
        refine lv_aload_n hx hb dX5_inOrder_41 rfl (lv_at hl 3 rfl) ?_
        refine lv_iload hx hb dX5_inOrder_42 (lv_at hl 0 rfl) ?_
        refine lv_iconst (v := (nI 4)) hx hb dX5_inOrder_44 (by decide) ?_
        refine z_callV (As := [.int (nI q), .int (nI 4)]) (rest := [.int (sumN (ordF d i) q)]) hF hK (c_X5_of l D y m d q 4 (by omega) (by omega)) (cwV 2 hts gX5_inOrder_X5_of rfl rfl rfl (by decide +kernel) ⟨Nat.le_of_ble_eq_true rfl, Nat.le_of_ble_eq_true rfl⟩) (z_recv (q := (RX5, TX5, 9)) hK hO rfl) hΦ rfl hl.1 rfl (Nat.le_of_ble_eq_true rfl) dX5_inOrder_45 ⟨Nat.zero_le _, Nat.zero_le _⟩ ?_
        refine lv_iconst (v := (nI 1)) hx hb dX5_inOrder_48 (by decide) ?_
        refine lv_icmp_ne (tgt := 66) hx hb dX5_inOrder_49 (by decide) (fun c49 => ?_) (fun c49 => ?_)
        · refine lv_iconst (v := (nI 0)) hx hb dX5_inOrder_66 (by decide) ?_
          refine lv_iadd hx hb dX5_inOrder_67 ?_
          refine lv_istore_n (lv' := [(3, .int ((sumN (ordF d i) q) + (nI 0))), (4, .int (nI q)), (2, .int (nI i)), (0, .ref m), (1, .int x)]) hx hb dX5_inOrder_68 rfl hl (by decide) rfl (fun ls hl => ?_)
          refine lv_iinc (v := (nI (q + 1))) (lv' := [(4, .int (nI (q + 1))), (3, .int ((sumN (ordF d i) q) + (nI 0))), (2, .int (nI i)), (0, .ref m), (1, .int x)]) hx hb dX5_inOrder_69 hl (k := 1) rfl (in1 _) (by decide) rfl (fun ls hl => ?_)
          refine lv_goto (tgt := 27) hx hb dX5_inOrder_72 (by decide) ?_
          have hl := lv_repl (l' := [(4, .int (nI (q + 1))), (3, .int (sumN (ordF d i) (q + 1))), (2, .int (nI i)), (0, .ref m), (1, .int x)]) hl 1 rfl (by rw [sumN_s, ordF]; first | (rw [if_neg c49]; done) | (rw [if_pos c49, if_pos c59]; done) | (rw [if_pos c49, if_neg (bf c59)]; done)) rfl
          exact ih_27 (q + 1) _ (by omega) (by omega) (lv_sub hl [0, 1, 2, 3, 4] rfl)
        · refine lv_aload_n hx hb dX5_inOrder_52 rfl (lv_at hl 3 rfl) ?_
          refine lv_iload hx hb dX5_inOrder_53 (lv_at hl 0 rfl) ?_
          refine lv_iload_n hx hb dX5_inOrder_55 rfl (lv_at hl 2 rfl) ?_
          refine z_callV (As := [.int (nI q), .int (nI i)]) (rest := [.int (sumN (ordF d i) q)]) hF hK (c_X5_isAhead l D y m d q i (by omega) (by omega)) (cwV 2 hts gX5_inOrder_X5_isAhead rfl rfl rfl (by decide +kernel) ⟨Nat.le_of_ble_eq_true rfl, Nat.le_of_ble_eq_true rfl⟩) (z_recv (q := (RX5, TX5, 9)) hK hO rfl) hΦ rfl hl.1 rfl (Nat.le_of_ble_eq_true rfl) dX5_inOrder_56 ⟨Nat.zero_le _, Nat.zero_le _⟩ ?_
          refine z_ifeq (tgt := 66) hx hb dX5_inOrder_59 (by decide) (fun c59 => ?_) (fun c59 => ?_)
          · refine lv_iconst (v := (nI 0)) hx hb dX5_inOrder_66 (by decide) ?_
            refine lv_iadd hx hb dX5_inOrder_67 ?_
            refine lv_istore_n (lv' := [(3, .int ((sumN (ordF d i) q) + (nI 0))), (4, .int (nI q)), (2, .int (nI i)), (0, .ref m), (1, .int x)]) hx hb dX5_inOrder_68 rfl hl (by decide) rfl (fun ls hl => ?_)
            refine lv_iinc (v := (nI (q + 1))) (lv' := [(4, .int (nI (q + 1))), (3, .int ((sumN (ordF d i) q) + (nI 0))), (2, .int (nI i)), (0, .ref m), (1, .int x)]) hx hb dX5_inOrder_69 hl (k := 1) rfl (in1 _) (by decide) rfl (fun ls hl => ?_)
            refine lv_goto (tgt := 27) hx hb dX5_inOrder_72 (by decide) ?_
            have hl := lv_repl (l' := [(4, .int (nI (q + 1))), (3, .int (sumN (ordF d i) (q + 1))), (2, .int (nI i)), (0, .ref m), (1, .int x)]) hl 1 rfl (by rw [sumN_s, ordF]; first | (rw [if_neg c49]; done) | (rw [if_pos c49, if_pos c59]; done) | (rw [if_pos c49, if_neg (bf c59)]; done)) rfl
            exact ih_27 (q + 1) _ (by omega) (by omega) (lv_sub hl [0, 1, 2, 3, 4] rfl)
          · refine lv_iconst (v := (nI 1)) hx hb dX5_inOrder_62 (by decide) ?_
            refine lv_goto (tgt := 67) hx hb dX5_inOrder_63 (by decide) ?_
            refine lv_iadd hx hb dX5_inOrder_67 ?_
            refine lv_istore_n (lv' := [(3, .int ((sumN (ordF d i) q) + (nI 1))), (4, .int (nI q)), (2, .int (nI i)), (0, .ref m), (1, .int x)]) hx hb dX5_inOrder_68 rfl hl (by decide) rfl (fun ls hl => ?_)
            refine lv_iinc (v := (nI (q + 1))) (lv' := [(4, .int (nI (q + 1))), (3, .int ((sumN (ordF d i) q) + (nI 1))), (2, .int (nI i)), (0, .ref m), (1, .int x)]) hx hb dX5_inOrder_69 hl (k := 1) rfl (in1 _) (by decide) rfl (fun ls hl => ?_)
            refine lv_goto (tgt := 27) hx hb dX5_inOrder_72 (by decide) ?_
            have hl := lv_repl (l' := [(4, .int (nI (q + 1))), (3, .int (sumN (ordF d i) (q + 1))), (2, .int (nI i)), (0, .ref m), (1, .int x)]) hl 1 rfl (by rw [sumN_s, ordF]; first | (rw [if_neg c49]; done) | (rw [if_pos c49, if_pos c59]; done) | (rw [if_pos c49, if_neg (bf c59)]; done)) rfl
            exact ih_27 (q + 1) _ (by omega) (by omega) (lv_sub hl [0, 1, 2, 3, 4] rfl)
  · refine lv_sipush (v := (-1001)) hx hb dX5_inOrder_4 (by decide) ?_
    exact z_reti hx hb hr hlocks rfl (by unfold aInOrder; rw [if_neg c1]) dX5_inOrder_7
set_option maxRecDepth 100000 in
set_option maxHeartbeats 4000000 in
theorem c_X5_shares (l : Launch) (D : va_G) (y : zY) (m : Nat) (d : Nat → Int32) (p : Int32) (q : Int32) (hI : zI d) : Met l yX5_shares wsX5_shares ({ frames := 4, cells := 0, slots := 0, locals := 100 }) (zP [.ref m, .int p, .int q] (zM D y m d) D y) (zQ (some (.int (aShares d p q)))) 0 0 nofree := by
  refine z_body (cc := cX5_shares) (maxL := 3) (ret := (some .int)) (la := [(0, .ref m), (1, .int p), (2, .int q)]) (by decide) rfl (Nat.le_of_ble_eq_true rfl) rfl ?_
  intro pg ev s mm below meth c0 ls hx hb hr hF hlocks hΦ hK hl _
  have hts := hF.2.2.2.2
  have hown : s.vm.findClass RX5 = some mm.cls := hF.2.2.2.1
  obtain ⟨⟨fs, hO⟩, hA⟩ := id hΦ
  have hG2 := hI.ng2
  have hC8 := hI.nc8
  refine lv_aload_n hx hb dX5_shares_0 rfl (lv_at hl 0 rfl) ?_
  refine lv_iload_n hx hb dX5_shares_1 rfl (lv_at hl 1 rfl) ?_
  refine z_callV (As := [.int p]) (rest := []) hF hK (c_X5_isPermit l D y m d p (hI)) (cwV 1 hts gX5_shares_X5_isPermit rfl rfl rfl (by decide +kernel) ⟨Nat.le_of_ble_eq_true rfl, Nat.le_of_ble_eq_true rfl⟩) (z_recv (q := (RX5, TX5, 9)) hK hO rfl) hΦ rfl hl.1 rfl (Nat.le_of_ble_eq_true rfl) dX5_shares_2 ⟨Nat.zero_le _, Nat.zero_le _⟩ ?_
  refine z_ifeq (tgt := 16) hx hb dX5_shares_5 (by decide) (fun c5 => ?_) (fun c5 => ?_)
  · refine lv_sipush (v := (-1001)) hx hb dX5_shares_16 (by decide) ?_
    exact z_reti hx hb hr hlocks rfl (by unfold aShares; (first | rw [if_pos c5] | rw [if_neg c5] | rw [if_neg (bf c5)] | skip); try rfl) dX5_shares_19
  · refine lv_aload_n hx hb dX5_shares_8 rfl (lv_at hl 0 rfl) ?_
    refine lv_iload_n hx hb dX5_shares_9 rfl (lv_at hl 2 rfl) ?_
    refine z_callV (As := [.int q]) (rest := []) hF hK (c_X5_isPermit l D y m d q (hI)) (cwV 1 hts gX5_shares_X5_isPermit rfl rfl rfl (by decide +kernel) ⟨Nat.le_of_ble_eq_true rfl, Nat.le_of_ble_eq_true rfl⟩) (z_recv (q := (RX5, TX5, 9)) hK hO rfl) hΦ rfl hl.1 rfl (Nat.le_of_ble_eq_true rfl) dX5_shares_10 ⟨Nat.zero_le _, Nat.zero_le _⟩ ?_
    refine z_ifne (tgt := 20) hx hb dX5_shares_13 (by decide) (fun c13 => ?_) (fun c13 => ?_)
    · obtain ⟨j, hj, rfl⟩ := in_ng hI c5
      have ej : cl (nI j) = j := cl_nI (by omega)
      obtain ⟨k, hk, rfl⟩ := in_ng hI c13
      have ek : cl (nI k) = k := cl_nI (by omega)
      have hp8 := hI.pc8 hj
      refine lv_aload_n hx hb dX5_shares_20 rfl (lv_at hl 0 rfl) ?_
      refine lv_aload_n hx hb dX5_shares_21 rfl (lv_at hl 0 rfl) ?_
      refine lv_iload_n hx hb dX5_shares_22 rfl (lv_at hl 1 rfl) ?_
      refine lv_iconst (v := (nI 0)) hx hb dX5_shares_23 (by decide) ?_
      refine z_callV (As := [.int (nI j), .int (nI 0)]) (rest := [.ref m]) hF hK (c_X5_of l D y m d j 0 (by omega) (by omega)) (cwV 2 hts gX5_shares_X5_of rfl rfl rfl (by decide +kernel) ⟨Nat.le_of_ble_eq_true rfl, Nat.le_of_ble_eq_true rfl⟩) (z_recv (q := (RX5, TX5, 9)) hK hO rfl) hΦ rfl hl.1 rfl (Nat.le_of_ble_eq_true rfl) dX5_shares_24 ⟨Nat.zero_le _, Nat.zero_le _⟩ ?_
      refine z_topi (z := (nI (pC d j))) (hI.pc (by omega)) ?_
      refine lv_aload_n hx hb dX5_shares_27 rfl (lv_at hl 0 rfl) ?_
      refine lv_iload_n hx hb dX5_shares_28 rfl (lv_at hl 1 rfl) ?_
      refine lv_iconst (v := (nI 1)) hx hb dX5_shares_29 (by decide) ?_
      refine z_callV (As := [.int (nI j), .int (nI 1)]) (rest := [.int (nI (pC d j)), .ref m]) hF hK (c_X5_of l D y m d j 1 (by omega) (by omega)) (cwV 2 hts gX5_shares_X5_of rfl rfl rfl (by decide +kernel) ⟨Nat.le_of_ble_eq_true rfl, Nat.le_of_ble_eq_true rfl⟩) (z_recv (q := (RX5, TX5, 9)) hK hO rfl) hΦ rfl hl.1 rfl (Nat.le_of_ble_eq_true rfl) dX5_shares_30 ⟨Nat.zero_le _, Nat.zero_le _⟩ ?_
      refine lv_aload_n hx hb dX5_shares_33 rfl (lv_at hl 0 rfl) ?_
      refine lv_iload_n hx hb dX5_shares_34 rfl (lv_at hl 1 rfl) ?_
      refine lv_iconst (v := (nI 2)) hx hb dX5_shares_35 (by decide) ?_
      refine z_callV (As := [.int (nI j), .int (nI 2)]) (rest := [.int (pm d j 1), .int (nI (pC d j)), .ref m]) hF hK (c_X5_of l D y m d j 2 (by omega) (by omega)) (cwV 2 hts gX5_shares_X5_of rfl rfl rfl (by decide +kernel) ⟨Nat.le_of_ble_eq_true rfl, Nat.le_of_ble_eq_true rfl⟩) (z_recv (q := (RX5, TX5, 9)) hK hO rfl) hΦ rfl hl.1 rfl (Nat.le_of_ble_eq_true rfl) dX5_shares_36 ⟨Nat.zero_le _, Nat.zero_le _⟩ ?_
      refine lv_aload_n hx hb dX5_shares_39 rfl (lv_at hl 0 rfl) ?_
      refine lv_iload_n hx hb dX5_shares_40 rfl (lv_at hl 1 rfl) ?_
      refine lv_iconst (v := (nI 3)) hx hb dX5_shares_41 (by decide) ?_
      refine z_callV (As := [.int (nI j), .int (nI 3)]) (rest := [.int (pm d j 2), .int (pm d j 1), .int (nI (pC d j)), .ref m]) hF hK (c_X5_of l D y m d j 3 (by omega) (by omega)) (cwV 2 hts gX5_shares_X5_of rfl rfl rfl (by decide +kernel) ⟨Nat.le_of_ble_eq_true rfl, Nat.le_of_ble_eq_true rfl⟩) (z_recv (q := (RX5, TX5, 9)) hK hO rfl) hΦ rfl hl.1 rfl (Nat.le_of_ble_eq_true rfl) dX5_shares_42 ⟨Nat.zero_le _, Nat.zero_le _⟩ ?_
      refine lv_iload_n hx hb dX5_shares_45 rfl (lv_at hl 2 rfl) ?_
      refine z_callV (As := [.int (nI (pC d j)), .int (pm d j 1), .int (pm d j 2), .int (pm d j 3), .int (nI k)]) (rest := []) hF hK (c_X5_air l D y m d (pC d j) (pm d j 1) (pm d j 2) (pm d j 3) k (hI) (by omega) (by omega)) (cwV 5 hts gX5_shares_X5_air rfl rfl rfl (by decide +kernel) ⟨Nat.le_of_ble_eq_true rfl, Nat.le_of_ble_eq_true rfl⟩) (z_recv (q := (RX5, TX5, 9)) hK hO rfl) hΦ rfl hl.1 rfl (Nat.le_of_ble_eq_true rfl) dX5_shares_46 ⟨Nat.zero_le _, Nat.zero_le _⟩ ?_
      refine z_ifeq (tgt := 56) hx hb dX5_shares_49 (by decide) (fun c49 => ?_) (fun c49 => ?_)
      · refine lv_iconst (v := (nI 0)) hx hb dX5_shares_56 (by decide) ?_
        exact z_reti hx hb hr hlocks rfl (by unfold aShares; try simp only [ej, ek]; (first | rw [if_pos c5] | rw [if_neg c5] | rw [if_neg (bf c5)] | skip); (first | rw [if_pos c13] | rw [if_neg c13] | rw [if_neg (bf c13)] | skip); (first | rw [if_pos c49] | rw [if_neg c49] | rw [if_neg (bf c49)] | skip); try rfl) dX5_shares_57
      · refine lv_iconst (v := (nI 1)) hx hb dX5_shares_52 (by decide) ?_
        refine lv_goto (tgt := 57) hx hb dX5_shares_53 (by decide) ?_
        exact z_reti hx hb hr hlocks rfl (by unfold aShares; try simp only [ej, ek]; (first | rw [if_pos c5] | rw [if_neg c5] | rw [if_neg (bf c5)] | skip); (first | rw [if_pos c13] | rw [if_neg c13] | rw [if_neg (bf c13)] | skip); (first | rw [if_pos c49] | rw [if_neg c49] | rw [if_neg (bf c49)] | skip); try rfl) dX5_shares_57
    · refine lv_sipush (v := (-1001)) hx hb dX5_shares_16 (by decide) ?_
      exact z_reti hx hb hr hlocks rfl (by unfold aShares; (first | rw [if_pos c5] | rw [if_neg c5] | rw [if_neg (bf c5)] | skip); (first | rw [if_pos c13] | rw [if_neg c13] | rw [if_neg (bf c13)] | skip); try rfl) dX5_shares_19
set_option maxRecDepth 100000 in
set_option maxHeartbeats 4000000 in
theorem c_X5_inTheWay (l : Launch) (D : va_G) (y : zY) (m : Nat) (d : Nat → Int32) (c : Int32) (n : Int32) (h : Int32) (sw : Int32) (hI : zI d) : Met l yX5_inTheWay wsX5_inTheWay ({ frames := 5, cells := 0, slots := 0, locals := 125 }) (zP [.ref m, .int c, .int n, .int h, .int sw] (zM D y m d) D y) (zQ (some (.int (aInTheWay d c n h sw)))) 0 0 nofree := by
  refine z_body (cc := cX5_inTheWay) (maxL := 6) (ret := (some .int)) (la := [(0, .ref m), (1, .int c), (2, .int n), (3, .int h), (4, .int sw)]) (by decide) rfl (Nat.le_of_ble_eq_true rfl) rfl ?_
  intro pg ev s mm below meth c0 ls hx hb hr hF hlocks hΦ hK hl _
  have hts := hF.2.2.2.2
  have hown : s.vm.findClass RX5 = some mm.cls := hF.2.2.2.1
  obtain ⟨⟨fs, hO⟩, hA⟩ := id hΦ
  have hG2 := hI.ng2
  have hC8 := hI.nc8
  refine lv_aload_n hx hb dX5_inTheWay_0 rfl (lv_at hl 0 rfl) ?_
  refine lv_iload_n hx hb dX5_inTheWay_1 rfl (lv_at hl 1 rfl) ?_
  refine lv_iload_n hx hb dX5_inTheWay_2 rfl (lv_at hl 2 rfl) ?_
  refine lv_iload_n hx hb dX5_inTheWay_3 rfl (lv_at hl 3 rfl) ?_
  refine lv_iload hx hb dX5_inTheWay_4 (lv_at hl 4 rfl) ?_
  refine z_callV (As := [.int c, .int n, .int h, .int sw]) (rest := []) hF hK (c_X5_isApplication l D y m d c n h sw (hI)) (cwV 4 hts gX5_inTheWay_X5_isApplication rfl rfl rfl (by decide +kernel) ⟨Nat.le_of_ble_eq_true rfl, Nat.le_of_ble_eq_true rfl⟩) (z_recv (q := (RX5, TX5, 9)) hK hO rfl) hΦ rfl hl.1 rfl (Nat.le_of_ble_eq_true rfl) dX5_inTheWay_6 ⟨Nat.zero_le _, Nat.zero_le _⟩ ?_
  refine z_ifne (tgt := 16) hx hb dX5_inTheWay_9 (by decide) (fun c9 => ?_) (fun c9 => ?_)
  · obtain ⟨⟨j, hj, rfl⟩, ⟨k, hk, rfl⟩⟩ := apl_nat hI c9
    have ej : cl (nI j) = j := cl_nI (by omega)
    have ek : cl (nI k) = k := cl_nI (by omega)
    refine lv_aload_n hx hb dX5_inTheWay_16 rfl (lv_at hl 0 rfl) ?_
    refine lv_iload_n hx hb dX5_inTheWay_17 rfl (lv_at hl 1 rfl) ?_
    refine lv_iload_n hx hb dX5_inTheWay_18 rfl (lv_at hl 2 rfl) ?_
    refine lv_iload_n hx hb dX5_inTheWay_19 rfl (lv_at hl 3 rfl) ?_
    refine lv_iload hx hb dX5_inTheWay_20 (lv_at hl 4 rfl) ?_
    refine z_callV (As := [.int (nI j), .int (nI k), .int h, .int sw]) (rest := []) hF hK (c_X5_firstInAir l D y m d j (nI k) h sw (hI) (by omega)) (cwV 4 hts gX5_inTheWay_X5_firstInAir rfl rfl rfl (by decide +kernel) ⟨Nat.le_of_ble_eq_true rfl, Nat.le_of_ble_eq_true rfl⟩) (z_recv (q := (RX5, TX5, 9)) hK hO rfl) hΦ rfl hl.1 rfl (Nat.le_of_ble_eq_true rfl) dX5_inTheWay_22 ⟨Nat.zero_le _, Nat.zero_le _⟩ ?_
    refine lv_istore (lv' := [(5, .int (oI (fiaO d j (nI k) h sw))), (0, .ref m), (1, .int (nI j)), (2, .int (nI k)), (3, .int h), (4, .int sw)]) hx hb dX5_inTheWay_25 hl (by decide) rfl (fun ls hl => ?_)
    refine lv_iload hx hb dX5_inTheWay_27 (lv_at hl 0 rfl) ?_
    refine lv_iconst (v := (-1)) hx hb dX5_inTheWay_29 (by decide) ?_
    refine lv_icmp_ne (tgt := 39) hx hb dX5_inTheWay_30 (by decide) (fun c30 => ?_) (fun c30 => ?_)
    · refine lv_iload hx hb dX5_inTheWay_39 (lv_at hl 0 rfl) ?_
      exact z_reti hx hb hr hlocks rfl (by unfold aInTheWay; rw [if_pos c9, ej]; first | exact nf_none c30 (fia_lt hI) | exact nf_some c30) dX5_inTheWay_41
    · refine lv_sipush (v := (-1004)) hx hb dX5_inTheWay_33 (by decide) ?_
      refine lv_goto (tgt := 41) hx hb dX5_inTheWay_36 (by decide) ?_
      exact z_reti hx hb hr hlocks rfl (by unfold aInTheWay; rw [if_pos c9, ej]; first | exact nf_none c30 (fia_lt hI) | exact nf_some c30) dX5_inTheWay_41
  · refine lv_sipush (v := (-1001)) hx hb dX5_inTheWay_12 (by decide) ?_
    exact z_reti hx hb hr hlocks rfl (by unfold aInTheWay; rw [if_neg (bf c9)]) dX5_inTheWay_15
theorem iX5_together_X5 : ∀ w ∈ wsX50, w ∈ wsX5_together := fun w h => (List.mem_cons_of_mem _ (List.mem_append_right _ h))
set_option maxRecDepth 100000 in
set_option maxHeartbeats 4000000 in
theorem c_X5_together (l : Launch) (D : va_G) (y : zY) (m : Nat) (d : Nat → Int32) (b : Bool) (hI : zI d) : Met l yX5_together wsX5_together ({ frames := 4, cells := 0, slots := 0, locals := 100 }) (zP [.ref m, .int (bI b)] (zM D y m d) D y) (zQ (some (.int (togI d b)))) 0 0 nofree := by
  refine z_body (cc := cX5_together) (maxL := 5) (ret := (some .int)) (la := [(0, .ref m), (1, .int (bI b))]) (by decide) rfl (Nat.le_of_ble_eq_true rfl) rfl ?_
  intro pg ev s mm below meth c0 ls hx hb hr hF hlocks hΦ hK hl _
  have hts := hF.2.2.2.2
  have hown : s.vm.findClass RX5 = some mm.cls := hF.2.2.2.1
  obtain ⟨⟨fs, hO⟩, hA⟩ := id hΦ
  have hG2 := hI.ng2
  have hC8 := hI.nc8
  refine lv_iconst (v := (nI 0)) hx hb dX5_together_0 (by decide) ?_
  refine lv_istore_n (lv' := [(2, .int (nI 0)), (0, .ref m), (1, .int (bI b))]) hx hb dX5_together_1 rfl hl (by decide) rfl (fun ls hl => ?_)
  refine lv_iconst (v := (nI 0)) hx hb dX5_together_2 (by decide) ?_
  refine lv_istore_n (lv' := [(3, .int (nI 0)), (2, .int (nI 0)), (0, .ref m), (1, .int (bI b))]) hx hb dX5_together_3 rfl hl (by decide) rfl (fun ls hl => ?_)
  have hl := lv_repl (l' := [(3, .int (nI 0)), (2, .int (togS d b 0)), (0, .ref m), (1, .int (bI b))]) hl 1 rfl (rfl) rfl
  refine z_loop (S := Nat) (nL := 5) (fun (i : Nat) => nG d - i) (fun (i : Nat) => [(3, .int (nI i)), (2, .int (togS d b i)), (0, .ref m), (1, .int (bI b))]) (fun (i : Nat) => i ≤ nG d) 0 (by omega) (lv_sub hl [0, 1, 2, 3] rfl) ?_
  clear hl
  rintro i ls hI_4 hl ih_4
  have hi := hI_4
  refine lv_iload_n hx hb dX5_together_4 rfl (lv_at hl 0 rfl) ?_
  refine lv_aload_n hx hb dX5_together_5 rfl (lv_at hl 2 rfl) ?_
  refine z_get (fs := (.ref (m + 1) :: fs)) (ref := "CranePermitsModel") (C := RX5) (T := TX5) (N := 9) (ci := 5) (v := .ref (m + 1)) hx hb hts iX5_together_X5 hown hK hO 0 (by decide) rfl (hts (.fieldLink RX5 7 "CranePermitsModel" "d" "[I") (List.mem_of_getElem? (i := 1) rfl)) rfl rfl dX5_together_6 ?_
  refine lv_sipush (v := (nI 442)) hx hb dX5_together_9 (by decide) ?_
  refine z_iald (f := d) hx hb hK hA (by omega) (by decide) dX5_together_12 ?_
  refine z_topi (z := (nI (nG d))) (hI.ng) ?_
  refine z_ge (tgt := 129) hx hb (by omega) (by omega) dX5_together_13 (by decide) (fun c13 => ?_) (fun c13 => ?_)
  · refine lv_iload_n hx hb dX5_together_129 rfl (lv_at hl 1 rfl) ?_
    exact z_reti hx hb hr hlocks rfl (by rw [show i = nG d by omega]; rfl) dX5_together_130
  · refine lv_iload_n hx hb dX5_together_16 rfl (lv_at hl 1 rfl) ?_
    refine lv_iload_n hx hb dX5_together_17 rfl (lv_at hl 3 rfl) ?_
    refine z_ifne (tgt := 39) hx hb dX5_together_18 (by decide) (fun c18 => ?_) (fun c18 => ?_)
    · refine lv_iconst (v := (nI 0)) hx hb dX5_together_39 (by decide) ?_
      refine lv_iadd hx hb dX5_together_40 ?_
      refine lv_istore_n (lv' := [(2, .int ((togS d b i) + (nI 0))), (3, .int (nI i)), (0, .ref m), (1, .int (bI b))]) hx hb dX5_together_41 rfl hl (by decide) rfl (fun ls hl => ?_)
      refine lv_iconst (v := (nI 0)) hx hb dX5_together_42 (by decide) ?_
      refine lv_istore (lv' := [(4, .int (nI 0)), (2, .int ((togS d b i) + (nI 0))), (3, .int (nI i)), (0, .ref m), (1, .int (bI b))]) hx hb dX5_together_43 hl (by decide) rfl (fun ls hl => ?_)
      have hl := lv_repl (l' := [(4, .int (nI 0)), (2, .int (accN (togF d i) (togS d b i + togA d b i) 0)), (3, .int (nI i)), (0, .ref m), (1, .int (bI b))]) hl 1 rfl (by rw [accN]; congr 1; unfold togA; first | (rw [if_pos c18]; done) | (rw [if_neg (bf c18), if_neg c28]; done) | (rw [if_neg (bf c18), if_pos c28]; done)) rfl
      refine z_loop (S := Nat) (nL := 5) (fun (q : Nat) => i - q) (fun (q : Nat) => [(4, .int (nI q)), (2, .int (accN (togF d i) (togS d b i + togA d b i) q)), (3, .int (nI i)), (0, .ref m), (1, .int (bI b))]) (fun (q : Nat) => q ≤ togN d b i) 0 (Nat.zero_le _) (lv_sub hl [0, 1, 2, 3, 4] rfl) ?_
      clear hl
      rintro q ls hI_45 hl ih_45
      have hq := hI_45
      have hti := togN_le d b i
      refine lv_iload hx hb dX5_together_45 (lv_at hl 0 rfl) ?_
      refine lv_iload_n hx hb dX5_together_47 rfl (lv_at hl 2 rfl) ?_
      refine z_ge (tgt := 123) hx hb (by omega) (by omega) dX5_together_48 (by decide) (fun c48 => ?_) (fun c48 => ?_)
      · refine lv_iinc (v := (nI (i + 1))) (lv' := [(3, .int (nI (i + 1))), (4, .int (nI q)), (2, .int (accN (togF d i) (togS d b i + togA d b i) q)), (0, .ref m), (1, .int (bI b))]) hx hb dX5_together_123 hl (k := 2) rfl (in1 _) (by decide) rfl (fun ls hl => ?_)
        refine lv_goto (tgt := 4) hx hb dX5_together_126 (by decide) ?_
        have hl := lv_repl (l' := [(3, .int (nI (i + 1))), (4, .int (nI q)), (2, .int (togS d b (i + 1))), (0, .ref m), (1, .int (bI b))]) hl 2 rfl (by rw [show togS d b (i + 1) = accN (togF d i) (togS d b i + togA d b i) (togN d b i) from rfl, show q = togN d b i by first | omega | (exact togN_q0 (hq) (by unfold togN; rw [if_neg (bf c52)])) | (exact togN_q0 (hq) (by unfold togN; rw [if_neg c62]; split <;> rfl))]) rfl
        exact ih_4 (i + 1) _ (by omega) (by omega) (lv_sub hl [0, 2, 3, 4] rfl)
      · refine lv_iload_n hx hb dX5_together_51 rfl (lv_at hl 4 rfl) ?_
        refine z_ifeq (tgt := 123) hx hb dX5_together_52 (by decide) (fun c52 => ?_) (fun c52 => ?_)
        · refine lv_iinc (v := (nI (i + 1))) (lv' := [(3, .int (nI (i + 1))), (4, .int (nI q)), (2, .int (accN (togF d i) (togS d b i + togA d b i) q)), (0, .ref m), (1, .int (bI b))]) hx hb dX5_together_123 hl (k := 2) rfl (in1 _) (by decide) rfl (fun ls hl => ?_)
          refine lv_goto (tgt := 4) hx hb dX5_together_126 (by decide) ?_
          have hl := lv_repl (l' := [(3, .int (nI (i + 1))), (4, .int (nI q)), (2, .int (togS d b (i + 1))), (0, .ref m), (1, .int (bI b))]) hl 2 rfl (by rw [show togS d b (i + 1) = accN (togF d i) (togS d b i + togA d b i) (togN d b i) from rfl, show q = togN d b i by first | omega | (exact togN_q0 (hq) (by unfold togN; rw [if_neg (bf c52)])) | (exact togN_q0 (hq) (by unfold togN; rw [if_neg c62]; split <;> rfl))]) rfl
          exact ih_4 (i + 1) _ (by omega) (by omega) (lv_sub hl [0, 2, 3, 4] rfl)
        · refine lv_aload_n hx hb dX5_together_55 rfl (lv_at hl 3 rfl) ?_
          refine lv_iload_n hx hb dX5_together_56 rfl (lv_at hl 2 rfl) ?_
          refine lv_iconst (v := (nI 4)) hx hb dX5_together_57 (by decide) ?_
          refine z_callV (As := [.int (nI i), .int (nI 4)]) (rest := []) hF hK (c_X5_of l D y m d i 4 (by omega) (by omega)) (cwV 2 hts gX5_together_X5_of rfl rfl rfl (by decide +kernel) ⟨Nat.le_of_ble_eq_true rfl, Nat.le_of_ble_eq_true rfl⟩) (z_recv (q := (RX5, TX5, 9)) hK hO rfl) hΦ rfl hl.1 rfl (Nat.le_of_ble_eq_true rfl) dX5_together_58 ⟨Nat.zero_le _, Nat.zero_le _⟩ ?_
          refine lv_iconst (v := (nI 1)) hx hb dX5_together_61 (by decide) ?_
          refine lv_icmp_ne (tgt := 123) hx hb dX5_together_62 (by decide) (fun c62 => ?_) (fun c62 => ?_)
          · refine lv_iinc (v := (nI (i + 1))) (lv' := [(3, .int (nI (i + 1))), (4, .int (nI q)), (2, .int (accN (togF d i) (togS d b i + togA d b i) q)), (0, .ref m), (1, .int (bI b))]) hx hb dX5_together_123 hl (k := 2) rfl (in1 _) (by decide) rfl (fun ls hl => ?_)
            refine lv_goto (tgt := 4) hx hb dX5_together_126 (by decide) ?_
            have hl := lv_repl (l' := [(3, .int (nI (i + 1))), (4, .int (nI q)), (2, .int (togS d b (i + 1))), (0, .ref m), (1, .int (bI b))]) hl 2 rfl (by rw [show togS d b (i + 1) = accN (togF d i) (togS d b i + togA d b i) (togN d b i) from rfl, show q = togN d b i by first | omega | (exact togN_q0 (hq) (by unfold togN; rw [if_neg (bf c52)])) | (exact togN_q0 (hq) (by unfold togN; rw [if_neg c62]; split <;> rfl))]) rfl
            exact ih_4 (i + 1) _ (by omega) (by omega) (lv_sub hl [0, 2, 3, 4] rfl)
          · refine lv_iload_n hx hb dX5_together_65 rfl (lv_at hl 1 rfl) ?_
            refine lv_aload_n hx hb dX5_together_66 rfl (lv_at hl 3 rfl) ?_
            refine lv_iload hx hb dX5_together_67 (lv_at hl 0 rfl) ?_
            refine lv_iconst (v := (nI 4)) hx hb dX5_together_69 (by decide) ?_
            refine z_callV (As := [.int (nI q), .int (nI 4)]) (rest := [.int (accN (togF d i) (togS d b i + togA d b i) q)]) hF hK (c_X5_of l D y m d q 4 (by omega) (by omega)) (cwV 2 hts gX5_together_X5_of rfl rfl rfl (by decide +kernel) ⟨Nat.le_of_ble_eq_true rfl, Nat.le_of_ble_eq_true rfl⟩) (z_recv (q := (RX5, TX5, 9)) hK hO rfl) hΦ rfl hl.1 rfl (Nat.le_of_ble_eq_true rfl) dX5_together_70 ⟨Nat.zero_le _, Nat.zero_le _⟩ ?_
            refine lv_iconst (v := (nI 1)) hx hb dX5_together_73 (by decide) ?_
            refine lv_icmp_ne (tgt := 114) hx hb dX5_together_74 (by decide) (fun c74 => ?_) (fun c74 => ?_)
            · refine lv_iconst (v := (nI 0)) hx hb dX5_together_114 (by decide) ?_
              refine lv_iadd hx hb dX5_together_115 ?_
              refine lv_istore_n (lv' := [(2, .int ((accN (togF d i) (togS d b i + togA d b i) q) + (nI 0))), (4, .int (nI q)), (3, .int (nI i)), (0, .ref m), (1, .int (bI b))]) hx hb dX5_together_116 rfl hl (by decide) rfl (fun ls hl => ?_)
              refine lv_iinc (v := (nI (q + 1))) (lv' := [(4, .int (nI (q + 1))), (2, .int ((accN (togF d i) (togS d b i + togA d b i) q) + (nI 0))), (3, .int (nI i)), (0, .ref m), (1, .int (bI b))]) hx hb dX5_together_117 hl (k := 1) rfl (in1 _) (by decide) rfl (fun ls hl => ?_)
              refine lv_goto (tgt := 45) hx hb dX5_together_120 (by decide) ?_
              have hl := lv_repl (l' := [(4, .int (nI (q + 1))), (2, .int (accN (togF d i) (togS d b i + togA d b i) (q + 1))), (3, .int (nI i)), (0, .ref m), (1, .int (bI b))]) hl 1 rfl (by rw [accN_s, togF]; first | (rw [if_neg c74]; done) | (rw [if_pos c74, if_pos c107]; done) | (rw [if_pos c74, if_neg (bf c107)]; done)) rfl
              exact ih_45 (q + 1) _ (by omega) (by rw [togN, if_pos c52, if_pos c62]; omega) (lv_sub hl [0, 1, 2, 3, 4] rfl)
            · refine lv_aload_n hx hb dX5_together_77 rfl (lv_at hl 3 rfl) ?_
              refine lv_aload_n hx hb dX5_together_78 rfl (lv_at hl 3 rfl) ?_
              refine lv_iload_n hx hb dX5_together_79 rfl (lv_at hl 2 rfl) ?_
              refine lv_iconst (v := (nI 0)) hx hb dX5_together_80 (by decide) ?_
              refine z_callV (As := [.int (nI i), .int (nI 0)]) (rest := [.ref m, .int (accN (togF d i) (togS d b i + togA d b i) q)]) hF hK (c_X5_of l D y m d i 0 (by omega) (by omega)) (cwV 2 hts gX5_together_X5_of rfl rfl rfl (by decide +kernel) ⟨Nat.le_of_ble_eq_true rfl, Nat.le_of_ble_eq_true rfl⟩) (z_recv (q := (RX5, TX5, 9)) hK hO rfl) hΦ rfl hl.1 rfl (Nat.le_of_ble_eq_true rfl) dX5_together_81 ⟨Nat.zero_le _, Nat.zero_le _⟩ ?_
              refine z_topi (z := (nI (pC d i))) (hI.pc (by omega)) ?_
              refine lv_aload_n hx hb dX5_together_84 rfl (lv_at hl 3 rfl) ?_
              refine lv_iload_n hx hb dX5_together_85 rfl (lv_at hl 2 rfl) ?_
              refine lv_iconst (v := (nI 1)) hx hb dX5_together_86 (by decide) ?_
              refine z_callV (As := [.int (nI i), .int (nI 1)]) (rest := [.int (nI (pC d i)), .ref m, .int (accN (togF d i) (togS d b i + togA d b i) q)]) hF hK (c_X5_of l D y m d i 1 (by omega) (by omega)) (cwV 2 hts gX5_together_X5_of rfl rfl rfl (by decide +kernel) ⟨Nat.le_of_ble_eq_true rfl, Nat.le_of_ble_eq_true rfl⟩) (z_recv (q := (RX5, TX5, 9)) hK hO rfl) hΦ rfl hl.1 rfl (Nat.le_of_ble_eq_true rfl) dX5_together_87 ⟨Nat.zero_le _, Nat.zero_le _⟩ ?_
              refine lv_aload_n hx hb dX5_together_90 rfl (lv_at hl 3 rfl) ?_
              refine lv_iload_n hx hb dX5_together_91 rfl (lv_at hl 2 rfl) ?_
              refine lv_iconst (v := (nI 2)) hx hb dX5_together_92 (by decide) ?_
              refine z_callV (As := [.int (nI i), .int (nI 2)]) (rest := [.int (pm d i 1), .int (nI (pC d i)), .ref m, .int (accN (togF d i) (togS d b i + togA d b i) q)]) hF hK (c_X5_of l D y m d i 2 (by omega) (by omega)) (cwV 2 hts gX5_together_X5_of rfl rfl rfl (by decide +kernel) ⟨Nat.le_of_ble_eq_true rfl, Nat.le_of_ble_eq_true rfl⟩) (z_recv (q := (RX5, TX5, 9)) hK hO rfl) hΦ rfl hl.1 rfl (Nat.le_of_ble_eq_true rfl) dX5_together_93 ⟨Nat.zero_le _, Nat.zero_le _⟩ ?_
              refine lv_aload_n hx hb dX5_together_96 rfl (lv_at hl 3 rfl) ?_
              refine lv_iload_n hx hb dX5_together_97 rfl (lv_at hl 2 rfl) ?_
              refine lv_iconst (v := (nI 3)) hx hb dX5_together_98 (by decide) ?_
              refine z_callV (As := [.int (nI i), .int (nI 3)]) (rest := [.int (pm d i 2), .int (pm d i 1), .int (nI (pC d i)), .ref m, .int (accN (togF d i) (togS d b i + togA d b i) q)]) hF hK (c_X5_of l D y m d i 3 (by omega) (by omega)) (cwV 2 hts gX5_together_X5_of rfl rfl rfl (by decide +kernel) ⟨Nat.le_of_ble_eq_true rfl, Nat.le_of_ble_eq_true rfl⟩) (z_recv (q := (RX5, TX5, 9)) hK hO rfl) hΦ rfl hl.1 rfl (Nat.le_of_ble_eq_true rfl) dX5_together_99 ⟨Nat.zero_le _, Nat.zero_le _⟩ ?_
              refine lv_iload hx hb dX5_together_102 (lv_at hl 0 rfl) ?_
              refine z_callV (As := [.int (nI (pC d i)), .int (pm d i 1), .int (pm d i 2), .int (pm d i 3), .int (nI q)]) (rest := [.int (accN (togF d i) (togS d b i + togA d b i) q)]) hF hK (c_X5_air l D y m d (pC d i) (pm d i 1) (pm d i 2) (pm d i 3) q (hI) (hI.pc8 (by omega)) (by omega)) (cwV 5 hts gX5_together_X5_air rfl rfl rfl (by decide +kernel) ⟨Nat.le_of_ble_eq_true rfl, Nat.le_of_ble_eq_true rfl⟩) (z_recv (q := (RX5, TX5, 9)) hK hO rfl) hΦ rfl hl.1 rfl (Nat.le_of_ble_eq_true rfl) dX5_together_104 ⟨Nat.zero_le _, Nat.zero_le _⟩ ?_
              refine z_ifeq (tgt := 114) hx hb dX5_together_107 (by decide) (fun c107 => ?_) (fun c107 => ?_)
              · refine lv_iconst (v := (nI 0)) hx hb dX5_together_114 (by decide) ?_
                refine lv_iadd hx hb dX5_together_115 ?_
                refine lv_istore_n (lv' := [(2, .int ((accN (togF d i) (togS d b i + togA d b i) q) + (nI 0))), (4, .int (nI q)), (3, .int (nI i)), (0, .ref m), (1, .int (bI b))]) hx hb dX5_together_116 rfl hl (by decide) rfl (fun ls hl => ?_)
                refine lv_iinc (v := (nI (q + 1))) (lv' := [(4, .int (nI (q + 1))), (2, .int ((accN (togF d i) (togS d b i + togA d b i) q) + (nI 0))), (3, .int (nI i)), (0, .ref m), (1, .int (bI b))]) hx hb dX5_together_117 hl (k := 1) rfl (in1 _) (by decide) rfl (fun ls hl => ?_)
                refine lv_goto (tgt := 45) hx hb dX5_together_120 (by decide) ?_
                have hl := lv_repl (l' := [(4, .int (nI (q + 1))), (2, .int (accN (togF d i) (togS d b i + togA d b i) (q + 1))), (3, .int (nI i)), (0, .ref m), (1, .int (bI b))]) hl 1 rfl (by rw [accN_s, togF]; first | (rw [if_neg c74]; done) | (rw [if_pos c74, if_pos c107]; done) | (rw [if_pos c74, if_neg (bf c107)]; done)) rfl
                exact ih_45 (q + 1) _ (by omega) (by rw [togN, if_pos c52, if_pos c62]; omega) (lv_sub hl [0, 1, 2, 3, 4] rfl)
              · refine lv_iconst (v := (nI 1)) hx hb dX5_together_110 (by decide) ?_
                refine lv_goto (tgt := 115) hx hb dX5_together_111 (by decide) ?_
                refine lv_iadd hx hb dX5_together_115 ?_
                refine lv_istore_n (lv' := [(2, .int ((accN (togF d i) (togS d b i + togA d b i) q) + (nI 1))), (4, .int (nI q)), (3, .int (nI i)), (0, .ref m), (1, .int (bI b))]) hx hb dX5_together_116 rfl hl (by decide) rfl (fun ls hl => ?_)
                refine lv_iinc (v := (nI (q + 1))) (lv' := [(4, .int (nI (q + 1))), (2, .int ((accN (togF d i) (togS d b i + togA d b i) q) + (nI 1))), (3, .int (nI i)), (0, .ref m), (1, .int (bI b))]) hx hb dX5_together_117 hl (k := 1) rfl (in1 _) (by decide) rfl (fun ls hl => ?_)
                refine lv_goto (tgt := 45) hx hb dX5_together_120 (by decide) ?_
                have hl := lv_repl (l' := [(4, .int (nI (q + 1))), (2, .int (accN (togF d i) (togS d b i + togA d b i) (q + 1))), (3, .int (nI i)), (0, .ref m), (1, .int (bI b))]) hl 1 rfl (by rw [accN_s, togF]; first | (rw [if_neg c74]; done) | (rw [if_pos c74, if_pos c107]; done) | (rw [if_pos c74, if_neg (bf c107)]; done)) rfl
                exact ih_45 (q + 1) _ (by omega) (by rw [togN, if_pos c52, if_pos c62]; omega) (lv_sub hl [0, 1, 2, 3, 4] rfl)
    · refine lv_aload_n hx hb dX5_together_21 rfl (lv_at hl 2 rfl) ?_
      refine lv_iload_n hx hb dX5_together_22 rfl (lv_at hl 0 rfl) ?_
      refine lv_iconst (v := (nI 4)) hx hb dX5_together_23 (by decide) ?_
      refine z_callV (As := [.int (nI i), .int (nI 4)]) (rest := [.int (togS d b i)]) hF hK (c_X5_of l D y m d i 4 (by omega) (by omega)) (cwV 2 hts gX5_together_X5_of rfl rfl rfl (by decide +kernel) ⟨Nat.le_of_ble_eq_true rfl, Nat.le_of_ble_eq_true rfl⟩) (z_recv (q := (RX5, TX5, 9)) hK hO rfl) hΦ rfl hl.1 rfl (Nat.le_of_ble_eq_true rfl) dX5_together_24 ⟨Nat.zero_le _, Nat.zero_le _⟩ ?_
      refine lv_iconst (v := (nI 1)) hx hb dX5_together_27 (by decide) ?_
      refine lv_icmp_ne (tgt := 39) hx hb dX5_together_28 (by decide) (fun c28 => ?_) (fun c28 => ?_)
      · refine lv_iconst (v := (nI 0)) hx hb dX5_together_39 (by decide) ?_
        refine lv_iadd hx hb dX5_together_40 ?_
        refine lv_istore_n (lv' := [(2, .int ((togS d b i) + (nI 0))), (3, .int (nI i)), (0, .ref m), (1, .int (bI b))]) hx hb dX5_together_41 rfl hl (by decide) rfl (fun ls hl => ?_)
        refine lv_iconst (v := (nI 0)) hx hb dX5_together_42 (by decide) ?_
        refine lv_istore (lv' := [(4, .int (nI 0)), (2, .int ((togS d b i) + (nI 0))), (3, .int (nI i)), (0, .ref m), (1, .int (bI b))]) hx hb dX5_together_43 hl (by decide) rfl (fun ls hl => ?_)
        have hl := lv_repl (l' := [(4, .int (nI 0)), (2, .int (accN (togF d i) (togS d b i + togA d b i) 0)), (3, .int (nI i)), (0, .ref m), (1, .int (bI b))]) hl 1 rfl (by rw [accN]; congr 1; unfold togA; first | (rw [if_pos c18]; done) | (rw [if_neg (bf c18), if_neg c28]; done) | (rw [if_neg (bf c18), if_pos c28]; done)) rfl
        refine z_loop (S := Nat) (nL := 5) (fun (q : Nat) => i - q) (fun (q : Nat) => [(4, .int (nI q)), (2, .int (accN (togF d i) (togS d b i + togA d b i) q)), (3, .int (nI i)), (0, .ref m), (1, .int (bI b))]) (fun (q : Nat) => q ≤ togN d b i) 0 (Nat.zero_le _) (lv_sub hl [0, 1, 2, 3, 4] rfl) ?_
        clear hl
        rintro q ls hI_45 hl ih_45
        have hq := hI_45
        have hti := togN_le d b i
        refine lv_iload hx hb dX5_together_45 (lv_at hl 0 rfl) ?_
        refine lv_iload_n hx hb dX5_together_47 rfl (lv_at hl 2 rfl) ?_
        refine z_ge (tgt := 123) hx hb (by omega) (by omega) dX5_together_48 (by decide) (fun c48 => ?_) (fun c48 => ?_)
        · refine lv_iinc (v := (nI (i + 1))) (lv' := [(3, .int (nI (i + 1))), (4, .int (nI q)), (2, .int (accN (togF d i) (togS d b i + togA d b i) q)), (0, .ref m), (1, .int (bI b))]) hx hb dX5_together_123 hl (k := 2) rfl (in1 _) (by decide) rfl (fun ls hl => ?_)
          refine lv_goto (tgt := 4) hx hb dX5_together_126 (by decide) ?_
          have hl := lv_repl (l' := [(3, .int (nI (i + 1))), (4, .int (nI q)), (2, .int (togS d b (i + 1))), (0, .ref m), (1, .int (bI b))]) hl 2 rfl (by rw [show togS d b (i + 1) = accN (togF d i) (togS d b i + togA d b i) (togN d b i) from rfl, show q = togN d b i by first | omega | (exact togN_q0 (hq) (by unfold togN; rw [if_neg (bf c52)])) | (exact togN_q0 (hq) (by unfold togN; rw [if_neg c62]; split <;> rfl))]) rfl
          exact ih_4 (i + 1) _ (by omega) (by omega) (lv_sub hl [0, 2, 3, 4] rfl)
        · refine lv_iload_n hx hb dX5_together_51 rfl (lv_at hl 4 rfl) ?_
          refine z_ifeq (tgt := 123) hx hb dX5_together_52 (by decide) (fun c52 => ?_) (fun c52 => ?_)
          · refine lv_iinc (v := (nI (i + 1))) (lv' := [(3, .int (nI (i + 1))), (4, .int (nI q)), (2, .int (accN (togF d i) (togS d b i + togA d b i) q)), (0, .ref m), (1, .int (bI b))]) hx hb dX5_together_123 hl (k := 2) rfl (in1 _) (by decide) rfl (fun ls hl => ?_)
            refine lv_goto (tgt := 4) hx hb dX5_together_126 (by decide) ?_
            have hl := lv_repl (l' := [(3, .int (nI (i + 1))), (4, .int (nI q)), (2, .int (togS d b (i + 1))), (0, .ref m), (1, .int (bI b))]) hl 2 rfl (by rw [show togS d b (i + 1) = accN (togF d i) (togS d b i + togA d b i) (togN d b i) from rfl, show q = togN d b i by first | omega | (exact togN_q0 (hq) (by unfold togN; rw [if_neg (bf c52)])) | (exact togN_q0 (hq) (by unfold togN; rw [if_neg c62]; split <;> rfl))]) rfl
            exact ih_4 (i + 1) _ (by omega) (by omega) (lv_sub hl [0, 2, 3, 4] rfl)
          · refine lv_aload_n hx hb dX5_together_55 rfl (lv_at hl 3 rfl) ?_
            refine lv_iload_n hx hb dX5_together_56 rfl (lv_at hl 2 rfl) ?_
            refine lv_iconst (v := (nI 4)) hx hb dX5_together_57 (by decide) ?_
            refine z_callV (As := [.int (nI i), .int (nI 4)]) (rest := []) hF hK (c_X5_of l D y m d i 4 (by omega) (by omega)) (cwV 2 hts gX5_together_X5_of rfl rfl rfl (by decide +kernel) ⟨Nat.le_of_ble_eq_true rfl, Nat.le_of_ble_eq_true rfl⟩) (z_recv (q := (RX5, TX5, 9)) hK hO rfl) hΦ rfl hl.1 rfl (Nat.le_of_ble_eq_true rfl) dX5_together_58 ⟨Nat.zero_le _, Nat.zero_le _⟩ ?_
            refine lv_iconst (v := (nI 1)) hx hb dX5_together_61 (by decide) ?_
            refine lv_icmp_ne (tgt := 123) hx hb dX5_together_62 (by decide) (fun c62 => ?_) (fun c62 => ?_)
            · refine lv_iinc (v := (nI (i + 1))) (lv' := [(3, .int (nI (i + 1))), (4, .int (nI q)), (2, .int (accN (togF d i) (togS d b i + togA d b i) q)), (0, .ref m), (1, .int (bI b))]) hx hb dX5_together_123 hl (k := 2) rfl (in1 _) (by decide) rfl (fun ls hl => ?_)
              refine lv_goto (tgt := 4) hx hb dX5_together_126 (by decide) ?_
              have hl := lv_repl (l' := [(3, .int (nI (i + 1))), (4, .int (nI q)), (2, .int (togS d b (i + 1))), (0, .ref m), (1, .int (bI b))]) hl 2 rfl (by rw [show togS d b (i + 1) = accN (togF d i) (togS d b i + togA d b i) (togN d b i) from rfl, show q = togN d b i by first | omega | (exact togN_q0 (hq) (by unfold togN; rw [if_neg (bf c52)])) | (exact togN_q0 (hq) (by unfold togN; rw [if_neg c62]; split <;> rfl))]) rfl
              exact ih_4 (i + 1) _ (by omega) (by omega) (lv_sub hl [0, 2, 3, 4] rfl)
            · refine lv_iload_n hx hb dX5_together_65 rfl (lv_at hl 1 rfl) ?_
              refine lv_aload_n hx hb dX5_together_66 rfl (lv_at hl 3 rfl) ?_
              refine lv_iload hx hb dX5_together_67 (lv_at hl 0 rfl) ?_
              refine lv_iconst (v := (nI 4)) hx hb dX5_together_69 (by decide) ?_
              refine z_callV (As := [.int (nI q), .int (nI 4)]) (rest := [.int (accN (togF d i) (togS d b i + togA d b i) q)]) hF hK (c_X5_of l D y m d q 4 (by omega) (by omega)) (cwV 2 hts gX5_together_X5_of rfl rfl rfl (by decide +kernel) ⟨Nat.le_of_ble_eq_true rfl, Nat.le_of_ble_eq_true rfl⟩) (z_recv (q := (RX5, TX5, 9)) hK hO rfl) hΦ rfl hl.1 rfl (Nat.le_of_ble_eq_true rfl) dX5_together_70 ⟨Nat.zero_le _, Nat.zero_le _⟩ ?_
              refine lv_iconst (v := (nI 1)) hx hb dX5_together_73 (by decide) ?_
              refine lv_icmp_ne (tgt := 114) hx hb dX5_together_74 (by decide) (fun c74 => ?_) (fun c74 => ?_)
              · refine lv_iconst (v := (nI 0)) hx hb dX5_together_114 (by decide) ?_
                refine lv_iadd hx hb dX5_together_115 ?_
                refine lv_istore_n (lv' := [(2, .int ((accN (togF d i) (togS d b i + togA d b i) q) + (nI 0))), (4, .int (nI q)), (3, .int (nI i)), (0, .ref m), (1, .int (bI b))]) hx hb dX5_together_116 rfl hl (by decide) rfl (fun ls hl => ?_)
                refine lv_iinc (v := (nI (q + 1))) (lv' := [(4, .int (nI (q + 1))), (2, .int ((accN (togF d i) (togS d b i + togA d b i) q) + (nI 0))), (3, .int (nI i)), (0, .ref m), (1, .int (bI b))]) hx hb dX5_together_117 hl (k := 1) rfl (in1 _) (by decide) rfl (fun ls hl => ?_)
                refine lv_goto (tgt := 45) hx hb dX5_together_120 (by decide) ?_
                have hl := lv_repl (l' := [(4, .int (nI (q + 1))), (2, .int (accN (togF d i) (togS d b i + togA d b i) (q + 1))), (3, .int (nI i)), (0, .ref m), (1, .int (bI b))]) hl 1 rfl (by rw [accN_s, togF]; first | (rw [if_neg c74]; done) | (rw [if_pos c74, if_pos c107]; done) | (rw [if_pos c74, if_neg (bf c107)]; done)) rfl
                exact ih_45 (q + 1) _ (by omega) (by rw [togN, if_pos c52, if_pos c62]; omega) (lv_sub hl [0, 1, 2, 3, 4] rfl)
              · refine lv_aload_n hx hb dX5_together_77 rfl (lv_at hl 3 rfl) ?_
                refine lv_aload_n hx hb dX5_together_78 rfl (lv_at hl 3 rfl) ?_
                refine lv_iload_n hx hb dX5_together_79 rfl (lv_at hl 2 rfl) ?_
                refine lv_iconst (v := (nI 0)) hx hb dX5_together_80 (by decide) ?_
                refine z_callV (As := [.int (nI i), .int (nI 0)]) (rest := [.ref m, .int (accN (togF d i) (togS d b i + togA d b i) q)]) hF hK (c_X5_of l D y m d i 0 (by omega) (by omega)) (cwV 2 hts gX5_together_X5_of rfl rfl rfl (by decide +kernel) ⟨Nat.le_of_ble_eq_true rfl, Nat.le_of_ble_eq_true rfl⟩) (z_recv (q := (RX5, TX5, 9)) hK hO rfl) hΦ rfl hl.1 rfl (Nat.le_of_ble_eq_true rfl) dX5_together_81 ⟨Nat.zero_le _, Nat.zero_le _⟩ ?_
                refine z_topi (z := (nI (pC d i))) (hI.pc (by omega)) ?_
                refine lv_aload_n hx hb dX5_together_84 rfl (lv_at hl 3 rfl) ?_
                refine lv_iload_n hx hb dX5_together_85 rfl (lv_at hl 2 rfl) ?_
                refine lv_iconst (v := (nI 1)) hx hb dX5_together_86 (by decide) ?_
                refine z_callV (As := [.int (nI i), .int (nI 1)]) (rest := [.int (nI (pC d i)), .ref m, .int (accN (togF d i) (togS d b i + togA d b i) q)]) hF hK (c_X5_of l D y m d i 1 (by omega) (by omega)) (cwV 2 hts gX5_together_X5_of rfl rfl rfl (by decide +kernel) ⟨Nat.le_of_ble_eq_true rfl, Nat.le_of_ble_eq_true rfl⟩) (z_recv (q := (RX5, TX5, 9)) hK hO rfl) hΦ rfl hl.1 rfl (Nat.le_of_ble_eq_true rfl) dX5_together_87 ⟨Nat.zero_le _, Nat.zero_le _⟩ ?_
                refine lv_aload_n hx hb dX5_together_90 rfl (lv_at hl 3 rfl) ?_
                refine lv_iload_n hx hb dX5_together_91 rfl (lv_at hl 2 rfl) ?_
                refine lv_iconst (v := (nI 2)) hx hb dX5_together_92 (by decide) ?_
                refine z_callV (As := [.int (nI i), .int (nI 2)]) (rest := [.int (pm d i 1), .int (nI (pC d i)), .ref m, .int (accN (togF d i) (togS d b i + togA d b i) q)]) hF hK (c_X5_of l D y m d i 2 (by omega) (by omega)) (cwV 2 hts gX5_together_X5_of rfl rfl rfl (by decide +kernel) ⟨Nat.le_of_ble_eq_true rfl, Nat.le_of_ble_eq_true rfl⟩) (z_recv (q := (RX5, TX5, 9)) hK hO rfl) hΦ rfl hl.1 rfl (Nat.le_of_ble_eq_true rfl) dX5_together_93 ⟨Nat.zero_le _, Nat.zero_le _⟩ ?_
                refine lv_aload_n hx hb dX5_together_96 rfl (lv_at hl 3 rfl) ?_
                refine lv_iload_n hx hb dX5_together_97 rfl (lv_at hl 2 rfl) ?_
                refine lv_iconst (v := (nI 3)) hx hb dX5_together_98 (by decide) ?_
                refine z_callV (As := [.int (nI i), .int (nI 3)]) (rest := [.int (pm d i 2), .int (pm d i 1), .int (nI (pC d i)), .ref m, .int (accN (togF d i) (togS d b i + togA d b i) q)]) hF hK (c_X5_of l D y m d i 3 (by omega) (by omega)) (cwV 2 hts gX5_together_X5_of rfl rfl rfl (by decide +kernel) ⟨Nat.le_of_ble_eq_true rfl, Nat.le_of_ble_eq_true rfl⟩) (z_recv (q := (RX5, TX5, 9)) hK hO rfl) hΦ rfl hl.1 rfl (Nat.le_of_ble_eq_true rfl) dX5_together_99 ⟨Nat.zero_le _, Nat.zero_le _⟩ ?_
                refine lv_iload hx hb dX5_together_102 (lv_at hl 0 rfl) ?_
                refine z_callV (As := [.int (nI (pC d i)), .int (pm d i 1), .int (pm d i 2), .int (pm d i 3), .int (nI q)]) (rest := [.int (accN (togF d i) (togS d b i + togA d b i) q)]) hF hK (c_X5_air l D y m d (pC d i) (pm d i 1) (pm d i 2) (pm d i 3) q (hI) (hI.pc8 (by omega)) (by omega)) (cwV 5 hts gX5_together_X5_air rfl rfl rfl (by decide +kernel) ⟨Nat.le_of_ble_eq_true rfl, Nat.le_of_ble_eq_true rfl⟩) (z_recv (q := (RX5, TX5, 9)) hK hO rfl) hΦ rfl hl.1 rfl (Nat.le_of_ble_eq_true rfl) dX5_together_104 ⟨Nat.zero_le _, Nat.zero_le _⟩ ?_
                refine z_ifeq (tgt := 114) hx hb dX5_together_107 (by decide) (fun c107 => ?_) (fun c107 => ?_)
                · refine lv_iconst (v := (nI 0)) hx hb dX5_together_114 (by decide) ?_
                  refine lv_iadd hx hb dX5_together_115 ?_
                  refine lv_istore_n (lv' := [(2, .int ((accN (togF d i) (togS d b i + togA d b i) q) + (nI 0))), (4, .int (nI q)), (3, .int (nI i)), (0, .ref m), (1, .int (bI b))]) hx hb dX5_together_116 rfl hl (by decide) rfl (fun ls hl => ?_)
                  refine lv_iinc (v := (nI (q + 1))) (lv' := [(4, .int (nI (q + 1))), (2, .int ((accN (togF d i) (togS d b i + togA d b i) q) + (nI 0))), (3, .int (nI i)), (0, .ref m), (1, .int (bI b))]) hx hb dX5_together_117 hl (k := 1) rfl (in1 _) (by decide) rfl (fun ls hl => ?_)
                  refine lv_goto (tgt := 45) hx hb dX5_together_120 (by decide) ?_
                  have hl := lv_repl (l' := [(4, .int (nI (q + 1))), (2, .int (accN (togF d i) (togS d b i + togA d b i) (q + 1))), (3, .int (nI i)), (0, .ref m), (1, .int (bI b))]) hl 1 rfl (by rw [accN_s, togF]; first | (rw [if_neg c74]; done) | (rw [if_pos c74, if_pos c107]; done) | (rw [if_pos c74, if_neg (bf c107)]; done)) rfl
                  exact ih_45 (q + 1) _ (by omega) (by rw [togN, if_pos c52, if_pos c62]; omega) (lv_sub hl [0, 1, 2, 3, 4] rfl)
                · refine lv_iconst (v := (nI 1)) hx hb dX5_together_110 (by decide) ?_
                  refine lv_goto (tgt := 115) hx hb dX5_together_111 (by decide) ?_
                  refine lv_iadd hx hb dX5_together_115 ?_
                  refine lv_istore_n (lv' := [(2, .int ((accN (togF d i) (togS d b i + togA d b i) q) + (nI 1))), (4, .int (nI q)), (3, .int (nI i)), (0, .ref m), (1, .int (bI b))]) hx hb dX5_together_116 rfl hl (by decide) rfl (fun ls hl => ?_)
                  refine lv_iinc (v := (nI (q + 1))) (lv' := [(4, .int (nI (q + 1))), (2, .int ((accN (togF d i) (togS d b i + togA d b i) q) + (nI 1))), (3, .int (nI i)), (0, .ref m), (1, .int (bI b))]) hx hb dX5_together_117 hl (k := 1) rfl (in1 _) (by decide) rfl (fun ls hl => ?_)
                  refine lv_goto (tgt := 45) hx hb dX5_together_120 (by decide) ?_
                  have hl := lv_repl (l' := [(4, .int (nI (q + 1))), (2, .int (accN (togF d i) (togS d b i + togA d b i) (q + 1))), (3, .int (nI i)), (0, .ref m), (1, .int (bI b))]) hl 1 rfl (by rw [accN_s, togF]; first | (rw [if_neg c74]; done) | (rw [if_pos c74, if_pos c107]; done) | (rw [if_pos c74, if_neg (bf c107)]; done)) rfl
                  exact ih_45 (q + 1) _ (by omega) (by rw [togN, if_pos c52, if_pos c62]; omega) (lv_sub hl [0, 1, 2, 3, 4] rfl)
      · refine lv_aload_n hx hb dX5_together_31 rfl (lv_at hl 2 rfl) ?_
        refine lv_iload_n hx hb dX5_together_32 rfl (lv_at hl 0 rfl) ?_
        refine z_callV (As := [.int (nI i)]) (rest := [.int (togS d b i)]) hF hK (c_X5_uses l D y m d i (hI) (by omega)) (cwV 1 hts gX5_together_X5_uses rfl rfl rfl (by decide +kernel) ⟨Nat.le_of_ble_eq_true rfl, Nat.le_of_ble_eq_true rfl⟩) (z_recv (q := (RX5, TX5, 9)) hK hO rfl) hΦ rfl hl.1 rfl (Nat.le_of_ble_eq_true rfl) dX5_together_33 ⟨Nat.zero_le _, Nat.zero_le _⟩ ?_
        refine lv_goto (tgt := 40) hx hb dX5_together_36 (by decide) ?_
        refine lv_iadd hx hb dX5_together_40 ?_
        refine lv_istore_n (lv' := [(2, .int ((togS d b i) + (usI d i))), (3, .int (nI i)), (0, .ref m), (1, .int (bI b))]) hx hb dX5_together_41 rfl hl (by decide) rfl (fun ls hl => ?_)
        refine lv_iconst (v := (nI 0)) hx hb dX5_together_42 (by decide) ?_
        refine lv_istore (lv' := [(4, .int (nI 0)), (2, .int ((togS d b i) + (usI d i))), (3, .int (nI i)), (0, .ref m), (1, .int (bI b))]) hx hb dX5_together_43 hl (by decide) rfl (fun ls hl => ?_)
        have hl := lv_repl (l' := [(4, .int (nI 0)), (2, .int (accN (togF d i) (togS d b i + togA d b i) 0)), (3, .int (nI i)), (0, .ref m), (1, .int (bI b))]) hl 1 rfl (by rw [accN]; congr 1; unfold togA; first | (rw [if_pos c18]; done) | (rw [if_neg (bf c18), if_neg c28]; done) | (rw [if_neg (bf c18), if_pos c28]; done)) rfl
        refine z_loop (S := Nat) (nL := 5) (fun (q : Nat) => i - q) (fun (q : Nat) => [(4, .int (nI q)), (2, .int (accN (togF d i) (togS d b i + togA d b i) q)), (3, .int (nI i)), (0, .ref m), (1, .int (bI b))]) (fun (q : Nat) => q ≤ togN d b i) 0 (Nat.zero_le _) (lv_sub hl [0, 1, 2, 3, 4] rfl) ?_
        clear hl
        rintro q ls hI_45 hl ih_45
        have hq := hI_45
        have hti := togN_le d b i
        refine lv_iload hx hb dX5_together_45 (lv_at hl 0 rfl) ?_
        refine lv_iload_n hx hb dX5_together_47 rfl (lv_at hl 2 rfl) ?_
        refine z_ge (tgt := 123) hx hb (by omega) (by omega) dX5_together_48 (by decide) (fun c48 => ?_) (fun c48 => ?_)
        · refine lv_iinc (v := (nI (i + 1))) (lv' := [(3, .int (nI (i + 1))), (4, .int (nI q)), (2, .int (accN (togF d i) (togS d b i + togA d b i) q)), (0, .ref m), (1, .int (bI b))]) hx hb dX5_together_123 hl (k := 2) rfl (in1 _) (by decide) rfl (fun ls hl => ?_)
          refine lv_goto (tgt := 4) hx hb dX5_together_126 (by decide) ?_
          have hl := lv_repl (l' := [(3, .int (nI (i + 1))), (4, .int (nI q)), (2, .int (togS d b (i + 1))), (0, .ref m), (1, .int (bI b))]) hl 2 rfl (by rw [show togS d b (i + 1) = accN (togF d i) (togS d b i + togA d b i) (togN d b i) from rfl, show q = togN d b i by first | omega | (exact togN_q0 (hq) (by unfold togN; rw [if_neg (bf c52)])) | (exact togN_q0 (hq) (by unfold togN; rw [if_neg c62]; split <;> rfl))]) rfl
          exact ih_4 (i + 1) _ (by omega) (by omega) (lv_sub hl [0, 2, 3, 4] rfl)
        · refine lv_iload_n hx hb dX5_together_51 rfl (lv_at hl 4 rfl) ?_
          refine z_ifeq (tgt := 123) hx hb dX5_together_52 (by decide) (fun c52 => ?_) (fun c52 => ?_)
          · refine lv_iinc (v := (nI (i + 1))) (lv' := [(3, .int (nI (i + 1))), (4, .int (nI q)), (2, .int (accN (togF d i) (togS d b i + togA d b i) q)), (0, .ref m), (1, .int (bI b))]) hx hb dX5_together_123 hl (k := 2) rfl (in1 _) (by decide) rfl (fun ls hl => ?_)
            refine lv_goto (tgt := 4) hx hb dX5_together_126 (by decide) ?_
            have hl := lv_repl (l' := [(3, .int (nI (i + 1))), (4, .int (nI q)), (2, .int (togS d b (i + 1))), (0, .ref m), (1, .int (bI b))]) hl 2 rfl (by rw [show togS d b (i + 1) = accN (togF d i) (togS d b i + togA d b i) (togN d b i) from rfl, show q = togN d b i by first | omega | (exact togN_q0 (hq) (by unfold togN; rw [if_neg (bf c52)])) | (exact togN_q0 (hq) (by unfold togN; rw [if_neg c62]; split <;> rfl))]) rfl
            exact ih_4 (i + 1) _ (by omega) (by omega) (lv_sub hl [0, 2, 3, 4] rfl)
          · refine lv_aload_n hx hb dX5_together_55 rfl (lv_at hl 3 rfl) ?_
            refine lv_iload_n hx hb dX5_together_56 rfl (lv_at hl 2 rfl) ?_
            refine lv_iconst (v := (nI 4)) hx hb dX5_together_57 (by decide) ?_
            refine z_callV (As := [.int (nI i), .int (nI 4)]) (rest := []) hF hK (c_X5_of l D y m d i 4 (by omega) (by omega)) (cwV 2 hts gX5_together_X5_of rfl rfl rfl (by decide +kernel) ⟨Nat.le_of_ble_eq_true rfl, Nat.le_of_ble_eq_true rfl⟩) (z_recv (q := (RX5, TX5, 9)) hK hO rfl) hΦ rfl hl.1 rfl (Nat.le_of_ble_eq_true rfl) dX5_together_58 ⟨Nat.zero_le _, Nat.zero_le _⟩ ?_
            refine lv_iconst (v := (nI 1)) hx hb dX5_together_61 (by decide) ?_
            refine lv_icmp_ne (tgt := 123) hx hb dX5_together_62 (by decide) (fun c62 => ?_) (fun c62 => ?_)
            · refine lv_iinc (v := (nI (i + 1))) (lv' := [(3, .int (nI (i + 1))), (4, .int (nI q)), (2, .int (accN (togF d i) (togS d b i + togA d b i) q)), (0, .ref m), (1, .int (bI b))]) hx hb dX5_together_123 hl (k := 2) rfl (in1 _) (by decide) rfl (fun ls hl => ?_)
              refine lv_goto (tgt := 4) hx hb dX5_together_126 (by decide) ?_
              have hl := lv_repl (l' := [(3, .int (nI (i + 1))), (4, .int (nI q)), (2, .int (togS d b (i + 1))), (0, .ref m), (1, .int (bI b))]) hl 2 rfl (by rw [show togS d b (i + 1) = accN (togF d i) (togS d b i + togA d b i) (togN d b i) from rfl, show q = togN d b i by first | omega | (exact togN_q0 (hq) (by unfold togN; rw [if_neg (bf c52)])) | (exact togN_q0 (hq) (by unfold togN; rw [if_neg c62]; split <;> rfl))]) rfl
              exact ih_4 (i + 1) _ (by omega) (by omega) (lv_sub hl [0, 2, 3, 4] rfl)
            · refine lv_iload_n hx hb dX5_together_65 rfl (lv_at hl 1 rfl) ?_
              refine lv_aload_n hx hb dX5_together_66 rfl (lv_at hl 3 rfl) ?_
              refine lv_iload hx hb dX5_together_67 (lv_at hl 0 rfl) ?_
              refine lv_iconst (v := (nI 4)) hx hb dX5_together_69 (by decide) ?_
              refine z_callV (As := [.int (nI q), .int (nI 4)]) (rest := [.int (accN (togF d i) (togS d b i + togA d b i) q)]) hF hK (c_X5_of l D y m d q 4 (by omega) (by omega)) (cwV 2 hts gX5_together_X5_of rfl rfl rfl (by decide +kernel) ⟨Nat.le_of_ble_eq_true rfl, Nat.le_of_ble_eq_true rfl⟩) (z_recv (q := (RX5, TX5, 9)) hK hO rfl) hΦ rfl hl.1 rfl (Nat.le_of_ble_eq_true rfl) dX5_together_70 ⟨Nat.zero_le _, Nat.zero_le _⟩ ?_
              refine lv_iconst (v := (nI 1)) hx hb dX5_together_73 (by decide) ?_
              refine lv_icmp_ne (tgt := 114) hx hb dX5_together_74 (by decide) (fun c74 => ?_) (fun c74 => ?_)
              · refine lv_iconst (v := (nI 0)) hx hb dX5_together_114 (by decide) ?_
                refine lv_iadd hx hb dX5_together_115 ?_
                refine lv_istore_n (lv' := [(2, .int ((accN (togF d i) (togS d b i + togA d b i) q) + (nI 0))), (4, .int (nI q)), (3, .int (nI i)), (0, .ref m), (1, .int (bI b))]) hx hb dX5_together_116 rfl hl (by decide) rfl (fun ls hl => ?_)
                refine lv_iinc (v := (nI (q + 1))) (lv' := [(4, .int (nI (q + 1))), (2, .int ((accN (togF d i) (togS d b i + togA d b i) q) + (nI 0))), (3, .int (nI i)), (0, .ref m), (1, .int (bI b))]) hx hb dX5_together_117 hl (k := 1) rfl (in1 _) (by decide) rfl (fun ls hl => ?_)
                refine lv_goto (tgt := 45) hx hb dX5_together_120 (by decide) ?_
                have hl := lv_repl (l' := [(4, .int (nI (q + 1))), (2, .int (accN (togF d i) (togS d b i + togA d b i) (q + 1))), (3, .int (nI i)), (0, .ref m), (1, .int (bI b))]) hl 1 rfl (by rw [accN_s, togF]; first | (rw [if_neg c74]; done) | (rw [if_pos c74, if_pos c107]; done) | (rw [if_pos c74, if_neg (bf c107)]; done)) rfl
                exact ih_45 (q + 1) _ (by omega) (by rw [togN, if_pos c52, if_pos c62]; omega) (lv_sub hl [0, 1, 2, 3, 4] rfl)
              · refine lv_aload_n hx hb dX5_together_77 rfl (lv_at hl 3 rfl) ?_
                refine lv_aload_n hx hb dX5_together_78 rfl (lv_at hl 3 rfl) ?_
                refine lv_iload_n hx hb dX5_together_79 rfl (lv_at hl 2 rfl) ?_
                refine lv_iconst (v := (nI 0)) hx hb dX5_together_80 (by decide) ?_
                refine z_callV (As := [.int (nI i), .int (nI 0)]) (rest := [.ref m, .int (accN (togF d i) (togS d b i + togA d b i) q)]) hF hK (c_X5_of l D y m d i 0 (by omega) (by omega)) (cwV 2 hts gX5_together_X5_of rfl rfl rfl (by decide +kernel) ⟨Nat.le_of_ble_eq_true rfl, Nat.le_of_ble_eq_true rfl⟩) (z_recv (q := (RX5, TX5, 9)) hK hO rfl) hΦ rfl hl.1 rfl (Nat.le_of_ble_eq_true rfl) dX5_together_81 ⟨Nat.zero_le _, Nat.zero_le _⟩ ?_
                refine z_topi (z := (nI (pC d i))) (hI.pc (by omega)) ?_
                refine lv_aload_n hx hb dX5_together_84 rfl (lv_at hl 3 rfl) ?_
                refine lv_iload_n hx hb dX5_together_85 rfl (lv_at hl 2 rfl) ?_
                refine lv_iconst (v := (nI 1)) hx hb dX5_together_86 (by decide) ?_
                refine z_callV (As := [.int (nI i), .int (nI 1)]) (rest := [.int (nI (pC d i)), .ref m, .int (accN (togF d i) (togS d b i + togA d b i) q)]) hF hK (c_X5_of l D y m d i 1 (by omega) (by omega)) (cwV 2 hts gX5_together_X5_of rfl rfl rfl (by decide +kernel) ⟨Nat.le_of_ble_eq_true rfl, Nat.le_of_ble_eq_true rfl⟩) (z_recv (q := (RX5, TX5, 9)) hK hO rfl) hΦ rfl hl.1 rfl (Nat.le_of_ble_eq_true rfl) dX5_together_87 ⟨Nat.zero_le _, Nat.zero_le _⟩ ?_
                refine lv_aload_n hx hb dX5_together_90 rfl (lv_at hl 3 rfl) ?_
                refine lv_iload_n hx hb dX5_together_91 rfl (lv_at hl 2 rfl) ?_
                refine lv_iconst (v := (nI 2)) hx hb dX5_together_92 (by decide) ?_
                refine z_callV (As := [.int (nI i), .int (nI 2)]) (rest := [.int (pm d i 1), .int (nI (pC d i)), .ref m, .int (accN (togF d i) (togS d b i + togA d b i) q)]) hF hK (c_X5_of l D y m d i 2 (by omega) (by omega)) (cwV 2 hts gX5_together_X5_of rfl rfl rfl (by decide +kernel) ⟨Nat.le_of_ble_eq_true rfl, Nat.le_of_ble_eq_true rfl⟩) (z_recv (q := (RX5, TX5, 9)) hK hO rfl) hΦ rfl hl.1 rfl (Nat.le_of_ble_eq_true rfl) dX5_together_93 ⟨Nat.zero_le _, Nat.zero_le _⟩ ?_
                refine lv_aload_n hx hb dX5_together_96 rfl (lv_at hl 3 rfl) ?_
                refine lv_iload_n hx hb dX5_together_97 rfl (lv_at hl 2 rfl) ?_
                refine lv_iconst (v := (nI 3)) hx hb dX5_together_98 (by decide) ?_
                refine z_callV (As := [.int (nI i), .int (nI 3)]) (rest := [.int (pm d i 2), .int (pm d i 1), .int (nI (pC d i)), .ref m, .int (accN (togF d i) (togS d b i + togA d b i) q)]) hF hK (c_X5_of l D y m d i 3 (by omega) (by omega)) (cwV 2 hts gX5_together_X5_of rfl rfl rfl (by decide +kernel) ⟨Nat.le_of_ble_eq_true rfl, Nat.le_of_ble_eq_true rfl⟩) (z_recv (q := (RX5, TX5, 9)) hK hO rfl) hΦ rfl hl.1 rfl (Nat.le_of_ble_eq_true rfl) dX5_together_99 ⟨Nat.zero_le _, Nat.zero_le _⟩ ?_
                refine lv_iload hx hb dX5_together_102 (lv_at hl 0 rfl) ?_
                refine z_callV (As := [.int (nI (pC d i)), .int (pm d i 1), .int (pm d i 2), .int (pm d i 3), .int (nI q)]) (rest := [.int (accN (togF d i) (togS d b i + togA d b i) q)]) hF hK (c_X5_air l D y m d (pC d i) (pm d i 1) (pm d i 2) (pm d i 3) q (hI) (hI.pc8 (by omega)) (by omega)) (cwV 5 hts gX5_together_X5_air rfl rfl rfl (by decide +kernel) ⟨Nat.le_of_ble_eq_true rfl, Nat.le_of_ble_eq_true rfl⟩) (z_recv (q := (RX5, TX5, 9)) hK hO rfl) hΦ rfl hl.1 rfl (Nat.le_of_ble_eq_true rfl) dX5_together_104 ⟨Nat.zero_le _, Nat.zero_le _⟩ ?_
                refine z_ifeq (tgt := 114) hx hb dX5_together_107 (by decide) (fun c107 => ?_) (fun c107 => ?_)
                · refine lv_iconst (v := (nI 0)) hx hb dX5_together_114 (by decide) ?_
                  refine lv_iadd hx hb dX5_together_115 ?_
                  refine lv_istore_n (lv' := [(2, .int ((accN (togF d i) (togS d b i + togA d b i) q) + (nI 0))), (4, .int (nI q)), (3, .int (nI i)), (0, .ref m), (1, .int (bI b))]) hx hb dX5_together_116 rfl hl (by decide) rfl (fun ls hl => ?_)
                  refine lv_iinc (v := (nI (q + 1))) (lv' := [(4, .int (nI (q + 1))), (2, .int ((accN (togF d i) (togS d b i + togA d b i) q) + (nI 0))), (3, .int (nI i)), (0, .ref m), (1, .int (bI b))]) hx hb dX5_together_117 hl (k := 1) rfl (in1 _) (by decide) rfl (fun ls hl => ?_)
                  refine lv_goto (tgt := 45) hx hb dX5_together_120 (by decide) ?_
                  have hl := lv_repl (l' := [(4, .int (nI (q + 1))), (2, .int (accN (togF d i) (togS d b i + togA d b i) (q + 1))), (3, .int (nI i)), (0, .ref m), (1, .int (bI b))]) hl 1 rfl (by rw [accN_s, togF]; first | (rw [if_neg c74]; done) | (rw [if_pos c74, if_pos c107]; done) | (rw [if_pos c74, if_neg (bf c107)]; done)) rfl
                  exact ih_45 (q + 1) _ (by omega) (by rw [togN, if_pos c52, if_pos c62]; omega) (lv_sub hl [0, 1, 2, 3, 4] rfl)
                · refine lv_iconst (v := (nI 1)) hx hb dX5_together_110 (by decide) ?_
                  refine lv_goto (tgt := 115) hx hb dX5_together_111 (by decide) ?_
                  refine lv_iadd hx hb dX5_together_115 ?_
                  refine lv_istore_n (lv' := [(2, .int ((accN (togF d i) (togS d b i + togA d b i) q) + (nI 1))), (4, .int (nI q)), (3, .int (nI i)), (0, .ref m), (1, .int (bI b))]) hx hb dX5_together_116 rfl hl (by decide) rfl (fun ls hl => ?_)
                  refine lv_iinc (v := (nI (q + 1))) (lv' := [(4, .int (nI (q + 1))), (2, .int ((accN (togF d i) (togS d b i + togA d b i) q) + (nI 1))), (3, .int (nI i)), (0, .ref m), (1, .int (bI b))]) hx hb dX5_together_117 hl (k := 1) rfl (in1 _) (by decide) rfl (fun ls hl => ?_)
                  refine lv_goto (tgt := 45) hx hb dX5_together_120 (by decide) ?_
                  have hl := lv_repl (l' := [(4, .int (nI (q + 1))), (2, .int (accN (togF d i) (togS d b i + togA d b i) (q + 1))), (3, .int (nI i)), (0, .ref m), (1, .int (bI b))]) hl 1 rfl (by rw [accN_s, togF]; first | (rw [if_neg c74]; done) | (rw [if_pos c74, if_pos c107]; done) | (rw [if_pos c74, if_neg (bf c107)]; done)) rfl
                  exact ih_45 (q + 1) _ (by omega) (by rw [togN, if_pos c52, if_pos c62]; omega) (lv_sub hl [0, 1, 2, 3, 4] rfl)
