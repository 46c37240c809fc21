/-! THE LAW: its loops -/
set_option maxRecDepth 100000 in
set_option maxHeartbeats 4000000 in
theorem law_loop2 {p : Program} {l : Launch} {e : Env} {s : State} {m : MethodId} {below : List Frame} {meth : Method} {c : Code} {b L x : Nat} {xs : Nat → Int32} {D : va_G} {y : zY} (hC : lwX p s m meth c b L x xs D y) {H : Heap} {locs : List Loc} {ls : Array Slot} (hI : lI D y x s 0 0 4 H locs) (hl : lv_has ls 18 [(3, .int (nI 0)), (2, .int (nI 1)), (1, .ref x), (0, .ref b)]) : W p l e room_1 s m #[Value.ref b] below meth c H locs (78 + 0) (5330 + 7 * 0) (lw_Z below #[Value.ref b] s) (F0 m 127 ls []) := by
  refine z_loopC (S := Nat) (nL := 18) (cN := fun u => 78 + u) (sN := fun u => 5330 + 7 * u) (fun u => 40 - u) (fun u => [(3, .int (nI u)), (2, .int (nI 1)), (1, .ref x), (0, .ref b)]) (fun u H locs => lI D y x s u u 4 H locs ∧ u ≤ 32) 0 ⟨hI, by decide⟩ hl rfl rfl ?_
  clear hl hI
  rintro u H locs ls ⟨hI0, h0b⟩ hl ih
  try dsimp only at hl ih ⊢
  obtain ⟨hx, hb, hret, hlocks, hF, hK, hXX, hbl, hL, hxs, -⟩ := id hC
  have hts := hF.2.2.2.2
  have hown : s.vm.findClass RL = some m.cls := hF.2.2.2.1
  obtain ⟨d, ca, pa, pk, T, P, k, rot, ts, tn, tx, hJ, hk4, hO, hbs, hS⟩ := hI0
  have hv24 := hJ.1.1.2.1
  have hG2 := hJ.1.1.1.ng2
  refine lv_iload_n hx hb dL_law_127 rfl (lv_at hl 0 rfl) ?_
  refine lv_bipush (v := (nI 32)) hx hb dL_law_128 (by decide) ?_
  refine z_ge (tgt := 748) hx hb (by omega) (by omega) dL_law_130 (by decide) (fun c130 => ?_) (fun c130 => ?_)
  · have hu32 : u = 32 := by omega
    subst hu32
    exact L_end hC ⟨_, _, _, _, _, _, _, _, _, _, _, hJ, hk4, hO, hbs, hS⟩ (lv_sub hl [0, 1, 2, 3] rfl)
  · have hu : u < 32 := by omega
    have hnx : ∀ (H' : Heap) (locs' : List Loc) (ls' : Array Slot), lI D y x s (u + 1) (u + 1) 4 H' locs' → lv_has ls' 18 [(3, .int (nI u)), (2, .int (nI 1)), (1, .ref x), (0, .ref b)] → W p l e room_1 s m #[Value.ref b] below meth c H' locs' (78 + (u + 1)) (5330 + 7 * (u + 1)) (lw_Z below #[Value.ref b] s) (F0 m 716 ls' []) := fun H' locs' ls' h1 h2 => L_716 hC hu h1 h2 (fun H2 locs2 ls2 g1 g2 => ih (u + 1) H2 locs2 ls2 (by omega) ⟨g1, by omega⟩ g2)
    refine lv_iload_n hx hb dL_law_133 rfl (lv_at hl 1 rfl) ?_
    refine n_if_eq (tgt := 748) hx hb (by omega) dL_law_134 (by decide) (fun c => absurd c (by decide)) (fun _ => ?_)
    refine lv_aload_n hx hb dL_law_137 rfl (lv_at hl 3 rfl) ?_
    refine lv_iconst (v := (nI 4)) hx hb dL_law_138 (by decide) ?_
    refine lv_iload_n hx hb dL_law_139 rfl (lv_at hl 0 rfl) ?_
    refine z_iadd hx hb dL_law_140 ?_
    refine z_callSG (Φ := fun U H => va_X b L xs U H) (rm := { frames := 0, cells := 0, slots := 0, locals := 0 }) (As := [.ref b, .int (nI (4 + u))]) (rest := []) (fun u U H h q => va_X.moved h q) hF hK (c_L_cell l D y b L xs (4 + u) (by omega) hL) (va_cwS 2 hts gL_law_L_cell rfl rfl rfl (by decide +kernel) ⟨Nat.le_of_ble_eq_true rfl, Nat.le_of_ble_eq_true rfl⟩) (hXX.kept (hS.2.1 b hbl (Nat.not_le.mpr hbl))) rfl hl.1 rfl (Nat.le_of_ble_eq_true rfl) dL_law_141 ⟨by show _ ≤ 600000; omega, by show _ ≤ 7302250; omega⟩ ?_
    obtain ⟨v, hv, ev⟩ : ∃ v, v < 2147483648 ∧ celI xs L (4 + u) = nI v := cel_n _
    refine z_topi (z := (nI v)) (ev) ?_
    refine lv_istore (lv' := [(4, .int (nI v)), (3, .int (nI u)), (2, .int (nI 1)), (1, .ref x), (0, .ref b)]) hx hb dL_law_144 hl (by decide) rfl (fun ls hl => ?_)
    refine lv_iload hx hb dL_law_146 (lv_at hl 0 rfl) ?_
    refine lv_bipush (v := (nI 8)) hx hb dL_law_148 (by decide) ?_
    refine z_idiv hx hb (by omega) (by omega) (by omega) dL_law_150 ?_
    obtain ⟨z, ez, hz⟩ : ∃ z, v / 8 = z ∧ z < 268435456 := ⟨_, rfl, by omega⟩
    refine z_topi (z := (nI z)) (by rw [ez]) ?_
    refine lv_istore (lv' := [(5, .int (nI z)), (4, .int (nI v)), (3, .int (nI u)), (2, .int (nI 1)), (1, .ref x), (0, .ref b)]) hx hb dL_law_151 hl (by decide) rfl (fun ls hl => ?_)
    refine lv_aload_n hx hb dL_law_153 rfl (lv_at hl 4 rfl) ?_
    refine lv_bipush (v := (nI 6)) hx hb dL_law_154 (by decide) ?_
    obtain ⟨tf, hR⟩ := hO.clR
    refine z_callV (As := [.int (nI 6)]) (rest := []) hF hK (c_X4_count l D y x (x + 70) d ca pa pk k 0 tf (nI 6) (hJ.1.1) (hk4) (by decide)) (cwV 1 hts gL_law_X4_count rfl rfl rfl (by decide +kernel) ⟨Nat.le_of_ble_eq_true rfl, Nat.le_of_ble_eq_true rfl⟩) (xO.recv hK hO) hR rfl hl.1 rfl (Nat.le_of_ble_eq_true rfl) dL_law_156 ⟨by show _ ≤ 600000; omega, by show _ ≤ 7302250; omega⟩ ?_
    refine z_topi (z := (nI 0)) (cnt_c6.trans hJ.2.1.2.1.tog) ?_
    refine lv_istore (lv' := [(6, .int (nI 0)), (5, .int (nI z)), (4, .int (nI v)), (3, .int (nI u)), (2, .int (nI 1)), (1, .ref x), (0, .ref b)]) hx hb dL_law_159 hl (by decide) rfl (fun ls hl => ?_)
    refine lv_iload hx hb dL_law_161 (lv_at hl 2 rfl) ?_
    refine lv_bipush (v := (nI 8)) hx hb dL_law_163 (by decide) ?_
    refine z_irem hx hb (by omega) (by omega) (by omega) dL_law_165 ?_
    rcases (show v % 8 = 0 ∨ v % 8 = 1 ∨ v % 8 = 2 ∨ v % 8 = 3 ∨ v % 8 = 4 ∨ 5 ≤ v % 8 by omega) with c166 | c166 | c166 | c166 | c166 | c166
    · refine lv_tableIn (off := 34) (tgt := 200) hx hb dL_law_166 (by rw [c166]; decide) (by rw [c166]; decide) (by rw [c166]; rfl) (by decide) ?_
      exact L_c0 hC hu hz ⟨_, _, _, _, _, _, _, _, _, _, _, hJ, hk4, hO, hbs, hS⟩ (lv_sub hl [0, 1, 3, 4, 5, 6] rfl) hnx
    · refine lv_tableIn (off := 82) (tgt := 248) hx hb dL_law_166 (by rw [c166]; decide) (by rw [c166]; decide) (by rw [c166]; rfl) (by decide) ?_
      exact L_c1 hC hu hz ⟨_, _, _, _, _, _, _, _, _, _, _, hJ, hk4, hO, hbs, hS⟩ (lv_sub hl [0, 1, 3, 4, 5, 6] rfl) hnx
    · refine lv_tableIn (off := 142) (tgt := 308) hx hb dL_law_166 (by rw [c166]; decide) (by rw [c166]; decide) (by rw [c166]; rfl) (by decide) ?_
      exact L_c2 hC hu hz ⟨_, _, _, _, _, _, _, _, _, _, _, hJ, hk4, hO, hbs, hS⟩ (lv_sub hl [0, 1, 3, 4, 5, 6] rfl) hnx
    · refine lv_tableIn (off := 275) (tgt := 441) hx hb dL_law_166 (by rw [c166]; decide) (by rw [c166]; decide) (by rw [c166]; rfl) (by decide) ?_
      exact L_c3 hC hu hz ⟨_, _, _, _, _, _, _, _, _, _, _, hJ, hk4, hO, hbs, hS⟩ (lv_sub hl [0, 1, 3, 4, 5, 6] rfl) hnx
    · refine lv_tableIn (off := 324) (tgt := 490) hx hb dL_law_166 (by rw [c166]; decide) (by rw [c166]; decide) (by rw [c166]; rfl) (by decide) ?_
      exact L_c4 hC hu hz ⟨_, _, _, _, _, _, _, _, _, _, _, hJ, hk4, hO, hbs, hS⟩ (lv_sub hl [0, 1, 3, 4, 5, 6] rfl) hnx
    · refine lv_tableOut (tgt := 534) hx hb dL_law_166 (Or.inr (by rw [nI_toInt (by omega)]; omega)) (by decide) ?_
      exact L_c5 hC hu hz ⟨_, _, _, _, _, _, _, _, _, _, _, hJ, hk4, hO, hbs, hS⟩ (lv_sub hl [0, 1, 3, 4, 5, 6] rfl) hnx
set_option maxRecDepth 100000 in
set_option maxHeartbeats 4000000 in
theorem law_loop1 {p : Program} {l : Launch} {e : Env} {s : State} {m : MethodId} {below : List Frame} {meth : Method} {c : Code} {b L x : Nat} {xs : Nat → Int32} {D : va_G} {y : zY} (hC : lwX p s m meth c b L x xs D y) {H : Heap} {locs : List Loc} {ls : Array Slot} (hI : lI D y x s 0 0 0 H locs) (hl : lv_has ls 18 [(3, .int (nI 0)), (2, .int (nI 1)), (1, .ref x), (0, .ref b)]) : W p l e room_1 s m #[Value.ref b] below meth c H locs (70 + 2 * 0) (5174 + 39 * 0) (lw_Z below #[Value.ref b] s) (F0 m 33 ls []) := by
  refine z_loopC (S := Nat) (nL := 18) (cN := fun j => 70 + 2 * j) (sN := fun j => 5174 + 39 * j) (fun j => 9 - j) (fun j => [(3, .int (nI j)), (2, .int (nI 1)), (1, .ref x), (0, .ref b)]) (fun j H locs => lI D y x s 0 0 j H locs ∧ j ≤ 4) 0 ⟨hI, by decide⟩ hl rfl rfl ?_
  clear hl hI
  rintro j H locs ls ⟨hI0, h0b⟩ hl ih
  try dsimp only at hl ih ⊢
  obtain ⟨hx, hb, hret, hlocks, hF, hK, hXX, hbl, hL, hxs, -⟩ := id hC
  have hts := hF.2.2.2.2
  have hown : s.vm.findClass RL = some m.cls := hF.2.2.2.1
  obtain ⟨d, ca, pa, pk, T, P, k, rot, ts, tn, tx, hJ, hk4, hO, hbs, hS⟩ := hI0
  have hv24 := hJ.1.1.2.1
  have hG2 := hJ.1.1.1.ng2
  refine lv_iload_n hx hb dL_law_33 rfl (lv_at hl 0 rfl) ?_
  refine lv_iconst (v := (nI 4)) hx hb dL_law_34 (by decide) ?_
  refine z_ge (tgt := 125) hx hb (by omega) (by omega) dL_law_35 (by decide) (fun c35 => ?_) (fun c35 => ?_)
  · have hj4 : j = 4 := by omega
    subst hj4
    refine lv_iconst (v := (nI 0)) hx hb dL_law_125 (by decide) ?_
    refine lv_istore_n (lv' := [(3, .int (nI 0)), (2, .int (nI 1)), (1, .ref x), (0, .ref b)]) hx hb dL_law_126 rfl hl (by decide) rfl (fun ls hl => ?_)
    exact law_loop2 hC ⟨_, _, _, _, _, _, _, _, _, _, _, hJ, hk4, hO, hbs, hS⟩ (lv_sub hl [0, 1, 2, 3] rfl)
  · refine lv_iload_n hx hb dL_law_38 rfl (lv_at hl 1 rfl) ?_
    refine n_if_eq (tgt := 125) hx hb (by omega) dL_law_39 (by decide) (fun c => absurd c (by decide)) (fun _ => ?_)
    refine lv_aload_n hx hb dL_law_42 rfl (lv_at hl 3 rfl) ?_
    refine lv_iload_n hx hb dL_law_43 rfl (lv_at hl 0 rfl) ?_
    refine z_callSG (Φ := fun U H => va_X b L xs U H) (rm := { frames := 0, cells := 0, slots := 0, locals := 0 }) (As := [.ref b, .int (nI j)]) (rest := []) (fun u U H h q => va_X.moved h q) hF hK (c_L_cell l D y b L xs j (by omega) hL) (va_cwS 2 hts gL_law_L_cell rfl rfl rfl (by decide +kernel) ⟨Nat.le_of_ble_eq_true rfl, Nat.le_of_ble_eq_true rfl⟩) (hXX.kept (hS.2.1 b hbl (Nat.not_le.mpr hbl))) rfl hl.1 rfl (Nat.le_of_ble_eq_true rfl) dL_law_44 ⟨by show _ ≤ 600000; omega, by show _ ≤ 7302250; omega⟩ ?_
    obtain ⟨v, hv, ev⟩ : ∃ v, v < 2147483648 ∧ celI xs L j = nI v := cel_n _
    have hok9 := ok_cr (x := v % 16) (z := 5 * j) (r := 1 + v / 16 % 8) (h := 10 + v / 128 % 60) (st := v / 8192 % 3) (no := 1 + v / 32768 % 6) (by omega) (by omega) (by omega) (by omega) (by omega) (by omega)
    have hcr := s_crane hJ (show j < 4 by omega) (show v % 16 < 16 by omega) hok9
    refine z_topi (z := (nI v)) (ev) ?_
    refine lv_istore (lv' := [(4, .int (nI v)), (3, .int (nI j)), (2, .int (nI 1)), (1, .ref x), (0, .ref b)]) hx hb dL_law_47 hl (by decide) rfl (fun ls hl => ?_)
    refine lv_aload_n hx hb dL_law_49 rfl (lv_at hl 3 rfl) ?_
    refine lv_iload hx hb dL_law_50 (lv_at hl 0 rfl) ?_
    refine lv_bipush (v := (nI 16)) hx hb dL_law_52 (by decide) ?_
    refine z_irem hx hb (by omega) (by omega) (by omega) dL_law_54 ?_
    refine lv_iconst (v := (nI 5)) hx hb dL_law_55 (by decide) ?_
    refine lv_iload_n hx hb dL_law_56 rfl (lv_at hl 1 rfl) ?_
    refine z_imul hx hb dL_law_57 ?_
    refine lv_iconst (v := (nI 1)) hx hb dL_law_58 (by decide) ?_
    refine lv_iload hx hb dL_law_59 (lv_at hl 0 rfl) ?_
    refine lv_bipush (v := (nI 16)) hx hb dL_law_61 (by decide) ?_
    refine z_idiv hx hb (by omega) (by omega) (by omega) dL_law_63 ?_
    refine lv_bipush (v := (nI 8)) hx hb dL_law_64 (by decide) ?_
    refine z_irem hx hb (by omega) (by omega) (by omega) dL_law_66 ?_
    refine z_iadd hx hb dL_law_67 ?_
    refine lv_bipush (v := (nI 10)) hx hb dL_law_68 (by decide) ?_
    refine lv_iload hx hb dL_law_70 (lv_at hl 0 rfl) ?_
    refine lv_sipush (v := (nI 128)) hx hb dL_law_72 (by decide) ?_
    refine z_idiv hx hb (by omega) (by omega) (by omega) dL_law_75 ?_
    refine lv_bipush (v := (nI 60)) hx hb dL_law_76 (by decide) ?_
    refine z_irem hx hb (by omega) (by omega) (by omega) dL_law_78 ?_
    refine z_iadd hx hb dL_law_79 ?_
    refine lv_iload hx hb dL_law_80 (lv_at hl 0 rfl) ?_
    refine lv_sipush (v := (nI 8192)) hx hb dL_law_82 (by decide) ?_
    refine z_idiv hx hb (by omega) (by omega) (by omega) dL_law_85 ?_
    refine lv_iconst (v := (nI 3)) hx hb dL_law_86 (by decide) ?_
    refine z_irem hx hb (by omega) (by omega) (by omega) dL_law_87 ?_
    refine lv_iconst (v := (nI 1)) hx hb dL_law_88 (by decide) ?_
    refine lv_iload hx hb dL_law_89 (lv_at hl 0 rfl) ?_
    refine lv_ldc (v := 32768) hx hb hown (hts (.constant RL 51 (32768)) (List.mem_of_getElem? (i := 3) rfl)) dL_law_91 ?_
    refine z_topi (z := nI 32768) rfl ?_
    refine z_idiv hx hb (by omega) (by omega) (by omega) dL_law_93 ?_
    refine lv_bipush (v := (nI 6)) hx hb dL_law_94 (by decide) ?_
    refine z_irem hx hb (by omega) (by omega) (by omega) dL_law_96 ?_
    refine z_iadd hx hb dL_law_97 ?_
    refine w_callV (As := [.int (nI (v % 16)), .int (nI (5 * j)), .int (nI (1 + ((v / 16) % 8))), .int (nI (10 + ((v / 128) % 60))), .int (nI ((v / 8192) % 3)), .int (nI (1 + ((v / 32768) % 6)))]) (rest := []) hF hK (c_X4_crane_ok l D y x (x + 70) d ca pa pk T P k rot 0 ts tn tx (nI (v % 16)) (nI (5 * j)) (nI (1 + ((v / 16) % 8))) (nI (10 + ((v / 128) % 60))) (nI ((v / 8192) % 3)) (nI (1 + ((v / 32768) % 6))) (hJ.1.1) (hk4) (Nat.le_refl _) (hok9) (hcr.1) (by rw [hJ.2.2.2.2]; omega)) (cwV 6 hts gL_law_X4_crane rfl rfl rfl (by decide +kernel) ⟨Nat.le_of_ble_eq_true rfl, Nat.le_of_ble_eq_true rfl⟩) (xO.recv hK hO) ⟨hO, hbs⟩ hS (fun q h => by rw [hxs]; exact xB_hi (by omega) h) rfl hl.1 rfl (Nat.le_of_ble_eq_true rfl) dL_law_98 ⟨by show _ ≤ 600000; omega, by show _ ≤ 7302250; omega⟩ (fun H1 locs1 hq hz1 hk hS => ?_)
    obtain ⟨q9, hq⟩ := hq
    have hcj := hJ.2.2.2.2
    have hJ := hcr.2
    have hO := xO.conv hq hJ.1.1.1 (fun i _ _ _ => rfl)
    have hbs := Nat.le_trans hbs hz1
    have hk4 := recN_le hk4
    clear hq hz1 hk
    refine lv_iload_n hx hb dL_law_101 rfl (lv_at hl 1 rfl) ?_
    refine z_ne (tgt := 117) hx hb (by omega) (by omega) dL_law_102 (by decide) (fun c102 => ?_) (fun c102 => ?_)
    · exact absurd hcj c102
    · refine lv_aload_n hx hb dL_law_105 rfl (lv_at hl 3 rfl) ?_
      refine lv_iload_n hx hb dL_law_106 rfl (lv_at hl 1 rfl) ?_
      obtain ⟨tf, hR⟩ := hO.clR
      refine z_callS (As := [.ref x, .int (nI j)]) (rest := []) hF hK (c_L_swings l D y x (x + 70) (addC d (nI (v % 16)) (nI (5 * j)) (nI (1 + v / 16 % 8)) (nI (10 + v / 128 % 60)) (nI (v / 8192 % 3)) (nI (1 + v / 32768 % 6))) (va_up ca (nC d) q9) pa pk (recN k) 0 tf j (hJ.1.1) (hJ.2.2.1) (by rw [hJ.2.2.2.2]; omega) (by omega) (hk4) (by decide)) (va_cwS 2 hts gL_law_L_swings rfl rfl rfl (by decide +kernel) ⟨Nat.le_of_ble_eq_true rfl, Nat.le_of_ble_eq_true rfl⟩) hR rfl hl.1 rfl (Nat.le_of_ble_eq_true rfl) dL_law_107 ⟨by show _ ≤ 600000; omega, by show _ ≤ 7302250; omega⟩ ?_
      refine z_ifeq (tgt := 117) hx hb dL_law_110 (by decide) (fun c110 => ?_) (fun c110 => ?_)
      · exact absurd c110 (by decide)
      · refine lv_iconst (v := (nI 1)) hx hb dL_law_113 (by decide) ?_
        refine lv_goto (tgt := 118) hx hb dL_law_114 (by decide) ?_
        refine lv_istore_n (lv' := [(2, .int (nI 1)), (4, .int (nI v)), (3, .int (nI j)), (1, .ref x), (0, .ref b)]) hx hb dL_law_118 rfl hl (by decide) rfl (fun ls hl => ?_)
        refine lv_iinc (v := (nI (j + 1))) (lv' := [(3, .int (nI (j + 1))), (2, .int (nI 1)), (4, .int (nI v)), (1, .ref x), (0, .ref b)]) hx hb dL_law_119 hl (k := 2) rfl (in1 _) (by decide) rfl (fun ls hl => ?_)
        refine lv_goto (tgt := 33) hx hb dL_law_122 (by decide) ?_
        refine W.widen (k := 70 + 2 * (j + 1)) (n := 5174 + 39 * (j + 1)) (by omega) (by omega) ?_
        exact ih (j + 1) _ _ _ (by omega) ⟨⟨_, _, _, _, _, _, _, _, _, _, _, hJ, hk4, hO, hbs, hS⟩, by omega⟩ (lv_sub hl [0, 1, 3, 4] rfl)
set_option maxRecDepth 100000 in
set_option maxHeartbeats 4000000 in
theorem L_first {p : Program} {l : Launch} {e : Env} {s : State} {m : MethodId} {below : List Frame} {meth : Method} {c : Code} {b L x : Nat} {xs : Nat → Int32} {D : va_G} {y : zY} (hC : lwX p s m meth c b L x xs D y) {ca pa pk : Nat → Nat} {T : Pic} {P : Nat → Pic} {rot : Nat} {ts : Int32} {tn : Nat} {tx : Nat → Int32} {H : Heap} {locs : List Loc} {ls : Array Slot} (hO : xO D y (x + 70) x (iniD 120, ca, pa, pk) T P 0 rot 0 ts tn tx H) (hbs : x + 70 ≤ H.size) (hS : va_S (fun z : Nat => s.heap.size ≤ z) s.heap H locs) (hl : lv_has ls 18 [(1, .ref x), (0, .ref b)]) : W p l e room_1 s m #[Value.ref b] below meth c H locs (70 + 2 * 0) (5174 + 39 * 0) (lw_Z below #[Value.ref b] s) (F0 m 8 ls []) := by
  obtain ⟨hx, hb, hret, hlocks, hF, hK, hXX, hbl, hL, hxs, -⟩ := id hC
  have hts := hF.2.2.2.2
  have hown : s.vm.findClass RL = some m.cls := hF.2.2.2.1
  have hJ := lJ.ini
  have hk4 : 0 ≤ 4 := by decide
  have hv24 := hJ.1.1.2.1
  have hG2 := hJ.1.1.1.ng2
  refine lv_aload_n hx hb dL_law_8 rfl (lv_at hl 0 rfl) ?_
  obtain ⟨tf, hR⟩ := hO.clR
  refine z_callS (As := [.ref x]) (rest := []) hF hK (c_L_holds l D y x (x + 70) (iniD 120) ca pa pk 0 0 tf 0 (hJ.1) (by omega) (hJ.2.1) (hk4) (by decide)) (va_cwS 1 hts gL_law_L_holds rfl rfl rfl (by decide +kernel) ⟨Nat.le_of_ble_eq_true rfl, Nat.le_of_ble_eq_true rfl⟩) hR rfl hl.1 rfl (Nat.le_of_ble_eq_true rfl) dL_law_9 ⟨by show _ ≤ 600000; omega, by show _ ≤ 7302250; omega⟩ ?_
  refine z_ifeq (tgt := 29) hx hb dL_law_12 (by decide) (fun c12 => ?_) (fun c12 => ?_)
  · exact absurd c12 (by decide)
  · refine lv_aload_n hx hb dL_law_15 rfl (lv_at hl 0 rfl) ?_
    refine z_callV (As := []) (rest := []) hF hK (c_X4_undo_no l D y x (x + 70) (iniD 120) ca pa pk 0 0 tf (hJ.1.1) (hk4) (by decide) (rfl)) (cwV 0 hts gL_law_X4_undo rfl rfl rfl (by decide +kernel) ⟨Nat.le_of_ble_eq_true rfl, Nat.le_of_ble_eq_true rfl⟩) (xO.recv hK hO) hR rfl hl.1 rfl (Nat.le_of_ble_eq_true rfl) dL_law_16 ⟨by show _ ≤ 600000; omega, by show _ ≤ 7302250; omega⟩ ?_
    refine lv_sipush (v := (-1002)) hx hb dL_law_19 (by decide) ?_
    refine lv_icmp_ne (tgt := 29) hx hb dL_law_22 (by decide) (fun c22 => ?_) (fun c22 => ?_)
    · exact absurd rfl c22
    · refine lv_iconst (v := (nI 1)) hx hb dL_law_25 (by decide) ?_
      refine lv_goto (tgt := 30) hx hb dL_law_26 (by decide) ?_
      refine lv_istore_n (lv' := [(2, .int (nI 1)), (1, .ref x), (0, .ref b)]) hx hb dL_law_30 rfl hl (by decide) rfl (fun ls hl => ?_)
      refine lv_iconst (v := (nI 0)) hx hb dL_law_31 (by decide) ?_
      refine lv_istore_n (lv' := [(3, .int (nI 0)), (2, .int (nI 1)), (1, .ref x), (0, .ref b)]) hx hb dL_law_32 rfl hl (by decide) rfl (fun ls hl => ?_)
      exact law_loop1 hC ⟨_, _, _, _, _, _, _, _, _, _, _, hJ, hk4, hO, hbs, hS⟩ (lv_sub hl [0, 1, 2, 3] rfl)
