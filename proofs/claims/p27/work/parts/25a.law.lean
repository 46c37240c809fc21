/-! THE LAW'S OWN METHODS -/
def celI (xs : Nat → Int32) (L k : Nat) : Int32 := (if k < L then xs k else 15485959 * nI k + nI 109) &&& 2147483647
theorem cel_n (x : Int32) : ∃ v, v < 2147483648 ∧ x &&& 2147483647 = nI v := by
  refine ⟨x.toBitVec.toNat % 2147483648, Nat.mod_lt _ (by decide), Int32.toBitVec_inj.mp (BitVec.eq_of_toNat_eq ?_)⟩
  rw [Int32.toBitVec_and, BitVec.toNat_and, show (2147483647 : Int32).toBitVec.toNat = 2 ^ 31 - 1 from rfl, Nat.and_two_pow_sub_one_eq_mod]
  show _ = (BitVec.ofNat 32 _).toNat
  rw [BitVec.toNat_ofNat]
  omega
set_option maxRecDepth 100000 in
set_option maxHeartbeats 4000000 in
theorem c_L_cell (l : Launch) (D : va_G) (y : zY) (b L : Nat) (xs : Nat → Int32) (k : Nat) (hk : k < 1000) (hL : L ≤ 260) : Met l yL_cell wsL_cell ({ frames := 0, cells := 0, slots := 0, locals := 0 }) (zPg [.ref b, .int (nI k)] (fun U H => va_X b L xs U H) D y) (zQ (some (.int (celI xs L k)))) 0 0 nofree := by
  refine z_bodyG (cc := cL_cell) (maxL := 2) (ret := (some .int)) (la := [(0, .ref b), (1, .int (nI k))]) (by decide) rfl (Nat.le_of_ble_eq_true rfl) rfl ?_
  intro pg ev s mm below meth c0 ls hx hb hr hF hlocks hΦ hK hl _
  have hts := hF.2.2.2.2
  have hown : s.vm.findClass RL = some mm.cls := hF.2.2.2.1
  have hX : va_X b L xs s s.heap := hΦ
  have hbl : b < s.heap.size := (Array.getElem?_eq_some_iff.mp hX.choose_spec.1).1
  refine lv_iload_n hx hb dL_cell_0 rfl (lv_at hl 1 rfl) ?_
  refine lv_aload_n hx hb dL_cell_1 rfl (lv_at hl 0 rfl) ?_
  refine va_slen (A := fun _ => False) hx hb hX hbl (fun h => h) va_S.rf dL_cell_2 ?_
  refine z_ge (b := L) (tgt := 12) hx hb (by omega) (by omega) dL_cell_3 (by decide) (fun c3 => ?_) (fun c3 => ?_)
  · refine lv_ldc (v := 15485959) hx hb hown (hts (.constant RL 7 15485959) (List.mem_of_getElem? (i := 1) rfl)) dL_cell_12 ?_
    refine lv_iload_n hx hb dL_cell_14 rfl (lv_at hl 1 rfl) ?_
    refine lv_imul hx hb dL_cell_15 ?_
    refine lv_bipush (v := nI 109) hx hb dL_cell_16 (by decide) ?_
    refine lv_iadd hx hb dL_cell_18 ?_
    refine lv_ldc (v := 2147483647) hx hb hown (hts (.constant RL 8 2147483647) (List.mem_of_getElem? (i := 2) rfl)) dL_cell_19 ?_
    refine lv_iand hx hb dL_cell_21 ?_
    exact z_reti hx hb hr hlocks rfl (by unfold celI; rw [if_neg (by omega)]) dL_cell_22
  · refine lv_aload_n hx hb dL_cell_6 rfl (lv_at hl 0 rfl) ?_
    refine lv_iload_n hx hb dL_cell_7 rfl (lv_at hl 1 rfl) ?_
    refine va_sld (A := fun _ => False) hx hb hX hbl (fun h => h) va_S.rf (vp_in_nI (by omega) (by omega)) dL_cell_8 ?_
    refine z_topi (z := xs k) (by rw [nI_clamp (by omega)]) ?_
    refine lv_goto (tgt := 19) hx hb dL_cell_9 (by decide) ?_
    refine lv_ldc (v := 2147483647) hx hb hown (hts (.constant RL 8 2147483647) (List.mem_of_getElem? (i := 2) rfl)) dL_cell_19 ?_
    refine lv_iand hx hb dL_cell_21 ?_
    exact z_reti hx hb hr hlocks rfl (by unfold celI; rw [if_pos (by omega)]) dL_cell_22
set_option maxRecDepth 100000 in
set_option maxHeartbeats 4000000 in
theorem c_L_holds (l : Launch) (D : va_G) (y : zY) (x : Nat) (bd : Nat) (d : Nat → Int32) (ca : Nat → Nat) (pa : Nat → Nat) (pk : Nat → Nat) (k : Nat) (len : Nat) (tf : Nat → Int32) (n : Nat) (hZ : zJ n d) (hn : n ≤ 1000) (hE : eJ d) (hk4 : k ≤ 4) (hl80 : len ≤ 80) : Met l yL_holds wsL_holds ({ frames := 5, cells := 0, slots := 0, locals := 130 }) (zP [.ref x] (fun H => clR D y x bd d ca pa pk k len tf H) D y) (zQ (some (.int (bI true)))) 0 0 nofree := by
  refine z_body (cc := cL_holds) (maxL := 10) (ret := (some .boolean)) (la := [(0, .ref x)]) (by decide) rfl (Nat.le_of_ble_eq_true rfl) rfl ?_
  intro pg ev s mm below meth c0 ls hx hb hr hF hlocks hΦ hK hl _
  have hts := hF.2.2.2.2
  have hown : s.vm.findClass RL = some mm.cls := hF.2.2.2.1
  have hJ := hZ.1
  have hI := hJ.1
  have hv24 := hJ.2.1
  have hpl := hJ.2.2.1
  have hG2 := hI.ng2
  have hC8 := hI.nc8
  refine lv_iconst (v := (nI 0)) hx hb dL_holds_0 (by decide) ?_
  refine lv_istore_n (lv' := [(1, .int (nI 0)), (0, .ref x)]) hx hb dL_holds_1 rfl hl (by decide) rfl (fun ls hl => ?_)
  refine lv_iconst (v := (nI 0)) hx hb dL_holds_2 (by decide) ?_
  refine lv_istore_n (lv' := [(2, .int (nI 0)), (1, .int (nI 0)), (0, .ref x)]) hx hb dL_holds_3 rfl hl (by decide) rfl (fun ls hl => ?_)
  refine lv_iconst (v := (nI 0)) hx hb dL_holds_4 (by decide) ?_
  refine lv_istore_n (lv' := [(3, .int (nI 0)), (2, .int (nI 0)), (1, .int (nI 0)), (0, .ref x)]) hx hb dL_holds_5 rfl hl (by decide) rfl (fun ls hl => ?_)
  refine lv_aload_n hx hb dL_holds_6 rfl (lv_at hl 3 rfl) ?_
  refine lv_iconst (v := (nI 1)) hx hb dL_holds_7 (by decide) ?_
  refine z_callV (As := [.int (nI 1)]) (rest := []) hF hK (c_X4_count l D y x bd d ca pa pk k len tf (nI 1) (hJ) (by omega) (by omega)) (cwV 1 hts gL_holds_X4_count rfl rfl rfl (by decide +kernel) ⟨Nat.le_of_ble_eq_true rfl, Nat.le_of_ble_eq_true rfl⟩) (z_recv (q := (RX4, TX4, 5)) hK hΦ.1 rfl) hΦ rfl hl.1 rfl (Nat.le_of_ble_eq_true rfl) dL_holds_8 ⟨Nat.zero_le _, Nat.zero_le _⟩ ?_
  refine z_topi (z := (nI (vn d))) (cnt_1) ?_
  refine lv_bipush (v := (nI 24)) hx hb dL_holds_11 (by decide) ?_
  refine z_gt (tgt := 20) hx hb (by omega) (by omega) dL_holds_13 (by decide) (fun c13 => ?_) (fun c13 => ?_)
  · exact absurd c13 (by omega)
  · refine lv_iconst (v := (nI 1)) hx hb dL_holds_16 (by decide) ?_
    refine lv_goto (tgt := 21) hx hb dL_holds_17 (by decide) ?_
    refine lv_istore (lv' := [(4, .int (nI 1)), (3, .int (nI 0)), (2, .int (nI 0)), (1, .int (nI 0)), (0, .ref x)]) hx hb dL_holds_21 hl (by decide) rfl (fun ls hl => ?_)
    refine lv_iconst (v := (nI 0)) hx hb dL_holds_23 (by decide) ?_
    refine lv_istore (lv' := [(5, .int (nI 0)), (4, .int (nI 1)), (3, .int (nI 0)), (2, .int (nI 0)), (1, .int (nI 0)), (0, .ref x)]) hx hb dL_holds_24 hl (by decide) rfl (fun ls hl => ?_)
    have hl := lv_repl (l' := [(5, .int (nI 0)), (4, .int (nI 1)), (3, .int (sumN (uvF d) 0)), (2, .int (nI 0)), (1, .int (nI 0)), (0, .ref x)]) hl 2 rfl (congrArg Value.int (show (nI 0) = (sumN (uvF d) 0) from rfl)) rfl
    have hl := lv_repl (l' := [(5, .int (nI 0)), (4, .int (nI 1)), (3, .int (sumN (uvF d) 0)), (2, .int (sumN (vaF d) 0)), (1, .int (nI 0)), (0, .ref x)]) hl 3 rfl (congrArg Value.int (show (nI 0) = (sumN (vaF d) 0) from rfl)) rfl
    have hl := lv_repl (l' := [(5, .int (nI 0)), (4, .int (nI 1)), (3, .int (sumN (uvF d) 0)), (2, .int (sumN (vaF d) 0)), (1, .int (sumN (stF d) 0)), (0, .ref x)]) hl 4 rfl (congrArg Value.int (show (nI 0) = (sumN (stF d) 0) from rfl)) rfl
    refine z_loop (S := Nat) (nL := 10) (fun (p : Nat) => nG d - p) (fun (p : Nat) => [(5, .int (nI p)), (4, .int (nI 1)), (3, .int (sumN (uvF d) p)), (2, .int (sumN (vaF d) p)), (1, .int (sumN (stF d) p)), (0, .ref x)]) (fun (p : Nat) => p ≤ nG d) 0 (by omega) (lv_sub hl [0, 1, 2, 3, 4, 5] rfl) ?_
    clear hl
    rintro p ls hI_26 hl ih_26
    have hp0 := hI_26
    refine lv_iload hx hb dL_holds_26 (lv_at hl 0 rfl) ?_
    refine lv_aload_n hx hb dL_holds_28 rfl (lv_at hl 5 rfl) ?_
    refine lv_iconst (v := (nI 2)) hx hb dL_holds_29 (by decide) ?_
    refine z_callV (As := [.int (nI 2)]) (rest := [.int (nI p)]) hF hK (c_X4_count l D y x bd d ca pa pk k len tf (nI 2) (hJ) (by omega) (by omega)) (cwV 1 hts gL_holds_X4_count rfl rfl rfl (by decide +kernel) ⟨Nat.le_of_ble_eq_true rfl, Nat.le_of_ble_eq_true rfl⟩) (z_recv (q := (RX4, TX4, 5)) hK hΦ.1 rfl) hΦ rfl hl.1 rfl (Nat.le_of_ble_eq_true rfl) dL_holds_30 ⟨Nat.zero_le _, Nat.zero_le _⟩ ?_
    refine z_topi (z := (nI (nG d))) (cnt_G hI) ?_
    refine z_ge (tgt := 165) hx hb (by omega) (by omega) dL_holds_33 (by decide) (fun c33 => ?_) (fun c33 => ?_)
    · have hpe : p = nG d := by omega
      subst hpe
      refine lv_iconst (v := (nI 0)) hx hb dL_holds_165 (by decide) ?_
      refine lv_istore (lv' := [(5, .int (nI 0)), (4, .int (nI 1)), (3, .int (sumN (uvF d) (nG d))), (2, .int (sumN (vaF d) (nG d))), (1, .int (sumN (stF d) (nG d))), (0, .ref x)]) hx hb dL_holds_166 hl (by decide) rfl (fun ls hl => ?_)
      refine lv_iconst (v := (nI 0)) hx hb dL_holds_168 (by decide) ?_
      refine lv_istore (lv' := [(6, .int (nI 0)), (5, .int (nI 0)), (4, .int (nI 1)), (3, .int (sumN (uvF d) (nG d))), (2, .int (sumN (vaF d) (nG d))), (1, .int (sumN (stF d) (nG d))), (0, .ref x)]) hx hb dL_holds_169 hl (by decide) rfl (fun ls hl => ?_)
      have hl := lv_repl (l' := [(6, .int (nI 0)), (5, .int (sumN (byF d) 0)), (4, .int (nI 1)), (3, .int (sumN (uvF d) (nG d))), (2, .int (sumN (vaF d) (nG d))), (1, .int (sumN (stF d) (nG d))), (0, .ref x)]) hl 1 rfl (congrArg Value.int (show (nI 0) = (sumN (byF d) 0) from rfl)) rfl
      refine z_loop (S := Nat) (nL := 10) (fun (u : Nat) => 120 - u) (fun (u : Nat) => [(6, .int (nI u)), (5, .int (sumN (byF d) u)), (4, .int (nI 1)), (3, .int (sumN (uvF d) (nG d))), (2, .int (sumN (vaF d) (nG d))), (1, .int (sumN (stF d) (nG d))), (0, .ref x)]) (fun (u : Nat) => u ≤ 120) 0 (by omega) (lv_sub hl [0, 1, 2, 3, 4, 5, 6] rfl) ?_
      clear hl
      rintro u ls hI_171 hl ih_171
      have hu0 := hI_171
      refine lv_iload hx hb dL_holds_171 (lv_at hl 0 rfl) ?_
      refine lv_bipush (v := (nI 120)) hx hb dL_holds_173 (by decide) ?_
      refine z_ge (tgt := 292) hx hb (by omega) (by omega) dL_holds_175 (by decide) (fun c175 => ?_) (fun c175 => ?_)
      · have hue : u = 120 := by omega
        subst hue
        refine lv_iconst (v := (nI 0)) hx hb dL_holds_292 (by decide) ?_
        refine lv_istore (lv' := [(6, .int (nI 0)), (5, .int (sumN (byF d) 120)), (4, .int (nI 1)), (3, .int (sumN (uvF d) (nG d))), (2, .int (sumN (vaF d) (nG d))), (1, .int (sumN (stF d) (nG d))), (0, .ref x)]) hx hb dL_holds_293 hl (by decide) rfl (fun ls hl => ?_)
        refine z_loop (S := Nat) (nL := 10) (fun (m : Nat) => 30 - m) (fun (m : Nat) => [(6, .int (nI m)), (5, .int (sumN (byF d) 120)), (4, .int (nI 1)), (3, .int (sumN (uvF d) (nG d))), (2, .int (sumN (vaF d) (nG d))), (1, .int (sumN (stF d) (nG d))), (0, .ref x)]) (fun (m : Nat) => m ≤ 30) 0 (by omega) (lv_sub hl [0, 1, 2, 3, 4, 5, 6] rfl) ?_
        clear hl
        rintro m ls hI_295 hl ih_295
        have hm0 := hI_295
        refine lv_iload hx hb dL_holds_295 (lv_at hl 0 rfl) ?_
        refine lv_bipush (v := (nI 30)) hx hb dL_holds_297 (by decide) ?_
        refine z_ge (tgt := 367) hx hb (by omega) (by omega) dL_holds_299 (by decide) (fun c299 => ?_) (fun c299 => ?_)
        · have hme : m = 30 := by omega
          subst hme
          refine lv_iload hx hb dL_holds_367 (lv_at hl 2 rfl) ?_
          refine n_if_eq (tgt := 443) hx hb (by omega) dL_holds_369 (by decide) (fun c => absurd c (by decide)) (fun _ => ?_)
          refine lv_iload_n hx hb dL_holds_372 rfl (lv_at hl 4 rfl) ?_
          refine lv_aload_n hx hb dL_holds_373 rfl (lv_at hl 6 rfl) ?_
          refine lv_iconst (v := (nI 1)) hx hb dL_holds_374 (by decide) ?_
          refine z_callV (As := [.int (nI 1)]) (rest := [.int (sumN (vaF d) (nG d))]) hF hK (c_X4_count l D y x bd d ca pa pk k len tf (nI 1) (hJ) (by omega) (by omega)) (cwV 1 hts gL_holds_X4_count rfl rfl rfl (by decide +kernel) ⟨Nat.le_of_ble_eq_true rfl, Nat.le_of_ble_eq_true rfl⟩) (z_recv (q := (RX4, TX4, 5)) hK hΦ.1 rfl) hΦ rfl hl.1 rfl (Nat.le_of_ble_eq_true rfl) dL_holds_375 ⟨Nat.zero_le _, Nat.zero_le _⟩ ?_
          refine z_topi (z := (sumN (vaF d) (nG d))) (cnt_1.trans (va_cnt d).symm) ?_
          refine lv_icmp_ne (tgt := 443) hx hb dL_holds_378 (by decide) (fun c378 => ?_) (fun c378 => ?_)
          · exact absurd rfl c378
          · refine lv_iload_n hx hb dL_holds_381 rfl (lv_at hl 3 rfl) ?_
            refine lv_aload_n hx hb dL_holds_382 rfl (lv_at hl 6 rfl) ?_
            refine lv_iconst (v := (nI 5)) hx hb dL_holds_383 (by decide) ?_
            refine z_callV (As := [.int (nI 5)]) (rest := [.int (sumN (uvF d) (nG d))]) hF hK (c_X4_count l D y x bd d ca pa pk k len tf (nI 5) (hJ) (by omega) (by omega)) (cwV 1 hts gL_holds_X4_count rfl rfl rfl (by decide +kernel) ⟨Nat.le_of_ble_eq_true rfl, Nat.le_of_ble_eq_true rfl⟩) (z_recv (q := (RX4, TX4, 5)) hK hΦ.1 rfl) hΦ rfl hl.1 rfl (Nat.le_of_ble_eq_true rfl) dL_holds_384 ⟨Nat.zero_le _, Nat.zero_le _⟩ ?_
            refine z_topi (z := (sumN (uvF d) (nG d))) (cnt_c5.trans (uv_tog d).symm) ?_
            refine lv_icmp_ne (tgt := 443) hx hb dL_holds_387 (by decide) (fun c387 => ?_) (fun c387 => ?_)
            · exact absurd rfl c387
            · refine lv_iload hx hb dL_holds_390 (lv_at hl 1 rfl) ?_
              refine lv_iload_n hx hb dL_holds_392 rfl (lv_at hl 3 rfl) ?_
              refine lv_icmp_ne (tgt := 443) hx hb dL_holds_393 (by decide) (fun c393 => ?_) (fun c393 => ?_)
              · exact absurd (by_uv hI hpl) c393
              · refine lv_iload_n hx hb dL_holds_396 rfl (lv_at hl 5 rfl) ?_
                refine lv_aload_n hx hb dL_holds_397 rfl (lv_at hl 6 rfl) ?_
                refine lv_iconst (v := (nI 3)) hx hb dL_holds_398 (by decide) ?_
                refine z_callV (As := [.int (nI 3)]) (rest := [.int (sumN (stF d) (nG d))]) hF hK (c_X4_count l D y x bd d ca pa pk k len tf (nI 3) (hJ) (by omega) (by omega)) (cwV 1 hts gL_holds_X4_count rfl rfl rfl (by decide +kernel) ⟨Nat.le_of_ble_eq_true rfl, Nat.le_of_ble_eq_true rfl⟩) (z_recv (q := (RX4, TX4, 5)) hK hΦ.1 rfl) hΦ rfl hl.1 rfl (Nat.le_of_ble_eq_true rfl) dL_holds_399 ⟨Nat.zero_le _, Nat.zero_le _⟩ ?_
                refine z_topi (z := (sumN (cntF d (nI 2)) (nG d))) (cnt_c3.trans hJ.2.2.2.1) ?_
                refine lv_bipush (v := (nI 100)) hx hb dL_holds_402 (by decide) ?_
                refine lv_aload_n hx hb dL_holds_404 rfl (lv_at hl 6 rfl) ?_
                refine lv_iconst (v := (nI 4)) hx hb dL_holds_405 (by decide) ?_
                refine z_callV (As := [.int (nI 4)]) (rest := [.int (nI 100), .int (sumN (cntF d (nI 2)) (nG d)), .int (sumN (stF d) (nG d))]) hF hK (c_X4_count l D y x bd d ca pa pk k len tf (nI 4) (hJ) (by omega) (by omega)) (cwV 1 hts gL_holds_X4_count rfl rfl rfl (by decide +kernel) ⟨Nat.le_of_ble_eq_true rfl, Nat.le_of_ble_eq_true rfl⟩) (z_recv (q := (RX4, TX4, 5)) hK hΦ.1 rfl) hΦ rfl hl.1 rfl (Nat.le_of_ble_eq_true rfl) dL_holds_406 ⟨Nat.zero_le _, Nat.zero_le _⟩ ?_
                refine z_topi (z := (sumN (cntF d (nI 3)) (nG d))) (cnt_c4.trans hJ.2.2.2.2) ?_
                refine lv_imul hx hb dL_holds_409 ?_
                refine lv_iadd hx hb dL_holds_410 ?_
                refine lv_icmp_ne (tgt := 443) hx hb dL_holds_411 (by decide) (fun c411 => ?_) (fun c411 => ?_)
                · exact absurd (st_sum d (nG d)) c411
                · refine lv_aload_n hx hb dL_holds_414 rfl (lv_at hl 6 rfl) ?_
                  refine lv_iconst (v := (nI 1)) hx hb dL_holds_415 (by decide) ?_
                  refine z_callV (As := [.int (nI 1)]) (rest := []) hF hK (c_X4_count l D y x bd d ca pa pk k len tf (nI 1) (hJ) (by omega) (by omega)) (cwV 1 hts gL_holds_X4_count rfl rfl rfl (by decide +kernel) ⟨Nat.le_of_ble_eq_true rfl, Nat.le_of_ble_eq_true rfl⟩) (z_recv (q := (RX4, TX4, 5)) hK hΦ.1 rfl) hΦ rfl hl.1 rfl (Nat.le_of_ble_eq_true rfl) dL_holds_416 ⟨Nat.zero_le _, Nat.zero_le _⟩ ?_
                  refine z_topi (z := (sumN (vaF d) (nG d))) (cnt_1.trans (va_cnt d).symm) ?_
                  refine lv_aload_n hx hb dL_holds_419 rfl (lv_at hl 6 rfl) ?_
                  refine lv_iconst (v := (nI 3)) hx hb dL_holds_420 (by decide) ?_
                  refine z_callV (As := [.int (nI 3)]) (rest := [.int (sumN (vaF d) (nG d))]) hF hK (c_X4_count l D y x bd d ca pa pk k len tf (nI 3) (hJ) (by omega) (by omega)) (cwV 1 hts gL_holds_X4_count rfl rfl rfl (by decide +kernel) ⟨Nat.le_of_ble_eq_true rfl, Nat.le_of_ble_eq_true rfl⟩) (z_recv (q := (RX4, TX4, 5)) hK hΦ.1 rfl) hΦ rfl hl.1 rfl (Nat.le_of_ble_eq_true rfl) dL_holds_421 ⟨Nat.zero_le _, Nat.zero_le _⟩ ?_
                  refine z_topi (z := (sumN (cntF d (nI 2)) (nG d))) (cnt_c3.trans hJ.2.2.2.1) ?_
                  refine lv_iadd hx hb dL_holds_424 ?_
                  refine lv_aload_n hx hb dL_holds_425 rfl (lv_at hl 6 rfl) ?_
                  refine lv_iconst (v := (nI 4)) hx hb dL_holds_426 (by decide) ?_
                  refine z_callV (As := [.int (nI 4)]) (rest := [.int ((sumN (vaF d) (nG d)) + (sumN (cntF d (nI 2)) (nG d)))]) hF hK (c_X4_count l D y x bd d ca pa pk k len tf (nI 4) (hJ) (by omega) (by omega)) (cwV 1 hts gL_holds_X4_count rfl rfl rfl (by decide +kernel) ⟨Nat.le_of_ble_eq_true rfl, Nat.le_of_ble_eq_true rfl⟩) (z_recv (q := (RX4, TX4, 5)) hK hΦ.1 rfl) hΦ rfl hl.1 rfl (Nat.le_of_ble_eq_true rfl) dL_holds_427 ⟨Nat.zero_le _, Nat.zero_le _⟩ ?_
                  refine z_topi (z := (sumN (cntF d (nI 3)) (nG d))) (cnt_c4.trans hJ.2.2.2.2) ?_
                  refine lv_iadd hx hb dL_holds_430 ?_
                  refine lv_aload_n hx hb dL_holds_431 rfl (lv_at hl 6 rfl) ?_
                  refine lv_iconst (v := (nI 2)) hx hb dL_holds_432 (by decide) ?_
                  refine z_callV (As := [.int (nI 2)]) (rest := [.int (((sumN (vaF d) (nG d)) + (sumN (cntF d (nI 2)) (nG d))) + (sumN (cntF d (nI 3)) (nG d)))]) hF hK (c_X4_count l D y x bd d ca pa pk k len tf (nI 2) (hJ) (by omega) (by omega)) (cwV 1 hts gL_holds_X4_count rfl rfl rfl (by decide +kernel) ⟨Nat.le_of_ble_eq_true rfl, Nat.le_of_ble_eq_true rfl⟩) (z_recv (q := (RX4, TX4, 5)) hK hΦ.1 rfl) hΦ rfl hl.1 rfl (Nat.le_of_ble_eq_true rfl) dL_holds_433 ⟨Nat.zero_le _, Nat.zero_le _⟩ ?_
                  refine z_topi (z := (nI (nG d))) (cnt_G hI) ?_
                  refine lv_icmp_ne (tgt := 443) hx hb dL_holds_436 (by decide) (fun c436 => ?_) (fun c436 => ?_)
                  · exact absurd (all_sum hE.1) c436
                  · refine lv_iconst (v := (nI 1)) hx hb dL_holds_439 (by decide) ?_
                    refine lv_goto (tgt := 444) hx hb dL_holds_440 (by decide) ?_
                    exact z_retz hx hb hr hlocks rfl (bI_tt (rfl)) dL_holds_444
        · refine lv_iload hx hb dL_holds_302 (lv_at hl 2 rfl) ?_
          refine n_if_eq (tgt := 367) hx hb (by omega) dL_holds_304 (by decide) (fun c => absurd c (by decide)) (fun _ => ?_)
          refine lv_iconst (v := (nI 0)) hx hb dL_holds_307 (by decide) ?_
          refine lv_istore (lv' := [(7, .int (nI 0)), (6, .int (nI m)), (5, .int (sumN (byF d) 120)), (4, .int (nI 1)), (3, .int (sumN (uvF d) (nG d))), (2, .int (sumN (vaF d) (nG d))), (1, .int (sumN (stF d) (nG d))), (0, .ref x)]) hx hb dL_holds_308 hl (by decide) rfl (fun ls hl => ?_)
          refine lv_iconst (v := (nI 0)) hx hb dL_holds_310 (by decide) ?_
          refine lv_istore (lv' := [(8, .int (nI 0)), (7, .int (nI 0)), (6, .int (nI m)), (5, .int (sumN (byF d) 120)), (4, .int (nI 1)), (3, .int (sumN (uvF d) (nG d))), (2, .int (sumN (vaF d) (nG d))), (1, .int (sumN (stF d) (nG d))), (0, .ref x)]) hx hb dL_holds_311 hl (by decide) rfl (fun ls hl => ?_)
          have hl := lv_repl (l' := [(8, .int (nI 0)), (7, .int (mvN d m 0)), (6, .int (nI m)), (5, .int (sumN (byF d) 120)), (4, .int (nI 1)), (3, .int (sumN (uvF d) (nG d))), (2, .int (sumN (vaF d) (nG d))), (1, .int (sumN (stF d) (nG d))), (0, .ref x)]) hl 1 rfl (congrArg Value.int (show (nI 0) = (mvN d m 0) from rfl)) rfl
          refine z_loop (S := Nat) (nL := 10) (fun (q : Nat) => 4 - q) (fun (q : Nat) => [(8, .int (nI q)), (7, .int (mvN d m q)), (6, .int (nI m)), (5, .int (sumN (byF d) 120)), (4, .int (nI 1)), (3, .int (sumN (uvF d) (nG d))), (2, .int (sumN (vaF d) (nG d))), (1, .int (sumN (stF d) (nG d))), (0, .ref x)]) (fun (q : Nat) => q ≤ 4) 0 (by omega) (lv_sub hl [0, 1, 2, 3, 4, 5, 6, 7, 8] rfl) ?_
          clear hl
          rintro q ls hI_313 hl ih_313
          have hq0 := hI_313
          refine lv_iload hx hb dL_holds_313 (lv_at hl 0 rfl) ?_
          refine lv_iconst (v := (nI 4)) hx hb dL_holds_315 (by decide) ?_
          refine z_ge (tgt := 349) hx hb (by omega) (by omega) dL_holds_316 (by decide) (fun c316 => ?_) (fun c316 => ?_)
          · have hqe : q = 4 := by omega
            subst hqe
            refine lv_iload hx hb dL_holds_349 (lv_at hl 1 rfl) ?_
            refine lv_if_ne (tgt := 358) hx hb dL_holds_351 (by decide) (fun c351 => ?_) (fun c351 => ?_)
            · exact absurd (show mvN d m 4 = 0 from hE.2.2 m (by omega)) c351
            · refine lv_iconst (v := (nI 1)) hx hb dL_holds_354 (by decide) ?_
              refine lv_goto (tgt := 359) hx hb dL_holds_355 (by decide) ?_
              refine lv_istore (lv' := [(4, .int (nI 1)), (8, .int (nI 4)), (7, .int (mvN d m 4)), (6, .int (nI m)), (5, .int (sumN (byF d) 120)), (3, .int (sumN (uvF d) (nG d))), (2, .int (sumN (vaF d) (nG d))), (1, .int (sumN (stF d) (nG d))), (0, .ref x)]) hx hb dL_holds_359 hl (by decide) rfl (fun ls hl => ?_)
              refine lv_iinc (v := (nI (m + 1))) (lv' := [(6, .int (nI (m + 1))), (4, .int (nI 1)), (8, .int (nI 4)), (7, .int (mvN d m 4)), (5, .int (sumN (byF d) 120)), (3, .int (sumN (uvF d) (nG d))), (2, .int (sumN (vaF d) (nG d))), (1, .int (sumN (stF d) (nG d))), (0, .ref x)]) hx hb dL_holds_361 hl (k := 3) rfl (in1 _) (by decide) rfl (fun ls hl => ?_)
              refine lv_goto (tgt := 295) hx hb dL_holds_364 (by decide) ?_
              exact ih_295 (m + 1) _ (by omega) (by omega) (lv_sub hl [0, 4, 1, 5, 6, 7, 8] rfl)
          · refine lv_iload hx hb dL_holds_319 (lv_at hl 1 rfl) ?_
            refine lv_aload_n hx hb dL_holds_321 rfl (lv_at hl 8 rfl) ?_
            refine lv_iload hx hb dL_holds_322 (lv_at hl 0 rfl) ?_
            refine lv_iload hx hb dL_holds_324 (lv_at hl 2 rfl) ?_
            refine lv_iconst (v := (nI 1)) hx hb dL_holds_326 (by decide) ?_
            refine z_callV (As := [.int (nI q), .int (nI m), .int (nI 1)]) (rest := [.int (mvN d m q)]) hF hK (c_X4_street l D y x bd d ca pa pk k len tf (nI q) (nI m) (nI 1) (hJ) (by omega) (by omega)) (cwV 3 hts gL_holds_X4_street rfl rfl rfl (by decide +kernel) ⟨Nat.le_of_ble_eq_true rfl, Nat.le_of_ble_eq_true rfl⟩) (z_recv (q := (RX4, TX4, 5)) hK hΦ.1 rfl) hΦ rfl hl.1 rfl (Nat.le_of_ble_eq_true rfl) dL_holds_327 ⟨Nat.zero_le _, Nat.zero_le _⟩ ?_
            refine z_topi (z := (d (202 + (30 * q + m)))) (aS_1 d (by omega) (by omega)) ?_
            refine lv_aload_n hx hb dL_holds_330 rfl (lv_at hl 8 rfl) ?_
            refine lv_iload hx hb dL_holds_331 (lv_at hl 0 rfl) ?_
            refine lv_iload hx hb dL_holds_333 (lv_at hl 2 rfl) ?_
            refine lv_iconst (v := (nI 2)) hx hb dL_holds_335 (by decide) ?_
            refine z_callV (As := [.int (nI q), .int (nI m), .int (nI 2)]) (rest := [.int (d (202 + (30 * q + m))), .int (mvN d m q)]) hF hK (c_X4_street l D y x bd d ca pa pk k len tf (nI q) (nI m) (nI 2) (hJ) (by omega) (by omega)) (cwV 3 hts gL_holds_X4_street rfl rfl rfl (by decide +kernel) ⟨Nat.le_of_ble_eq_true rfl, Nat.le_of_ble_eq_true rfl⟩) (z_recv (q := (RX4, TX4, 5)) hK hΦ.1 rfl) hΦ rfl hl.1 rfl (Nat.le_of_ble_eq_true rfl) dL_holds_336 ⟨Nat.zero_le _, Nat.zero_le _⟩ ?_
            refine z_topi (z := (d (322 + (30 * q + m)))) (aS_2 d (by omega) (by omega)) ?_
            refine lv_isub hx hb dL_holds_339 ?_
            refine lv_iadd hx hb dL_holds_340 ?_
            refine lv_istore (lv' := [(7, .int ((mvN d m q) + ((d (202 + (30 * q + m))) - (d (322 + (30 * q + m)))))), (8, .int (nI q)), (6, .int (nI m)), (5, .int (sumN (byF d) 120)), (4, .int (nI 1)), (3, .int (sumN (uvF d) (nG d))), (2, .int (sumN (vaF d) (nG d))), (1, .int (sumN (stF d) (nG d))), (0, .ref x)]) hx hb dL_holds_341 hl (by decide) rfl (fun ls hl => ?_)
            refine lv_iinc (v := (nI (q + 1))) (lv' := [(8, .int (nI (q + 1))), (7, .int ((mvN d m q) + ((d (202 + (30 * q + m))) - (d (322 + (30 * q + m)))))), (6, .int (nI m)), (5, .int (sumN (byF d) 120)), (4, .int (nI 1)), (3, .int (sumN (uvF d) (nG d))), (2, .int (sumN (vaF d) (nG d))), (1, .int (sumN (stF d) (nG d))), (0, .ref x)]) hx hb dL_holds_343 hl (k := 1) rfl (in1 _) (by decide) rfl (fun ls hl => ?_)
            refine lv_goto (tgt := 313) hx hb dL_holds_346 (by decide) ?_
            have hl := lv_repl (l' := [(8, .int (nI (q + 1))), (7, .int (mvN d m (q + 1))), (6, .int (nI m)), (5, .int (sumN (byF d) 120)), (4, .int (nI 1)), (3, .int (sumN (uvF d) (nG d))), (2, .int (sumN (vaF d) (nG d))), (1, .int (sumN (stF d) (nG d))), (0, .ref x)]) hl 1 rfl (congrArg Value.int (show ((mvN d m q) + ((d (202 + (30 * q + m))) - (d (322 + (30 * q + m))))) = (mvN d m (q + 1)) from rfl)) rfl
            exact ih_313 (q + 1) _ (by omega) (by omega) (lv_sub hl [0, 1, 2, 3, 4, 5, 6, 7, 8] rfl)
      · refine lv_iload hx hb dL_holds_178 (lv_at hl 2 rfl) ?_
        refine n_if_eq (tgt := 292) hx hb (by omega) dL_holds_180 (by decide) (fun c => absurd c (by decide)) (fun _ => ?_)
        refine lv_iload hx hb dL_holds_183 (lv_at hl 0 rfl) ?_
        refine lv_bipush (v := (nI 30)) hx hb dL_holds_185 (by decide) ?_
        refine z_idiv hx hb (by omega) (by omega) (by omega) dL_holds_187 ?_
        refine lv_istore (lv' := [(7, .int (nI (u / 30))), (6, .int (nI u)), (5, .int (sumN (byF d) u)), (4, .int (nI 1)), (3, .int (sumN (uvF d) (nG d))), (2, .int (sumN (vaF d) (nG d))), (1, .int (sumN (stF d) (nG d))), (0, .ref x)]) hx hb dL_holds_188 hl (by decide) rfl (fun ls hl => ?_)
        refine lv_iload hx hb dL_holds_190 (lv_at hl 1 rfl) ?_
        refine lv_bipush (v := (nI 30)) hx hb dL_holds_192 (by decide) ?_
        refine z_irem hx hb (by omega) (by omega) (by omega) dL_holds_194 ?_
        refine lv_istore (lv' := [(8, .int (nI (u % 30))), (7, .int (nI (u / 30))), (6, .int (nI u)), (5, .int (sumN (byF d) u)), (4, .int (nI 1)), (3, .int (sumN (uvF d) (nG d))), (2, .int (sumN (vaF d) (nG d))), (1, .int (sumN (stF d) (nG d))), (0, .ref x)]) hx hb dL_holds_195 hl (by decide) rfl (fun ls hl => ?_)
        refine lv_aload_n hx hb dL_holds_197 rfl (lv_at hl 8 rfl) ?_
        refine lv_iload hx hb dL_holds_198 (lv_at hl 1 rfl) ?_
        refine lv_iload hx hb dL_holds_200 (lv_at hl 0 rfl) ?_
        refine lv_iconst (v := (nI 3)) hx hb dL_holds_202 (by decide) ?_
        refine z_callV (As := [.int (nI (u / 30)), .int (nI (u % 30)), .int (nI 3)]) (rest := []) hF hK (c_X4_street l D y x bd d ca pa pk k len tf (nI (u / 30)) (nI (u % 30)) (nI 3) (hJ) (by omega) (by omega)) (cwV 3 hts gL_holds_X4_street rfl rfl rfl (by decide +kernel) ⟨Nat.le_of_ble_eq_true rfl, Nat.le_of_ble_eq_true rfl⟩) (z_recv (q := (RX4, TX4, 5)) hK hΦ.1 rfl) hΦ rfl hl.1 rfl (Nat.le_of_ble_eq_true rfl) dL_holds_203 ⟨Nat.zero_le _, Nat.zero_le _⟩ ?_
        refine z_topi (z := (creI d (u / 30) (u % 30))) (aS_3 d (by omega) (by omega)) ?_
        refine lv_istore (lv' := [(9, .int (creI d (u / 30) (u % 30))), (8, .int (nI (u % 30))), (7, .int (nI (u / 30))), (6, .int (nI u)), (5, .int (sumN (byF d) u)), (4, .int (nI 1)), (3, .int (sumN (uvF d) (nG d))), (2, .int (sumN (vaF d) (nG d))), (1, .int (sumN (stF d) (nG d))), (0, .ref x)]) hx hb dL_holds_206 hl (by decide) rfl (fun ls hl => ?_)
        refine lv_iload hx hb dL_holds_208 (lv_at hl 4 rfl) ?_
        refine lv_aload_n hx hb dL_holds_210 rfl (lv_at hl 9 rfl) ?_
        refine lv_iload hx hb dL_holds_211 (lv_at hl 2 rfl) ?_
        refine lv_iload hx hb dL_holds_213 (lv_at hl 1 rfl) ?_
        refine lv_iconst (v := (nI 4)) hx hb dL_holds_215 (by decide) ?_
        refine z_callV (As := [.int (nI (u / 30)), .int (nI (u % 30)), .int (nI 4)]) (rest := [.int (sumN (byF d) u)]) hF hK (c_X4_street l D y x bd d ca pa pk k len tf (nI (u / 30)) (nI (u % 30)) (nI 4) (hJ) (by omega) (by omega)) (cwV 3 hts gL_holds_X4_street rfl rfl rfl (by decide +kernel) ⟨Nat.le_of_ble_eq_true rfl, Nat.le_of_ble_eq_true rfl⟩) (z_recv (q := (RX4, TX4, 5)) hK hΦ.1 rfl) hΦ rfl hl.1 rfl (Nat.le_of_ble_eq_true rfl) dL_holds_216 ⟨Nat.zero_le _, Nat.zero_le _⟩ ?_
        refine z_topi (z := (byF d u)) (aS_4 d (by omega) (by omega)) ?_
        refine lv_iadd hx hb dL_holds_219 ?_
        refine lv_istore (lv' := [(5, .int ((sumN (byF d) u) + (byF d u))), (9, .int (creI d (u / 30) (u % 30))), (8, .int (nI (u % 30))), (7, .int (nI (u / 30))), (6, .int (nI u)), (4, .int (nI 1)), (3, .int (sumN (uvF d) (nG d))), (2, .int (sumN (vaF d) (nG d))), (1, .int (sumN (stF d) (nG d))), (0, .ref x)]) hx hb dL_holds_220 hl (by decide) rfl (fun ls hl => ?_)
        refine lv_aload_n hx hb dL_holds_222 rfl (lv_at hl 9 rfl) ?_
        refine lv_iload hx hb dL_holds_223 (lv_at hl 3 rfl) ?_
        refine lv_iload hx hb dL_holds_225 (lv_at hl 2 rfl) ?_
        refine lv_iconst (v := (nI 4)) hx hb dL_holds_227 (by decide) ?_
        refine z_callV (As := [.int (nI (u / 30)), .int (nI (u % 30)), .int (nI 4)]) (rest := []) hF hK (c_X4_street l D y x bd d ca pa pk k len tf (nI (u / 30)) (nI (u % 30)) (nI 4) (hJ) (by omega) (by omega)) (cwV 3 hts gL_holds_X4_street rfl rfl rfl (by decide +kernel) ⟨Nat.le_of_ble_eq_true rfl, Nat.le_of_ble_eq_true rfl⟩) (z_recv (q := (RX4, TX4, 5)) hK hΦ.1 rfl) hΦ rfl hl.1 rfl (Nat.le_of_ble_eq_true rfl) dL_holds_228 ⟨Nat.zero_le _, Nat.zero_le _⟩ ?_
        refine z_topi (z := (usedI d (nI (u / 30)) (nI (u % 30)))) (aS_4 d (by omega) (by omega)) ?_
        refine lv_iload hx hb dL_holds_231 (lv_at hl 1 rfl) ?_
        refine lv_if_ge (tgt := 240) hx hb dL_holds_233 (by decide) (fun c233 => ?_) (fun c233 => ?_)
        · refine lv_iload hx hb dL_holds_240 (lv_at hl 1 rfl) ?_
          refine lv_icmp_gt (tgt := 283) hx hb dL_holds_242 (by decide) (fun c242 => ?_) (fun c242 => ?_)
          · first | exact absurd c242 (us_cr0 hZ hn (by omega) (by omega) c233) | exact absurd c242 (us_cr1 hZ hn (by omega) (by omega) c233)
          · refine lv_iload hx hb dL_holds_245 (lv_at hl 1 rfl) ?_
            refine lv_aload_n hx hb dL_holds_247 rfl (lv_at hl 9 rfl) ?_
            refine lv_iload hx hb dL_holds_248 (lv_at hl 3 rfl) ?_
            refine lv_iload hx hb dL_holds_250 (lv_at hl 2 rfl) ?_
            refine lv_iconst (v := (nI 0)) hx hb dL_holds_252 (by decide) ?_
            refine z_callV (As := [.int (nI (u / 30)), .int (nI (u % 30)), .int (nI 0)]) (rest := [.int (creI d (u / 30) (u % 30))]) hF hK (c_X4_street l D y x bd d ca pa pk k len tf (nI (u / 30)) (nI (u % 30)) (nI 0) (hJ) (by omega) (by omega)) (cwV 3 hts gL_holds_X4_street rfl rfl rfl (by decide +kernel) ⟨Nat.le_of_ble_eq_true rfl, Nat.le_of_ble_eq_true rfl⟩) (z_recv (q := (RX4, TX4, 5)) hK hΦ.1 rfl) hΦ rfl hl.1 rfl (Nat.le_of_ble_eq_true rfl) dL_holds_253 ⟨Nat.zero_le _, Nat.zero_le _⟩ ?_
            refine z_topi (z := (alwI d (u / 30) (u % 30))) (aS_0 d (by omega) (by omega)) ?_
            refine lv_aload_n hx hb dL_holds_256 rfl (lv_at hl 9 rfl) ?_
            refine lv_iload hx hb dL_holds_257 (lv_at hl 3 rfl) ?_
            refine lv_iload hx hb dL_holds_259 (lv_at hl 2 rfl) ?_
            refine lv_iconst (v := (nI 1)) hx hb dL_holds_261 (by decide) ?_
            refine z_callV (As := [.int (nI (u / 30)), .int (nI (u % 30)), .int (nI 1)]) (rest := [.int (alwI d (u / 30) (u % 30)), .int (creI d (u / 30) (u % 30))]) hF hK (c_X4_street l D y x bd d ca pa pk k len tf (nI (u / 30)) (nI (u % 30)) (nI 1) (hJ) (by omega) (by omega)) (cwV 3 hts gL_holds_X4_street rfl rfl rfl (by decide +kernel) ⟨Nat.le_of_ble_eq_true rfl, Nat.le_of_ble_eq_true rfl⟩) (z_recv (q := (RX4, TX4, 5)) hK hΦ.1 rfl) hΦ rfl hl.1 rfl (Nat.le_of_ble_eq_true rfl) dL_holds_262 ⟨Nat.zero_le _, Nat.zero_le _⟩ ?_
            refine z_topi (z := (d (202 + (30 * (u / 30) + u % 30)))) (aS_1 d (by omega) (by omega)) ?_
            refine lv_iadd hx hb dL_holds_265 ?_
            refine lv_aload_n hx hb dL_holds_266 rfl (lv_at hl 9 rfl) ?_
            refine lv_iload hx hb dL_holds_267 (lv_at hl 3 rfl) ?_
            refine lv_iload hx hb dL_holds_269 (lv_at hl 2 rfl) ?_
            refine lv_iconst (v := (nI 2)) hx hb dL_holds_271 (by decide) ?_
            refine z_callV (As := [.int (nI (u / 30)), .int (nI (u % 30)), .int (nI 2)]) (rest := [.int ((alwI d (u / 30) (u % 30)) + (d (202 + (30 * (u / 30) + u % 30)))), .int (creI d (u / 30) (u % 30))]) hF hK (c_X4_street l D y x bd d ca pa pk k len tf (nI (u / 30)) (nI (u % 30)) (nI 2) (hJ) (by omega) (by omega)) (cwV 3 hts gL_holds_X4_street rfl rfl rfl (by decide +kernel) ⟨Nat.le_of_ble_eq_true rfl, Nat.le_of_ble_eq_true rfl⟩) (z_recv (q := (RX4, TX4, 5)) hK hΦ.1 rfl) hΦ rfl hl.1 rfl (Nat.le_of_ble_eq_true rfl) dL_holds_272 ⟨Nat.zero_le _, Nat.zero_le _⟩ ?_
            refine z_topi (z := (d (322 + (30 * (u / 30) + u % 30)))) (aS_2 d (by omega) (by omega)) ?_
            refine lv_isub hx hb dL_holds_275 ?_
            refine lv_icmp_ne (tgt := 283) hx hb dL_holds_276 (by decide) (fun c276 => ?_) (fun c276 => ?_)
            · exact absurd rfl c276
            · refine lv_iconst (v := (nI 1)) hx hb dL_holds_279 (by decide) ?_
              refine lv_goto (tgt := 284) hx hb dL_holds_280 (by decide) ?_
              refine lv_istore (lv' := [(4, .int (nI 1)), (5, .int ((sumN (byF d) u) + (byF d u))), (9, .int (creI d (u / 30) (u % 30))), (8, .int (nI (u % 30))), (7, .int (nI (u / 30))), (6, .int (nI u)), (3, .int (sumN (uvF d) (nG d))), (2, .int (sumN (vaF d) (nG d))), (1, .int (sumN (stF d) (nG d))), (0, .ref x)]) hx hb dL_holds_284 hl (by decide) rfl (fun ls hl => ?_)
              refine lv_iinc (v := (nI (u + 1))) (lv' := [(6, .int (nI (u + 1))), (4, .int (nI 1)), (5, .int ((sumN (byF d) u) + (byF d u))), (9, .int (creI d (u / 30) (u % 30))), (8, .int (nI (u % 30))), (7, .int (nI (u / 30))), (3, .int (sumN (uvF d) (nG d))), (2, .int (sumN (vaF d) (nG d))), (1, .int (sumN (stF d) (nG d))), (0, .ref x)]) hx hb dL_holds_286 hl (k := 5) rfl (in1 _) (by decide) rfl (fun ls hl => ?_)
              refine lv_goto (tgt := 171) hx hb dL_holds_289 (by decide) ?_
              have hl := lv_repl (l' := [(6, .int (nI (u + 1))), (4, .int (nI 1)), (5, .int (sumN (byF d) (u + 1))), (9, .int (creI d (u / 30) (u % 30))), (8, .int (nI (u % 30))), (7, .int (nI (u / 30))), (3, .int (sumN (uvF d) (nG d))), (2, .int (sumN (vaF d) (nG d))), (1, .int (sumN (stF d) (nG d))), (0, .ref x)]) hl 2 rfl (congrArg Value.int (show ((sumN (byF d) u) + (byF d u)) = (sumN (byF d) (u + 1)) from rfl)) rfl
              exact ih_171 (u + 1) _ (by omega) (by omega) (lv_sub hl [0, 2, 1, 6, 7, 8, 9] rfl)
        · refine lv_iconst (v := (nI 0)) hx hb dL_holds_236 (by decide) ?_
          refine lv_goto (tgt := 242) hx hb dL_holds_237 (by decide) ?_
          refine lv_icmp_gt (tgt := 283) hx hb dL_holds_242 (by decide) (fun c242 => ?_) (fun c242 => ?_)
          · first | exact absurd c242 (us_cr0 hZ hn (by omega) (by omega) c233) | exact absurd c242 (us_cr1 hZ hn (by omega) (by omega) c233)
          · refine lv_iload hx hb dL_holds_245 (lv_at hl 1 rfl) ?_
            refine lv_aload_n hx hb dL_holds_247 rfl (lv_at hl 9 rfl) ?_
            refine lv_iload hx hb dL_holds_248 (lv_at hl 3 rfl) ?_
            refine lv_iload hx hb dL_holds_250 (lv_at hl 2 rfl) ?_
            refine lv_iconst (v := (nI 0)) hx hb dL_holds_252 (by decide) ?_
            refine z_callV (As := [.int (nI (u / 30)), .int (nI (u % 30)), .int (nI 0)]) (rest := [.int (creI d (u / 30) (u % 30))]) hF hK (c_X4_street l D y x bd d ca pa pk k len tf (nI (u / 30)) (nI (u % 30)) (nI 0) (hJ) (by omega) (by omega)) (cwV 3 hts gL_holds_X4_street rfl rfl rfl (by decide +kernel) ⟨Nat.le_of_ble_eq_true rfl, Nat.le_of_ble_eq_true rfl⟩) (z_recv (q := (RX4, TX4, 5)) hK hΦ.1 rfl) hΦ rfl hl.1 rfl (Nat.le_of_ble_eq_true rfl) dL_holds_253 ⟨Nat.zero_le _, Nat.zero_le _⟩ ?_
            refine z_topi (z := (alwI d (u / 30) (u % 30))) (aS_0 d (by omega) (by omega)) ?_
            refine lv_aload_n hx hb dL_holds_256 rfl (lv_at hl 9 rfl) ?_
            refine lv_iload hx hb dL_holds_257 (lv_at hl 3 rfl) ?_
            refine lv_iload hx hb dL_holds_259 (lv_at hl 2 rfl) ?_
            refine lv_iconst (v := (nI 1)) hx hb dL_holds_261 (by decide) ?_
            refine z_callV (As := [.int (nI (u / 30)), .int (nI (u % 30)), .int (nI 1)]) (rest := [.int (alwI d (u / 30) (u % 30)), .int (creI d (u / 30) (u % 30))]) hF hK (c_X4_street l D y x bd d ca pa pk k len tf (nI (u / 30)) (nI (u % 30)) (nI 1) (hJ) (by omega) (by omega)) (cwV 3 hts gL_holds_X4_street rfl rfl rfl (by decide +kernel) ⟨Nat.le_of_ble_eq_true rfl, Nat.le_of_ble_eq_true rfl⟩) (z_recv (q := (RX4, TX4, 5)) hK hΦ.1 rfl) hΦ rfl hl.1 rfl (Nat.le_of_ble_eq_true rfl) dL_holds_262 ⟨Nat.zero_le _, Nat.zero_le _⟩ ?_
            refine z_topi (z := (d (202 + (30 * (u / 30) + u % 30)))) (aS_1 d (by omega) (by omega)) ?_
            refine lv_iadd hx hb dL_holds_265 ?_
            refine lv_aload_n hx hb dL_holds_266 rfl (lv_at hl 9 rfl) ?_
            refine lv_iload hx hb dL_holds_267 (lv_at hl 3 rfl) ?_
            refine lv_iload hx hb dL_holds_269 (lv_at hl 2 rfl) ?_
            refine lv_iconst (v := (nI 2)) hx hb dL_holds_271 (by decide) ?_
            refine z_callV (As := [.int (nI (u / 30)), .int (nI (u % 30)), .int (nI 2)]) (rest := [.int ((alwI d (u / 30) (u % 30)) + (d (202 + (30 * (u / 30) + u % 30)))), .int (creI d (u / 30) (u % 30))]) hF hK (c_X4_street l D y x bd d ca pa pk k len tf (nI (u / 30)) (nI (u % 30)) (nI 2) (hJ) (by omega) (by omega)) (cwV 3 hts gL_holds_X4_street rfl rfl rfl (by decide +kernel) ⟨Nat.le_of_ble_eq_true rfl, Nat.le_of_ble_eq_true rfl⟩) (z_recv (q := (RX4, TX4, 5)) hK hΦ.1 rfl) hΦ rfl hl.1 rfl (Nat.le_of_ble_eq_true rfl) dL_holds_272 ⟨Nat.zero_le _, Nat.zero_le _⟩ ?_
            refine z_topi (z := (d (322 + (30 * (u / 30) + u % 30)))) (aS_2 d (by omega) (by omega)) ?_
            refine lv_isub hx hb dL_holds_275 ?_
            refine lv_icmp_ne (tgt := 283) hx hb dL_holds_276 (by decide) (fun c276 => ?_) (fun c276 => ?_)
            · exact absurd rfl c276
            · refine lv_iconst (v := (nI 1)) hx hb dL_holds_279 (by decide) ?_
              refine lv_goto (tgt := 284) hx hb dL_holds_280 (by decide) ?_
              refine lv_istore (lv' := [(4, .int (nI 1)), (5, .int ((sumN (byF d) u) + (byF d u))), (9, .int (creI d (u / 30) (u % 30))), (8, .int (nI (u % 30))), (7, .int (nI (u / 30))), (6, .int (nI u)), (3, .int (sumN (uvF d) (nG d))), (2, .int (sumN (vaF d) (nG d))), (1, .int (sumN (stF d) (nG d))), (0, .ref x)]) hx hb dL_holds_284 hl (by decide) rfl (fun ls hl => ?_)
              refine lv_iinc (v := (nI (u + 1))) (lv' := [(6, .int (nI (u + 1))), (4, .int (nI 1)), (5, .int ((sumN (byF d) u) + (byF d u))), (9, .int (creI d (u / 30) (u % 30))), (8, .int (nI (u % 30))), (7, .int (nI (u / 30))), (3, .int (sumN (uvF d) (nG d))), (2, .int (sumN (vaF d) (nG d))), (1, .int (sumN (stF d) (nG d))), (0, .ref x)]) hx hb dL_holds_286 hl (k := 5) rfl (in1 _) (by decide) rfl (fun ls hl => ?_)
              refine lv_goto (tgt := 171) hx hb dL_holds_289 (by decide) ?_
              have hl := lv_repl (l' := [(6, .int (nI (u + 1))), (4, .int (nI 1)), (5, .int (sumN (byF d) (u + 1))), (9, .int (creI d (u / 30) (u % 30))), (8, .int (nI (u % 30))), (7, .int (nI (u / 30))), (3, .int (sumN (uvF d) (nG d))), (2, .int (sumN (vaF d) (nG d))), (1, .int (sumN (stF d) (nG d))), (0, .ref x)]) hl 2 rfl (congrArg Value.int (show ((sumN (byF d) u) + (byF d u)) = (sumN (byF d) (u + 1)) from rfl)) rfl
              exact ih_171 (u + 1) _ (by omega) (by omega) (lv_sub hl [0, 2, 1, 6, 7, 8, 9] rfl)
    · refine lv_iload hx hb dL_holds_36 (lv_at hl 1 rfl) ?_
      refine n_if_eq (tgt := 165) hx hb (by omega) dL_holds_38 (by decide) (fun c => absurd c (by decide)) (fun _ => ?_)
      refine lv_aload_n hx hb dL_holds_41 rfl (lv_at hl 5 rfl) ?_
      refine lv_iload hx hb dL_holds_42 (lv_at hl 0 rfl) ?_
      refine lv_iconst (v := (nI 5)) hx hb dL_holds_44 (by decide) ?_
      refine z_callV (As := [.int (nI p), .int (nI 5)]) (rest := []) hF hK (c_X4_permit l D y x bd d ca pa pk k len tf (nI p) (nI 5) (hJ) (by omega) (by omega)) (cwV 2 hts gL_holds_X4_permit rfl rfl rfl (by decide +kernel) ⟨Nat.le_of_ble_eq_true rfl, Nat.le_of_ble_eq_true rfl⟩) (z_recv (q := (RX4, TX4, 5)) hK hΦ.1 rfl) hΦ rfl hl.1 rfl (Nat.le_of_ble_eq_true rfl) dL_holds_45 ⟨Nat.zero_le _, Nat.zero_le _⟩ ?_
      refine z_topi (z := (pm d p 4)) (aP_5 hI (by omega)) ?_
      refine lv_istore (lv' := [(6, .int (pm d p 4)), (5, .int (nI p)), (4, .int (nI 1)), (3, .int (sumN (uvF d) p)), (2, .int (sumN (vaF d) p)), (1, .int (sumN (stF d) p)), (0, .ref x)]) hx hb dL_holds_48 hl (by decide) rfl (fun ls hl => ?_)
      rcases hE.1 p (by omega) with h4 | h4 | h4
      · refine lv_iload_n hx hb dL_holds_50 rfl (lv_at hl 5 rfl) ?_
        refine lv_iload hx hb dL_holds_51 (lv_at hl 0 rfl) ?_
        refine lv_iconst (v := (nI 2)) hx hb dL_holds_53 (by decide) ?_
        refine lv_icmp_ne (tgt := 61) hx hb dL_holds_54 (by decide) (fun c54 => ?_) (fun c54 => ?_)
        · refine lv_iload hx hb dL_holds_61 (lv_at hl 0 rfl) ?_
          refine lv_iconst (v := (nI 3)) hx hb dL_holds_63 (by decide) ?_
          refine lv_icmp_ne (tgt := 72) hx hb dL_holds_64 (by decide) (fun c64 => ?_) (fun c64 => ?_)
          · refine lv_iconst (v := (nI 0)) hx hb dL_holds_72 (by decide) ?_
            refine lv_iadd hx hb dL_holds_73 ?_
            refine lv_istore_n (lv' := [(1, .int ((sumN (stF d) p) + (nI 0))), (6, .int (pm d p 4)), (5, .int (nI p)), (4, .int (nI 1)), (3, .int (sumN (uvF d) p)), (2, .int (sumN (vaF d) p)), (0, .ref x)]) hx hb dL_holds_74 rfl hl (by decide) rfl (fun ls hl => ?_)
            refine lv_iload hx hb dL_holds_75 (lv_at hl 1 rfl) ?_
            refine lv_iconst (v := (nI 1)) hx hb dL_holds_77 (by decide) ?_
            refine lv_icmp_ne (tgt := 159) hx hb dL_holds_78 (by decide) (fun c78 => ?_) (fun c78 => ?_)
            · exact absurd h4 c78
            · refine lv_iinc (v := ((sumN (vaF d) p) + 1)) (lv' := [(2, .int ((sumN (vaF d) p) + 1)), (1, .int ((sumN (stF d) p) + (nI 0))), (6, .int (pm d p 4)), (5, .int (nI p)), (4, .int (nI 1)), (3, .int (sumN (uvF d) p)), (0, .ref x)]) hx hb dL_holds_81 hl (k := 5) rfl (rfl) (by decide) rfl (fun ls hl => ?_)
              refine lv_iload_n hx hb dL_holds_84 rfl (lv_at hl 5 rfl) ?_
              refine lv_aload_n hx hb dL_holds_85 rfl (lv_at hl 6 rfl) ?_
              refine lv_iload hx hb dL_holds_86 (lv_at hl 3 rfl) ?_
              refine lv_iconst (v := (nI 4)) hx hb dL_holds_88 (by decide) ?_
              refine z_callV (As := [.int (nI p), .int (nI 4)]) (rest := [.int (sumN (uvF d) p)]) hF hK (c_X4_permit l D y x bd d ca pa pk k len tf (nI p) (nI 4) (hJ) (by omega) (by omega)) (cwV 2 hts gL_holds_X4_permit rfl rfl rfl (by decide +kernel) ⟨Nat.le_of_ble_eq_true rfl, Nat.le_of_ble_eq_true rfl⟩) (z_recv (q := (RX4, TX4, 5)) hK hΦ.1 rfl) hΦ rfl hl.1 rfl (Nat.le_of_ble_eq_true rfl) dL_holds_89 ⟨Nat.zero_le _, Nat.zero_le _⟩ ?_
              refine z_topi (z := (usI d p)) (aP_4 hI (by omega)) ?_
              refine lv_iadd hx hb dL_holds_92 ?_
              refine lv_istore_n (lv' := [(3, .int ((sumN (uvF d) p) + (usI d p))), (2, .int ((sumN (vaF d) p) + 1)), (1, .int ((sumN (stF d) p) + (nI 0))), (6, .int (pm d p 4)), (5, .int (nI p)), (4, .int (nI 1)), (0, .ref x)]) hx hb dL_holds_93 rfl hl (by decide) rfl (fun ls hl => ?_)
              refine lv_aload_n hx hb dL_holds_94 rfl (lv_at hl 6 rfl) ?_
              refine lv_iload hx hb dL_holds_95 (lv_at hl 4 rfl) ?_
              refine lv_iconst (v := (nI 0)) hx hb dL_holds_97 (by decide) ?_
              refine z_callV (As := [.int (nI p), .int (nI 0)]) (rest := []) hF hK (c_X4_permit l D y x bd d ca pa pk k len tf (nI p) (nI 0) (hJ) (by omega) (by omega)) (cwV 2 hts gL_holds_X4_permit rfl rfl rfl (by decide +kernel) ⟨Nat.le_of_ble_eq_true rfl, Nat.le_of_ble_eq_true rfl⟩) (z_recv (q := (RX4, TX4, 5)) hK hΦ.1 rfl) hΦ rfl hl.1 rfl (Nat.le_of_ble_eq_true rfl) dL_holds_98 ⟨Nat.zero_le _, Nat.zero_le _⟩ ?_
              refine z_topi (z := (nI (pC d p))) ((aP_w hI (by omega) (by decide)).trans (hI.pc (by omega))) ?_
              refine lv_istore (lv' := [(7, .int (nI (pC d p))), (3, .int ((sumN (uvF d) p) + (usI d p))), (2, .int ((sumN (vaF d) p) + 1)), (1, .int ((sumN (stF d) p) + (nI 0))), (6, .int (pm d p 4)), (5, .int (nI p)), (4, .int (nI 1)), (0, .ref x)]) hx hb dL_holds_101 hl (by decide) rfl (fun ls hl => ?_)
              refine lv_aload_n hx hb dL_holds_103 rfl (lv_at hl 7 rfl) ?_
              refine lv_iload hx hb dL_holds_104 (lv_at hl 5 rfl) ?_
              refine lv_iconst (v := (nI 1)) hx hb dL_holds_106 (by decide) ?_
              refine z_callV (As := [.int (nI p), .int (nI 1)]) (rest := []) hF hK (c_X4_permit l D y x bd d ca pa pk k len tf (nI p) (nI 1) (hJ) (by omega) (by omega)) (cwV 2 hts gL_holds_X4_permit rfl rfl rfl (by decide +kernel) ⟨Nat.le_of_ble_eq_true rfl, Nat.le_of_ble_eq_true rfl⟩) (z_recv (q := (RX4, TX4, 5)) hK hΦ.1 rfl) hΦ rfl hl.1 rfl (Nat.le_of_ble_eq_true rfl) dL_holds_107 ⟨Nat.zero_le _, Nat.zero_le _⟩ ?_
              refine z_topi (z := (nI (nN d p))) ((aP_w hI (by omega) (by decide)).trans (hpl.nn (by omega)).1) ?_
              refine lv_istore (lv' := [(8, .int (nI (nN d p))), (7, .int (nI (pC d p))), (3, .int ((sumN (uvF d) p) + (usI d p))), (2, .int ((sumN (vaF d) p) + 1)), (1, .int ((sumN (stF d) p) + (nI 0))), (6, .int (pm d p 4)), (5, .int (nI p)), (4, .int (nI 1)), (0, .ref x)]) hx hb dL_holds_110 hl (by decide) rfl (fun ls hl => ?_)
              refine lv_aload_n hx hb dL_holds_112 rfl (lv_at hl 8 rfl) ?_
              refine lv_iconst (v := (nI 0)) hx hb dL_holds_113 (by decide) ?_
              refine lv_iload hx hb dL_holds_114 (lv_at hl 0 rfl) ?_
              refine lv_bipush (v := (nI 6)) hx hb dL_holds_116 (by decide) ?_
              refine z_callV (As := [.int (nI 0), .int (nI (nN d p)), .int (nI 6)]) (rest := []) hF hK (c_X4_street l D y x bd d ca pa pk k len tf (nI 0) (nI (nN d p)) (nI 6) (hJ) (by omega) (by omega)) (cwV 3 hts gL_holds_X4_street rfl rfl rfl (by decide +kernel) ⟨Nat.le_of_ble_eq_true rfl, Nat.le_of_ble_eq_true rfl⟩) (z_recv (q := (RX4, TX4, 5)) hK hΦ.1 rfl) hΦ rfl hl.1 rfl (Nat.le_of_ble_eq_true rfl) dL_holds_118 ⟨Nat.zero_le _, Nat.zero_le _⟩ ?_
              refine z_topi (z := (d (52 + nN d p))) (aS_6 d (by decide) (hpl.nn (by omega)).2) ?_
              refine lv_aload_n hx hb dL_holds_121 rfl (lv_at hl 8 rfl) ?_
              refine lv_iload hx hb dL_holds_122 (lv_at hl 1 rfl) ?_
              refine lv_bipush (v := (nI 7)) hx hb dL_holds_124 (by decide) ?_
              refine z_callV (As := [.int (nI (pC d p)), .int (nI 7)]) (rest := [.int (d (52 + nN d p))]) hF hK (c_X4_craneOf l D y x bd d ca pa pk k len tf (nI (pC d p)) (nI 7) (hJ) (by omega) (by omega)) (cwV 2 hts gL_holds_X4_craneOf rfl rfl rfl (by decide +kernel) ⟨Nat.le_of_ble_eq_true rfl, Nat.le_of_ble_eq_true rfl⟩) (z_recv (q := (RX4, TX4, 5)) hK hΦ.1 rfl) hΦ rfl hl.1 rfl (Nat.le_of_ble_eq_true rfl) dL_holds_126 ⟨Nat.zero_le _, Nat.zero_le _⟩ ?_
              refine z_topi (z := (d 1 - gr d (pC d p) 3 / nI 2)) (aC_7 hI (hI.pcn (by omega))) ?_
              refine lv_icmp_ge (tgt := 156) hx hb dL_holds_129 (by decide) (fun c129 => ?_) (fun c129 => ?_)
              · exact absurd (sp_lt (hZ.sp (by omega) h4).1) (Int32.not_lt.mpr c129)
              · refine lv_aload_n hx hb dL_holds_132 rfl (lv_at hl 8 rfl) ?_
                refine lv_iload hx hb dL_holds_133 (lv_at hl 1 rfl) ?_
                refine lv_iload hx hb dL_holds_135 (lv_at hl 0 rfl) ?_
                refine lv_aload_n hx hb dL_holds_137 rfl (lv_at hl 8 rfl) ?_
                refine lv_iload hx hb dL_holds_138 (lv_at hl 6 rfl) ?_
                refine lv_iconst (v := (nI 2)) hx hb dL_holds_140 (by decide) ?_
                refine z_callV (As := [.int (nI p), .int (nI 2)]) (rest := [.int (nI (nN d p)), .int (nI (pC d p)), .ref x]) hF hK (c_X4_permit l D y x bd d ca pa pk k len tf (nI p) (nI 2) (hJ) (by omega) (by omega)) (cwV 2 hts gL_holds_X4_permit rfl rfl rfl (by decide +kernel) ⟨Nat.le_of_ble_eq_true rfl, Nat.le_of_ble_eq_true rfl⟩) (z_recv (q := (RX4, TX4, 5)) hK hΦ.1 rfl) hΦ rfl hl.1 rfl (Nat.le_of_ble_eq_true rfl) dL_holds_141 ⟨Nat.zero_le _, Nat.zero_le _⟩ ?_
                refine z_topi (z := (pm d p 2)) (aP_w hI (by omega) (by decide)) ?_
                refine lv_iconst (v := (nI 1)) hx hb dL_holds_144 (by decide) ?_
                refine z_callV (As := [.int (nI (pC d p)), .int (nI (nN d p)), .int (pm d p 2), .int (nI 1)]) (rest := []) hF hK (c_X4_refusal l D y x bd d ca pa pk k len tf (nI (pC d p)) (nI (nN d p)) (pm d p 2) (nI 1) (hJ) (by omega) (by omega)) (cwV 4 hts gL_holds_X4_refusal rfl rfl rfl (by decide +kernel) ⟨Nat.le_of_ble_eq_true rfl, Nat.le_of_ble_eq_true rfl⟩) (z_recv (q := (RX4, TX4, 5)) hK hΦ.1 rfl) hΦ rfl hl.1 rfl (Nat.le_of_ble_eq_true rfl) dL_holds_145 ⟨Nat.zero_le _, Nat.zero_le _⟩ ?_
                refine z_topi (z := (nI 1)) (aR_1 hI hpl (by omega) h4) ?_
                refine lv_iconst (v := (nI 1)) hx hb dL_holds_148 (by decide) ?_
                refine z_ne (tgt := 156) hx hb (by omega) (by omega) dL_holds_149 (by decide) (fun c149 => ?_) (fun c149 => ?_)
                · exact absurd rfl c149
                · refine lv_iconst (v := (nI 1)) hx hb dL_holds_152 (by decide) ?_
                  refine lv_goto (tgt := 157) hx hb dL_holds_153 (by decide) ?_
                  refine lv_istore (lv' := [(4, .int (nI 1)), (8, .int (nI (nN d p))), (7, .int (nI (pC d p))), (3, .int ((sumN (uvF d) p) + (usI d p))), (2, .int ((sumN (vaF d) p) + 1)), (1, .int ((sumN (stF d) p) + (nI 0))), (6, .int (pm d p 4)), (5, .int (nI p)), (0, .ref x)]) hx hb dL_holds_157 hl (by decide) rfl (fun ls hl => ?_)
                  refine lv_iinc (v := (nI (p + 1))) (lv' := [(5, .int (nI (p + 1))), (4, .int (nI 1)), (8, .int (nI (nN d p))), (7, .int (nI (pC d p))), (3, .int ((sumN (uvF d) p) + (usI d p))), (2, .int ((sumN (vaF d) p) + 1)), (1, .int ((sumN (stF d) p) + (nI 0))), (6, .int (pm d p 4)), (0, .ref x)]) hx hb dL_holds_159 hl (k := 7) rfl (in1 _) (by decide) rfl (fun ls hl => ?_)
                  refine lv_goto (tgt := 26) hx hb dL_holds_162 (by decide) ?_
                  have hl := lv_repl (l' := [(5, .int (nI (p + 1))), (4, .int (nI 1)), (8, .int (nI (nN d p))), (7, .int (nI (pC d p))), (3, .int (sumN (uvF d) (p + 1))), (2, .int ((sumN (vaF d) p) + 1)), (1, .int ((sumN (stF d) p) + (nI 0))), (6, .int (pm d p 4)), (0, .ref x)]) hl 4 rfl (congrArg Value.int (show ((sumN (uvF d) p) + (usI d p)) = (sumN (uvF d) (p + 1)) from by first | (rw [sumN_s, uvF, if_pos h4]; done) | (rw [sumN_s, uvF, h4, if_neg (by decide), add_z]; done))) rfl
                  have hl := lv_repl (l' := [(5, .int (nI (p + 1))), (4, .int (nI 1)), (8, .int (nI (nN d p))), (7, .int (nI (pC d p))), (3, .int (sumN (uvF d) (p + 1))), (2, .int (sumN (vaF d) (p + 1))), (1, .int ((sumN (stF d) p) + (nI 0))), (6, .int (pm d p 4)), (0, .ref x)]) hl 5 rfl (congrArg Value.int (show ((sumN (vaF d) p) + 1) = (sumN (vaF d) (p + 1)) from by first | (rw [sumN_s, vaF, h4, if_pos rfl]; done) | (rw [sumN_s, vaF, h4, if_pos rfl]; rfl) | (rw [sumN_s, vaF, h4, if_neg (by decide), add_z]; done))) rfl
                  have hl := lv_repl (l' := [(5, .int (nI (p + 1))), (4, .int (nI 1)), (8, .int (nI (nN d p))), (7, .int (nI (pC d p))), (3, .int (sumN (uvF d) (p + 1))), (2, .int (sumN (vaF d) (p + 1))), (1, .int (sumN (stF d) (p + 1))), (6, .int (pm d p 4)), (0, .ref x)]) hl 6 rfl (congrArg Value.int (show ((sumN (stF d) p) + (nI 0)) = (sumN (stF d) (p + 1)) from by first | (rw [sumN_s, stF, h4, if_neg (by decide), if_neg (by decide)]; done) | (rw [sumN_s, stF, h4, if_pos rfl]; done) | (rw [sumN_s, stF, h4, if_neg (by decide), if_pos rfl]; done))) rfl
                  exact ih_26 (p + 1) _ (by omega) (by omega) (lv_sub hl [0, 1, 4, 5, 6, 8] rfl)
          · exact absurd (h4.symm.trans c64) (by decide)
        · exact absurd (h4.symm.trans c54) (by decide)
      · refine lv_iload_n hx hb dL_holds_50 rfl (lv_at hl 5 rfl) ?_
        refine lv_iload hx hb dL_holds_51 (lv_at hl 0 rfl) ?_
        refine lv_iconst (v := (nI 2)) hx hb dL_holds_53 (by decide) ?_
        refine lv_icmp_ne (tgt := 61) hx hb dL_holds_54 (by decide) (fun c54 => ?_) (fun c54 => ?_)
        · exact absurd h4 c54
        · refine lv_iconst (v := (nI 1)) hx hb dL_holds_57 (by decide) ?_
          refine lv_goto (tgt := 73) hx hb dL_holds_58 (by decide) ?_
          refine lv_iadd hx hb dL_holds_73 ?_
          refine lv_istore_n (lv' := [(1, .int ((sumN (stF d) p) + (nI 1))), (6, .int (pm d p 4)), (5, .int (nI p)), (4, .int (nI 1)), (3, .int (sumN (uvF d) p)), (2, .int (sumN (vaF d) p)), (0, .ref x)]) hx hb dL_holds_74 rfl hl (by decide) rfl (fun ls hl => ?_)
          refine lv_iload hx hb dL_holds_75 (lv_at hl 1 rfl) ?_
          refine lv_iconst (v := (nI 1)) hx hb dL_holds_77 (by decide) ?_
          refine lv_icmp_ne (tgt := 159) hx hb dL_holds_78 (by decide) (fun c78 => ?_) (fun c78 => ?_)
          · refine lv_iinc (v := (nI (p + 1))) (lv' := [(5, .int (nI (p + 1))), (1, .int ((sumN (stF d) p) + (nI 1))), (6, .int (pm d p 4)), (4, .int (nI 1)), (3, .int (sumN (uvF d) p)), (2, .int (sumN (vaF d) p)), (0, .ref x)]) hx hb dL_holds_159 hl (k := 2) rfl (in1 _) (by decide) rfl (fun ls hl => ?_)
            refine lv_goto (tgt := 26) hx hb dL_holds_162 (by decide) ?_
            have hl := lv_repl (l' := [(5, .int (nI (p + 1))), (1, .int ((sumN (stF d) p) + (nI 1))), (6, .int (pm d p 4)), (4, .int (nI 1)), (3, .int (sumN (uvF d) (p + 1))), (2, .int (sumN (vaF d) p)), (0, .ref x)]) hl 4 rfl (congrArg Value.int (show (sumN (uvF d) p) = (sumN (uvF d) (p + 1)) from by first | (rw [sumN_s, uvF, if_pos h4]; done) | (rw [sumN_s, uvF, h4, if_neg (by decide), add_z]; done))) rfl
            have hl := lv_repl (l' := [(5, .int (nI (p + 1))), (1, .int ((sumN (stF d) p) + (nI 1))), (6, .int (pm d p 4)), (4, .int (nI 1)), (3, .int (sumN (uvF d) (p + 1))), (2, .int (sumN (vaF d) (p + 1))), (0, .ref x)]) hl 5 rfl (congrArg Value.int (show (sumN (vaF d) p) = (sumN (vaF d) (p + 1)) from by first | (rw [sumN_s, vaF, h4, if_pos rfl]; done) | (rw [sumN_s, vaF, h4, if_pos rfl]; rfl) | (rw [sumN_s, vaF, h4, if_neg (by decide), add_z]; done))) rfl
            have hl := lv_repl (l' := [(5, .int (nI (p + 1))), (1, .int (sumN (stF d) (p + 1))), (6, .int (pm d p 4)), (4, .int (nI 1)), (3, .int (sumN (uvF d) (p + 1))), (2, .int (sumN (vaF d) (p + 1))), (0, .ref x)]) hl 1 rfl (congrArg Value.int (show ((sumN (stF d) p) + (nI 1)) = (sumN (stF d) (p + 1)) from by first | (rw [sumN_s, stF, h4, if_neg (by decide), if_neg (by decide)]; done) | (rw [sumN_s, stF, h4, if_pos rfl]; done) | (rw [sumN_s, stF, h4, if_neg (by decide), if_pos rfl]; done))) rfl
            exact ih_26 (p + 1) _ (by omega) (by omega) (lv_sub hl [0, 3, 4, 5, 1, 6] rfl)
          · exact absurd (h4.symm.trans c78) (by decide)
      · refine lv_iload_n hx hb dL_holds_50 rfl (lv_at hl 5 rfl) ?_
        refine lv_iload hx hb dL_holds_51 (lv_at hl 0 rfl) ?_
        refine lv_iconst (v := (nI 2)) hx hb dL_holds_53 (by decide) ?_
        refine lv_icmp_ne (tgt := 61) hx hb dL_holds_54 (by decide) (fun c54 => ?_) (fun c54 => ?_)
        · refine lv_iload hx hb dL_holds_61 (lv_at hl 0 rfl) ?_
          refine lv_iconst (v := (nI 3)) hx hb dL_holds_63 (by decide) ?_
          refine lv_icmp_ne (tgt := 72) hx hb dL_holds_64 (by decide) (fun c64 => ?_) (fun c64 => ?_)
          · exact absurd h4 c64
          · refine lv_bipush (v := (nI 100)) hx hb dL_holds_67 (by decide) ?_
            refine lv_goto (tgt := 73) hx hb dL_holds_69 (by decide) ?_
            refine lv_iadd hx hb dL_holds_73 ?_
            refine lv_istore_n (lv' := [(1, .int ((sumN (stF d) p) + (nI 100))), (6, .int (pm d p 4)), (5, .int (nI p)), (4, .int (nI 1)), (3, .int (sumN (uvF d) p)), (2, .int (sumN (vaF d) p)), (0, .ref x)]) hx hb dL_holds_74 rfl hl (by decide) rfl (fun ls hl => ?_)
            refine lv_iload hx hb dL_holds_75 (lv_at hl 1 rfl) ?_
            refine lv_iconst (v := (nI 1)) hx hb dL_holds_77 (by decide) ?_
            refine lv_icmp_ne (tgt := 159) hx hb dL_holds_78 (by decide) (fun c78 => ?_) (fun c78 => ?_)
            · refine lv_iinc (v := (nI (p + 1))) (lv' := [(5, .int (nI (p + 1))), (1, .int ((sumN (stF d) p) + (nI 100))), (6, .int (pm d p 4)), (4, .int (nI 1)), (3, .int (sumN (uvF d) p)), (2, .int (sumN (vaF d) p)), (0, .ref x)]) hx hb dL_holds_159 hl (k := 2) rfl (in1 _) (by decide) rfl (fun ls hl => ?_)
              refine lv_goto (tgt := 26) hx hb dL_holds_162 (by decide) ?_
              have hl := lv_repl (l' := [(5, .int (nI (p + 1))), (1, .int ((sumN (stF d) p) + (nI 100))), (6, .int (pm d p 4)), (4, .int (nI 1)), (3, .int (sumN (uvF d) (p + 1))), (2, .int (sumN (vaF d) p)), (0, .ref x)]) hl 4 rfl (congrArg Value.int (show (sumN (uvF d) p) = (sumN (uvF d) (p + 1)) from by first | (rw [sumN_s, uvF, if_pos h4]; done) | (rw [sumN_s, uvF, h4, if_neg (by decide), add_z]; done))) rfl
              have hl := lv_repl (l' := [(5, .int (nI (p + 1))), (1, .int ((sumN (stF d) p) + (nI 100))), (6, .int (pm d p 4)), (4, .int (nI 1)), (3, .int (sumN (uvF d) (p + 1))), (2, .int (sumN (vaF d) (p + 1))), (0, .ref x)]) hl 5 rfl (congrArg Value.int (show (sumN (vaF d) p) = (sumN (vaF d) (p + 1)) from by first | (rw [sumN_s, vaF, h4, if_pos rfl]; done) | (rw [sumN_s, vaF, h4, if_pos rfl]; rfl) | (rw [sumN_s, vaF, h4, if_neg (by decide), add_z]; done))) rfl
              have hl := lv_repl (l' := [(5, .int (nI (p + 1))), (1, .int (sumN (stF d) (p + 1))), (6, .int (pm d p 4)), (4, .int (nI 1)), (3, .int (sumN (uvF d) (p + 1))), (2, .int (sumN (vaF d) (p + 1))), (0, .ref x)]) hl 1 rfl (congrArg Value.int (show ((sumN (stF d) p) + (nI 100)) = (sumN (stF d) (p + 1)) from by first | (rw [sumN_s, stF, h4, if_neg (by decide), if_neg (by decide)]; done) | (rw [sumN_s, stF, h4, if_pos rfl]; done) | (rw [sumN_s, stF, h4, if_neg (by decide), if_pos rfl]; done))) rfl
              exact ih_26 (p + 1) _ (by omega) (by omega) (lv_sub hl [0, 3, 4, 5, 1, 6] rfl)
            · exact absurd (h4.symm.trans c78) (by decide)
        · exact absurd (h4.symm.trans c54) (by decide)
set_option maxRecDepth 100000 in
set_option maxHeartbeats 4000000 in
theorem c_L_swings (l : Launch) (D : va_G) (y : zY) (x : Nat) (bd : Nat) (d : Nat → Int32) (ca : Nat → Nat) (pa : Nat → Nat) (pk : Nat → Nat) (k : Nat) (len : Nat) (tf : Nat → Int32) (c : Nat) (hJ : rJ d) (hPl : plC d) (hc : c < nC d) (hc4 : c < 4) (hk4 : k ≤ 4) (hl80 : len ≤ 80) : Met l yL_swings wsL_swings ({ frames := 3, cells := 0, slots := 0, locals := 71 }) (zP [.ref x, .int (nI c)] (fun H => clR D y x bd d ca pa pk k len tf H) D y) (zQ (some (.int (bI true)))) 0 0 nofree := by
  refine z_body (cc := cL_swings) (maxL := 6) (ret := (some .boolean)) (la := [(0, .ref x), (1, .int (nI c))]) (by decide) rfl (Nat.le_of_ble_eq_true rfl) rfl ?_
  intro pg ev s mm below meth c0 ls hx hb hr hF hlocks hΦ hK hl _
  have hts := hF.2.2.2.2
  have hown : s.vm.findClass RL = some mm.cls := hF.2.2.2.1
  have hI := hJ.1
  have hC8 := hI.nc8
  obtain ⟨sa1, sa2⟩ := sw_all hI hPl hc hc4
  refine lv_iconst (v := (nI 1)) hx hb dL_swings_0 (by decide) ?_
  refine lv_istore_n (lv' := [(2, .int (nI 1)), (0, .ref x), (1, .int (nI c))]) hx hb dL_swings_1 rfl hl (by decide) rfl (fun ls hl => ?_)
  refine lv_iconst (v := (nI 1)) hx hb dL_swings_2 (by decide) ?_
  refine lv_istore_n (lv' := [(3, .int (nI 1)), (2, .int (nI 1)), (0, .ref x), (1, .int (nI c))]) hx hb dL_swings_3 rfl hl (by decide) rfl (fun ls hl => ?_)
  refine lv_iconst (v := (nI 0)) hx hb dL_swings_4 (by decide) ?_
  refine lv_istore (lv' := [(4, .int (nI 0)), (3, .int (nI 1)), (2, .int (nI 1)), (0, .ref x), (1, .int (nI c))]) hx hb dL_swings_5 hl (by decide) rfl (fun ls hl => ?_)
  have hl := lv_repl (l' := [(4, .int (nI 0)), (3, .int (nI 1)), (2, .int (alS d c 0)), (0, .ref x), (1, .int (nI c))]) hl 2 rfl (congrArg Value.int (show (nI 1) = (alS d c 0) from rfl)) rfl
  refine z_loop (S := Nat) (nL := 6) (fun (q : Nat) => 8 - q) (fun (q : Nat) => [(4, .int (nI q)), (2, .int (alS d c q)), (0, .ref x), (1, .int (nI c))]) (fun (q : Nat) => q ≤ 8) 0 (by omega) (lv_sub hl [0, 2, 3, 4] rfl) ?_
  clear hl
  rintro q ls hI_7 hl ih_7
  have hq0 := hI_7
  refine lv_iload hx hb dL_swings_7 (lv_at hl 0 rfl) ?_
  refine lv_bipush (v := (nI 8)) hx hb dL_swings_9 (by decide) ?_
  refine z_ge (tgt := 34) hx hb (by omega) (by omega) dL_swings_11 (by decide) (fun c11 => ?_) (fun c11 => ?_)
  · have hqe : q = 8 := by omega
    subst hqe
    refine lv_aload_n hx hb dL_swings_34 rfl (lv_at hl 2 rfl) ?_
    refine lv_iload_n hx hb dL_swings_35 rfl (lv_at hl 3 rfl) ?_
    refine lv_bipush (v := (nI 15)) hx hb dL_swings_36 (by decide) ?_
    refine z_callV (As := [.int (nI c), .int (nI 15)]) (rest := []) hF hK (c_X4_area l D y x bd d ca pa pk k len tf (nI c) (nI 15) (hJ) (by omega) (by omega)) (cwV 2 hts gL_swings_X4_area rfl rfl rfl (by decide +kernel) ⟨Nat.le_of_ble_eq_true rfl, Nat.le_of_ble_eq_true rfl⟩) (z_recv (q := (RX4, TX4, 5)) hK hΦ.1 rfl) hΦ rfl hl.1 rfl (Nat.le_of_ble_eq_true rfl) dL_swings_38 ⟨Nat.zero_le _, Nat.zero_le _⟩ ?_
    refine lv_istore (lv' := [(4, .int (aArea d (nI c) (nI 15))), (2, .int (alS d c 8)), (0, .ref x), (1, .int (nI c))]) hx hb dL_swings_41 hl (by decide) rfl (fun ls hl => ?_)
    refine lv_aload_n hx hb dL_swings_43 rfl (lv_at hl 2 rfl) ?_
    refine lv_iload_n hx hb dL_swings_44 rfl (lv_at hl 3 rfl) ?_
    refine lv_sipush (v := (nI 240)) hx hb dL_swings_45 (by decide) ?_
    refine z_callV (As := [.int (nI c), .int (nI 240)]) (rest := []) hF hK (c_X4_area l D y x bd d ca pa pk k len tf (nI c) (nI 240) (hJ) (by omega) (by omega)) (cwV 2 hts gL_swings_X4_area rfl rfl rfl (by decide +kernel) ⟨Nat.le_of_ble_eq_true rfl, Nat.le_of_ble_eq_true rfl⟩) (z_recv (q := (RX4, TX4, 5)) hK hΦ.1 rfl) hΦ rfl hl.1 rfl (Nat.le_of_ble_eq_true rfl) dL_swings_48 ⟨Nat.zero_le _, Nat.zero_le _⟩ ?_
    refine lv_istore (lv' := [(5, .int (aArea d (nI c) (nI 240))), (4, .int (aArea d (nI c) (nI 15))), (2, .int (alS d c 8)), (0, .ref x), (1, .int (nI c))]) hx hb dL_swings_51 hl (by decide) rfl (fun ls hl => ?_)
    refine lv_iload_n hx hb dL_swings_53 rfl (lv_at hl 2 rfl) ?_
    refine lv_aload_n hx hb dL_swings_54 rfl (lv_at hl 3 rfl) ?_
    refine lv_iload_n hx hb dL_swings_55 rfl (lv_at hl 4 rfl) ?_
    refine lv_sipush (v := (nI 255)) hx hb dL_swings_56 (by decide) ?_
    refine z_callV (As := [.int (nI c), .int (nI 255)]) (rest := [.int (alS d c 8)]) hF hK (c_X4_area l D y x bd d ca pa pk k len tf (nI c) (nI 255) (hJ) (by omega) (by omega)) (cwV 2 hts gL_swings_X4_area rfl rfl rfl (by decide +kernel) ⟨Nat.le_of_ble_eq_true rfl, Nat.le_of_ble_eq_true rfl⟩) (z_recv (q := (RX4, TX4, 5)) hK hΦ.1 rfl) hΦ rfl hl.1 rfl (Nat.le_of_ble_eq_true rfl) dL_swings_59 ⟨Nat.zero_le _, Nat.zero_le _⟩ ?_
    refine lv_icmp_ne (tgt := 103) hx hb dL_swings_62 (by decide) (fun c62 => ?_) (fun c62 => ?_)
    · exact absurd sa1 c62
    · refine lv_iload hx hb dL_swings_65 (lv_at hl 1 rfl) ?_
      refine lv_iload hx hb dL_swings_67 (lv_at hl 0 rfl) ?_
      refine lv_iadd hx hb dL_swings_69 ?_
      refine lv_iconst (v := (nI 1)) hx hb dL_swings_70 (by decide) ?_
      refine lv_isub hx hb dL_swings_71 ?_
      refine lv_iload_n hx hb dL_swings_72 rfl (lv_at hl 2 rfl) ?_
      refine lv_icmp_ne (tgt := 103) hx hb dL_swings_73 (by decide) (fun c73 => ?_) (fun c73 => ?_)
      · exact absurd sa2 c73
      · refine lv_aload_n hx hb dL_swings_76 rfl (lv_at hl 3 rfl) ?_
        refine lv_iload_n hx hb dL_swings_77 rfl (lv_at hl 4 rfl) ?_
        refine lv_bipush (v := (nI 15)) hx hb dL_swings_78 (by decide) ?_
        refine lv_aload_n hx hb dL_swings_80 rfl (lv_at hl 3 rfl) ?_
        refine lv_iload_n hx hb dL_swings_81 rfl (lv_at hl 4 rfl) ?_
        refine lv_iconst (v := (nI 0)) hx hb dL_swings_82 (by decide) ?_
        refine z_callV (As := [.int (nI c), .int (nI 0)]) (rest := [.int (nI 15), .int (nI c), .ref x]) hF hK (c_X4_craneOf l D y x bd d ca pa pk k len tf (nI c) (nI 0) (hJ) (by omega) (by omega)) (cwV 2 hts gL_swings_X4_craneOf rfl rfl rfl (by decide +kernel) ⟨Nat.le_of_ble_eq_true rfl, Nat.le_of_ble_eq_true rfl⟩) (z_recv (q := (RX4, TX4, 5)) hK hΦ.1 rfl) hΦ rfl hl.1 rfl (Nat.le_of_ble_eq_true rfl) dL_swings_83 ⟨Nat.zero_le _, Nat.zero_le _⟩ ?_
        refine z_topi (z := (gr d c 0)) (aC_w hI hc (by decide)) ?_
        refine lv_aload_n hx hb dL_swings_86 rfl (lv_at hl 3 rfl) ?_
        refine lv_iload_n hx hb dL_swings_87 rfl (lv_at hl 4 rfl) ?_
        refine lv_iconst (v := (nI 1)) hx hb dL_swings_88 (by decide) ?_
        refine z_callV (As := [.int (nI c), .int (nI 1)]) (rest := [.int (gr d c 0), .int (nI 15), .int (nI c), .ref x]) hF hK (c_X4_craneOf l D y x bd d ca pa pk k len tf (nI c) (nI 1) (hJ) (by omega) (by omega)) (cwV 2 hts gL_swings_X4_craneOf rfl rfl rfl (by decide +kernel) ⟨Nat.le_of_ble_eq_true rfl, Nat.le_of_ble_eq_true rfl⟩) (z_recv (q := (RX4, TX4, 5)) hK hΦ.1 rfl) hΦ rfl hl.1 rfl (Nat.le_of_ble_eq_true rfl) dL_swings_89 ⟨Nat.zero_le _, Nat.zero_le _⟩ ?_
        refine z_topi (z := (gr d c 1)) (aC_w hI hc (by decide)) ?_
        refine z_callV (As := [.int (nI c), .int (nI 15), .int (gr d c 0), .int (gr d c 1)]) (rest := []) hF hK (c_X4_covers l D y x bd d ca pa pk k len tf (nI c) (nI 15) (gr d c 0) (gr d c 1) (hJ) (by omega) (by omega)) (cwV 4 hts gL_swings_X4_covers rfl rfl rfl (by decide +kernel) ⟨Nat.le_of_ble_eq_true rfl, Nat.le_of_ble_eq_true rfl⟩) (z_recv (q := (RX4, TX4, 5)) hK hΦ.1 rfl) hΦ rfl hl.1 rfl (Nat.le_of_ble_eq_true rfl) dL_swings_92 ⟨Nat.zero_le _, Nat.zero_le _⟩ ?_
        refine z_topi (z := (nI 1)) (cv_own hI hPl hc hc4) ?_
        refine lv_iconst (v := (nI 1)) hx hb dL_swings_95 (by decide) ?_
        refine z_ne (tgt := 103) hx hb (by omega) (by omega) dL_swings_96 (by decide) (fun c96 => ?_) (fun c96 => ?_)
        · exact absurd rfl c96
        · refine lv_iconst (v := (nI 1)) hx hb dL_swings_99 (by decide) ?_
          refine lv_goto (tgt := 104) hx hb dL_swings_100 (by decide) ?_
          refine lv_istore_n (lv' := [(3, .int (nI 1)), (5, .int (aArea d (nI c) (nI 240))), (4, .int (aArea d (nI c) (nI 15))), (2, .int (alS d c 8)), (0, .ref x), (1, .int (nI c))]) hx hb dL_swings_104 rfl hl (by decide) rfl (fun ls hl => ?_)
          refine lv_iload_n hx hb dL_swings_105 rfl (lv_at hl 0 rfl) ?_
          exact z_retz hx hb hr hlocks rfl (bI_tt (rfl)) dL_swings_106
  · refine lv_iload_n hx hb dL_swings_14 rfl (lv_at hl 1 rfl) ?_
    refine lv_aload_n hx hb dL_swings_15 rfl (lv_at hl 2 rfl) ?_
    refine lv_iload_n hx hb dL_swings_16 rfl (lv_at hl 3 rfl) ?_
    refine lv_iconst (v := (nI 1)) hx hb dL_swings_17 (by decide) ?_
    refine lv_iload hx hb dL_swings_18 (lv_at hl 0 rfl) ?_
    refine lv_ishl hx hb dL_swings_20 ?_
    refine z_topi (z := (shI q)) (rfl) ?_
    refine z_callV (As := [.int (nI c), .int (shI q)]) (rest := [.int (alS d c q)]) hF hK (c_X4_area l D y x bd d ca pa pk k len tf (nI c) (shI q) (hJ) (by omega) (by omega)) (cwV 2 hts gL_swings_X4_area rfl rfl rfl (by decide +kernel) ⟨Nat.le_of_ble_eq_true rfl, Nat.le_of_ble_eq_true rfl⟩) (z_recv (q := (RX4, TX4, 5)) hK hΦ.1 rfl) hΦ rfl hl.1 rfl (Nat.le_of_ble_eq_true rfl) dL_swings_21 ⟨Nat.zero_le _, Nat.zero_le _⟩ ?_
    refine z_topi (z := (sumN (areF d c (shI q)) 256)) (aA hI hc (sh_in (by omega))) ?_
    refine lv_iconst (v := (nI 1)) hx hb dL_swings_24 (by decide) ?_
    refine lv_isub hx hb dL_swings_25 ?_
    refine lv_iadd hx hb dL_swings_26 ?_
    refine lv_istore_n (lv' := [(2, .int ((alS d c q) + ((sumN (areF d c (shI q)) 256) - (nI 1)))), (4, .int (nI q)), (0, .ref x), (1, .int (nI c))]) hx hb dL_swings_27 rfl hl (by decide) rfl (fun ls hl => ?_)
    refine lv_iinc (v := (nI (q + 1))) (lv' := [(4, .int (nI (q + 1))), (2, .int ((alS d c q) + ((sumN (areF d c (shI q)) 256) - (nI 1)))), (0, .ref x), (1, .int (nI c))]) hx hb dL_swings_28 hl (k := 1) rfl (in1 _) (by decide) rfl (fun ls hl => ?_)
    refine lv_goto (tgt := 7) hx hb dL_swings_31 (by decide) ?_
    have hl := lv_repl (l' := [(4, .int (nI (q + 1))), (2, .int (alS d c (q + 1))), (0, .ref x), (1, .int (nI c))]) hl 1 rfl (congrArg Value.int (show ((alS d c q) + ((sumN (areF d c (shI q)) 256) - (nI 1))) = (alS d c (q + 1)) from rfl)) rfl
    exact ih_7 (q + 1) _ (by omega) (by omega) (lv_sub hl [0, 1, 2, 3] rfl)
