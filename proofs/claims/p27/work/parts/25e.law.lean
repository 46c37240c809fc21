/-! THE LAW: a step, 2 -/
set_option maxRecDepth 100000 in
set_option maxHeartbeats 4000000 in
theorem L_c2 {p : Program} {l : Launch} {e : Env} {s : State} {m : MethodId} {below : List Frame} {meth : Method} {c : Code} {b L x : Nat} {xs : Nat → Int32} {D : va_G} {y : zY} (hC : lwX p s m meth c b L x xs D y) {u z : Nat} (hu : u < 32) (hz : z < 268435456) {H : Heap} {locs : List Loc} {ls : Array Slot} (hI0 : lI D y x s u u 4 H locs) (hl : lv_has ls 18 [(6, .int (nI 0)), (5, .int (nI z)), (3, .int (nI u)), (2, .int (nI 1)), (1, .ref x), (0, .ref b)])
    (ih : ∀ (H' : Heap) (locs' : List Loc) (ls' : Array Slot), lI D y x s (u + 1) (u + 1) 4 H' locs' → lv_has ls' 18 [(3, .int (nI u)), (2, .int (nI 1)), (1, .ref x), (0, .ref b)] → W p l e room_1 s m #[Value.ref b] below meth c H' locs' (78 + (u + 1)) (5330 + 7 * (u + 1)) (lw_Z below #[Value.ref b] s) (F0 m 716 ls' [])) : W p l e room_1 s m #[Value.ref b] below meth c H locs (78 + u) (5330 + 7 * u) (lw_Z below #[Value.ref b] s) (F0 m 308 ls []) := by
  obtain ⟨hx, hb, hret, hlocks, hF, hK, hXX, hbl, hL, hxs, -⟩ := id hC
  have hts := hF.2.2.2.2
  have hown : s.vm.findClass RL = some m.cls := hF.2.2.2.1
  obtain ⟨d, ca, pa, pk, T, P, k, rot, ts, tn, tx, hJ, hk4, hO, hbs, hS⟩ := hI0
  have hv24 := hJ.1.1.2.1
  have hG2 := hJ.1.1.1.ng2
  refine lv_iload hx hb dL_law_308 (lv_at hl 1 rfl) ?_
  refine lv_iconst (v := (nI 1)) hx hb dL_law_310 (by decide) ?_
  refine z_iadd hx hb dL_law_311 ?_
  refine lv_iconst (v := (nI 3)) hx hb dL_law_312 (by decide) ?_
  refine z_irem hx hb (by omega) (by omega) (by omega) dL_law_313 ?_
  refine lv_istore (lv' := [(7, .int (nI ((z + 1) % 3))), (6, .int (nI 0)), (5, .int (nI z)), (3, .int (nI u)), (2, .int (nI 1)), (1, .ref x), (0, .ref b)]) hx hb dL_law_314 hl (by decide) rfl (fun ls hl => ?_)
  refine lv_aload_n hx hb dL_law_316 rfl (lv_at hl 5 rfl) ?_
  refine lv_iload hx hb dL_law_317 (lv_at hl 0 rfl) ?_
  refine lv_iload hx hb dL_law_319 (lv_at hl 2 rfl) ?_
  refine lv_iconst (v := (nI 4)) hx hb dL_law_321 (by decide) ?_
  refine z_idiv hx hb (by omega) (by omega) (by omega) dL_law_322 ?_
  refine lv_iconst (v := (nI 4)) hx hb dL_law_323 (by decide) ?_
  refine z_irem hx hb (by omega) (by omega) (by omega) dL_law_324 ?_
  refine lv_iconst (v := (nI 3)) hx hb dL_law_325 (by decide) ?_
  obtain ⟨tf, hR⟩ := hO.clR
  refine z_callV (As := [.int (nI ((z + 1) % 3)), .int (nI ((z / 4) % 4)), .int (nI 3)]) (rest := []) hF hK (c_X4_street l D y x (x + 70) d ca pa pk k 0 tf (nI ((z + 1) % 3)) (nI ((z / 4) % 4)) (nI 3) (hJ.1.1) (hk4) (by decide)) (cwV 3 hts gL_law_X4_street rfl rfl rfl (by decide +kernel) ⟨Nat.le_of_ble_eq_true rfl, Nat.le_of_ble_eq_true rfl⟩) (xO.recv hK hO) hR rfl hl.1 rfl (Nat.le_of_ble_eq_true rfl) dL_law_326 ⟨by show _ ≤ 600000; omega, by show _ ≤ 7302250; omega⟩ ?_
  refine z_topi (z := (creI d ((z + 1) % 3) (z / 4 % 4))) (aS_3 _ (by omega) (by omega)) ?_
  refine lv_istore (lv' := [(8, .int (creI d ((z + 1) % 3) (z / 4 % 4))), (7, .int (nI ((z + 1) % 3))), (6, .int (nI 0)), (5, .int (nI z)), (3, .int (nI u)), (2, .int (nI 1)), (1, .ref x), (0, .ref b)]) hx hb dL_law_329 hl (by decide) rfl (fun ls hl => ?_)
  by_cases hf : 0 ≤ freI d (z % 3) (z / 4 % 4) - nI (1 + z / 16 % 30)
  · refine lv_aload_n hx hb dL_law_331 rfl (lv_at hl 6 rfl) ?_
    refine lv_iload hx hb dL_law_332 (lv_at hl 3 rfl) ?_
    refine lv_iconst (v := (nI 3)) hx hb dL_law_334 (by decide) ?_
    refine z_irem hx hb (by omega) (by omega) (by omega) dL_law_335 ?_
    refine lv_iload hx hb dL_law_336 (lv_at hl 1 rfl) ?_
    refine lv_iload hx hb dL_law_338 (lv_at hl 3 rfl) ?_
    refine lv_iconst (v := (nI 4)) hx hb dL_law_340 (by decide) ?_
    refine z_idiv hx hb (by omega) (by omega) (by omega) dL_law_341 ?_
    refine lv_iconst (v := (nI 4)) hx hb dL_law_342 (by decide) ?_
    refine z_irem hx hb (by omega) (by omega) (by omega) dL_law_343 ?_
    refine lv_iconst (v := (nI 1)) hx hb dL_law_344 (by decide) ?_
    refine lv_iload hx hb dL_law_345 (lv_at hl 3 rfl) ?_
    refine lv_bipush (v := (nI 16)) hx hb dL_law_347 (by decide) ?_
    refine z_idiv hx hb (by omega) (by omega) (by omega) dL_law_349 ?_
    refine lv_bipush (v := (nI 30)) hx hb dL_law_350 (by decide) ?_
    refine z_irem hx hb (by omega) (by omega) (by omega) dL_law_352 ?_
    refine z_iadd hx hb dL_law_353 ?_
    refine w_callV (As := [.int (nI (z % 3)), .int (nI ((z + 1) % 3)), .int (nI ((z / 4) % 4)), .int (nI (1 + ((z / 16) % 30)))]) (rest := []) hF hK (c_X4_transfer_ok l D y x (x + 70) d ca pa pk T P k rot 0 ts tn tx (z % 3) ((z + 1) % 3) ((z / 4) % 4) (nI (1 + ((z / 16) % 30))) (hJ.1.1) (hk4) (Nat.le_refl _) (by omega) (by omega) (by omega) (by omega) (inB_of (by omega) (by omega) (by decide)) (hf)) (cwV 4 hts gL_law_X4_transfer rfl rfl rfl (by decide +kernel) ⟨Nat.le_of_ble_eq_true rfl, Nat.le_of_ble_eq_true rfl⟩) (xO.recv hK hO) hO hS (fun q h => by rw [hxs]; exact xB_hi (by omega) h) rfl hl.1 rfl (Nat.le_of_ble_eq_true rfl) dL_law_354 ⟨by show _ ≤ 600000; omega, by show _ ≤ 7302250; omega⟩ (fun H1 locs1 hq hz1 hk hS => ?_)
    obtain ⟨hJ, a2, a3⟩ := s_tra hJ (by omega) (a := z % 3) (b := (z + 1) % 3) (m := z / 4 % 4) (v := nI (1 + z / 16 % 30)) (by omega) (by omega) (by omega) (by omega) (inB_of (by omega) (by omega) (by decide)) hf
    have hO := xO.conv hq hJ.1.1.1 (fun i _ _ _ => rfl)
    have hbs := Nat.le_trans hbs hz1
    have hk4 := recN_le hk4
    clear hq hz1 hk
    refine lv_istore (lv' := [(9, .int (freI d (z % 3) ((z / 4) % 4) - (nI (1 + ((z / 16) % 30))))), (8, .int (creI d ((z + 1) % 3) (z / 4 % 4))), (7, .int (nI ((z + 1) % 3))), (6, .int (nI 0)), (5, .int (nI z)), (3, .int (nI u)), (2, .int (nI 1)), (1, .ref x), (0, .ref b)]) hx hb dL_law_357 hl (by decide) rfl (fun ls hl => ?_)
    refine lv_iload hx hb dL_law_359 (lv_at hl 0 rfl) ?_
    refine lv_sipush (v := (-1002)) hx hb dL_law_361 (by decide) ?_
    refine lv_icmp_eq (tgt := 432) hx hb dL_law_364 (by decide) (fun c364 => ?_) (fun c364 => ?_)
    · exact absurd (by rw [c364] at hf; exact hf) (show ¬ (0 : Int32) ≤ (-1002) by decide)
    · refine lv_aload_n hx hb dL_law_367 rfl (lv_at hl 7 rfl) ?_
      refine lv_iload hx hb dL_law_368 (lv_at hl 2 rfl) ?_
      refine lv_iload hx hb dL_law_370 (lv_at hl 4 rfl) ?_
      refine lv_iconst (v := (nI 4)) hx hb dL_law_372 (by decide) ?_
      refine z_idiv hx hb (by omega) (by omega) (by omega) dL_law_373 ?_
      refine lv_iconst (v := (nI 4)) hx hb dL_law_374 (by decide) ?_
      refine z_irem hx hb (by omega) (by omega) (by omega) dL_law_375 ?_
      refine lv_iconst (v := (nI 3)) hx hb dL_law_376 (by decide) ?_
      obtain ⟨tf, hR⟩ := hO.clR
      refine z_callV (As := [.int (nI ((z + 1) % 3)), .int (nI ((z / 4) % 4)), .int (nI 3)]) (rest := []) hF hK (c_X4_street l D y x (x + 70) (traD d (z % 3) ((z + 1) % 3) (z / 4 % 4) (nI (1 + z / 16 % 30))) ca pa pk (recN k) 0 tf (nI ((z + 1) % 3)) (nI ((z / 4) % 4)) (nI 3) (hJ.1.1) (hk4) (by decide)) (cwV 3 hts gL_law_X4_street rfl rfl rfl (by decide +kernel) ⟨Nat.le_of_ble_eq_true rfl, Nat.le_of_ble_eq_true rfl⟩) (xO.recv hK hO) hR rfl hl.1 rfl (Nat.le_of_ble_eq_true rfl) dL_law_377 ⟨by show _ ≤ 600000; omega, by show _ ≤ 7302250; omega⟩ ?_
      refine z_topi (z := (creI d ((z + 1) % 3) (z / 4 % 4) + nI (1 + z / 16 % 30))) ((aS_3 _ (by omega) (by omega)).trans a2) ?_
      refine lv_iload hx hb dL_law_380 (lv_at hl 1 rfl) ?_
      refine lv_iconst (v := (nI 1)) hx hb dL_law_382 (by decide) ?_
      refine lv_iadd hx hb dL_law_383 ?_
      refine lv_iload hx hb dL_law_384 (lv_at hl 4 rfl) ?_
      refine lv_bipush (v := (nI 16)) hx hb dL_law_386 (by decide) ?_
      refine z_idiv hx hb (by omega) (by omega) (by omega) dL_law_388 ?_
      refine lv_bipush (v := (nI 30)) hx hb dL_law_389 (by decide) ?_
      refine z_irem hx hb (by omega) (by omega) (by omega) dL_law_391 ?_
      refine lv_iadd hx hb dL_law_392 ?_
      refine lv_icmp_ne (tgt := 436) hx hb dL_law_393 (by decide) (fun c393 => ?_) (fun c393 => ?_)
      · exact absurd (by rw [Int32.add_assoc, nI_add]) c393
      · refine lv_iload hx hb dL_law_396 (lv_at hl 0 rfl) ?_
        refine lv_aload_n hx hb dL_law_398 rfl (lv_at hl 7 rfl) ?_
        refine lv_iload hx hb dL_law_399 (lv_at hl 4 rfl) ?_
        refine lv_iconst (v := (nI 3)) hx hb dL_law_401 (by decide) ?_
        refine z_irem hx hb (by omega) (by omega) (by omega) dL_law_402 ?_
        refine lv_iload hx hb dL_law_403 (lv_at hl 4 rfl) ?_
        refine lv_iconst (v := (nI 4)) hx hb dL_law_405 (by decide) ?_
        refine z_idiv hx hb (by omega) (by omega) (by omega) dL_law_406 ?_
        refine lv_iconst (v := (nI 4)) hx hb dL_law_407 (by decide) ?_
        refine z_irem hx hb (by omega) (by omega) (by omega) dL_law_408 ?_
        refine lv_iconst (v := (nI 3)) hx hb dL_law_409 (by decide) ?_
        refine z_callV (As := [.int (nI (z % 3)), .int (nI ((z / 4) % 4)), .int (nI 3)]) (rest := [.int (freI d (z % 3) ((z / 4) % 4) - (nI (1 + ((z / 16) % 30))))]) hF hK (c_X4_street l D y x (x + 70) (traD d (z % 3) ((z + 1) % 3) (z / 4 % 4) (nI (1 + z / 16 % 30))) ca pa pk (recN k) 0 tf (nI (z % 3)) (nI ((z / 4) % 4)) (nI 3) (hJ.1.1) (hk4) (by decide)) (cwV 3 hts gL_law_X4_street rfl rfl rfl (by decide +kernel) ⟨Nat.le_of_ble_eq_true rfl, Nat.le_of_ble_eq_true rfl⟩) (xO.recv hK hO) hR rfl hl.1 rfl (Nat.le_of_ble_eq_true rfl) dL_law_410 ⟨by show _ ≤ 600000; omega, by show _ ≤ 7302250; omega⟩ ?_
        refine z_topi (z := (creI (traD d (z % 3) ((z + 1) % 3) (z / 4 % 4) (nI (1 + z / 16 % 30))) (z % 3) (z / 4 % 4))) (aS_3 _ (by omega) (by omega)) ?_
        refine lv_aload_n hx hb dL_law_413 rfl (lv_at hl 7 rfl) ?_
        refine lv_iload hx hb dL_law_414 (lv_at hl 4 rfl) ?_
        refine lv_iconst (v := (nI 3)) hx hb dL_law_416 (by decide) ?_
        refine z_irem hx hb (by omega) (by omega) (by omega) dL_law_417 ?_
        refine lv_iload hx hb dL_law_418 (lv_at hl 4 rfl) ?_
        refine lv_iconst (v := (nI 4)) hx hb dL_law_420 (by decide) ?_
        refine z_idiv hx hb (by omega) (by omega) (by omega) dL_law_421 ?_
        refine lv_iconst (v := (nI 4)) hx hb dL_law_422 (by decide) ?_
        refine z_irem hx hb (by omega) (by omega) (by omega) dL_law_423 ?_
        refine lv_iconst (v := (nI 4)) hx hb dL_law_424 (by decide) ?_
        refine z_callV (As := [.int (nI (z % 3)), .int (nI ((z / 4) % 4)), .int (nI 4)]) (rest := [.int (creI (traD d (z % 3) ((z + 1) % 3) (z / 4 % 4) (nI (1 + z / 16 % 30))) (z % 3) (z / 4 % 4)), .int (freI d (z % 3) ((z / 4) % 4) - (nI (1 + ((z / 16) % 30))))]) hF hK (c_X4_street l D y x (x + 70) (traD d (z % 3) ((z + 1) % 3) (z / 4 % 4) (nI (1 + z / 16 % 30))) ca pa pk (recN k) 0 tf (nI (z % 3)) (nI ((z / 4) % 4)) (nI 4) (hJ.1.1) (hk4) (by decide)) (cwV 3 hts gL_law_X4_street rfl rfl rfl (by decide +kernel) ⟨Nat.le_of_ble_eq_true rfl, Nat.le_of_ble_eq_true rfl⟩) (xO.recv hK hO) hR rfl hl.1 rfl (Nat.le_of_ble_eq_true rfl) dL_law_425 ⟨by show _ ≤ 600000; omega, by show _ ≤ 7302250; omega⟩ ?_
        refine z_topi (z := (usedI (traD d (z % 3) ((z + 1) % 3) (z / 4 % 4) (nI (1 + z / 16 % 30))) (nI (z % 3)) (nI (z / 4 % 4)))) (aS_4 _ (by omega) (by omega)) ?_
        refine lv_isub hx hb dL_law_428 ?_
        refine lv_icmp_ne (tgt := 436) hx hb dL_law_429 (by decide) (fun c429 => ?_) (fun c429 => ?_)
        · exact absurd a3.symm c429
        · refine lv_iconst (v := (nI 1)) hx hb dL_law_432 (by decide) ?_
          refine lv_goto (tgt := 437) hx hb dL_law_433 (by decide) ?_
          refine lv_istore_n (lv' := [(2, .int (nI 1)), (9, .int (freI d (z % 3) ((z / 4) % 4) - (nI (1 + ((z / 16) % 30))))), (8, .int (creI d ((z + 1) % 3) (z / 4 % 4))), (7, .int (nI ((z + 1) % 3))), (6, .int (nI 0)), (5, .int (nI z)), (3, .int (nI u)), (1, .ref x), (0, .ref b)]) hx hb dL_law_437 rfl hl (by decide) rfl (fun ls hl => ?_)
          refine lv_goto (tgt := 716) hx hb dL_law_438 (by decide) ?_
          refine W.widen (k := 78 + (u + 1)) (n := 5330 + 7 * (u + 1)) (by omega) (by omega) ?_
          exact ih _ _ _ ⟨_, _, _, _, _, _, _, _, _, _, _, hJ.mono (by omega) (by omega), hk4, hO, hbs, hS⟩ (lv_sub hl [6, 0, 7, 8] rfl)
  · refine lv_aload_n hx hb dL_law_331 rfl (lv_at hl 6 rfl) ?_
    refine lv_iload hx hb dL_law_332 (lv_at hl 3 rfl) ?_
    refine lv_iconst (v := (nI 3)) hx hb dL_law_334 (by decide) ?_
    refine z_irem hx hb (by omega) (by omega) (by omega) dL_law_335 ?_
    refine lv_iload hx hb dL_law_336 (lv_at hl 1 rfl) ?_
    refine lv_iload hx hb dL_law_338 (lv_at hl 3 rfl) ?_
    refine lv_iconst (v := (nI 4)) hx hb dL_law_340 (by decide) ?_
    refine z_idiv hx hb (by omega) (by omega) (by omega) dL_law_341 ?_
    refine lv_iconst (v := (nI 4)) hx hb dL_law_342 (by decide) ?_
    refine z_irem hx hb (by omega) (by omega) (by omega) dL_law_343 ?_
    refine lv_iconst (v := (nI 1)) hx hb dL_law_344 (by decide) ?_
    refine lv_iload hx hb dL_law_345 (lv_at hl 3 rfl) ?_
    refine lv_bipush (v := (nI 16)) hx hb dL_law_347 (by decide) ?_
    refine z_idiv hx hb (by omega) (by omega) (by omega) dL_law_349 ?_
    refine lv_bipush (v := (nI 30)) hx hb dL_law_350 (by decide) ?_
    refine z_irem hx hb (by omega) (by omega) (by omega) dL_law_352 ?_
    refine z_iadd hx hb dL_law_353 ?_
    refine z_callV (As := [.int (nI (z % 3)), .int (nI ((z + 1) % 3)), .int (nI ((z / 4) % 4)), .int (nI (1 + ((z / 16) % 30)))]) (rest := []) hF hK (c_X4_transfer_no l D y x (x + 70) d ca pa pk k 0 tf (nI (z % 3)) (nI ((z + 1) % 3)) (nI ((z / 4) % 4)) (nI (1 + ((z / 16) % 30))) (hJ.1.1) (hk4) (by decide) (fun q => hf (by have h9 := q.2; rw [cl_nI (by omega), cl_nI (by omega)] at h9; exact h9))) (cwV 4 hts gL_law_X4_transfer rfl rfl rfl (by decide +kernel) ⟨Nat.le_of_ble_eq_true rfl, Nat.le_of_ble_eq_true rfl⟩) (xO.recv hK hO) hR rfl hl.1 rfl (Nat.le_of_ble_eq_true rfl) dL_law_354 ⟨by show _ ≤ 600000; omega, by show _ ≤ 7302250; omega⟩ ?_
    refine z_topi (z := (-1002)) (tr_no (by omega) (by omega) (by omega) (by omega) (by omega)) ?_
    refine lv_istore (lv' := [(9, .int (-1002)), (8, .int (creI d ((z + 1) % 3) (z / 4 % 4))), (7, .int (nI ((z + 1) % 3))), (6, .int (nI 0)), (5, .int (nI z)), (3, .int (nI u)), (2, .int (nI 1)), (1, .ref x), (0, .ref b)]) hx hb dL_law_357 hl (by decide) rfl (fun ls hl => ?_)
    refine lv_iload hx hb dL_law_359 (lv_at hl 0 rfl) ?_
    refine lv_sipush (v := (-1002)) hx hb dL_law_361 (by decide) ?_
    refine lv_icmp_eq (tgt := 432) hx hb dL_law_364 (by decide) (fun c364 => ?_) (fun c364 => ?_)
    · refine lv_iconst (v := (nI 1)) hx hb dL_law_432 (by decide) ?_
      refine lv_goto (tgt := 437) hx hb dL_law_433 (by decide) ?_
      refine lv_istore_n (lv' := [(2, .int (nI 1)), (9, .int (-1002)), (8, .int (creI d ((z + 1) % 3) (z / 4 % 4))), (7, .int (nI ((z + 1) % 3))), (6, .int (nI 0)), (5, .int (nI z)), (3, .int (nI u)), (1, .ref x), (0, .ref b)]) hx hb dL_law_437 rfl hl (by decide) rfl (fun ls hl => ?_)
      refine lv_goto (tgt := 716) hx hb dL_law_438 (by decide) ?_
      refine W.widen (k := 78 + (u + 1)) (n := 5330 + 7 * (u + 1)) (by omega) (by omega) ?_
      exact ih _ _ _ ⟨_, _, _, _, _, _, _, _, _, _, _, hJ.mono (by omega) (by omega), hk4, hO, hbs, hS⟩ (lv_sub hl [6, 0, 7, 8] rfl)
    · exact absurd rfl c364
