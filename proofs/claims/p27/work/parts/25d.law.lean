/-! THE LAW: a step, 1 -/
set_option maxRecDepth 100000 in
set_option maxHeartbeats 4000000 in
theorem L_c1 {p : Program} {l : Launch} {e : Env} {s : State} {m : MethodId} {below : List Frame} {meth : Method} {c : Code} {b L x : Nat} {xs : Nat → Int32} {D : va_G} {y : zY} (hC : lwX p s m meth c b L x xs D y) {u z : Nat} (hu : u < 32) (hz : z < 268435456) {H : Heap} {locs : List Loc} {ls : Array Slot} (hI0 : lI D y x s u u 4 H locs) (hl : lv_has ls 18 [(6, .int (nI 0)), (5, .int (nI z)), (3, .int (nI u)), (2, .int (nI 1)), (1, .ref x), (0, .ref b)])
    (ih : ∀ (H' : Heap) (locs' : List Loc) (ls' : Array Slot), lI D y x s (u + 1) (u + 1) 4 H' locs' → lv_has ls' 18 [(3, .int (nI u)), (2, .int (nI 1)), (1, .ref x), (0, .ref b)] → W p l e room_1 s m #[Value.ref b] below meth c H' locs' (78 + (u + 1)) (5330 + 7 * (u + 1)) (lw_Z below #[Value.ref b] s) (F0 m 716 ls' [])) : W p l e room_1 s m #[Value.ref b] below meth c H locs (78 + u) (5330 + 7 * u) (lw_Z below #[Value.ref b] s) (F0 m 248 ls []) := by
  obtain ⟨hx, hb, hret, hlocks, hF, hK, hXX, hbl, hL, hxs, -⟩ := id hC
  have hts := hF.2.2.2.2
  have hown : s.vm.findClass RL = some m.cls := hF.2.2.2.1
  obtain ⟨d, ca, pa, pk, T, P, k, rot, ts, tn, tx, hJ, hk4, hO, hbs, hS⟩ := hI0
  have hv24 := hJ.1.1.2.1
  have hG2 := hJ.1.1.1.ng2
  refine lv_aload_n hx hb dL_law_248 rfl (lv_at hl 4 rfl) ?_
  refine lv_iload hx hb dL_law_249 (lv_at hl 1 rfl) ?_
  refine lv_iconst (v := (nI 3)) hx hb dL_law_251 (by decide) ?_
  refine z_irem hx hb (by omega) (by omega) (by omega) dL_law_252 ?_
  refine lv_iload hx hb dL_law_253 (lv_at hl 1 rfl) ?_
  refine lv_iconst (v := (nI 4)) hx hb dL_law_255 (by decide) ?_
  refine z_idiv hx hb (by omega) (by omega) (by omega) dL_law_256 ?_
  refine lv_iconst (v := (nI 4)) hx hb dL_law_257 (by decide) ?_
  refine z_irem hx hb (by omega) (by omega) (by omega) dL_law_258 ?_
  refine lv_iload hx hb dL_law_259 (lv_at hl 1 rfl) ?_
  refine lv_bipush (v := (nI 16)) hx hb dL_law_261 (by decide) ?_
  refine z_idiv hx hb (by omega) (by omega) (by omega) dL_law_263 ?_
  refine lv_bipush (v := (nI 80)) hx hb dL_law_264 (by decide) ?_
  refine z_irem hx hb (by omega) (by omega) (by omega) dL_law_266 ?_
  refine w_callV (As := [.int (nI (z % 3)), .int (nI ((z / 4) % 4)), .int (nI ((z / 16) % 80))]) (rest := []) hF hK (c_X4_allow_ok l D y x (x + 70) d ca pa pk T P k rot 0 ts tn tx (z % 3) ((z / 4) % 4) (nI ((z / 16) % 80)) (hJ.1.1) (hk4) (Nat.le_refl _) (by omega) (by omega) (inB_n (by omega) (by decide))) (cwV 3 hts gL_law_X4_allow rfl rfl rfl (by decide +kernel) ⟨Nat.le_of_ble_eq_true rfl, Nat.le_of_ble_eq_true rfl⟩) (xO.recv hK hO) hO hS (fun q h => by rw [hxs]; exact xB_hi (by omega) h) rfl hl.1 rfl (Nat.le_of_ble_eq_true rfl) dL_law_267 ⟨by show _ ≤ 600000; omega, by show _ ≤ 7302250; omega⟩ (fun H1 locs1 hq hz1 hk hS => ?_)
  obtain ⟨a1, a2, hJ, a4⟩ := s_allow hJ (by omega) (a := z % 3) (m := z / 4 % 4) (by omega) (by omega) (v := z / 16 % 80) (by omega)
  have hO := xO.conv hq hJ.1.1.1 (fun i _ _ h => a1 i h)
  have hbs := Nat.le_trans hbs hz1
  have hk4 := recN_le hk4
  clear hq hz1 hk
  refine lv_if_lt (tgt := 303) hx hb dL_law_270 (by decide) (fun c270 => ?_) (fun c270 => ?_)
  · exact absurd c270 (Int32.not_lt.mpr a2)
  · refine lv_aload_n hx hb dL_law_273 rfl (lv_at hl 4 rfl) ?_
    refine lv_iload hx hb dL_law_274 (lv_at hl 1 rfl) ?_
    refine lv_iconst (v := (nI 3)) hx hb dL_law_276 (by decide) ?_
    refine z_irem hx hb (by omega) (by omega) (by omega) dL_law_277 ?_
    refine lv_iload hx hb dL_law_278 (lv_at hl 1 rfl) ?_
    refine lv_iconst (v := (nI 4)) hx hb dL_law_280 (by decide) ?_
    refine z_idiv hx hb (by omega) (by omega) (by omega) dL_law_281 ?_
    refine lv_iconst (v := (nI 4)) hx hb dL_law_282 (by decide) ?_
    refine z_irem hx hb (by omega) (by omega) (by omega) dL_law_283 ?_
    refine lv_iconst (v := (nI 0)) hx hb dL_law_284 (by decide) ?_
    obtain ⟨tf, hR⟩ := hO.clR
    refine z_callV (As := [.int (nI (z % 3)), .int (nI ((z / 4) % 4)), .int (nI 0)]) (rest := []) hF hK (c_X4_street l D y x (x + 70) (savD (upd d (82 + (30 * (z % 3) + z / 4 % 4)) (nI (z / 16 % 80))) (z % 3) (z / 4 % 4)) ca pa pk (recN k) 0 tf (nI (z % 3)) (nI ((z / 4) % 4)) (nI 0) (hJ.1.1) (hk4) (by decide)) (cwV 3 hts gL_law_X4_street rfl rfl rfl (by decide +kernel) ⟨Nat.le_of_ble_eq_true rfl, Nat.le_of_ble_eq_true rfl⟩) (xO.recv hK hO) hR rfl hl.1 rfl (Nat.le_of_ble_eq_true rfl) dL_law_285 ⟨by show _ ≤ 600000; omega, by show _ ≤ 7302250; omega⟩ ?_
    refine z_topi (z := (nI (z / 16 % 80))) ((aS_0 _ (by omega) (by omega)).trans a4) ?_
    refine lv_iload hx hb dL_law_288 (lv_at hl 1 rfl) ?_
    refine lv_bipush (v := (nI 16)) hx hb dL_law_290 (by decide) ?_
    refine z_idiv hx hb (by omega) (by omega) (by omega) dL_law_292 ?_
    refine lv_bipush (v := (nI 80)) hx hb dL_law_293 (by decide) ?_
    refine z_irem hx hb (by omega) (by omega) (by omega) dL_law_295 ?_
    refine z_ne (tgt := 303) hx hb (by omega) (by omega) dL_law_296 (by decide) (fun c296 => ?_) (fun c296 => ?_)
    · exact absurd rfl c296
    · refine lv_iconst (v := (nI 1)) hx hb dL_law_299 (by decide) ?_
      refine lv_goto (tgt := 304) hx hb dL_law_300 (by decide) ?_
      refine lv_istore_n (lv' := [(2, .int (nI 1)), (6, .int (nI 0)), (5, .int (nI z)), (3, .int (nI u)), (1, .ref x), (0, .ref b)]) hx hb dL_law_304 rfl hl (by decide) rfl (fun ls hl => ?_)
      refine lv_goto (tgt := 716) hx hb dL_law_305 (by decide) ?_
      refine W.widen (k := 78 + (u + 1)) (n := 5330 + 7 * (u + 1)) (by omega) (by omega) ?_
      exact ih _ _ _ ⟨_, _, _, _, _, _, _, _, _, _, _, hJ.mono (by omega) (by omega), hk4, hO, hbs, hS⟩ (lv_sub hl [3, 0, 4, 5] rfl)
