/-! THE LAW: a step, 0 -/
set_option maxRecDepth 100000 in
set_option maxHeartbeats 4000000 in
theorem L_c0 {p : Program} {l : Launch} {e : Env} {s : State} {m : MethodId} {below : List Frame} {meth : Method} {c : Code} {b L x : Nat} {xs : Nat → Int32} {D : va_G} {y : zY} (hC : lwX p s m meth c b L x xs D y) {u z : Nat} (hu : u < 32) (hz : z < 268435456) {H : Heap} {locs : List Loc} {ls : Array Slot} (hI0 : lI D y x s u u 4 H locs) (hl : lv_has ls 18 [(6, .int (nI 0)), (5, .int (nI z)), (3, .int (nI u)), (2, .int (nI 1)), (1, .ref x), (0, .ref b)])
    (ih : ∀ (H' : Heap) (locs' : List Loc) (ls' : Array Slot), lI D y x s (u + 1) (u + 1) 4 H' locs' → lv_has ls' 18 [(3, .int (nI u)), (2, .int (nI 1)), (1, .ref x), (0, .ref b)] → W p l e room_1 s m #[Value.ref b] below meth c H' locs' (78 + (u + 1)) (5330 + 7 * (u + 1)) (lw_Z below #[Value.ref b] s) (F0 m 716 ls' [])) : W p l e room_1 s m #[Value.ref b] below meth c H locs (78 + u) (5330 + 7 * u) (lw_Z below #[Value.ref b] s) (F0 m 200 ls []) := by
  obtain ⟨hx, hb, hret, hlocks, hF, hK, hXX, hbl, hL, hxs, -⟩ := id hC
  have hts := hF.2.2.2.2
  have hown : s.vm.findClass RL = some m.cls := hF.2.2.2.1
  obtain ⟨d, ca, pa, pk, T, P, k, rot, ts, tn, tx, hJ, hk4, hO, hbs, hS⟩ := hI0
  have hv24 := hJ.1.1.2.1
  have hG2 := hJ.1.1.1.ng2
  refine lv_aload_n hx hb dL_law_200 rfl (lv_at hl 4 rfl) ?_
  refine lv_iload hx hb dL_law_201 (lv_at hl 1 rfl) ?_
  refine lv_iconst (v := (nI 4)) hx hb dL_law_203 (by decide) ?_
  refine z_irem hx hb (by omega) (by omega) (by omega) dL_law_204 ?_
  refine lv_iload hx hb dL_law_205 (lv_at hl 1 rfl) ?_
  refine lv_iconst (v := (nI 4)) hx hb dL_law_207 (by decide) ?_
  refine z_idiv hx hb (by omega) (by omega) (by omega) dL_law_208 ?_
  refine lv_bipush (v := (nI 100)) hx hb dL_law_209 (by decide) ?_
  refine z_irem hx hb (by omega) (by omega) (by omega) dL_law_211 ?_
  refine w_callV (As := [.int (nI (z % 4)), .int (nI ((z / 4) % 100))]) (rest := []) hF hK (c_X4_wind_ok l D y x (x + 70) d ca pa pk T P k rot 0 ts tn tx (z % 4) (nI ((z / 4) % 100)) (hJ.1.1) (hk4) (Nat.le_refl _) (by omega) (inB_n (by omega) (by decide))) (cwV 2 hts gL_law_X4_wind rfl rfl rfl (by decide +kernel) ⟨Nat.le_of_ble_eq_true rfl, Nat.le_of_ble_eq_true rfl⟩) (xO.recv hK hO) hO hS (fun q h => by rw [hxs]; exact xB_hi (by omega) h) rfl hl.1 rfl (Nat.le_of_ble_eq_true rfl) dL_law_212 ⟨by show _ ≤ 600000; omega, by show _ ≤ 7302250; omega⟩ (fun H1 locs1 hq hz1 hk hS => ?_)
  obtain ⟨a1, a2, hJ, a4⟩ := s_wind hJ (by omega) (m := z % 4) (by omega) (v := nI (z / 4 % 100))
  have hO := xO.conv hq hJ.1.1.1 (fun i _ _ h => a1 i h)
  have hbs := Nat.le_trans hbs hz1
  have hk4 := recN_le hk4
  clear hq hz1 hk
  refine lv_if_lt (tgt := 243) hx hb dL_law_215 (by decide) (fun c215 => ?_) (fun c215 => ?_)
  · exact absurd c215 (Int32.not_lt.mpr a2)
  · refine lv_aload_n hx hb dL_law_218 rfl (lv_at hl 4 rfl) ?_
    refine lv_iconst (v := (nI 1)) hx hb dL_law_219 (by decide) ?_
    refine lv_iload hx hb dL_law_220 (lv_at hl 1 rfl) ?_
    refine lv_iconst (v := (nI 4)) hx hb dL_law_222 (by decide) ?_
    refine z_irem hx hb (by omega) (by omega) (by omega) dL_law_223 ?_
    refine lv_bipush (v := (nI 6)) hx hb dL_law_224 (by decide) ?_
    obtain ⟨tf, hR⟩ := hO.clR
    refine z_callV (As := [.int (nI 1), .int (nI (z % 4)), .int (nI 6)]) (rest := []) hF hK (c_X4_street l D y x (x + 70) (calD (upd d (52 + z % 4) (nI (z / 4 % 100))) (z % 4)) ca pa pk (recN k) 0 tf (nI 1) (nI (z % 4)) (nI 6) (hJ.1.1) (hk4) (by decide)) (cwV 3 hts gL_law_X4_street rfl rfl rfl (by decide +kernel) ⟨Nat.le_of_ble_eq_true rfl, Nat.le_of_ble_eq_true rfl⟩) (xO.recv hK hO) hR rfl hl.1 rfl (Nat.le_of_ble_eq_true rfl) dL_law_226 ⟨by show _ ≤ 600000; omega, by show _ ≤ 7302250; omega⟩ ?_
    refine z_topi (z := (nI (z / 4 % 100))) ((aS_6 _ (by decide) (by omega)).trans a4) ?_
    refine lv_iload hx hb dL_law_229 (lv_at hl 1 rfl) ?_
    refine lv_iconst (v := (nI 4)) hx hb dL_law_231 (by decide) ?_
    refine z_idiv hx hb (by omega) (by omega) (by omega) dL_law_232 ?_
    refine lv_bipush (v := (nI 100)) hx hb dL_law_233 (by decide) ?_
    refine z_irem hx hb (by omega) (by omega) (by omega) dL_law_235 ?_
    refine z_ne (tgt := 243) hx hb (by omega) (by omega) dL_law_236 (by decide) (fun c236 => ?_) (fun c236 => ?_)
    · exact absurd rfl c236
    · refine lv_iconst (v := (nI 1)) hx hb dL_law_239 (by decide) ?_
      refine lv_goto (tgt := 244) hx hb dL_law_240 (by decide) ?_
      refine lv_istore_n (lv' := [(2, .int (nI 1)), (6, .int (nI 0)), (5, .int (nI z)), (3, .int (nI u)), (1, .ref x), (0, .ref b)]) hx hb dL_law_244 rfl hl (by decide) rfl (fun ls hl => ?_)
      refine lv_goto (tgt := 716) hx hb dL_law_245 (by decide) ?_
      refine W.widen (k := 78 + (u + 1)) (n := 5330 + 7 * (u + 1)) (by omega) (by omega) ?_
      exact ih _ _ _ ⟨_, _, _, _, _, _, _, _, _, _, _, hJ.mono (by omega) (by omega), hk4, hO, hbs, hS⟩ (lv_sub hl [3, 0, 4, 5] rfl)
