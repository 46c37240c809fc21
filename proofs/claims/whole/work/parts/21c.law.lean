/-! THE LAW: its cases, 3 -/
set_option maxRecDepth 100000 in
set_option maxHeartbeats 4000000 in
theorem L_crane {p : Program} {l : Launch} {e : Env} {s : State} {m : MethodId} {below : List Frame} {meth : Method} {c : Code} {b L x : Nat} {xs : Nat → Int32} {D : va_G} {y : zY} (hC : lwX p s m meth c b L x xs D y) {n : Nat} (hn : 7 * n + 7 ≤ L) {H : Heap} {locs : List Loc} {ls : Array Slot} (hI0 : lI D y x s n H locs) (hl : lv_has ls 4 [(3, .int (nI (7 * n))), (2, .ref (x + 70)), (1, .ref x), (0, .ref b)])
    (ih : ∀ (H' : Heap) (locs' : List Loc) (ls' : Array Slot), lI D y x s (n + 1) H' locs' → lv_has ls' 4 [(3, .int (nI (7 * n + 7))), (2, .ref (x + 70)), (1, .ref x), (0, .ref b)] → W p l e room_1 s m #[Value.ref b] below meth c H' locs' (76 + 16 * (n + 1)) (13938 + 112 * (n + 1)) (lw_Z below #[Value.ref b] s) (F0 m 18 ls' [])) : W p l e room_1 s m #[Value.ref b] below meth c H locs (76 + 16 * n) (13938 + 112 * n) (lw_Z below #[Value.ref b] s) (F0 m 144 ls []) := by
  obtain ⟨hx, hb, hret, hlocks, hF, hK, -, -, hL, hxs, -⟩ := id hC
  have hts := hF.2.2.2.2
  obtain ⟨d, was, tx, k, len, hJ, hCI, hMI, hbs, hS⟩ := hI0
  obtain ⟨ca, pa, pk, T, P, rot, ts, tn, hO, hH⟩ := id hCI
  obtain ⟨as, gt, pa9, rs, hM⟩ := id hMI
  have hn1 : n ≤ 511 := by omega
  have hJ1 := hJ.mono (Nat.le_succ n)
  obtain ⟨hZ, hk4, hl80, hW⟩ := id hJ
  have hr := hZ.1
  have hI := hr.1
  have hbd : x + 70 ≤ x + 76 := by omega
  obtain ⟨v1, hv1⟩ : ∃ v, xs (7 * n + 1) = v := ⟨_, rfl⟩
  obtain ⟨v2, hv2⟩ : ∃ v, xs (7 * n + 2) = v := ⟨_, rfl⟩
  obtain ⟨v3, hv3⟩ : ∃ v, xs (7 * n + 3) = v := ⟨_, rfl⟩
  obtain ⟨v4, hv4⟩ : ∃ v, xs (7 * n + 4) = v := ⟨_, rfl⟩
  obtain ⟨v5, hv5⟩ : ∃ v, xs (7 * n + 5) = v := ⟨_, rfl⟩
  obtain ⟨v6, hv6⟩ : ∃ v, xs (7 * n + 6) = v := ⟨_, rfl⟩
  refine lv_aload_n hx hb dL_law_144 rfl (lv_at hl 2 rfl) ?_
  refine lv_aload_n hx hb dL_law_145 rfl (lv_at hl 3 rfl) ?_
  refine lv_iload_n hx hb dL_law_146 rfl (lv_at hl 0 rfl) ?_
  refine lv_iconst (v := nI 1) hx hb dL_law_147 (by decide) ?_
  refine z_iadd hx hb dL_law_148 ?_
  refine s_ld hC hS (i := 7 * n + 1) (by omega) hv1 dL_law_149 ?_
  refine lv_aload_n hx hb dL_law_150 rfl (lv_at hl 3 rfl) ?_
  refine lv_iload_n hx hb dL_law_151 rfl (lv_at hl 0 rfl) ?_
  refine lv_iconst (v := nI 2) hx hb dL_law_152 (by decide) ?_
  refine z_iadd hx hb dL_law_153 ?_
  refine s_ld hC hS (i := 7 * n + 2) (by omega) hv2 dL_law_154 ?_
  refine lv_aload_n hx hb dL_law_155 rfl (lv_at hl 3 rfl) ?_
  refine lv_iload_n hx hb dL_law_156 rfl (lv_at hl 0 rfl) ?_
  refine lv_iconst (v := nI 3) hx hb dL_law_157 (by decide) ?_
  refine z_iadd hx hb dL_law_158 ?_
  refine s_ld hC hS (i := 7 * n + 3) (by omega) hv3 dL_law_159 ?_
  refine lv_aload_n hx hb dL_law_160 rfl (lv_at hl 3 rfl) ?_
  refine lv_iload_n hx hb dL_law_161 rfl (lv_at hl 0 rfl) ?_
  refine lv_iconst (v := nI 4) hx hb dL_law_162 (by decide) ?_
  refine z_iadd hx hb dL_law_163 ?_
  refine s_ld hC hS (i := 7 * n + 4) (by omega) hv4 dL_law_164 ?_
  refine lv_aload_n hx hb dL_law_165 rfl (lv_at hl 3 rfl) ?_
  refine lv_iload_n hx hb dL_law_166 rfl (lv_at hl 0 rfl) ?_
  refine lv_iconst (v := nI 5) hx hb dL_law_167 (by decide) ?_
  refine z_iadd hx hb dL_law_168 ?_
  refine s_ld hC hS (i := 7 * n + 5) (by omega) hv5 dL_law_169 ?_
  refine lv_aload_n hx hb dL_law_170 rfl (lv_at hl 3 rfl) ?_
  refine lv_iload_n hx hb dL_law_171 rfl (lv_at hl 0 rfl) ?_
  refine lv_bipush (v := nI 6) hx hb dL_law_172 (by decide) ?_
  refine z_iadd hx hb dL_law_174 ?_
  refine s_ld hC hS (i := 7 * n + 6) (by omega) hv6 dL_law_175 ?_
  by_cases hok : okCr v1 v2 v3 v4 v5 v6 = true ∧ hasC d v1 v2 = false ∧ nC d < 8
  · refine w_callV (As := [.int v1, .int v2, .int v3, .int v4, .int v5, .int v6]) (rest := []) hF hK (c_X4_crane_ok l D y x (x + 76) d ca pa pk T P k rot len ts tn tx v1 v2 v3 v4 v5 v6 (hr) (hk4) (hbd) (hok.1) (hok.2.1) (hok.2.2)) (cwV 6 hts gL_law_X4_crane rfl rfl rfl (by decide +kernel) ⟨Nat.le_of_ble_eq_true rfl, Nat.le_of_ble_eq_true rfl⟩) (cI.recv hK hCI) ⟨hO, hbs⟩ hS (fun q h => by rw [hxs]; exact xB_hi (by omega) h) rfl hl.1 rfl (Nat.le_of_ble_eq_true rfl) dL_law_176 ⟨by show _ ≤ 600000; omega, by show _ ≤ 7302250; omega⟩ (fun H1 locsH1 hq hz1 hk hS => ?_)
    have hMI := hMI.keep hk (fun q h1 h2 => nB_m (by omega) h1 h2)
    have hbs := Nat.le_trans hbs hz1
    clear hO hCI hM
    obtain ⟨q9, hO⟩ := hq
    clear hz1 hk
    obtain ⟨as, gt, pa9, rs, hM⟩ := hMI
    refine lv_aload_n hx hb dL_law_179 rfl (lv_at hl 1 rfl) ?_
    refine lv_aload_n hx hb dL_law_180 rfl (lv_at hl 3 rfl) ?_
    refine lv_iload_n hx hb dL_law_181 rfl (lv_at hl 0 rfl) ?_
    refine lv_iconst (v := nI 1) hx hb dL_law_182 (by decide) ?_
    refine z_iadd hx hb dL_law_183 ?_
    refine s_ld hC hS (i := 7 * n + 1) (by omega) hv1 dL_law_184 ?_
    refine lv_aload_n hx hb dL_law_185 rfl (lv_at hl 3 rfl) ?_
    refine lv_iload_n hx hb dL_law_186 rfl (lv_at hl 0 rfl) ?_
    refine lv_iconst (v := nI 2) hx hb dL_law_187 (by decide) ?_
    refine z_iadd hx hb dL_law_188 ?_
    refine s_ld hC hS (i := 7 * n + 2) (by omega) hv2 dL_law_189 ?_
    refine lv_aload_n hx hb dL_law_190 rfl (lv_at hl 3 rfl) ?_
    refine lv_iload_n hx hb dL_law_191 rfl (lv_at hl 0 rfl) ?_
    refine lv_iconst (v := nI 3) hx hb dL_law_192 (by decide) ?_
    refine z_iadd hx hb dL_law_193 ?_
    refine s_ld hC hS (i := 7 * n + 3) (by omega) hv3 dL_law_194 ?_
    refine lv_aload_n hx hb dL_law_195 rfl (lv_at hl 3 rfl) ?_
    refine lv_iload_n hx hb dL_law_196 rfl (lv_at hl 0 rfl) ?_
    refine lv_iconst (v := nI 4) hx hb dL_law_197 (by decide) ?_
    refine z_iadd hx hb dL_law_198 ?_
    refine s_ld hC hS (i := 7 * n + 4) (by omega) hv4 dL_law_199 ?_
    refine lv_aload_n hx hb dL_law_200 rfl (lv_at hl 3 rfl) ?_
    refine lv_iload_n hx hb dL_law_201 rfl (lv_at hl 0 rfl) ?_
    refine lv_iconst (v := nI 5) hx hb dL_law_202 (by decide) ?_
    refine z_iadd hx hb dL_law_203 ?_
    refine s_ld hC hS (i := 7 * n + 5) (by omega) hv5 dL_law_204 ?_
    refine lv_aload_n hx hb dL_law_205 rfl (lv_at hl 3 rfl) ?_
    refine lv_iload_n hx hb dL_law_206 rfl (lv_at hl 0 rfl) ?_
    refine lv_bipush (v := nI 6) hx hb dL_law_207 (by decide) ?_
    refine z_iadd hx hb dL_law_209 ?_
    refine s_ld hC hS (i := 7 * n + 6) (by omega) hv6 dL_law_210 ?_
    refine w_callV (As := [.int v1, .int v2, .int v3, .int v4, .int v5, .int v6]) (rest := [.int (nI (nC d))]) hF hK (c_X5_crane_ok l D y (x + 70) d was as tx gt k (nI len) pa9 rs v1 v2 v3 v4 v5 v6 (hI) (hk4) (hok.1) (hok.2.1) (hok.2.2)) (cwV 6 hts gL_law_X5_crane rfl rfl rfl (by decide +kernel) ⟨Nat.le_of_ble_eq_true rfl, Nat.le_of_ble_eq_true rfl⟩) (mI.recv hK (⟨as, gt, pa9, rs, hM⟩ : mI D y (x + 70) d was tx k len _)) hM hS (fun q h => by rw [hxs]; have h9 := h.1; omega) rfl hl.1 rfl (Nat.le_of_ble_eq_true rfl) dL_law_211 ⟨by show _ ≤ 600000; omega, by show _ ≤ 7302250; omega⟩ (fun H2 locsH2 hq hz1 hk hS => ?_)
    have hO := hO.keep hk (fun q h1 h2 => nblk (by omega)) (fun q h1 => nblk (by omega))
    have hbs := Nat.le_trans hbs hz1
    clear hM
    have hM := hq
    clear hz1 hk
    refine lv_icmp_eq (tgt := 1008) hx hb dL_law_214 (by decide) (fun _ => ?_) (fun q => absurd (show ((nI (nC d)) : Int32) = (nI (nC d)) from rfl) q)
    refine lv_iinc (v := nI (7 * n + 7)) (lv' := [(3, .int (nI (7 * n + 7))), (2, .ref (x + 70)), (1, .ref x), (0, .ref b)]) hx hb dL_law_1008 hl (k := 0) rfl (in7 _) (by decide) rfl (fun ls hl => ?_)
    refine lv_goto (tgt := 18) hx hb dL_law_1011 (by decide) ?_
    refine W.widen (k := 76 + 16 * (n + 1)) (n := 13938 + 112 * (n + 1)) (by omega) (by omega) ?_
    exact ih _ _ _ ⟨addC d v1 v2 v3 v4 v5 v6, recW d was k, tx, recN k, len, (hJ.rem (ch_crane hZ hok.1 hok.2.2)).mono (Nat.le_succ n), ⟨_, _, _, _, _, _, _, _, hO, hH.rem hk4 _ (fun i _ _ _ => rfl)⟩, ⟨_, _, _, _, hM⟩, hbs, hS⟩ (lv_sub hl [0, 1, 2, 3] rfl)
  · obtain ⟨tf, hR⟩ := hO.clR
    refine z_callV (As := [.int v1, .int v2, .int v3, .int v4, .int v5, .int v6]) (rest := []) hF hK (c_X4_crane_no l D y x (x + 76) d ca pa pk k len tf v1 v2 v3 v4 v5 v6 (hr) (hk4) (hl80) (hok)) (cwV 6 hts gL_law_X4_crane rfl rfl rfl (by decide +kernel) ⟨Nat.le_of_ble_eq_true rfl, Nat.le_of_ble_eq_true rfl⟩) (cI.recv hK hCI) hR rfl hl.1 rfl (Nat.le_of_ble_eq_true rfl) dL_law_176 ⟨by show _ ≤ 600000; omega, by show _ ≤ 7302250; omega⟩ ?_
    refine lv_aload_n hx hb dL_law_179 rfl (lv_at hl 1 rfl) ?_
    refine lv_aload_n hx hb dL_law_180 rfl (lv_at hl 3 rfl) ?_
    refine lv_iload_n hx hb dL_law_181 rfl (lv_at hl 0 rfl) ?_
    refine lv_iconst (v := nI 1) hx hb dL_law_182 (by decide) ?_
    refine z_iadd hx hb dL_law_183 ?_
    refine s_ld hC hS (i := 7 * n + 1) (by omega) hv1 dL_law_184 ?_
    refine lv_aload_n hx hb dL_law_185 rfl (lv_at hl 3 rfl) ?_
    refine lv_iload_n hx hb dL_law_186 rfl (lv_at hl 0 rfl) ?_
    refine lv_iconst (v := nI 2) hx hb dL_law_187 (by decide) ?_
    refine z_iadd hx hb dL_law_188 ?_
    refine s_ld hC hS (i := 7 * n + 2) (by omega) hv2 dL_law_189 ?_
    refine lv_aload_n hx hb dL_law_190 rfl (lv_at hl 3 rfl) ?_
    refine lv_iload_n hx hb dL_law_191 rfl (lv_at hl 0 rfl) ?_
    refine lv_iconst (v := nI 3) hx hb dL_law_192 (by decide) ?_
    refine z_iadd hx hb dL_law_193 ?_
    refine s_ld hC hS (i := 7 * n + 3) (by omega) hv3 dL_law_194 ?_
    refine lv_aload_n hx hb dL_law_195 rfl (lv_at hl 3 rfl) ?_
    refine lv_iload_n hx hb dL_law_196 rfl (lv_at hl 0 rfl) ?_
    refine lv_iconst (v := nI 4) hx hb dL_law_197 (by decide) ?_
    refine z_iadd hx hb dL_law_198 ?_
    refine s_ld hC hS (i := 7 * n + 4) (by omega) hv4 dL_law_199 ?_
    refine lv_aload_n hx hb dL_law_200 rfl (lv_at hl 3 rfl) ?_
    refine lv_iload_n hx hb dL_law_201 rfl (lv_at hl 0 rfl) ?_
    refine lv_iconst (v := nI 5) hx hb dL_law_202 (by decide) ?_
    refine z_iadd hx hb dL_law_203 ?_
    refine s_ld hC hS (i := 7 * n + 5) (by omega) hv5 dL_law_204 ?_
    refine lv_aload_n hx hb dL_law_205 rfl (lv_at hl 3 rfl) ?_
    refine lv_iload_n hx hb dL_law_206 rfl (lv_at hl 0 rfl) ?_
    refine lv_bipush (v := nI 6) hx hb dL_law_207 (by decide) ?_
    refine z_iadd hx hb dL_law_209 ?_
    refine s_ld hC hS (i := 7 * n + 6) (by omega) hv6 dL_law_210 ?_
    refine w_callV (As := [.int v1, .int v2, .int v3, .int v4, .int v5, .int v6]) (rest := [.int (eCrane d v1 v2 v3 v4 v5 v6)]) hF hK (c_X5_crane_no l D y (x + 70) d was as tx gt k (nI len) pa9 rs v1 v2 v3 v4 v5 v6 (hI) (hk4) (hok)) (cwV 6 hts gL_law_X5_crane rfl rfl rfl (by decide +kernel) ⟨Nat.le_of_ble_eq_true rfl, Nat.le_of_ble_eq_true rfl⟩) (mI.recv hK (⟨as, gt, pa9, rs, hM⟩ : mI D y (x + 70) d was tx k len _)) hM hS (fun q h => by rw [hxs]; have h9 := h.1; omega) rfl hl.1 rfl (Nat.le_of_ble_eq_true rfl) dL_law_211 ⟨by show _ ≤ 600000; omega, by show _ ≤ 7302250; omega⟩ (fun H2 locsH2 hq hz1 hk hS => ?_)
    have hO := hO.keep hk (fun q h1 h2 => nblk (by omega)) (fun q h1 => nblk (by omega))
    have hbs := Nat.le_trans hbs hz1
    clear hM
    have hM := hq
    clear hz1 hk
    refine lv_icmp_eq (tgt := 1008) hx hb dL_law_214 (by decide) (fun _ => ?_) (fun q => absurd (show ((eCrane d v1 v2 v3 v4 v5 v6) : Int32) = (eCrane d v1 v2 v3 v4 v5 v6) from rfl) q)
    refine lv_iinc (v := nI (7 * n + 7)) (lv' := [(3, .int (nI (7 * n + 7))), (2, .ref (x + 70)), (1, .ref x), (0, .ref b)]) hx hb dL_law_1008 hl (k := 0) rfl (in7 _) (by decide) rfl (fun ls hl => ?_)
    refine lv_goto (tgt := 18) hx hb dL_law_1011 (by decide) ?_
    refine W.widen (k := 76 + 16 * (n + 1)) (n := 13938 + 112 * (n + 1)) (by omega) (by omega) ?_
    exact ih _ _ _ ⟨d, was, tx, k, len, hJ1, ⟨_, _, _, _, _, _, _, _, hO, hH⟩, ⟨_, _, _, _, hM⟩, hbs, hS⟩ (lv_sub hl [0, 1, 2, 3] rfl)
set_option maxRecDepth 100000 in
set_option maxHeartbeats 4000000 in
theorem L_noise {p : Program} {l : Launch} {e : Env} {s : State} {m : MethodId} {below : List Frame} {meth : Method} {c : Code} {b L x : Nat} {xs : Nat → Int32} {D : va_G} {y : zY} (hC : lwX p s m meth c b L x xs D y) {n : Nat} (hn : 7 * n + 7 ≤ L) {H : Heap} {locs : List Loc} {ls : Array Slot} (hI0 : lI D y x s n H locs) (hl : lv_has ls 4 [(3, .int (nI (7 * n))), (2, .ref (x + 70)), (1, .ref x), (0, .ref b)])
    (ih : ∀ (H' : Heap) (locs' : List Loc) (ls' : Array Slot), lI D y x s (n + 1) H' locs' → lv_has ls' 4 [(3, .int (nI (7 * n + 7))), (2, .ref (x + 70)), (1, .ref x), (0, .ref b)] → W p l e room_1 s m #[Value.ref b] below meth c H' locs' (76 + 16 * (n + 1)) (13938 + 112 * (n + 1)) (lw_Z below #[Value.ref b] s) (F0 m 18 ls' [])) : W p l e room_1 s m #[Value.ref b] below meth c H locs (76 + 16 * n) (13938 + 112 * n) (lw_Z below #[Value.ref b] s) (F0 m 219 ls []) := by
  obtain ⟨hx, hb, hret, hlocks, hF, hK, -, -, hL, hxs, -⟩ := id hC
  have hts := hF.2.2.2.2
  obtain ⟨d, was, tx, k, len, hJ, hCI, hMI, hbs, hS⟩ := hI0
  obtain ⟨ca, pa, pk, T, P, rot, ts, tn, hO, hH⟩ := id hCI
  obtain ⟨as, gt, pa9, rs, hM⟩ := id hMI
  have hn1 : n ≤ 511 := by omega
  have hJ1 := hJ.mono (Nat.le_succ n)
  obtain ⟨hZ, hk4, hl80, hW⟩ := id hJ
  have hr := hZ.1
  have hI := hr.1
  have hbd : x + 70 ≤ x + 76 := by omega
  obtain ⟨v1, hv1⟩ : ∃ v, xs (7 * n + 1) = v := ⟨_, rfl⟩
  obtain ⟨v2, hv2⟩ : ∃ v, xs (7 * n + 2) = v := ⟨_, rfl⟩
  refine lv_aload_n hx hb dL_law_219 rfl (lv_at hl 2 rfl) ?_
  refine lv_aload_n hx hb dL_law_220 rfl (lv_at hl 3 rfl) ?_
  refine lv_iload_n hx hb dL_law_221 rfl (lv_at hl 0 rfl) ?_
  refine lv_iconst (v := nI 1) hx hb dL_law_222 (by decide) ?_
  refine z_iadd hx hb dL_law_223 ?_
  refine s_ld hC hS (i := 7 * n + 1) (by omega) hv1 dL_law_224 ?_
  refine lv_aload_n hx hb dL_law_225 rfl (lv_at hl 3 rfl) ?_
  refine lv_iload_n hx hb dL_law_226 rfl (lv_at hl 0 rfl) ?_
  refine lv_iconst (v := nI 2) hx hb dL_law_227 (by decide) ?_
  refine z_iadd hx hb dL_law_228 ?_
  refine s_ld hC hS (i := 7 * n + 2) (by omega) hv2 dL_law_229 ?_
  by_cases hok : inB v1 (nI 0) (d 0 - nI 1) = true ∧ inB v2 (nI 1) (nI 9) = true
  · obtain ⟨j, hj, rfl⟩ := in_nc hI hok.1
    have h8 := hI.nc8
    obtain ⟨e1, e2, e3⟩ := ch_noise hZ (by omega) hj hok.2
    refine w_callV (As := [.int (nI j), .int v2]) (rest := []) hF hK (c_X4_noise_ok l D y x (x + 76) d ca pa pk T P k rot len ts tn tx j v2 (hr) (hk4) (hbd) (hj) (hok.2)) (cwV 2 hts gL_law_X4_noise rfl rfl rfl (by decide +kernel) ⟨Nat.le_of_ble_eq_true rfl, Nat.le_of_ble_eq_true rfl⟩) (cI.recv hK hCI) hO hS (fun q h => by rw [hxs]; exact xB_hi (by omega) h) rfl hl.1 rfl (Nat.le_of_ble_eq_true rfl) dL_law_230 ⟨by show _ ≤ 600000; omega, by show _ ≤ 7302250; omega⟩ (fun H1 locsH1 hq hz1 hk hS => ?_)
    have hMI := hMI.keep hk (fun q h1 h2 => nB_m (by omega) h1 h2)
    have hbs := Nat.le_trans hbs hz1
    clear hO hCI hM
    have hO := hq.same (wf_I (hI.noise j (by omega) v2).1 (rJ_upd hr (k := 4 + 6 * j + 5) (v := v2) (by omega) (by omega)).2 (Nat.le_refl _)).1 (fun i _ _ h4 => (e1 i h4).symm)
    clear hz1 hk
    obtain ⟨as, gt, pa9, rs, hM⟩ := hMI
    refine lv_aload_n hx hb dL_law_233 rfl (lv_at hl 1 rfl) ?_
    refine lv_aload_n hx hb dL_law_234 rfl (lv_at hl 3 rfl) ?_
    refine lv_iload_n hx hb dL_law_235 rfl (lv_at hl 0 rfl) ?_
    refine lv_iconst (v := nI 1) hx hb dL_law_236 (by decide) ?_
    refine z_iadd hx hb dL_law_237 ?_
    refine s_ld hC hS (i := 7 * n + 1) (by omega) hv1 dL_law_238 ?_
    refine lv_aload_n hx hb dL_law_239 rfl (lv_at hl 3 rfl) ?_
    refine lv_iload_n hx hb dL_law_240 rfl (lv_at hl 0 rfl) ?_
    refine lv_iconst (v := nI 2) hx hb dL_law_241 (by decide) ?_
    refine z_iadd hx hb dL_law_242 ?_
    refine s_ld hC hS (i := 7 * n + 2) (by omega) hv2 dL_law_243 ?_
    refine w_callV (As := [.int (nI j), .int v2]) (rest := [.int (wfC (upd d (4 + 6 * j + 5) v2) (vn (upd d (4 + 6 * j + 5) v2)))]) hF hK (c_X5_noise_ok l D y (x + 70) d was as tx gt k (nI len) pa9 rs j v2 (hI) (hk4) (hj) (hok.2)) (cwV 2 hts gL_law_X5_noise rfl rfl rfl (by decide +kernel) ⟨Nat.le_of_ble_eq_true rfl, Nat.le_of_ble_eq_true rfl⟩) (mI.recv hK (⟨as, gt, pa9, rs, hM⟩ : mI D y (x + 70) d was tx k len _)) hM hS (fun q h => by rw [hxs]; have h9 := h.1; omega) rfl hl.1 rfl (Nat.le_of_ble_eq_true rfl) dL_law_244 ⟨by show _ ≤ 600000; omega, by show _ ≤ 7302250; omega⟩ (fun H2 locsH2 hq hz1 hk hS => ?_)
    have hO := hO.keep hk (fun q h1 h2 => nblk (by omega)) (fun q h1 => nblk (by omega))
    have hbs := Nat.le_trans hbs hz1
    clear hM
    have hM := hq
    clear hz1 hk
    refine lv_icmp_eq (tgt := 1008) hx hb dL_law_247 (by decide) (fun _ => ?_) (fun q => absurd (show ((wfC (upd d (4 + 6 * j + 5) v2) (vn (upd d (4 + 6 * j + 5) v2))) : Int32) = (saC (upd d (4 + 6 * j + 5) v2) 120) from e2) q)
    refine lv_iinc (v := nI (7 * n + 7)) (lv' := [(3, .int (nI (7 * n + 7))), (2, .ref (x + 70)), (1, .ref x), (0, .ref b)]) hx hb dL_law_1008 hl (k := 0) rfl (in7 _) (by decide) rfl (fun ls hl => ?_)
    refine lv_goto (tgt := 18) hx hb dL_law_1011 (by decide) ?_
    refine W.widen (k := 76 + 16 * (n + 1)) (n := 13938 + 112 * (n + 1)) (by omega) (by omega) ?_
    exact ih _ _ _ ⟨saD (upd d (4 + 6 * j + 5) v2) 120, recW d was k, tx, recN k, len, (hJ.rem e3).mono (Nat.le_succ n), ⟨_, _, _, _, _, _, _, _, hO, hH.rem hk4 _ (fun i _ _ _ => rfl)⟩, ⟨_, _, _, _, hM⟩, hbs, hS⟩ (lv_sub hl [0, 1, 2, 3] rfl)
  · obtain ⟨tf, hR⟩ := hO.clR
    refine z_callV (As := [.int v1, .int v2]) (rest := []) hF hK (c_X4_noise_no l D y x (x + 76) d ca pa pk k len tf v1 v2 (hr) (hk4) (hl80) (hok)) (cwV 2 hts gL_law_X4_noise rfl rfl rfl (by decide +kernel) ⟨Nat.le_of_ble_eq_true rfl, Nat.le_of_ble_eq_true rfl⟩) (cI.recv hK hCI) hR rfl hl.1 rfl (Nat.le_of_ble_eq_true rfl) dL_law_230 ⟨by show _ ≤ 600000; omega, by show _ ≤ 7302250; omega⟩ ?_
    refine lv_aload_n hx hb dL_law_233 rfl (lv_at hl 1 rfl) ?_
    refine lv_aload_n hx hb dL_law_234 rfl (lv_at hl 3 rfl) ?_
    refine lv_iload_n hx hb dL_law_235 rfl (lv_at hl 0 rfl) ?_
    refine lv_iconst (v := nI 1) hx hb dL_law_236 (by decide) ?_
    refine z_iadd hx hb dL_law_237 ?_
    refine s_ld hC hS (i := 7 * n + 1) (by omega) hv1 dL_law_238 ?_
    refine lv_aload_n hx hb dL_law_239 rfl (lv_at hl 3 rfl) ?_
    refine lv_iload_n hx hb dL_law_240 rfl (lv_at hl 0 rfl) ?_
    refine lv_iconst (v := nI 2) hx hb dL_law_241 (by decide) ?_
    refine z_iadd hx hb dL_law_242 ?_
    refine s_ld hC hS (i := 7 * n + 2) (by omega) hv2 dL_law_243 ?_
    refine w_callV (As := [.int v1, .int v2]) (rest := [.int (-1001)]) hF hK (c_X5_noise_no l D y (x + 70) d was as tx gt k (nI len) pa9 rs v1 v2 (hI) (hk4) (hok)) (cwV 2 hts gL_law_X5_noise rfl rfl rfl (by decide +kernel) ⟨Nat.le_of_ble_eq_true rfl, Nat.le_of_ble_eq_true rfl⟩) (mI.recv hK (⟨as, gt, pa9, rs, hM⟩ : mI D y (x + 70) d was tx k len _)) hM hS (fun q h => by rw [hxs]; have h9 := h.1; omega) rfl hl.1 rfl (Nat.le_of_ble_eq_true rfl) dL_law_244 ⟨by show _ ≤ 600000; omega, by show _ ≤ 7302250; omega⟩ (fun H2 locsH2 hq hz1 hk hS => ?_)
    have hO := hO.keep hk (fun q h1 h2 => nblk (by omega)) (fun q h1 => nblk (by omega))
    have hbs := Nat.le_trans hbs hz1
    clear hM
    have hM := hq
    clear hz1 hk
    refine lv_icmp_eq (tgt := 1008) hx hb dL_law_247 (by decide) (fun _ => ?_) (fun q => absurd (show ((-1001) : Int32) = (-1001) from rfl) q)
    refine lv_iinc (v := nI (7 * n + 7)) (lv' := [(3, .int (nI (7 * n + 7))), (2, .ref (x + 70)), (1, .ref x), (0, .ref b)]) hx hb dL_law_1008 hl (k := 0) rfl (in7 _) (by decide) rfl (fun ls hl => ?_)
    refine lv_goto (tgt := 18) hx hb dL_law_1011 (by decide) ?_
    refine W.widen (k := 76 + 16 * (n + 1)) (n := 13938 + 112 * (n + 1)) (by omega) (by omega) ?_
    exact ih _ _ _ ⟨d, was, tx, k, len, hJ1, ⟨_, _, _, _, _, _, _, _, hO, hH⟩, ⟨_, _, _, _, hM⟩, hbs, hS⟩ (lv_sub hl [0, 1, 2, 3] rfl)
set_option maxRecDepth 100000 in
set_option maxHeartbeats 4000000 in
theorem L_wind {p : Program} {l : Launch} {e : Env} {s : State} {m : MethodId} {below : List Frame} {meth : Method} {c : Code} {b L x : Nat} {xs : Nat → Int32} {D : va_G} {y : zY} (hC : lwX p s m meth c b L x xs D y) {n : Nat} (hn : 7 * n + 7 ≤ L) {H : Heap} {locs : List Loc} {ls : Array Slot} (hI0 : lI D y x s n H locs) (hl : lv_has ls 4 [(3, .int (nI (7 * n))), (2, .ref (x + 70)), (1, .ref x), (0, .ref b)])
    (ih : ∀ (H' : Heap) (locs' : List Loc) (ls' : Array Slot), lI D y x s (n + 1) H' locs' → lv_has ls' 4 [(3, .int (nI (7 * n + 7))), (2, .ref (x + 70)), (1, .ref x), (0, .ref b)] → W p l e room_1 s m #[Value.ref b] below meth c H' locs' (76 + 16 * (n + 1)) (13938 + 112 * (n + 1)) (lw_Z below #[Value.ref b] s) (F0 m 18 ls' [])) : W p l e room_1 s m #[Value.ref b] below meth c H locs (76 + 16 * n) (13938 + 112 * n) (lw_Z below #[Value.ref b] s) (F0 m 318 ls []) := by
  obtain ⟨hx, hb, hret, hlocks, hF, hK, -, -, hL, hxs, -⟩ := id hC
  have hts := hF.2.2.2.2
  obtain ⟨d, was, tx, k, len, hJ, hCI, hMI, hbs, hS⟩ := hI0
  obtain ⟨ca, pa, pk, T, P, rot, ts, tn, hO, hH⟩ := id hCI
  obtain ⟨as, gt, pa9, rs, hM⟩ := id hMI
  have hn1 : n ≤ 511 := by omega
  have hJ1 := hJ.mono (Nat.le_succ n)
  obtain ⟨hZ, hk4, hl80, hW⟩ := id hJ
  have hr := hZ.1
  have hI := hr.1
  have hbd : x + 70 ≤ x + 76 := by omega
  obtain ⟨v1, hv1⟩ : ∃ v, xs (7 * n + 1) = v := ⟨_, rfl⟩
  obtain ⟨v2, hv2⟩ : ∃ v, xs (7 * n + 2) = v := ⟨_, rfl⟩
  refine lv_aload_n hx hb dL_law_318 rfl (lv_at hl 2 rfl) ?_
  refine lv_aload_n hx hb dL_law_319 rfl (lv_at hl 3 rfl) ?_
  refine lv_iload_n hx hb dL_law_320 rfl (lv_at hl 0 rfl) ?_
  refine lv_iconst (v := nI 1) hx hb dL_law_321 (by decide) ?_
  refine z_iadd hx hb dL_law_322 ?_
  refine s_ld hC hS (i := 7 * n + 1) (by omega) hv1 dL_law_323 ?_
  refine lv_aload_n hx hb dL_law_324 rfl (lv_at hl 3 rfl) ?_
  refine lv_iload_n hx hb dL_law_325 rfl (lv_at hl 0 rfl) ?_
  refine lv_iconst (v := nI 2) hx hb dL_law_326 (by decide) ?_
  refine z_iadd hx hb dL_law_327 ?_
  refine s_ld hC hS (i := 7 * n + 2) (by omega) hv2 dL_law_328 ?_
  by_cases hok : inB v1 (nI 0) (nI 29) = true ∧ inB v2 (nI 0) (nI 99) = true
  · obtain ⟨j, -, hj, rfl⟩ := inB_nat (by decide) hok.1 (by decide)
    have h8 := hI.nc8
    obtain ⟨e1, e2, e3⟩ := ch_wind hZ (by omega) (show j < 30 by omega) (v := v2)
    refine w_callV (As := [.int (nI j), .int v2]) (rest := []) hF hK (c_X4_wind_ok l D y x (x + 76) d ca pa pk T P k rot len ts tn tx j v2 (hr) (hk4) (hbd) (by omega) (hok.2)) (cwV 2 hts gL_law_X4_wind rfl rfl rfl (by decide +kernel) ⟨Nat.le_of_ble_eq_true rfl, Nat.le_of_ble_eq_true rfl⟩) (cI.recv hK hCI) hO hS (fun q h => by rw [hxs]; exact xB_hi (by omega) h) rfl hl.1 rfl (Nat.le_of_ble_eq_true rfl) dL_law_329 ⟨by show _ ≤ 600000; omega, by show _ ≤ 7302250; omega⟩ (fun H1 locsH1 hq hz1 hk hS => ?_)
    have hMI := hMI.keep hk (fun q h1 h2 => nB_m (by omega) h1 h2)
    have hbs := Nat.le_trans hbs hz1
    clear hO hCI hM
    have hO := hq.same (wf_I (hI.low (52 + j) (by omega) v2).1 (rJ_upd hr (k := 52 + j) (v := v2) (by omega) (by omega)).2 (Nat.le_refl _)).1 (fun i _ _ h4 => (e1 i h4).symm)
    clear hz1 hk
    obtain ⟨as, gt, pa9, rs, hM⟩ := hMI
    refine lv_aload_n hx hb dL_law_332 rfl (lv_at hl 1 rfl) ?_
    refine lv_aload_n hx hb dL_law_333 rfl (lv_at hl 3 rfl) ?_
    refine lv_iload_n hx hb dL_law_334 rfl (lv_at hl 0 rfl) ?_
    refine lv_iconst (v := nI 1) hx hb dL_law_335 (by decide) ?_
    refine z_iadd hx hb dL_law_336 ?_
    refine s_ld hC hS (i := 7 * n + 1) (by omega) hv1 dL_law_337 ?_
    refine lv_aload_n hx hb dL_law_338 rfl (lv_at hl 3 rfl) ?_
    refine lv_iload_n hx hb dL_law_339 rfl (lv_at hl 0 rfl) ?_
    refine lv_iconst (v := nI 2) hx hb dL_law_340 (by decide) ?_
    refine z_iadd hx hb dL_law_341 ?_
    refine s_ld hC hS (i := 7 * n + 2) (by omega) hv2 dL_law_342 ?_
    refine w_callV (As := [.int (nI j), .int v2]) (rest := [.int (wfC (upd d (52 + j) v2) (vn (upd d (52 + j) v2)))]) hF hK (c_X5_wind_ok l D y (x + 70) d was as tx gt k (nI len) pa9 rs j v2 (hI) (hk4) (by omega) (hok.2)) (cwV 2 hts gL_law_X5_wind rfl rfl rfl (by decide +kernel) ⟨Nat.le_of_ble_eq_true rfl, Nat.le_of_ble_eq_true rfl⟩) (mI.recv hK (⟨as, gt, pa9, rs, hM⟩ : mI D y (x + 70) d was tx k len _)) hM hS (fun q h => by rw [hxs]; have h9 := h.1; omega) rfl hl.1 rfl (Nat.le_of_ble_eq_true rfl) dL_law_343 ⟨by show _ ≤ 600000; omega, by show _ ≤ 7302250; omega⟩ (fun H2 locsH2 hq hz1 hk hS => ?_)
    have hO := hO.keep hk (fun q h1 h2 => nblk (by omega)) (fun q h1 => nblk (by omega))
    have hbs := Nat.le_trans hbs hz1
    clear hM
    have hM := hq
    clear hz1 hk
    refine lv_icmp_eq (tgt := 1008) hx hb dL_law_346 (by decide) (fun _ => ?_) (fun q => absurd (show ((wfC (upd d (52 + j) v2) (vn (upd d (52 + j) v2))) : Int32) = (calR (upd d (52 + j) v2) j) from e2) q)
    refine lv_iinc (v := nI (7 * n + 7)) (lv' := [(3, .int (nI (7 * n + 7))), (2, .ref (x + 70)), (1, .ref x), (0, .ref b)]) hx hb dL_law_1008 hl (k := 0) rfl (in7 _) (by decide) rfl (fun ls hl => ?_)
    refine lv_goto (tgt := 18) hx hb dL_law_1011 (by decide) ?_
    refine W.widen (k := 76 + 16 * (n + 1)) (n := 13938 + 112 * (n + 1)) (by omega) (by omega) ?_
    exact ih _ _ _ ⟨calD (upd d (52 + j) v2) j, recW d was k, tx, recN k, len, (hJ.rem e3).mono (Nat.le_succ n), ⟨_, _, _, _, _, _, _, _, hO, hH.rem hk4 _ (fun i _ _ _ => rfl)⟩, ⟨_, _, _, _, hM⟩, hbs, hS⟩ (lv_sub hl [0, 1, 2, 3] rfl)
  · obtain ⟨tf, hR⟩ := hO.clR
    refine z_callV (As := [.int v1, .int v2]) (rest := []) hF hK (c_X4_wind_no l D y x (x + 76) d ca pa pk k len tf v1 v2 (hr) (hk4) (hl80) (hok)) (cwV 2 hts gL_law_X4_wind rfl rfl rfl (by decide +kernel) ⟨Nat.le_of_ble_eq_true rfl, Nat.le_of_ble_eq_true rfl⟩) (cI.recv hK hCI) hR rfl hl.1 rfl (Nat.le_of_ble_eq_true rfl) dL_law_329 ⟨by show _ ≤ 600000; omega, by show _ ≤ 7302250; omega⟩ ?_
    refine lv_aload_n hx hb dL_law_332 rfl (lv_at hl 1 rfl) ?_
    refine lv_aload_n hx hb dL_law_333 rfl (lv_at hl 3 rfl) ?_
    refine lv_iload_n hx hb dL_law_334 rfl (lv_at hl 0 rfl) ?_
    refine lv_iconst (v := nI 1) hx hb dL_law_335 (by decide) ?_
    refine z_iadd hx hb dL_law_336 ?_
    refine s_ld hC hS (i := 7 * n + 1) (by omega) hv1 dL_law_337 ?_
    refine lv_aload_n hx hb dL_law_338 rfl (lv_at hl 3 rfl) ?_
    refine lv_iload_n hx hb dL_law_339 rfl (lv_at hl 0 rfl) ?_
    refine lv_iconst (v := nI 2) hx hb dL_law_340 (by decide) ?_
    refine z_iadd hx hb dL_law_341 ?_
    refine s_ld hC hS (i := 7 * n + 2) (by omega) hv2 dL_law_342 ?_
    refine w_callV (As := [.int v1, .int v2]) (rest := [.int (-1001)]) hF hK (c_X5_wind_no l D y (x + 70) d was as tx gt k (nI len) pa9 rs v1 v2 (hI) (hk4) (hok)) (cwV 2 hts gL_law_X5_wind rfl rfl rfl (by decide +kernel) ⟨Nat.le_of_ble_eq_true rfl, Nat.le_of_ble_eq_true rfl⟩) (mI.recv hK (⟨as, gt, pa9, rs, hM⟩ : mI D y (x + 70) d was tx k len _)) hM hS (fun q h => by rw [hxs]; have h9 := h.1; omega) rfl hl.1 rfl (Nat.le_of_ble_eq_true rfl) dL_law_343 ⟨by show _ ≤ 600000; omega, by show _ ≤ 7302250; omega⟩ (fun H2 locsH2 hq hz1 hk hS => ?_)
    have hO := hO.keep hk (fun q h1 h2 => nblk (by omega)) (fun q h1 => nblk (by omega))
    have hbs := Nat.le_trans hbs hz1
    clear hM
    have hM := hq
    clear hz1 hk
    refine lv_icmp_eq (tgt := 1008) hx hb dL_law_346 (by decide) (fun _ => ?_) (fun q => absurd (show ((-1001) : Int32) = (-1001) from rfl) q)
    refine lv_iinc (v := nI (7 * n + 7)) (lv' := [(3, .int (nI (7 * n + 7))), (2, .ref (x + 70)), (1, .ref x), (0, .ref b)]) hx hb dL_law_1008 hl (k := 0) rfl (in7 _) (by decide) rfl (fun ls hl => ?_)
    refine lv_goto (tgt := 18) hx hb dL_law_1011 (by decide) ?_
    refine W.widen (k := 76 + 16 * (n + 1)) (n := 13938 + 112 * (n + 1)) (by omega) (by omega) ?_
    exact ih _ _ _ ⟨d, was, tx, k, len, hJ1, ⟨_, _, _, _, _, _, _, _, hO, hH⟩, ⟨_, _, _, _, hM⟩, hbs, hS⟩ (lv_sub hl [0, 1, 2, 3] rfl)
set_option maxRecDepth 100000 in
set_option maxHeartbeats 4000000 in
theorem L_allow {p : Program} {l : Launch} {e : Env} {s : State} {m : MethodId} {below : List Frame} {meth : Method} {c : Code} {b L x : Nat} {xs : Nat → Int32} {D : va_G} {y : zY} (hC : lwX p s m meth c b L x xs D y) {n : Nat} (hn : 7 * n + 7 ≤ L) {H : Heap} {locs : List Loc} {ls : Array Slot} (hI0 : lI D y x s n H locs) (hl : lv_has ls 4 [(3, .int (nI (7 * n))), (2, .ref (x + 70)), (1, .ref x), (0, .ref b)])
    (ih : ∀ (H' : Heap) (locs' : List Loc) (ls' : Array Slot), lI D y x s (n + 1) H' locs' → lv_has ls' 4 [(3, .int (nI (7 * n + 7))), (2, .ref (x + 70)), (1, .ref x), (0, .ref b)] → W p l e room_1 s m #[Value.ref b] below meth c H' locs' (76 + 16 * (n + 1)) (13938 + 112 * (n + 1)) (lw_Z below #[Value.ref b] s) (F0 m 18 ls' [])) : W p l e room_1 s m #[Value.ref b] below meth c H locs (76 + 16 * n) (13938 + 112 * n) (lw_Z below #[Value.ref b] s) (F0 m 351 ls []) := by
  obtain ⟨hx, hb, hret, hlocks, hF, hK, -, -, hL, hxs, -⟩ := id hC
  have hts := hF.2.2.2.2
  obtain ⟨d, was, tx, k, len, hJ, hCI, hMI, hbs, hS⟩ := hI0
  obtain ⟨ca, pa, pk, T, P, rot, ts, tn, hO, hH⟩ := id hCI
  obtain ⟨as, gt, pa9, rs, hM⟩ := id hMI
  have hn1 : n ≤ 511 := by omega
  have hJ1 := hJ.mono (Nat.le_succ n)
  obtain ⟨hZ, hk4, hl80, hW⟩ := id hJ
  have hr := hZ.1
  have hI := hr.1
  have hbd : x + 70 ≤ x + 76 := by omega
  obtain ⟨v1, hv1⟩ : ∃ v, xs (7 * n + 1) = v := ⟨_, rfl⟩
  obtain ⟨v2, hv2⟩ : ∃ v, xs (7 * n + 2) = v := ⟨_, rfl⟩
  obtain ⟨v3, hv3⟩ : ∃ v, xs (7 * n + 3) = v := ⟨_, rfl⟩
  refine lv_aload_n hx hb dL_law_351 rfl (lv_at hl 2 rfl) ?_
  refine lv_aload_n hx hb dL_law_352 rfl (lv_at hl 3 rfl) ?_
  refine lv_iload_n hx hb dL_law_353 rfl (lv_at hl 0 rfl) ?_
  refine lv_iconst (v := nI 1) hx hb dL_law_354 (by decide) ?_
  refine z_iadd hx hb dL_law_355 ?_
  refine s_ld hC hS (i := 7 * n + 1) (by omega) hv1 dL_law_356 ?_
  refine lv_aload_n hx hb dL_law_357 rfl (lv_at hl 3 rfl) ?_
  refine lv_iload_n hx hb dL_law_358 rfl (lv_at hl 0 rfl) ?_
  refine lv_iconst (v := nI 2) hx hb dL_law_359 (by decide) ?_
  refine z_iadd hx hb dL_law_360 ?_
  refine s_ld hC hS (i := 7 * n + 2) (by omega) hv2 dL_law_361 ?_
  refine lv_aload_n hx hb dL_law_362 rfl (lv_at hl 3 rfl) ?_
  refine lv_iload_n hx hb dL_law_363 rfl (lv_at hl 0 rfl) ?_
  refine lv_iconst (v := nI 3) hx hb dL_law_364 (by decide) ?_
  refine z_iadd hx hb dL_law_365 ?_
  refine s_ld hC hS (i := 7 * n + 3) (by omega) hv3 dL_law_366 ?_
  by_cases hok : inB v1 (nI 0) (nI 3) = true ∧ inB v2 (nI 0) (nI 29) = true ∧ inB v3 (nI 0) (nI 200) = true
  · obtain ⟨i, -, hi, rfl⟩ := inB_nat (by decide) hok.1 (by decide)
    obtain ⟨j, -, hj, rfl⟩ := inB_nat (by decide) hok.2.1 (by decide)
    have h8 := hI.nc8
    obtain ⟨e1, e2, e3⟩ := ch_allow hZ (by omega) (show i < 4 by omega) (show j < 30 by omega) hok.2.2
    refine w_callV (As := [.int (nI i), .int (nI j), .int v3]) (rest := []) hF hK (c_X4_allow_ok l D y x (x + 76) d ca pa pk T P k rot len ts tn tx i j v3 (hr) (hk4) (hbd) (by omega) (by omega) (hok.2.2)) (cwV 3 hts gL_law_X4_allow rfl rfl rfl (by decide +kernel) ⟨Nat.le_of_ble_eq_true rfl, Nat.le_of_ble_eq_true rfl⟩) (cI.recv hK hCI) hO hS (fun q h => by rw [hxs]; exact xB_hi (by omega) h) rfl hl.1 rfl (Nat.le_of_ble_eq_true rfl) dL_law_367 ⟨by show _ ≤ 600000; omega, by show _ ≤ 7302250; omega⟩ (fun H1 locsH1 hq hz1 hk hS => ?_)
    have hMI := hMI.keep hk (fun q h1 h2 => nB_m (by omega) h1 h2)
    have hbs := Nat.le_trans hbs hz1
    clear hO hCI hM
    have hO := hq.same (wf_I (hI.low (82 + (30 * i + j)) (by omega) v3).1 (rJ_upd hr (k := 82 + (30 * i + j)) (v := v3) (by omega) (by omega)).2 (Nat.le_refl _)).1 (fun i _ _ h4 => (e1 i h4).symm)
    clear hz1 hk
    obtain ⟨as, gt, pa9, rs, hM⟩ := hMI
    refine lv_aload_n hx hb dL_law_370 rfl (lv_at hl 1 rfl) ?_
    refine lv_aload_n hx hb dL_law_371 rfl (lv_at hl 3 rfl) ?_
    refine lv_iload_n hx hb dL_law_372 rfl (lv_at hl 0 rfl) ?_
    refine lv_iconst (v := nI 1) hx hb dL_law_373 (by decide) ?_
    refine z_iadd hx hb dL_law_374 ?_
    refine s_ld hC hS (i := 7 * n + 1) (by omega) hv1 dL_law_375 ?_
    refine lv_aload_n hx hb dL_law_376 rfl (lv_at hl 3 rfl) ?_
    refine lv_iload_n hx hb dL_law_377 rfl (lv_at hl 0 rfl) ?_
    refine lv_iconst (v := nI 2) hx hb dL_law_378 (by decide) ?_
    refine z_iadd hx hb dL_law_379 ?_
    refine s_ld hC hS (i := 7 * n + 2) (by omega) hv2 dL_law_380 ?_
    refine lv_aload_n hx hb dL_law_381 rfl (lv_at hl 3 rfl) ?_
    refine lv_iload_n hx hb dL_law_382 rfl (lv_at hl 0 rfl) ?_
    refine lv_iconst (v := nI 3) hx hb dL_law_383 (by decide) ?_
    refine z_iadd hx hb dL_law_384 ?_
    refine s_ld hC hS (i := 7 * n + 3) (by omega) hv3 dL_law_385 ?_
    refine w_callV (As := [.int (nI i), .int (nI j), .int v3]) (rest := [.int (wfC (upd d (82 + (30 * i + j)) v3) (vn (upd d (82 + (30 * i + j)) v3)))]) hF hK (c_X5_allow_ok l D y (x + 70) d was as tx gt k (nI len) pa9 rs i j v3 (hI) (hk4) (by omega) (by omega) (hok.2.2)) (cwV 3 hts gL_law_X5_allow rfl rfl rfl (by decide +kernel) ⟨Nat.le_of_ble_eq_true rfl, Nat.le_of_ble_eq_true rfl⟩) (mI.recv hK (⟨as, gt, pa9, rs, hM⟩ : mI D y (x + 70) d was tx k len _)) hM hS (fun q h => by rw [hxs]; have h9 := h.1; omega) rfl hl.1 rfl (Nat.le_of_ble_eq_true rfl) dL_law_386 ⟨by show _ ≤ 600000; omega, by show _ ≤ 7302250; omega⟩ (fun H2 locsH2 hq hz1 hk hS => ?_)
    have hO := hO.keep hk (fun q h1 h2 => nblk (by omega)) (fun q h1 => nblk (by omega))
    have hbs := Nat.le_trans hbs hz1
    clear hM
    have hM := hq
    clear hz1 hk
    refine lv_icmp_eq (tgt := 1008) hx hb dL_law_389 (by decide) (fun _ => ?_) (fun q => absurd (show ((wfC (upd d (82 + (30 * i + j)) v3) (vn (upd d (82 + (30 * i + j)) v3))) : Int32) = (savR (upd d (82 + (30 * i + j)) v3) i j) from e2) q)
    refine lv_iinc (v := nI (7 * n + 7)) (lv' := [(3, .int (nI (7 * n + 7))), (2, .ref (x + 70)), (1, .ref x), (0, .ref b)]) hx hb dL_law_1008 hl (k := 0) rfl (in7 _) (by decide) rfl (fun ls hl => ?_)
    refine lv_goto (tgt := 18) hx hb dL_law_1011 (by decide) ?_
    refine W.widen (k := 76 + 16 * (n + 1)) (n := 13938 + 112 * (n + 1)) (by omega) (by omega) ?_
    exact ih _ _ _ ⟨savD (upd d (82 + (30 * i + j)) v3) i j, recW d was k, tx, recN k, len, (hJ.rem e3).mono (Nat.le_succ n), ⟨_, _, _, _, _, _, _, _, hO, hH.rem hk4 _ (fun i _ _ _ => rfl)⟩, ⟨_, _, _, _, hM⟩, hbs, hS⟩ (lv_sub hl [0, 1, 2, 3] rfl)
  · obtain ⟨tf, hR⟩ := hO.clR
    refine z_callV (As := [.int v1, .int v2, .int v3]) (rest := []) hF hK (c_X4_allow_no l D y x (x + 76) d ca pa pk k len tf v1 v2 v3 (hr) (hk4) (hl80) (hok)) (cwV 3 hts gL_law_X4_allow rfl rfl rfl (by decide +kernel) ⟨Nat.le_of_ble_eq_true rfl, Nat.le_of_ble_eq_true rfl⟩) (cI.recv hK hCI) hR rfl hl.1 rfl (Nat.le_of_ble_eq_true rfl) dL_law_367 ⟨by show _ ≤ 600000; omega, by show _ ≤ 7302250; omega⟩ ?_
    refine lv_aload_n hx hb dL_law_370 rfl (lv_at hl 1 rfl) ?_
    refine lv_aload_n hx hb dL_law_371 rfl (lv_at hl 3 rfl) ?_
    refine lv_iload_n hx hb dL_law_372 rfl (lv_at hl 0 rfl) ?_
    refine lv_iconst (v := nI 1) hx hb dL_law_373 (by decide) ?_
    refine z_iadd hx hb dL_law_374 ?_
    refine s_ld hC hS (i := 7 * n + 1) (by omega) hv1 dL_law_375 ?_
    refine lv_aload_n hx hb dL_law_376 rfl (lv_at hl 3 rfl) ?_
    refine lv_iload_n hx hb dL_law_377 rfl (lv_at hl 0 rfl) ?_
    refine lv_iconst (v := nI 2) hx hb dL_law_378 (by decide) ?_
    refine z_iadd hx hb dL_law_379 ?_
    refine s_ld hC hS (i := 7 * n + 2) (by omega) hv2 dL_law_380 ?_
    refine lv_aload_n hx hb dL_law_381 rfl (lv_at hl 3 rfl) ?_
    refine lv_iload_n hx hb dL_law_382 rfl (lv_at hl 0 rfl) ?_
    refine lv_iconst (v := nI 3) hx hb dL_law_383 (by decide) ?_
    refine z_iadd hx hb dL_law_384 ?_
    refine s_ld hC hS (i := 7 * n + 3) (by omega) hv3 dL_law_385 ?_
    refine w_callV (As := [.int v1, .int v2, .int v3]) (rest := [.int (-1001)]) hF hK (c_X5_allow_no l D y (x + 70) d was as tx gt k (nI len) pa9 rs v1 v2 v3 (hI) (hk4) (hok)) (cwV 3 hts gL_law_X5_allow rfl rfl rfl (by decide +kernel) ⟨Nat.le_of_ble_eq_true rfl, Nat.le_of_ble_eq_true rfl⟩) (mI.recv hK (⟨as, gt, pa9, rs, hM⟩ : mI D y (x + 70) d was tx k len _)) hM hS (fun q h => by rw [hxs]; have h9 := h.1; omega) rfl hl.1 rfl (Nat.le_of_ble_eq_true rfl) dL_law_386 ⟨by show _ ≤ 600000; omega, by show _ ≤ 7302250; omega⟩ (fun H2 locsH2 hq hz1 hk hS => ?_)
    have hO := hO.keep hk (fun q h1 h2 => nblk (by omega)) (fun q h1 => nblk (by omega))
    have hbs := Nat.le_trans hbs hz1
    clear hM
    have hM := hq
    clear hz1 hk
    refine lv_icmp_eq (tgt := 1008) hx hb dL_law_389 (by decide) (fun _ => ?_) (fun q => absurd (show ((-1001) : Int32) = (-1001) from rfl) q)
    refine lv_iinc (v := nI (7 * n + 7)) (lv' := [(3, .int (nI (7 * n + 7))), (2, .ref (x + 70)), (1, .ref x), (0, .ref b)]) hx hb dL_law_1008 hl (k := 0) rfl (in7 _) (by decide) rfl (fun ls hl => ?_)
    refine lv_goto (tgt := 18) hx hb dL_law_1011 (by decide) ?_
    refine W.widen (k := 76 + 16 * (n + 1)) (n := 13938 + 112 * (n + 1)) (by omega) (by omega) ?_
    exact ih _ _ _ ⟨d, was, tx, k, len, hJ1, ⟨_, _, _, _, _, _, _, _, hO, hH⟩, ⟨_, _, _, _, hM⟩, hbs, hS⟩ (lv_sub hl [0, 1, 2, 3] rfl)
