/-! THE LAW: its start -/
set_option maxRecDepth 100000 in
set_option maxHeartbeats 4000000 in
/-- from the entry, for every script of at most 260 ints, the law comes to its end with true -/
theorem whole_start {p : Program} {e : Env} {s : State} {m : MethodId} {below : List Frame} {meth : Method} {c : Code} (l : Launch) (hflags : l.flags = flags0) {b L : Nat} {xs : Nat → Int32} (hL : L ≤ 260) (C0 : lw_At p s m meth c b L xs) : W p l e room_1 s m #[Value.ref b] below meth c s.heap [] 0 0 (lw_Z below #[Value.ref b] s) (entryFrame m ([Value.ref b] : List Value).toArray 18) := by
  obtain ⟨hx, hb, hret, hml, hown, hts, hX, hbl, hlocks, hgv⟩ := id C0
  obtain ⟨D, y, hK⟩ := zK_start hts
  have htsL : ∀ w ∈ wsL_law, w.before #[Value.ref b] s = true := fun w h => hts w (wsL_law_in w h)
  have hF : CallFix p m c cL_law 18 s #[Value.ref b] wsL_law RL := ⟨hx, hb, hml, hown, htsL⟩
  have hZ := zZ_start hts hgv
  obtain ⟨x, hxs⟩ : ∃ x, s.heap.size = x := ⟨_, rfl⟩
  have hC : lwX p s m meth c b L x xs D y := ⟨hx, hb, hret, hlocks, hF, hK, hX, hbl, hL, hxs, hZ⟩
  have hS : va_S (fun q : Nat => s.heap.size ≤ q) s.heap s.heap [] := va_S.rf
  have hl := lv_entry ([.ref b]) (n := 18) (Nat.le_of_ble_eq_true rfl)
  rw [lg_entry_eq]
  generalize (lg_sl ([.ref b]) ++ List.replicate (18 - (lg_sl ([.ref b])).length) Slot.unset).toArray = ls at hl ⊢
  have hl : lv_has ls 18 [(0, .ref b)] := hl
  have hown : s.vm.findClass RL = some m.cls := hown
  refine y_new (a := x) (C := RX4) (T := TX4) (N := 5) (ci := 4) (fs := [.null, .null, .null, .int 0, .null]) hx hb htsL inlX4 tyX4 tyX4_ok hown (hts (.classLink RL 10 RX4) (by decide +kernel)) (hts (.instantiable RX4 5) (by decide +kernel)) (hts (.initialized RX4) (by decide +kernel)) hK rfl (fun j hj => by rcases (show j = 0 ∨ j = 1 ∨ j = 2 ∨ j = 3 ∨ j = 4 by omega) with rfl | rfl | rfl | rfl | rfl <;> rfl) hxs (by decide) (by decide) dL_law_0 (fun H1 hz1 hk hV => ?_)
  have hS := hS.grow hz1 hk
  refine lv_dup hx hb dL_law_3 rfl ?_
  refine w_callI (b := x) (As := []) (rest := [.ref x]) hF hK (c_X4_init l D y x (x + 70) (fun _ => 0) (fun _ => 0) (fun _ => 0) (Nat.le_refl _)) (cwI 0 htsL gL_law_X4_init rfl rfl rfl (hts (.initialized RX4) (by decide +kernel)) (hts (.methodLink RL 36 yX4_init) (by decide +kernel)) (hts (.instanceMethod yX4_init) (by decide +kernel)) rfl (by decide +kernel) ⟨Nat.le_of_ble_eq_true rfl, Nat.le_of_ble_eq_true rfl⟩) ⟨z_one hV, by rw [hz1, hxs]⟩ hS (fun q h => by rw [hxs]; exact h.1) rfl hl.1 rfl (Nat.le_of_ble_eq_true rfl) dL_law_4 ⟨Nat.le_of_ble_eq_true rfl, Nat.le_of_ble_eq_true rfl⟩ (fun H2 locs2 hq hz2 hk2 hS => ?_)
  obtain ⟨hM0, hz3⟩ := hq
  have hO := hM0.xO
  clear hM0 hz2 hk2 hz1 hk hV
  refine lv_astore_n (lv' := [(1, .ref x), (0, .ref b)]) hx hb dL_law_7 rfl hl (by decide) rfl (fun ls hl => ?_)
  exact L_first hC hO (by rw [hz3]; exact Nat.le_refl _) hS hl
