/-! THE PROPERTY: the law's steps, each keeps what holds -/
/-- n transfers at most, g permits granted at most, c cranes -/
def lJ (n g c : Nat) (d : Nat → Int32) : Prop := zJ n d ∧ eJ d ∧ plC d ∧ nG d ≤ g ∧ nC d = c
theorem lJ.mono {n g c n' g' : Nat} {d : Nat → Int32} (h : lJ n g c d) (hn : n ≤ n') (hg : g ≤ g') : lJ n' g' c d := ⟨h.1.mono hn, h.2.1, h.2.2.1, Nat.le_trans h.2.2.2.1 hg, h.2.2.2.2⟩
theorem zI.c8 {d : Nat → Int32} (hI : zI d) {c k : Nat} (hc : c < 8) (hk : 4 + 6 * c + 5 = k) (v : Int32) : zI (upd d k v) := hk ▸ (hI.noise c hc v).1
theorem s_mk {n g c : Nat} {d : Nat → Int32} (h : lJ n g c d) {k : Nat} {v : Int32} (hk : k < 202) (h0 : k ≠ 0) (h3 : k ≠ 3) (hg : ∀ c j, c < 8 → j < 4 → 4 + 6 * c + j ≠ k) (hI1 : zI (upd d k v)) {W : Nat → Bool} {z : Int32} {e : Nat → Int32} (he : e = upd (mkD (upd d k v) W) 444 z) (hz : zJ n e) : lJ n g c e := by
  subst he
  refine ⟨hz, (h.2.1.up h.1.1.1 hk h3 hg).mk hI1 W z, h.2.2.1.cong (by rw [z_C, mk_C, up_C h0]) h.1.1.1.nc8 (fun c k hc hk => by rw [z_gr hc (by omega), mk_gr hc (by omega)]; exact u_ne (hg c k hc (by omega))), ?_, ?_⟩
  · rw [z_G, mk_G, up_G (by omega)]; exact h.2.2.2.1
  · rw [z_C, mk_C, up_C h0]; exact h.2.2.2.2
theorem nI_0le {j : Nat} (h : j < 2147483648) : (0 : Int32) ≤ nI j := (nI_leI (by decide : (0 : Nat) < 2147483648) h).mpr (Nat.zero_le j)
theorem s_at {d : Nat → Int32} {k : Nat} {v z : Int32} {W : Nat → Bool} (hk : k < 444) : upd (mkD (upd d k v) W) 444 z k = v := by
  rw [z_lo (by omega), mk_lo (by omega)]
  exact pk_us
theorem s_wind {n g c : Nat} {d : Nat → Int32} (h : lJ n g c d) (hn : n ≤ 1000) {m : Nat} (hm : m < 30) {v : Int32} : (∀ i, i ≠ 444 → wfD (upd d (52 + m) v) (vn (upd d (52 + m) v)) i = calD (upd d (52 + m) v) m i) ∧ 0 ≤ wfC (upd d (52 + m) v) (vn (upd d (52 + m) v)) ∧ lJ n g c (calD (upd d (52 + m) v) m) ∧ calD (upd d (52 + m) v) m (52 + m) = v := by
  have hI1 : zI (upd d (52 + m) v) := (h.1.1.1.low (52 + m) (by omega) v).1
  have hJ1 := up_rJ h.1.1 hI1 (show 52 + m < 442 by omega) (by omega)
  obtain ⟨a1, a2, a3⟩ := ch_wind h.1 hn hm (v := v)
  obtain ⟨W, b1, -, -, b4, b5⟩ := cal_stab hI1 hm
  have h24 := hJ1.2.1
  refine ⟨a1, ?_, s_mk h (by omega) (by omega) (by omega) (fun c j hc hj => by omega) hI1 b1 a3, ?_⟩
  · rw [a2, b4]; exact nI_0le (by omega)
  · rw [b1]; exact s_at (by omega)
theorem s_allow {n g c : Nat} {d : Nat → Int32} (h : lJ n g c d) (hn : n ≤ 1000) {a m : Nat} (ha : a < 4) (hm : m < 30) {v : Nat} (hv : v ≤ 200) : (∀ i, i ≠ 444 → wfD (upd d (82 + (30 * a + m)) (nI v)) (vn (upd d (82 + (30 * a + m)) (nI v))) i = savD (upd d (82 + (30 * a + m)) (nI v)) a m i) ∧ 0 ≤ wfC (upd d (82 + (30 * a + m)) (nI v)) (vn (upd d (82 + (30 * a + m)) (nI v))) ∧ lJ n g c (savD (upd d (82 + (30 * a + m)) (nI v)) a m) ∧ alwI (savD (upd d (82 + (30 * a + m)) (nI v)) a m) a m = nI v := by
  have hI1 : zI (upd d (82 + (30 * a + m)) (nI v)) := (h.1.1.1.low (82 + (30 * a + m)) (by omega) (nI v)).1
  have hJ1 := up_rJ h.1.1 hI1 (show 82 + (30 * a + m) < 442 by omega) (by omega)
  obtain ⟨a1, a2, a3⟩ := ch_allow h.1 hn ha hm (v := nI v) (inB_n hv (by decide))
  obtain ⟨W, b1, -, b4, b5⟩ := sav_stab hI1 ha hm
  have h24 := hJ1.2.1
  have e : savD (upd d (82 + (30 * a + m)) (nI v)) a m (82 + (30 * a + m)) = nI v := by rw [b1]; exact s_at (by omega)
  refine ⟨a1, ?_, s_mk h (by omega) (by omega) (by omega) (fun c j hc hj => by omega) hI1 b1 a3, ?_⟩
  · rw [a2, b4]; exact nI_0le (by omega)
  · unfold alwI
    rw [e, if_neg (oI_ne (by omega))]
theorem s_noise {n g c : Nat} {d : Nat → Int32} (h : lJ n g c d) (hn : n ≤ 1000) {i : Nat} (hi : i < c) {v : Int32} (hv : inB v (nI 1) (nI 9) = true) : (∀ j, j ≠ 444 → wfD (upd d (4 + 6 * i + 5) v) (vn (upd d (4 + 6 * i + 5) v)) j = saD (upd d (4 + 6 * i + 5) v) 120 j) ∧ lJ n g c (saD (upd d (4 + 6 * i + 5) v) 120) ∧ saD (upd d (4 + 6 * i + 5) v) 120 444 - d 444 = wfC (upd d (4 + 6 * i + 5) v) (vn (upd d (4 + 6 * i + 5) v)) := by
  have hc8 := h.1.1.1.nc8
  have hic : i < nC d := by rw [h.2.2.2.2]; exact hi
  have hI1 : zI (upd d (4 + 6 * i + 5) v) := (h.1.1.1.noise i (by omega) v).1
  have hJ1 := up_rJ h.1.1 hI1 (show 4 + 6 * i + 5 < 442 by omega) (by omega)
  obtain ⟨a1, a2, a3⟩ := ch_noise h.1 hn hic hv
  obtain ⟨W, b1, -, -, -⟩ := sa_stab hI1 hJ1.2.2.1
  refine ⟨a1, s_mk h (by omega) (by omega) (by omega) (fun c j hc hj => by omega) hI1 b1 a3, ?_⟩
  have e : saD (upd d (4 + 6 * i + 5) v) 120 444 = upd d (4 + 6 * i + 5) v 444 + saC (upd d (4 + 6 * i + 5) v) 120 := by rw [b1]; exact pk_us
  rw [e, a2, u_ne (show (444 : Nat) ≠ 4 + 6 * i + 5 by omega), a_sub]
theorem s_set {n g c : Nat} {d : Nat → Int32} (h : lJ n g c d) (hn : n ≤ 1000) {v : Int32} : (∀ i, i ≠ 444 → wfD (upd d 1 v) (vn (upd d 1 v)) i = caD (upd d 1 v) 30 i) ∧ 0 ≤ wfC (upd d 1 v) (vn (upd d 1 v)) ∧ lJ n g c (caD (upd d 1 v) 30) := by
  have hI1 : zI (upd d 1 v) := (h.1.1.1.low 1 (by omega) v).1
  have hJ1 := up_rJ h.1.1 hI1 (show 1 < 442 by omega) (by omega)
  obtain ⟨a1, a2, a3⟩ := ch_set0 h.1 hn (v := v)
  obtain ⟨W, b1, -, b4, b5⟩ := ca_stab hI1 hJ1.2.2.1
  have h24 := hJ1.2.1
  refine ⟨a1, ?_, s_mk h (by omega) (by omega) (by omega) (fun c j hc hj => by omega) hI1 b1 a3⟩
  rw [a2, b4]; exact nI_0le (by omega)
theorem tra_used {d : Nat → Int32} (hI : zI d) {a b m : Nat} {c : Int32} (ha : a < 4) (hb : b < 4) (hm : m < 30) (st n : Int32) : usedI (traD d a b m c) st n = usedI d st n := by
  unfold traD
  rw [up_used (hI.low (322 + (30 * a + m)) (by omega) _).1 (by omega) (fun c hc => by omega), up_used hI (by omega) (fun c hc => by omega)]
theorem tra_alw {d : Nat → Int32} {a b m st n : Nat} {c : Int32} (hst : st < 4) (hn : n < 30) : alwI (traD d a b m c) st n = alwI d st n := by
  unfold alwI
  rw [tra_n (by omega) (by omega), tra_n (by omega) (by omega)]
theorem r_add (A r g c : Int32) : A + (r + c) - g = A + r - g + c := by
  rw [Int32.sub_eq_add_neg, Int32.sub_eq_add_neg]; ac_rfl
theorem g_add (A r g c u : Int32) : A + r - (g + c) - u = A + r - g - u - c := by
  rw [Int32.sub_eq_add_neg, Int32.sub_eq_add_neg, Int32.sub_eq_add_neg, Int32.sub_eq_add_neg, Int32.sub_eq_add_neg, Int32.neg_add, Int32.sub_eq_add_neg]; ac_rfl
theorem s_tra {n g c : Nat} {d : Nat → Int32} (h : lJ n g c d) (hn : n + 1 ≤ 1000) {a b m : Nat} {v : Int32} (ha : a < 4) (hb : b < 4) (hab : a ≠ b) (hm : m < 30) (hc : inB v (nI 1) (nI 200) = true) (hf : 0 ≤ freI d a m - v) : lJ (n + 1) g c (traD d a b m v) ∧ creI (traD d a b m v) b m = creI d b m + v ∧ creI (traD d a b m v) a m - usedI (traD d a b m v) (nI a) (nI m) = freI d a m - v := by
  have hz := ch_transfer h.1 hn ha hb hab hm hc hf
  have lo : ∀ i, i < 202 ∨ 442 ≤ i → traD d a b m v i = d i := fun i hi => tra_n (by omega) (by omega)
  have eC : nC (traD d a b m v) = nC d := by unfold nC; rw [lo _ (by omega)]
  have eG : nG (traD d a b m v) = nG d := by unfold nG; rw [lo _ (by omega)]
  refine ⟨⟨hz, h.2.1.tra h.1.1.1 ha hb hm, h.2.2.1.cong eC h.1.1.1.nc8 (fun c k hc hk => lo _ (by omega)), by rw [eG]; exact h.2.2.2.1, by rw [eC]; exact h.2.2.2.2⟩, ?_, ?_⟩
  · unfold creI
    rw [tra_alw hb hm, tra_2 (by omega), tra_n (by omega) (by omega), r_add]
  · rw [tra_used h.1.1.1 ha hb hm]
    unfold freI creI
    rw [tra_alw ha hm, tra_1 (by omega), tra_n (i := 202 + (30 * a + m)) (by omega) (by omega), g_add]
theorem s_wdr {n g c : Nat} {d : Nat → Int32} (h : lJ n g c d) (hn : n ≤ 1000) {p : Nat} (hp : p < nG d) (h4 : pm d p 4 = nI 1) : lJ n g c (wdrD d p) ∧ vn (wdrD d p) + 1 = vn d := by
  have hz := ch_withdraw h.1 hn hp h4
  have eC : nC (wdrD d p) = nC d := by unfold nC; rw [wdr_n (by omega) (by decide)]
  have eG : nG (wdrD d p) = nG d := by unfold nG; rw [wdr_n (by omega) (by decide)]
  refine ⟨⟨hz, h.2.1.wdr h.1.1.1 p, h.2.2.1.cong eC h.1.1.1.nc8 (fun c k hc hk => wdr_n (by omega) (by omega)), by rw [eG]; exact h.2.2.2.1, by rw [eC]; exact h.2.2.2.2⟩, ?_⟩
  have e : vn (wdrD d p) = vn (upd d (445 + 5 * p + 4) (nI 2)) := vn_cong (vL_cong (by unfold wdrD; exact up_G (by decide)) (fun q _ => by unfold wdrD; exact up_pm (by decide) q 4))
  obtain ⟨i, i1, i2⟩ := vx_onto hp h4
  rw [e]
  exact vn_end (v := nI 2) (by decide) (i2 ▸ vx_mem i1)
theorem us_pos {d : Nat → Int32} (hI : zI d) (hpl : plJ d) (hz : nzB d) {p : Nat} (hp : p < nG d) : ¬ usI d p ≤ 0 := by
  obtain ⟨j, hj, e, e1, e2, e3⟩ := ahr_n (hpl.h hp)
  obtain ⟨k, hk1, hk, ek⟩ := inB_nat (by decide) (hz _ (hI.pcn hp)) (by decide)
  have hm : (j % 10 - j / 10 + 1) * k ≤ 10 * 9 := Nat.mul_le_mul (by omega) hk
  have hm2 : 1 * 1 ≤ (j % 10 - j / 10 + 1) * k := Nat.mul_le_mul (by omega) hk1
  have e4 : usI d p = nI ((j % 10 - j / 10 + 1) * k) := by
    unfold usI hrsI
    rw [e2, e1, pk_sub e3, nI_add, ek, pk_mul]
  rw [e4]
  exact fun q => absurd ((nI_leI (a := (j % 10 - j / 10 + 1) * k) (b := 0) (by omega) (by decide)).mp q) (by omega)
theorem s_gra {n g c : Nat} {d : Nat → Int32} (h : lJ n g c d) (hn : n ≤ 1000) {i m : Nat} {hh sw : Int32} (hi : i < c) (hm : m < 30) (hpn : planB (nI m) hh sw = true) (hrm : romB d = true) (hr : rfsI d i m hh sw = nI 0) : lJ n (g + 1) c (graD d i m hh sw) ∧ nG (graD d i m hh sw) = nG d + 1 ∧ pC (graD d i m hh sw) (nG d) = i := by
  have hic : i < nC d := by rw [h.2.2.2.2]; exact hi
  have hz := ch_gra h.1 hn hic hm hpn hrm hr
  have c8 := h.1.1.1.nc8
  have hg : nG d < 200 := (rom_2 hrm).2
  obtain ⟨g0, g1, -⟩ := gra_v h.1.1.1 hg (c := i) (n := m) (h := hh) (sw := sw)
  have eC : nC (graD d i m hh sw) = nC d := by unfold nC; rw [gra_n (by omega) (by decide)]
  have hle := h.2.2.2.1
  refine ⟨⟨hz, h.2.1.gra h.1.1.1 hg hic hr, h.2.2.1.cong eC c8 (fun c k hc hk => gra_n (by omega) (by omega)), by rw [g0]; omega, by rw [eC]; exact h.2.2.2.2⟩, g0, ?_⟩
  unfold pC
  rw [g1]
  exact cl_nI (by omega)
/-- the crane's own permit is not in its way -/
theorem itw_ne {d : Nat → Int32} (hI : zI d) {c p : Nat} {n h sw : Int32} (hp : p < nG d) (hc : pC d p = c) (ha : aplB d (nI c) n h sw = true) (h8 : c < 8) : aInTheWay d (nI c) n h sw ≠ nI p := by
  have g2 := hI.ng2
  unfold aInTheWay
  rw [if_pos ha, cl_nI (by omega)]
  cases e : fiaO d c n h sw with
  | none =>
    intro q
    have a := nI_toInt (show p < 2147483648 by omega)
    rw [← q, show nfI none = (-1004) from rfl, show ((-1004 : Int32)).toInt = -1004 by decide] at a
    omega
  | some r =>
    intro q
    have hr := List.find?_some e
    have hl := find_lt e
    have er : r = p := (nI_eq (by omega) (by omega)).mp q
    subst er
    unfold fiaP airB at hr
    rw [decide_eq_true hc.symm] at hr
    simp at hr
theorem s_crane {n c : Nat} {d : Nat → Int32} (h : lJ n 0 c d) (h4 : c < 4) {x : Nat} {r hh st no : Int32} (hx : x < 16) (hok : okCr (nI x) (nI (5 * c)) r hh st no = true) : hasC d (nI x) (nI (5 * c)) = false ∧ lJ n 0 (c + 1) (addC d (nI x) (nI (5 * c)) r hh st no) := by
  have hc := h.2.2.2.2
  have h0 : nG d = 0 := Nat.le_zero.mp h.2.2.2.1
  have hz := ch_crane h.1 hok (by omega)
  refine ⟨?_, hz, h.2.1.add (by omega) h0, h.2.2.1.add (by omega) hx (by rw [hc]), by rw [add_G (by omega)]; exact h.2.2.2.1, by rw [add_C (by omega), hc]⟩
  unfold hasC
  refine any_f (fun j hj => ?_)
  have e := (h.2.2.1 j hj).2
  unfold hasP
  rw [e, decide_eq_false (fun q => absurd ((nI_eq (by omega) (by omega)).mp q) (show ¬ 5 * j = 5 * c by omega)), Bool.and_false]
theorem lJ.ini : lJ 0 0 0 (iniD 120) := ⟨ini_J, eJ.ini, plC.ini, by rw [ini_G]; exact Nat.le_refl _, ini_C⟩
theorem rom_24 {n g c : Nat} {d : Nat → Int32} (h : lJ n g c d) (hg : g < 200) (hr : romB d = false) : vn d = 24 := by
  have h24 := h.1.1.2.1
  have hG := h.2.2.2.1
  unfold romB at hr
  rw [decide_eq_true (show nG d < 200 by omega), Bool.and_true] at hr
  have := of_decide_eq_false hr
  omega
