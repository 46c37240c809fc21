/-! THE LAW: its world between the steps -/
section LW27
variable {D : va_G} {y : zY} {bd x : Nat} {N T : Pic} {P : Nat → Pic} {k rot len : Nat} {ts : Int32} {tn : Nat} {tx : Nat → Int32} {H : Heap} {s : State} {w e : Nat → Int32} {ca pa pk : Nat → Nat}
theorem xO.recv (hK : zK D y s) (h : xO D y bd x N T P k rot len ts tn tx H) : ∃ cell : Cell, H[x]? = some cell ∧ cell.vm.isStatics = false ∧ s.vm.findClass RX4 = some cell.cls := by
  obtain ⟨pf, f2, f3, f4, f5, f6, hP, -⟩ := h
  exact z_recv (q := (RX4, TX4, 5)) hK (hP 0 _ rfl) rfl
theorem xO.conv (h : xO D y bd x (w, ca, pa, pk) T P k rot len ts tn tx H) (hI : zI e) (a : ∀ i, i < 1445 → i ≠ 443 → i ≠ 444 → w i = e i) : xO D y bd x (e, ca, pa, pk) T P k rot len ts tn tx H :=
  h.same (hI.same a).1 (fun i h1 h2 h3 => (a i h1 h2 h3).symm)
end LW27
def lI (D : va_G) (y : zY) (x : Nat) (s : State) (n g q : Nat) (H : Heap) (locs : List Loc) : Prop := ∃ (d : Nat → Int32) (ca pa pk : Nat → Nat) (T : Pic) (P : Nat → Pic) (k rot : Nat) (ts : Int32) (tn : Nat) (tx : Nat → Int32), lJ n g q d ∧ k ≤ 4 ∧ xO D y (x + 70) x (d, ca, pa, pk) T P k rot 0 ts tn tx H ∧ x + 70 ≤ H.size ∧ va_S (fun z : Nat => s.heap.size ≤ z) s.heap H locs
theorem tr_no {a b m c : Nat} (ha : a < 4) (hb : b < 4) (hab : a ≠ b) (hm : m < 30) (hc : 1 ≤ c ∧ c ≤ 200) : eIf (okTr (nI a) (nI b) (nI m) (nI c)) (-1002) = (-1002) := by
  have h : okTr (nI a) (nI b) (nI m) (nI c) = true := by
    unfold okTr
    rw [inB_n (show a ≤ 3 by omega) (by decide), inB_n (show b ≤ 3 by omega) (by decide), inB_n (show m ≤ 29 by omega) (by decide), inB_of hc.1 hc.2 (by decide), decide_eq_false (fun q => hab ((nI_eq (by omega) (by omega)).mp q))]
    rfl
  unfold eIf
  rw [if_pos h]
theorem pl_y {m h w : Nat} (hm : m < 30) (hh : h < 100) (h1 : h / 10 ≤ h % 10) (hw1 : 1 ≤ w) (hw2 : w ≤ 255) : planB (nI m) (nI h) (nI w) = true := by
  have e1 : nI h / nI 10 = nI (h / 10) := pk_div (by omega) (by decide) (by decide)
  have e2 : nI h - nI (h / 10) * nI 10 = nI (h % 10) := by
    rw [pk_mul, pk_sub (by omega), show h - h / 10 * 10 = h % 10 by omega]
  unfold planB ahrB
  rw [inB_n (show m ≤ 29 by omega) (by decide), inB_n (show h ≤ 99 by omega) (by decide), inB_of hw1 hw2 (by decide), e1, e2, decide_eq_false (fun q => absurd ((nI_ltI (by omega) (by omega)).mp q) (by omega))]
  rfl
theorem aRf {d : Nat → Int32} {c m : Nat} {h sw : Int32} (ha : aplB d (nI c) (nI m) h sw = true) (hc : c < 100) (hm : m < 100) : aRefusal d (nI c) (nI m) h sw = rfsI d c m h sw := by
  unfold aRefusal
  rw [if_pos ha, cl_nI (by omega), cl_nI (by omega)]
theorem three (r : Int32) (b : Bool) : (r = nI 0 ∧ b = true) ∨ (r = nI 0 ∧ b = false) ∨ ¬ r = nI 0 := by
  by_cases h : r = nI 0
  · cases b with
    | true => exact Or.inl ⟨h, rfl⟩
    | false => exact Or.inr (Or.inl ⟨h, rfl⟩)
  · exact Or.inr (Or.inr h)
theorem ap_full {d : Nat → Int32} {c m : Nat} {h sw : Int32} (ha : aplB d (nI c) (nI m) h sw = true) (hc : c < 100) (hm : m < 100) (hr : rfsI d c m h sw = nI 0) : eApply d (nI c) (nI m) h sw = (-1003) := by
  unfold eApply
  rw [if_pos ha, cl_nI (by omega), cl_nI (by omega), if_pos hr]
theorem ap_ref {d : Nat → Int32} {c m : Nat} {h sw : Int32} (ha : aplB d (nI c) (nI m) h sw = true) (hc : c < 100) (hm : m < 100) (hr : ¬ rfsI d c m h sw = nI 0) : eApply d (nI c) (nI m) h sw = (-1002) := by
  unfold eApply
  rw [if_pos ha, cl_nI (by omega), cl_nI (by omega), if_neg hr]
theorem ap_no {d : Nat → Int32} {c m : Nat} {h sw : Int32} (hc : c < 100) (hm : m < 100) (ho : ¬ rfsI d c m h sw = nI 0 ∨ romB d = false) : ¬ (aplB d (nI c) (nI m) h sw = true ∧ rfsI d (cl (nI c)) (cl (nI m)) h sw = nI 0 ∧ romB d = true) := fun q => by
  rw [cl_nI (by omega), cl_nI (by omega)] at q
  rcases ho with o | o
  · exact o q.2.1
  · rw [o] at q
    exact absurd q.2.2 Bool.false_ne_true
theorem nI_m3 {a : Nat} (h : a < 2147483648) : ¬ nI a = (-1003) := fun q => by
  have e := nI_toInt h
  rw [q, show ((-1003 : Int32)).toInt = -1003 by decide] at e
  omega
theorem ok_cr {x z r h st no : Nat} (hx : x ≤ 15) (hz : z ≤ 15) (hr : 1 ≤ r ∧ r ≤ 8) (hh : 10 ≤ h ∧ h ≤ 99) (hst : st ≤ 3) (hno : 1 ≤ no ∧ no ≤ 9) : okCr (nI x) (nI z) (nI r) (nI h) (nI st) (nI no) = true := by
  unfold okCr
  rw [inB_n hx (by decide), inB_n hz (by decide), inB_of hr.1 hr.2 (by decide), inB_of hh.1 hh.2 (by decide), inB_n hst (by decide), inB_of hno.1 hno.2 (by decide)]
  rfl
theorem rec_s {k : Nat} (hk : k ≤ 4) : ∃ j, recN k = j + 1 ∧ (k < 4 → j = k) ∧ (4 ≤ k → j = 3) := by
  unfold recN
  by_cases h : k = 4
  · rw [if_pos h]
    exact ⟨3, rfl, fun q => by omega, fun _ => rfl⟩
  · rw [if_neg h]
    exact ⟨k, rfl, fun _ => rfl, fun q => by omega⟩
theorem rem_at {P : Nat → Pic} {k rot j : Nat} {N : Pic} (h : recN k = j + 1) : remP P k rot N ((j + remR k rot) % 4) = N := by
  unfold remP
  rw [h, Nat.add_sub_cancel, va_up_self]
