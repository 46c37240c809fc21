/-! THE REFERENCE'S WORLD, AND WHAT ITS METHODS DO TO IT -/
theorem va_D_blk {ws : va_W} {a n : Nat} (h : ∀ (k : Nat) (q : Nat × va_E), ws[k]? = some q → q.1 = a + k) (hn : ws.length ≤ n) : va_D (blk a n) ws := by
  refine ⟨fun i j p q hi hj e => ?_, fun k q hk => ?_⟩
  · have h1 := h i p hi
    have h2 := h j q hj
    omega
  · have h1 := h k q hk
    have h2 := (List.getElem?_eq_some_iff.mp hk).1
    rw [h1]
    exact ⟨Nat.le_add_right _ _, by omega⟩
theorem blk_in {a n q : Nat} (h1 : a ≤ q) (h2 : q < a + n) : blk a n q := ⟨h1, h2⟩
def mWs (y : zY) (m : Nat) (d was as tx gt : Nat → Int32) (st ty pa rs : Int32) : va_W := [(m, .inr (5, [.ref (m + 1), .ref (m + 2), .int st, .ref (m + 3), .ref (m + 4), .int ty, .int pa, .int rs, .ref (m + 5)])), (m + 1, .inl (y.1, 1445, .inl d)), (m + 2, .inl (y.1, 5780, .inl was)), (m + 3, .inl (y.1, 1445, .inl as)), (m + 4, .inl (y.2.1, 80, .inl tx)), (m + 5, .inl (y.1, 5, .inl gt))]
theorem mWs_D {y : zY} {m : Nat} {d was as tx gt : Nat → Int32} {st ty pa rs : Int32} : va_D (blk m 6) (mWs y m d was as tx gt st ty pa rs) := by
  refine va_D_blk (fun k q hk => ?_) (Nat.le_of_ble_eq_true rfl)
  match k, hk with
  | 0, hk => cases hk; rfl
  | 1, hk => cases hk; rfl
  | 2, hk => cases hk; rfl
  | 3, hk => cases hk; rfl
  | 4, hk => cases hk; rfl
  | 5, hk => cases hk; rfl
  | k + 6, hk => simp [mWs] at hk
theorem zM_of {D : va_G} {y : zY} {m : Nat} {d was as tx gt : Nat → Int32} {st ty pa rs : Int32} {H : Heap} (hP : va_P D vwCl (mWs y m d was as tx gt st ty pa rs) H) : zM D y m d H := ⟨⟨_, hP 0 _ rfl⟩, hP 1 _ rfl⟩
theorem inm2 (n : Nat) : nI n + Int32.ofInt (-1) = nI n - nI 1 := by
  rw [Int32.sub_eq_add_neg]
  rfl
/-! history -/
def shN (was : Nat → Int32) (i : Nat) : Nat → Int32 := fun j => if j < i then was (j + 1445) else was j
theorem sh_0 (was : Nat → Int32) : shN was 0 = was := by funext j; simp [shN]
theorem sh_s (was : Nat → Int32) (i : Nat) : upd (shN was i) i (shN was i (i + 1445)) = shN was (i + 1) := by
  funext j
  unfold upd shN
  by_cases h : j = i
  · subst h; rw [if_pos rfl, if_neg (by omega), if_pos (by omega)]
  · rw [if_neg h]
    by_cases h2 : j < i
    · rw [if_pos h2, if_pos (by omega)]
    · rw [if_neg h2, if_neg (by omega)]
def cpN (w d : Nat → Int32) (a i : Nat) : Nat → Int32 := fun j => if a ≤ j ∧ j < a + i then d (j - a) else w j
theorem cp_0 (w d : Nat → Int32) (a : Nat) : cpN w d a 0 = w := by
  funext j
  unfold cpN
  rw [if_neg (by omega)]
theorem cp_s (w d : Nat → Int32) (a i : Nat) : upd (cpN w d a i) (a + i) (d i) = cpN w d a (i + 1) := by
  funext j
  unfold upd cpN
  by_cases h : j = a + i
  · subst h; rw [if_pos rfl, if_pos (by omega), show a + i - a = i by omega]
  · rw [if_neg h]
    by_cases h2 : a ≤ j ∧ j < a + i
    · rw [if_pos h2, if_pos (by omega)]
    · rw [if_neg h2, if_neg (by omega)]
theorem cp_s0 (w d : Nat → Int32) (i : Nat) : upd (cpN w d 0 i) i (d i) = cpN w d 0 (i + 1) := by
  have h := cp_s w d 0 i
  rw [Nat.zero_add] at h
  exact h
def recW (d was : Nat → Int32) (k : Nat) : Nat → Int32 := if k = 4 then cpN (shN was 4335) d 4335 1445 else cpN was d (1445 * k) 1445
def recN (k : Nat) : Nat := if k = 4 then 4 else k + 1
theorem rec_4 (d was : Nat → Int32) : cpN (shN was 4335) d (1445 * (4 - 1)) 1445 = recW d was 4 := by unfold recW; rw [if_pos rfl]
theorem rec_n {d was : Nat → Int32} {k : Nat} (h : k ≠ 4) : cpN was d (1445 * k) 1445 = recW d was k := by unfold recW; rw [if_neg h]
theorem recN_n {k : Nat} (h : k ≠ 4) : nI (k + 1) = nI (recN k) := by unfold recN; rw [if_neg h]
/-! the safe state stays safe -/
theorem pm_far (d : Nat → Int32) {i p k : Nat} {x : Int32} (h : 445 + 5 * p + k ≠ i) : pm (upd d i x) p k = pm d p k := pk_un h
theorem gr_far (d : Nat → Int32) {i c k : Nat} {x : Int32} (h : 4 + 6 * c + k ≠ i) : gr (upd d i x) c k = gr d c k := pk_un h
/-- a change away from what is counted -/
theorem zI.keep {d d' : Nat → Int32} (hI : zI d) (h0 : d' 0 = d 0) (h4 : d' 442 = d 442) (hp : ∀ p, p < 200 → pm d' p 0 = pm d p 0) (hs : ∀ c, c < 8 → gr d' c 4 = gr d c 4) : zI d' ∧ nG d' = nG d ∧ nC d' = nC d ∧ (∀ p, p < 200 → pC d' p = pC d p) ∧ ∀ c, c < 8 → sC d' c = sC d c := by
  have eC : nC d' = nC d := by unfold nC; rw [h0]
  have eG : nG d' = nG d := by unfold nG; rw [h4]
  have eP : ∀ p, p < 200 → pC d' p = pC d p := fun p hh => by unfold pC; rw [hp p hh]
  have eS : ∀ c, c < 8 → sC d' c = sC d c := fun c hh => by unfold sC; rw [hs c hh]
  have g2 := hI.ng2
  have c8 := hI.nc8
  refine ⟨⟨by rw [eC, h0]; exact hI.nc, by rw [eC]; exact c8, by rw [eG, h4]; exact hI.ng, by rw [eG]; exact g2, fun p hh => ?_, fun c hh => ?_⟩, eG, eC, eP, eS⟩
  · rw [eG] at hh
    rw [eP p (by omega), hp p (by omega), eC]
    exact ⟨hI.pc hh, hI.pcn hh⟩
  · rw [eC] at hh
    rw [eS c (by omega), hs c (by omega)]
    exact ⟨hI.sc hh, hI.sc4 hh⟩
theorem zI.upd4 {d : Nat → Int32} (hI : zI d) (p : Nat) (x : Int32) : zI (upd d (445 + 5 * p + 4) x) ∧ nG (upd d (445 + 5 * p + 4) x) = nG d := by
  have h := hI.keep (d' := upd d (445 + 5 * p + 4) x) (pk_un (by omega)) (pk_un (by omega)) (fun q _ => pm_far d (by omega)) (fun c _ => gr_far d (by omega))
  exact ⟨h.1, h.2.1⟩
/-! withdrawn by the wind -/
def cmS (d : Nat → Int32) (n : Nat) : Nat → (Nat → Int32) × Int32
  | 0 => (d, nI 0)
  | i + 1 => if pm (cmS d n i).1 i 4 = nI 1 ∧ pm (cmS d n i).1 i 1 = nI n ∧ stpB (cmS d n i).1 (pC (cmS d n i).1 i) n = true then (upd (cmS d n i).1 (445 + 5 * i + 4) (nI 3), (cmS d n i).2 + 1) else cmS d n i
def cmD (d : Nat → Int32) (n i : Nat) : Nat → Int32 := (cmS d n i).1
def cmC (d : Nat → Int32) (n i : Nat) : Int32 := (cmS d n i).2
theorem cm_y {d : Nat → Int32} {n i : Nat} (h1 : pm (cmD d n i) i 4 = nI 1) (h2 : pm (cmD d n i) i 1 = nI n) (h3 : stpB (cmD d n i) (pC (cmD d n i) i) n = true) : cmD d n (i + 1) = upd (cmD d n i) (445 + 5 * i + 4) (nI 3) ∧ cmC d n (i + 1) = cmC d n i + 1 := by
  unfold cmD cmC at *
  rw [cmS, if_pos ⟨h1, h2, h3⟩]
  exact ⟨rfl, rfl⟩
theorem cm_n {d : Nat → Int32} {n i : Nat} (h : ¬ (pm (cmD d n i) i 4 = nI 1 ∧ pm (cmD d n i) i 1 = nI n ∧ stpB (cmD d n i) (pC (cmD d n i) i) n = true)) : cmD d n (i + 1) = cmD d n i ∧ cmC d n (i + 1) = cmC d n i := by
  unfold cmD cmC at *
  rw [cmS, if_neg h]
  exact ⟨rfl, rfl⟩
theorem cm_I {d : Nat → Int32} (hI : zI d) (n : Nat) : ∀ i, zI (cmD d n i) ∧ nG (cmD d n i) = nG d
  | 0 => ⟨hI, rfl⟩
  | i + 1 => by
    have ih := cm_I hI n i
    by_cases h : pm (cmD d n i) i 4 = nI 1 ∧ pm (cmD d n i) i 1 = nI n ∧ stpB (cmD d n i) (pC (cmD d n i) i) n = true
    · rw [(cm_y h.1 h.2.1 h.2.2).1]
      have := ih.1.upd4 i (nI 3)
      exact ⟨this.1, this.2.trans ih.2⟩
    · rw [(cm_n h).1]; exact ih
def calD (d : Nat → Int32) (n : Nat) : Nat → Int32 := upd (cmD d n (nG d)) 444 (cmD d n (nG d) 444 + cmC d n (nG d))
def calR (d : Nat → Int32) (n : Nat) : Int32 := cmC d n (nG d)
theorem zI.upd444 {d : Nat → Int32} (hI : zI d) (x : Int32) : zI (upd d 444 x) ∧ nG (upd d 444 x) = nG d := by
  have h := hI.keep (d' := upd d 444 x) (pk_un (by omega)) (pk_un (by omega)) (fun q _ => pm_far d (by omega)) (fun c _ => gr_far d (by omega))
  exact ⟨h.1, h.2.1⟩
theorem cal_I {d : Nat → Int32} (hI : zI d) (n : Nat) : zI (calD d n) ∧ nG (calD d n) = nG d := by
  have h := cm_I hI n (nG d)
  have h2 := h.1.upd444 (cmD d n (nG d) 444 + cmC d n (nG d))
  exact ⟨h2.1, h2.2.trans h.2⟩
/-! withdrawn for want of credits -/
def svS (d : Nat → Int32) (st n : Nat) : Nat → (Nat → Int32) × Int32
  | 0 => (d, nI 0)
  | j + 1 => if ofB (svS d st n j).1 (nG d - 1 - j) (nI st) (nI n) = true ∧ ¬ usedI (svS d st n j).1 (nI st) (nI n) ≤ creI (svS d st n j).1 st n then (upd (svS d st n j).1 (445 + 5 * (nG d - 1 - j) + 4) (nI 3), (svS d st n j).2 + 1) else svS d st n j
def svD (d : Nat → Int32) (st n j : Nat) : Nat → Int32 := (svS d st n j).1
def svC (d : Nat → Int32) (st n j : Nat) : Int32 := (svS d st n j).2
theorem sv_y {d : Nat → Int32} {st n j : Nat} (h1 : ofB (svD d st n j) (nG d - 1 - j) (nI st) (nI n) = true) (h2 : ¬ usedI (svD d st n j) (nI st) (nI n) ≤ creI (svD d st n j) st n) : svD d st n (j + 1) = upd (svD d st n j) (445 + 5 * (nG d - 1 - j) + 4) (nI 3) ∧ svC d st n (j + 1) = svC d st n j + 1 := by
  unfold svD svC at *
  rw [svS, if_pos ⟨h1, h2⟩]
  exact ⟨rfl, rfl⟩
theorem sv_n {d : Nat → Int32} {st n j : Nat} (h : ¬ (ofB (svD d st n j) (nG d - 1 - j) (nI st) (nI n) = true ∧ ¬ usedI (svD d st n j) (nI st) (nI n) ≤ creI (svD d st n j) st n)) : svD d st n (j + 1) = svD d st n j ∧ svC d st n (j + 1) = svC d st n j := by
  unfold svD svC at *
  rw [svS, if_neg h]
  exact ⟨rfl, rfl⟩
theorem sv_I {d : Nat → Int32} (hI : zI d) (st n : Nat) : ∀ j, zI (svD d st n j) ∧ nG (svD d st n j) = nG d
  | 0 => ⟨hI, rfl⟩
  | j + 1 => by
    have ih := sv_I hI st n j
    by_cases h : ofB (svD d st n j) (nG d - 1 - j) (nI st) (nI n) = true ∧ ¬ usedI (svD d st n j) (nI st) (nI n) ≤ creI (svD d st n j) st n
    · rw [(sv_y h.1 h.2).1]
      have := ih.1.upd4 (nG d - 1 - j) (nI 3)
      exact ⟨this.1, this.2.trans ih.2⟩
    · rw [(sv_n h).1]; exact ih
def savD (d : Nat → Int32) (st n : Nat) : Nat → Int32 := upd (svD d st n (nG d)) 444 (svD d st n (nG d) 444 + svC d st n (nG d))
def savR (d : Nat → Int32) (st n : Nat) : Int32 := svC d st n (nG d)
theorem sav_I {d : Nat → Int32} (hI : zI d) (st n : Nat) : zI (savD d st n) ∧ nG (savD d st n) = nG d := by
  have h := sv_I hI st n (nG d)
  have h2 := h.1.upd444 (svD d st n (nG d) 444 + svC d st n (nG d))
  exact ⟨h2.1, h2.2.trans h.2⟩
theorem sv_exit {g j : Nat} (hg : g ≤ 200) (hj : j ≤ g) (h : nI (g - j) - nI 1 < 0) : j = g := by
  rcases Nat.lt_or_ge j g with q | q
  · rw [pk_sub (show 1 ≤ g - j by omega)] at h
    exact absurd h (nI_pos (by omega))
  · omega
theorem sv_in {g j : Nat} (hj : j < g) : nI (g - j) - nI 1 = nI (g - 1 - j) := by
  rw [pk_sub (show 1 ≤ g - j by omega), show g - j - 1 = g - 1 - j by omega]
theorem sv_lt {g j : Nat} (hj : j ≤ g) (h : ¬ nI (g - j) - nI 1 < 0) : j < g := by
  rcases Nat.lt_or_ge j g with q | q
  · exact q
  · exfalso
    apply h
    rw [show g - j = 0 by omega]
    decide
def saS (d : Nat → Int32) : Nat → (Nat → Int32) × Int32
  | 0 => (d, nI 0)
  | k + 1 => (savD (saS d k).1 (k / 30) (k % 30), (saS d k).2 + savR (saS d k).1 (k / 30) (k % 30))
def saD (d : Nat → Int32) (k : Nat) : Nat → Int32 := (saS d k).1
def saC (d : Nat → Int32) (k : Nat) : Int32 := (saS d k).2
theorem sa_I {d : Nat → Int32} (hI : zI d) : ∀ k, zI (saD d k) ∧ nG (saD d k) = nG d
  | 0 => ⟨hI, rfl⟩
  | k + 1 => by
    have ih := sa_I hI k
    have h := sav_I ih.1 (k / 30) (k % 30)
    exact ⟨h.1, h.2.trans ih.2⟩
def caS (d : Nat → Int32) : Nat → (Nat → Int32) × Int32
  | 0 => (d, nI 0)
  | k + 1 => (calD (caS d k).1 k, (caS d k).2 + calR (caS d k).1 k)
def caD (d : Nat → Int32) (k : Nat) : Nat → Int32 := (caS d k).1
def caC (d : Nat → Int32) (k : Nat) : Int32 := (caS d k).2
theorem ca_I {d : Nat → Int32} (hI : zI d) : ∀ k, zI (caD d k) ∧ nG (caD d k) = nG d
  | 0 => ⟨hI, rfl⟩
  | k + 1 => by
    have ih := ca_I hI k
    have h := cal_I ih.1 k
    exact ⟨h.1, h.2.trans ih.2⟩
/-! the changes -/
def okCr (x z r h st no : Int32) : Bool := inB x (nI 0) (nI 15) && (inB z (nI 0) (nI 15) && (inB r (nI 1) (nI 8) && (inB h (nI 10) (nI 99) && (inB st (nI 0) (nI 3) && inB no (nI 1) (nI 9)))))
def hasP (d : Nat → Int32) (x z : Int32) (c : Nat) : Bool := decide (gr d c 0 = x) && decide (gr d c 1 = z)
def hasC (d : Nat → Int32) (x z : Int32) : Bool := (List.range (nC d)).any (hasP d x z)
def addC (d : Nat → Int32) (x z r h st no : Int32) : Nat → Int32 := upd (upd (upd (upd (upd (upd (upd d (4 + 6 * nC d) x) (4 + 6 * nC d + 1) z) (4 + 6 * nC d + 2) r) (4 + 6 * nC d + 3) h) (4 + 6 * nC d + 4) st) (4 + 6 * nC d + 5) no) 0 (nI (nC d) + nI 1)
def eCrane (d : Nat → Int32) (x z r h st no : Int32) : Int32 := if okCr x z r h st no = true then (if hasC d x z = true then (-1002) else (-1003)) else (-1001)
theorem zI.noise {d : Nat → Int32} (hI : zI d) (c : Nat) (hc : c < 8) (x : Int32) : zI (upd d (4 + 6 * c + 5) x) ∧ nG (upd d (4 + 6 * c + 5) x) = nG d := by
  have h := hI.keep (d' := upd d (4 + 6 * c + 5) x) (pk_un (by omega)) (pk_un (by omega)) (fun q _ => pm_far d (by omega)) (fun c' _ => gr_far d (by omega))
  exact ⟨h.1, h.2.1⟩
theorem zI.low {d : Nat → Int32} (hI : zI d) (k : Nat) (h1 : (1 ≤ k ∧ k ≤ 3) ∨ (52 ≤ k ∧ k < 442) ∨ k = 443) (x : Int32) : zI (upd d k x) ∧ nG (upd d k x) = nG d := by
  have h := hI.keep (d' := upd d k x) (pk_un (by omega)) (pk_un (by omega)) (fun q _ => pm_far d (by omega)) (fun c' _ => gr_far d (by omega))
  exact ⟨h.1, h.2.1⟩
def eIf (b : Bool) (v : Int32) : Int32 := if b = true then v else (-1001)
def okSet (w v : Int32) : Bool := if w = 0 then inB v (nI 50) (nI 150) else if w = nI 1 then inB v (nI 0) (nI 200) else if w = nI 2 then inB v (nI 0) (nI 50) else false
def okTr (a b n c : Int32) : Bool := inB a (nI 0) (nI 3) && (inB b (nI 0) (nI 3) && (!decide (a = b) && (inB n (nI 0) (nI 29) && inB c (nI 1) (nI 200))))
def freI (d : Nat → Int32) (a n : Nat) : Int32 := creI d a n - usedI d (nI a) (nI n)
def traD (d : Nat → Int32) (a b n : Nat) (c : Int32) : Nat → Int32 := upd (upd d (322 + (30 * a + n)) (d (322 + (30 * a + n)) + c)) (202 + (30 * b + n)) (upd d (322 + (30 * a + n)) (d (322 + (30 * a + n)) + c) (202 + (30 * b + n)) + c)
def graD (d : Nat → Int32) (c n : Nat) (h sw : Int32) : Nat → Int32 := upd (upd (upd (upd (upd (upd d (445 + 5 * nG d) (nI c)) (445 + 5 * nG d + 1) (nI n)) (445 + 5 * nG d + 2) h) (445 + 5 * nG d + 3) sw) (445 + 5 * nG d + 4) (nI 1)) 442 (nI (nG d) + nI 1)
def wdrD (d : Nat → Int32) (p : Nat) : Nat → Int32 := upd (upd d (445 + 5 * p + 4) (nI 2)) 443 (upd d (445 + 5 * p + 4) (nI 2) 443 + nI 1)
theorem inB_c {d : Nat → Int32} (hI : zI d) {c : Nat} (hc : c < nC d) : inB (nI c) (nI 0) (d 0 - nI 1) = true := by
  have h8 := hI.nc8
  rw [hI.nc, pk_sub (by omega)]
  exact inB_of (Nat.zero_le _) (by omega) (by omega)
theorem inB_g {d : Nat → Int32} (hI : zI d) {p : Nat} (hp : p < nG d) : inB (nI p) (nI 0) (d 442 - nI 1) = true := by
  have h8 := hI.ng2
  rw [hI.ng, pk_sub (by omega)]
  exact inB_of (Nat.zero_le _) (by omega) (by omega)
theorem wdr_I {d : Nat → Int32} (hI : zI d) (p : Nat) : zI (wdrD d p) ∧ nG (wdrD d p) = nG d := by
  have h := hI.upd4 p (nI 2)
  have h2 := h.1.low 443 (by omega) (upd d (445 + 5 * p + 4) (nI 2) 443 + nI 1)
  exact ⟨h2.1, h2.2.trans h.2⟩
theorem wdr_us {d : Nat → Int32} (hI : zI d) {p : Nat} (hp : p < nG d) : usI (wdrD d p) p = usI d p := by
  have g2 := hI.ng2
  have c8 := hI.pc8 hp
  have e1 : pm (wdrD d p) p 2 = pm d p 2 := (pm_far _ (by omega)).trans (pm_far d (by omega))
  have e0 : pm (wdrD d p) p 0 = pm d p 0 := (pm_far _ (by omega)).trans (pm_far d (by omega))
  have ec : pC (wdrD d p) p = pC d p := by unfold pC; rw [e0]
  unfold usI
  rw [e1, ec, show gr (wdrD d p) (pC d p) 5 = gr d (pC d p) 5 from (gr_far _ (by omega)).trans (gr_far d (by omega))]
def eApply (d : Nat → Int32) (c n h sw : Int32) : Int32 := if aplB d c n h sw = true then (if rfsI d (cl c) (cl n) h sw = nI 0 then (-1003) else (-1002)) else (-1001)
theorem rfs_le {d : Nat → Int32} {c n : Nat} {h sw : Int32} (hh : rfsI d c n h sw ≤ 0) : rfsI d c n h sw = nI 0 := by
  unfold rfsI at hh ⊢
  split at hh
  · exact absurd hh (by decide)
  · rename_i q1; rw [if_neg q1]
    split at hh
    · exact absurd hh (by decide)
    · rename_i q2; rw [if_neg q2]
      split at hh
      · rename_i q3; rw [if_pos q3]
        split at hh
        · rename_i q4; rw [if_pos q4]
        · exact absurd hh (by decide)
      · exact absurd hh (by decide)
