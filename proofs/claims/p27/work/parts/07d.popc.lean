/-! COUNTING BITS -/
theorem and_split {b m : Nat} (hb : b < 256) (hm : m < 256) (v w : Nat) : (b + 256 * v) &&& (m + 256 * w) = (b &&& m) + 256 * (v &&& w) := by
  have h1 : ((b + 256 * v) &&& (m + 256 * w)) % 2 ^ 8 = ((b + 256 * v) % 2 ^ 8) &&& ((m + 256 * w) % 2 ^ 8) := Nat.and_mod_two_pow
  have h2 : ((b + 256 * v) &&& (m + 256 * w)) / 2 ^ 8 = ((b + 256 * v) / 2 ^ 8) &&& ((m + 256 * w) / 2 ^ 8) := Nat.and_div_two_pow
  rw [show (b + 256 * v) % 2 ^ 8 = b by omega, show (m + 256 * w) % 2 ^ 8 = m by omega] at h1
  rw [show (b + 256 * v) / 2 ^ 8 = v by omega, show (m + 256 * w) / 2 ^ 8 = w by omega] at h2
  have h3 := Nat.mod_add_div ((b + 256 * v) &&& (m + 256 * w)) (2 ^ 8)
  rw [h1, h2] at h3
  exact h3.symm
def repM (m : Nat) : Nat → Nat
  | 0 => 0
  | k + 1 => m + 256 * repM m k
def p1 (k N : Nat) : Nat := N - (N / 2 &&& repM 85 k)
def p2 (k N : Nat) : Nat := (p1 k N &&& repM 51 k) + (p1 k N / 4 &&& repM 51 k)
def p3 (k N : Nat) : Nat := (p2 k N + p2 k N / 16) &&& repM 15 k
def e1 (b : Nat) : Nat := b - (b / 2 &&& 85)
def e2 (b : Nat) : Nat := (e1 b &&& 51) + (e1 b / 4 &&& 51)
def e3 (b : Nat) : Nat := (e2 b + e2 b / 16) &&& 15
theorem e1_lt : ∀ b, b < 256 → e1 b < 256 ∧ (b / 2 &&& 85) ≤ b := by decide +kernel
theorem e2_lt : ∀ b, b < 256 → e2 b ≤ 102 := by decide +kernel
theorem e3_bits : ∀ b, b < 256 → e3 b = b % 2 + b / 2 % 2 + b / 4 % 2 + b / 8 % 2 + b / 16 % 2 + b / 32 % 2 + b / 64 % 2 + b / 128 % 2 := by decide +kernel
theorem e3_le : ∀ b, b < 256 → e3 b ≤ 8 := by decide +kernel
theorem p1_s {k b v : Nat} (hb : b < 256) : p1 (k + 1) (b + 256 * v) = e1 b + 256 * p1 k v := by
  unfold p1 e1
  rw [show (b + 256 * v) / 2 = (b / 2 + 128 * (v % 2)) + 256 * (v / 2) by omega, repM, and_split (by omega) (by decide)]
  have h1 : ∀ b, b < 256 → ∀ e, e < 2 → (b / 2 + 128 * e) &&& 85 = b / 2 &&& 85 := by decide +kernel
  rw [h1 b hb (v % 2) (by omega)]
  have h2 := (e1_lt b hb).2
  have h3 : v / 2 &&& repM 85 k ≤ v := Nat.le_trans Nat.and_le_left (Nat.div_le_self _ _)
  omega
theorem p1_le (k N : Nat) : p1 k N ≤ N := Nat.sub_le _ _
theorem p2_s {k b v : Nat} (hb : b < 256) : p2 (k + 1) (b + 256 * v) = e2 b + 256 * p2 k v := by
  unfold p2 e2
  rw [p1_s hb]
  have h0 := (e1_lt b hb).1
  rw [show (e1 b + 256 * p1 k v) / 4 = (e1 b / 4 + 64 * (p1 k v % 4)) + 256 * (p1 k v / 4) by omega, repM, and_split h0 (by decide), and_split (by omega) (by decide)]
  have h1 : ∀ b, b < 256 → ∀ e, e < 4 → (b / 4 + 64 * e) &&& 51 = b / 4 &&& 51 := by decide +kernel
  rw [h1 _ h0 (p1 k v % 4) (by omega)]
  omega
theorem rep_16 : ∀ k, repM 51 k % 16 ≤ 3
  | 0 => by decide
  | k + 1 => by rw [repM]; omega
theorem and_16 (x y : Nat) (h : y % 16 ≤ 3) : (x &&& y) % 16 ≤ 3 := by
  have h1 : (x &&& y) % 2 ^ 4 = (x % 2 ^ 4) &&& (y % 2 ^ 4) := Nat.and_mod_two_pow
  have h2 : (x % 2 ^ 4) &&& (y % 2 ^ 4) ≤ y % 2 ^ 4 := Nat.and_le_right
  omega
theorem p2_16 (k N : Nat) : p2 k N % 16 ≤ 6 := by
  unfold p2
  have h1 := and_16 (p1 k N) _ (rep_16 k)
  have h2 := and_16 (p1 k N / 4) _ (rep_16 k)
  omega
theorem p3_s {k b v : Nat} (hb : b < 256) : p3 (k + 1) (b + 256 * v) = e3 b + 256 * p3 k v := by
  unfold p3 e3
  rw [p2_s hb]
  have h0 := e2_lt b hb
  have h6 := p2_16 k v
  rw [show e2 b + 256 * p2 k v + (e2 b + 256 * p2 k v) / 16 = (e2 b + e2 b / 16 + 16 * (p2 k v % 16)) + 256 * (p2 k v + p2 k v / 16) by omega, repM, and_split (by omega) (by decide)]
  have h1 : ∀ b, b < 103 → ∀ e, e < 7 → (b + b / 16 + 16 * e) &&& 15 = (b + b / 16) &&& 15 := by decide +kernel
  rw [h1 _ (by omega) (p2 k v % 16) (by omega)]
/-- the byte j of N -/
def byt (N j : Nat) : Nat := N / 256 ^ j % 256
/-- from the bytes' counts to their sum -/
def nu (a v : Nat) : Nat := a + 256 * v
theorem nu_div {a v : Nat} (h : a < 256) : nu a v / 256 = v := by unfold nu; omega
theorem nu_add (a b v w : Nat) : nu a v + nu b w = nu (a + b) (v + w) := by unfold nu; omega
theorem nu_lt {a v n : Nat} (h : a < 256) (hv : v < n) : nu a v < 256 * n := by unfold nu; omega
theorem p3_8 {N : Nat} : p3 8 N = nu (e3 (byt N 0)) (nu (e3 (byt N 1)) (nu (e3 (byt N 2)) (nu (e3 (byt N 3)) (nu (e3 (byt N 4)) (nu (e3 (byt N 5)) (nu (e3 (byt N 6)) (nu (e3 (byt N 7)) 0))))))) := by
  have st : ∀ k M, p3 (k + 1) M = e3 (M % 256) + 256 * p3 k (M / 256) := fun k M => by
    conv => lhs; rw [show M = M % 256 + 256 * (M / 256) by omega]
    exact p3_s (Nat.mod_lt _ (by decide))
  have z : ∀ M, p3 0 M = 0 := fun M => Nat.and_zero _
  unfold byt
  rw [st, st, st, st, st, st, st, st, z]
  simp only [Nat.div_div_eq_div_mul]
  simp only [Nat.reduceMul, Nat.reducePow, Nat.pow_zero, Nat.div_one]
  rfl
theorem bytes_sum {c0 c1 c2 c3 c4 c5 c6 c7 : Nat} (h0 : c0 ≤ 8) (h1 : c1 ≤ 8) (h2 : c2 ≤ 8) (h3 : c3 ≤ 8) (h4 : c4 ≤ 8) (h5 : c5 ≤ 8) (h6 : c6 ≤ 8) (h7 : c7 ≤ 8) {z z4 z5 z6 : Nat} (hz : z = nu c0 (nu c1 (nu c2 (nu c3 (nu c4 (nu c5 (nu c6 (nu c7 0)))))))) (e4 : z4 = z + z / 256) (e5 : z5 = z4 + z4 / 65536) (e6 : z6 = z5 + z5 / 4294967296) : z6 % 128 = c0 + c1 + c2 + c3 + c4 + c5 + c6 + c7 ∧ z4 < 18446744073709551616 ∧ z5 < 18446744073709551616 ∧ z6 < 18446744073709551616 := by
  have f4 : z4 = nu (c0 + c1) (nu (c1 + c2) (nu (c2 + c3) (nu (c3 + c4) (nu (c4 + c5) (nu (c5 + c6) (nu (c6 + c7) (nu c7 0))))))) := by
    rw [e4, hz, nu_div (by omega)]
    simp only [nu_add, Nat.add_zero]
  have g4 : z4 / 65536 = nu (c2 + c3) (nu (c3 + c4) (nu (c4 + c5) (nu (c5 + c6) (nu (c6 + c7) (nu c7 0))))) := by
    rw [show (65536 : Nat) = 256 * 256 from rfl, ← Nat.div_div_eq_div_mul, f4, nu_div (by omega), nu_div (by omega)]
  have f5 : z5 = nu (c0 + c1 + (c2 + c3)) (nu (c1 + c2 + (c3 + c4)) (nu (c2 + c3 + (c4 + c5)) (nu (c3 + c4 + (c5 + c6)) (nu (c4 + c5 + (c6 + c7)) (nu (c5 + c6 + c7) (nu (c6 + c7) (nu c7 0))))))) := by
    rw [e5, g4, f4]
    simp only [nu_add, Nat.add_zero]
  have g5 : z5 / 4294967296 = nu (c4 + c5 + (c6 + c7)) (nu (c5 + c6 + c7) (nu (c6 + c7) (nu c7 0))) := by
    rw [show (4294967296 : Nat) = 256 * 256 * 256 * 256 from rfl, ← Nat.div_div_eq_div_mul, ← Nat.div_div_eq_div_mul, ← Nat.div_div_eq_div_mul, f5, nu_div (by omega), nu_div (by omega), nu_div (by omega), nu_div (by omega)]
  have f6 : z6 = nu (c0 + c1 + (c2 + c3) + (c4 + c5 + (c6 + c7))) (nu (c1 + c2 + (c3 + c4) + (c5 + c6 + c7)) (nu (c2 + c3 + (c4 + c5) + (c6 + c7)) (nu (c3 + c4 + (c5 + c6) + c7) (nu (c4 + c5 + (c6 + c7)) (nu (c5 + c6 + c7) (nu (c6 + c7) (nu c7 0))))))) := by
    rw [e6, g5, f5]
    simp only [nu_add, Nat.add_zero]
  have L : ∀ {a b c d e f g h : Nat}, a < 256 → b < 256 → c < 256 → d < 256 → e < 256 → f < 256 → g < 256 → h < 256 → nu a (nu b (nu c (nu d (nu e (nu f (nu g (nu h 0))))))) < 18446744073709551616 := fun ha hb hc hd he hf hg hh => nu_lt (n := 72057594037927936) ha (nu_lt (n := 281474976710656) hb (nu_lt (n := 1099511627776) hc (nu_lt (n := 4294967296) hd (nu_lt (n := 16777216) he (nu_lt (n := 65536) hf (nu_lt (n := 256) hg (nu_lt (n := 1) hh (by decide))))))))
  refine ⟨?_, ?_, ?_, ?_⟩
  · rw [f6]
    generalize nu (c1 + c2 + (c3 + c4) + (c5 + c6 + c7)) _ = V
    unfold nu
    omega
  · rw [f4]; apply L <;> omega
  · rw [f5]; apply L <;> omega
  · rw [f6]; apply L <;> omega
def nv (x : Int64) : Nat := x.toBitVec.toNat
def us (x : Int64) (k : Int32) : Int64 := (x.toUInt64 >>> (k.toInt64.toUInt64 &&& Int64.toUInt64 63)).toInt64
theorem nv_lt (x : Int64) : nv x < 18446744073709551616 := x.toBitVec.isLt
theorem nv_us (x : Int64) (k : Nat) (hk : k < 64) : nv (us x (nI k)) = nv x / 2 ^ k := by
  have h0 : ∀ m, m < 64 → (((nI m).toInt64.toUInt64 &&& Int64.toUInt64 63) % 64).toBitVec.toNat = m := by decide
  unfold nv us
  show (x.toUInt64 >>> _).toBitVec.toNat = _
  rw [UInt64.toBitVec_shiftRight, BitVec.ushiftRight_eq', BitVec.toNat_ushiftRight, Nat.shiftRight_eq_div_pow]
  have := h0 k hk
  rw [UInt64.toBitVec_mod] at this
  have h2 : (((nI k).toInt64.toUInt64 &&& Int64.toUInt64 63).toBitVec % 64).toNat = k := this
  rw [h2]
  rfl
theorem nv_and (a b : Int64) : nv (a &&& b) = nv a &&& nv b := by unfold nv; rw [Int64.toBitVec_and, BitVec.toNat_and]
theorem nv_add {a b : Int64} (h : nv a + nv b < 18446744073709551616) : nv (a + b) = nv a + nv b := by
  unfold nv at *
  rw [Int64.toBitVec_add, BitVec.toNat_add]
  exact Nat.mod_eq_of_lt h
theorem nv_sub {a b : Int64} (h : nv b ≤ nv a) : nv (a - b) = nv a - nv b := by
  have ha := nv_lt a
  unfold nv at *
  rw [Int64.toBitVec_sub, BitVec.toNat_sub]
  omega
def q1 (x : Int64) : Int64 := x - (us x (nI 1) &&& 6148914691236517205)
def q2 (x : Int64) : Int64 := (q1 x &&& 3689348814741910323) + (us (q1 x) (nI 2) &&& 3689348814741910323)
def q3 (x : Int64) : Int64 := (q2 x + us (q2 x) (nI 4)) &&& 1085102592571150095
def q4 (x : Int64) : Int64 := q3 x + us (q3 x) (nI 8)
def q5 (x : Int64) : Int64 := q4 x + us (q4 x) (nI 16)
def q6 (x : Int64) : Int64 := q5 x + us (q5 x) (nI 32)
theorem nv_q1 (x : Int64) : nv (q1 x) = p1 8 (nv x) := by
  have h : nv (us x (nI 1) &&& 6148914691236517205) = nv x / 2 &&& repM 85 8 := by
    rw [nv_and, nv_us x 1 (by decide)]
    rfl
  unfold q1
  rw [nv_sub (by rw [h]; exact Nat.le_trans Nat.and_le_left (Nat.div_le_self _ _)), h]
  rfl
theorem nv_q2 (x : Int64) : nv (q2 x) = p2 8 (nv x) := by
  have h1 : nv (q1 x &&& 3689348814741910323) = p1 8 (nv x) &&& repM 51 8 := by rw [nv_and, nv_q1]; rfl
  have h2 : nv (us (q1 x) (nI 2) &&& 3689348814741910323) = p1 8 (nv x) / 4 &&& repM 51 8 := by rw [nv_and, nv_us _ 2 (by decide), nv_q1]; rfl
  have b1 : p1 8 (nv x) &&& repM 51 8 ≤ repM 51 8 := Nat.and_le_right
  have b2 : p1 8 (nv x) / 4 &&& repM 51 8 ≤ repM 51 8 := Nat.and_le_right
  have b3 : repM 51 8 + repM 51 8 < 18446744073709551616 := by decide
  unfold q2
  rw [nv_add (by rw [h1, h2]; omega), h1, h2]
  rfl
theorem p2_le (N : Nat) : p2 8 N ≤ 7378697629483820646 := by
  have b1 : p1 8 N &&& repM 51 8 ≤ repM 51 8 := Nat.and_le_right
  have b2 : p1 8 N / 4 &&& repM 51 8 ≤ repM 51 8 := Nat.and_le_right
  have b3 : repM 51 8 = 3689348814741910323 := by decide
  unfold p2
  omega
theorem nv_q3 (x : Int64) : nv (q3 x) = p3 8 (nv x) := by
  have h2 := p2_le (nv x)
  unfold q3
  rw [nv_and, nv_add (by rw [nv_us _ 4 (by decide), nv_q2]; omega), nv_us _ 4 (by decide), nv_q2]
  rfl
theorem byt_lt (N j : Nat) : byt N j < 256 := Nat.mod_lt _ (by decide)
theorem nv_q6 (x : Int64) : nv (q6 x) % 128 = e3 (byt (nv x) 0) + e3 (byt (nv x) 1) + e3 (byt (nv x) 2) + e3 (byt (nv x) 3) + e3 (byt (nv x) 4) + e3 (byt (nv x) 5) + e3 (byt (nv x) 6) + e3 (byt (nv x) 7) := by
  have L := fun j => e3_le _ (byt_lt (nv x) j)
  obtain ⟨r, l4, l5, l6⟩ := bytes_sum (L 0) (L 1) (L 2) (L 3) (L 4) (L 5) (L 6) (L 7) (p3_8 (N := nv x)) rfl rfl rfl
  rw [← r]
  have k4 : nv (q4 x) = p3 8 (nv x) + p3 8 (nv x) / 256 := by
    have e : nv (us (q3 x) (nI 8)) = p3 8 (nv x) / 256 := by rw [nv_us _ 8 (by decide), nv_q3]
    unfold q4
    rw [nv_add (by rw [e, nv_q3]; exact l4), e, nv_q3]
  have k5 : nv (q5 x) = p3 8 (nv x) + p3 8 (nv x) / 256 + (p3 8 (nv x) + p3 8 (nv x) / 256) / 65536 := by
    have e : nv (us (q4 x) (nI 16)) = (p3 8 (nv x) + p3 8 (nv x) / 256) / 65536 := by rw [nv_us _ 16 (by decide), k4]
    unfold q5
    rw [nv_add (by rw [e, k4]; exact l5), e, k4]
  have e : nv (us (q5 x) (nI 32)) = (p3 8 (nv x) + p3 8 (nv x) / 256 + (p3 8 (nv x) + p3 8 (nv x) / 256) / 65536) / 4294967296 := by rw [nv_us _ 32 (by decide), k5]
  unfold q6
  rw [nv_add (by rw [e, k5]; exact l6), e, k5]
def bitN (N k : Nat) : Nat := N / 2 ^ k % 2
theorem byt_bit (N j : Nat) : e3 (byt N j) = bitN N (8 * j) + bitN N (8 * j + 1) + bitN N (8 * j + 2) + bitN N (8 * j + 3) + bitN N (8 * j + 4) + bitN N (8 * j + 5) + bitN N (8 * j + 6) + bitN N (8 * j + 7) := by
  rw [e3_bits _ (byt_lt N j)]
  have h : ∀ i, N / 2 ^ (8 * j + i) = N / 256 ^ j / 2 ^ i := fun i => by
    rw [Nat.pow_add, Nat.pow_mul, Nat.div_div_eq_div_mul]
  unfold bitN
  rw [h 1, h 2, h 3, h 4, h 5, h 6, h 7, show 8 * j = 8 * j + 0 from rfl, h 0]
  unfold byt
  generalize N / 256 ^ j = M
  omega
def sumT (f : Nat → Nat) : Nat → Nat
  | 0 => 0
  | n + 1 => sumT f n + f n
theorem sumN_T (f : Nat → Nat) : ∀ n, sumN (fun k => nI (f k)) n = nI (sumT f n)
  | 0 => rfl
  | n + 1 => by rw [sumN_s, sumN_T f n, nI_add]; rfl
def pcL (x : Int64) : Int32 := sumN (fun k => if bL x k = true then nI 1 else nI 0) 64
theorem bL_bit2 (x : Int64) (k : Nat) : (if bL x k = true then nI 1 else nI 0) = nI (bitN (nv x) k) := by
  have h : bL x k = decide (bitN (nv x) k = 1) := by
    unfold bL bitN nv
    rw [BitVec.getLsbD, Nat.testBit_eq_decide_div_mod_eq]
  rw [h]
  have h2 : bitN (nv x) k < 2 := Nat.mod_lt _ (by decide)
  by_cases q : bitN (nv x) k = 1
  · rw [decide_eq_true q, if_pos rfl, q]
  · rw [decide_eq_false q, if_neg Bool.false_ne_true, show bitN (nv x) k = 0 by omega]
theorem pop_e (x : Int64) : (q6 x).toInt32 &&& nI 127 = pcL x := by
  unfold pcL
  rw [sumN_cong (fun k _ => bL_bit2 x k), sumN_T, pk_and _ 7 (by decide)]
  congr 1
  have h : (q6 x).toInt32.toBitVec.toNat % 2 ^ 7 = nv (q6 x) % 128 := by
    unfold nv
    rw [Int64.toBitVec_toInt32, BitVec.signExtend_eq_setWidth_of_le _ (by decide), BitVec.toNat_setWidth]
    omega
  rw [h, nv_q6, byt_bit, byt_bit, byt_bit, byt_bit, byt_bit, byt_bit, byt_bit, byt_bit]
  simp only [sumT, Nat.reduceMul, Nat.reduceAdd, Nat.zero_add]
  omega
theorem sumN_app (f : Nat → Int32) (m : Nat) : ∀ n, sumN f (m + n) = sumN f m + sumN (fun k => f (m + k)) n
  | 0 => (add_z _).symm
  | n + 1 => by rw [show m + (n + 1) = (m + n) + 1 from rfl, sumN_s, sumN_s, sumN_app f m n, Int32.add_assoc]
theorem are_s {d : Nat → Int32} {c : Nat} {sw : Int32} (hsw : swW sw) {u : Nat} (hu : u < 4) : sumN (areF d c sw) (64 * (u + 1)) = sumN (areF d c sw) (64 * u) + pcL (airS (eiF d c) sw u 8) := by
  rw [show 64 * (u + 1) = 64 * u + 64 by omega, sumN_app]
  have e : sumN (fun k => areF d c sw (64 * u + k)) 64 = pcL (airS (eiF d c) sw u 8) := by
    unfold pcL
    exact sumN_cong (fun k hk => by rw [cov_bit hsw hu hk]; rfl)
  rw [e]
