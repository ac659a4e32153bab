/-! ===== how many bits of a long are set ===== -/
def popN (x : Nat) : Nat → Nat
  | 0 => 0
  | n + 1 => popN x n + x / 2 ^ n % 2
def rep (m : Nat) : Nat → Nat
  | 0 => 0
  | n + 1 => m + 256 * rep m n
theorem and_256 {q r M m : Nat} (hr : r < 256) (hm : m < 256) : (256 * q + r) &&& (m + 256 * M) = 256 * (q &&& M) + (r &&& m) := by
  have h1 : ((256 * q + r) &&& (m + 256 * M)) / 2 ^ 8 = q &&& M := by
    rw [Nat.and_div_two_pow]
    congr 1 <;> omega
  have h2 : ((256 * q + r) &&& (m + 256 * M)) % 2 ^ 8 = r &&& m := by
    rw [Nat.and_mod_two_pow]
    congr 1 <;> omega
  omega
def S1 (n x : Nat) : Nat := x - ((x / 2) &&& rep 85 n)
def S2 (n y : Nat) : Nat := (y &&& rep 51 n) + ((y / 4) &&& rep 51 n)
def S3 (n z : Nat) : Nat := (z + z / 16) &&& rep 15 n
def g1' (r : Nat) : Nat := r - ((r / 2) &&& 85)
def g2' (r : Nat) : Nat := (r &&& 51) + ((r / 4) &&& 51)
def g3' (r : Nat) : Nat := (r + r / 16) &&& 15
theorem d1 : ∀ r : Fin 256, ∀ b : Fin 2, (128 * b.val + r.val / 2) &&& 85 = (r.val / 2) &&& 85 ∧ (r.val / 2) &&& 85 ≤ r.val := by decide +kernel
theorem d2 : ∀ r : Fin 256, ∀ b : Fin 4, (64 * b.val + r.val / 4) &&& 51 = (r.val / 4) &&& 51 := by decide +kernel
theorem d3 : ∀ r : Fin 256, ∀ c : Fin 5, (16 * c.val + g2' (g1' r.val) + g2' (g1' r.val) / 16) &&& 15 = g3' (g2' (g1' r.val)) ∧ 16 * c.val + g2' (g1' r.val) + g2' (g1' r.val) / 16 < 256 := by decide +kernel
theorem d4 : ∀ r : Fin 256, g1' r.val < 256 ∧ g2' (g1' r.val) < 256 ∧ g2' (g1' r.val) % 16 ≤ 4 ∧ g3' (g2' (g1' r.val)) = popN r.val 8 ∧ popN r.val 8 ≤ 8 := by decide +kernel
theorem S1_st {n q r : Nat} (hr : r < 256) : S1 (n + 1) (256 * q + r) = 256 * S1 n q + g1' r := by
  have e : (256 * q + r) / 2 = 256 * (q / 2) + (128 * (q % 2) + r / 2) := by omega
  obtain ⟨h1, h2⟩ := d1 ⟨r, hr⟩ ⟨q % 2, by omega⟩
  have h3 : (q / 2) &&& rep 85 n ≤ q := Nat.le_trans Nat.and_le_left (by omega)
  unfold S1 g1'
  show 256 * q + r - ((256 * q + r) / 2 &&& (85 + 256 * rep 85 n)) = _
  rw [e, and_256 (by omega) (by omega)]
  have h4 : (128 * (q % 2) + r / 2) &&& 85 = (r / 2) &&& 85 := h1
  have h5 : (r / 2) &&& 85 ≤ r := h2
  rw [h4]
  omega
theorem S2_st {n q r : Nat} (hr : r < 256) : S2 (n + 1) (256 * q + r) = 256 * S2 n q + g2' r := by
  have e : (256 * q + r) / 4 = 256 * (q / 4) + (64 * (q % 4) + r / 4) := by omega
  have h1 : (64 * (q % 4) + r / 4) &&& 51 = (r / 4) &&& 51 := d2 ⟨r, hr⟩ ⟨q % 4, by omega⟩
  unfold S2 g2'
  show ((256 * q + r) &&& (51 + 256 * rep 51 n)) + ((256 * q + r) / 4 &&& (51 + 256 * rep 51 n)) = _
  rw [e, and_256 (by omega) (by omega), and_256 (by omega) (by omega), h1]
  omega
theorem S2_lo : ∀ (n x : Nat), S2 n (S1 n x) % 16 ≤ 4
  | 0, x => by
    show ((S1 0 x &&& 0) + ((S1 0 x / 4) &&& 0)) % 16 ≤ 4
    rw [Nat.and_zero, Nat.and_zero]
    omega
  | n + 1, x => by
    have hd := d4 ⟨x % 256, by omega⟩
    have e : x = 256 * (x / 256) + x % 256 := by omega
    rw [e, S1_st (by omega), S2_st hd.1]
    have := hd.2.2.1
    omega
def TTb (n x : Nat) : Nat := S3 n (S2 n (S1 n x))
theorem TTb_st {n q r : Nat} (hr : r < 256) : TTb (n + 1) (256 * q + r) = 256 * TTb n q + popN r 8 := by
  have hd := d4 ⟨r, hr⟩
  have hl := S2_lo n q
  unfold TTb
  rw [S1_st hr, S2_st hd.1]
  generalize S2 n (S1 n q) = u at hl ⊢
  obtain ⟨h1, h2⟩ := d3 ⟨r, hr⟩ ⟨u % 16, by omega⟩
  have h1' : (16 * (u % 16) + g2' (g1' r) + g2' (g1' r) / 16) &&& 15 = g3' (g2' (g1' r)) := h1
  have h2' : 16 * (u % 16) + g2' (g1' r) + g2' (g1' r) / 16 < 256 := h2
  have h3' : g3' (g2' (g1' r)) = popN r 8 := hd.2.2.2.1
  have hv : g2' (g1' r) < 256 := hd.2.1
  unfold S3
  show (256 * u + g2' (g1' r) + (256 * u + g2' (g1' r)) / 16) &&& (15 + 256 * rep 15 n) = _
  have e : 256 * u + g2' (g1' r) + (256 * u + g2' (g1' r)) / 16 = 256 * (u + u / 16) + (16 * (u % 16) + g2' (g1' r) + g2' (g1' r) / 16) := by omega
  rw [e, and_256 h2' (by omega), h1', h3']
theorem popN_8 {x : Nat} : popN x 8 = popN (x % 256) 8 := by
  have e : ∀ i, i < 8 → x / 2 ^ i % 2 = x % 256 / 2 ^ i % 2 := by
    intro i hi
    have : i = 0 ∨ i = 1 ∨ i = 2 ∨ i = 3 ∨ i = 4 ∨ i = 5 ∨ i = 6 ∨ i = 7 := by omega
    rcases this with rfl | rfl | rfl | rfl | rfl | rfl | rfl | rfl <;> simp <;> omega
  have h : ∀ n, n ≤ 8 → popN x n = popN (x % 256) n := by
    intro n
    induction n with
    | zero => intro _; rfl
    | succ n ih =>
      intro hn
      show popN x n + x / 2 ^ n % 2 = popN (x % 256) n + x % 256 / 2 ^ n % 2
      rw [ih (by omega), e n (by omega)]
  exact h 8 (by omega)
theorem popN_st {x : Nat} : ∀ m : Nat, popN x (8 + m) = popN (x % 256) 8 + popN (x / 256) m
  | 0 => by
    show popN x 8 = popN (x % 256) 8 + 0
    rw [Nat.add_zero]
    exact popN_8
  | m + 1 => by
    have ih := popN_st (x := x) m
    show popN x (8 + m) + x / 2 ^ (8 + m) % 2 = popN (x % 256) 8 + (popN (x / 256) m + x / 256 / 2 ^ m % 2)
    have e : x / 2 ^ (8 + m) = x / 256 / 2 ^ m := by
      rw [Nat.pow_add, ← Nat.div_div_eq_div_mul]
    rw [ih, e]
    omega
theorem popN_k {x m k : Nat} (h : k = 8 + m) : popN x k = popN (x % 256) 8 + popN (x / 256) m := by
  rw [h]
  exact popN_st m
theorem TTb_8 {x : Nat} {n : Nat} : TTb (n + 1) x = 256 * TTb n (x / 256) + popN (x % 256) 8 := by
  have e : x = 256 * (x / 256) + x % 256 := by omega
  have h := TTb_st (n := n) (q := x / 256) (r := x % 256) (by omega)
  rw [← e] at h
  exact h
theorem lin1 {p0 p1 p2 p3 p4 p5 p6 p7 : Nat} : p0 + 256 * (p1 + 256 * (p2 + 256 * (p3 + 256 * (p4 + 256 * (p5 + 256 * (p6 + 256 * p7)))))) + (p1 + 256 * (p2 + 256 * (p3 + 256 * (p4 + 256 * (p5 + 256 * (p6 + 256 * p7)))))) = (p0 + p1 + 256 * (p1 + p2)) + 65536 * (p2 + p3 + 256 * (p3 + p4 + 256 * (p4 + p5 + 256 * (p5 + p6 + 256 * (p6 + p7 + 256 * p7))))) := by omega
theorem lin2 {p0 p1 p2 p3 p4 p5 p6 p7 : Nat} : (p0 + p1 + 256 * (p1 + p2)) + 65536 * (p2 + p3 + 256 * (p3 + p4 + 256 * (p4 + p5 + 256 * (p5 + p6 + 256 * (p6 + p7 + 256 * p7))))) + (p2 + p3 + 256 * (p3 + p4 + 256 * (p4 + p5 + 256 * (p5 + p6 + 256 * (p6 + p7 + 256 * p7))))) = (p0 + p1 + p2 + p3 + 256 * (p1 + p2 + p3 + p4) + 65536 * (p2 + p3 + p4 + p5) + 16777216 * (p3 + p4 + p5 + p6)) + 4294967296 * (p4 + p5 + p6 + p7 + 256 * (p5 + p6 + p7 + 256 * (p6 + p7 + 256 * p7))) := by omega
theorem lin3 {p0 p1 p2 p3 p4 p5 p6 p7 : Nat} : (p0 + p1 + p2 + p3 + 256 * (p1 + p2 + p3 + p4) + 65536 * (p2 + p3 + p4 + p5) + 16777216 * (p3 + p4 + p5 + p6)) + 4294967296 * (p4 + p5 + p6 + p7 + 256 * (p5 + p6 + p7 + 256 * (p6 + p7 + 256 * p7))) + (p4 + p5 + p6 + p7 + 256 * (p5 + p6 + p7 + 256 * (p6 + p7 + 256 * p7))) = 128 * (2 * (p1 + p2 + p3 + p4) + 512 * (p2 + p3 + p4 + p5) + 131072 * (p3 + p4 + p5 + p6) + 33554432 * (p4 + p5 + p6 + p7 + 256 * (p5 + p6 + p7 + 256 * (p6 + p7 + 256 * p7))) + 2 * (p5 + p6 + p7 + 256 * (p6 + p7 + 256 * p7))) + (p0 + (p1 + (p2 + (p3 + (p4 + (p5 + (p6 + p7))))))) := by omega
theorem pop_lin {p0 p1 p2 p3 p4 p5 p6 p7 a b c : Nat} (b0 : p0 ≤ 8) (b1 : p1 ≤ 8) (b2 : p2 ≤ 8) (b3 : p3 ≤ 8) (b4 : p4 ≤ 8) (b5 : p5 ≤ 8) (b6 : p6 ≤ 8) (b7 : p7 ≤ 8) (ha : a = p0 + 256 * (p1 + 256 * (p2 + 256 * (p3 + 256 * (p4 + 256 * (p5 + 256 * (p6 + 256 * p7))))))) (hb : b = a + a / 256) (hc : c = b + b / 65536) : (c + c / 4294967296) % 128 = p0 + (p1 + (p2 + (p3 + (p4 + (p5 + (p6 + p7)))))) := by
  have k1 : p0 < 256 := by clear ha hb hc; omega
  have k2 : p0 + p1 + 256 * (p1 + p2) < 65536 := by clear ha hb hc; omega
  have k3 : p0 + p1 + p2 + p3 + 256 * (p1 + p2 + p3 + p4) + 65536 * (p2 + p3 + p4 + p5) + 16777216 * (p3 + p4 + p5 + p6) < 4294967296 := by clear ha hb hc; omega
  have k4 : p0 + (p1 + (p2 + (p3 + (p4 + (p5 + (p6 + p7)))))) < 128 := by clear ha hb hc; omega
  rw [ha, Nat.add_mul_div_left _ _ (by decide), Nat.div_eq_of_lt k1, Nat.zero_add, lin1] at hb
  rw [hb, Nat.add_mul_div_left _ _ (by decide), Nat.div_eq_of_lt k2, Nat.zero_add, lin2] at hc
  rw [hc, Nat.add_mul_div_left _ _ (by decide), Nat.div_eq_of_lt k3, Nat.zero_add, lin3, Nat.mul_add_mod]
  exact Nat.mod_eq_of_lt k4
theorem pop_all {x : Nat} : (let a := TTb 8 x; let b := a + a / 256; let c := b + b / 65536; (c + c / 4294967296) % 128) = popN x 64 ∧ TTb 8 x < 1085102592571150096 := by
  have p8 : ∀ y : Nat, popN (y % 256) 8 ≤ 8 := fun y => (d4 ⟨y % 256, by omega⟩).2.2.2.2
  have e0 : popN x 64 = popN (x % 256) 8 + popN (x / 256) 56 := popN_k (by decide)
  have e1 : popN (x / 256) 56 = popN (x / 256 % 256) 8 + popN (x / 256 / 256) 48 := popN_k (by decide)
  have e2 : popN (x / 256 / 256) 48 = popN (x / 256 / 256 % 256) 8 + popN (x / 256 / 256 / 256) 40 := popN_k (by decide)
  have e3 : popN (x / 256 / 256 / 256) 40 = popN (x / 256 / 256 / 256 % 256) 8 + popN (x / 256 / 256 / 256 / 256) 32 := popN_k (by decide)
  have e4 : popN (x / 256 / 256 / 256 / 256) 32 = popN (x / 256 / 256 / 256 / 256 % 256) 8 + popN (x / 256 / 256 / 256 / 256 / 256) 24 := popN_k (by decide)
  have e5 : popN (x / 256 / 256 / 256 / 256 / 256) 24 = popN (x / 256 / 256 / 256 / 256 / 256 % 256) 8 + popN (x / 256 / 256 / 256 / 256 / 256 / 256) 16 := popN_k (by decide)
  have e6 : popN (x / 256 / 256 / 256 / 256 / 256 / 256) 16 = popN (x / 256 / 256 / 256 / 256 / 256 / 256 % 256) 8 + popN (x / 256 / 256 / 256 / 256 / 256 / 256 / 256) 8 := popN_k (by decide)
  have e7 : popN (x / 256 / 256 / 256 / 256 / 256 / 256 / 256) 8 = popN (x / 256 / 256 / 256 / 256 / 256 / 256 / 256 % 256) 8 := popN_8
  have t0 : TTb 0 (x / 256 / 256 / 256 / 256 / 256 / 256 / 256 / 256) = 0 := by
    show (_ &&& 0) = 0
    exact Nat.and_zero _
  have t8 : TTb 8 x = popN (x % 256) 8 + 256 * (popN (x / 256 % 256) 8 + 256 * (popN (x / 256 / 256 % 256) 8 + 256 * (popN (x / 256 / 256 / 256 % 256) 8 + 256 * (popN (x / 256 / 256 / 256 / 256 % 256) 8 + 256 * (popN (x / 256 / 256 / 256 / 256 / 256 % 256) 8 + 256 * (popN (x / 256 / 256 / 256 / 256 / 256 / 256 % 256) 8 + 256 * (popN (x / 256 / 256 / 256 / 256 / 256 / 256 / 256 % 256) 8))))))) := by
    rw [TTb_8, TTb_8, TTb_8, TTb_8, TTb_8, TTb_8, TTb_8, TTb_8, t0]
    omega
  have b0 := p8 x
  have b1 := p8 (x / 256)
  have b2 := p8 (x / 256 / 256)
  have b3 := p8 (x / 256 / 256 / 256)
  have b4 := p8 (x / 256 / 256 / 256 / 256)
  have b5 := p8 (x / 256 / 256 / 256 / 256 / 256)
  have b6 := p8 (x / 256 / 256 / 256 / 256 / 256 / 256)
  have b7 := p8 (x / 256 / 256 / 256 / 256 / 256 / 256 / 256)
  rw [e0, e1, e2, e3, e4, e5, e6, e7, t8]
  generalize popN (x % 256) 8 = p0 at *
  generalize popN (x / 256 % 256) 8 = p1 at *
  generalize popN (x / 256 / 256 % 256) 8 = p2 at *
  generalize popN (x / 256 / 256 / 256 % 256) 8 = p3 at *
  generalize popN (x / 256 / 256 / 256 / 256 % 256) 8 = p4 at *
  generalize popN (x / 256 / 256 / 256 / 256 / 256 % 256) 8 = p5 at *
  generalize popN (x / 256 / 256 / 256 / 256 / 256 / 256 % 256) 8 = p6 at *
  generalize popN (x / 256 / 256 / 256 / 256 / 256 / 256 / 256 % 256) 8 = p7 at *
  clear e0 e1 e2 e3 e4 e5 e6 e7 t0 t8 p8
  refine ⟨?_, by omega⟩
  exact pop_lin b0 b1 b2 b3 b4 b5 b6 b7 rfl rfl rfl
theorem popN_B {x : Int64} : ∀ n : Nat, cntF (B x) n = (popN x.toBitVec.toNat n : Int)
  | 0 => rfl
  | n + 1 => by
    have ih := popN_B (x := x) n
    show cntF (B x) n + (if B x n = true then 1 else 0) = ((popN x.toBitVec.toNat n + x.toBitVec.toNat / 2 ^ n % 2 : Nat) : Int)
    have e : B x n = decide (x.toBitVec.toNat / 2 ^ n % 2 = 1) := by
      unfold B
      rw [Int.toNat_natCast]
      show x.toBitVec.toNat.testBit n = _
      rw [Nat.testBit_eq_decide_div_mod_eq]
    rw [ih, e]
    by_cases h : x.toBitVec.toNat / 2 ^ n % 2 = 1
    · rw [decide_eq_true h, if_pos rfl, h]
      omega
    · rw [decide_eq_false h, if_neg (by decide), show x.toBitVec.toNat / 2 ^ n % 2 = 0 by omega]
      omega
/-- a long as a natural number -/
def nL (x : Int64) : Nat := x.toBitVec.toNat
theorem nL_and {x : Int64} {m : Nat} (h : m < 2 ^ 64) : nL (x &&& Int64.ofNat m) = nL x &&& m := by
  unfold nL
  rw [Int64.toBitVec_and, BitVec.toNat_and]
  congr 1
  show (BitVec.ofNat 64 m).toNat = m
  rw [BitVec.toNat_ofNat, Nat.mod_eq_of_lt h]
theorem nL_add {x y : Int64} (h : nL x + nL y < 2 ^ 64) : nL (x + y) = nL x + nL y := by
  unfold nL at *
  rw [Int64.toBitVec_add, BitVec.toNat_add, Nat.mod_eq_of_lt h]
theorem nL_sub {x y : Int64} (h : nL y ≤ nL x) : nL (x - y) = nL x - nL y := by
  unfold nL at *
  rw [Int64.toBitVec_sub, BitVec.toNat_sub_of_le (by rw [BitVec.le_def]; exact h)]
theorem us_amt : ∀ n : Fin 64, ((iI (n.val : Int)).toInt64.toUInt64 &&& Int64.toUInt64 63).toNat % 64 = n.val := by decide +kernel
theorem nL_ushr {x : Int64} {k : Nat} (h : k < 64) : nL (ushrL x (k : Int)) = nL x / 2 ^ k := by
  unfold nL ushrL
  have e := us_amt ⟨k, h⟩
  show (x.toUInt64 >>> ((iI (k : Int)).toInt64.toUInt64 &&& Int64.toUInt64 63)).toNat = _
  rw [UInt64.toNat_shiftRight, e, Nat.shiftRight_eq_div_pow]
  rfl
theorem nL_lt {x : Int64} : nL x < 2 ^ 64 := x.toBitVec.isLt
theorem and127 {v : Int64} : andZ (l2iZ v) 127 = ((nL v % 128 : Nat) : Int) := by
  unfold andZ l2iZ
  rw [show iI (v.toInt32.toInt) = v.toInt32 from Int32.ofInt_toInt _]
  have e : (v.toInt32 &&& iI 127).toBitVec.toNat = nL v % 128 := by
    rw [Int32.toBitVec_and, BitVec.toNat_and]
    rw [Int64.toBitVec_toInt32, BitVec.signExtend_eq_setWidth_of_le _ (by decide), BitVec.toNat_setWidth]
    show v.toBitVec.toNat % 2 ^ 32 &&& 127 = _
    rw [show (127 : Nat) = 2 ^ 7 - 1 from rfl, Nat.and_two_pow_sub_one_eq_mod]
    unfold nL
    omega
  show (v.toInt32 &&& iI 127).toBitVec.toInt = _
  rw [BitVec.toInt_eq_toNat_of_lt (by rw [e]; omega), e]
/-- the sum as it is made -/
def bcL (x : Int64) : Int :=
  let a := x - (ushrL x 1 &&& Int64.ofNat 6148914691236517205)
  let b := (a &&& Int64.ofNat 3689348814741910323) + (ushrL a 2 &&& Int64.ofNat 3689348814741910323)
  let c := (b + ushrL b 4) &&& Int64.ofNat 1085102592571150095
  let e := c + ushrL c 8
  let f := e + ushrL e 16
  let g := f + ushrL f 32
  andZ (l2iZ g) 127
theorem rep_vals : rep 85 8 = 6148914691236517205 ∧ rep 51 8 = 3689348814741910323 ∧ rep 15 8 = 1085102592571150095 := by decide +kernel
theorem bcL_eq {x : Int64} : bcL x = cntF (B x) 64 := by
  obtain ⟨v1, v2, v3⟩ := rep_vals
  have u : ∀ (y : Int64) (k : Nat), k < 64 → nL (ushrL y (k : Int)) = nL y / 2 ^ k := fun y k h => nL_ushr h
  have lx := nL_lt (x := x)
  unfold bcL
  show andZ (l2iZ _) 127 = _
  have ea : nL (x - (ushrL x 1 &&& Int64.ofNat 6148914691236517205)) = S1 8 (nL x) := by
    have h1 : nL (ushrL x 1 &&& Int64.ofNat 6148914691236517205) = (nL x / 2) &&& 6148914691236517205 := by
      rw [nL_and (by decide), show nL (ushrL x 1) = nL x / 2 from u x 1 (by decide)]
    rw [nL_sub (by rw [h1]; exact Nat.le_trans Nat.and_le_left (Nat.div_le_self _ _)), h1]
    unfold S1
    rw [v1]
  generalize x - (ushrL x 1 &&& Int64.ofNat 6148914691236517205) = a at ea ⊢
  have eb : nL ((a &&& Int64.ofNat 3689348814741910323) + (ushrL a 2 &&& Int64.ofNat 3689348814741910323)) = S2 8 (S1 8 (nL x)) := by
    have h1 : nL (a &&& Int64.ofNat 3689348814741910323) = nL a &&& 3689348814741910323 := nL_and (by decide)
    have h2 : nL (ushrL a 2 &&& Int64.ofNat 3689348814741910323) = (nL a / 4) &&& 3689348814741910323 := by
      rw [nL_and (by decide), show nL (ushrL a 2) = nL a / 4 from u a 2 (by decide)]
    have h3 : nL a &&& 3689348814741910323 ≤ 3689348814741910323 := Nat.and_le_right
    have h4 : (nL a / 4) &&& 3689348814741910323 ≤ 3689348814741910323 := Nat.and_le_right
    rw [nL_add (by rw [h1, h2]; omega), h1, h2, ea]
    unfold S2
    rw [v2]
  have lb : nL ((a &&& Int64.ofNat 3689348814741910323) + (ushrL a 2 &&& Int64.ofNat 3689348814741910323)) ≤ 7378697629483820646 := by
    rw [eb]
    unfold S2
    rw [v2]
    have h3 : S1 8 (nL x) &&& 3689348814741910323 ≤ 3689348814741910323 := Nat.and_le_right
    have h4 : (S1 8 (nL x) / 4) &&& 3689348814741910323 ≤ 3689348814741910323 := Nat.and_le_right
    omega
  generalize (a &&& Int64.ofNat 3689348814741910323) + (ushrL a 2 &&& Int64.ofNat 3689348814741910323) = b at eb lb ⊢
  have ec : nL ((b + ushrL b 4) &&& Int64.ofNat 1085102592571150095) = TTb 8 (nL x) := by
    have h1 : nL (ushrL b 4) = nL b / 16 := u b 4 (by decide)
    rw [nL_and (by decide), nL_add (by rw [h1]; omega), h1, eb]
    unfold TTb S3
    rw [v3]
  obtain ⟨hp, hlt⟩ := pop_all (x := nL x)
  rw [← ec] at hp hlt
  generalize (b + ushrL b 4) &&& Int64.ofNat 1085102592571150095 = c at hp hlt ⊢
  have e8 : nL (c + ushrL c 8) = nL c + nL c / 256 := by
    have h1 : nL (ushrL c 8) = nL c / 256 := u c 8 (by decide)
    rw [nL_add (by rw [h1]; omega), h1]
  have l8 : nL (c + ushrL c 8) < 2 ^ 61 := by rw [e8]; omega
  have e16 : nL (c + ushrL c 8 + ushrL (c + ushrL c 8) 16) = nL (c + ushrL c 8) + nL (c + ushrL c 8) / 65536 := by
    have h1 : nL (ushrL (c + ushrL c 8) 16) = nL (c + ushrL c 8) / 65536 := u _ 16 (by decide)
    rw [nL_add (by rw [h1]; omega), h1]
  have l16 : nL (c + ushrL c 8 + ushrL (c + ushrL c 8) 16) < 2 ^ 62 := by rw [e16]; omega
  have e32 : nL (c + ushrL c 8 + ushrL (c + ushrL c 8) 16 + ushrL (c + ushrL c 8 + ushrL (c + ushrL c 8) 16) 32) = nL (c + ushrL c 8 + ushrL (c + ushrL c 8) 16) + nL (c + ushrL c 8 + ushrL (c + ushrL c 8) 16) / 4294967296 := by
    have h1 : nL (ushrL (c + ushrL c 8 + ushrL (c + ushrL c 8) 16) 32) = nL (c + ushrL c 8 + ushrL (c + ushrL c 8) 16) / 4294967296 := u _ 32 (by decide)
    rw [nL_add (by rw [h1]; omega), h1]
  rw [and127, e32, e16, e8, popN_B 64]
  show _ = ((popN (nL x) 64 : Nat) : Int)
  rw [← hp]
theorem cnt_bits {p : Int → Bool} {n : Nat} (hn : n ≤ 64) : ∀ m : Nat, m ≤ 64 → cntF (B (bitsF p n)) m = cntF p (min m n)
  | 0, _ => by rw [Nat.zero_min]; rfl
  | m + 1, h => by
    have ih := cnt_bits (p := p) hn m (by omega)
    show cntF (B (bitsF p n)) m + (if B (bitsF p n) m = true then 1 else 0) = _
    rw [ih, B_bitsF (by omega) (by omega) n hn]
    by_cases e : m < n
    · rw [decide_eq_true (by omega), Bool.true_and, show min (m + 1) n = m + 1 by omega, show min m n = m by omega]
      rfl
    · rw [decide_eq_false (by omega), Bool.false_and, if_neg (by decide), show min (m + 1) n = min m n by omega]
      omega
section BITCOUNT
variable {ro : Nat × (Int → Int)} {d : Nat} {Q : Option AV → AH → Prop} {hB : List AC} {tb : Int → Int} {tz : Int} {tk : Int → Int → Int} {tks : Int → Int} {tc tt : Int} {iu nm ou so pl : Int → Int} {nd : Int} {pa ba de en : Int → Int} {sc rsz fp ss cu os : Int} {a1 a2 a3 : Int → Int} {a4 : Int → Int64} {a5 b1 b2 b3 : Int → Int} {b4 : Int → Int64} {b5 : Int → Int} {le fi : Int} {xi0 : Int → Int} {xf0 xz0 xl0 : Int} {xi1 : Int → Int} {xf1 xz1 xl1 : Int} {xi2 : Int → Int} {xf2 xz2 xl2 : Int} {xi3 : Int → Int} {xf3 xz3 xl3 : Int} {IU BT : Int → Int}
set_option maxRecDepth 100000 in
theorem t_bitCount {h : AH} {x : Int64} (hQ : Q (some (vI (cntF (B x) 64))) h) : RNd ro (d + 1) 185 [vL x] h Q := by
  rw [← bcL_eq] at hQ
  refine WP_run [] 60 ?_
  exact ri hQ
set_option maxRecDepth 100000 in
theorem t_unboundUses (hn : 0 ≤ nd ∧ nd ≤ 60) (hU : ∀ k, 0 ≤ k → k < nd → iu k = IU k ∧ a3 k = BT k) (hr0 : rI iu 0 1) (hr : rI a3 (-1) 59) (hQ : Q (some (vI (cntF (fun k => decide (IU k = 1 ∧ BT k = -1)) nd.toNat))) ((heapC tb tz tk tks tc tt iu nm ou so pl nd pa ba de en sc rsz fp ss cu os a1 a2 a3 a4 a5 b1 b2 b3 b4 b5 le fi xi0 xf0 xz0 xl0 xi1 xf1 xz1 xl1 xi2 xf2 xz2 xl2 xi3 xf3 xz3 xl3), hB)) : RNd ro (d + 2) 11 [vR 35] ((heapC tb tz tk tks tc tt iu nm ou so pl nd pa ba de en sc rsz fp ss cu os a1 a2 a3 a4 a5 b1 b2 b3 b4 b5 le fi xi0 xf0 xz0 xl0 xi1 xf1 xz1 xl1 xi2 xf2 xz2 xl2 xi3 xf3 xz3 xl3), hB) Q := by
  refine WP_run [] 20 ?_
  refine t_usesOf hn (by unfold rg; omega) hU hr0 hr ?_
  refine t_bitCount ?_
  unfold usesB
  rw [cnt_bits (by omega) 64 (by omega), show min 64 nd.toNat = nd.toNat by omega]
  exact ri hQ
end BITCOUNT
