/-! ===== bits of longs ===== -/
/-- bit k of a long -/
def B (x : Int64) (k : Int) : Bool := x.toBitVec.getLsbD k.toNat
theorem B_ext {x y : Int64} (h : ∀ k : Int, 0 ≤ k → k < 64 → B x k = B y k) : x = y := by
  refine Int64.toBitVec_inj.mp (BitVec.eq_of_getLsbD_eq fun i hi => ?_)
  have := h (i : Int) (by omega) (by omega)
  unfold B at this
  rwa [Int.toNat_natCast] at this
theorem B_and {x y : Int64} {k : Int} : B (x &&& y) k = (B x k && B y k) := by unfold B; rw [Int64.toBitVec_and, BitVec.getLsbD_and]
theorem B_or {x y : Int64} {k : Int} : B (x ||| y) k = (B x k || B y k) := by unfold B; rw [Int64.toBitVec_or, BitVec.getLsbD_or]
theorem B_xor {x y : Int64} {k : Int} : B (x ^^^ y) k = (B x k ^^ B y k) := by unfold B; rw [Int64.toBitVec_xor, BitVec.getLsbD_xor]
theorem B_zero {k : Int} : B 0 k = false := by unfold B; exact BitVec.getLsbD_zero
theorem B_big {x : Int64} {k : Int} (h : 64 ≤ k) : B x k = false := by unfold B; exact BitVec.getLsbD_of_ge _ _ (by omega)
theorem sh_amt : ∀ n : Fin 64, ((iI (n.val : Int)).toInt64 &&& 63).toBitVec.smod 64 = BitVec.ofNat 64 n.val := by decide +kernel
theorem B_shl1 {k j : Int} (h0 : 0 ≤ k) (h1 : k < 64) (j0 : 0 ≤ j) : B (shlL 1 k) j = decide (j = k) := by
  have h := sh_amt ⟨k.toNat, by omega⟩
  rw [show ((⟨k.toNat, by omega⟩ : Fin 64).val : Int) = k by show ((k.toNat : Nat) : Int) = k; omega] at h
  unfold B shlL
  rw [Int64.toBitVec_shiftLeft, h]
  show (((1 : Int64).toBitVec) <<< (BitVec.ofNat 64 k.toNat)).getLsbD j.toNat = _
  rw [BitVec.shiftLeft_eq', BitVec.toNat_ofNat, Nat.mod_eq_of_lt (by omega), BitVec.getLsbD_shiftLeft]
  show (decide (j.toNat < 64) && !decide (j.toNat < k.toNat) && (1#64).getLsbD (j.toNat - k.toNat)) = _
  rw [BitVec.getLsbD_one]
  by_cases e : j = k
  · subst e
    simp
    omega
  · by_cases e2 : j < k
    · simp [e]; omega
    · simp [e]; omega
theorem lcZ_eq {x y : Int64} : lcZ x y = 0 ↔ x = y := by
  unfold lcZ lg_cmp
  by_cases h : x = y
  · subst h
    have : ¬ x > x := Int64.lt_irrefl
    rw [if_neg this, if_pos rfl]
    exact ⟨fun _ => rfl, fun _ => rfl⟩
  · split
    · exact ⟨fun q => absurd q (by decide), fun q => absurd q h⟩
    · exact ⟨fun q => absurd q (by decide), fun q => absurd q h⟩
theorem lcZ_rg {x y : Int64} : -1 ≤ lcZ x y ∧ lcZ x y ≤ 1 := by
  unfold lcZ lg_cmp
  split
  · decide
  · split <;> decide
theorem cl {x y : Int64} {A B' C D : Prop} (ha : A → B') (hb : C → D) : rg (lcZ x y) ∧ (A → B') ∧ (C → D) := ⟨by have := lcZ_rg (x := x) (y := y); unfold rg; omega, ha, hb⟩
/-- the test of a bit -/
theorem lc_bit {x : Int64} {k : Int} (h0 : 0 ≤ k) (h1 : k < 64) : lcZ (x &&& shlL 1 k) 0 = 0 ↔ B x k = false := by
  rw [lcZ_eq]
  constructor
  · intro h
    have := congrArg (fun z => B z k) h
    simp only [B_and, B_zero, B_shl1 h0 h1 h0] at this
    simpa using this
  · intro h
    refine B_ext fun j j0 j1 => ?_
    rw [B_and, B_zero, B_shl1 h0 h1 j0]
    by_cases e : j = k
    · subst e; rw [h]; rfl
    · simp [e]
theorem B_shr {x : Int64} {k : Int} (h0 : 0 ≤ k) (h1 : k < 64) : shrL x k &&& 1 = if B x k = true then 1 else 0 := by
  have h := sh_amt ⟨k.toNat, by omega⟩
  rw [show ((⟨k.toNat, by omega⟩ : Fin 64).val : Int) = k by show ((k.toNat : Nat) : Int) = k; omega] at h
  have hb : B (shrL x k) 0 = B x k := by
    unfold B shrL
    rw [Int64.toBitVec_shiftRight, h]
    rw [BitVec.sshiftRight', BitVec.toNat_ofNat, Nat.mod_eq_of_lt (by omega), BitVec.getLsbD_sshiftRight]
    simp
    omega
  refine B_ext fun j j0 j1 => ?_
  rw [B_and]
  have e1 : B 1 j = decide (j = 0) := by
    unfold B
    show (1#64).getLsbD j.toNat = _
    rw [BitVec.getLsbD_one]
    by_cases e : j = 0
    · subst e; rfl
    · simp [e]; omega
  rw [e1]
  by_cases e : j = 0
  · subst e
    rw [hb]
    cases B x k <;> decide
  · rw [decide_eq_false e, Bool.and_false]
    split
    · rw [e1, decide_eq_false e]
    · rw [B_zero]
theorem lc_isIn {x : Int64} {k : Int} (h0 : 0 ≤ k) (h1 : k < 64) : lcZ (shrL x k &&& 1) 1 = 0 ↔ B x k = true := by
  rw [lcZ_eq, B_shr h0 h1]
  cases B x k <;> decide
theorem ah_amt : ∀ n : Fin 64, (shlL 1 (n.val : Int) - 1).toBitVec = BitVec.ofNat 64 (2 ^ n.val - 1) := by decide +kernel
theorem B_ahead {k j : Int} (h0 : 0 ≤ k) (h1 : k < 64) (j0 : 0 ≤ j) : B (shlL 1 k - 1) j = decide (j < k) := by
  have h := ah_amt ⟨k.toNat, by omega⟩
  rw [show ((⟨k.toNat, by omega⟩ : Fin 64).val : Int) = k by show ((k.toNat : Nat) : Int) = k; omega] at h
  unfold B
  rw [h, BitVec.getLsbD_ofNat, Nat.testBit_two_pow_sub_one]
  show (decide (j.toNat < 64) && decide (j.toNat < k.toNat)) = _
  by_cases e : j < k
  · rw [decide_eq_true e, decide_eq_true (by omega), decide_eq_true (by omega)]; rfl
  · rw [decide_eq_false e, decide_eq_false (p := j.toNat < k.toNat) (by omega), Bool.and_false]
theorem B_ones {j : Int} (j0 : 0 ≤ j) (j1 : j < 64) : B (Int64.ofNat 18446744073709551615) j = true := by
  unfold B
  show (BitVec.ofNat 64 (2 ^ 64 - 1)).getLsbD j.toNat = true
  rw [BitVec.getLsbD_ofNat, Nat.testBit_two_pow_sub_one]
  rw [decide_eq_true (by omega)]; rfl
