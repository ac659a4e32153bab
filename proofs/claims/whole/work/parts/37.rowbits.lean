/-! ===== uses, idle ones, families as bits and numbers ===== -/
def cntF (p : Int → Bool) : Nat → Int
  | 0 => 0
  | n + 1 => cntF p n + if p n = true then 1 else 0
set_option maxRecDepth 100000 in
set_option maxHeartbeats 4000000 in
theorem cntF_st {p : Int → Bool} {k : Int} (h : 0 ≤ k) : cntF p (k + 1).toNat = cntF p k.toNat + if p k = true then 1 else 0 := by
  rw [show (k + 1).toNat = k.toNat + 1 by omega]
  show cntF p k.toNat + (if p ((k.toNat : Nat) : Int) = true then 1 else 0) = _
  rw [show ((k.toNat : Nat) : Int) = k by omega]
set_option maxRecDepth 100000 in
set_option maxHeartbeats 4000000 in
theorem cntF_rg (p : Int → Bool) : ∀ n : Nat, 0 ≤ cntF p n ∧ cntF p n ≤ n
  | 0 => by show (0:Int) ≤ 0 ∧ (0:Int) ≤ 0; omega
  | n + 1 => by
    have := cntF_rg p n
    show 0 ≤ cntF p n + (if p n = true then 1 else 0) ∧ cntF p n + (if p n = true then 1 else 0) ≤ ((n + 1 : Nat) : Int)
    split <;> omega
set_option maxRecDepth 100000 in
set_option maxHeartbeats 4000000 in
theorem cntF_ext {p p' : Int → Bool} : ∀ n : Nat, (∀ k : Int, 0 ≤ k → k < n → p k = p' k) → cntF p n = cntF p' n
  | 0, _ => rfl
  | n + 1, h => by
    show cntF p n + (if p n = true then 1 else 0) = cntF p' n + (if p' n = true then 1 else 0)
    rw [cntF_ext n (fun k a b => h k a (by omega)), h n (by omega) (by omega)]
set_option maxRecDepth 100000 in
set_option maxHeartbeats 4000000 in
theorem bF_y {p : Int → Bool} {k : Int} {x : Int64} (h : 0 ≤ k) (hx : x = bitsF p k.toNat) (hp : p k = true) : x ||| shlL 1 k = bitsF p (k + 1).toNat := by rw [bitsF_st h, if_pos hp, hx]
set_option maxRecDepth 100000 in
set_option maxHeartbeats 4000000 in
theorem bF_n {p : Int → Bool} {k : Int} {x : Int64} (h : 0 ≤ k) (hx : x = bitsF p k.toNat) (hp : ¬ p k = true) : x = bitsF p (k + 1).toNat := by rw [bitsF_st h, if_neg hp, hx]
set_option maxRecDepth 100000 in
set_option maxHeartbeats 4000000 in
theorem bF_0 {p : Int → Bool} {k : Int} {x : Int64} (h : 0 ≤ k) (hx : x = bitsF p k.toNat) (hp : ¬ p k = true) : x ||| 0 = bitsF p (k + 1).toNat := by rw [or_zero]; exact bF_n h hx hp
set_option maxRecDepth 100000 in
set_option maxHeartbeats 4000000 in
theorem bitsF_0 {p : Int → Bool} {n : Int} (h : n ≤ 64) : bitsF p n.toNat = 0 ↔ ∀ k, 0 ≤ k → k < n → p k = false := by
  constructor
  · intro e k a b
    have := congrArg (fun z => B z k) e
    simp only [B_zero] at this
    rw [B_bitsF a (by omega) _ (by omega), decide_eq_true (by omega), Bool.true_and] at this
    exact this
  · intro hp
    refine B_ext fun j a b => ?_
    rw [B_bitsF a b _ (by omega), B_zero]
    by_cases e : j < n
    · rw [hp j a e, Bool.and_false]
    · rw [decide_eq_false (by omega), Bool.false_and]
def usesB (nd : Int) (IU BT : Int → Int) (i : Int) : Int64 := bitsF (fun k => decide (IU k = 1 ∧ BT k = i)) nd.toNat
def famB (nd : Int) (F : Int → Int) (i : Int) : Int64 := bitsF (fun k => decide (F k = F i)) nd.toNat
def idleB (nd : Int) (IU BT : Int → Int) : Int64 := bitsF (fun k => decide (IU k = 0 ∧ usesB nd IU BT k = 0)) nd.toNat
set_option maxRecDepth 100000 in
set_option maxHeartbeats 4000000 in
theorem kin_famB {nd : Int} {IU F : Int → Int} {kin : Int → Int64} {i : Int} (hn : nd ≤ 60) (hU : U01 nd IU) (hF : FamOK nd IU F) (hK : KinOK nd IU F kin) (hi : 0 ≤ i ∧ i < nd) (hd : IU i = 0) : kin i = famB nd F i := by
  refine B_ext fun j a b => ?_
  unfold famB
  rw [B_bitsF a b _ (by omega)]
  have h := hK i j hi.1 hi.2 a b
  by_cases e : j < nd
  · rw [decide_eq_true (by omega), Bool.true_and]
    have u := hU j a e
    have f1' := hF j a e
    have f2' := (hF i hi.1 hi.2).2 hd
    by_cases ef : F j = F i
    · rw [decide_eq_true ef]
      refine h.mpr ⟨e, Or.inr ⟨hd, ?_, ef⟩⟩
      by_cases u1 : IU j = 1
      · have := f1'.1 u1; omega
      · omega
    · rw [decide_eq_false ef]
      cases hb : B (kin i) j
      · rfl
      · rcases h.mp hb with ⟨-, rfl | z⟩
        · exact absurd rfl ef
        · exact absurd z.2.2 ef
  · rw [decide_eq_false (by omega), Bool.false_and]
    cases hb : B (kin i) j
    · rfl
    · exact absurd (h.mp hb).1 e
section MBITS
variable {ro : Nat × (Int → Int)} {d : Nat} {Q : Option AV → AH → Prop} {hA : List AC} {mtz : Int} {mt : Int → Int} {mk mkf : Int} {mot mox : Int → Int} {mfa mnd : Int} {miu mnm mso mou mpl : Int → Int} {msc : Int} {mar mex men mnn mon mde mbt mfo mfn mma mit mfm msz mim mmo : Int → Int} {mfi : Int} {IU BT F : Int → Int}
set_option maxRecDepth 100000 in
set_option maxHeartbeats 4000000 in
theorem r_isIn {h : AH} {x : Int64} {k : Int} (k0 : 0 ≤ k) (k1 : k < 64) (hy : B x k = true → Q (some (vI 1)) h) (hn : B x k = false → Q (some (vI 0)) h) : RNd ro (d + 1) 102 [vL x, vI k] h Q := by
  refine WP_run [] 20 ?_
  have e := lc_isIn (x := x) k0 k1
  refine cl (fun q => ?_) (fun q => ?_)
  · refine rz (hn ?_)
    cases hb : B x k
    · rfl
    · exact absurd (e.mpr hb) q
  · exact rz (hy (e.mp q))
set_option maxRecDepth 100000 in
set_option maxHeartbeats 4000000 in
theorem r_familyBits {i : Int} (hn : 0 ≤ mnd ∧ mnd ≤ 60) (hi : 0 ≤ i ∧ i < mnd) (hF : ∀ k, 0 ≤ k → k < mnd → mfo k = F k) (hr : rI mfo (-1) 59) (hQ : Q (some (vL (famB mnd F i))) (hA, (heapM mtz mt mk mkf mot mox mfa mnd miu mnm mso mou mpl msc mar mex men mnn mon mde mbt mfo mfn mma mit mfm msz mim mmo mfi))) : RNd ro (d + 1) 135 [vR 200, vI i] (hA, (heapM mtz mt mk mkf mot mox mfa mnd miu mnm mso mou mpl msc mar mex men mnn mon mde mbt mfo mfn mma mit mfm msz mim mmo mfi)) Q := by
  have main : ∀ k : Int, ∀ x : Int64, 0 ≤ k → k ≤ mnd → x = bitsF (fun k => decide (F k = F i)) k.toNat → WPm ro d (RNd ro d) 135 0 0 Q 5 [vR 200, vI i, vL x, vN, vI k] [] (hA, (heapM mtz mt mk mkf mot mox mfa mnd miu mnm mso mou mpl msc mar mex men mnn mon mde mbt mfo mfn mma mit mfm msz mim mmo mfi)) 0 0 := by
    refine loopUp mnd fun k ih x k0 k1 hx => ?_
    refine WP_first [5] 60 ?_
    refine c2 (fun q => ?_) (fun q => ?_)
    · have e : k = mnd := by omega
      subst e
      rw [hx]
      exact hQ
    · have e1 := hF k k0 (by omega)
      have e2 := hF i hi.1 hi.2
      have r1 := hr k
      have r2 := hr i
      refine ix ?_
      refine ix ?_
      refine c2 (fun q2 => ?_) (fun q2 => ?_)
      · exact ih (by omega) _ (by omega) (by omega) (bF_0 k0 hx (by simp; omega))
      · exact ih (by omega) _ (by omega) (by omega) (bF_y k0 hx (by simp; omega))
  exact WP_run [5] 20 (main 0 _ (by omega) (by omega) rfl)
set_option maxRecDepth 100000 in
set_option maxHeartbeats 4000000 in
theorem r_usesOf {i : Int} (hn : 0 ≤ mnd ∧ mnd ≤ 60) (hi : rg i) (hU : ∀ k, 0 ≤ k → k < mnd → miu k = IU k ∧ mbt k = BT k) (hr0 : rI miu 0 1) (hr : rI mbt (-1) 59) (hQ : Q (some (vL (usesB mnd IU BT i))) (hA, (heapM mtz mt mk mkf mot mox mfa mnd miu mnm mso mou mpl msc mar mex men mnn mon mde mbt mfo mfn mma mit mfm msz mim mmo mfi))) : RNd ro (d + 1) 137 [vR 200, vI i] (hA, (heapM mtz mt mk mkf mot mox mfa mnd miu mnm mso mou mpl msc mar mex men mnn mon mde mbt mfo mfn mma mit mfm msz mim mmo mfi)) Q := by
  have main : ∀ k : Int, ∀ x : Int64, 0 ≤ k → k ≤ mnd → x = bitsF (fun k => decide (IU k = 1 ∧ BT k = i)) k.toNat → WPm ro d (RNd ro d) 137 0 0 Q 5 [vR 200, vI i, vL x, vN, vI k] [] (hA, (heapM mtz mt mk mkf mot mox mfa mnd miu mnm mso mou mpl msc mar mex men mnn mon mde mbt mfo mfn mma mit mfm msz mim mmo mfi)) 0 0 := by
    refine loopUp mnd fun k ih x k0 k1 hx => ?_
    refine WP_first [5] 60 ?_
    refine c2 (fun q => ?_) (fun q => ?_)
    · have e : k = mnd := by omega
      subst e
      rw [hx]
      exact hQ
    · obtain ⟨e1, e2⟩ := hU k k0 (by omega)
      have r1 := hr k
      have r2 := hr0 k
      refine ix ?_
      refine c2 (fun q2 => ?_) (fun q2 => ?_)
      · exact ih (by omega) _ (by omega) (by omega) (bF_0 k0 hx (by simp; omega))
      · refine ix ?_
        refine c2 (fun q3 => ?_) (fun q3 => ?_) (by unfold rg; omega) hi
        · exact ih (by omega) _ (by omega) (by omega) (bF_0 k0 hx (by simp; omega))
        · exact ih (by omega) _ (by omega) (by omega) (bF_y k0 hx (by simp; omega))
  exact WP_run [5] 20 (main 0 _ (by omega) (by omega) rfl)
set_option maxRecDepth 100000 in
set_option maxHeartbeats 4000000 in
theorem r_idleNow (hn : 0 ≤ mnd ∧ mnd ≤ 60) (hU : ∀ k, 0 ≤ k → k < mnd → miu k = IU k ∧ mbt k = BT k) (hr0 : rI miu 0 1) (hr : rI mbt (-1) 59) (hQ : Q (some (vL (idleB mnd IU BT))) (hA, (heapM mtz mt mk mkf mot mox mfa mnd miu mnm mso mou mpl msc mar mex men mnn mon mde mbt mfo mfn mma mit mfm msz mim mmo mfi))) : RNd ro (d + 2) 141 [vR 200] (hA, (heapM mtz mt mk mkf mot mox mfa mnd miu mnm mso mou mpl msc mar mex men mnn mon mde mbt mfo mfn mma mit mfm msz mim mmo mfi)) Q := by
  have main : ∀ k : Int, ∀ x : Int64, 0 ≤ k → k ≤ mnd → x = bitsF (fun k => decide (IU k = 0 ∧ usesB mnd IU BT k = 0)) k.toNat → WPm ro (d + 1) (RNd ro (d + 1)) 141 0 0 Q 4 [vR 200, vL x, vN, vI k] [] (hA, (heapM mtz mt mk mkf mot mox mfa mnd miu mnm mso mou mpl msc mar mex men mnn mon mde mbt mfo mfn mma mit mfm msz mim mmo mfi)) 0 0 := by
    refine loopUp mnd fun k ih x k0 k1 hx => ?_
    refine WP_first [4] 60 ?_
    refine c2 (fun q => ?_) (fun q => ?_)
    · have e : k = mnd := by omega
      subst e
      rw [hx]
      exact hQ
    · obtain ⟨e1, e2⟩ := hU k k0 (by omega)
      have r1 := hr k
      have r2 := hr0 k
      refine ix ?_
      refine c1 (fun q2 => ?_) (fun q2 => ?_)
      · exact ih (by omega) _ (by omega) (by omega) (bF_0 k0 hx (by simp; intro z; omega))
      · refine r_usesOf hn (by unfold rg; omega) hU hr0 hr ?_
        refine cl (fun q3 => ?_) (fun q3 => ?_)
        · exact ih (by omega) _ (by omega) (by omega) (bF_0 k0 hx (by simp; intro _ z; exact q3 (lcZ_eq.mpr z)))
        · exact ih (by omega) _ (by omega) (by omega) (bF_y k0 hx (by simp; exact ⟨by omega, lcZ_eq.mp q3⟩))
  exact WP_run [4] 20 (main 0 _ (by omega) (by omega) rfl)
end MBITS
section CBITS
variable {ro : Nat × (Int → Int)} {d : Nat} {Q : Option AV → AH → Prop} {hB : List AC} {tb : Int → Int} {tz : Int} {tk : Int → Int → Int} {tks : Int → Int} {tc tt : Int} {iu nm ou so pl : Int → Int} {nd : Int} {pa ba de en : Int → Int} {sc rsz fp ss cu os : Int} {a1 a2 a3 : Int → Int} {a4 : Int → Int64} {a5 b1 b2 b3 : Int → Int} {b4 : Int → Int64} {b5 : Int → Int} {le fi : Int} {xi0 : Int → Int} {xf0 xz0 xl0 : Int} {xi1 : Int → Int} {xf1 xz1 xl1 : Int} {xi2 : Int → Int} {xf2 xz2 xl2 : Int} {xi3 : Int → Int} {xf3 xz3 xl3 : Int} {IU BT F : Int → Int}
set_option maxRecDepth 100000 in
set_option maxHeartbeats 4000000 in
theorem t_usesOf {i : Int} (hn : 0 ≤ nd ∧ nd ≤ 60) (hi : rg i) (hU : ∀ k, 0 ≤ k → k < nd → iu k = IU k ∧ a3 k = BT k) (hr0 : rI iu 0 1) (hr : rI a3 (-1) 59) (hQ : Q (some (vL (usesB nd IU BT i))) ((heapC tb tz tk tks tc tt iu nm ou so pl nd pa ba de en sc rsz fp ss cu os a1 a2 a3 a4 a5 b1 b2 b3 b4 b5 le fi xi0 xf0 xz0 xl0 xi1 xf1 xz1 xl1 xi2 xf2 xz2 xl2 xi3 xf3 xz3 xl3), hB)) : RNd ro (d + 1) 9 [vR 35, vI i] ((heapC tb tz tk tks tc tt iu nm ou so pl nd pa ba de en sc rsz fp ss cu os a1 a2 a3 a4 a5 b1 b2 b3 b4 b5 le fi xi0 xf0 xz0 xl0 xi1 xf1 xz1 xl1 xi2 xf2 xz2 xl2 xi3 xf3 xz3 xl3), hB) Q := by
  have main : ∀ k : Int, ∀ x : Int64, 0 ≤ k → k ≤ nd → x = bitsF (fun k => decide (IU k = 1 ∧ BT k = i)) k.toNat → WPm ro d (RNd ro d) 9 0 0 Q 5 [vR 35, vI i, vL x, vN, vI k] [] ((heapC tb tz tk tks tc tt iu nm ou so pl nd pa ba de en sc rsz fp ss cu os a1 a2 a3 a4 a5 b1 b2 b3 b4 b5 le fi xi0 xf0 xz0 xl0 xi1 xf1 xz1 xl1 xi2 xf2 xz2 xl2 xi3 xf3 xz3 xl3), hB) 0 0 := by
    refine loopUp nd fun k ih x k0 k1 hx => ?_
    refine WP_first [5] 60 ?_
    refine c2 (fun q => ?_) (fun q => ?_)
    · have e : k = nd := by omega
      subst e
      rw [hx]
      exact hQ
    · obtain ⟨e1, e2⟩ := hU k k0 (by omega)
      have r1 := hr k
      have r2 := hr0 k
      refine ix ?_
      refine c1 (fun q2 => ?_) (fun q2 => ?_)
      · exact ih (by omega) _ (by omega) (by omega) (bF_n k0 hx (by simp; omega))
      · refine ix ?_
        refine c2 (fun q3 => ?_) (fun q3 => ?_) (by unfold rg; omega) hi
        · exact ih (by omega) _ (by omega) (by omega) (bF_n k0 hx (by simp; omega))
        · exact ih (by omega) _ (by omega) (by omega) (bF_y k0 hx (by simp; omega))
  exact WP_run [5] 20 (main 0 _ (by omega) (by omega) rfl)
set_option maxRecDepth 100000 in
set_option maxHeartbeats 4000000 in
theorem idle_eq {x y : Int64} (hn : 0 ≤ nd ∧ nd ≤ 60) (hx : x = bitsF (fun k => decide (IU k = 0)) nd.toNat) (hy : ∀ j, 0 ≤ j → j < 64 → (B y j = true ↔ ∃ m, 0 ≤ m ∧ m < nd ∧ IU m = 1 ∧ BT m = j)) : x &&& (y ^^^ Int64.ofNat 18446744073709551615) = idleB nd IU BT := by
  refine B_ext fun j a b => ?_
  unfold idleB
  rw [B_and, B_xor, B_ones a b, hx, B_bitsF a b _ (by omega), B_bitsF a b _ (by omega), Bool.xor_true, Bool.and_assoc]
  congr 1
  have e : (!B y j) = decide (usesB nd IU BT j = 0) := by
    unfold usesB
    by_cases h : B y j = true
    · rw [h]
      obtain ⟨m, m0, m1, m2, m3⟩ := (hy j a b).mp h
      rw [decide_eq_false (fun z => by have := (bitsF_0 (by omega)).mp z m m0 m1; simp at this; omega)]
      rfl
    · rw [decide_eq_true ((bitsF_0 (by omega)).mpr (fun k k0 k1 => by simp; intro z1 z2; exact h ((hy j a b).mpr ⟨k, k0, k1, z1, z2⟩)))]
      simpa using h
  rw [e]
  show (decide (IU j = 0) && decide (usesB nd IU BT j = 0)) = decide (IU j = 0 ∧ usesB nd IU BT j = 0)
  rw [Bool.decide_and]
set_option maxRecDepth 100000 in
set_option maxHeartbeats 4000000 in
theorem t_idleOnes (hn : 0 ≤ nd ∧ nd ≤ 60) (hU : ∀ k, 0 ≤ k → k < nd → iu k = IU k ∧ a3 k = BT k) (hr0 : rI iu 0 1) (hr : rI a3 (-1) 59) (hQ : Q (some (vL (idleB nd IU BT))) ((heapC tb tz tk tks tc tt iu nm ou so pl nd pa ba de en sc rsz fp ss cu os a1 a2 a3 a4 a5 b1 b2 b3 b4 b5 le fi xi0 xf0 xz0 xl0 xi1 xf1 xz1 xl1 xi2 xf2 xz2 xl2 xi3 xf3 xz3 xl3), hB)) : RNd ro (d + 1) 10 [vR 35] ((heapC tb tz tk tks tc tt iu nm ou so pl nd pa ba de en sc rsz fp ss cu os a1 a2 a3 a4 a5 b1 b2 b3 b4 b5 le fi xi0 xf0 xz0 xl0 xi1 xf1 xz1 xl1 xi2 xf2 xz2 xl2 xi3 xf3 xz3 xl3), hB) Q := by
  have main : ∀ k : Int, ∀ x y : Int64, 0 ≤ k → k ≤ nd → x = bitsF (fun k => decide (IU k = 0)) k.toNat → (∀ j, 0 ≤ j → j < 64 → (B y j = true ↔ ∃ m, 0 ≤ m ∧ m < k ∧ IU m = 1 ∧ BT m = j)) → WPm ro d (RNd ro d) 10 0 0 Q 7 [vR 35, vL x, vN, vL y, vN, vI k] [] ((heapC tb tz tk tks tc tt iu nm ou so pl nd pa ba de en sc rsz fp ss cu os a1 a2 a3 a4 a5 b1 b2 b3 b4 b5 le fi xi0 xf0 xz0 xl0 xi1 xf1 xz1 xl1 xi2 xf2 xz2 xl2 xi3 xf3 xz3 xl3), hB) 0 0 := by
    refine loopUp nd fun k ih x y k0 k1 hx hy => ?_
    refine WP_first [7] 60 ?_
    refine c2 (fun q => ?_) (fun q => ?_)
    · have e : k = nd := by omega
      subst e
      have ei := idle_eq (BT := BT) hn hx hy
      show Q (some (vL (x &&& (y ^^^ Int64.ofNat 18446744073709551615)))) _
      rw [ei]
      exact hQ
    · obtain ⟨e1, e2⟩ := hU k k0 (by omega)
      have r1 := hr k
      have r2 := hr0 k
      have same : ¬ (IU k = 1 ∧ 0 ≤ BT k) → ∀ j, 0 ≤ j → j < 64 → (B y j = true ↔ ∃ m, 0 ≤ m ∧ m < k + 1 ∧ IU m = 1 ∧ BT m = j) := by
        intro hno j a b
        rw [hy j a b]
        constructor
        · rintro ⟨m, m0, m1, m2, m3⟩
          exact ⟨m, m0, by omega, m2, m3⟩
        · rintro ⟨m, m0, m1, m2, m3⟩
          have : m ≠ k := fun z => hno (by subst z; omega)
          exact ⟨m, m0, by omega, m2, m3⟩
      refine ix ?_
      refine c1 (fun q2 => ?_) (fun q2 => ?_)
      · refine ix ?_
        refine c2 (fun q3 => ?_) (fun q3 => ?_)
        · exact ih (by omega) _ _ (by omega) (by omega) (bF_n k0 hx (by simp; omega)) (same (by omega))
        · refine ix ?_
          refine ih (by omega) _ _ (by omega) (by omega) (bF_n k0 hx (by simp; omega)) (fun j a b => ?_)
          show B (y ||| shlL 1 (a3 k)) j = true ↔ _
          rw [B_or, B_shl1 (by omega) (by omega) a, Bool.or_eq_true, hy j a b, decide_eq_true_iff]
          constructor
          · rintro (⟨m, m0, m1, m2, m3⟩ | z)
            · exact ⟨m, m0, by omega, m2, m3⟩
            · exact ⟨k, k0, by omega, by omega, by omega⟩
          · rintro ⟨m, m0, m1, m2, m3⟩
            by_cases e : m = k
            · subst e; exact Or.inr (by omega)
            · exact Or.inl ⟨m, m0, by omega, m2, m3⟩
      · exact ih (by omega) _ _ (by omega) (by omega) (bF_y k0 hx (by simp; omega)) (same (by omega))
  refine WP_run [7] 20 (main 0 _ _ (by omega) (by omega) rfl (fun j a b => ?_))
  show B 0 j = true ↔ _
  rw [B_zero]
  exact ⟨fun z => (by cases z), fun ⟨m, m0, m1, _⟩ => by omega⟩
set_option maxRecDepth 100000 in
set_option maxHeartbeats 4000000 in
theorem kin_first {k : Int} (hn : nd ≤ 60) (hF : FamOK nd IU F) (hK : KinOK nd IU F a4) (hk : 0 ≤ k ∧ k < nd) (hd : IU k = 0) : a4 k &&& (shlL 1 k - 1) = 0 ↔ F k = k := by
  obtain ⟨f1', f2', f3', f4'⟩ := (hF k hk.1 hk.2).2 hd
  constructor
  · intro e
    have := congrArg (fun z => B z (F k)) e
    simp only [B_zero] at this
    rw [B_and, B_ahead hk.1 (by omega) f1'] at this
    by_cases e2 : F k = k
    · exact e2
    · rw [decide_eq_true (by omega), Bool.and_true] at this
      rw [(hK k (F k) hk.1 hk.2 f1' (by omega)).mpr ⟨by omega, Or.inr ⟨hd, f3', f4'⟩⟩] at this
      cases this
  · intro e
    refine B_ext fun j a b => ?_
    rw [B_and, B_ahead hk.1 (by omega) a, B_zero]
    by_cases e2 : j < k
    · rw [decide_eq_true e2, Bool.and_true]
      cases hb : B (a4 k) j
      · rfl
      · rcases (hK k j hk.1 hk.2 a b).mp hb with ⟨z1, z2 | ⟨z2, z3, z4⟩⟩
        · omega
        · have := ((hF j a z1).2 z3).2.1
          omega
    · rw [decide_eq_false e2, Bool.and_false]
set_option maxRecDepth 100000 in
set_option maxHeartbeats 4000000 in
theorem t_families (hn : 0 ≤ nd ∧ nd ≤ 60) (hU : ∀ k, 0 ≤ k → k < nd → iu k = IU k) (hr0 : rI iu 0 1) (hF : FamOK nd IU F) (hK : KinOK nd IU F a4) (hQ : Q (some (vI (cntF (fun k => decide (F k = k)) nd.toNat))) ((heapC tb tz tk tks tc tt iu nm ou so pl nd pa ba de en sc rsz fp ss cu os a1 a2 a3 a4 a5 b1 b2 b3 b4 b5 le fi xi0 xf0 xz0 xl0 xi1 xf1 xz1 xl1 xi2 xf2 xz2 xl2 xi3 xf3 xz3 xl3), hB)) : RNd ro (d + 1) 12 [vR 35] ((heapC tb tz tk tks tc tt iu nm ou so pl nd pa ba de en sc rsz fp ss cu os a1 a2 a3 a4 a5 b1 b2 b3 b4 b5 le fi xi0 xf0 xz0 xl0 xi1 xf1 xz1 xl1 xi2 xf2 xz2 xl2 xi3 xf3 xz3 xl3), hB) Q := by
  have main : ∀ k : Int, ∀ (x : Int) (y z : AV), 0 ≤ k → k ≤ nd → x = cntF (fun k => decide (F k = k)) k.toNat → nxN [z] = true → WPm ro d (RNd ro d) 12 0 0 Q 4 [vR 35, vI x, vI k, y, z] [] ((heapC tb tz tk tks tc tt iu nm ou so pl nd pa ba de en sc rsz fp ss cu os a1 a2 a3 a4 a5 b1 b2 b3 b4 b5 le fi xi0 xf0 xz0 xl0 xi1 xf1 xz1 xl1 xi2 xf2 xz2 xl2 xi3 xf3 xz3 xl3), hB) 0 0 := by
    refine loopUp nd fun k ih x y z k0 k1 hx hz => ?_
    have hxr := cntF_rg (fun k => decide (F k = k)) k.toNat
    refine WP_first [4] 60 ?_
    refine c2 (fun q => ?_) (fun q => ?_)
    · have e : k = nd := by omega
      subst e
      rw [hx]
      exact ri hQ
    · have e1 := hU k k0 (by omega)
      have r2 := hr0 k
      have hst := cntF_st (p := fun k => decide (F k = k)) k0
      refine ix ?_
      refine c1 (fun q2 => ?_) (fun q2 => ?_)
      · refine ih (by omega) _ _ _ (by omega) (by omega) ?_ hz
        have := (hF k k0 (by omega)).1 (by omega)
        rw [hst, if_neg (by simp; omega), hx]
        omega
      · refine ix ?_
        have hk := kin_first (k := k) hn.2 hF hK ⟨k0, by omega⟩ (by omega)
        refine cl (fun q3 => ?_) (fun q3 => ?_)
        · refine ih (by omega) _ _ _ (by omega) (by omega) ?_ hz
          rw [hst, if_neg (by simp; intro z; exact q3 (lcZ_eq.mpr (hk.mpr z))), hx]
          omega
        · refine ih (by omega) _ _ _ (by omega) (by omega) ?_ hz
          rw [hst, if_pos (by simp; exact hk.mp (lcZ_eq.mp q3)), hx]
  exact WP_run [4] 20 (main 0 _ _ _ (by omega) (by omega) rfl rfl)
end CBITS
