/-! ===== the reference: copy; the sum of two ints as longs ===== -/
set_option maxRecDepth 100000 in
set_option maxHeartbeats 4000000 in
theorem i2l_toInt {x : Int} (h : rg x) : (i2lZ x).toInt = x := by
  unfold i2lZ
  rw [Int32.toInt_toInt64, iI_toInt h]
set_option maxRecDepth 100000 in
set_option maxHeartbeats 4000000 in
theorem i2l_of {x : Int} (h : rg x) : i2lZ x = Int64.ofInt x := by
  rw [← Int64.ofInt_toInt (i2lZ x), i2l_toInt h]
set_option maxRecDepth 100000 in
set_option maxHeartbeats 4000000 in
theorem lc_le {x y : Int64} : lcZ x y ≤ 0 ↔ x.toInt ≤ y.toInt := by
  have h := lg_cmp_le x y
  rw [Int64.le_iff_toInt_le] at h
  rw [← h, Int32.le_iff_toInt_le]
  exact Iff.rfl
set_option maxRecDepth 100000 in
set_option maxHeartbeats 4000000 in
theorem lc_sum {i n z : Int} (hi : rg i) (hn : rg n) (hz : rg z) (h0 : 0 ≤ i) (h1 : 0 ≤ n) : lcZ (i2lZ i + i2lZ n) (i2lZ z) ≤ 0 ↔ i + n ≤ z := by
  rw [lc_le, i2l_toInt hz, i2l_of hi, i2l_of hn, ← Int64.ofInt_add, Int64.toInt_ofInt_of_le (by omega) (by unfold rg at hi hn; omega)]
section MCOPY
variable {ro : Nat × (Int → Int)} {d : Nat} {Q : Option AV → AH → Prop} {hA : List AC} {mtz : Int} {mt : Int → Int} {mk mkf : Int} {mot mox : Int → Int} {mfa mnd : Int} {miu mnm mso mou mpl : Int → Int} {msc : Int} {mar mex men mnn mon mde mbt mfo mfn mma mit mfm msz mim mmo : Int → Int} {mfi : Int}
set_option maxRecDepth 100000 in
set_option maxHeartbeats 4000000 in
theorem r_cp2 {s i t j n : Int} {G : Int → Int} (hj : 0 ≤ j ∧ 0 ≤ n ∧ j + n ≤ 60) (ht : 0 ≤ t ∧ t < 4) (hG : ∀ k, 0 ≤ k → k < n → mmo k = G (60 * t + j + k)) (hQ : Q (some (vI 1)) (hA, (heapM mtz mt mk mkf mot mox mfa mnd miu mnm mso mou mpl msc mar mex men mnn mon mde mbt mfo mfn mma mit mfm msz (fb mim G (60 * t + j) (60 * t + j + n)) mmo mfi))) :
    ∀ k : Int, ∀ f : Int → Int, 0 ≤ k → k ≤ n → f = fb mim G (60 * t + j) (60 * t + j + k) → WPm ro d (RNd ro d) 177 0 0 Q 157 [vR 200, vI s, vI i, vI t, vI j, vI n, vI k] [] (hA, (heapM mtz mt mk mkf mot mox mfa mnd miu mnm mso mou mpl msc mar mex men mnn mon mde mbt mfo mfn mma mit mfm msz f mmo mfi)) 0 0 := by
  refine loopUp n fun k ih f k0 k1 hk => ?_
  refine WP_first [157] 40 ?_
  refine c2 (fun q => ?_) (fun q => ?_)
  · rw [show k = n by omega] at hk
    rw [hk]
    exact ri hQ
  · refine ix ?_
    refine ix ?_
    refine ih (by omega) _ (by omega) (by omega) ?_
    rw [hk, fb_up (by omega) (hG k k0 (by omega)), Int.add_assoc]
set_option maxRecDepth 100000 in
set_option maxHeartbeats 4000000 in
theorem r_cp1 {s i t j n : Int} (hi : 0 ≤ i ∧ 0 ≤ n ∧ i + n ≤ 60) (hj : 0 ≤ j ∧ j + n ≤ 60) (hs : 0 ≤ s ∧ s < 4) (ht : 0 ≤ t ∧ t < 4) (hQ : ∀ mmo', Q (some (vI 1)) (hA, (heapM mtz mt mk mkf mot mox mfa mnd miu mnm mso mou mpl msc mar mex men mnn mon mde mbt mfo mfn mma mit mfm msz (fb mim (fun q => mim (60 * s + i + (q - (60 * t + j)))) (60 * t + j) (60 * t + j + n)) mmo' mfi))) :
    ∀ k : Int, ∀ f : Int → Int, 0 ≤ k → k ≤ n → f = fb mmo (fun k => mim (60 * s + i + k)) 0 k → WPm ro d (RNd ro d) 177 0 0 Q 120 [vR 200, vI s, vI i, vI t, vI j, vI n, vI k] [] (hA, (heapM mtz mt mk mkf mot mox mfa mnd miu mnm mso mou mpl msc mar mex men mnn mon mde mbt mfo mfn mma mit mfm msz mim f mfi)) 0 0 := by
  refine loopUp n fun k ih f k0 k1 hk => ?_
  refine WP_first [120, 157] 40 ?_
  refine c2 (fun q => ?_) (fun q => ?_)
  · rw [show k = n by omega] at hk
    refine r_cp2 (G := fun q => mim (60 * s + i + (q - (60 * t + j)))) (by omega) ht (fun k' a b => ?_) (hQ _) 0 mim (by omega) (by omega) (by rw [fb_0 (by omega)])
    rw [hk]
    show (if 0 ≤ k' ∧ k' < n then mim (60 * s + i + k') else mmo k') = mim (60 * s + i + (60 * t + j + k' - (60 * t + j)))
    rw [if_pos ⟨a, b⟩, show 60 * t + j + k' - (60 * t + j) = k' by omega]
  · refine ix ?_
    refine ix ?_
    refine ih (by omega) _ (by omega) (by omega) ?_
    rw [hk, fb_up (by omega) rfl]
set_option maxRecDepth 100000 in
set_option maxHeartbeats 4000000 in
theorem r_copy {s i t j n : Int} (hs : rg s) (ht : rg t) (hi : rg i) (hj : rg j) (hn : rg n) (hl : rI mit 0 1) (hx : rI mfm 0 2) (hz : rI msz 0 60)
    (q3 : ¬ ((0 ≤ s ∧ s < 4) ∧ (0 ≤ t ∧ t < 4)) → Q (some (vI (-2))) (hA, (heapM mtz mt mk mkf mot mox mfa mnd miu mnm mso mou mpl msc mar mex men mnn mon mde mbt mfo mfn mma mit mfm msz mim mmo mfi)))
    (q1 : ((0 ≤ s ∧ s < 4) ∧ (0 ≤ t ∧ t < 4)) → ¬ (mit s ≠ 0 ∧ mit t ≠ 0) → Q (some (vI (-11))) (hA, (heapM mtz mt mk mkf mot mox mfa mnd miu mnm mso mou mpl msc mar mex men mnn mon mde mbt mfo mfn mma mit mfm msz mim mmo 1)))
    (q4 : ((0 ≤ s ∧ s < 4) ∧ (0 ≤ t ∧ t < 4)) → (mit s ≠ 0 ∧ mit t ≠ 0) → mfm s ≠ mfm t → Q (some (vI (-14))) (hA, (heapM mtz mt mk mkf mot mox mfa mnd miu mnm mso mou mpl msc mar mex men mnn mon mde mbt mfo mfn mma mit mfm msz mim mmo 4)))
    (q2 : ((0 ≤ s ∧ s < 4) ∧ (0 ≤ t ∧ t < 4)) → (mit s ≠ 0 ∧ mit t ≠ 0) → mfm s = mfm t → ¬ (0 ≤ i ∧ 0 ≤ j ∧ 0 ≤ n ∧ i + n ≤ msz s ∧ j + n ≤ msz t) → Q (some (vI (-12))) (hA, (heapM mtz mt mk mkf mot mox mfa mnd miu mnm mso mou mpl msc mar mex men mnn mon mde mbt mfo mfn mma mit mfm msz mim mmo 2)))
    (q0 : ((0 ≤ s ∧ s < 4) ∧ (0 ≤ t ∧ t < 4)) → (mit s ≠ 0 ∧ mit t ≠ 0) → mfm s = mfm t → (0 ≤ i ∧ 0 ≤ j ∧ 0 ≤ n ∧ i + n ≤ msz s ∧ j + n ≤ msz t) → ∀ mmo', Q (some (vI 1)) (hA, (heapM mtz mt mk mkf mot mox mfa mnd miu mnm mso mou mpl msc mar mex men mnn mon mde mbt mfo mfn mma mit mfm msz (fb mim (fun q => mim (60 * s + i + (q - (60 * t + j)))) (60 * t + j) (60 * t + j + n)) mmo' mfi))) : RNd ro (d + 3) 177 [vR 200, vI s, vI i, vI t, vI j, vI n] (hA, (heapM mtz mt mk mkf mot mox mfa mnd miu mnm mso mou mpl msc mar mex men mnn mon mde mbt mfo mfn mma mit mfm msz mim mmo mfi)) Q := by
  have l := hl s
  have l' := hl t
  have x := hx s
  have x' := hx t
  have z := hz s
  have z' := hz t
  refine WP_run [120] 80 ?_
  refine r_isSh hs (fun h => ?_) (fun h => ?_)
  · refine f1 ?_
    refine r_isSh ht (fun h' => ?_) (fun h' => ?_)
    · have hh : (0 ≤ s ∧ s < 4) ∧ (0 ≤ t ∧ t < 4) := ⟨h, h'⟩
      refine t1 ?_
      refine ix ?_
      refine c1 (fun e1 => ?_) (fun e1 => ?_)
      · refine r_meets ?_
        exact ri (q1 hh (by omega))
      · refine ix ?_
        refine c1 (fun e2 => ?_) (fun e2 => ?_)
        · have hm : mit s ≠ 0 ∧ mit t ≠ 0 := ⟨e1, e2⟩
          refine ix ?_
          refine ix ?_
          refine c2 (fun e3 => ?_) (fun e3 => ?_)
          · refine c1 (fun e4 => ?_) (fun e4 => ?_) hi
            · refine r_meets ?_
              exact ri (q2 hh hm e3 (by omega))
            · refine c1 (fun e5 => ?_) (fun e5 => ?_) hj
              · refine r_meets ?_
                exact ri (q2 hh hm e3 (by omega))
              · refine c1 (fun e6 => ?_) (fun e6 => ?_) hn
                · refine r_meets ?_
                  exact ri (q2 hh hm e3 (by omega))
                · have k1 := lc_sum (z := msz s) hi hn (by unfold rg; omega) (by omega) (by omega)
                  have k2 := lc_sum (z := msz t) hj hn (by unfold rg; omega) (by omega) (by omega)
                  refine ix ?_
                  refine cl (fun e7 => ?_) (fun e7 => ?_)
                  · refine r_meets ?_
                    exact ri (q2 hh hm e3 (fun y => by have := k1.mpr y.2.2.2.1; omega))
                  · have k1' := k1.mp (by omega)
                    refine ix ?_
                    refine cl (fun e8 => ?_) (fun e8 => ?_)
                    · have k2' := k2.mp e8
                      have hq := q0 hh hm e3 (by omega)
                      exact r_cp1 (by omega) (by omega) h h' hq 0 mmo (by omega) (by omega) (by rw [fb_0 (by omega)])
                    · refine r_meets ?_
                      exact ri (q2 hh hm e3 (fun y => e8 (k2.mpr y.2.2.2.2)))
          · refine r_meets ?_
            exact ri (q4 hh hm e3)
        · refine r_meets ?_
          exact ri (q1 hh (by omega))
    · refine f1 ?_
      exact ri (q3 (by omega))
  · refine t1 ?_
    exact ri (q3 (by omega))
end MCOPY
