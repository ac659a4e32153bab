/-! ===== the reference: sheets, text ===== -/
section MSHEETS
variable {ro : Nat × (Int → Int)} {d : Nat} {Q : Option AV → AH → Prop} {hA : List AC} {mtz : Int} {mt : Int → Int} {mk mkf : Int} {mot mox : Int → Int} {mfa mnd : Int} {miu mnm mso mou mpl : Int → Int} {msc : Int} {mar mex men mnn mon mde mbt mfo mfn mma mit mfm msz mim mmo : Int → Int} {mfi : Int}
set_option maxRecDepth 100000 in
set_option maxHeartbeats 4000000 in
theorem r_meets {x : Int} (hQ : Q (some (vI (-10 - x))) (hA, (heapM mtz mt mk mkf mot mox mfa mnd miu mnm mso mou mpl msc mar mex men mnn mon mde mbt mfo mfn mma mit mfm msz mim mmo x))) : RNd ro (d + 1) 169 [vR 200, vI x] (hA, (heapM mtz mt mk mkf mot mox mfa mnd miu mnm mso mou mpl msc mar mex men mnn mon mde mbt mfo mfn mma mit mfm msz mim mmo mfi)) Q := by
  refine WP_run [] 20 ?_
  exact ri hQ
set_option maxRecDepth 100000 in
set_option maxHeartbeats 4000000 in
theorem r_isSh {b : Int} {h : AH} (hb : rg b) (h1 : 0 ≤ b ∧ b < 4 → Q (some (vI 1)) h) (h0 : ¬ (0 ≤ b ∧ b < 4) → Q (some (vI 0)) h) : RNd ro (d + 2) 170 [vI b] h Q := by
  refine WP_run [] 20 ?_
  refine r_in hb (by unfold rg; omega) (by unfold rg; omega) (fun q => ?_) (fun q => ?_)
  · exact rz (h1 (by omega))
  · exact rz (h0 (by omega))
set_option maxRecDepth 100000 in
set_option maxHeartbeats 4000000 in
theorem r_types {b : Int} (hb : rg b) (htz : 0 ≤ mtz ∧ mtz ≤ 100) (q2 : ¬ (0 ≤ b ∧ b ≤ 255) → Q (some (vI (-2))) (hA, (heapM mtz mt mk mkf mot mox mfa mnd miu mnm mso mou mpl msc mar mex men mnn mon mde mbt mfo mfn mma mit mfm msz mim mmo mfi))) (q4 : 0 ≤ b ∧ b ≤ 255 → mtz = 100 → Q (some (vI (-4))) (hA, (heapM mtz mt mk mkf mot mox mfa mnd miu mnm mso mou mpl msc mar mex men mnn mon mde mbt mfo mfn mma mit mfm msz mim mmo mfi))) (q0 : 0 ≤ b ∧ b ≤ 255 → mtz < 100 → Q (some (vI (mtz + 1))) (hA, (heapM (mtz + 1) (upZ mt mtz b) 0 mkf mot mox mfa mnd miu mnm mso mou mpl msc mar mex men mnn mon mde mbt mfo mfn mma mit mfm msz mim mmo mfi))) : RNd ro (d + 2) 105 [vR 200, vI b] (hA, (heapM mtz mt mk mkf mot mox mfa mnd miu mnm mso mou mpl msc mar mex men mnn mon mde mbt mfo mfn mma mit mfm msz mim mmo mfi)) Q := by
  refine WP_run [] 40 ?_
  refine r_in hb (by unfold rg; omega) (by unfold rg; omega) (fun q => ?_) (fun q => ?_)
  · refine t1 ?_
    refine c2 (fun e => ?_) (fun e => ?_)
    · refine ix ?_
      exact ri (q0 q (by omega))
    · exact ri (q4 q (by omega))
  · refine f1 ?_
    exact ri (q2 q)
set_option maxRecDepth 100000 in
set_option maxHeartbeats 4000000 in
theorem r_type {b : Int} (hb : rg b) (htz : 0 ≤ mtz ∧ mtz ≤ 100) (q2 : ¬ (0 ≤ b ∧ b ≤ 255) → Q (some (vI (-2))) (hA, (heapM mtz mt mk mkf mot mox mfa mnd miu mnm mso mou mpl msc mar mex men mnn mon mde mbt mfo mfn mma mit mfm msz mim mmo mfi))) (q4 : 0 ≤ b ∧ b ≤ 255 → mtz = 100 → Q (some (vI (-4))) (hA, (heapM mtz mt mk mkf mot mox mfa mnd miu mnm mso mou mpl msc mar mex men mnn mon mde mbt mfo mfn mma mit mfm msz mim mmo mfi))) (q0 : 0 ≤ b ∧ b ≤ 255 → mtz < 100 → Q (some (vI (mtz + 1))) (hA, (heapM (mtz + 1) (upZ mt mtz b) 0 mkf mot mox mfa mnd miu mnm mso mou mpl msc mar mex men mnn mon mde mbt mfo mfn mma mit mfm msz mim mmo mfi))) : RNd ro (d + 3) 106 [vR 200, vI b] (hA, (heapM mtz mt mk mkf mot mox mfa mnd miu mnm mso mou mpl msc mar mex men mnn mon mde mbt mfo mfn mma mit mfm msz mim mmo mfi)) Q := by
  refine WP_run [] 40 ?_
  exact r_types hb htz (fun h => ri (q2 h)) (fun h k => ri (q4 h k)) (fun h k => ri (q0 h k))
set_option maxRecDepth 100000 in
set_option maxHeartbeats 4000000 in
theorem r_wipe (htz : 0 ≤ mtz ∧ mtz ≤ 100) (hQ : Q (some (vI mtz)) (hA, (heapM 0 mt (if 0 < mtz then 0 else mk) mkf mot mox mfa mnd miu mnm mso mou mpl msc mar mex men mnn mon mde mbt mfo mfn mma mit mfm msz mim mmo mfi))) : RNd ro (d + 1) 107 [vR 200] (hA, (heapM mtz mt mk mkf mot mox mfa mnd miu mnm mso mou mpl msc mar mex men mnn mon mde mbt mfo mfn mma mit mfm msz mim mmo mfi)) Q := by
  refine WP_run [] 40 ?_
  refine c1 (fun q => ?_) (fun q => ?_)
  · rw [if_neg (by omega)] at hQ
    exact ri hQ
  · rw [if_pos (by omega)] at hQ
    exact ri hQ
set_option maxRecDepth 100000 in
set_option maxHeartbeats 4000000 in
theorem r_undo (htz : 0 ≤ mtz ∧ mtz ≤ 100) (q3 : mtz = 0 → Q (some (vI (-3))) (hA, (heapM mtz mt mk mkf mot mox mfa mnd miu mnm mso mou mpl msc mar mex men mnn mon mde mbt mfo mfn mma mit mfm msz mim mmo mfi))) (q0 : 0 < mtz → Q (some (vI (mtz - 1))) (hA, (heapM (mtz - 1) mt 0 mkf mot mox mfa mnd miu mnm mso mou mpl msc mar mex men mnn mon mde mbt mfo mfn mma mit mfm msz mim mmo mfi))) : RNd ro (d + 1) 108 [vR 200] (hA, (heapM mtz mt mk mkf mot mox mfa mnd miu mnm mso mou mpl msc mar mex men mnn mon mde mbt mfo mfn mma mit mfm msz mim mmo mfi)) Q := by
  refine WP_run [] 40 ?_
  refine c1 (fun q => ?_) (fun q => ?_)
  · exact ri (q0 (by omega))
  · exact ri (q3 (by omega))
set_option maxRecDepth 100000 in
set_option maxHeartbeats 4000000 in
theorem r_lose {s : Int} (hs : rg s) (hl : rI mit 0 1) (q2 : ¬ (0 ≤ s ∧ s < 4) → Q (some (vI (-2))) (hA, (heapM mtz mt mk mkf mot mox mfa mnd miu mnm mso mou mpl msc mar mex men mnn mon mde mbt mfo mfn mma mit mfm msz mim mmo mfi))) (q1 : 0 ≤ s ∧ s < 4 → mit s = 0 → Q (some (vI (-11))) (hA, (heapM mtz mt mk mkf mot mox mfa mnd miu mnm mso mou mpl msc mar mex men mnn mon mde mbt mfo mfn mma mit mfm msz mim mmo 1))) (q0 : 0 ≤ s ∧ s < 4 → mit s ≠ 0 → Q (some (vI (msz s))) (hA, (heapM mtz mt mk mkf mot mox mfa mnd miu mnm mso mou mpl msc mar mex men mnn mon mde mbt mfo mfn mma (upZ mit s 0) mfm msz mim mmo mfi))) : RNd ro (d + 3) 172 [vR 200, vI s] (hA, (heapM mtz mt mk mkf mot mox mfa mnd miu mnm mso mou mpl msc mar mex men mnn mon mde mbt mfo mfn mma mit mfm msz mim mmo mfi)) Q := by
  have l := hl s
  refine WP_run [] 40 ?_
  refine r_isSh hs (fun h => ?_) (fun h => ?_)
  · refine t1 ?_
    refine ix ?_
    refine c1 (fun q => ?_) (fun q => ?_)
    · refine bz ?_
      refine ix ?_
      refine ix ?_
      exact ri (q0 h q)
    · refine r_meets ?_
      exact ri (q1 h q)
  · refine f1 ?_
    exact ri (q2 h)
set_option maxRecDepth 100000 in
set_option maxHeartbeats 4000000 in
theorem r_lacks {s form i : Int} (hs : 0 ≤ s ∧ s < 4) (hf : rg form) (hi : rg i) (hl : rI mit 0 1) (hx : rI mfm 0 2) (hz : rI msz 0 60) (hQ : Q (some (vI (aLk (1 - mit s) (mfm s) (msz s) form i))) (hA, (heapM mtz mt mk mkf mot mox mfa mnd miu mnm mso mou mpl msc mar mex men mnn mon mde mbt mfo mfn mma mit mfm msz mim mmo mfi))) : RNd ro (d + 2) 173 [vR 200, vI s, vI form, vI i] (hA, (heapM mtz mt mk mkf mot mox mfa mnd miu mnm mso mou mpl msc mar mex men mnn mon mde mbt mfo mfn mma mit mfm msz mim mmo mfi)) Q := by
  have l := hl s
  have x := hx s
  have z := hz s
  unfold aLk at hQ
  refine WP_run [] 60 ?_
  refine ix ?_
  refine c1 (fun e1 => ?_) (fun e1 => ?_)
  · rw [if_neg (by omega)] at hQ
    refine ix ?_
    refine c2 (fun e2 => ?_) (fun e2 => ?_) (by unfold rg; omega) hf
    · rw [if_neg (by omega)] at hQ
      refine ix ?_
      refine r_in hi (by unfold rg; omega) (by unfold rg; omega) (fun q => ?_) (fun q => ?_)
      · rw [if_pos (by omega)] at hQ
        refine f1 ?_
        exact ri hQ
      · rw [if_neg (by omega)] at hQ
        refine t1 ?_
        exact ri hQ
    · rw [if_pos (by omega)] at hQ
      exact ri hQ
  · rw [if_pos (by omega)] at hQ
    exact ri hQ
set_option maxRecDepth 100000 in
set_option maxHeartbeats 4000000 in
theorem r_keep {s i v : Int} (hs : 0 ≤ s ∧ s < 4) (hi : 0 ≤ i ∧ i < 60) (hx : rI mfm 0 2) (hQ : Q none (hA, (heapM mtz mt mk mkf mot mox mfa mnd miu mnm mso mou mpl msc mar mex men mnn mon mde mbt mfo mfn mma mit mfm msz (upZ mim (60 * s + i) (stZ (mfm s) v)) mmo mfi))) : RNd ro (d + 1) 174 [vR 200, vI s, vI i, vI v] (hA, (heapM mtz mt mk mkf mot mox mfa mnd miu mnm mso mou mpl msc mar mex men mnn mon mde mbt mfo mfn mma mit mfm msz mim mmo mfi)) Q := by
  have x := hx s
  unfold stZ at hQ
  refine WP_run [] 60 ?_
  refine ix ?_
  refine c1 (fun e1 => ?_) (fun e1 => ?_)
  · rw [if_neg e1] at hQ
    refine ix ?_
    refine c2 (fun e2 => ?_) (fun e2 => ?_)
    · rw [if_neg e2] at hQ
      refine ix ?_
      exact hQ
    · rw [if_pos e2] at hQ
      refine ix ?_
      exact hQ
  · rw [if_pos e1] at hQ
    refine ix ?_
    exact hQ
set_option maxRecDepth 100000 in
set_option maxHeartbeats 4000000 in
theorem r_put {s form i v : Int} (hs : rg s) (hf : rg form) (hi : rg i) (hl : rI mit 0 1) (hx : rI mfm 0 2) (hz : rI msz 0 60)
    (q2 : ¬ ((0 ≤ s ∧ s < 4) ∧ (0 ≤ form ∧ form < 3)) → Q (some (vI (-2))) (hA, (heapM mtz mt mk mkf mot mox mfa mnd miu mnm mso mou mpl msc mar mex men mnn mon mde mbt mfo mfn mma mit mfm msz mim mmo mfi)))
    (q1 : 0 ≤ s ∧ s < 4 → 0 ≤ form ∧ form < 3 → aLk (1 - mit s) (mfm s) (msz s) form i ≠ 0 → Q (some (vI (-10 - aLk (1 - mit s) (mfm s) (msz s) form i))) (hA, (heapM mtz mt mk mkf mot mox mfa mnd miu mnm mso mou mpl msc mar mex men mnn mon mde mbt mfo mfn mma mit mfm msz mim mmo (aLk (1 - mit s) (mfm s) (msz s) form i))))
    (q0 : 0 ≤ s ∧ s < 4 → 0 ≤ form ∧ form < 3 → aLk (1 - mit s) (mfm s) (msz s) form i = 0 → Q (some (vI 1)) (hA, (heapM mtz mt mk mkf mot mox mfa mnd miu mnm mso mou mpl msc mar mex men mnn mon mde mbt mfo mfn mma mit mfm msz (upZ mim (60 * s + i) (stZ (mfm s) v)) mmo mfi))) : RNd ro (d + 3) 175 [vR 200, vI s, vI form, vI i, vI v] (hA, (heapM mtz mt mk mkf mot mox mfa mnd miu mnm mso mou mpl msc mar mex men mnn mon mde mbt mfo mfn mma mit mfm msz mim mmo mfi)) Q := by
  have lr := aLk_rg (xl := 1 - mit s) (xf := mfm s) (xz := msz s) (form := form) (i := i)
  have zz := hz s
  refine WP_run [] 60 ?_
  refine r_isSh hs (fun h => ?_) (fun h => ?_)
  · refine f1 ?_
    refine r_in hf (by unfold rg; omega) (by unfold rg; omega) (fun q => ?_) (fun q => ?_)
    · refine t1 ?_
      refine r_lacks h hf hi hl hx hz ?_
      refine c1 (fun e => ?_) (fun e => ?_)
      · have e0 : aLk (1 - mit s) (mfm s) (msz s) form i = 0 := by omega
        have z := aLk_0 e0
        refine r_keep h (by omega) hx ?_
        exact ri (q0 h (by omega) e0)
      · refine r_meets ?_
        exact ri (q1 h (by omega) (by omega))
    · refine f1 ?_
      exact ri (q2 (by omega))
  · refine t1 ?_
    exact ri (q2 (by omega))
set_option maxRecDepth 100000 in
set_option maxHeartbeats 4000000 in
theorem r_get {s form i : Int} (hs : rg s) (hf : rg form) (hi : rg i) (hl : rI mit 0 1) (hx : rI mfm 0 2) (hz : rI msz 0 60)
    (q2 : ¬ ((0 ≤ s ∧ s < 4) ∧ (0 ≤ form ∧ form < 3)) → Q (some (vI (-2147483648))) (hA, (heapM mtz mt mk mkf mot mox mfa mnd miu mnm mso mou mpl msc mar mex men mnn mon mde mbt mfo mfn mma mit mfm msz mim mmo mfi)))
    (q1 : 0 ≤ s ∧ s < 4 → 0 ≤ form ∧ form < 3 → aLk (1 - mit s) (mfm s) (msz s) form i ≠ 0 → Q (some (vI (-2147483648))) (hA, (heapM mtz mt mk mkf mot mox mfa mnd miu mnm mso mou mpl msc mar mex men mnn mon mde mbt mfo mfn mma mit mfm msz mim mmo (aLk (1 - mit s) (mfm s) (msz s) form i))))
    (q0 : 0 ≤ s ∧ s < 4 → 0 ≤ form ∧ form < 3 → aLk (1 - mit s) (mfm s) (msz s) form i = 0 → Q (some (vI (mim (60 * s + i)))) (hA, (heapM mtz mt mk mkf mot mox mfa mnd miu mnm mso mou mpl msc mar mex men mnn mon mde mbt mfo mfn mma mit mfm msz mim mmo mfi))) : RNd ro (d + 3) 176 [vR 200, vI s, vI form, vI i] (hA, (heapM mtz mt mk mkf mot mox mfa mnd miu mnm mso mou mpl msc mar mex men mnn mon mde mbt mfo mfn mma mit mfm msz mim mmo mfi)) Q := by
  have lr := aLk_rg (xl := 1 - mit s) (xf := mfm s) (xz := msz s) (form := form) (i := i)
  have zz := hz s
  refine WP_run [] 60 ?_
  refine r_isSh hs (fun h => ?_) (fun h => ?_)
  · refine f1 ?_
    refine r_in hf (by unfold rg; omega) (by unfold rg; omega) (fun q => ?_) (fun q => ?_)
    · refine t1 ?_
      refine r_lacks h hf hi hl hx hz ?_
      refine c1 (fun e => ?_) (fun e => ?_)
      · have e0 : aLk (1 - mit s) (mfm s) (msz s) form i = 0 := by omega
        have z := aLk_0 e0
        refine ix ?_
        exact ri (q0 h (by omega) e0)
      · exact ri (q1 h (by omega) (by omega))
    · refine f1 ?_
      exact ri (q2 (by omega))
  · refine t1 ?_
    exact ri (q2 (by omega))
set_option maxRecDepth 100000 in
set_option maxHeartbeats 4000000 in
theorem r_sheet {s form n : Int} (hs : rg s) (hf : rg form) (hn : rg n)
    (q2 : ¬ ((0 ≤ s ∧ s < 4) ∧ (0 ≤ form ∧ form < 3) ∧ n ≤ 60) → Q (some (vI (-2))) (hA, (heapM mtz mt mk mkf mot mox mfa mnd miu mnm mso mou mpl msc mar mex men mnn mon mde mbt mfo mfn mma mit mfm msz mim mmo mfi)))
    (q1 : 0 ≤ s ∧ s < 4 → (0 ≤ form ∧ form < 3) ∧ n ≤ 60 → n < 0 → Q (some (vI (-15))) (hA, (heapM mtz mt mk mkf mot mox mfa mnd miu mnm mso mou mpl msc mar mex men mnn mon mde mbt mfo mfn mma mit mfm msz mim mmo 5)))
    (q0 : 0 ≤ s ∧ s < 4 → (0 ≤ form ∧ form < 3) ∧ n ≤ 60 → 0 ≤ n → Q (some (vI n)) (hA, (heapM mtz mt mk mkf mot mox mfa mnd miu mnm mso mou mpl msc mar mex men mnn mon mde mbt mfo mfn mma (upZ mit s 1) (upZ mfm s form) (upZ msz s n) (fz mim (60 * s) (60 * s + 60) 0) mmo mfi))) : RNd ro (d + 3) 171 [vR 200, vI s, vI form, vI n] (hA, (heapM mtz mt mk mkf mot mox mfa mnd miu mnm mso mou mpl msc mar mex men mnn mon mde mbt mfo mfn mma mit mfm msz mim mmo mfi)) Q := by
  have main : 0 ≤ s ∧ s < 4 → (0 ≤ form ∧ form < 3) ∧ n ≤ 60 → 0 ≤ n → ∀ k : Int, ∀ f : Int → Int, 0 ≤ k → k ≤ 60 → fz f (60 * s + k) (60 * s + 60) 0 = fz mim (60 * s) (60 * s + 60) 0 → WPm ro (d + 2) (RNd ro (d + 2)) 171 0 0 Q 59 [vR 200, vI s, vI form, vI n, vI k] [] (hA, (heapM mtz mt mk mkf mot mox mfa mnd miu mnm mso mou mpl msc mar mex men mnn mon mde mbt mfo mfn mma (upZ mit s 1) (upZ mfm s form) (upZ msz s n) f mmo mfi)) 0 0 := by
    intro a b c
    have hq := q0 a b c
    refine loopUp 60 fun k ih f k0 k1 hk => ?_
    refine WP_first [59] 40 ?_
    refine c2 (fun q => ?_) (fun q => ?_)
    · rw [fz_end _ _ _ _ (by omega)] at hk
      rw [hk]
      exact ri hq
    · refine ix ?_
      refine ih (by omega) _ (by omega) (by omega) ?_
      rw [← hk, ← Int.add_assoc, fz_step _ _ _ _ (by omega)]
  refine WP_run [59] 60 ?_
  refine r_isSh hs (fun h => ?_) (fun h => ?_)
  · refine f1 ?_
    refine r_in hf (by unfold rg; omega) (by unfold rg; omega) (fun q => ?_) (fun q => ?_)
    · refine f1 ?_
      refine c2 (fun e => ?_) (fun e => ?_) hn
      · refine c1 (fun e2 => ?_) (fun e2 => ?_) hn
        · refine bz ?_
          refine ix ?_
          refine ix ?_
          refine ix ?_
          exact main h (by omega) e2 0 mim (by omega) (by omega) (by rw [Int.add_zero])
        · refine r_meets ?_
          exact ri (q1 h (by omega) (by omega))
      · exact ri (q2 (by omega))
    · refine t1 ?_
      exact ri (q2 (by omega))
  · refine t1 ?_
    exact ri (q2 (by omega))
set_option maxRecDepth 100000 in
set_option maxHeartbeats 4000000 in
theorem r_write {s : Int} (hs : rg s) (hl : rI mit 0 1) (hx : rI mfm 0 2) (hz : rI msz 0 60) (htz : 0 ≤ mtz ∧ mtz ≤ 100) (htb : rI mt 0 255) (hR : RM miu mnm mso mou mpl mar mex men mnn mon mde mbt mfo mfn)
    (q2 : ¬ (0 ≤ s ∧ s < 4) → Q (some (vI (-2))) (hA, (heapM mtz mt mk mkf mot mox mfa mnd miu mnm mso mou mpl msc mar mex men mnn mon mde mbt mfo mfn mma mit mfm msz mim mmo mfi))) (q1 : 0 ≤ s ∧ s < 4 → mit s = 0 → Q (some (vI (-11))) (hA, (heapM mtz mt mk mkf mot mox mfa mnd miu mnm mso mou mpl msc mar mex men mnn mon mde mbt mfo mfn mma mit mfm msz mim mmo 1)))
    (q0 : 0 ≤ s ∧ s < 4 → mit s ≠ 0 → ∀ mfa' mnd' msc' miu' mnm' mso' mou' mpl' mar' mex' men' mnn' mon' mde' mbt' mfo' mfn', MRd mt mtz mfa' mnd' msc' miu' mnm' mso' mou' mpl' mar' mex' men' mnn' mon' mde' mbt' mfo' mfn' → Q (some (vI (if mnd' < msz s then mnd' else msz s))) (hA, (heapM mtz mt mk mkf mot mox mfa' mnd' miu' mnm' mso' mou' mpl' msc' mar' mex' men' mnn' mon' mde' mbt' mfo' mfn' mma mit mfm msz (fb mim (fun q => stZ (mfm s) (mbt' (q - 60 * s))) (60 * s) (60 * s + (if mnd' < msz s then mnd' else msz s))) mmo mfi))) : RNd ro (d + 6) 178 [vR 200, vI s] (hA, (heapM mtz mt mk mkf mot mox mfa mnd miu mnm mso mou mpl msc mar mex men mnn mon mde mbt mfo mfn mma mit mfm msz mim mmo mfi)) Q := by
  have l := hl s
  have z := hz s
  refine WP_run [31] 40 ?_
  refine r_isSh hs (fun h => ?_) (fun h => ?_)
  · refine t1 ?_
    refine ix ?_
    refine c1 (fun q => ?_) (fun q => ?_)
    · refine r_reads htz htb hR (fun mfa' mnd' msc' miu' mnm' mso' mou' mpl' mar' mex' men' mnn' mon' mde' mbt' mfo' mfn' hM => ?_)
      have hq := q0 h q mfa' mnd' msc' miu' mnm' mso' mou' mpl' mar' mex' men' mnn' mon' mde' mbt' mfo' mfn' hM
      have S1 := hM.2.1.1
      have w2 : 0 ≤ (if mnd' < msz s then mnd' else msz s) ∧ (if mnd' < msz s then mnd' else msz s) ≤ 60 := by split <;> omega
      have main : ∀ k : Int, ∀ f : Int → Int, 0 ≤ k → k ≤ (if mnd' < msz s then mnd' else msz s) → f = fb mim (fun q => stZ (mfm s) (mbt' (q - 60 * s))) (60 * s) (60 * s + k) → WPm ro (d + 5) (RNd ro (d + 5)) 178 0 0 Q 31 [vR 200, vI s, vI k] [] (hA, (heapM mtz mt mk mkf mot mox mfa' mnd' miu' mnm' mso' mou' mpl' msc' mar' mex' men' mnn' mon' mde' mbt' mfo' mfn' mma mit mfm msz f mmo mfi)) 0 0 := by
        refine loopUp 60 fun k ih f k0 k1 hk => ?_
        have done : k = (if mnd' < msz s then mnd' else msz s) → Q (some (vI k)) (hA, (heapM mtz mt mk mkf mot mox mfa' mnd' miu' mnm' mso' mou' mpl' msc' mar' mex' men' mnn' mon' mde' mbt' mfo' mfn' mma mit mfm msz f mmo mfi)) := by
          intro e
          rw [← e] at hq
          rw [hk]
          exact hq
        refine WP_first [31] 40 ?_
        refine ix ?_
        refine c2 (fun q1 => ?_) (fun q1 => ?_)
        · exact ri (done (by split <;> split at k1 <;> omega))
        · refine c2 (fun q2 => ?_) (fun q2 => ?_)
          · exact ri (done (by split <;> split at k1 <;> omega))
          · have k2 : k < (if mnd' < msz s then mnd' else msz s) := by split <;> omega
            refine ix ?_
            refine r_keep h (by omega) hx ?_
            refine ih (by omega) _ (by omega) (by omega) ?_
            rw [hk, fb_up (by omega) (by rw [show 60 * s + k - 60 * s = k by omega]), Int.add_assoc]
      exact main 0 mim (by omega) w2.1 (by rw [fb_0 (by omega)])
    · refine r_meets ?_
      exact ri (q1 h q)
  · refine f1 ?_
    exact ri (q2 h)
set_option maxRecDepth 100000 in
set_option maxHeartbeats 4000000 in
theorem r_read {s w : Int} {X : Int → Int} (hs : rg s) (hX : ∀ k, 0 ≤ k → k < 60 → X k = mim (60 * s + k)) (hw : 0 ≤ s ∧ s < 4 → w = if 100 - mtz < frN X (msz s - 0).toNat 0 then 100 - mtz else frN X (msz s - 0).toNat 0) (hl : rI mit 0 1) (hz : rI msz 0 60) (hr : ∀ i, rg (mim i)) (htz : 0 ≤ mtz ∧ mtz ≤ 100) (htb : rI mt 0 255)
    (q2 : ¬ (0 ≤ s ∧ s < 4) → Q (some (vI (-2))) (hA, (heapM mtz mt mk mkf mot mox mfa mnd miu mnm mso mou mpl msc mar mex men mnn mon mde mbt mfo mfn mma mit mfm msz mim mmo mfi))) (q1 : 0 ≤ s ∧ s < 4 → mit s = 0 → Q (some (vI (-11))) (hA, (heapM mtz mt mk mkf mot mox mfa mnd miu mnm mso mou mpl msc mar mex men mnn mon mde mbt mfo mfn mma mit mfm msz mim mmo 1)))
    (q3 : 0 ≤ s ∧ s < 4 → mit s ≠ 0 → w = 0 → Q (some (vI 0)) (hA, (heapM mtz mt mk mkf mot mox mfa mnd miu mnm mso mou mpl msc mar mex men mnn mon mde mbt mfo mfn mma mit mfm msz mim mmo mfi)))
    (q0 : 0 ≤ s ∧ s < 4 → mit s ≠ 0 → 0 < w → Q (some (vI w)) (hA, (heapM (mtz + w) (fb mt (fun q => X (q - mtz)) mtz (mtz + w)) 0 mkf mot mox mfa mnd miu mnm mso mou mpl msc mar mex men mnn mon mde mbt mfo mfn mma mit mfm msz mim mmo mfi))) : RNd ro (d + 3) 109 [vR 200, vI s] (hA, (heapM mtz mt mk mkf mot mox mfa mnd miu mnm mso mou mpl msc mar mex men mnn mon mde mbt mfo mfn mma mit mfm msz mim mmo mfi)) Q := by
  have l := hl s
  have z := hz s
  refine WP_run [27] 40 ?_
  refine r_isSh hs (fun h => ?_) (fun h => ?_)
  · refine t1 ?_
    refine ix ?_
    refine c1 (fun q => ?_) (fun q => ?_)
    · have hw' := hw h
      obtain ⟨g1, g2, g3⟩ := fr_in X (msz s - 0).toNat 0
      have w2 : 0 ≤ w ∧ mtz + w ≤ 100 ∧ w ≤ 60 ∧ w ≤ frN X (msz s - 0).toNat 0 ∧ (w = 100 - mtz ∨ w = frN X (msz s - 0).toNat 0) := by rw [hw']; split <;> omega
      have main : ∀ k : Int, ∀ (f : Int → Int) (y kn : Int), 0 ≤ k → k ≤ w → y = mtz + k → f = fb mt (fun q => X (q - mtz)) mtz (mtz + k) → (0 < k → kn = 0) → (k = 0 → kn = mk) → frN X (msz s - k).toNat k = frN X (msz s - 0).toNat 0 → WPm ro (d + 2) (RNd ro (d + 2)) 109 0 0 Q 27 [vR 200, vI s, vI k] [] (hA, (heapM y f kn mkf mot mox mfa mnd miu mnm mso mou mpl msc mar mex men mnn mon mde mbt mfo mfn mma mit mfm msz mim mmo mfi)) 0 0 := by
        refine loopUp 60 fun k ih f y kn k0 k1 hy hk hn1 hn0 hfr => ?_
        have done : k = w → Q (some (vI k)) (hA, (heapM y f kn mkf mot mox mfa mnd miu mnm mso mou mpl msc mar mex men mnn mon mde mbt mfo mfn mma mit mfm msz mim mmo mfi)) := by
          intro e
          by_cases e0 : w = 0
          · have hq := q3 h q e0
            rw [e, e0] at hk hy
            rw [fb_0 (by omega)] at hk
            rw [hk, hy, hn0 (by omega), e, e0, Int.add_zero]
            exact hq
          · have hq := q0 h q (by omega)
            rw [hk, hy, hn1 (by omega), e]
            exact hq
        refine WP_first [27] 40 ?_
        refine ix ?_
        refine c2 (fun e1 => ?_) (fun e1 => ?_)
        · rw [fr_end e1] at hfr
          exact ri (done (by omega))
        · rw [fr_st (by omega)] at hfr
          have ex := hX k k0 (by omega)
          refine ix ?_
          refine r_types (hr _) (by omega) (fun e2 => ?_) (fun e2 e3 => ?_) (fun e2 e3 => ?_)
          · rw [if_neg (by omega)] at hfr
            refine t1 ?_
            exact ri (done (by omega))
          · refine t1 ?_
            exact ri (done (by omega))
          · rw [if_pos (by omega)] at hfr
            have fr2 := (fr_in X (msz s - (k + 1)).toNat (k + 1)).1
            refine f1 ?_
            refine ih (by omega) _ _ _ (by omega) (by omega) (by omega) ?_ (fun _ => rfl) (fun e => by omega) hfr
            rw [hk, hy, fb_up (by omega) (by rw [show mtz + k - mtz = k by omega, ex]), Int.add_assoc]
      exact main 0 mt mtz mk (by omega) w2.1 (by omega) (by rw [fb_0 (by omega)]) (fun e => by omega) (fun _ => rfl) rfl
    · refine r_meets ?_
      exact ri (q1 h q)
  · refine f1 ?_
    exact ri (q2 h)
end MSHEETS
