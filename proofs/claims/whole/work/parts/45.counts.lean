/-! ===== what is counted ===== -/
def idleP (nd : Int) (IU BT : Int → Int) : Int → Bool := fun k => decide (IU k = 0 ∧ usesB nd IU BT k = 0)
def telF (nd sc : Int) (IU BT F : Int → Int) (what : Int) : Int := if what = 1 then nd else if what = 2 then sc else if what = 3 then cntF (fun k => decide (IU k = 0)) nd.toNat else if what = 4 then cntF (fun k => decide (BT k = -1)) nd.toNat else if what = 5 then cntF (fun k => decide (F k = k)) nd.toNat else cntF (idleP nd IU BT) nd.toNat
set_option maxRecDepth 100000 in
set_option maxHeartbeats 4000000 in
theorem cF_y {p : Int → Bool} {k x : Int} (h : 0 ≤ k) (hx : x = cntF p k.toNat) (hp : p k = true) : x + 1 = cntF p (k + 1).toNat := by rw [cntF_st h, if_pos hp, hx]
set_option maxRecDepth 100000 in
set_option maxHeartbeats 4000000 in
theorem cF_n {p : Int → Bool} {k x : Int} (h : 0 ≤ k) (hx : x = cntF p k.toNat) (hp : ¬ p k = true) : x = cntF p (k + 1).toNat := by rw [cntF_st h, if_neg hp, hx]; omega
set_option maxRecDepth 100000 in
set_option maxHeartbeats 4000000 in
theorem cF_0 {p : Int → Bool} {k x : Int} (h : 0 ≤ k) (hx : x = cntF p k.toNat) (hp : ¬ p k = true) : x + 0 = cntF p (k + 1).toNat := by rw [cntF_st h, if_neg hp, hx]
section COUNTC
variable {ro : Nat × (Int → Int)} {d : Nat} {Q : Option AV → AH → Prop} {hB : List AC} {tb : Int → Int} {tz : Int} {tk : Int → Int → Int} {tks : Int → Int} {tc tt : Int} {iu nm ou so pl : Int → Int} {nd : Int} {pa ba de en : Int → Int} {sc rsz fp ss cu os : Int} {a1 a2 a3 : Int → Int} {a4 : Int → Int64} {a5 b1 b2 b3 : Int → Int} {b4 : Int → Int64} {b5 : Int → Int} {le fi : Int} {xi0 : Int → Int} {xf0 xz0 xl0 : Int} {xi1 : Int → Int} {xf1 xz1 xl1 : Int} {xi2 : Int → Int} {xf2 xz2 xl2 : Int} {xi3 : Int → Int} {xf3 xz3 xl3 : Int} {IU SO BT F : Int → Int}
set_option maxRecDepth 100000 in
set_option maxHeartbeats 4000000 in
theorem t_declarations (hn : 0 ≤ nd ∧ nd ≤ 60) (hU : ∀ k, 0 ≤ k → k < nd → iu k = IU k) (hr0 : rI iu 0 1) (hQ : Q (some (vI (cntF (fun k => decide (IU k = 0)) nd.toNat))) ((heapC tb tz tk tks tc tt iu nm ou so pl nd pa ba de en sc rsz fp ss cu os a1 a2 a3 a4 a5 b1 b2 b3 b4 b5 le fi xi0 xf0 xz0 xl0 xi1 xf1 xz1 xl1 xi2 xf2 xz2 xl2 xi3 xf3 xz3 xl3), hB)) : RNd ro (d + 1) 54 [vR 25] ((heapC tb tz tk tks tc tt iu nm ou so pl nd pa ba de en sc rsz fp ss cu os a1 a2 a3 a4 a5 b1 b2 b3 b4 b5 le fi xi0 xf0 xz0 xl0 xi1 xf1 xz1 xl1 xi2 xf2 xz2 xl2 xi3 xf3 xz3 xl3), hB) Q := by
  have main : ∀ k : Int, ∀ x : Int, 0 ≤ k → k ≤ nd → x = cntF (fun k => decide (IU k = 0)) k.toNat → WPm ro d (RNd ro d) 54 0 0 Q 4 [vR 25, vI x, vI k] [] ((heapC tb tz tk tks tc tt iu nm ou so pl nd pa ba de en sc rsz fp ss cu os a1 a2 a3 a4 a5 b1 b2 b3 b4 b5 le fi xi0 xf0 xz0 xl0 xi1 xf1 xz1 xl1 xi2 xf2 xz2 xl2 xi3 xf3 xz3 xl3), hB) 0 0 := by
    refine loopUp nd fun k ih x k0 k1 hx => ?_
    refine WP_first [4] 60 ?_
    refine c2 (fun q => ?_) (fun q => ?_)
    · have e : k = nd := by omega
      subst e
      rw [hx]
      exact ri hQ
    · have e1 := hU k k0 (by omega)
      have r2 := hr0 k
      refine ix ?_
      refine c1 (fun q2 => ?_) (fun q2 => ?_)
      · exact ih (by omega) _ (by omega) (by omega) (cF_n k0 hx (by rw [decide_eq_true_iff]; omega))
      · exact ih (by omega) _ (by omega) (by omega) (cF_y k0 hx (by rw [decide_eq_true_iff]; omega))
  exact WP_run [4] 20 (main 0 0 (by omega) (by omega) rfl)
set_option maxRecDepth 100000 in
set_option maxHeartbeats 4000000 in
theorem t_nodesIn {s u : Int} (hn : 0 ≤ nd ∧ nd ≤ 60) (hs : rg s) (hu : u = 0 ∨ u = 1) (hU : ∀ k, 0 ≤ k → k < nd → iu k = IU k ∧ so k = SO k) (hr0 : rI iu 0 1) (hr1 : rI so 0 9) (hQ : Q (some (vI (cntF (fun k => decide (SO k = s ∧ IU k = u)) nd.toNat))) ((heapC tb tz tk tks tc tt iu nm ou so pl nd pa ba de en sc rsz fp ss cu os a1 a2 a3 a4 a5 b1 b2 b3 b4 b5 le fi xi0 xf0 xz0 xl0 xi1 xf1 xz1 xl1 xi2 xf2 xz2 xl2 xi3 xf3 xz3 xl3), hB)) : RNd ro (d + 1) 55 [vR 25, vI s, vI u] ((heapC tb tz tk tks tc tt iu nm ou so pl nd pa ba de en sc rsz fp ss cu os a1 a2 a3 a4 a5 b1 b2 b3 b4 b5 le fi xi0 xf0 xz0 xl0 xi1 xf1 xz1 xl1 xi2 xf2 xz2 xl2 xi3 xf3 xz3 xl3), hB) Q := by
  have main : ∀ k : Int, ∀ x : Int, 0 ≤ k → k ≤ nd → x = cntF (fun k => decide (SO k = s ∧ IU k = u)) k.toNat → WPm ro d (RNd ro d) 55 0 0 Q 5 [vR 25, vI s, vI u, vI x, vI k] [] ((heapC tb tz tk tks tc tt iu nm ou so pl nd pa ba de en sc rsz fp ss cu os a1 a2 a3 a4 a5 b1 b2 b3 b4 b5 le fi xi0 xf0 xz0 xl0 xi1 xf1 xz1 xl1 xi2 xf2 xz2 xl2 xi3 xf3 xz3 xl3), hB) 0 0 := by
    refine loopUp nd fun k ih x k0 k1 hx => ?_
    refine WP_first [5] 60 ?_
    refine c2 (fun q => ?_) (fun q => ?_)
    · have e : k = nd := by omega
      subst e
      rw [hx]
      exact ri hQ
    · obtain ⟨e1, e2⟩ := hU k k0 (by omega)
      have r2 := hr0 k
      have r3 := hr1 k
      refine ix ?_
      refine c2 (fun q2 => ?_) (fun q2 => ?_) (by unfold rg; omega) hs
      · exact ih (by omega) _ (by omega) (by omega) (cF_n k0 hx (by rw [decide_eq_true_iff]; omega))
      · refine ix ?_
        refine c2 (fun q3 => ?_) (fun q3 => ?_)
        · exact ih (by omega) _ (by omega) (by omega) (cF_n k0 hx (by rw [decide_eq_true_iff]; omega))
        · exact ih (by omega) _ (by omega) (by omega) (cF_y k0 hx (by rw [decide_eq_true_iff]; omega))
  exact WP_run [5] 20 (main 0 0 (by omega) (by omega) rfl)
end COUNTC
section COUNTM
variable {ro : Nat × (Int → Int)} {d : Nat} {Q : Option AV → AH → Prop} {hA : List AC} {mtz : Int} {mt : Int → Int} {mk mkf : Int} {mot mox : Int → Int} {mfa mnd : Int} {miu mnm mso mou mpl : Int → Int} {msc : Int} {mar mex men mnn mon mde mbt mfo mfn mma mit mfm msz mim mmo : Int → Int} {mfi : Int} {IU SO BT F : Int → Int}
set_option maxRecDepth 100000 in
set_option maxHeartbeats 4000000 in
theorem r_manyIn {s u : Int} (hn : 0 ≤ mnd ∧ mnd ≤ 60) (hs : rg s) (hu : u = 0 ∨ u = 1) (hU : ∀ k, 0 ≤ k → k < mnd → miu k = IU k ∧ mso k = SO k) (hr0 : rI miu 0 1) (hr1 : rI mso 0 9) (hQ : Q (some (vI (cntF (fun k => decide (SO k = s ∧ IU k = u)) mnd.toNat))) (hA, (heapM mtz mt mk mkf mot mox mfa mnd miu mnm mso mou mpl msc mar mex men mnn mon mde mbt mfo mfn mma mit mfm msz mim mmo mfi))) : RNd ro (d + 1) 130 [vR 200, vI s, vI u] (hA, (heapM mtz mt mk mkf mot mox mfa mnd miu mnm mso mou mpl msc mar mex men mnn mon mde mbt mfo mfn mma mit mfm msz mim mmo mfi)) Q := by
  have main : ∀ k : Int, ∀ x : Int, 0 ≤ k → k ≤ mnd → x = cntF (fun k => decide (SO k = s ∧ IU k = u)) k.toNat → WPm ro d (RNd ro d) 130 0 0 Q 5 [vR 200, vI s, vI u, vI x, vI k] [] (hA, (heapM mtz mt mk mkf mot mox mfa mnd miu mnm mso mou mpl msc mar mex men mnn mon mde mbt mfo mfn mma mit mfm msz mim mmo mfi)) 0 0 := by
    refine loopUp mnd fun k ih x k0 k1 hx => ?_
    refine WP_first [5] 60 ?_
    refine c2 (fun q => ?_) (fun q => ?_)
    · have e : k = mnd := by omega
      subst e
      rw [hx]
      exact ri hQ
    · obtain ⟨e1, e2⟩ := hU k k0 (by omega)
      have r2 := hr0 k
      have r3 := hr1 k
      refine ix ?_
      refine c2 (fun q2 => ?_) (fun q2 => ?_) (by unfold rg; omega) hs
      · exact ih (by omega) _ (by omega) (by omega) (cF_0 k0 hx (by rw [decide_eq_true_iff]; omega))
      · refine ix ?_
        refine c2 (fun q3 => ?_) (fun q3 => ?_)
        · exact ih (by omega) _ (by omega) (by omega) (cF_0 k0 hx (by rw [decide_eq_true_iff]; omega))
        · exact ih (by omega) _ (by omega) (by omega) (cF_y k0 hx (by rw [decide_eq_true_iff]; omega))
  exact WP_run [5] 20 (main 0 0 (by omega) (by omega) rfl)
set_option maxRecDepth 100000 in
set_option maxHeartbeats 4000000 in
theorem r_idleMany (hn : 0 ≤ mnd ∧ mnd ≤ 60) (hU : ∀ k, 0 ≤ k → k < mnd → miu k = IU k ∧ mbt k = BT k) (hr0 : rI miu 0 1) (hr : rI mbt (-1) 59) (hQ : Q (some (vI (cntF (idleP mnd IU BT) mnd.toNat))) (hA, (heapM mtz mt mk mkf mot mox mfa mnd miu mnm mso mou mpl msc mar mex men mnn mon mde mbt mfo mfn mma mit mfm msz mim mmo mfi))) : RNd ro (d + 3) 180 [vR 200] (hA, (heapM mtz mt mk mkf mot mox mfa mnd miu mnm mso mou mpl msc mar mex men mnn mon mde mbt mfo mfn mma mit mfm msz mim mmo mfi)) Q := by
  have main : ∀ k : Int, ∀ x : Int, 0 ≤ k → k ≤ mnd → x = cntF (idleP mnd IU BT) k.toNat → WPm ro (d + 2) (RNd ro (d + 2)) 180 0 0 Q 10 [vR 200, vL (idleB mnd IU BT), vN, vI x, vI k] [] (hA, (heapM mtz mt mk mkf mot mox mfa mnd miu mnm mso mou mpl msc mar mex men mnn mon mde mbt mfo mfn mma mit mfm msz mim mmo mfi)) 0 0 := by
    refine loopUp mnd fun k ih x k0 k1 hx => ?_
    refine WP_first [10] 60 ?_
    refine c2 (fun q => ?_) (fun q => ?_)
    · have e : k = mnd := by omega
      subst e
      rw [hx]
      exact ri hQ
    · have hb : B (idleB mnd IU BT) k = idleP mnd IU BT k := by
        have := B_bitsF (p := idleP mnd IU BT) (j := k) k0 (by omega) mnd.toNat (by omega)
        rw [decide_eq_true (by omega), Bool.true_and] at this
        exact this
      refine r_isIn k0 (by omega) (fun h => ?_) (fun h => ?_)
      · refine f1 ?_
        exact ih (by omega) _ (by omega) (by omega) (cF_y k0 hx (by rw [← hb]; exact h))
      · refine t1 ?_
        exact ih (by omega) _ (by omega) (by omega) (cF_0 k0 hx (by rw [← hb, h]; decide))
  refine WP_run [10] 20 ?_
  refine r_idleNow hn hU hr0 hr ?_
  exact main 0 0 (by omega) (by omega) rfl
end COUNTM
