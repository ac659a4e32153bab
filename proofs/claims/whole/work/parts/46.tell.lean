/-! ===== the reference: what it tells ===== -/
section TELL
variable {ro : Nat × (Int → Int)} {d : Nat} {Q : Option AV → AH → Prop} {hA : List AC} {mtz : Int} {mt : Int → Int} {mk mkf : Int} {mot mox : Int → Int} {mfa mnd : Int} {miu mnm mso mou mpl : Int → Int} {msc : Int} {mar mex men mnn mon mde mbt mfo mfn mma mit mfm msz mim mmo : Int → Int} {mfi : Int}
set_option maxRecDepth 100000 in
set_option maxHeartbeats 4000000 in
theorem r_tell88 {what : Int} {j2 : AV} (hwh : 1 ≤ what ∧ what ≤ 6) (hM : MRw mt mtz mfa mnd msc miu mnm mso mou mpl mar mex men mnn mon mde mbt mfo mfn)
    (hQ : Q (some (vI (telF (cND mt mtz) (cSC mt mtz) (cIU mt mtz) (cBT mt mtz) (cFM mt mtz (cNM mt mtz)) what))) (hA, (heapM mtz mt mk mkf mot mox mfa mnd miu mnm mso mou mpl msc mar mex men mnn mon mde mbt mfo mfn mma mit mfm msz mim mmo mfi))) : WPm ro (d + 5) (RNd ro (d + 5)) 179 0 0 Q 88 [vR 200, vI what, vI (cntF (fun k => decide (cIU mt mtz k = 0)) mnd.toNat), vI (cntF (fun k => decide (cBT mt mtz k = -1)) mnd.toNat), vI (cntF (fun k => decide (cFM mt mtz (cNM mt mtz) k = k)) mnd.toNat), j2] [] (hA, (heapM mtz mt mk mkf mot mox mfa mnd miu mnm mso mou mpl msc mar mex men mnn mon mde mbt mfo mfn mma mit mfm msz mim mmo mfi)) 0 0 := by
  obtain ⟨⟨hfa, hnd, hsc⟩, hS, hA', hN, hW, ⟨R1, R2, R3, R4, R5, R6, R7⟩, hfr⟩ := id hM
  unfold telF at hQ
  rw [← hnd, ← hsc] at hQ
  refine WP_run [] 40 ?_
  refine c2 (fun q1 => ?_) (fun q1 => ?_)
  · rw [if_neg q1] at hQ
    refine c2 (fun q2 => ?_) (fun q2 => ?_)
    · rw [if_neg q2] at hQ
      refine c2 (fun q3 => ?_) (fun q3 => ?_)
      · rw [if_neg q3] at hQ
        refine c2 (fun q4 => ?_) (fun q4 => ?_)
        · rw [if_neg q4] at hQ
          refine c2 (fun q5 => ?_) (fun q5 => ?_)
          · rw [if_neg q5] at hQ
            refine r_idleMany (IU := cIU mt mtz) (BT := cBT mt mtz) hS.1 (fun k a b => ⟨(hA'.1 k a b).1, (hW k a b).1⟩) R1.1 R5 ?_
            exact ri hQ
          · rw [if_pos q5] at hQ
            exact ri hQ
        · rw [if_pos q4] at hQ
          exact ri hQ
      · rw [if_pos q3] at hQ
        exact ri hQ
    · rw [if_pos q2] at hQ
      exact ri hQ
  · rw [if_pos q1] at hQ
    exact ri hQ
set_option maxRecDepth 100000 in
set_option maxHeartbeats 4000000 in
theorem r_tellLoop {what : Int} (hwh : 1 ≤ what ∧ what ≤ 6) (hM : MRw mt mtz mfa mnd msc miu mnm mso mou mpl mar mex men mnn mon mde mbt mfo mfn)
    (hQ : Q (some (vI (telF (cND mt mtz) (cSC mt mtz) (cIU mt mtz) (cBT mt mtz) (cFM mt mtz (cNM mt mtz)) what))) (hA, (heapM mtz mt mk mkf mot mox mfa mnd miu mnm mso mou mpl msc mar mex men mnn mon mde mbt mfo mfn mma mit mfm msz mim mmo mfi))) : ∀ k : Int, ∀ x y z : Int, 0 ≤ k → k ≤ mnd → x = cntF (fun k => decide (cIU mt mtz k = 0)) k.toNat → y = cntF (fun k => decide (cBT mt mtz k = -1)) k.toNat → z = cntF (fun k => decide (cFM mt mtz (cNM mt mtz) k = k)) k.toNat → WPm ro (d + 5) (RNd ro (d + 5)) 179 0 0 Q 14 [vR 200, vI what, vI x, vI y, vI z, vI k] [] (hA, (heapM mtz mt mk mkf mot mox mfa mnd miu mnm mso mou mpl msc mar mex men mnn mon mde mbt mfo mfn mma mit mfm msz mim mmo mfi)) 0 0 := by
  obtain ⟨⟨hfa, hnd, hsc⟩, hS, hA', hN, hW, ⟨R1, R2, R3, R4, R5, R6, R7⟩, hfr⟩ := id hM
  refine loopUp mnd fun k ih x y z k0 k1 hx hy hz => ?_
  have S1 := hS.1
  refine WP_first [14, 39, 88] 60 ?_
  refine c2 (fun q => ?_) (fun q => ?_)
  · have e : k = mnd := by omega
    subst e
    rw [hx, hy, hz]
    exact r_tell88 hwh hM hQ
  · have e1 := (hA'.1 k k0 (by omega)).1
    obtain ⟨e2, e3⟩ := hW k k0 (by omega)
    have r1 := R1.1 k
    have r2 := R5 k
    have r3 := R6 k
    have s79 : ∀ v w : Int, x + v = cntF (fun k => decide (cIU mt mtz k = 0)) (k + 1).toNat → y + w = cntF (fun k => decide (cBT mt mtz k = -1)) (k + 1).toNat → ∀ u : Int, z + u = cntF (fun k => decide (cFM mt mtz (cNM mt mtz) k = k)) (k + 1).toNat → WPm ro (d + 5) (RNd ro (d + 5)) 179 0 0 Q 79 [vR 200, vI what, vI (x + v), vI (y + w), vI z, vI k] [vI u, vI z] (hA, (heapM mtz mt mk mkf mot mox mfa mnd miu mnm mso mou mpl msc mar mex men mnn mon mde mbt mfo mfn mma mit mfm msz mim mmo mfi)) 0 0 := by
      intro v w hv hw u hu
      refine WP_run [14] 20 ?_
      exact ih (by omega) _ _ _ (by omega) (by omega) hv hw hu
    have s58 : ∀ v : Int, x + v = cntF (fun k => decide (cIU mt mtz k = 0)) (k + 1).toNat → ∀ w : Int, y + w = cntF (fun k => decide (cBT mt mtz k = -1)) (k + 1).toNat → WPm ro (d + 5) (RNd ro (d + 5)) 179 0 0 Q 58 [vR 200, vI what, vI (x + v), vI y, vI z, vI k] [vI w, vI y] (hA, (heapM mtz mt mk mkf mot mox mfa mnd miu mnm mso mou mpl msc mar mex men mnn mon mde mbt mfo mfn mma mit mfm msz mim mmo mfi)) 0 0 := by
      intro v hv w hw
      refine WP_run [79] 20 ?_
      refine ix ?_
      refine c2 (fun q3 => ?_) (fun q3 => ?_)
      · exact s79 v w hv hw 0 (cF_0 k0 hz (by rw [decide_eq_true_iff]; omega))
      · exact s79 v w hv hw 1 (cF_y k0 hz (by rw [decide_eq_true_iff]; omega))
    have s39 : ∀ v : Int, x + v = cntF (fun k => decide (cIU mt mtz k = 0)) (k + 1).toNat → WPm ro (d + 5) (RNd ro (d + 5)) 179 0 0 Q 39 [vR 200, vI what, vI x, vI y, vI z, vI k] [vI v, vI x] (hA, (heapM mtz mt mk mkf mot mox mfa mnd miu mnm mso mou mpl msc mar mex men mnn mon mde mbt mfo mfn mma mit mfm msz mim mmo mfi)) 0 0 := by
      intro v hv
      refine WP_run [58] 20 ?_
      refine ix ?_
      refine c2 (fun q3 => ?_) (fun q3 => ?_)
      · exact s58 v hv 0 (cF_0 k0 hy (by rw [decide_eq_true_iff]; omega))
      · exact s58 v hv 1 (cF_y k0 hy (by rw [decide_eq_true_iff]; omega))
    refine ix ?_
    refine c1 (fun q2 => ?_) (fun q2 => ?_)
    · exact s39 0 (cF_0 k0 hx (by rw [decide_eq_true_iff]; omega))
    · exact s39 1 (cF_y k0 hx (by rw [decide_eq_true_iff]; omega))
set_option maxRecDepth 100000 in
set_option maxHeartbeats 4000000 in
theorem r_tellOf {what : Int} (hwh : 1 ≤ what ∧ what ≤ 6) (htz : 0 ≤ mtz ∧ mtz ≤ 100) (htb : rI mt 0 255) (hR : RM miu mnm mso mou mpl mar mex men mnn mon mde mbt mfo mfn)
    (hQ : ∀ mfa' mnd' msc' miu' mnm' mso' mou' mpl' mar' mex' men' mnn' mon' mde' mbt' mfo' mfn', MRw mt mtz mfa' mnd' msc' miu' mnm' mso' mou' mpl' mar' mex' men' mnn' mon' mde' mbt' mfo' mfn' → Q (some (vI (telF (cND mt mtz) (cSC mt mtz) (cIU mt mtz) (cBT mt mtz) (cFM mt mtz (cNM mt mtz)) what))) (hA, (heapM mtz mt mk mkf mot mox mfa' mnd' miu' mnm' mso' mou' mpl' msc' mar' mex' men' mnn' mon' mde' mbt' mfo' mfn' mma mit mfm msz mim mmo mfi))) : RNd ro (d + 6) 179 [vR 200, vI what] (hA, (heapM mtz mt mk mkf mot mox mfa mnd miu mnm mso mou mpl msc mar mex men mnn mon mde mbt mfo mfn mma mit mfm msz mim mmo mfi)) Q := by
  refine WP_run [14] 20 ?_
  refine r_reads htz htb hR (fun mfa' mnd' msc' miu' mnm' mso' mou' mpl' mar' mex' men' mnn' mon' mde' mbt' mfo' mfn' hM => ?_)
  have hM2 := MRd_w hM
  have S1 := hM2.2.1.1
  exact r_tellLoop hwh hM2 (hQ _ _ _ _ _ _ _ _ _ _ _ _ _ _ _ _ _ hM2) 0 0 0 0 (by omega) (by omega) rfl rfl rfl
end TELL
