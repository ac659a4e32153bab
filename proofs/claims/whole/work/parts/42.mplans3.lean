/-! ===== the reference: the edits of a plan ===== -/
section MPLANS3
variable {ro : Nat × (Int → Int)} {d : Nat} {Q : Option AV → AH → Prop} {hA : List AC} {mtz : Int} {mt : Int → Int} {mk mkf : Int} {mot mox : Int → Int} {mfa mnd : Int} {miu mnm mso mou mpl : Int → Int} {msc : Int} {mar mex men mnn mon mde mbt mfo mfn mma mit mfm msz mim mmo : Int → Int} {mfi : Int}
set_option maxRecDepth 100000 in
set_option maxHeartbeats 4000000 in
theorem r_eb53 {i w p : Int} {j4 : AV} (hM : MRw mt mtz mfa mnd msc miu mnm mso mou mpl mar mex men mnn mon mde mbt mfo mfn) (htz : 0 ≤ mtz ∧ mtz ≤ 100) (hsp : ¬ (p = 2 ∧ spr (cND mt mtz) (cNM mt mtz) = -1)) (hT : ∀ s w, 0 ≤ s → s < msc → 0 ≤ w → w < 26 → mde (26 * s + w) = TBd mnd (cIU mt mtz) (cSO mt mtz) mnn s w)
    (hb : ∀ k, 0 ≤ k → k < mnd → mnn k = cNN mt mtz i w p k ∧ mon k = cOO mt mtz p (cNN mt mtz i w p) k)
    (hQ : ∀ mfn', MRw mt mtz mfa mnd msc miu mnm mso mou mpl mar mex men mnn mon mde mbt mfo mfn' → Q (some (vI (cED mt mtz i w p))) (hA, (heapM mtz mt mk mkf mot mox mfa mnd miu mnm mso mou mpl msc mar mex men mnn mon mde mbt mfo mfn' mma mit mfm msz mim mmo mfi))) : WPm ro (d + 5) (RNd ro (d + 5)) 154 0 0 Q 53 [vR 200, vI i, vI w, vI p, j4] [] (hA, (heapM mtz mt mk mkf mot mox mfa mnd miu mnm mso mou mpl msc mar mex men mnn mon mde mbt mfo mfn mma mit mfm msz mim mmo mfi)) 0 0 := by
  obtain ⟨⟨hfa, hnd, hsc⟩, hS, hA', hN, hW, ⟨R1, R2, R3, R4, R5, R6, R7⟩, hfr⟩ := id hM
  obtain ⟨r1, r2, r3, r4, -⟩ := id R1
  obtain ⟨S1, S2, S3, S4⟩ := id hS
  have eF : ∀ k, 0 ≤ k → k < mnd → famN (cIU mt mtz) (SFv (cIU mt mtz) (cSO mt mtz) (cEX mt mtz) mnn (OW mnd (cIU mt mtz) (cSO mt mtz) (cEX mt mtz) mnn)) mnd.toNat k = cFM mt mtz (cNN mt mtz i w p) k := by
    intro k a b
    unfold cFM
    rw [← hnd]
    refine famN_ext (fun k a b => ?_) mnd.toNat (by omega) k a b
    obtain ⟨x1, x2, x3⟩ := SFok_OW (nn := mnn) hS k a b
    refine ⟨?_, x1, x2⟩
    unfold cSF
    refine SFv_ext hS a b (fun k a b => ⟨(hb k a b).1, by have := R2 k; omega, by have := R2 k; omega⟩) (fun s w a b c e => ?_)
    unfold cOW
    rw [← hnd]
    exact OW_ext hS (fun k a b => (hb k a b).1) b
  have eB : ∀ k, 0 ≤ k → k < mnd → BN mnd (cIU mt mtz) (cSO mt mtz) (cAR mt mtz) (cEX mt mtz) mnn (cSO mt mtz k) (mon k) (mnn k) = cBo mt mtz (cNN mt mtz i w p) k (cOO mt mtz p (cNN mt mtz i w p) k) := by
    intro k a b
    unfold cBo
    rw [← hnd, ← (hb k a b).2, ← (hb k a b).1]
    exact BN_ext hS (fun k a b => (hb k a b).1) (S3 k a b).2.2
  have eO : Once mnd (cIU mt mtz) (cSO mt mtz) mnn ↔ Once (cND mt mtz) (cIU mt mtz) (cSO mt mtz) (cNN mt mtz i w p) := by
    rw [← hnd]
    constructor
    · intro h x y x0 xy y1 u1 u2 s1 n1
      exact h x y x0 xy y1 u1 u2 s1 (by rw [(hb x x0 (by omega)).1, (hb y (by omega) y1).1]; exact n1)
    · intro h x y x0 xy y1 u1 u2 s1 n1
      exact h x y x0 xy y1 u1 u2 s1 (by rw [← (hb x x0 (by omega)).1, ← (hb y (by omega) y1).1]; exact n1)
  have eS : sumF (fun k => mon k - mou k) mnd.toNat = sumF (fun k => cOO mt mtz p (cNN mt mtz i w p) k - cOU mt mtz k) (cND mt mtz).toNat := by
    rw [← hnd]
    exact sumF_ext _ (fun k a b => by show mon k - mou k = _; rw [(hb k a (by omega)).2, (hN k a (by omega)).2.1])
  have hsr : -4 * (mnd.toNat : Int) ≤ sumF (fun k => mon k - mou k) mnd.toNat ∧ sumF (fun k => mon k - mou k) mnd.toNat ≤ 4 * (mnd.toNat : Int) := sumF_rg _ (fun k a b => by have x1 := R3 k; have x2 := r4 k; show -4 ≤ mon k - mou k ∧ mon k - mou k ≤ 4; omega)
  have hw : (Once mnd (cIU mt mtz) (cSO mt mtz) mnn ∧ (∀ k, 0 ≤ k → k < mnd → famN (cIU mt mtz) (SFv (cIU mt mtz) (cSO mt mtz) (cEX mt mtz) mnn (OW mnd (cIU mt mtz) (cSO mt mtz) (cEX mt mtz) mnn)) mnd.toNat k = cFM mt mtz (cNM mt mtz) k) ∧ (∀ k, 0 ≤ k → k < mnd → cIU mt mtz k = 1 → BN mnd (cIU mt mtz) (cSO mt mtz) (cAR mt mtz) (cEX mt mtz) mnn (cSO mt mtz k) (mon k) (mnn k) = cBT mt mtz k)) ↔ cWE mt mtz (cNN mt mtz i w p) (cOO mt mtz p (cNN mt mtz i w p)) := by
    unfold cWE
    rw [eO]
    constructor
    · rintro ⟨z1, z2, z3⟩
      exact ⟨z1, fun k a b => by rw [← eF k a (by omega)]; exact z2 k a (by omega), fun k a b u => by rw [← eB k a (by omega)]; exact z3 k a (by omega) u⟩
    · rintro ⟨z1, z2, z3⟩
      exact ⟨z1, fun k a b => by rw [eF k a b]; exact z2 k a (by omega), fun k a b u => by rw [eB k a b]; exact z3 k a (by omega) u⟩
  refine WP_run [] 40 ?_
  refine r_isWell hS hA' R2 R3 R4 R5 R7 R6 hT hW (fun f hf hy => ?_) (fun f hf hno => ?_)
  · have hM2 := MRw_up hM R2 R3 R4 hf
    refine f1 ?_
    refine r_bytesNow S1 ?_
    refine c2 (fun q => ?_) (fun q => ?_)
    · have hq := hQ f hM2
      rw [cED_n (fun z => ?_)] at hq
      · exact ri hq
      · have z3 := z.2.2
        unfold cBy at z3
        rw [← eS] at z3
        omega
    · refine r_editsNow S1 r2 R2 r4 R3 ?_
      have e : cED mt mtz i w p = sumF (fun k => (if mnn k ≠ mnm k then 1 else 0) + (if 0 ≤ mon k - mou k then mon k - mou k else -(mon k - mou k))) mnd.toNat := by
        have k4 : cBy mt mtz (cOO mt mtz p (cNN mt mtz i w p)) ≤ 100 := by
          unfold cBy
          rw [← eS]
          omega
        rw [cED_y ⟨hsp, hw.mp hy, k4⟩]
        unfold cEt
        rw [← hnd]
        exact sumF_ext _ (fun k a b => by rw [(hb k a (by omega)).1, (hb k a (by omega)).2, (hN k a (by omega)).1, (hN k a (by omega)).2.1])
      have hq := hQ f hM2
      rw [e] at hq
      exact ri hq
  · refine t1 ?_
    have hq := hQ f (MRw_up hM R2 R3 R4 hf)
    rw [cED_n (fun z => hno (hw.mpr z.2.1))] at hq
    exact ri hq
set_option maxRecDepth 100000 in
set_option maxHeartbeats 4000000 in
theorem r_eb35 {i w p : Int} {j4 : AV} {nn0 : Int → Int} (hM : MRw mt mtz mfa mnd msc miu mnm mso mou mpl mar mex men mnn mon mde mbt mfo mfn) (htz : 0 ≤ mtz ∧ mtz ≤ 100) (hi : 0 ≤ i ∧ i < mnd) (hw : 0 ≤ w ∧ w < 26) (hp : 0 ≤ p ∧ p ≤ 2) (hsp : ¬ (p = 2 ∧ spr (cND mt mtz) (cNM mt mtz) = -1))
    (hb : ∀ k, 0 ≤ k → k < mnd → mnn k = nn0 k ∧ mon k = cOU mt mtz k) (hnn : cNN mt mtz i w p = cRn mt mtz i w nn0)
    (hQ : ∀ mnn' mon' mde' mfn', MRw mt mtz mfa mnd msc miu mnm mso mou mpl mar mex men mnn' mon' mde' mbt mfo mfn' → (cED mt mtz i w p ≠ -1 → ∀ k, 0 ≤ k → k < mnd → mnn' k = cNN mt mtz i w p k ∧ mon' k = cOO mt mtz p (cNN mt mtz i w p) k) → Q (some (vI (cED mt mtz i w p))) (hA, (heapM mtz mt mk mkf mot mox mfa mnd miu mnm mso mou mpl msc mar mex men mnn' mon' mde' mbt mfo mfn' mma mit mfm msz mim mmo mfi))) : WPm ro (d + 5) (RNd ro (d + 5)) 154 0 0 Q 35 [vR 200, vI i, vI w, vI p, j4] [] (hA, (heapM mtz mt mk mkf mot mox mfa mnd miu mnm mso mou mpl msc mar mex men mnn mon mde mbt mfo mfn mma mit mfm msz mim mmo mfi)) 0 0 := by
  obtain ⟨⟨hfa, hnd, hsc⟩, hS, hA', hN, hW, ⟨R1, R2, R3, R4, R5, R6, R7⟩, hfr⟩ := id hM
  obtain ⟨S1, S2, S3, S4⟩ := id hS
  have hSc : TS (cND mt mtz) (cSC mt mtz) (cIU mt mtz) (cSO mt mtz) (cAR mt mtz) (cEX mt mtz) := by rw [← hnd, ← hsc]; exact hS
  have hBT : ∀ k, 0 ≤ k → k < mnd → cBT mt mtz k = -1 ∨ (0 ≤ cBT mt mtz k ∧ cBT mt mtz k < mnd) := fun k a b => by
    rcases cBT_dl hSc a (by omega) with e | ⟨e1, e2, e3, -⟩
    · exact Or.inl e
    · exact Or.inr ⟨e1, by omega⟩
  refine WP_run [53] 40 ?_
  refine r_renames (F := cFM mt mtz (cNM mt mtz)) (BT := cBT mt mtz) S1 hi (fun k a b => ⟨(hW k a b).2, (hW k a b).1⟩) hBT R6 ?_
  have gf : rI (fb mnn (fun k => if cBT mt mtz k ≠ -1 ∧ cFM mt mtz (cNM mt mtz) (cBT mt mtz k) = cFM mt mtz (cNM mt mtz) i then w else mnn k) 0 mnd) 0 25 := rI_fb R2 (fun k a b => ite_rg (by omega) (R2 k))
  have ef : ∀ k, 0 ≤ k → k < mnd → fb mnn (fun k => if cBT mt mtz k ≠ -1 ∧ cFM mt mtz (cNM mt mtz) (cBT mt mtz k) = cFM mt mtz (cNM mt mtz) i then w else mnn k) 0 mnd k = cNN mt mtz i w p k := by
    intro k a b
    rw [fb_in a b, hnn]
    unfold cRn
    rw [(hb k a b).1]
  generalize fb mnn (fun k => if cBT mt mtz k ≠ -1 ∧ cFM mt mtz (cNM mt mtz) (cBT mt mtz k) = cFM mt mtz (cNM mt mtz) i then w else mnn k) 0 mnd = f at gf ef ⊢
  refine r_declares hS hA' gf R4 (fun t ht hT => ?_)
  refine c1 (fun q => ?_) (fun q => ?_)
  · have e0 : p = 0 := by omega
    have eo : ∀ k, 0 ≤ k → k < mnd → mon k = cOO mt mtz p (cNN mt mtz i w p) k := fun k a b => by unfold cOO; rw [if_pos (Or.inl e0)]; exact (hb k a b).2
    refine r_eb53 (MRw_up hM gf R3 ht R7) htz hsp hT (fun k a b => ⟨ef k a b, eo k a b⟩) (fun mfn' hM2 => ?_)
    exact hQ f mon t mfn' hM2 (fun _ k a b => ⟨ef k a b, eo k a b⟩)
  · refine r_goesOut hS hA' gf R3 ht R5 hT (fun k a b => (hW k a b).1) (fun g hg hgk => ?_)
    have eB : ∀ k o, 0 ≤ k → k < mnd → BN mnd (cIU mt mtz) (cSO mt mtz) (cAR mt mtz) (cEX mt mtz) f (cSO mt mtz k) o (f k) = cBo mt mtz (cNN mt mtz i w p) k o := by
      intro k o a b
      unfold cBo
      rw [← hnd, ← ef k a b]
      exact BN_ext hS ef (S3 k a b).2.2
    have eo : ∀ k, 0 ≤ k → k < mnd → g k = cOO mt mtz p (cNN mt mtz i w p) k := by
      intro k a b
      have eL : loF (fun o => BN mnd (cIU mt mtz) (cSO mt mtz) (cAR mt mtz) (cEX mt mtz) f (cSO mt mtz k) o (f k)) (cBT mt mtz k) = cLo mt mtz (cNN mt mtz i w p) k := by
        unfold cLo
        congr 1
        funext o
        exact eB k o a b
      rw [hgk k a b, eB k _ a b, (hb k a b).2, eL]
      unfold cOO
      by_cases hc : cIU mt mtz k = 0 ∨ cBo mt mtz (cNN mt mtz i w p) k (cOU mt mtz k) = cBT mt mtz k ∨ cLo mt mtz (cNN mt mtz i w p) k = -1
      · rw [if_pos hc, if_pos (Or.inr hc)]
      · rw [if_neg hc, if_neg (fun z => z.elim (fun z => by omega) hc)]
    refine r_eb53 (MRw_up hM gf hg ht R7) htz hsp hT (fun k a b => ⟨ef k a b, eo k a b⟩) (fun mfn' hM2 => ?_)
    exact hQ f g t mfn' hM2 (fun _ k a b => ⟨ef k a b, eo k a b⟩)
set_option maxRecDepth 100000 in
set_option maxHeartbeats 4000000 in
theorem r_editsBy {i w p : Int} (hM : MRw mt mtz mfa mnd msc miu mnm mso mou mpl mar mex men mnn mon mde mbt mfo mfn) (htz : 0 ≤ mtz ∧ mtz ≤ 100) (hi : 0 ≤ i ∧ i < mnd) (hw : 0 ≤ w ∧ w < 26) (hp : 0 ≤ p ∧ p ≤ 2)
    (hQ : ∀ mnn' mon' mde' mfn', MRw mt mtz mfa mnd msc miu mnm mso mou mpl mar mex men mnn' mon' mde' mbt mfo mfn' → (cED mt mtz i w p ≠ -1 → ∀ k, 0 ≤ k → k < mnd → mnn' k = cNN mt mtz i w p k ∧ mon' k = cOO mt mtz p (cNN mt mtz i w p) k) → Q (some (vI (cED mt mtz i w p))) (hA, (heapM mtz mt mk mkf mot mox mfa mnd miu mnm mso mou mpl msc mar mex men mnn' mon' mde' mbt mfo mfn' mma mit mfm msz mim mmo mfi))) : RNd ro (d + 6) 154 [vR 200, vI i, vI w, vI p] (hA, (heapM mtz mt mk mkf mot mox mfa mnd miu mnm mso mou mpl msc mar mex men mnn mon mde mbt mfo mfn mma mit mfm msz mim mmo mfi)) Q := by
  obtain ⟨⟨hfa, hnd, hsc⟩, hS, hA', hN, hW, ⟨R1, R2, R3, R4, R5, R6, R7⟩, hfr⟩ := id hM
  obtain ⟨r1, r2, r3, r4, -⟩ := id R1
  obtain ⟨S1, S2, S3, S4⟩ := id hS
  have hSc : TS (cND mt mtz) (cSC mt mtz) (cIU mt mtz) (cSO mt mtz) (cAR mt mtz) (cEX mt mtz) := by rw [← hnd, ← hsc]; exact hS
  have hBT : ∀ k, 0 ≤ k → k < mnd → cBT mt mtz k = -1 ∨ (0 ≤ cBT mt mtz k ∧ cBT mt mtz k < mnd ∧ cNM mt mtz (cBT mt mtz k) = cNM mt mtz k) := fun k a b => by
    rcases cBT_dl hSc a (by omega) with e | ⟨e1, e2, e3, e4⟩
    · exact Or.inl e
    · exact Or.inr ⟨e1, by omega, e4⟩
  have k1 : rI (fb mnn mnm 0 mnd) 0 25 := rI_fb R2 (fun q _ _ => r2 q)
  have k2 : rI (fb mon mou 0 mnd) 0 4 := rI_fb R3 (fun q _ _ => by have := r4 q; omega)
  have m1' : ∀ k, 0 ≤ k → k < mnd → fb mnn mnm 0 mnd k = cNM mt mtz k := fun k a b => by rw [fb_in a b]; exact (hN k a b).1
  have m2' : ∀ k, 0 ≤ k → k < mnd → fb mon mou 0 mnd k = cOU mt mtz k := fun k a b => by rw [fb_in a b]; exact (hN k a b).2.1
  have sr := spr_rg mnd (cNM mt mtz)
  refine WP_run [19, 35] 40 ?_
  refine r_fresh (NM := cNM mt mtz) S1 (fun k a b => (hN k a b).1) r2 ?_
  refine c2 (fun q => ?_) (fun q => ?_)
  · refine WP_run [35] 40 ?_
    refine r_asTold S1 ?_
    refine t2 ?_
    exact r_eb35 (MRw_up hM k1 k2 R4 R7) htz hi hw hp (fun z => q z.1) (fun k a b => ⟨m1' k a b, m2' k a b⟩) (by unfold cNN; rw [if_neg q]) hQ
  · refine c2 (fun q2 => ?_) (fun q2 => ?_)
    · refine WP_run [35] 40 ?_
      refine r_asTold S1 ?_
      refine f2 ?_
      refine r_pushes (NM := cNM mt mtz) (BT := cBT mt mtz) S1 hw (fun k a b => ⟨(hN k a b).1, (hW k a b).1⟩) hBT r2 R5 ?_
      refine r_eb35 (nn0 := cPs mt mtz w (cNM mt mtz)) (MRw_up hM (rI_fb k1 (fun k a b => ite_rg (by omega) (k1 k))) k2 R4 R7) htz hi hw hp (fun z => q2 (by rw [hnd]; exact z.2)) (fun k a b => ⟨?_, m2' k a b⟩) (by unfold cNN; rw [if_pos q]) hQ
      rw [fb_in a b]
      unfold cPs
      rw [m1' k a b, ← hnd]
    · have hq := hQ mnn mon mde mfn hM (fun z => absurd (cED_n (fun y => y.1 ⟨q, by rw [← hnd]; exact q2⟩)) z)
      rw [cED_n (fun y => y.1 ⟨q, by rw [← hnd]; exact q2⟩)] at hq
      exact ri hq
end MPLANS3
