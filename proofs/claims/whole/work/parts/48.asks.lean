/-! ===== what is asked of nodes and scopes: the answers, and the reference ===== -/
def aNode (tx : Int → Int) (n i what : Int) : Int := if (0 ≤ i ∧ i < cND tx n) ∧ (0 ≤ what ∧ what ≤ 4) then (if what = 0 then cIU tx n i else if what = 1 then cNM tx n i + 97 else if what = 2 then cSO tx n i else if what = 3 then cOU tx n i else cPL tx n i) else -2
def aBound (tx : Int → Int) (n i : Int) : Int := if 0 ≤ i ∧ i < cND tx n then (if cIU tx n i = 1 then cBT tx n i else -3) else -2
def aScope (tx : Int → Int) (n s what : Int) : Int := if (0 ≤ s ∧ s < cSC tx n) ∧ (0 ≤ what ∧ what ≤ 3) then (if what = 0 then cAR tx n s else if what = 1 then cEX tx n s else cntF (fun k => decide (cSO tx n k = s ∧ cIU tx n k = what - 2)) (cND tx n).toNat) else -2
def aOwn (tx : Int → Int) (n s w : Int) : Int := if (0 ≤ s ∧ s < cSC tx n) ∧ (97 ≤ w ∧ w ≤ 122) then cOW tx n (cNM tx n) s (w - 97) else -2
def noL (r : Int) : Int64 := Int64.ofNat 9223372036854775808 - i2lZ r
def aFam (tx : Int → Int) (n i : Int) : Int64 := if 0 ≤ i ∧ i < cND tx n then (if cIU tx n i = 0 then famB (cND tx n) (cFM tx n (cNM tx n)) i else noL (-3)) else noL (-2)
def aUses (tx : Int → Int) (n i : Int) : Int64 := if 0 ≤ i ∧ i < cND tx n then (if cIU tx n i = 0 then usesB (cND tx n) (cIU tx n) (cBT tx n) i else noL (-3)) else noL (-2)
def aHides (tx : Int → Int) (n i : Int) : Int := if 0 ≤ i ∧ i < cND tx n then (if cIU tx n i = 0 then BN (cND tx n) (cIU tx n) (cSO tx n) (cAR tx n) (cEX tx n) (cNM tx n) (cSO tx n i) 1 (cNM tx n i) else -3) else -2
section ASKM
variable {ro : Nat × (Int → Int)} {d : Nat} {Q : Option AV → AH → Prop} {hA : List AC} {mtz : Int} {mt : Int → Int} {mk mkf : Int} {mot mox : Int → Int} {mfa mnd : Int} {miu mnm mso mou mpl : Int → Int} {msc : Int} {mar mex men mnn mon mde mbt mfo mfn mma mit mfm msz mim mmo : Int → Int} {mfi : Int}
set_option maxRecDepth 100000 in
set_option maxHeartbeats 4000000 in
theorem r_isNode {i : Int} (hi : rg i) (htz : 0 ≤ mtz ∧ mtz ≤ 100) (htb : rI mt 0 255) (hR : RM miu mnm mso mou mpl mar mex men mnn mon mde mbt mfo mfn)
    (hQ : ∀ mfa' mnd' msc' miu' mnm' mso' mou' mpl' mar' mex' men' mnn' mon' mde' mbt' mfo' mfn', MRd mt mtz mfa' mnd' msc' miu' mnm' mso' mou' mpl' mar' mex' men' mnn' mon' mde' mbt' mfo' mfn' → (0 ≤ i ∧ i < mnd' → Q (some (vI 1)) (hA, (heapM mtz mt mk mkf mot mox mfa' mnd' miu' mnm' mso' mou' mpl' msc' mar' mex' men' mnn' mon' mde' mbt' mfo' mfn' mma mit mfm msz mim mmo mfi))) ∧ (¬ (0 ≤ i ∧ i < mnd') → Q (some (vI 0)) (hA, (heapM mtz mt mk mkf mot mox mfa' mnd' miu' mnm' mso' mou' mpl' msc' mar' mex' men' mnn' mon' mde' mbt' mfo' mfn' mma mit mfm msz mim mmo mfi)))) : RNd ro (d + 6) 126 [vR 200, vI i] (hA, (heapM mtz mt mk mkf mot mox mfa mnd miu mnm mso mou mpl msc mar mex men mnn mon mde mbt mfo mfn mma mit mfm msz mim mmo mfi)) Q := by
  refine WP_run [] 20 ?_
  refine r_reads htz htb hR (fun mfa' mnd' msc' miu' mnm' mso' mou' mpl' mar' mex' men' mnn' mon' mde' mbt' mfo' mfn' hM => ?_)
  have S1 := hM.2.1.1
  obtain ⟨q1, q0⟩ := hQ mfa' mnd' msc' miu' mnm' mso' mou' mpl' mar' mex' men' mnn' mon' mde' mbt' mfo' mfn' hM
  refine r_in hi (by unfold rg; omega) (by unfold rg; omega) (fun h => ?_) (fun h => ?_)
  · exact rz (q1 (by omega))
  · exact rz (q0 (by omega))
set_option maxRecDepth 100000 in
set_option maxHeartbeats 4000000 in
theorem r_isScope {i : Int} (hi : rg i) (htz : 0 ≤ mtz ∧ mtz ≤ 100) (htb : rI mt 0 255) (hR : RM miu mnm mso mou mpl mar mex men mnn mon mde mbt mfo mfn)
    (hQ : ∀ mfa' mnd' msc' miu' mnm' mso' mou' mpl' mar' mex' men' mnn' mon' mde' mbt' mfo' mfn', MRd mt mtz mfa' mnd' msc' miu' mnm' mso' mou' mpl' mar' mex' men' mnn' mon' mde' mbt' mfo' mfn' → (0 ≤ i ∧ i < msc' → Q (some (vI 1)) (hA, (heapM mtz mt mk mkf mot mox mfa' mnd' miu' mnm' mso' mou' mpl' msc' mar' mex' men' mnn' mon' mde' mbt' mfo' mfn' mma mit mfm msz mim mmo mfi))) ∧ (¬ (0 ≤ i ∧ i < msc') → Q (some (vI 0)) (hA, (heapM mtz mt mk mkf mot mox mfa' mnd' miu' mnm' mso' mou' mpl' msc' mar' mex' men' mnn' mon' mde' mbt' mfo' mfn' mma mit mfm msz mim mmo mfi)))) : RNd ro (d + 6) 129 [vR 200, vI i] (hA, (heapM mtz mt mk mkf mot mox mfa mnd miu mnm mso mou mpl msc mar mex men mnn mon mde mbt mfo mfn mma mit mfm msz mim mmo mfi)) Q := by
  refine WP_run [] 20 ?_
  refine r_reads htz htb hR (fun mfa' mnd' msc' miu' mnm' mso' mou' mpl' mar' mex' men' mnn' mon' mde' mbt' mfo' mfn' hM => ?_)
  have S1 := hM.2.1.2.1
  obtain ⟨q1, q0⟩ := hQ mfa' mnd' msc' miu' mnm' mso' mou' mpl' mar' mex' men' mnn' mon' mde' mbt' mfo' mfn' hM
  refine r_in hi (by unfold rg; omega) (by unfold rg; omega) (fun h => ?_) (fun h => ?_)
  · exact rz (q1 (by omega))
  · exact rz (q0 (by omega))
set_option maxRecDepth 100000 in
set_option maxHeartbeats 4000000 in
theorem r_bound {i : Int} (hi : rg i) (htz : 0 ≤ mtz ∧ mtz ≤ 100) (htb : rI mt 0 255) (hR : RM miu mnm mso mou mpl mar mex men mnn mon mde mbt mfo mfn)
    (hQ : ∀ mfa' mnd' msc' miu' mnm' mso' mou' mpl' mar' mex' men' mnn' mon' mde' mbt' mfo' mfn', MRd mt mtz mfa' mnd' msc' miu' mnm' mso' mou' mpl' mar' mex' men' mnn' mon' mde' mbt' mfo' mfn' → Q (some (vI (aBound mt mtz i))) (hA, (heapM mtz mt mk mkf mot mox mfa' mnd' miu' mnm' mso' mou' mpl' msc' mar' mex' men' mnn' mon' mde' mbt' mfo' mfn' mma mit mfm msz mim mmo mfi))) : RNd ro (d + 7) 133 [vR 200, vI i] (hA, (heapM mtz mt mk mkf mot mox mfa mnd miu mnm mso mou mpl msc mar mex men mnn mon mde mbt mfo mfn mma mit mfm msz mim mmo mfi)) Q := by
  refine WP_run [] 30 ?_
  refine r_isNode hi htz htb hR (fun mfa' mnd' msc' miu' mnm' mso' mou' mpl' mar' mex' men' mnn' mon' mde' mbt' mfo' mfn' hM => ⟨fun h => ?_, fun h => ?_⟩)
  · obtain ⟨⟨hfa, hnd, hsc⟩, hS, hA', hN, hW, hT, ⟨R1, R2, R3, R4, R5, R6, R7⟩, hfr⟩ := id hM
    have S1 := hS.1
    have e1 := (hA'.1 i h.1 h.2).1
    have e2 := (hW i h.1 h.2).1
    have r1 := R1.1 i
    have hq := hQ mfa' mnd' msc' miu' mnm' mso' mou' mpl' mar' mex' men' mnn' mon' mde' mbt' mfo' mfn' hM
    unfold aBound at hq
    rw [if_pos (by omega)] at hq
    refine t1 ?_
    refine ix ?_
    refine c2 (fun q => ?_) (fun q => ?_)
    · rw [if_neg (by omega)] at hq
      exact ri hq
    · refine ix ?_
      rw [if_pos (by omega), ← e2] at hq
      exact ri hq
  · have hnd := hM.1.2.1
    have hq := hQ mfa' mnd' msc' miu' mnm' mso' mou' mpl' mar' mex' men' mnn' mon' mde' mbt' mfo' mfn' hM
    unfold aBound at hq
    rw [if_neg (by omega)] at hq
    refine f1 ?_
    exact ri hq
set_option maxRecDepth 100000 in
set_option maxHeartbeats 4000000 in
theorem r_no {r : Int} {h : AH} (hQ : Q (some (vL (noL r))) h) : RNd ro (d + 1) 103 [vI r] h Q := by
  refine WP_run [] 20 ?_
  exact hQ
set_option maxRecDepth 100000 in
set_option maxHeartbeats 4000000 in
theorem r_node {i what : Int} (hi : rg i) (hwh : rg what) (htz : 0 ≤ mtz ∧ mtz ≤ 100) (htb : rI mt 0 255) (hR : RM miu mnm mso mou mpl mar mex men mnn mon mde mbt mfo mfn)
    (hQ : ∀ mfa' mnd' msc' miu' mnm' mso' mou' mpl' mar' mex' men' mnn' mon' mde' mbt' mfo' mfn', MRd mt mtz mfa' mnd' msc' miu' mnm' mso' mou' mpl' mar' mex' men' mnn' mon' mde' mbt' mfo' mfn' → Q (some (vI (aNode mt mtz i what))) (hA, (heapM mtz mt mk mkf mot mox mfa' mnd' miu' mnm' mso' mou' mpl' msc' mar' mex' men' mnn' mon' mde' mbt' mfo' mfn' mma mit mfm msz mim mmo mfi))) : RNd ro (d + 7) 128 [vR 200, vI i, vI what] (hA, (heapM mtz mt mk mkf mot mox mfa mnd miu mnm mso mou mpl msc mar mex men mnn mon mde mbt mfo mfn mma mit mfm msz mim mmo mfi)) Q := by
  refine WP_run [] 30 ?_
  refine r_isNode hi htz htb hR (fun mfa' mnd' msc' miu' mnm' mso' mou' mpl' mar' mex' men' mnn' mon' mde' mbt' mfo' mfn' hM => ⟨fun h => ?_, fun h => ?_⟩)
  · obtain ⟨⟨hfa, hnd, hsc⟩, hS, hA', hN, hW, hT, ⟨R1, R2, R3, R4, R5, R6, R7⟩, hfr⟩ := id hM
    have S1 := hS.1
    obtain ⟨e1, e2⟩ := hA'.1 i h.1 h.2
    obtain ⟨e3, e4, e5⟩ := hN i h.1 h.2
    have hq := hQ mfa' mnd' msc' miu' mnm' mso' mou' mpl' mar' mex' men' mnn' mon' mde' mbt' mfo' mfn' hM
    unfold aNode at hq
    refine f1 ?_
    refine r_in hwh (by unfold rg; omega) (by unfold rg; omega) (fun h2 => ?_) (fun h2 => ?_)
    · rw [if_pos (by omega)] at hq
      refine f1 ?_
      refine WP_run [] 20 ?_
      refine m1 ?_
      by_cases q0 : what = 0
      · refine st ?_
        refine ix ?_
        rw [if_pos q0, ← e1] at hq
        exact ri (ri hq)
      · refine sf ?_
        rw [if_neg q0] at hq
        by_cases q1 : what = 1
        · refine st ?_
          refine ix ?_
          rw [if_pos q1, ← e3] at hq
          exact ri (ri hq)
        · refine sf ?_
          rw [if_neg q1] at hq
          by_cases q2 : what = 2
          · refine st ?_
            refine ix ?_
            rw [if_pos q2, ← e2] at hq
            exact ri (ri hq)
          · refine sf ?_
            rw [if_neg q2] at hq
            by_cases q3 : what = 3
            · refine st ?_
              refine ix ?_
              rw [if_pos q3, ← e4] at hq
              exact ri (ri hq)
            · refine sf ?_
              rw [if_neg q3, ← e5] at hq
              refine ix ?_
              exact ri (ri hq)
    · rw [if_neg (by omega)] at hq
      refine t1 ?_
      exact ri hq
  · have hnd := hM.1.2.1
    have hq := hQ mfa' mnd' msc' miu' mnm' mso' mou' mpl' mar' mex' men' mnn' mon' mde' mbt' mfo' mfn' hM
    unfold aNode at hq
    rw [if_neg (by omega)] at hq
    refine t1 ?_
    exact ri hq
set_option maxRecDepth 100000 in
set_option maxHeartbeats 4000000 in
theorem r_scope {i what : Int} (hi : rg i) (hwh : rg what) (htz : 0 ≤ mtz ∧ mtz ≤ 100) (htb : rI mt 0 255) (hR : RM miu mnm mso mou mpl mar mex men mnn mon mde mbt mfo mfn)
    (hQ : ∀ mfa' mnd' msc' miu' mnm' mso' mou' mpl' mar' mex' men' mnn' mon' mde' mbt' mfo' mfn', MRd mt mtz mfa' mnd' msc' miu' mnm' mso' mou' mpl' mar' mex' men' mnn' mon' mde' mbt' mfo' mfn' → Q (some (vI (aScope mt mtz i what))) (hA, (heapM mtz mt mk mkf mot mox mfa' mnd' miu' mnm' mso' mou' mpl' msc' mar' mex' men' mnn' mon' mde' mbt' mfo' mfn' mma mit mfm msz mim mmo mfi))) : RNd ro (d + 7) 132 [vR 200, vI i, vI what] (hA, (heapM mtz mt mk mkf mot mox mfa mnd miu mnm mso mou mpl msc mar mex men mnn mon mde mbt mfo mfn mma mit mfm msz mim mmo mfi)) Q := by
  refine WP_run [] 30 ?_
  refine r_isScope hi htz htb hR (fun mfa' mnd' msc' miu' mnm' mso' mou' mpl' mar' mex' men' mnn' mon' mde' mbt' mfo' mfn' hM => ⟨fun h => ?_, fun h => ?_⟩)
  · obtain ⟨⟨hfa, hnd, hsc⟩, hS, hA', hN, hW, hT, ⟨R1, R2, R3, R4, R5, R6, R7⟩, hfr⟩ := id hM
    have S1 := hS.1
    have S2 := hS.2.1
    obtain ⟨e1, e2⟩ := hA'.2 i h.1 h.2
    have hq := hQ mfa' mnd' msc' miu' mnm' mso' mou' mpl' mar' mex' men' mnn' mon' mde' mbt' mfo' mfn' hM
    unfold aScope at hq
    refine f1 ?_
    refine r_in hwh (by unfold rg; omega) (by unfold rg; omega) (fun h2 => ?_) (fun h2 => ?_)
    · rw [if_pos (by omega)] at hq
      refine f1 ?_
      refine WP_run [] 30 ?_
      refine c1 (fun q => ?_) (fun q => ?_)
      · rw [if_neg q] at hq
        refine c2 (fun q2 => ?_) (fun q2 => ?_)
        · rw [if_neg q2, ← hnd] at hq
          refine r_manyIn (IU := cIU mt mtz) (SO := cSO mt mtz) S1 hi (by omega) (fun k a b => hA'.1 k a b) R1.1 R1.2.2.1 ?_
          exact ri (ri hq)
        · refine ix ?_
          rw [if_pos q2, ← e2] at hq
          exact ri (ri hq)
      · refine ix ?_
        rw [if_pos q, ← e1] at hq
        exact ri (ri hq)
    · rw [if_neg (by omega)] at hq
      refine t1 ?_
      exact ri hq
  · have hsc := hM.1.2.2
    have hq := hQ mfa' mnd' msc' miu' mnm' mso' mou' mpl' mar' mex' men' mnn' mon' mde' mbt' mfo' mfn' hM
    unfold aScope at hq
    rw [if_neg (by omega)] at hq
    refine t1 ?_
    exact ri hq
set_option maxRecDepth 100000 in
set_option maxHeartbeats 4000000 in
theorem r_family {i : Int} (hi : rg i) (htz : 0 ≤ mtz ∧ mtz ≤ 100) (htb : rI mt 0 255) (hR : RM miu mnm mso mou mpl mar mex men mnn mon mde mbt mfo mfn)
    (hQ : ∀ mfa' mnd' msc' miu' mnm' mso' mou' mpl' mar' mex' men' mnn' mon' mde' mbt' mfo' mfn', MRd mt mtz mfa' mnd' msc' miu' mnm' mso' mou' mpl' mar' mex' men' mnn' mon' mde' mbt' mfo' mfn' → Q (some (vL (aFam mt mtz i))) (hA, (heapM mtz mt mk mkf mot mox mfa' mnd' miu' mnm' mso' mou' mpl' msc' mar' mex' men' mnn' mon' mde' mbt' mfo' mfn' mma mit mfm msz mim mmo mfi))) : RNd ro (d + 7) 136 [vR 200, vI i] (hA, (heapM mtz mt mk mkf mot mox mfa mnd miu mnm mso mou mpl msc mar mex men mnn mon mde mbt mfo mfn mma mit mfm msz mim mmo mfi)) Q := by
  refine WP_run [] 30 ?_
  refine r_isNode hi htz htb hR (fun mfa' mnd' msc' miu' mnm' mso' mou' mpl' mar' mex' men' mnn' mon' mde' mbt' mfo' mfn' hM => ⟨fun h => ?_, fun h => ?_⟩)
  · obtain ⟨⟨hfa, hnd, hsc⟩, hS, hA', hN, hW, hT, ⟨R1, R2, R3, R4, R5, R6, R7⟩, hfr⟩ := id hM
    have S1 := hS.1
    have e1 := (hA'.1 i h.1 h.2).1
    have r1 := R1.1 i
    have hq := hQ mfa' mnd' msc' miu' mnm' mso' mou' mpl' mar' mex' men' mnn' mon' mde' mbt' mfo' mfn' hM
    unfold aFam at hq
    rw [if_pos (by omega)] at hq
    refine t1 ?_
    refine ix ?_
    refine c1 (fun q => ?_) (fun q => ?_)
    · rw [if_neg (by omega)] at hq
      exact r_no hq
    · rw [if_pos (by omega), ← hnd] at hq
      refine r_familyBits S1 h (fun k a b => (hW k a b).2) R6 ?_
      exact hq
  · have hnd := hM.1.2.1
    have hq := hQ mfa' mnd' msc' miu' mnm' mso' mou' mpl' mar' mex' men' mnn' mon' mde' mbt' mfo' mfn' hM
    unfold aFam at hq
    rw [if_neg (by omega)] at hq
    refine f1 ?_
    exact r_no hq
set_option maxRecDepth 100000 in
set_option maxHeartbeats 4000000 in
theorem r_uses {i : Int} (hi : rg i) (htz : 0 ≤ mtz ∧ mtz ≤ 100) (htb : rI mt 0 255) (hR : RM miu mnm mso mou mpl mar mex men mnn mon mde mbt mfo mfn)
    (hQ : ∀ mfa' mnd' msc' miu' mnm' mso' mou' mpl' mar' mex' men' mnn' mon' mde' mbt' mfo' mfn', MRd mt mtz mfa' mnd' msc' miu' mnm' mso' mou' mpl' mar' mex' men' mnn' mon' mde' mbt' mfo' mfn' → Q (some (vL (aUses mt mtz i))) (hA, (heapM mtz mt mk mkf mot mox mfa' mnd' miu' mnm' mso' mou' mpl' msc' mar' mex' men' mnn' mon' mde' mbt' mfo' mfn' mma mit mfm msz mim mmo mfi))) : RNd ro (d + 7) 138 [vR 200, vI i] (hA, (heapM mtz mt mk mkf mot mox mfa mnd miu mnm mso mou mpl msc mar mex men mnn mon mde mbt mfo mfn mma mit mfm msz mim mmo mfi)) Q := by
  refine WP_run [] 30 ?_
  refine r_isNode hi htz htb hR (fun mfa' mnd' msc' miu' mnm' mso' mou' mpl' mar' mex' men' mnn' mon' mde' mbt' mfo' mfn' hM => ⟨fun h => ?_, fun h => ?_⟩)
  · obtain ⟨⟨hfa, hnd, hsc⟩, hS, hA', hN, hW, hT, ⟨R1, R2, R3, R4, R5, R6, R7⟩, hfr⟩ := id hM
    have S1 := hS.1
    have e1 := (hA'.1 i h.1 h.2).1
    have r1 := R1.1 i
    have hq := hQ mfa' mnd' msc' miu' mnm' mso' mou' mpl' mar' mex' men' mnn' mon' mde' mbt' mfo' mfn' hM
    unfold aUses at hq
    rw [if_pos (by omega)] at hq
    refine t1 ?_
    refine ix ?_
    refine c1 (fun q => ?_) (fun q => ?_)
    · rw [if_neg (by omega)] at hq
      exact r_no hq
    · rw [if_pos (by omega), ← hnd] at hq
      refine r_usesOf (IU := cIU mt mtz) (BT := cBT mt mtz) S1 hi (fun k a b => ⟨(hA'.1 k a b).1, (hW k a b).1⟩) R1.1 R5 ?_
      exact hq
  · have hnd := hM.1.2.1
    have hq := hQ mfa' mnd' msc' miu' mnm' mso' mou' mpl' mar' mex' men' mnn' mon' mde' mbt' mfo' mfn' hM
    unfold aUses at hq
    rw [if_neg (by omega)] at hq
    refine f1 ?_
    exact r_no hq
set_option maxRecDepth 100000 in
set_option maxHeartbeats 4000000 in
theorem r_own {i w : Int} (hi : rg i) (hw : rg w) (htz : 0 ≤ mtz ∧ mtz ≤ 100) (htb : rI mt 0 255) (hR : RM miu mnm mso mou mpl mar mex men mnn mon mde mbt mfo mfn)
    (hQ : ∀ mfa' mnd' msc' miu' mnm' mso' mou' mpl' mar' mex' men' mnn' mon' mde' mbt' mfo' mfn', MRd mt mtz mfa' mnd' msc' miu' mnm' mso' mou' mpl' mar' mex' men' mnn' mon' mde' mbt' mfo' mfn' → Q (some (vI (aOwn mt mtz i w))) (hA, (heapM mtz mt mk mkf mot mox mfa' mnd' miu' mnm' mso' mou' mpl' msc' mar' mex' men' mnn' mon' mde' mbt' mfo' mfn' mma mit mfm msz mim mmo mfi))) : RNd ro (d + 7) 134 [vR 200, vI i, vI w] (hA, (heapM mtz mt mk mkf mot mox mfa mnd miu mnm mso mou mpl msc mar mex men mnn mon mde mbt mfo mfn mma mit mfm msz mim mmo mfi)) Q := by
  refine WP_run [] 30 ?_
  refine r_isScope hi htz htb hR (fun mfa' mnd' msc' miu' mnm' mso' mou' mpl' mar' mex' men' mnn' mon' mde' mbt' mfo' mfn' hM => ⟨fun h => ?_, fun h => ?_⟩)
  · obtain ⟨⟨hfa, hnd, hsc⟩, hS, hA', hN, hW, hT, ⟨R1, R2, R3, R4, R5, R6, R7⟩, hfr⟩ := id hM
    have hq := hQ mfa' mnd' msc' miu' mnm' mso' mou' mpl' mar' mex' men' mnn' mon' mde' mbt' mfo' mfn' hM
    unfold aOwn at hq
    refine f1 ?_
    refine r_isName hw (fun h2 => ?_) (fun h2 => ?_)
    · rw [if_pos (by omega)] at hq
      refine f1 ?_
      refine r_ownNow hS hA' (by omega) (by omega) R4 hT ?_
      unfold cOW at hq
      rw [← hnd] at hq
      exact ri hq
    · rw [if_neg (by omega)] at hq
      refine t1 ?_
      exact ri hq
  · have hsc := hM.1.2.2
    have hq := hQ mfa' mnd' msc' miu' mnm' mso' mou' mpl' mar' mex' men' mnn' mon' mde' mbt' mfo' mfn' hM
    unfold aOwn at hq
    rw [if_neg (by omega)] at hq
    refine t1 ?_
    exact ri hq
set_option maxRecDepth 100000 in
set_option maxHeartbeats 4000000 in
theorem r_hides {i : Int} (hi : rg i) (htz : 0 ≤ mtz ∧ mtz ≤ 100) (htb : rI mt 0 255) (hR : RM miu mnm mso mou mpl mar mex men mnn mon mde mbt mfo mfn)
    (hQ : ∀ mfa' mnd' msc' miu' mnm' mso' mou' mpl' mar' mex' men' mnn' mon' mde' mbt' mfo' mfn', MRd mt mtz mfa' mnd' msc' miu' mnm' mso' mou' mpl' mar' mex' men' mnn' mon' mde' mbt' mfo' mfn' → Q (some (vI (aHides mt mtz i))) (hA, (heapM mtz mt mk mkf mot mox mfa' mnd' miu' mnm' mso' mou' mpl' msc' mar' mex' men' mnn' mon' mde' mbt' mfo' mfn' mma mit mfm msz mim mmo mfi))) : RNd ro (d + 7) 140 [vR 200, vI i] (hA, (heapM mtz mt mk mkf mot mox mfa mnd miu mnm mso mou mpl msc mar mex men mnn mon mde mbt mfo mfn mma mit mfm msz mim mmo mfi)) Q := by
  refine WP_run [] 30 ?_
  refine r_isNode hi htz htb hR (fun mfa' mnd' msc' miu' mnm' mso' mou' mpl' mar' mex' men' mnn' mon' mde' mbt' mfo' mfn' hM => ⟨fun h => ?_, fun h => ?_⟩)
  · obtain ⟨⟨hfa, hnd, hsc⟩, hS, hA', hN, hW, hT, ⟨R1, R2, R3, R4, R5, R6, R7⟩, hfr⟩ := id hM
    have S1 := hS.1
    have S2 := hS.2.1
    obtain ⟨e1, e2⟩ := hA'.1 i h.1 h.2
    obtain ⟨e3, -, -⟩ := hN i h.1 h.2
    have r1 := R1.1 i
    have r2 := R1.2.1 i
    obtain ⟨s1, s2⟩ := hS.2.2.1 i h.1 h.2
    have e6 := (hA'.2 (cSO mt mtz i) s2.1 s2.2).1
    have s4 := (hS.2.2.2 (cSO mt mtz i) s2.1 s2.2).1
    have hq := hQ mfa' mnd' msc' miu' mnm' mso' mou' mpl' mar' mex' men' mnn' mon' mde' mbt' mfo' mfn' hM
    unfold aHides at hq
    rw [if_pos (by omega)] at hq
    refine t1 ?_
    refine ix ?_
    refine c1 (fun q => ?_) (fun q => ?_)
    · rw [if_neg (by omega)] at hq
      exact ri hq
    · rw [if_pos (by omega), ← hnd] at hq
      have eg : goOut (cAR mt mtz) (1 : Int).toNat (cSO mt mtz i) = cAR mt mtz (cSO mt mtz i) := by
        show (if cSO mt mtz i < 0 then cSO mt mtz i else cAR mt mtz (cSO mt mtz i)) = _
        rw [if_neg (by omega)]
      unfold BN at hq
      rw [eg] at hq
      refine WP_run [] 30 ?_
      refine ix ?_
      refine ix ?_
      rw [e2, e6]
      refine c2 (fun q2 => ?_) (fun q2 => ?_)
      · refine ix ?_
        refine r_boundFrom hS hA' (by omega) (by omega) (by omega) R4 hT ?_
        rw [e3]
        exact ri (ri hq)
      · rw [lkp_neg (by omega)] at hq
        exact ri (ri hq)
  · have hnd := hM.1.2.1
    have hq := hQ mfa' mnd' msc' miu' mnm' mso' mou' mpl' mar' mex' men' mnn' mon' mde' mbt' mfo' mfn' hM
    unfold aHides at hq
    rw [if_neg (by omega)] at hq
    refine f1 ?_
    exact ri hq
set_option maxRecDepth 100000 in
set_option maxHeartbeats 4000000 in
theorem r_idle (htz : 0 ≤ mtz ∧ mtz ≤ 100) (htb : rI mt 0 255) (hR : RM miu mnm mso mou mpl mar mex men mnn mon mde mbt mfo mfn)
    (hQ : ∀ mfa' mnd' msc' miu' mnm' mso' mou' mpl' mar' mex' men' mnn' mon' mde' mbt' mfo' mfn', MRd mt mtz mfa' mnd' msc' miu' mnm' mso' mou' mpl' mar' mex' men' mnn' mon' mde' mbt' mfo' mfn' → Q (some (vL (idleB (cND mt mtz) (cIU mt mtz) (cBT mt mtz)))) (hA, (heapM mtz mt mk mkf mot mox mfa' mnd' miu' mnm' mso' mou' mpl' msc' mar' mex' men' mnn' mon' mde' mbt' mfo' mfn' mma mit mfm msz mim mmo mfi))) : RNd ro (d + 7) 143 [vR 200] (hA, (heapM mtz mt mk mkf mot mox mfa mnd miu mnm mso mou mpl msc mar mex men mnn mon mde mbt mfo mfn mma mit mfm msz mim mmo mfi)) Q := by
  refine WP_run [] 30 ?_
  refine WP_run [] 30 ?_
  refine r_reads htz htb hR (fun mfa' mnd' msc' miu' mnm' mso' mou' mpl' mar' mex' men' mnn' mon' mde' mbt' mfo' mfn' hM => ?_)
  obtain ⟨⟨hfa, hnd, hsc⟩, hS, hA', hN, hW, hT, ⟨R1, R2, R3, R4, R5, R6, R7⟩, hfr⟩ := id hM
  have hq := hQ mfa' mnd' msc' miu' mnm' mso' mou' mpl' mar' mex' men' mnn' mon' mde' mbt' mfo' mfn' hM
  rw [← hnd] at hq
  refine r_idleNow (IU := cIU mt mtz) (BT := cBT mt mtz) hS.1 (fun k a b => ⟨(hA'.1 k a b).1, (hW k a b).1⟩) R1.1 R5 ?_
  exact hq
set_option maxRecDepth 100000 in
set_option maxHeartbeats 4000000 in
theorem r_fault (htz : 0 ≤ mtz ∧ mtz ≤ 100) (htb : rI mt 0 255) (hR : RM miu mnm mso mou mpl mar mex men mnn mon mde mbt mfo mfn)
    (hQ : ∀ mfa' mnd' msc' miu' mnm' mso' mou' mpl' mar' mex' men' mnn' mon' mde' mbt' mfo' mfn', MRd mt mtz mfa' mnd' msc' miu' mnm' mso' mou' mpl' mar' mex' men' mnn' mon' mde' mbt' mfo' mfn' → Q (some (vI (cFA mt mtz))) (hA, (heapM mtz mt mk mkf mot mox mfa' mnd' miu' mnm' mso' mou' mpl' msc' mar' mex' men' mnn' mon' mde' mbt' mfo' mfn' mma mit mfm msz mim mmo mfi))) : RNd ro (d + 7) 125 [vR 200] (hA, (heapM mtz mt mk mkf mot mox mfa mnd miu mnm mso mou mpl msc mar mex men mnn mon mde mbt mfo mfn mma mit mfm msz mim mmo mfi)) Q := by
  refine WP_run [] 30 ?_
  refine WP_run [] 30 ?_
  refine r_reads htz htb hR (fun mfa' mnd' msc' miu' mnm' mso' mou' mpl' mar' mex' men' mnn' mon' mde' mbt' mfo' mfn' hM => ?_)
  have hq := hQ mfa' mnd' msc' miu' mnm' mso' mou' mpl' mar' mex' men' mnn' mon' mde' mbt' mfo' mfn' hM
  rw [← hM.1.1] at hq
  exact ri (ri hq)
end ASKM
