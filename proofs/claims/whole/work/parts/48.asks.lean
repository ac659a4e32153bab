/-! ===== what is asked of nodes and scopes: the answers, and the reference ===== -/
def aNode (tx : Int → Int) (n i what : Int) : Int := if (0 ≤ i ∧ i < cND tx n) ∧ (0 ≤ what ∧ what ≤ 4) then (if what = 0 then cIU tx n i else if what = 1 then cNM tx n i + 97 else if what = 2 then cSO tx n i else if what = 3 then cOU tx n i else cPL tx n i) else -2
def aBound (tx : Int → Int) (n i : Int) : Int := if 0 ≤ i ∧ i < cND tx n then (if cIU tx n i = 1 then cBT tx n i else -3) else -2
section ASKM
variable {ro : Nat × (Int → Int)} {d : Nat} {Q : Option AV → AH → Prop} {hA : List AC} {mtz : Int} {mt : Int → Int} {mk mkf : Int} {mot mox : Int → Int} {mfa mnd : Int} {miu mnm mso mou mpl : Int → Int} {msc : Int} {mar mex men mnn mon mde mbt mfo mfn mma mit mfm msz mim mmo : Int → Int} {mfi : Int}
set_option maxRecDepth 100000 in
set_option maxHeartbeats 4000000 in
theorem r_isNode {i : Int} (hi : rg i) (htz : 0 ≤ mtz ∧ mtz ≤ 100) (htb : rI mt 0 255) (hR : RM miu mnm mso mou mpl mar mex men mnn mon mde mbt mfo mfn)
    (hQ : ∀ mfa' mnd' msc' miu' mnm' mso' mou' mpl' mar' mex' men' mnn' mon' mde' mbt' mfo' mfn', MRd mt mtz mfa' mnd' msc' miu' mnm' mso' mou' mpl' mar' mex' men' mnn' mon' mde' mbt' mfo' mfn' → (0 ≤ i ∧ i < mnd' → Q (some (vI 1)) (hA, (heapM mtz mt mk mkf mot mox mfa' mnd' miu' mnm' mso' mou' mpl' msc' mar' mex' men' mnn' mon' mde' mbt' mfo' mfn' mma mit mfm msz mim mmo mfi))) ∧ (¬ (0 ≤ i ∧ i < mnd') → Q (some (vI 0)) (hA, (heapM mtz mt mk mkf mot mox mfa' mnd' miu' mnm' mso' mou' mpl' msc' mar' mex' men' mnn' mon' mde' mbt' mfo' mfn' mma mit mfm msz mim mmo mfi)))) : RNd ro (d + 6) 126 [vR 200, vI i] (hA, (heapM mtz mt mk mkf mot mox mfa mnd miu mnm mso mou mpl msc mar mex men mnn mon mde mbt mfo mfn mma mit mfm msz mim mmo mfi)) Q := by
  refine WP_run [] 20 ?_
  refine r_reads htz htb hR (fun mfa' mnd' msc' miu' mnm' mso' mou' mpl' mar' mex' men' mnn' mon' mde' mbt' mfo' mfn' hM => ?_)
  have S1 := hM.2.1.1
  obtain ⟨q1, q0⟩ := hQ mfa' mnd' msc' miu' mnm' mso' mou' mpl' mar' mex' men' mnn' mon' mde' mbt' mfo' mfn' hM
  refine r_in hi (by unfold rg; omega) (by unfold rg; omega) (fun h => ?_) (fun h => ?_)
  · exact rz (q1 (by omega))
  · exact rz (q0 (by omega))
set_option maxRecDepth 100000 in
set_option maxHeartbeats 4000000 in
theorem r_isScope {i : Int} (hi : rg i) (htz : 0 ≤ mtz ∧ mtz ≤ 100) (htb : rI mt 0 255) (hR : RM miu mnm mso mou mpl mar mex men mnn mon mde mbt mfo mfn)
    (hQ : ∀ mfa' mnd' msc' miu' mnm' mso' mou' mpl' mar' mex' men' mnn' mon' mde' mbt' mfo' mfn', MRd mt mtz mfa' mnd' msc' miu' mnm' mso' mou' mpl' mar' mex' men' mnn' mon' mde' mbt' mfo' mfn' → (0 ≤ i ∧ i < msc' → Q (some (vI 1)) (hA, (heapM mtz mt mk mkf mot mox mfa' mnd' miu' mnm' mso' mou' mpl' msc' mar' mex' men' mnn' mon' mde' mbt' mfo' mfn' mma mit mfm msz mim mmo mfi))) ∧ (¬ (0 ≤ i ∧ i < msc') → Q (some (vI 0)) (hA, (heapM mtz mt mk mkf mot mox mfa' mnd' miu' mnm' mso' mou' mpl' msc' mar' mex' men' mnn' mon' mde' mbt' mfo' mfn' mma mit mfm msz mim mmo mfi)))) : RNd ro (d + 6) 129 [vR 200, vI i] (hA, (heapM mtz mt mk mkf mot mox mfa mnd miu mnm mso mou mpl msc mar mex men mnn mon mde mbt mfo mfn mma mit mfm msz mim mmo mfi)) Q := by
  refine WP_run [] 20 ?_
  refine r_reads htz htb hR (fun mfa' mnd' msc' miu' mnm' mso' mou' mpl' mar' mex' men' mnn' mon' mde' mbt' mfo' mfn' hM => ?_)
  have S1 := hM.2.1.2.1
  obtain ⟨q1, q0⟩ := hQ mfa' mnd' msc' miu' mnm' mso' mou' mpl' mar' mex' men' mnn' mon' mde' mbt' mfo' mfn' hM
  refine r_in hi (by unfold rg; omega) (by unfold rg; omega) (fun h => ?_) (fun h => ?_)
  · exact rz (q1 (by omega))
  · exact rz (q0 (by omega))
set_option maxRecDepth 100000 in
set_option maxHeartbeats 4000000 in
theorem r_bound {i : Int} (hi : rg i) (htz : 0 ≤ mtz ∧ mtz ≤ 100) (htb : rI mt 0 255) (hR : RM miu mnm mso mou mpl mar mex men mnn mon mde mbt mfo mfn)
    (hQ : ∀ mfa' mnd' msc' miu' mnm' mso' mou' mpl' mar' mex' men' mnn' mon' mde' mbt' mfo' mfn', MRd mt mtz mfa' mnd' msc' miu' mnm' mso' mou' mpl' mar' mex' men' mnn' mon' mde' mbt' mfo' mfn' → Q (some (vI (aBound mt mtz i))) (hA, (heapM mtz mt mk mkf mot mox mfa' mnd' miu' mnm' mso' mou' mpl' msc' mar' mex' men' mnn' mon' mde' mbt' mfo' mfn' mma mit mfm msz mim mmo mfi))) : RNd ro (d + 7) 133 [vR 200, vI i] (hA, (heapM mtz mt mk mkf mot mox mfa mnd miu mnm mso mou mpl msc mar mex men mnn mon mde mbt mfo mfn mma mit mfm msz mim mmo mfi)) Q := by
  refine WP_run [] 30 ?_
  refine r_isNode hi htz htb hR (fun mfa' mnd' msc' miu' mnm' mso' mou' mpl' mar' mex' men' mnn' mon' mde' mbt' mfo' mfn' hM => ⟨fun h => ?_, fun h => ?_⟩)
  · obtain ⟨⟨hfa, hnd, hsc⟩, hS, hA', hN, hW, hT, ⟨R1, R2, R3, R4, R5, R6, R7⟩, hfr⟩ := id hM
    have S1 := hS.1
    have e1 := (hA'.1 i h.1 h.2).1
    have e2 := (hW i h.1 h.2).1
    have r1 := R1.1 i
    have hq := hQ mfa' mnd' msc' miu' mnm' mso' mou' mpl' mar' mex' men' mnn' mon' mde' mbt' mfo' mfn' hM
    unfold aBound at hq
    rw [if_pos (by omega)] at hq
    refine t1 ?_
    refine ix ?_
    refine c2 (fun q => ?_) (fun q => ?_)
    · rw [if_neg (by omega)] at hq
      exact ri hq
    · refine ix ?_
      rw [if_pos (by omega), ← e2] at hq
      exact ri hq
  · have hnd := hM.1.2.1
    have hq := hQ mfa' mnd' msc' miu' mnm' mso' mou' mpl' mar' mex' men' mnn' mon' mde' mbt' mfo' mfn' hM
    unfold aBound at hq
    rw [if_neg (by omega)] at hq
    refine f1 ?_
    exact ri hq
end ASKM
