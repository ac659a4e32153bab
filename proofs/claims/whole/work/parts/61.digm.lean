/-! ===== the reference's digest ===== -/
section DIGM
variable {ro : Nat × (Int → Int)} {d : Nat} {Q : Option AV → AH → Prop} {hA : List AC} {mtz : Int} {mt : Int → Int} {mk mkf : Int} {mot mox : Int → Int} {mfa mnd : Int} {miu mnm mso mou mpl : Int → Int} {msc : Int} {mar mex men mnn mon mde mbt mfo mfn mma mit mfm msz mim mmo : Int → Int} {mfi : Int}
set_option maxRecDepth 100000 in
set_option maxHeartbeats 4000000 in
theorem r_faultOf (htz : 0 ≤ mtz ∧ mtz ≤ 100) (htb : rI mt 0 255) (hR : RM miu mnm mso mou mpl mar mex men mnn mon mde mbt mfo mfn)
    (hQ : ∀ mfa' mnd' msc' miu' mnm' mso' mou' mpl' mar' mex' men' mnn' mon' mde' mbt' mfo' mfn', MRw mt mtz mfa' mnd' msc' miu' mnm' mso' mou' mpl' mar' mex' men' mnn' mon' mde' mbt' mfo' mfn' → Q (some (vI (cFA mt mtz))) (hA, (heapM mtz mt mk mkf mot mox mfa' mnd' miu' mnm' mso' mou' mpl' msc' mar' mex' men' mnn' mon' mde' mbt' mfo' mfn' mma mit mfm msz mim mmo mfi))) : RNd ro (d + 6) 124 [vR 200] (hA, (heapM mtz mt mk mkf mot mox mfa mnd miu mnm mso mou mpl msc mar mex men mnn mon mde mbt mfo mfn mma mit mfm msz mim mmo mfi)) Q := by
  refine WP_run [] 30 ?_
  refine r_reads htz htb hR (fun mfa' mnd' msc' miu' mnm' mso' mou' mpl' mar' mex' men' mnn' mon' mde' mbt' mfo' mfn' hM => ?_)
  have hq := hQ mfa' mnd' msc' miu' mnm' mso' mou' mpl' mar' mex' men' mnn' mon' mde' mbt' mfo' mfn' (MRd_w hM)
  rw [← hM.1.1] at hq
  exact ri hq
set_option maxRecDepth 100000 in
set_option maxHeartbeats 4000000 in
theorem r_idleOf (htz : 0 ≤ mtz ∧ mtz ≤ 100) (htb : rI mt 0 255) (hR : RM miu mnm mso mou mpl mar mex men mnn mon mde mbt mfo mfn)
    (hQ : ∀ mfa' mnd' msc' miu' mnm' mso' mou' mpl' mar' mex' men' mnn' mon' mde' mbt' mfo' mfn', MRw mt mtz mfa' mnd' msc' miu' mnm' mso' mou' mpl' mar' mex' men' mnn' mon' mde' mbt' mfo' mfn' → Q (some (vL (idleB (cND mt mtz) (cIU mt mtz) (cBT mt mtz)))) (hA, (heapM mtz mt mk mkf mot mox mfa' mnd' miu' mnm' mso' mou' mpl' msc' mar' mex' men' mnn' mon' mde' mbt' mfo' mfn' mma mit mfm msz mim mmo mfi))) : RNd ro (d + 6) 142 [vR 200] (hA, (heapM mtz mt mk mkf mot mox mfa mnd miu mnm mso mou mpl msc mar mex men mnn mon mde mbt mfo mfn mma mit mfm msz mim mmo mfi)) Q := by
  refine WP_run [] 30 ?_
  refine r_reads htz htb hR (fun mfa' mnd' msc' miu' mnm' mso' mou' mpl' mar' mex' men' mnn' mon' mde' mbt' mfo' mfn' hM => ?_)
  obtain ⟨⟨hfa, hnd, hsc⟩, hS, hA', hN, hW, hT, ⟨R1, R2, R3, R4, R5, R6, R7⟩, hfr⟩ := id hM
  have hq := hQ mfa' mnd' msc' miu' mnm' mso' mou' mpl' mar' mex' men' mnn' mon' mde' mbt' mfo' mfn' (MRd_w hM)
  rw [← hnd] at hq
  refine r_idleNow (IU := cIU mt mtz) (BT := cBT mt mtz) hS.1 (fun k a b => ⟨(hA'.1 k a b).1, (hW k a b).1⟩) R1.1 R5 ?_
  exact hq
set_option maxRecDepth 100000 in
set_option maxHeartbeats 4000000 in
theorem r_nmD {i w : Int} {h0 : Int64} (hi : rg i) (hw : rg w) (htz : 0 ≤ mtz ∧ mtz ≤ 100) (htb : rI mt 0 255) (hR : RM miu mnm mso mou mpl mar mex men mnn mon mde mbt mfo mfn)
    (hQ : ∀ mfa' mnd' msc' miu' mnm' mso' mou' mpl' mar' mex' men' mnn' mon' mde' mbt' mfo' mfn', MRw mt mtz mfa' mnd' msc' miu' mnm' mso' mou' mpl' mar' mex' men' mnn' mon' mde' mbt' mfo' mfn' → Q (some (vL (nmD mt mtz i w h0))) (hA, (heapM mtz mt mk mkf mot mox mfa' mnd' miu' mnm' mso' mou' mpl' msc' mar' mex' men' mnn' mon' mde' mbt' mfo' mfn' mma mit mfm msz mim mmo mfi))) : RNd ro (d + 10) 182 [vR 200, vL h0, vI i, vI w] (hA, (heapM mtz mt mk mkf mot mox mfa mnd miu mnm mso mou mpl msc mar mex men mnn mon mde mbt mfo mfn mma mit mfm msz mim mmo mfi)) Q := by
  refine WP_run [] 60 ?_
  refine r_plan hi hw (by unfold rg; omega) htz htb hR (fun mfa' mnd' msc' miu' mnm' mso' mou' mpl' mar' mex' men' mnn' mon' mde' mbt' mfo' mfn' hM => ?_)
  refine r_plan hi hw (by unfold rg; omega) htz htb (MRw_RM hM) (fun mfa' mnd' msc' miu' mnm' mso' mou' mpl' mar' mex' men' mnn' mon' mde' mbt' mfo' mfn' hM => ?_)
  refine r_caught hi hw (by unfold rg; omega) htz htb (MRw_RM hM) (fun mfa' mnd' msc' miu' mnm' mso' mou' mpl' mar' mex' men' mnn' mon' mde' mbt' mfo' mfn' hM => ?_)
  refine r_caught hi hw (by unfold rg; omega) htz htb (MRw_RM hM) (fun mfa' mnd' msc' miu' mnm' mso' mou' mpl' mar' mex' men' mnn' mon' mde' mbt' mfo' mfn' hM => ?_)
  exact hQ _ _ _ _ _ _ _ _ _ _ _ _ _ _ _ _ _ hM
set_option maxRecDepth 100000 in
set_option maxHeartbeats 4000000 in
theorem r_ndD {i : Int} {h0 : Int64} (hi : 0 ≤ i ∧ i < cND mt mtz) (hi2 : cND mt mtz ≤ 60) (htz : 0 ≤ mtz ∧ mtz ≤ 100) (htb : rI mt 0 255) (hR : RM miu mnm mso mou mpl mar mex men mnn mon mde mbt mfo mfn)
    (hQ : ∀ mfa' mnd' msc' miu' mnm' mso' mou' mpl' mar' mex' men' mnn' mon' mde' mbt' mfo' mfn', MRw mt mtz mfa' mnd' msc' miu' mnm' mso' mou' mpl' mar' mex' men' mnn' mon' mde' mbt' mfo' mfn' → Q (some (vL (ndD mt mtz i h0))) (hA, (heapM mtz mt mk mkf mot mox mfa' mnd' miu' mnm' mso' mou' mpl' msc' mar' mex' men' mnn' mon' mde' mbt' mfo' mfn' mma mit mfm msz mim mmo mfi))) : RNd ro (d + 11) 183 [vR 200, vL h0, vI i] (hA, (heapM mtz mt mk mkf mot mox mfa mnd miu mnm mso mou mpl msc mar mex men mnn mon mde mbt mfo mfn mma mit mfm msz mim mmo mfi)) Q := by
  have ri0 : rg i := by unfold rg; omega
  have main : ∀ k : Int, ∀ (h : Int64), ∀ mfa' mnd' msc' miu' mnm' mso' mou' mpl' mar' mex' men' mnn' mon' mde' mbt' mfo' mfn', RM miu' mnm' mso' mou' mpl' mar' mex' men' mnn' mon' mde' mbt' mfo' mfn' → 0 ≤ k → k ≤ 5 → itG (ndK mt mtz i) (5 - k).toNat k h = itG (ndK mt mtz i) (5 - 0 : Int).toNat 0 h0 → WPm ro (d + 10) (RNd ro (d + 10)) 183 0 0 Q 6 [vR 200, vL h0, vN, vI i, vL h, vN, vI k] [] (hA, (heapM mtz mt mk mkf mot mox mfa' mnd' miu' mnm' mso' mou' mpl' msc' mar' mex' men' mnn' mon' mde' mbt' mfo' mfn' mma mit mfm msz mim mmo mfi)) 0 0 := by
    refine loopUp 5 fun k ih h mfa' mnd' msc' miu' mnm' mso' mou' mpl' mar' mex' men' mnn' mon' mde' mbt' mfo' mfn' hR k0 k1 hk => ?_
    refine WP_first [6] 100 ?_
    refine c2 (fun q => ?_) (fun q => ?_)
    · rw [it_end (by omega)] at hk
      unfold ndD ndF at hQ
      rw [← hk] at hQ
      refine r_bound ri0 htz htb hR (fun mfa' mnd' msc' miu' mnm' mso' mou' mpl' mar' mex' men' mnn' mon' mde' mbt' mfo' mfn' hM => ?_)
      refine r_family ri0 htz htb (MRw_RM (MRd_w hM)) (fun mfa' mnd' msc' miu' mnm' mso' mou' mpl' mar' mex' men' mnn' mon' mde' mbt' mfo' mfn' hM => ?_)
      refine r_uses ri0 htz htb (MRw_RM (MRd_w hM)) (fun mfa' mnd' msc' miu' mnm' mso' mou' mpl' mar' mex' men' mnn' mon' mde' mbt' mfo' mfn' hM => ?_)
      refine r_hides ri0 htz htb (MRw_RM (MRd_w hM)) (fun mfa' mnd' msc' miu' mnm' mso' mou' mpl' mar' mex' men' mnn' mon' mde' mbt' mfo' mfn' hM => ?_)
      have e1 := (hM.2.2.1.1 i hi.1 (by rw [hM.1.2.1]; exact hi.2)).1
      have r1 := (MRw_RM (MRd_w hM)).1.1 i
      refine ix ?_
      refine c1 (fun e => ?_) (fun e => ?_)
      · rw [if_neg (show ¬ cIU mt mtz i = 0 by omega)] at hQ
        exact hQ _ _ _ _ _ _ _ _ _ _ _ _ _ _ _ _ _ (MRd_w hM)
      · rw [if_pos (show cIU mt mtz i = 0 by omega)] at hQ
        refine r_easy ri0 htz htb (MRw_RM (MRd_w hM)) (fun mfa' mnd' msc' miu' mnm' mso' mou' mpl' mar' mex' men' mnn' mon' mde' mbt' mfo' mfn' hM => ?_)
        refine r_nmD ri0 (by unfold rg; omega) htz htb (MRw_RM hM) (fun mfa' mnd' msc' miu' mnm' mso' mou' mpl' mar' mex' men' mnn' mon' mde' mbt' mfo' mfn' hM => ?_)
        refine r_nmD ri0 (by unfold rg; omega) htz htb (MRw_RM hM) (fun mfa' mnd' msc' miu' mnm' mso' mou' mpl' mar' mex' men' mnn' mon' mde' mbt' mfo' mfn' hM => ?_)
        refine r_nmD ri0 (by unfold rg; omega) htz htb (MRw_RM hM) (fun mfa' mnd' msc' miu' mnm' mso' mou' mpl' mar' mex' men' mnn' mon' mde' mbt' mfo' mfn' hM => ?_)
        exact hQ _ _ _ _ _ _ _ _ _ _ _ _ _ _ _ _ _ hM
    · rw [it_st (by omega)] at hk
      refine r_node ri0 (by unfold rg; omega) htz htb hR (fun mfa' mnd' msc' miu' mnm' mso' mou' mpl' mar' mex' men' mnn' mon' mde' mbt' mfo' mfn' hM => ?_)
      exact ih (by omega) _ _ _ _ _ _ _ _ _ _ _ _ _ _ _ _ _ _ (MRw_RM (MRd_w hM)) (by omega) (by omega) hk
  exact WP_run [6] 20 (main 0 h0 _ _ _ _ _ _ _ _ _ _ _ _ _ _ _ _ _ hR (by omega) (by omega) rfl)
set_option maxRecDepth 100000 in
set_option maxHeartbeats 4000000 in
theorem r_dg3s {s : Int} {h0 : Int64} (hs : rg s) (htz : 0 ≤ mtz ∧ mtz ≤ 100) (htb : rI mt 0 255)
    (hQ : ∀ mfa' mnd' msc' miu' mnm' mso' mou' mpl' mar' mex' men' mnn' mon' mde' mbt' mfo' mfn', MRw mt mtz mfa' mnd' msc' miu' mnm' mso' mou' mpl' mar' mex' men' mnn' mon' mde' mbt' mfo' mfn' → ∀ j4, WPm ro (d + 11) (RNd ro (d + 11)) 184 0 0 Q 95 [vR 200, vL (scD mt mtz s h0), vN, vI (s + 1), j4] [] (hA, (heapM mtz mt mk mkf mot mox mfa' mnd' miu' mnm' mso' mou' mpl' msc' mar' mex' men' mnn' mon' mde' mbt' mfo' mfn' mma mit mfm msz mim mmo mfi)) 0 0) :
    ∀ k : Int, ∀ (h : Int64), ∀ mfa' mnd' msc' miu' mnm' mso' mou' mpl' mar' mex' men' mnn' mon' mde' mbt' mfo' mfn', MRw mt mtz mfa' mnd' msc' miu' mnm' mso' mou' mpl' mar' mex' men' mnn' mon' mde' mbt' mfo' mfn' → 0 ≤ k → k ≤ 4 → itG (scK mt mtz s) (4 - k).toNat k h = itG (scK mt mtz s) (4 - 0 : Int).toNat 0 h0 → WPm ro (d + 11) (RNd ro (d + 11)) 184 0 0 Q 106 [vR 200, vL h, vN, vI s, vI k] [] (hA, (heapM mtz mt mk mkf mot mox mfa' mnd' miu' mnm' mso' mou' mpl' msc' mar' mex' men' mnn' mon' mde' mbt' mfo' mfn' mma mit mfm msz mim mmo mfi)) 0 0 := by
  refine loopUp 4 fun k ih h mfa' mnd' msc' miu' mnm' mso' mou' mpl' mar' mex' men' mnn' mon' mde' mbt' mfo' mfn' hM k0 k1 hk => ?_
  refine WP_first [95, 106] 60 ?_
  refine c2 (fun q => ?_) (fun q => ?_)
  · rw [it_end (by omega)] at hk
    unfold scD at hQ
    rw [← hk] at hQ
    refine r_own hs (by unfold rg; omega) htz htb (MRw_RM hM) (fun mfa' mnd' msc' miu' mnm' mso' mou' mpl' mar' mex' men' mnn' mon' mde' mbt' mfo' mfn' hM => ?_)
    refine r_own hs (by unfold rg; omega) htz htb (MRw_RM (MRd_w hM)) (fun mfa' mnd' msc' miu' mnm' mso' mou' mpl' mar' mex' men' mnn' mon' mde' mbt' mfo' mfn' hM => ?_)
    exact hQ _ _ _ _ _ _ _ _ _ _ _ _ _ _ _ _ _ (MRd_w hM) _
  · rw [it_st (by omega)] at hk
    refine r_scope hs (by unfold rg; omega) htz htb (MRw_RM hM) (fun mfa' mnd' msc' miu' mnm' mso' mou' mpl' mar' mex' men' mnn' mon' mde' mbt' mfo' mfn' hM => ?_)
    exact ih (by omega) _ _ _ _ _ _ _ _ _ _ _ _ _ _ _ _ _ _ (MRd_w hM) (by omega) (by omega) hk
set_option maxRecDepth 100000 in
set_option maxHeartbeats 4000000 in
theorem r_dg3 {H : Int64} (htz : 0 ≤ mtz ∧ mtz ≤ 100) (htb : rI mt 0 255) (hs : 1 ≤ cSC mt mtz ∧ cSC mt mtz ≤ 10)
    (hQ : ∀ mfa' mnd' msc' miu' mnm' mso' mou' mpl' mar' mex' men' mnn' mon' mde' mbt' mfo' mfn', MRw mt mtz mfa' mnd' msc' miu' mnm' mso' mou' mpl' mar' mex' men' mnn' mon' mde' mbt' mfo' mfn' → Q (some (vL (dg3 mt mtz H))) (hA, (heapM mtz mt mk mkf mot mox mfa' mnd' miu' mnm' mso' mou' mpl' msc' mar' mex' men' mnn' mon' mde' mbt' mfo' mfn' mma mit mfm msz mim mmo mfi))) :
    ∀ k : Int, ∀ (h : Int64) (j4 : AV), ∀ mfa' mnd' msc' miu' mnm' mso' mou' mpl' mar' mex' men' mnn' mon' mde' mbt' mfo' mfn', MRw mt mtz mfa' mnd' msc' miu' mnm' mso' mou' mpl' mar' mex' men' mnn' mon' mde' mbt' mfo' mfn' → 0 ≤ k → k ≤ cSC mt mtz → itG (scD mt mtz) (cSC mt mtz - k).toNat k h = itG (scD mt mtz) (cSC mt mtz - 0).toNat 0 H → WPm ro (d + 11) (RNd ro (d + 11)) 184 0 0 Q 95 [vR 200, vL h, vN, vI k, j4] [] (hA, (heapM mtz mt mk mkf mot mox mfa' mnd' miu' mnm' mso' mou' mpl' msc' mar' mex' men' mnn' mon' mde' mbt' mfo' mfn' mma mit mfm msz mim mmo mfi)) 0 0 := by
  refine loopUp (cSC mt mtz) fun k ih h j4 mfa' mnd' msc' miu' mnm' mso' mou' mpl' mar' mex' men' mnn' mon' mde' mbt' mfo' mfn' hM k0 k1 hk => ?_
  have hsc := hM.1.2.2
  refine WP_first [95, 106] 60 ?_
  refine c2 (fun q => ?_) (fun q => ?_)
  · rw [it_end (by omega)] at hk
    unfold dg3 at hQ
    rw [← hk] at hQ
    refine r_idleOf htz htb (MRw_RM hM) (fun mfa' mnd' msc' miu' mnm' mso' mou' mpl' mar' mex' men' mnn' mon' mde' mbt' mfo' mfn' hM => ?_)
    exact hQ _ _ _ _ _ _ _ _ _ _ _ _ _ _ _ _ _ hM
  · rw [it_st (by omega)] at hk
    refine r_dg3s (h0 := h) (by unfold rg; omega) htz htb (fun mfa' mnd' msc' miu' mnm' mso' mou' mpl' mar' mex' men' mnn' mon' mde' mbt' mfo' mfn' hM j4 => ?_) 0 h _ _ _ _ _ _ _ _ _ _ _ _ _ _ _ _ _ hM (by omega) (by omega) rfl
    exact ih (by omega) _ _ _ _ _ _ _ _ _ _ _ _ _ _ _ _ _ _ _ hM (by omega) (by omega) hk
set_option maxRecDepth 100000 in
set_option maxHeartbeats 4000000 in
theorem r_dg2 {H : Int64} (htz : 0 ≤ mtz ∧ mtz ≤ 100) (htb : rI mt 0 255) (hs : 1 ≤ cSC mt mtz ∧ cSC mt mtz ≤ 10) (hn : 0 ≤ cND mt mtz ∧ cND mt mtz ≤ 60)
    (hQ : ∀ mfa' mnd' msc' miu' mnm' mso' mou' mpl' mar' mex' men' mnn' mon' mde' mbt' mfo' mfn', MRw mt mtz mfa' mnd' msc' miu' mnm' mso' mou' mpl' mar' mex' men' mnn' mon' mde' mbt' mfo' mfn' → Q (some (vL (dg2 mt mtz H))) (hA, (heapM mtz mt mk mkf mot mox mfa' mnd' miu' mnm' mso' mou' mpl' msc' mar' mex' men' mnn' mon' mde' mbt' mfo' mfn' mma mit mfm msz mim mmo mfi))) :
    ∀ k : Int, ∀ (h : Int64) (j4 : AV), ∀ mfa' mnd' msc' miu' mnm' mso' mou' mpl' mar' mex' men' mnn' mon' mde' mbt' mfo' mfn', MRw mt mtz mfa' mnd' msc' miu' mnm' mso' mou' mpl' mar' mex' men' mnn' mon' mde' mbt' mfo' mfn' → 0 ≤ k → k ≤ cND mt mtz → itG (ndD mt mtz) (cND mt mtz - k).toNat k h = itG (ndD mt mtz) (cND mt mtz - 0).toNat 0 H → WPm ro (d + 11) (RNd ro (d + 11)) 184 0 0 Q 72 [vR 200, vL h, vN, vI k, j4] [] (hA, (heapM mtz mt mk mkf mot mox mfa' mnd' miu' mnm' mso' mou' mpl' msc' mar' mex' men' mnn' mon' mde' mbt' mfo' mfn' mma mit mfm msz mim mmo mfi)) 0 0 := by
  refine loopUp (cND mt mtz) fun k ih h j4 mfa' mnd' msc' miu' mnm' mso' mou' mpl' mar' mex' men' mnn' mon' mde' mbt' mfo' mfn' hM k0 k1 hk => ?_
  have hnd := hM.1.2.1
  refine WP_first [72, 95] 60 ?_
  refine c2 (fun q => ?_) (fun q => ?_)
  · rw [it_end (by omega)] at hk
    unfold dg2 at hQ
    rw [← hk] at hQ
    exact r_dg3 htz htb hs hQ 0 h _ _ _ _ _ _ _ _ _ _ _ _ _ _ _ _ _ _ hM (by omega) (by omega) rfl
  · rw [it_st (by omega)] at hk
    refine r_ndD ⟨k0, by omega⟩ hn.2 htz htb (MRw_RM hM) (fun mfa' mnd' msc' miu' mnm' mso' mou' mpl' mar' mex' men' mnn' mon' mde' mbt' mfo' mfn' hM => ?_)
    exact ih (by omega) _ _ _ _ _ _ _ _ _ _ _ _ _ _ _ _ _ _ _ hM (by omega) (by omega) hk
set_option maxRecDepth 100000 in
set_option maxHeartbeats 4000000 in
theorem r_digest (htz : 0 ≤ mtz ∧ mtz ≤ 100) (htb : rI mt 0 255) (hR : RM miu mnm mso mou mpl mar mex men mnn mon mde mbt mfo mfn) (hs : 1 ≤ cSC mt mtz ∧ cSC mt mtz ≤ 10) (hn : 0 ≤ cND mt mtz ∧ cND mt mtz ≤ 60)
    (hQ : ∀ mfa' mnd' msc' miu' mnm' mso' mou' mpl' mar' mex' men' mnn' mon' mde' mbt' mfo' mfn', MRw mt mtz mfa' mnd' msc' miu' mnm' mso' mou' mpl' mar' mex' men' mnn' mon' mde' mbt' mfo' mfn' → Q (some (vL (digD mt mtz mk mfi))) (hA, (heapM mtz mt mk mkf mot mox mfa' mnd' miu' mnm' mso' mou' mpl' msc' mar' mex' men' mnn' mon' mde' mbt' mfo' mfn' mma mit mfm msz mim mmo mfi))) : RNd ro (d + 12) 184 [vR 200] (hA, (heapM mtz mt mk mkf mot mox mfa mnd miu mnm mso mou mpl msc mar mex men mnn mon mde mbt mfo mfn mma mit mfm msz mim mmo mfi)) Q := by
  have main2 : ∀ H : Int64, (∀ mfa' mnd' msc' miu' mnm' mso' mou' mpl' mar' mex' men' mnn' mon' mde' mbt' mfo' mfn', MRw mt mtz mfa' mnd' msc' miu' mnm' mso' mou' mpl' mar' mex' men' mnn' mon' mde' mbt' mfo' mfn' → Q (some (vL (dg2 mt mtz (itG (shK mt mtz) (40 - 0 : Int).toNat 0 H)))) (hA, (heapM mtz mt mk mkf mot mox mfa' mnd' miu' mnm' mso' mou' mpl' msc' mar' mex' men' mnn' mon' mde' mbt' mfo' mfn' mma mit mfm msz mim mmo mfi))) → ∀ mfa' mnd' msc' miu' mnm' mso' mou' mpl' mar' mex' men' mnn' mon' mde' mbt' mfo' mfn', MRw mt mtz mfa' mnd' msc' miu' mnm' mso' mou' mpl' mar' mex' men' mnn' mon' mde' mbt' mfo' mfn' → ∀ k : Int, ∀ (h : Int64) (j4 : AV), 0 ≤ k → k ≤ 40 → itG (shK mt mtz) (40 - k).toNat k h = itG (shK mt mtz) (40 - 0 : Int).toNat 0 H → WPm ro (d + 11) (RNd ro (d + 11)) 184 0 0 Q 45 [vR 200, vL h, vN, vI k, j4] [] (hA, (heapM mtz mt mk mkf mot mox mfa' mnd' miu' mnm' mso' mou' mpl' msc' mar' mex' men' mnn' mon' mde' mbt' mfo' mfn' mma mit mfm msz mim mmo mfi)) 0 0 := by
    intro H hq mfa' mnd' msc' miu' mnm' mso' mou' mpl' mar' mex' men' mnn' mon' mde' mbt' mfo' mfn' hM
    refine loopUp 40 fun k ih h j4 k0 k1 hk => ?_
    refine WP_first [45, 72] 60 ?_
    refine c2 (fun q => ?_) (fun q => ?_)
    · rw [it_end (by omega)] at hk
      rw [← hk] at hq
      exact r_dg2 htz htb hs hn hq 0 h _ _ _ _ _ _ _ _ _ _ _ _ _ _ _ _ _ _ hM (by omega) (by omega) rfl
    · rw [it_st (by omega)] at hk
      refine r_shownOf (by omega) htz ?_
      exact ih (by omega) _ _ (by omega) (by omega) hk
  have main1 : ∀ k : Int, ∀ (h : Int64) (j4 : AV), ∀ mfa' mnd' msc' miu' mnm' mso' mou' mpl' mar' mex' men' mnn' mon' mde' mbt' mfo' mfn', RM miu' mnm' mso' mou' mpl' mar' mex' men' mnn' mon' mde' mbt' mfo' mfn' → 0 ≤ k → k ≤ 8 → itG (coK mt mtz mk mfi) (8 - k).toNat k h = itG (coK mt mtz mk mfi) (8 - 0 : Int).toNat 0 (Int64.ofNat 17) → WPm ro (d + 11) (RNd ro (d + 11)) 184 0 0 Q 6 [vR 200, vL h, vN, vI k, j4] [] (hA, (heapM mtz mt mk mkf mot mox mfa' mnd' miu' mnm' mso' mou' mpl' msc' mar' mex' men' mnn' mon' mde' mbt' mfo' mfn' mma mit mfm msz mim mmo mfi)) 0 0 := by
    refine loopUp 8 fun k ih h j4 mfa' mnd' msc' miu' mnm' mso' mou' mpl' mar' mex' men' mnn' mon' mde' mbt' mfo' mfn' hR k0 k1 hk => ?_
    refine WP_first [6, 45] 60 ?_
    refine c2 (fun q => ?_) (fun q => ?_)
    · rw [it_end (by omega)] at hk
      unfold digD dg1 at hQ
      rw [← hk] at hQ
      refine r_faultOf htz htb hR (fun mfa' mnd' msc' miu' mnm' mso' mou' mpl' mar' mex' men' mnn' mon' mde' mbt' mfo' mfn' hM => ?_)
      exact main2 _ hQ _ _ _ _ _ _ _ _ _ _ _ _ _ _ _ _ _ hM 0 _ _ (by omega) (by omega) rfl
    · rw [it_st (by omega)] at hk
      refine r_count (by unfold rg; omega) htz htb hR (fun _ => ?_) (fun _ mfa' mnd' msc' miu' mnm' mso' mou' mpl' mar' mex' men' mnn' mon' mde' mbt' mfo' mfn' hM => ?_)
      · exact ih (by omega) _ _ _ _ _ _ _ _ _ _ _ _ _ _ _ _ _ _ _ hR (by omega) (by omega) hk
      · exact ih (by omega) _ _ _ _ _ _ _ _ _ _ _ _ _ _ _ _ _ _ _ (MRw_RM hM) (by omega) (by omega) hk
  exact WP_run [6] 20 (main1 0 _ _ _ _ _ _ _ _ _ _ _ _ _ _ _ _ _ _ _ hR (by omega) (by omega) rfl)
end DIGM
