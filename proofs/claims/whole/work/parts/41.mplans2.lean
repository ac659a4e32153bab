/-! ===== the reference: a plan is tried ===== -/
/-- the reference's rows as they are when the text was read, but for what a plan changes -/
def MRw (tx : Int → Int) (n mfa mnd msc : Int) (miu mnm mso mou mpl mar mex men mnn mon mde mbt mfo mfn : Int → Int) : Prop :=
  (mfa = cFA tx n ∧ mnd = cND tx n ∧ msc = cSC tx n) ∧ TS mnd msc (cIU tx n) (cSO tx n) (cAR tx n) (cEX tx n) ∧ TAg mnd msc miu mso mar mex (cIU tx n) (cSO tx n) (cAR tx n) (cEX tx n) ∧
  (∀ k, 0 ≤ k → k < mnd → mnm k = cNM tx n k ∧ mou k = cOU tx n k ∧ mpl k = cPL tx n k) ∧ (∀ k, 0 ≤ k → k < mnd → mbt k = cBT tx n k ∧ mfo k = cFM tx n (cNM tx n) k) ∧
  RM miu mnm mso mou mpl mar mex men mnn mon mde mbt mfo mfn ∧ (-1 ≤ mfa ∧ mfa ≤ 100)
set_option maxRecDepth 100000 in
set_option maxHeartbeats 4000000 in
theorem MRd_w {tx : Int → Int} {n mfa mnd msc : Int} {miu mnm mso mou mpl mar mex men mnn mon mde mbt mfo mfn : Int → Int} (h : MRd tx n mfa mnd msc miu mnm mso mou mpl mar mex men mnn mon mde mbt mfo mfn) : MRw tx n mfa mnd msc miu mnm mso mou mpl mar mex men mnn mon mde mbt mfo mfn := ⟨h.1, h.2.1, h.2.2.1, h.2.2.2.1, h.2.2.2.2.1, h.2.2.2.2.2.2.1, h.2.2.2.2.2.2.2⟩
set_option maxRecDepth 100000 in
set_option maxHeartbeats 4000000 in
theorem MRw_up {tx : Int → Int} {n mfa mnd msc : Int} {miu mnm mso mou mpl mar mex men mnn mon mde mbt mfo mfn mnn' mon' mde' mfn' : Int → Int} (h : MRw tx n mfa mnd msc miu mnm mso mou mpl mar mex men mnn mon mde mbt mfo mfn) (h1 : rI mnn' 0 25) (h2 : rI mon' 0 4) (h3 : rI mde' (-1) 59) (h4 : rI mfn' (-1) 59) : MRw tx n mfa mnd msc miu mnm mso mou mpl mar mex men mnn' mon' mde' mbt mfo mfn' := by
  obtain ⟨a1, a2, a3, a4, a5, ⟨r1, r2, r3, r4, r5, r6, r7⟩, a7⟩ := h
  exact ⟨a1, a2, a3, a4, a5, ⟨r1, h1, h2, h3, r5, r6, h4⟩, a7⟩
section MPLANS2
variable {ro : Nat × (Int → Int)} {d : Nat} {Q : Option AV → AH → Prop} {hA : List AC} {mtz : Int} {mt : Int → Int} {mk mkf : Int} {mot mox : Int → Int} {mfa mnd : Int} {miu mnm mso mou mpl : Int → Int} {msc : Int} {mar mex men mnn mon mde mbt mfo mfn mma mit mfm msz mim mmo : Int → Int} {mfi : Int} {IU SO PA BA NM BT F : Int → Int}
set_option maxRecDepth 100000 in
set_option maxHeartbeats 4000000 in
theorem r_isWell (hS : TS mnd msc IU SO PA BA) (hA' : TAg mnd msc miu mso mar mex IU SO PA BA) (hn : rI mnn 0 25) (ho : rI mon 0 4) (hr : rI mde (-1) 59) (hrb : rI mbt (-1) 59) (hrf : rI mfn (-1) 59) (hrg : rI mfo (-1) 59) (hT : ∀ s w, 0 ≤ s → s < msc → 0 ≤ w → w < 26 → mde (26 * s + w) = TBd mnd IU SO mnn s w) (hF : ∀ k, 0 ≤ k → k < mnd → mbt k = BT k ∧ mfo k = F k)
    (hQ1 : ∀ f, rI f (-1) 59 → Once mnd IU SO mnn ∧ (∀ k, 0 ≤ k → k < mnd → famN IU (SFv IU SO BA mnn (OW mnd IU SO BA mnn)) mnd.toNat k = F k) ∧ (∀ k, 0 ≤ k → k < mnd → IU k = 1 → BN mnd IU SO PA BA mnn (SO k) (mon k) (mnn k) = BT k) → Q (some (vI 1)) (hA, (heapM mtz mt mk mkf mot mox mfa mnd miu mnm mso mou mpl msc mar mex men mnn mon mde mbt mfo f mma mit mfm msz mim mmo mfi)))
    (hQ0 : ∀ f, rI f (-1) 59 → ¬ (Once mnd IU SO mnn ∧ (∀ k, 0 ≤ k → k < mnd → famN IU (SFv IU SO BA mnn (OW mnd IU SO BA mnn)) mnd.toNat k = F k) ∧ (∀ k, 0 ≤ k → k < mnd → IU k = 1 → BN mnd IU SO PA BA mnn (SO k) (mon k) (mnn k) = BT k)) → Q (some (vI 0)) (hA, (heapM mtz mt mk mkf mot mox mfa mnd miu mnm mso mou mpl msc mar mex men mnn mon mde mbt mfo f mma mit mfm msz mim mmo mfi))) : RNd ro (d + 5) 150 [vR 200] (hA, (heapM mtz mt mk mkf mot mox mfa mnd miu mnm mso mou mpl msc mar mex men mnn mon mde mbt mfo mfn mma mit mfm msz mim mmo mfi)) Q := by
  refine WP_run [] 30 ?_
  refine r_areOnce hS hA' hn hr hT (fun h1 => ?_) (fun h1 => ?_)
  · refine f1 ?_
    refine r_areFamilies hS hA' hn hr hrf hrg hT (fun k a b => (hF k a b).2) (fun f hf h2 => ?_) (fun f hf h2 => ?_)
    · refine f1 ?_
      refine r_areBound hS hA' hn ho hr hrb hT (fun k a b => (hF k a b).1) (fun h3 => ?_) (fun h3 => ?_)
      · refine f1 ?_
        exact rz (hQ1 f hf ⟨h1, h2, h3⟩)
      · refine t1 ?_
        exact rz (hQ0 f hf (fun z => h3 z.2.2))
    · refine t1 ?_
      exact rz (hQ0 f hf (fun z => h2 z.2.1))
  · refine t1 ?_
    exact rz (hQ0 mfn hrf (fun z => h1 z.1))
set_option maxRecDepth 100000 in
set_option maxHeartbeats 4000000 in
theorem r_bytesNow (hn : 0 ≤ mnd ∧ mnd ≤ 60) (hQ : Q (some (vI (mtz + sumF (fun k => mon k - mou k) mnd.toNat))) (hA, (heapM mtz mt mk mkf mot mox mfa mnd miu mnm mso mou mpl msc mar mex men mnn mon mde mbt mfo mfn mma mit mfm msz mim mmo mfi))) : RNd ro (d + 1) 153 [vR 200] (hA, (heapM mtz mt mk mkf mot mox mfa mnd miu mnm mso mou mpl msc mar mex men mnn mon mde mbt mfo mfn mma mit mfm msz mim mmo mfi)) Q := by
  have main : ∀ k : Int, ∀ x : Int, 0 ≤ k → k ≤ mnd → x = mtz + sumF (fun k => mon k - mou k) k.toNat → WPm ro d (RNd ro d) 153 0 0 Q 7 [vR 200, vI x, vI k] [] (hA, (heapM mtz mt mk mkf mot mox mfa mnd miu mnm mso mou mpl msc mar mex men mnn mon mde mbt mfo mfn mma mit mfm msz mim mmo mfi)) 0 0 := by
    refine loopUp mnd fun k ih x k0 k1 hx => ?_
    refine WP_first [7] 60 ?_
    refine c2 (fun q => ?_) (fun q => ?_)
    · have e : k = mnd := by omega
      subst e
      rw [hx]
      exact ri hQ
    · refine ix ?_
      refine ix ?_
      refine ih (by omega) _ (by omega) (by omega) ?_
      rw [sumF_st k0, hx]
      omega
  exact WP_run [7] 20 (main 0 _ (by omega) (by omega) (by show mtz = mtz + 0; omega))
set_option maxRecDepth 100000 in
set_option maxHeartbeats 4000000 in
theorem r_editsNow (hn : 0 ≤ mnd ∧ mnd ≤ 60) (h1 : rI mnm 0 25) (g1 : rI mnn 0 25) (h2 : rI mou 0 3) (g2 : rI mon 0 4) (hQ : Q (some (vI (sumF (fun k => (if mnn k ≠ mnm k then 1 else 0) + (if 0 ≤ mon k - mou k then mon k - mou k else -(mon k - mou k))) mnd.toNat))) (hA, (heapM mtz mt mk mkf mot mox mfa mnd miu mnm mso mou mpl msc mar mex men mnn mon mde mbt mfo mfn mma mit mfm msz mim mmo mfi))) : RNd ro (d + 1) 152 [vR 200] (hA, (heapM mtz mt mk mkf mot mox mfa mnd miu mnm mso mou mpl msc mar mex men mnn mon mde mbt mfo mfn mma mit mfm msz mim mmo mfi)) Q := by
  have main : ∀ k : Int, ∀ (x : Int) (j : AV), 0 ≤ k → k ≤ mnd → x = sumF (fun k => (if mnn k ≠ mnm k then 1 else 0) + (if 0 ≤ mon k - mou k then mon k - mou k else -(mon k - mou k))) k.toNat → WPm ro d (RNd ro d) 152 0 0 Q 4 [vR 200, vI x, vI k, j] [] (hA, (heapM mtz mt mk mkf mot mox mfa mnd miu mnm mso mou mpl msc mar mex men mnn mon mde mbt mfo mfn mma mit mfm msz mim mmo mfi)) 0 0 := by
    refine loopUp mnd fun k ih x j k0 k1 hx => ?_
    have r1 := h1 k
    have r2 := h2 k
    have r3 := g1 k
    have r4 := g2 k
    refine WP_first [4, 47] 60 ?_
    refine c2 (fun q => ?_) (fun q => ?_)
    · have e : k = mnd := by omega
      subst e
      rw [hx]
      exact ri hQ
    · have hst := sumF_st (f := fun k => (if mnn k ≠ mnm k then 1 else 0) + (if 0 ≤ mon k - mou k then mon k - mou k else -(mon k - mou k))) k0
      refine ix ?_
      refine ix ?_
      refine ix ?_
      refine ix ?_
      have go : ∀ v : Int, v = (if mnn k ≠ mnm k then 1 else 0) → WPm ro d (RNd ro d) 152 0 0 Q 47 [vR 200, vI x, vI k, vI (mon k - mou k)] [vI v, vI x] (hA, (heapM mtz mt mk mkf mot mox mfa mnd miu mnm mso mou mpl msc mar mex men mnn mon mde mbt mfo mfn mma mit mfm msz mim mmo mfi)) 0 0 := by
        intro v hv
        refine WP_run [4] 60 ?_
        refine c1 (fun q2 => ?_) (fun q2 => ?_)
        · refine ih (by omega) _ _ (by omega) (by omega) ?_
          rw [hst, ← hv, if_pos q2, hx]
        · refine ih (by omega) _ _ (by omega) (by omega) ?_
          rw [hst, ← hv, if_neg q2, hx]
      refine c2 (fun q2 => ?_) (fun q2 => ?_)
      · exact go 0 (by rw [if_neg (by omega)])
      · exact go 1 (by rw [if_pos (by omega)])
  exact WP_run [4] 20 (main 0 0 _ (by omega) (by omega) rfl)
set_option maxRecDepth 100000 in
set_option maxHeartbeats 4000000 in
theorem r_goesOut (hS : TS mnd msc IU SO PA BA) (hA' : TAg mnd msc miu mso mar mex IU SO PA BA) (hn : rI mnn 0 25) (ho : rI mon 0 4) (hr : rI mde (-1) 59) (hrb : rI mbt (-1) 59) (hT : ∀ s w, 0 ≤ s → s < msc → 0 ≤ w → w < 26 → mde (26 * s + w) = TBd mnd IU SO mnn s w) (hB : ∀ k, 0 ≤ k → k < mnd → mbt k = BT k)
    (hQ : ∀ f, rI f 0 4 → (∀ k, 0 ≤ k → k < mnd → f k = if IU k = 0 ∨ BN mnd IU SO PA BA mnn (SO k) (mon k) (mnn k) = BT k ∨ loF (fun o => BN mnd IU SO PA BA mnn (SO k) o (mnn k)) (BT k) = -1 then mon k else loF (fun o => BN mnd IU SO PA BA mnn (SO k) o (mnn k)) (BT k)) → Q none (hA, (heapM mtz mt mk mkf mot mox mfa mnd miu mnm mso mou mpl msc mar mex men mnn f mde mbt mfo mfn mma mit mfm msz mim mmo mfi))) : RNd ro (d + 4) 151 [vR 200] (hA, (heapM mtz mt mk mkf mot mox mfa mnd miu mnm mso mou mpl msc mar mex men mnn mon mde mbt mfo mfn mma mit mfm msz mim mmo mfi)) Q := by
  obtain ⟨S1, S2, S3, S4⟩ := id hS
  have hBr : ∀ k o, 0 ≤ k → k < mnd → -1 ≤ BN mnd IU SO PA BA mnn (SO k) o (mnn k) ∧ BN mnd IU SO PA BA mnn (SO k) o (mnn k) ≤ 59 := by
    intro k o a b
    rcases BN_dl (nn := mnn) (o := o) (w := mnn k) hS (S3 k a b).2.2 with e | ⟨z1, z2, -⟩
    · rw [e]; omega
    · omega
  have main : ∀ k : Int, ∀ (f : Int → Int) (j2 j3 : AV), 0 ≤ k → k ≤ mnd → rI f 0 4 → (∀ q, k ≤ q → f q = mon q) → (∀ q, 0 ≤ q → q < k → f q = if IU q = 0 ∨ BN mnd IU SO PA BA mnn (SO q) (mon q) (mnn q) = BT q ∨ loF (fun o => BN mnd IU SO PA BA mnn (SO q) o (mnn q)) (BT q) = -1 then mon q else loF (fun o => BN mnd IU SO PA BA mnn (SO q) o (mnn q)) (BT q)) → WPm ro (d + 3) (RNd ro (d + 3)) 151 0 0 Q 2 [vR 200, vI k, j2, j3] [] (hA, (heapM mtz mt mk mkf mot mox mfa mnd miu mnm mso mou mpl msc mar mex men mnn f mde mbt mfo mfn mma mit mfm msz mim mmo mfi)) 0 0 := by
    refine loopUp mnd fun k ih f j2 j3 k0 k1 hf hf1 hf2 => ?_
    refine WP_first [2, 50] 60 ?_
    refine c2 (fun q => ?_) (fun q => ?_)
    · exact hQ f hf (fun k a b => hf2 k a (by omega))
    · obtain ⟨e1, e2⟩ := hA'.1 k k0 (by omega)
      obtain ⟨S31, S32⟩ := S3 k k0 (by omega)
      have r1 := hrb k
      have e3 := hB k k0 (by omega)
      have ef := hf1 k (by omega)
      have hb := hBr k (mon k) k0 (by omega)
      have skip : (IU k = 0 ∨ BN mnd IU SO PA BA mnn (SO k) (mon k) (mnn k) = BT k) → ∀ q, 0 ≤ q → q < k + 1 → f q = if IU q = 0 ∨ BN mnd IU SO PA BA mnn (SO q) (mon q) (mnn q) = BT q ∨ loF (fun o => BN mnd IU SO PA BA mnn (SO q) o (mnn q)) (BT q) = -1 then mon q else loF (fun o => BN mnd IU SO PA BA mnn (SO q) o (mnn q)) (BT q) := by
        intro z q a b
        by_cases e : q = k
        · subst e
          rw [if_pos (z.elim Or.inl (fun z => Or.inr (Or.inl z)))]
          exact ef
        · exact hf2 q a (by omega)
      refine ix ?_
      refine c2 (fun q2 => ?_) (fun q2 => ?_)
      · exact ih (by omega) f _ _ (by omega) (by omega) hf (fun q a => hf1 q (by omega)) (skip (Or.inl (by omega)))
      · refine r_boundNow hS hA' ⟨k0, by omega⟩ hn hf hr hT ?_
        rw [ef]
        refine ix ?_
        show rg (BN mnd IU SO PA BA mnn (SO k) (mon k) (mnn k)) ∧ _
        refine c2 (fun q3 => ?_) (fun q3 => ?_)
        · exact ih (by omega) f _ _ (by omega) (by omega) hf (fun q a => hf1 q (by omega)) (skip (Or.inr (by rw [← e3]; exact q3)))
        · refine ix ?_
          refine ix ?_
          have fin : ∀ (o : Int) (g : Int → Int), rI g 0 4 → (∀ q, q ≠ k → g q = f q) → ((o < 4 ∧ 0 ≤ o ∧ loF (fun o => BN mnd IU SO PA BA mnn (SO k) o (mnn k)) (BT k) = o) ∨ (o = 4 ∧ loF (fun o => BN mnd IU SO PA BA mnn (SO k) o (mnn k)) (BT k) = -1)) → WPm ro (d + 3) (RNd ro (d + 3)) 151 0 0 Q 82 [vR 200, vI k, vI (f k), vI o] [] (hA, (heapM mtz mt mk mkf mot mox mfa mnd miu mnm mso mou mpl msc mar mex men mnn g mde mbt mfo mfn mma mit mfm msz mim mmo mfi)) 0 0 := by
            intro o g hg hg2 ho2
            have hno : ¬ (IU k = 0 ∨ BN mnd IU SO PA BA mnn (SO k) (mon k) (mnn k) = BT k) := fun z => z.elim (fun z => by omega) (fun z => q3 (by rw [e3]; exact z))
            have done : ∀ v : Int, (0 ≤ v ∧ v ≤ 4) → (v = if IU k = 0 ∨ BN mnd IU SO PA BA mnn (SO k) (mon k) (mnn k) = BT k ∨ loF (fun o => BN mnd IU SO PA BA mnn (SO k) o (mnn k)) (BT k) = -1 then mon k else loF (fun o => BN mnd IU SO PA BA mnn (SO k) o (mnn k)) (BT k)) → WPm ro (d + 3) (RNd ro (d + 3)) 151 0 0 Q 2 [vR 200, vI (k + 1), vI (f k), vI o] [] (hA, (heapM mtz mt mk mkf mot mox mfa mnd miu mnm mso mou mpl msc mar mex men mnn (upZ g k v) mde mbt mfo mfn mma mit mfm msz mim mmo mfi)) 0 0 := by
              intro v hv1 hv2
              refine ih (by omega) _ _ _ (by omega) (by omega) (rI_up hg hv1.1 hv1.2) (fun q a => ?_) (fun q a b => ?_)
              · rw [upZ_n (by omega), hg2 q (by omega)]
                exact hf1 q (by omega)
              · by_cases e : q = k
                · subst e
                  rw [upZ_s]
                  exact hv2
                · rw [upZ_n e, hg2 q e]
                  exact hf2 q a (by omega)
            refine WP_run [2] 60 ?_
            refine c2 (fun q4 => ?_) (fun q4 => ?_)
            · refine ix ?_
              have z : loF (fun o => BN mnd IU SO PA BA mnn (SO k) o (mnn k)) (BT k) = -1 := by omega
              exact done _ (hf k) (by rw [if_pos (Or.inr (Or.inr z))]; exact ef)
            · refine ix ?_
              have z : loF (fun o => BN mnd IU SO PA BA mnn (SO k) o (mnn k)) (BT k) = o := by omega
              exact done _ (by omega) (by rw [if_neg (fun y => y.elim (fun y => hno (Or.inl y)) (fun y => y.elim (fun y => hno (Or.inr y)) (fun y => by omega))), z])
          have inner : ∀ o : Int, ∀ g : Int → Int, 0 ≤ o → o ≤ 4 → rI g 0 4 → g k = o → (∀ q, q ≠ k → g q = f q) → lkN (fun o => decide (BN mnd IU SO PA BA mnn (SO k) o (mnn k) = BT k)) (4 - o).toNat o = loF (fun o => BN mnd IU SO PA BA mnn (SO k) o (mnn k)) (BT k) → WPm ro (d + 3) (RNd ro (d + 3)) 151 0 0 Q 50 [vR 200, vI k, vI (f k), vI o] [] (hA, (heapM mtz mt mk mkf mot mox mfa mnd miu mnm mso mou mpl msc mar mex men mnn g mde mbt mfo mfn mma mit mfm msz mim mmo mfi)) 0 0 := by
            refine loopUp 4 fun o iho g o0 o1 hg hgk hg2 hlo => ?_
            refine WP_first [50, 82] 60 ?_
            refine c2 (fun q4 => ?_) (fun q4 => ?_)
            · refine fin o g hg hg2 (Or.inr ⟨by omega, ?_⟩)
              rw [← hlo, lkN_end q4]
            · refine r_boundNow hS hA' ⟨k0, by omega⟩ hn hg hr hT ?_
              rw [hgk]
              refine ix ?_
              have hb2 := hBr k o k0 (by omega)
              rw [lkN_st (by omega)] at hlo
              show rg (BN mnd IU SO PA BA mnn (SO k) o (mnn k)) ∧ _
              refine c2 (fun q5 => ?_) (fun q5 => ?_)
              · rw [if_pos (by rw [decide_eq_true_iff, ← e3]; exact q5)] at hlo
                exact fin o g hg hg2 (Or.inl ⟨by omega, o0, hlo.symm⟩)
              · rw [if_neg (by rw [decide_eq_true_iff, ← e3]; exact q5)] at hlo
                refine ix ?_
                exact iho (by omega) _ (by omega) (by omega) (rI_up hg (by omega) (by omega)) upZ_s (fun q a => by rw [upZ_n a]; exact hg2 q a) hlo
          exact inner 0 _ (by omega) (by omega) (rI_up hf (by omega) (by omega)) upZ_s (fun q a => upZ_n a) rfl
  exact WP_run [2] 20 (main 0 mon _ _ (by omega) (by omega) ho (fun q _ => rfl) (fun q a b => by omega))
end MPLANS2
