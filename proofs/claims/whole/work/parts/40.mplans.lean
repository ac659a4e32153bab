/-! ===== the reference: plans, their parts ===== -/
set_option maxRecDepth 100000 in
set_option maxHeartbeats 4000000 in
theorem Once_iff {nd : Int} {IU SO nn : Int → Int} : Once nd IU SO nn ↔ ∀ k, 0 ≤ k → k < nd → IU k = 0 → TBd nd IU SO nn (SO k) (nn k) = k := by
  constructor
  · intro h k a b u
    rcases TBk_in nd IU SO nn (SO k) (nn k) 0 with ⟨a1, a2⟩ | ⟨a1, a2, a3, a4⟩
    · have := a2 k a b
      rw [mat_iff.mpr ⟨u, rfl, rfl⟩] at this
      cases this
    · obtain ⟨m1, m2, m3⟩ := mat_iff.mp a3
      unfold TBd
      by_cases hlt : TBk nd IU SO nn 0 (SO k) (nn k) < k
      · exact (h _ k a1 hlt b m1 u m2 m3).elim
      · by_cases hgt : k < TBk nd IU SO nn 0 (SO k) (nn k)
        · have := a4 k a hgt
          rw [mat_iff.mpr ⟨u, rfl, rfl⟩] at this
          cases this
        · omega
  · intro h i j i0 ij j1 u1 u2 s1 n1
    have e := h j (by omega) j1 u2
    rcases TBk_in nd IU SO nn (SO j) (nn j) 0 with ⟨a1, a2⟩ | ⟨a1, a2, a3, a4⟩
    · unfold TBd at e
      omega
    · unfold TBd at e
      have := a4 i i0 (by omega)
      rw [mat_iff.mpr ⟨u1, s1, n1⟩] at this
      cases this
set_option maxRecDepth 100000 in
set_option maxHeartbeats 4000000 in
theorem B_i2l {x k : Int} (k0 : 0 ≤ k) (k1 : k < 32) : B (i2lZ x) k = bt x k.toNat := by
  unfold B i2lZ bt
  rw [Int32.toBitVec_toInt64, BitVec.getLsbD_signExtend]
  rw [decide_eq_true (by omega), Bool.true_and, if_pos (by omega)]
section MPLANS
variable {ro : Nat × (Int → Int)} {d : Nat} {Q : Option AV → AH → Prop} {hA : List AC} {mtz : Int} {mt : Int → Int} {mk mkf : Int} {mot mox : Int → Int} {mfa mnd : Int} {miu mnm mso mou mpl : Int → Int} {msc : Int} {mar mex men mnn mon mde mbt mfo mfn mma mit mfm msz mim mmo : Int → Int} {mfi : Int} {IU SO PA BA NM BT F : Int → Int}
set_option maxRecDepth 100000 in
set_option maxHeartbeats 4000000 in
theorem r_renames {i w : Int} (hn : 0 ≤ mnd ∧ mnd ≤ 60) (hi : 0 ≤ i ∧ i < mnd) (hF : ∀ k, 0 ≤ k → k < mnd → mfo k = F k ∧ mbt k = BT k) (hBT : ∀ k, 0 ≤ k → k < mnd → BT k = -1 ∨ (0 ≤ BT k ∧ BT k < mnd)) (hr : rI mfo (-1) 59)
    (hQ : Q none (hA, (heapM mtz mt mk mkf mot mox mfa mnd miu mnm mso mou mpl msc mar mex men (fb mnn (fun k => if BT k ≠ -1 ∧ F (BT k) = F i then w else mnn k) 0 mnd) mon mde mbt mfo mfn mma mit mfm msz mim mmo mfi))) : RNd ro (d + 2) 144 [vR 200, vI i, vI w] (hA, (heapM mtz mt mk mkf mot mox mfa mnd miu mnm mso mou mpl msc mar mex men mnn mon mde mbt mfo mfn mma mit mfm msz mim mmo mfi)) Q := by
  have main : ∀ k : Int, ∀ (f : Int → Int) (j : AV), 0 ≤ k → k ≤ mnd → (∀ q, k ≤ q → f q = mnn q) → Q none (hA, (heapM mtz mt mk mkf mot mox mfa mnd miu mnm mso mou mpl msc mar mex men (fb f (fun k => if BT k ≠ -1 ∧ F (BT k) = F i then w else mnn k) k mnd) mon mde mbt mfo mfn mma mit mfm msz mim mmo mfi)) → WPm ro (d + 1) (RNd ro (d + 1)) 144 0 0 Q 9 [vR 200, vI i, vI w, vL (famB mnd F i), vN, vI k, j] [] (hA, (heapM mtz mt mk mkf mot mox mfa mnd miu mnm mso mou mpl msc mar mex men f mon mde mbt mfo mfn mma mit mfm msz mim mmo mfi)) 0 0 := by
    refine loopUp mnd fun k ih f j k0 k1 hf hq => ?_
    refine WP_first [9, 48] 60 ?_
    refine c2 (fun q => ?_) (fun q => ?_)
    · rw [fb_end q] at hq
      exact hq
    · have e3 := (hF k k0 (by omega)).2
      have hb := hBT k k0 (by omega)
      rw [← fb_st (by omega)] at hq
      have no : ∀ j : AV, ¬ (BT k ≠ -1 ∧ F (BT k) = F i) → WPm ro (d + 1) (RNd ro (d + 1)) 144 0 0 Q 48 [vR 200, vI i, vI w, vL (famB mnd F i), vN, vI k, j] [vI 0] (hA, (heapM mtz mt mk mkf mot mox mfa mnd miu mnm mso mou mpl msc mar mex men f mon mde mbt mfo mfn mma mit mfm msz mim mmo mfi)) 0 0 := by
        intro j z
        rw [if_neg z] at hq
        refine WP_run [9] 60 ?_
        refine t1 ?_
        refine ix ?_
        refine ix ?_
        rw [hf k (by omega)]
        exact ih (by omega) _ _ (by omega) (by omega) (fun q a => by rw [upZ_n (by omega)]; exact hf q (by omega)) hq
      refine ix ?_
      rw [e3]
      refine c2 (fun q2 => ?_) (fun q2 => ?_)
      · exact no _ (by omega)
      · refine ix ?_
        rw [e3]
        have hbf := B_bitsF (p := fun k => decide (F k = F i)) (j := BT k) (by omega) (by omega) mnd.toNat (by omega)
        rw [decide_eq_true (by omega), Bool.true_and] at hbf
        refine r_isIn (by omega) (by omega) (fun h => ?_) (fun h => ?_)
        · have z : F (BT k) = F i := by
            have h2 : B (bitsF (fun k => decide (F k = F i)) mnd.toNat) (BT k) = true := h
            rw [hbf] at h2
            exact of_decide_eq_true h2
          rw [if_pos ⟨q2, z⟩] at hq
          refine f1 ?_
          refine WP_run [9] 60 ?_
          refine f1 ?_
          refine ix ?_
          exact ih (by omega) _ _ (by omega) (by omega) (fun q a => by rw [upZ_n (by omega)]; exact hf q (by omega)) hq
        · refine t1 ?_
          refine no _ (fun z => ?_)
          have h2 : B (bitsF (fun k => decide (F k = F i)) mnd.toNat) (BT k) = false := h
          rw [hbf] at h2
          exact (of_decide_eq_false h2) z.2
  refine WP_run [9] 20 ?_
  refine r_familyBits hn hi (fun k a b => (hF k a b).1) hr ?_
  exact main 0 mnn _ (by omega) (by omega) (fun q _ => rfl) hQ
set_option maxRecDepth 100000 in
set_option maxHeartbeats 4000000 in
theorem r_fresh (hn : 0 ≤ mnd ∧ mnd ≤ 60) (h1 : ∀ k, 0 ≤ k → k < mnd → mnm k = NM k) (hr : rI mnm 0 25) (hQ : Q (some (vI (spr mnd NM))) (hA, (heapM mtz mt mk mkf mot mox mfa mnd miu mnm mso mou mpl msc mar mex men mnn mon mde mbt mfo mfn mma mit mfm msz mim mmo mfi))) : RNd ro (d + 2) 145 [vR 200] (hA, (heapM mtz mt mk mkf mot mox mfa mnd miu mnm mso mou mpl msc mar mex men mnn mon mde mbt mfo mfn mma mit mfm msz mim mmo mfi)) Q := by
  have l2 : ∀ x : Int, (∀ w : Int, 0 ≤ w → w < 26 → bt x w.toNat = tkn NM w mnd.toNat) → ∀ w : Int, 0 ≤ w → w ≤ 26 → Q (some (vI (lkN (fun w => !tkn NM w mnd.toNat) (26 - w).toNat w))) (hA, (heapM mtz mt mk mkf mot mox mfa mnd miu mnm mso mou mpl msc mar mex men mnn mon mde mbt mfo mfn mma mit mfm msz mim mmo mfi)) → WPm ro (d + 1) (RNd ro (d + 1)) 145 0 0 Q 31 [vR 200, vI x, vI w] [] (hA, (heapM mtz mt mk mkf mot mox mfa mnd miu mnm mso mou mpl msc mar mex men mnn mon mde mbt mfo mfn mma mit mfm msz mim mmo mfi)) 0 0 := by
    intro x hx
    refine loopUp 26 fun w ih w0 w1 hq => ?_
    refine WP_first [31] 60 ?_
    refine c2 (fun q => ?_) (fun q => ?_)
    · rw [lkN_end q] at hq
      refine t2 ?_
      exact ri hq
    · have hb := B_i2l (x := x) w0 (by omega)
      rw [hx w w0 (by omega)] at hb
      rw [lkN_st (by omega)] at hq
      refine r_isIn w0 (by omega) (fun h => ?_) (fun h => ?_)
      · rw [hb] at h
        rw [if_neg (by simp [h])] at hq
        refine f1 ?_
        exact ih (by omega) (by omega) (by omega) hq
      · rw [hb] at h
        rw [if_pos (by simp [h])] at hq
        refine t1 ?_
        refine f2 ?_
        exact ri hq
  have l1 : ∀ k : Int, ∀ x : Int, 0 ≤ k → k ≤ mnd → (∀ w : Int, 0 ≤ w → w < 26 → bt x w.toNat = tkn NM w k.toNat) → WPm ro (d + 1) (RNd ro (d + 1)) 145 0 0 Q 4 [vR 200, vI x, vI k] [] (hA, (heapM mtz mt mk mkf mot mox mfa mnd miu mnm mso mou mpl msc mar mex men mnn mon mde mbt mfo mfn mma mit mfm msz mim mmo mfi)) 0 0 := by
    refine loopUp mnd fun k ih x k0 k1 hx => ?_
    refine WP_first [4, 31] 60 ?_
    refine c2 (fun q => ?_) (fun q => ?_)
    · have e : k = mnd := by omega
      subst e
      exact l2 x hx 0 (by omega) (by omega) hQ
    · have e1 := h1 k k0 (by omega)
      have r1 := hr k
      refine ix ?_
      refine ih (by omega) _ (by omega) (by omega) (fun w w0 w1 => ?_)
      have hb := bt_or x (mnm k).toNat w.toNat (by omega)
      rw [show (((mnm k).toNat : Nat) : Int) = mnm k by omega] at hb
      rw [hb, hx w w0 w1, tkn_st k0]
      congr 1
      by_cases e : NM k = w
      · rw [decide_eq_true e, decide_eq_true (by omega)]
      · rw [decide_eq_false e, decide_eq_false (by omega)]
  exact WP_run [4] 20 (l1 0 0 (by omega) (by omega) (fun w _ _ => bt_0 _))
set_option maxRecDepth 100000 in
set_option maxHeartbeats 4000000 in
theorem r_pushes {w sp : Int} (hn : 0 ≤ mnd ∧ mnd ≤ 60) (hw : 0 ≤ w ∧ w < 26) (h1 : ∀ k, 0 ≤ k → k < mnd → mnm k = NM k ∧ mbt k = BT k) (hBT : ∀ k, 0 ≤ k → k < mnd → BT k = -1 ∨ (0 ≤ BT k ∧ BT k < mnd ∧ NM (BT k) = NM k)) (hr : rI mnm 0 25) (h3 : rI mbt (-1) 59)
    (hQ : Q none (hA, (heapM mtz mt mk mkf mot mox mfa mnd miu mnm mso mou mpl msc mar mex men (fb mnn (fun k => if BT k ≠ -1 ∧ NM k = w then sp else mnn k) 0 mnd) mon mde mbt mfo mfn mma mit mfm msz mim mmo mfi))) : RNd ro (d + 1) 146 [vR 200, vI w, vI sp] (hA, (heapM mtz mt mk mkf mot mox mfa mnd miu mnm mso mou mpl msc mar mex men mnn mon mde mbt mfo mfn mma mit mfm msz mim mmo mfi)) Q := by
  have main : ∀ k : Int, ∀ (f : Int → Int) (j : AV), 0 ≤ k → k ≤ mnd → (∀ q, k ≤ q → f q = mnn q) → Q none (hA, (heapM mtz mt mk mkf mot mox mfa mnd miu mnm mso mou mpl msc mar mex men (fb f (fun k => if BT k ≠ -1 ∧ NM k = w then sp else mnn k) k mnd) mon mde mbt mfo mfn mma mit mfm msz mim mmo mfi)) → WPm ro d (RNd ro d) 146 0 0 Q 2 [vR 200, vI w, vI sp, vI k, j] [] (hA, (heapM mtz mt mk mkf mot mox mfa mnd miu mnm mso mou mpl msc mar mex men f mon mde mbt mfo mfn mma mit mfm msz mim mmo mfi)) 0 0 := by
    refine loopUp mnd fun k ih f j k0 k1 hf hq => ?_
    refine WP_first [2, 40] 60 ?_
    refine c2 (fun q => ?_) (fun q => ?_)
    · rw [fb_end q] at hq
      exact hq
    · obtain ⟨e1, e3⟩ := h1 k k0 (by omega)
      have hb := hBT k k0 (by omega)
      have r1 := hr k
      have r3 := h3 k
      rw [← fb_st (by omega)] at hq
      have no : ∀ j : AV, ¬ (BT k ≠ -1 ∧ NM k = w) → WPm ro d (RNd ro d) 146 0 0 Q 40 [vR 200, vI w, vI sp, vI k, j] [vI 0] (hA, (heapM mtz mt mk mkf mot mox mfa mnd miu mnm mso mou mpl msc mar mex men f mon mde mbt mfo mfn mma mit mfm msz mim mmo mfi)) 0 0 := by
        intro j z
        rw [if_neg z] at hq
        refine WP_run [2] 60 ?_
        refine t1 ?_
        refine ix ?_
        refine ix ?_
        rw [hf k (by omega)]
        exact ih (by omega) _ _ (by omega) (by omega) (fun q a => by rw [upZ_n (by omega)]; exact hf q (by omega)) hq
      refine ix ?_
      rw [e3]
      refine c2 (fun q2 => ?_) (fun q2 => ?_)
      · exact no _ (by omega)
      · refine ix ?_
        rw [e3]
        refine ix ?_
        have e5 := (h1 (BT k) (by omega) (by omega)).1
        have r5 := hr (BT k)
        refine c2 (fun q3 => ?_) (fun q3 => ?_)
        · exact no _ (by omega)
        · rw [if_pos (by omega)] at hq
          refine WP_run [2] 60 ?_
          refine f1 ?_
          refine ix ?_
          exact ih (by omega) _ _ (by omega) (by omega) (fun q a => by rw [upZ_n (by omega)]; exact hf q (by omega)) hq
  exact WP_run [2] 20 (main 0 mnn _ (by omega) (by omega) (fun q _ => rfl) hQ)
set_option maxRecDepth 100000 in
set_option maxHeartbeats 4000000 in
theorem r_areOnce (hS : TS mnd msc IU SO PA BA) (hA' : TAg mnd msc miu mso mar mex IU SO PA BA) (hn : rI mnn 0 25) (hr : rI mde (-1) 59) (hT : ∀ s w, 0 ≤ s → s < msc → 0 ≤ w → w < 26 → mde (26 * s + w) = TBd mnd IU SO mnn s w)
    (hQ1 : Once mnd IU SO mnn → Q (some (vI 1)) (hA, (heapM mtz mt mk mkf mot mox mfa mnd miu mnm mso mou mpl msc mar mex men mnn mon mde mbt mfo mfn mma mit mfm msz mim mmo mfi))) (hQ0 : ¬ Once mnd IU SO mnn → Q (some (vI 0)) (hA, (heapM mtz mt mk mkf mot mox mfa mnd miu mnm mso mou mpl msc mar mex men mnn mon mde mbt mfo mfn mma mit mfm msz mim mmo mfi))) : RNd ro (d + 1) 147 [vR 200] (hA, (heapM mtz mt mk mkf mot mox mfa mnd miu mnm mso mou mpl msc mar mex men mnn mon mde mbt mfo mfn mma mit mfm msz mim mmo mfi)) Q := by
  obtain ⟨S1, S2, S3, S4⟩ := id hS
  rw [Once_iff] at hQ1 hQ0
  have main : ∀ k : Int, ∀ x : Int, 0 ≤ k → k ≤ mnd → ((x = 1 ∧ ∀ q, 0 ≤ q → q < k → IU q = 0 → TBd mnd IU SO mnn (SO q) (mnn q) = q) ∨ (x = 0 ∧ ¬ ∀ q, 0 ≤ q → q < mnd → IU q = 0 → TBd mnd IU SO mnn (SO q) (mnn q) = q)) → WPm ro d (RNd ro d) 147 0 0 Q 4 [vR 200, vI x, vI k] [] (hA, (heapM mtz mt mk mkf mot mox mfa mnd miu mnm mso mou mpl msc mar mex men mnn mon mde mbt mfo mfn mma mit mfm msz mim mmo mfi)) 0 0 := by
    refine loopUp mnd fun k ih x k0 k1 hx => ?_
    refine WP_first [4] 60 ?_
    refine c2 (fun q => ?_) (fun q => ?_)
    · rcases hx with ⟨rfl, hx⟩ | ⟨rfl, hx⟩
      · exact rz (hQ1 (fun q a b => hx q a (by omega)))
      · exact rz (hQ0 hx)
    · obtain ⟨e1, e2⟩ := hA'.1 k k0 (by omega)
      obtain ⟨S31, S32⟩ := S3 k k0 (by omega)
      have hnk := hn k
      rcases hx with ⟨rfl, hx⟩ | ⟨rfl, hx⟩
      · refine f1 ?_
        refine ix ?_
        have ok : (IU k = 0 → TBd mnd IU SO mnn (SO k) (mnn k) = k) → WPm ro d (RNd ro d) 147 0 0 Q 4 [vR 200, vI 1, vI (k + 1)] [] (hA, (heapM mtz mt mk mkf mot mox mfa mnd miu mnm mso mou mpl msc mar mex men mnn mon mde mbt mfo mfn mma mit mfm msz mim mmo mfi)) 0 0 := by
          intro z
          refine ih (by omega) _ (by omega) (by omega) (Or.inl ⟨rfl, fun q a b u => ?_⟩)
          by_cases e : q = k
          · subst e; exact z u
          · exact hx q a (by omega) u
        refine c2 (fun q2 => ?_) (fun q2 => ?_)
        · exact ok (fun u => by omega)
        · refine ix ?_
          refine ix ?_
          refine ix ?_
          have e3 := hT (SO k) (mnn k) S32.1 S32.2 hnk.1 (by omega)
          have r3 := hr (26 * mso k + mnn k)
          rw [← e2] at e3
          refine c2 (fun q3 => ?_) (fun q3 => ?_)
          · exact ih (by omega) _ (by omega) (by omega) (Or.inr ⟨rfl, fun z => q3 (by rw [e3, e2]; exact z k k0 (by omega) (by omega))⟩)
          · exact ok (fun u => by rw [← e2, ← e3]; exact q3)
      · refine t1 ?_
        exact ih (by omega) _ (by omega) (by omega) (Or.inr ⟨rfl, hx⟩)
  exact WP_run [4] 20 (main 0 1 (by omega) (by omega) (Or.inl ⟨rfl, fun q a b => by omega⟩))
set_option maxRecDepth 100000 in
set_option maxHeartbeats 4000000 in
theorem r_areFamilies (hS : TS mnd msc IU SO PA BA) (hA' : TAg mnd msc miu mso mar mex IU SO PA BA) (hn : rI mnn 0 25) (hr : rI mde (-1) 59) (hrf : rI mfn (-1) 59) (hrg : rI mfo (-1) 59) (hT : ∀ s w, 0 ≤ s → s < msc → 0 ≤ w → w < 26 → mde (26 * s + w) = TBd mnd IU SO mnn s w) (hF : ∀ k, 0 ≤ k → k < mnd → mfo k = F k)
    (hQ1 : ∀ f, rI f (-1) 59 → (∀ k, 0 ≤ k → k < mnd → famN IU (SFv IU SO BA mnn (OW mnd IU SO BA mnn)) mnd.toNat k = F k) → Q (some (vI 1)) (hA, (heapM mtz mt mk mkf mot mox mfa mnd miu mnm mso mou mpl msc mar mex men mnn mon mde mbt mfo f mma mit mfm msz mim mmo mfi))) (hQ0 : ∀ f, rI f (-1) 59 → ¬ (∀ k, 0 ≤ k → k < mnd → famN IU (SFv IU SO BA mnn (OW mnd IU SO BA mnn)) mnd.toNat k = F k) → Q (some (vI 0)) (hA, (heapM mtz mt mk mkf mot mox mfa mnd miu mnm mso mou mpl msc mar mex men mnn mon mde mbt mfo f mma mit mfm msz mim mmo mfi))) : RNd ro (d + 4) 148 [vR 200] (hA, (heapM mtz mt mk mkf mot mox mfa mnd miu mnm mso mou mpl msc mar mex men mnn mon mde mbt mfo mfn mma mit mfm msz mim mmo mfi)) Q := by
  obtain ⟨S1, S2, S3, S4⟩ := id hS
  refine WP_run [8] 20 ?_
  refine r_findsFamilies hS hA' hn hr hrf hT (fun s w a b c e => TBd_lt S1.1) (fun f hf hfk => ?_)
  have main : ∀ k : Int, ∀ x : Int, 0 ≤ k → k ≤ mnd → ((x = 1 ∧ ∀ q, 0 ≤ q → q < k → f q = F q) ∨ (x = 0 ∧ ¬ ∀ q, 0 ≤ q → q < mnd → f q = F q)) → WPm ro (d + 3) (RNd ro (d + 3)) 148 0 0 Q 8 [vR 200, vI x, vI k] [] (hA, (heapM mtz mt mk mkf mot mox mfa mnd miu mnm mso mou mpl msc mar mex men mnn mon mde mbt mfo f mma mit mfm msz mim mmo mfi)) 0 0 := by
    refine loopUp mnd fun k ih x k0 k1 hx => ?_
    refine WP_first [8] 60 ?_
    refine c2 (fun q => ?_) (fun q => ?_)
    · rcases hx with ⟨rfl, hx⟩ | ⟨rfl, hx⟩
      · exact rz (hQ1 f hf (fun k a b => by have := hx k a (by omega); rw [hfk k a b] at this; exact this))
      · exact rz (hQ0 f hf (fun z => hx (fun k a b => by rw [hfk k a b]; exact z k a b)))
    · rcases hx with ⟨rfl, hx⟩ | ⟨rfl, hx⟩
      · have e1 := hF k k0 (by omega)
        have r1 := hf k
        have r2 := hrg k
        refine f1 ?_
        refine ix ?_
        refine ix ?_
        refine c2 (fun q2 => ?_) (fun q2 => ?_)
        · exact ih (by omega) _ (by omega) (by omega) (Or.inr ⟨rfl, fun z => q2 (by rw [e1]; exact z k k0 (by omega))⟩)
        · refine ih (by omega) _ (by omega) (by omega) (Or.inl ⟨rfl, fun q a b => ?_⟩)
          by_cases e : q = k
          · subst e; rw [← e1]; exact q2
          · exact hx q a (by omega)
      · refine t1 ?_
        exact ih (by omega) _ (by omega) (by omega) (Or.inr ⟨rfl, hx⟩)
  exact main 0 1 (by omega) (by omega) (Or.inl ⟨rfl, fun q a b => by omega⟩)
set_option maxRecDepth 100000 in
set_option maxHeartbeats 4000000 in
theorem r_areBound (hS : TS mnd msc IU SO PA BA) (hA' : TAg mnd msc miu mso mar mex IU SO PA BA) (hn : rI mnn 0 25) (ho : rI mon 0 4) (hr : rI mde (-1) 59) (hrb : rI mbt (-1) 59) (hT : ∀ s w, 0 ≤ s → s < msc → 0 ≤ w → w < 26 → mde (26 * s + w) = TBd mnd IU SO mnn s w) (hB : ∀ k, 0 ≤ k → k < mnd → mbt k = BT k)
    (hQ1 : (∀ k, 0 ≤ k → k < mnd → IU k = 1 → BN mnd IU SO PA BA mnn (SO k) (mon k) (mnn k) = BT k) → Q (some (vI 1)) (hA, (heapM mtz mt mk mkf mot mox mfa mnd miu mnm mso mou mpl msc mar mex men mnn mon mde mbt mfo mfn mma mit mfm msz mim mmo mfi))) (hQ0 : ¬ (∀ k, 0 ≤ k → k < mnd → IU k = 1 → BN mnd IU SO PA BA mnn (SO k) (mon k) (mnn k) = BT k) → Q (some (vI 0)) (hA, (heapM mtz mt mk mkf mot mox mfa mnd miu mnm mso mou mpl msc mar mex men mnn mon mde mbt mfo mfn mma mit mfm msz mim mmo mfi))) : RNd ro (d + 4) 149 [vR 200] (hA, (heapM mtz mt mk mkf mot mox mfa mnd miu mnm mso mou mpl msc mar mex men mnn mon mde mbt mfo mfn mma mit mfm msz mim mmo mfi)) Q := by
  obtain ⟨S1, S2, S3, S4⟩ := id hS
  have main : ∀ k : Int, ∀ x : Int, 0 ≤ k → k ≤ mnd → ((x = 1 ∧ ∀ q, 0 ≤ q → q < k → IU q = 1 → BN mnd IU SO PA BA mnn (SO q) (mon q) (mnn q) = BT q) ∨ (x = 0 ∧ ¬ ∀ q, 0 ≤ q → q < mnd → IU q = 1 → BN mnd IU SO PA BA mnn (SO q) (mon q) (mnn q) = BT q)) → WPm ro (d + 3) (RNd ro (d + 3)) 149 0 0 Q 4 [vR 200, vI x, vI k] [] (hA, (heapM mtz mt mk mkf mot mox mfa mnd miu mnm mso mou mpl msc mar mex men mnn mon mde mbt mfo mfn mma mit mfm msz mim mmo mfi)) 0 0 := by
    refine loopUp mnd fun k ih x k0 k1 hx => ?_
    refine WP_first [4] 60 ?_
    refine c2 (fun q => ?_) (fun q => ?_)
    · rcases hx with ⟨rfl, hx⟩ | ⟨rfl, hx⟩
      · exact rz (hQ1 (fun q a b => hx q a (by omega)))
      · exact rz (hQ0 hx)
    · obtain ⟨e1, e2⟩ := hA'.1 k k0 (by omega)
      obtain ⟨S31, S32⟩ := S3 k k0 (by omega)
      have r1 := hrb k
      have e3 := hB k k0 (by omega)
      rcases hx with ⟨rfl, hx⟩ | ⟨rfl, hx⟩
      · refine f1 ?_
        refine ix ?_
        have ok : (IU k = 1 → BN mnd IU SO PA BA mnn (SO k) (mon k) (mnn k) = BT k) → WPm ro (d + 3) (RNd ro (d + 3)) 149 0 0 Q 4 [vR 200, vI 1, vI (k + 1)] [] (hA, (heapM mtz mt mk mkf mot mox mfa mnd miu mnm mso mou mpl msc mar mex men mnn mon mde mbt mfo mfn mma mit mfm msz mim mmo mfi)) 0 0 := by
          intro z
          refine ih (by omega) _ (by omega) (by omega) (Or.inl ⟨rfl, fun q a b u => ?_⟩)
          by_cases e : q = k
          · subst e; exact z u
          · exact hx q a (by omega) u
        refine c1 (fun q2 => ?_) (fun q2 => ?_)
        · exact ok (fun u => by omega)
        · refine r_boundNow hS hA' ⟨k0, by omega⟩ hn ho hr hT ?_
          refine ix ?_
          have hd := BN_dl (nn := mnn) (o := mon k) (w := mnn k) hS S32.2
          have hg : -1 ≤ BN mnd IU SO PA BA mnn (SO k) (mon k) (mnn k) ∧ BN mnd IU SO PA BA mnn (SO k) (mon k) (mnn k) ≤ 59 := by
            rcases hd with e | ⟨z1, z2, -⟩
            · rw [e]; omega
            · omega
          show rg (BN mnd IU SO PA BA mnn (SO k) (mon k) (mnn k)) ∧ _
          refine c2 (fun q3 => ?_) (fun q3 => ?_)
          · exact ih (by omega) _ (by omega) (by omega) (Or.inr ⟨rfl, fun z => q3 (by rw [e3]; exact z k k0 (by omega) (by omega))⟩)
          · exact ok (fun u => by rw [← e3]; exact q3)
      · refine t1 ?_
        exact rz (hQ0 hx)
  exact WP_run [4] 20 (main 0 1 (by omega) (by omega) (Or.inl ⟨rfl, fun q a b => by omega⟩))
end MPLANS
