/-! ===== the reference: names, scopes, families ===== -/
/-- for which declaration a declaration stands -/
def SFv (IU SO BA nn : Int → Int) (T : Int → Int → Int) (k : Int) : Int := if IU k = 1 ∨ BA (SO k) = -1 then -1 else T (BA (SO k)) (nn k)
def famS (F : Int → Int) (o k : Int) : Int → Int := if o = -1 ∨ F o = F k then F else fun j => if F j = (if F o < F k then F k else F o) then (if F o < F k then F o else F k) else F j
def famN (IU SF : Int → Int) : Nat → Int → Int
  | 0 => fun k => if IU k = 1 then -1 else k
  | n + 1 => famS (famN IU SF n) (SF n) n
set_option maxRecDepth 100000 in
set_option maxHeartbeats 4000000 in
theorem famS_rg {F : Int → Int} {o k lo hi : Int} (h : rI F lo hi) : rI (famS F o k) lo hi := by
  intro j
  unfold famS
  have h1 := h j
  have h2 := h o
  have h3 := h k
  split
  · exact h1
  · show lo ≤ (if F j = (if F o < F k then F k else F o) then (if F o < F k then F o else F k) else F j) ∧ (if F j = (if F o < F k then F k else F o) then (if F o < F k then F o else F k) else F j) ≤ hi
    split
    · split <;> omega
    · omega
section MNAMES
variable {ro : Nat × (Int → Int)} {d : Nat} {Q : Option AV → AH → Prop} {hA : List AC} {mtz : Int} {mt : Int → Int} {mk mkf : Int} {mot mox : Int → Int} {mfa mnd : Int} {miu mnm mso mou mpl : Int → Int} {msc : Int} {mar mex men mnn mon mde mbt mfo mfn mma mit mfm msz mim mmo : Int → Int} {mfi : Int} {IU SO PA BA : Int → Int}
set_option maxRecDepth 100000 in
set_option maxHeartbeats 4000000 in
theorem r_asTold (hn : 0 ≤ mnd ∧ mnd ≤ 60) (hQ : Q none (hA, (heapM mtz mt mk mkf mot mox mfa mnd miu mnm mso mou mpl msc mar mex men (fb mnn mnm 0 mnd) (fb mon mou 0 mnd) mde mbt mfo mfn mma mit mfm msz mim mmo mfi))) : RNd ro (d + 1) 117 [vR 200] (hA, (heapM mtz mt mk mkf mot mox mfa mnd miu mnm mso mou mpl msc mar mex men mnn mon mde mbt mfo mfn mma mit mfm msz mim mmo mfi)) Q := by
  have main : ∀ k : Int, ∀ f g : Int → Int, 0 ≤ k → k ≤ mnd → Q none (hA, (heapM mtz mt mk mkf mot mox mfa mnd miu mnm mso mou mpl msc mar mex men (fb f mnm k mnd) (fb g mou k mnd) mde mbt mfo mfn mma mit mfm msz mim mmo mfi)) → WPm ro d (RNd ro d) 117 0 0 Q 2 [vR 200, vI k] [] (hA, (heapM mtz mt mk mkf mot mox mfa mnd miu mnm mso mou mpl msc mar mex men f g mde mbt mfo mfn mma mit mfm msz mim mmo mfi)) 0 0 := by
    refine loopUp mnd fun k ih f g k0 k1 hq => ?_
    refine WP_first [2] 60 ?_
    refine c2 (fun q => ?_) (fun q => ?_)
    · rw [fb_end q, fb_end q] at hq
      exact hq
    · refine ix ?_
      refine ix ?_
      refine ix ?_
      refine ix ?_
      rw [← fb_st (by omega), ← fb_st (f := g) (by omega)] at hq
      exact ih (by omega) _ _ (by omega) (by omega) hq
  exact WP_run [2] 20 (main 0 mnn mon (by omega) (by omega) hQ)
set_option maxRecDepth 100000 in
set_option maxHeartbeats 4000000 in
theorem r_declares (hS : TS mnd msc IU SO PA BA) (hA' : TAg mnd msc miu mso mar mex IU SO PA BA) (hn : rI mnn 0 25) (hr : rI mde (-1) 59)
    (hQ : ∀ t, rI t (-1) 59 → (∀ s w, 0 ≤ s → s < msc → 0 ≤ w → w < 26 → t (26 * s + w) = TBd mnd IU SO mnn s w) → Q none (hA, (heapM mtz mt mk mkf mot mox mfa mnd miu mnm mso mou mpl msc mar mex men mnn mon t mbt mfo mfn mma mit mfm msz mim mmo mfi))) : RNd ro (d + 1) 118 [vR 200] (hA, (heapM mtz mt mk mkf mot mox mfa mnd miu mnm mso mou mpl msc mar mex men mnn mon mde mbt mfo mfn mma mit mfm msz mim mmo mfi)) Q := by
  obtain ⟨S1, S2, S3, S4⟩ := id hS
  have l2 : ∀ k : Int, ∀ (t : Int → Int), -1 ≤ k → k < mnd → rI t (-1) 59 → (∀ s w, 0 ≤ s → s < msc → 0 ≤ w → w < 26 → t (26 * s + w) = TBk mnd IU SO mnn (k + 1) s w) → WPm ro d (RNd ro d) 118 0 0 Q 33 [vR 200, vI k] [] (hA, (heapM mtz mt mk mkf mot mox mfa mnd miu mnm mso mou mpl msc mar mex men mnn mon t mbt mfo mfn mma mit mfm msz mim mmo mfi)) 0 0 := by
    refine loopDn 0 fun k ih t k0 k1 ht hT => ?_
    have kk : k - 1 + 1 = k := by omega
    refine WP_first [33] 60 ?_
    refine c1 (fun q => ?_) (fun q => ?_)
    · have e : k = -1 := by omega
      subst e
      exact hQ t ht hT
    · obtain ⟨e1, e2⟩ := hA'.1 k (by omega) k1
      obtain ⟨S31, S32⟩ := S3 k (by omega) k1
      have hnk := hn k
      refine ix ?_
      refine c1 (fun q2 => ?_) (fun q2 => ?_)
      · refine ih (by omega) t (by omega) (by omega) ht (fun s w a b c e => ?_)
        rw [kk, TBk_st k1, if_neg (fun z => by have := mat_iff.mp z; omega)]
        exact hT s w a b c e
      · refine ix ?_
        refine ix ?_
        refine ix ?_
        refine ih (by omega) _ (by omega) (by omega) (rI_up ht (by omega) (by omega)) (fun s w a b c e => ?_)
        rw [kk, TBk_st k1]
        by_cases hm : mat IU SO mnn s w k = true
        · obtain ⟨m1, m2, m3⟩ := mat_iff.mp hm
          rw [if_pos hm, e2, m2, m3, upZ_s]
        · rw [if_neg hm, upZ_n (fun z => hm (mat_iff.mpr ⟨by omega, by omega, by omega⟩))]
          exact hT s w a b c e
  have l1 : ∀ i : Int, ∀ (t : Int → Int), 0 ≤ i → i ≤ 26 * msc → rI t (-1) 59 → (∀ q, 0 ≤ q → q < i → t q = -1) → WPm ro d (RNd ro d) 118 0 0 Q 2 [vR 200, vI i] [] (hA, (heapM mtz mt mk mkf mot mox mfa mnd miu mnm mso mou mpl msc mar mex men mnn mon t mbt mfo mfn mma mit mfm msz mim mmo mfi)) 0 0 := by
    refine loopUp (26 * msc) fun i ih t i0 i1 ht hT => ?_
    refine WP_first [2, 33] 60 ?_
    refine c2 (fun q => ?_) (fun q => ?_)
    · refine l2 (mnd - 1) t (by omega) (by omega) ht (fun s w a b c e => ?_)
      rw [show mnd - 1 + 1 = mnd by omega, TBk_end (by omega)]
      exact hT _ (by omega) (by omega)
    · refine ix ?_
      refine ih (by omega) _ (by omega) (by omega) (rI_up ht (by omega) (by omega)) (fun q a b => ?_)
      by_cases e : q = i
      · rw [e, upZ_s]
      · rw [upZ_n e]; exact hT q a (by omega)
  exact WP_run [2] 20 (l1 0 mde (by omega) (by omega) hr (fun q a b => by omega))
set_option maxRecDepth 100000 in
set_option maxHeartbeats 4000000 in
theorem r_ownNow {s w : Int} {T : Int → Int → Int} (hS : TS mnd msc IU SO PA BA) (hA' : TAg mnd msc miu mso mar mex IU SO PA BA) (hs : -1 ≤ s ∧ s < msc) (hw : 0 ≤ w ∧ w < 26) (hr : rI mde (-1) 59) (hT : ∀ s w, 0 ≤ s → s < msc → 0 ≤ w → w < 26 → mde (26 * s + w) = T s w)
    (hQ : Q (some (vI (lkp BA T w 10 s))) (hA, (heapM mtz mt mk mkf mot mox mfa mnd miu mnm mso mou mpl msc mar mex men mnn mon mde mbt mfo mfn mma mit mfm msz mim mmo mfi))) : RNd ro (d + 1) 119 [vR 200, vI s, vI w] (hA, (heapM mtz mt mk mkf mot mox mfa mnd miu mnm mso mou mpl msc mar mex men mnn mon mde mbt mfo mfn mma mit mfm msz mim mmo mfi)) Q := by
  obtain ⟨S1, S2, S3, S4⟩ := id hS
  have main : ∀ (f : Nat) (s' fo : Int), -1 ≤ s' → s' < f → s' < msc → (-1 ≤ fo ∧ fo ≤ 59) → Q (some (vI (if fo = -1 then lkp BA T w f s' else fo))) (hA, (heapM mtz mt mk mkf mot mox mfa mnd miu mnm mso mou mpl msc mar mex men mnn mon mde mbt mfo mfn mma mit mfm msz mim mmo mfi)) → WPm ro d (RNd ro d) 119 0 0 Q 5 [vR 200, vI s, vI w, vI fo, vI s'] [] (hA, (heapM mtz mt mk mkf mot mox mfa mnd miu mnm mso mou mpl msc mar mex men mnn mon mde mbt mfo mfn mma mit mfm msz mim mmo mfi)) 0 0 := by
    intro f
    induction f with
    | zero =>
      intro s' fo h1 h2 h3 hf hq
      refine WP_first [5] 60 ?_
      refine t2 ?_
      split at hq
      · rename_i e
        rw [e]
        exact ri hq
      · exact ri hq
    | succ f ih =>
      intro s' fo h1 h2 h3 hf hq
      refine WP_first [5] 60 ?_
      refine c2 (fun q => ?_) (fun q => ?_)
      · rw [lkp_neg (by omega)] at hq
        split at hq
        · rename_i e
          rw [e]
          exact ri hq
        · exact ri hq
      · refine c2 (fun q2 => ?_) (fun q2 => ?_)
        · rw [if_neg q2] at hq
          exact ri hq
        · refine ix ?_
          refine ix ?_
          have e1 := hT s' w (by omega) h3 hw.1 hw.2
          have e2 := hr (26 * s' + w)
          have e3 := (hA'.2 s' (by omega) h3).2
          have e4 := (S4 s' (by omega) h3).2
          refine ih (mex s') _ (by omega) (by omega) (by omega) e2 ?_
          rw [if_pos q2, lkp, if_neg (by omega)] at hq
          rw [e1, e3]
          exact hq
  exact WP_run [5] 20 (main 10 s (-1) hs.1 (by omega) hs.2 (by omega) (by rw [if_pos rfl]; exact hQ))
set_option maxRecDepth 100000 in
set_option maxHeartbeats 4000000 in
theorem r_boundFrom {s o w : Int} {T : Int → Int → Int} (hS : TS mnd msc IU SO PA BA) (hA' : TAg mnd msc miu mso mar mex IU SO PA BA) (hs : -1 ≤ s ∧ s < msc) (ho : 0 ≤ o ∧ o ≤ 4) (hw : 0 ≤ w ∧ w < 26) (hr : rI mde (-1) 59) (hT : ∀ s w, 0 ≤ s → s < msc → 0 ≤ w → w < 26 → mde (26 * s + w) = T s w)
    (hQ : Q (some (vI (lkp PA (fun s w => lkp BA T w 10 s) w 10 (goOut PA o.toNat s)))) (hA, (heapM mtz mt mk mkf mot mox mfa mnd miu mnm mso mou mpl msc mar mex men mnn mon mde mbt mfo mfn mma mit mfm msz mim mmo mfi))) : RNd ro (d + 2) 120 [vR 200, vI s, vI o, vI w] (hA, (heapM mtz mt mk mkf mot mox mfa mnd miu mnm mso mou mpl msc mar mex men mnn mon mde mbt mfo mfn mma mit mfm msz mim mmo mfi)) Q := by
  obtain ⟨S1, S2, S3, S4⟩ := id hS
  have hO : ∀ s, 0 ≤ s → s < msc → -1 ≤ lkp BA T w 10 s ∧ lkp BA T w 10 s ≤ 59 := fun s s0 s1 => lkp_rg (m := msc) (by omega) (by omega) (fun s s0 s1 => (S4 s s0 s1).2.2) (fun s s0 s1 => by rw [← hT s w s0 s1 hw.1 hw.2]; exact hr _) 10 s s1
  have l2 : ∀ (f : Nat) (s' fo : Int), -1 ≤ s' → s' < f → s' < msc → (-1 ≤ fo ∧ fo ≤ 59) → Q (some (vI (if fo = -1 then lkp PA (fun s w => lkp BA T w 10 s) w f s' else fo))) (hA, (heapM mtz mt mk mkf mot mox mfa mnd miu mnm mso mou mpl msc mar mex men mnn mon mde mbt mfo mfn mma mit mfm msz mim mmo mfi)) → WPm ro (d + 1) (RNd ro (d + 1)) 120 0 0 Q 36 [vR 200, vI s, vI o, vI w, vI s', vI fo] [] (hA, (heapM mtz mt mk mkf mot mox mfa mnd miu mnm mso mou mpl msc mar mex men mnn mon mde mbt mfo mfn mma mit mfm msz mim mmo mfi)) 0 0 := by
    intro f
    induction f with
    | zero =>
      intro s' fo h1 h2 h3 hf hq
      refine WP_first [36] 60 ?_
      refine t2 ?_
      split at hq
      · rename_i e
        rw [e]
        exact ri hq
      · exact ri hq
    | succ f ih =>
      intro s' fo h1 h2 h3 hf hq
      refine WP_first [36] 60 ?_
      refine c2 (fun q => ?_) (fun q => ?_)
      · rw [lkp_neg (by omega)] at hq
        split at hq
        · rename_i e
          rw [e]
          exact ri hq
        · exact ri hq
      · refine c2 (fun q2 => ?_) (fun q2 => ?_)
        · rw [if_neg q2] at hq
          exact ri hq
        · refine r_ownNow hS hA' ⟨h1, h3⟩ hw hr hT ?_
          refine ix ?_
          have e3 := (hA'.2 s' (by omega) h3).1
          have e4 := (S4 s' (by omega) h3).1
          refine ih (mar s') _ (by omega) (by omega) (by omega) (hO s' (by omega) h3) ?_
          rw [if_pos q2, lkp, if_neg (by omega)] at hq
          rw [e3]
          exact hq
  have l1 : ∀ (n : Nat) (k s' : Int), k + (n : Int) = o → 0 ≤ k → -1 ≤ s' → s' < msc → Q (some (vI (lkp PA (fun s w => lkp BA T w 10 s) w 10 (goOut PA n s')))) (hA, (heapM mtz mt mk mkf mot mox mfa mnd miu mnm mso mou mpl msc mar mex men mnn mon mde mbt mfo mfn mma mit mfm msz mim mmo mfi)) → WPm ro (d + 1) (RNd ro (d + 1)) 120 0 0 Q 6 [vR 200, vI s, vI o, vI w, vI s', vI k] [] (hA, (heapM mtz mt mk mkf mot mox mfa mnd miu mnm mso mou mpl msc mar mex men mnn mon mde mbt mfo mfn mma mit mfm msz mim mmo mfi)) 0 0 := by
    intro n
    induction n with
    | zero =>
      intro k s' hk hk0 hs1 hs2 hq
      refine WP_first [6, 36] 60 ?_
      refine t2 ?_
      exact l2 10 s' (-1) hs1 (by omega) hs2 (by omega) (by rw [if_pos rfl]; exact hq)
    | succ n ih =>
      intro k s' hk hk0 hs1 hs2 hq
      refine WP_first [6, 36] 60 ?_
      refine f2 ?_
      rw [goOut] at hq
      refine c2 (fun q => ?_) (fun q => ?_)
      · rw [if_pos (by omega)] at hq
        exact l2 10 s' (-1) hs1 (by omega) hs2 (by omega) (by rw [if_pos rfl]; exact hq)
      · rw [if_neg (by omega)] at hq
        refine ix ?_
        have e3 := (hA'.2 s' (by omega) hs2).1
        have e4 := (S4 s' (by omega) hs2).1
        rw [← e3] at hq
        exact ih (k + 1) (mar s') (by omega) (by omega) (by omega) (by omega) hq
  exact WP_run [6] 20 (l1 o.toNat 0 s (by omega) (by omega) hs.1 hs.2 hQ)
set_option maxRecDepth 100000 in
set_option maxHeartbeats 4000000 in
theorem r_boundNow {k : Int} {T : Int → Int → Int} (hS : TS mnd msc IU SO PA BA) (hA' : TAg mnd msc miu mso mar mex IU SO PA BA) (hk : 0 ≤ k ∧ k < mnd) (hn : rI mnn 0 25) (ho : rI mon 0 4) (hr : rI mde (-1) 59) (hT : ∀ s w, 0 ≤ s → s < msc → 0 ≤ w → w < 26 → mde (26 * s + w) = T s w)
    (hQ : Q (some (vI (lkp PA (fun s w => lkp BA T w 10 s) (mnn k) 10 (goOut PA (mon k).toNat (SO k))))) (hA, (heapM mtz mt mk mkf mot mox mfa mnd miu mnm mso mou mpl msc mar mex men mnn mon mde mbt mfo mfn mma mit mfm msz mim mmo mfi))) : RNd ro (d + 3) 121 [vR 200, vI k] (hA, (heapM mtz mt mk mkf mot mox mfa mnd miu mnm mso mou mpl msc mar mex men mnn mon mde mbt mfo mfn mma mit mfm msz mim mmo mfi)) Q := by
  obtain ⟨S1, S2, S3, S4⟩ := id hS
  obtain ⟨e1, e2⟩ := hA'.1 k hk.1 hk.2
  obtain ⟨S31, S32⟩ := S3 k hk.1 hk.2
  have h1 := hn k
  have h2 := ho k
  refine WP_run [] 20 ?_
  refine ix ?_
  refine ix ?_
  refine ix ?_
  refine r_boundFrom hS hA' (by omega) (by omega) (by omega) hr hT ?_
  rw [e2]
  exact ri hQ
set_option maxRecDepth 100000 in
set_option maxHeartbeats 4000000 in
theorem r_standsFor {k : Int} {T : Int → Int → Int} (hS : TS mnd msc IU SO PA BA) (hA' : TAg mnd msc miu mso mar mex IU SO PA BA) (hk : 0 ≤ k ∧ k < mnd) (hn : rI mnn 0 25) (hr : rI mde (-1) 59) (hT : ∀ s w, 0 ≤ s → s < msc → 0 ≤ w → w < 26 → mde (26 * s + w) = T s w)
    (hQ : Q (some (vI (SFv IU SO BA mnn (fun s w => lkp BA T w 10 s) k))) (hA, (heapM mtz mt mk mkf mot mox mfa mnd miu mnm mso mou mpl msc mar mex men mnn mon mde mbt mfo mfn mma mit mfm msz mim mmo mfi))) : RNd ro (d + 2) 122 [vR 200, vI k] (hA, (heapM mtz mt mk mkf mot mox mfa mnd miu mnm mso mou mpl msc mar mex men mnn mon mde mbt mfo mfn mma mit mfm msz mim mmo mfi)) Q := by
  obtain ⟨S1, S2, S3, S4⟩ := id hS
  obtain ⟨e1, e2⟩ := hA'.1 k hk.1 hk.2
  obtain ⟨S31, S32⟩ := S3 k hk.1 hk.2
  have h1 := hn k
  have e3 := (hA'.2 (SO k) S32.1 S32.2).2
  have e4 := (S4 (SO k) S32.1 S32.2).2
  unfold SFv at hQ
  refine WP_run [] 30 ?_
  refine ix ?_
  refine ix ?_
  refine ix ?_
  rw [e2]
  refine c2 (fun q => ?_) (fun q => ?_)
  · rw [if_pos (Or.inl (by omega))] at hQ
    exact ri hQ
  · refine c2 (fun q2 => ?_) (fun q2 => ?_)
    · refine ix ?_
      rw [if_neg (by omega)] at hQ
      refine r_ownNow hS hA' (by omega) (by omega) hr hT ?_
      rw [e3]
      exact ri hQ
    · rw [if_pos (Or.inr (by omega))] at hQ
      exact ri hQ
end MNAMES
