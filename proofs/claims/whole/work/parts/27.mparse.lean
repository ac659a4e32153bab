/-! ===== the reference reads the text ===== -/
section MPARSE
variable {ro : Nat × (Int → Int)} {d : Nat} {Q : Option AV → AH → Prop} {hA : List AC} {mtz : Int} {mt : Int → Int} {mk mkf : Int} {mot mox : Int → Int} {mfa mnd : Int} {miu mnm mso mou mpl : Int → Int} {msc : Int} {mar mex men mnn mon mde mbt mfo mfn mma mit mfm msz mim mmo : Int → Int} {mfi : Int}
set_option maxRecDepth 100000 in
set_option maxHeartbeats 4000000 in
theorem r_in {v lo hi : Int} {h : AH} (hv : rg v) (hlo : rg lo) (hhi : rg hi) (h1 : lo ≤ v ∧ v ≤ hi → Q (some (vI 1)) h) (h0 : ¬ (lo ≤ v ∧ v ≤ hi) → Q (some (vI 0)) h) : RNd ro (d + 1) 101 [vI v, vI lo, vI hi] h Q := by
  refine WP_run [] 60 ?_
  refine c2 (fun q => ?_) (fun q => ?_) hv hlo
  · exact rz (h0 (by omega))
  · refine c2 (fun q2 => ?_) (fun q2 => ?_) hv hhi
    · exact rz (h0 (by omega))
    · exact rz (h1 (by omega))
set_option maxRecDepth 100000 in
set_option maxHeartbeats 4000000 in
theorem r_isName {b : Int} {h : AH} (hb : rg b) (h1 : 97 ≤ b ∧ b ≤ 122 → Q (some (vI 1)) h) (h0 : ¬ (97 ≤ b ∧ b ≤ 122) → Q (some (vI 0)) h) : RNd ro (d + 2) 104 [vI b] h Q := by
  refine WP_run [] 60 ?_
  refine r_in hb (by unfold rg; omega) (by unfold rg; omega) (fun q => ?_) (fun q => ?_)
  · exact rz (h1 q)
  · exact rz (h0 q)
set_option maxRecDepth 100000 in
set_option maxHeartbeats 4000000 in
theorem r_isTwice {a b : Int} (hb : 0 ≤ b ∧ b ≤ 255) (ha : rg a) (hn : 0 ≤ mnd ∧ mnd ≤ 60) (hiu : rI miu 0 1) (hnm : rI mnm 0 25) (hso : rI mso 0 9) (h1 : twB miu mso mnm a (b - 97) mnd.toNat = true → Q (some (vI 1)) (hA, (heapM mtz mt mk mkf mot mox mfa mnd miu mnm mso mou mpl msc mar mex men mnn mon mde mbt mfo mfn mma mit mfm msz mim mmo mfi))) (h0 : twB miu mso mnm a (b - 97) mnd.toNat = false → Q (some (vI 0)) (hA, (heapM mtz mt mk mkf mot mox mfa mnd miu mnm mso mou mpl msc mar mex men mnn mon mde mbt mfo mfn mma mit mfm msz mim mmo mfi))) : RNd ro (d + 1) 112 [vR 200, vI a, vI b] (hA, (heapM mtz mt mk mkf mot mox mfa mnd miu mnm mso mou mpl msc mar mex men mnn mon mde mbt mfo mfn mma mit mfm msz mim mmo mfi)) Q := by
  have main : ∀ k : Int, ∀ is : Int, 0 ≤ k → k ≤ mnd → is = (if twB miu mso mnm a (b - 97) k.toNat = true then 1 else 0) → WPm ro d (RNd ro d) 112 0 0 Q 5 [vR 200, vI a, vI b, vI is, vI k] [] (hA, (heapM mtz mt mk mkf mot mox mfa mnd miu mnm mso mou mpl msc mar mex men mnn mon mde mbt mfo mfn mma mit mfm msz mim mmo mfi)) 0 0 := by
    refine loopUp mnd fun k ih is k0 k1 his => ?_
    have e1 := hiu k
    have e2 := hnm k
    have e3 := hso k
    have hstep : twB miu mso mnm a (b - 97) (k + 1).toNat = (twB miu mso mnm a (b - 97) k.toNat || (decide (miu k = 0) && decide (mso k = a) && decide (mnm k = b - 97))) := by
      rw [show (k + 1).toNat = k.toNat + 1 by omega]
      show (twB miu mso mnm a (b - 97) k.toNat || (decide (miu (k.toNat : Nat) = 0) && decide (mso (k.toNat : Nat) = a) && decide (mnm (k.toNat : Nat) = b - 97))) = _
      rw [show ((k.toNat : Nat) : Int) = k by omega]
    refine WP_first [5] 60 ?_
    refine c2 (fun q => ?_) (fun q => ?_)
    · have : k = mnd := by omega
      subst this
      cases ht : twB miu mso mnm a (b - 97) k.toNat with
      | true => rw [ht] at his; subst his; exact rz (h1 ht)
      | false => rw [ht] at his; subst his; exact rz (h0 ht)
    · cases ht : twB miu mso mnm a (b - 97) k.toNat with
      | true =>
        rw [ht] at his
        rw [if_pos rfl] at his
        subst his
        refine t1 ?_
        exact ih (by omega) 1 (by omega) (by omega) (by rw [hstep, ht]; rfl)
      | false =>
        rw [ht] at his
        rw [if_neg (by decide)] at his
        subst his
        refine f1 ?_
        refine ix ?_
        refine c1 (fun q2 => ?_) (fun q2 => ?_)
        · exact ih (by omega) 0 (by omega) (by omega) (by rw [hstep, ht]; simp [q2])
        · refine ix ?_
          refine c2 (fun q3 => ?_) (fun q3 => ?_) (by unfold rg; omega) ha
          · exact ih (by omega) 0 (by omega) (by omega) (by rw [hstep, ht]; simp [q3])
          · refine ix ?_
            refine c2 (fun q4 => ?_) (fun q4 => ?_)
            · exact ih (by omega) 0 (by omega) (by omega) (by rw [hstep, ht]; simp [q4])
            · exact ih (by omega) 1 (by omega) (by omega) (by rw [hstep, ht]; simp [q2, q3, q4])
  exact WP_run [5] 20 (main 0 0 (by omega) (by omega) rfl)
set_option maxRecDepth 100000 in
set_option maxHeartbeats 4000000 in
theorem r_adds {u b a x p : Int} (hn : 0 ≤ mnd ∧ mnd < 60) (hQ : Q none (hA, (heapM mtz mt mk mkf mot mox mfa (mnd + 1) (upZ miu mnd u) (upZ mnm mnd (b - 97)) (upZ mso mnd a) (upZ mou mnd x) (upZ mpl mnd p) msc mar mex men mnn mon mde mbt mfo mfn mma mit mfm msz mim mmo mfi))) : RNd ro (d + 1) 113 [vR 200, vI u, vI b, vI a, vI x, vI p] (hA, (heapM mtz mt mk mkf mot mox mfa mnd miu mnm mso mou mpl msc mar mex men mnn mon mde mbt mfo mfn mma mit mfm msz mim mmo mfi)) Q := by
  refine WP_run [] 90 ?_
  refine ix ?_
  refine ix ?_
  refine ix ?_
  refine ix ?_
  refine ix ?_
  exact hQ
set_option maxRecDepth 100000 in
set_option maxHeartbeats 4000000 in
theorem r_opens {x : Int} (hn : 0 ≤ msc ∧ msc < 10) (hQ : Q none (hA, (heapM mtz mt mk mkf mot mox mfa mnd miu mnm mso mou mpl (msc + 1) (upZ mar msc x) (upZ mex msc (-1)) (upZ men msc 0) mnn mon mde mbt mfo mfn mma mit mfm msz mim mmo mfi))) : RNd ro (d + 1) 114 [vR 200, vI x] (hA, (heapM mtz mt mk mkf mot mox mfa mnd miu mnm mso mou mpl msc mar mex men mnn mon mde mbt mfo mfn mma mit mfm msz mim mmo mfi)) Q := by
  refine WP_run [] 90 ?_
  refine ix ?_
  refine ix ?_
  refine ix ?_
  exact hQ
def MI (he at_ out nd sc : Int) (iu nm so ou pl ar ex en : Int → Int) : Prop :=
  (0 ≤ he ∧ he ≤ 4) ∧ (0 ≤ at_ ∧ at_ < sc) ∧ sc ≤ 10 ∧ (0 ≤ out ∧ out ≤ 3) ∧ (0 ≤ nd ∧ nd ≤ 60) ∧ (∀ s, 1 ≤ s → s < sc → 0 ≤ ar s) ∧ rI en 0 1 ∧ (∀ k, 0 ≤ k → k < nd → so k < sc) ∧ RTr iu nm so ou pl ar ex
/-- behind the last byte, or the fault -/
def EndM (Q : Option AV → AH → Prop) (hA : List AC) (mtz : Int) (mt : Int → Int) (mk mkf : Int) (mot mox : Int → Int) (mfa mnd : Int) (miu mnm mso mou mpl : Int → Int) (msc : Int) (mar mex men mnn mon mde mbt mfo mfn mma mit mfm msz mim mmo : Int → Int) (mfi : Int) (fa nd' sc' : Int) (iu' nm' so' ou' pl' ar' ex' en' : Int → Int) : Prop :=
  (-1 ≤ fa ∧ fa ≤ 100) → (0 ≤ nd' ∧ nd' ≤ 60) → (1 ≤ sc' ∧ sc' ≤ 10) → (∀ s, 1 ≤ s → s < sc' → 0 ≤ ar' s) → rI en' 0 1 → (∀ k, 0 ≤ k → k < nd' → so' k < sc') → RTr iu' nm' so' ou' pl' ar' ex' →
    Q (some (vI fa)) (hA, (heapM mtz mt mk mkf mot mox mfa nd' iu' nm' so' ou' pl' sc' ar' ex' en' mnn mon mde mbt mfo mfn mma mit mfm msz mim mmo mfi))
set_option maxRecDepth 100000 in
set_option maxHeartbeats 4000000 in
theorem readsText_loop (htz : 0 ≤ mtz ∧ mtz ≤ 100) (htb : rI mt 0 255) (E : Int → Int → Int → (Int → Int) → (Int → Int) → (Int → Int) → (Int → Int) → (Int → Int) → (Int → Int) → (Int → Int) → (Int → Int) → Prop)
    (hE : ∀ fa nd' sc' iu' nm' so' ou' pl' ar' ex' en', E fa nd' sc' iu' nm' so' ou' pl' ar' ex' en' → EndM Q hA mtz mt mk mkf mot mox mfa mnd miu mnm mso mou mpl msc mar mex men mnn mon mde mbt mfo mfn mma mit mfm msz mim mmo mfi fa nd' sc' iu' nm' so' ou' pl' ar' ex' en') :
    ∀ (f : Nat) (i he at_ out nd sc : Int) (iu nm so ou pl ar ex en : Int → Int) (j5 j6 : AV), (f : Int) = mtz - i → 0 ≤ i → MI he at_ out nd sc iu nm so ou pl ar ex en →
      parse mt mtz E f i he at_ out nd sc iu nm so ou pl ar ex en →
      WPm ro (d + 2) (RNd ro (d + 2)) 115 0 0 Q 24 [vR 200, vI he, vI at_, vI out, vI i, j5, j6] [] (hA, (heapM mtz mt mk mkf mot mox mfa nd iu nm so ou pl sc ar ex en mnn mon mde mbt mfo mfn mma mit mfm msz mim mmo mfi)) 0 0 := by
  intro f
  induction f with
  | zero =>
    intro i he at_ out nd sc iu nm so ou pl ar ex en j5 j6 hf hi hM hq
    obtain ⟨g1, g2, g3, g4, g5, g6, g7, g8, g9⟩ := id hM
    have hq := hE _ _ _ _ _ _ _ _ _ _ _ hq
    have fin : ∀ fa, (-1 ≤ fa ∧ fa ≤ 100) → fa = (if at_ ≠ 0 ∨ he = 1 ∨ he = 2 then mtz else -1) → Q (some (vI fa)) (hA, (heapM mtz mt mk mkf mot mox mfa nd iu nm so ou pl sc ar ex en mnn mon mde mbt mfo mfn mma mit mfm msz mim mmo mfi)) := by
      intro fa h1 h2
      rw [← h2] at hq
      exact hq h1 g5 (by omega) g6 g7 g8 g9
    refine WP_first [24] 60 ?_
    refine t2 ?_
    refine c1 (fun q => ?_) (fun q => ?_)
    · exact ri (fin mtz (by omega) (by rw [if_pos (Or.inl q)]))
    · refine c2 (fun q2 => ?_) (fun q2 => ?_)
      · exact ri (fin mtz (by omega) (by rw [if_pos (Or.inr (Or.inl q2))]))
      · refine c2 (fun q3 => ?_) (fun q3 => ?_)
        · exact ri (fin (-1) (by omega) (by rw [if_neg (by omega)]))
        · exact ri (fin mtz (by omega) (by rw [if_pos (Or.inr (Or.inr q3))]))
  | succ f ih =>
    intro i he at_ out nd sc iu nm so ou pl ar ex en j5 j6 hf hi hM hq
    obtain ⟨g1, g2, g3, g4, g5, g6, g7, g8, g9⟩ := id hM
    obtain ⟨r1, r2, r3, r4, r5, r6, r7, r8, r9⟩ := id g9
    have hb := htb i
    have hrb : rg (mt i) := by unfold rg; omega
    have hq : pstep (mt i) i he at_ out nd sc iu nm so ou pl ar ex en (E i nd sc iu nm so ou pl ar ex en) (fun he at_ out nd sc iu nm so ou pl ar ex en => parse mt mtz E f (i + 1) he at_ out nd sc iu nm so ou pl ar ex en) := hq
    have ff : E i nd sc iu nm so ou pl ar ex en → Q (some (vI i)) (hA, (heapM mtz mt mk mkf mot mox mfa nd iu nm so ou pl sc ar ex en mnn mon mde mbt mfo mfn mma mit mfm msz mim mmo mfi)) := fun z => hE _ _ _ _ _ _ _ _ _ _ _ z (by omega) g5 (by omega) g6 g7 g8 g9
    have body : ∀ it : Int, (it = 1 ∧ (he = 0 ∨ he = 3)) ∨ (it = 0 ∧ ¬ (he = 0 ∨ he = 3)) → WPm ro (d + 2) (RNd ro (d + 2)) 115 0 0 Q 58 [vR 200, vI he, vI at_, vI out, vI i, vI (mt i), vI it] [] (hA, (heapM mtz mt mk mkf mot mox mfa nd iu nm so ou pl sc ar ex en mnn mon mde mbt mfo mfn mma mit mfm msz mim mmo mfi)) 0 0 := by
      intro it hit
      -- not a name, or behind {<
      have rest : ¬ ((97 ≤ mt i ∧ mt i ≤ 122) ∧ he ≠ 4) → WPm ro (d + 2) (RNd ro (d + 2)) 115 0 0 Q 125 [vR 200, vI he, vI at_, vI out, vI i, vI (mt i), vI it] [] (hA, (heapM mtz mt mk mkf mot mox mfa nd iu nm so ou pl sc ar ex en mnn mon mde mbt mfo mfn mma mit mfm msz mim mmo mfi)) 0 0 := by
        intro hno
        have rest2 : ¬ (mt i = 43 ∧ (he = 0 ∨ he = 3)) → WPm ro (d + 2) (RNd ro (d + 2)) 115 0 0 Q 142 [vR 200, vI he, vI at_, vI out, vI i, vI (mt i), vI it] [] (hA, (heapM mtz mt mk mkf mot mox mfa nd iu nm so ou pl sc ar ex en mnn mon mde mbt mfo mfn mma mit mfm msz mim mmo mfi)) 0 0 := by
          intro hno2
          have rest3 : ¬ (mt i = 94 ∧ ((he = 0 ∨ he = 3) ∨ he = 2) ∧ out < 3) → WPm ro (d + 2) (RNd ro (d + 2)) 115 0 0 Q 172 [vR 200, vI he, vI at_, vI out, vI i, vI (mt i), vI it] [] (hA, (heapM mtz mt mk mkf mot mox mfa nd iu nm so ou pl sc ar ex en mnn mon mde mbt mfo mfn mma mit mfm msz mim mmo mfi)) 0 0 := by
            intro hno3
            have rest4 : ¬ (mt i = 123 ∧ (he = 0 ∨ he = 3) ∧ sc < 10) → WPm ro (d + 2) (RNd ro (d + 2)) 115 0 0 Q 210 [vR 200, vI he, vI at_, vI out, vI i, vI (mt i), vI it] [] (hA, (heapM mtz mt mk mkf mot mox mfa nd iu nm so ou pl sc ar ex en mnn mon mde mbt mfo mfn mma mit mfm msz mim mmo mfi)) 0 0 := by
              intro hno4
              have rest5 : ¬ (mt i = 125 ∧ (he = 0 ∨ he = 3) ∧ at_ ≠ 0) → WPm ro (d + 2) (RNd ro (d + 2)) 115 0 0 Q 245 [vR 200, vI he, vI at_, vI out, vI i, vI (mt i), vI it] [] (hA, (heapM mtz mt mk mkf mot mox mfa nd iu nm so ou pl sc ar ex en mnn mon mde mbt mfo mfn mma mit mfm msz mim mmo mfi)) 0 0 := by
                intro hno5
                have rest6 : ¬ (mt i = 60 ∧ he = 3) → WPm ro (d + 2) (RNd ro (d + 2)) 115 0 0 Q 262 [vR 200, vI he, vI at_, vI out, vI i, vI (mt i), vI it] [] (hA, (heapM mtz mt mk mkf mot mox mfa nd iu nm so ou pl sc ar ex en mnn mon mde mbt mfo mfn mma mit mfm msz mim mmo mfi)) 0 0 := by
                  intro hno6
                  refine WP_run [24] 60 ?_
                  refine c2 (fun q => ?_) (fun q => ?_)
                  · exact ri (ff (p_F hq hno hno2 hno3 hno4 hno5 hno6 (by omega)))
                  · refine r_in hrb (by unfold rg; omega) (by unfold rg; omega) (fun q2 => ?_) (fun q2 => ?_)
                    · refine f1 ?_
                      refine c2 (fun q3 => ?_) (fun q3 => ?_)
                      · exact ri (ff (p_F hq hno hno2 hno3 hno4 hno5 hno6 (by omega)))
                      · refine ix ?_
                        have he1 := g7 (mt i - 48)
                        refine c2 (fun q4 => ?_) (fun q4 => ?_)
                        · exact ri (ff (p_F hq hno hno2 hno3 hno4 hno5 hno6 (by omega)))
                        · refine ix ?_
                          refine ih (i + 1) 0 at_ out nd sc iu nm so ou pl ar (upZ ex at_ (mt i - 48)) en _ _ (by omega) (by omega) ⟨by omega, g2, g3, g4, g5, g6, g7, g8, r1, r2, r3, r4, r5, r6, rI_up r7 (by omega) (by omega), r8, fun s s1 => ?_⟩ (p_fig hq (by omega) q2 (by omega) q4)
                          by_cases e : s = at_
                          · rw [e, upZ_s]; omega
                          · rw [upZ_n e]; exact r9 s s1
                    · refine t1 ?_
                      exact ri (ff (p_F hq hno hno2 hno3 hno4 hno5 hno6 (by omega)))
                refine WP_run [24, 262] 60 ?_
                refine c2 (fun q => ?_) (fun q => ?_)
                · exact rest6 (by omega)
                · refine c2 (fun q2 => ?_) (fun q2 => ?_)
                  · exact rest6 (by omega)
                  · exact ih (i + 1) 4 at_ out nd sc iu nm so ou pl ar ex en _ _ (by omega) (by omega) ⟨by omega, g2, g3, g4, g5, g6, g7, g8, g9⟩ (p_60 hq q q2)
              refine WP_run [24, 245] 60 ?_
              refine c2 (fun q => ?_) (fun q => ?_)
              · exact rest5 (by omega)
              · refine c1 (fun q2 => ?_) (fun q2 => ?_)
                · exact rest5 (by omega)
                · refine c1 (fun q3 => ?_) (fun q3 => ?_)
                  · exact rest5 (by omega)
                  · refine ix ?_
                    refine ix ?_
                    have a1 := g6 at_ (by omega) g2.2
                    have a2 := r8 at_ (by omega)
                    exact ih (i + 1) 0 (ar at_) out nd sc iu nm so ou pl ar ex (upZ en at_ 1) _ _ (by omega) (by omega) ⟨by omega, by omega, g3, g4, g5, g6, rI_up g7 (by omega) (by omega), g8, g9⟩ (p_125 hq q (by omega) q3)
            refine WP_run [24, 210] 60 ?_
            refine c2 (fun q => ?_) (fun q => ?_)
            · exact rest4 (by omega)
            · refine c1 (fun q2 => ?_) (fun q2 => ?_)
              · exact rest4 (by omega)
              · refine c2 (fun q3 => ?_) (fun q3 => ?_)
                · exact rest4 (by omega)
                · refine r_opens (by omega) ?_
                  have e : sc + 1 - 1 = sc := by omega
                  have nxt : ∀ (a : Int) (j5 j6 : AV), a = sc → WPm ro (d + 2) (RNd ro (d + 2)) 115 0 0 Q 24 [vR 200, vI 3, vI a, vI out, vI (i + 1), j5, j6] [] (hA, (heapM mtz mt mk mkf mot mox mfa nd iu nm so ou pl (sc + 1) (upZ ar sc at_) (upZ ex sc (-1)) (upZ en sc 0) mnn mon mde mbt mfo mfn mma mit mfm msz mim mmo mfi)) 0 0 := by
                    intro a j5 j6 ha
                    rw [ha]
                    refine ih (i + 1) 3 sc out nd (sc + 1) iu nm so ou pl (upZ ar sc at_) (upZ ex sc (-1)) (upZ en sc 0) _ _ (by omega) (by omega) ⟨by omega, by omega, by omega, g4, g5, fun s s1 s2 => ?_, rI_up g7 (by omega) (by omega), fun k k1 k2 => by have := g8 k k1 k2; omega, r1, r2, r3, r4, r5, rI_up r6 (by omega) (by omega), rI_up r7 (by omega) (by omega), fun s s1 => ?_, fun s s1 => ?_⟩ (p_123 hq q (by omega) (by omega))
                    · by_cases e : s = sc
                      · rw [e, upZ_s]; exact g2.1
                      · rw [upZ_n e]; exact g6 s s1 (by omega)
                    · by_cases e : s = sc
                      · rw [e, upZ_s]; omega
                      · rw [upZ_n e]; exact r8 s s1
                    · by_cases e : s = sc
                      · rw [e, upZ_s]; omega
                      · rw [upZ_n e]; exact r9 s s1
                  exact nxt _ _ _ e
          have go : mt i = 94 → ((he = 0 ∨ he = 3) ∨ he = 2) → WPm ro (d + 2) (RNd ro (d + 2)) 115 0 0 Q 159 [vR 200, vI he, vI at_, vI out, vI i, vI (mt i), vI it] [] (hA, (heapM mtz mt mk mkf mot mox mfa nd iu nm so ou pl sc ar ex en mnn mon mde mbt mfo mfn mma mit mfm msz mim mmo mfi)) 0 0 := by
            intro q q2
            refine WP_run [24, 172] 60 ?_
            refine c2 (fun q3 => ?_) (fun q3 => ?_)
            · exact rest3 (by omega)
            · exact ih (i + 1) 2 at_ (out + 1) nd sc iu nm so ou pl ar ex en _ _ (by omega) (by omega) ⟨by omega, g2, g3, by omega, g5, g6, g7, g8, g9⟩ (p_94 hq q q2 (by omega))
          refine WP_run [24, 172, 159] 60 ?_
          refine c2 (fun q => ?_) (fun q => ?_)
          · exact rest3 (by omega)
          · refine c1 (fun q2 => ?_) (fun q2 => ?_)
            · exact go q (by omega)
            · refine c2 (fun q3 => ?_) (fun q3 => ?_)
              · exact rest3 (by omega)
              · exact go q (by omega)
        refine WP_run [24, 142] 60 ?_
        refine c2 (fun q => ?_) (fun q => ?_)
        · exact rest2 (by omega)
        · refine c1 (fun q2 => ?_) (fun q2 => ?_)
          · exact rest2 (by omega)
          · exact ih (i + 1) 1 at_ out nd sc iu nm so ou pl ar ex en _ _ (by omega) (by omega) ⟨by omega, g2, g3, g4, g5, g6, g7, g8, g9⟩ (p_43 hq q (by omega))
      -- a name
      have add : (97 ≤ mt i ∧ mt i ≤ 122) → he ≠ 4 → ¬ (nd = 60 ∨ (he = 1 ∧ twB iu so nm at_ (mt i - 97) nd.toNat = true)) → WPm ro (d + 2) (RNd ro (d + 2)) 115 0 0 Q 98 [vR 200, vI he, vI at_, vI out, vI i, vI (mt i), vI it] [] (hA, (heapM mtz mt mk mkf mot mox mfa nd iu nm so ou pl sc ar ex en mnn mon mde mbt mfo mfn mma mit mfm msz mim mmo mfi)) 0 0 := by
        intro hL h4 hf2
        have hK := p_L hq hL h4 hf2
        have hM' : ∀ u, (u = 0 ∨ u = 1) → MI 0 at_ 0 (nd + 1) sc (upZ iu nd u) (upZ nm nd (mt i - 97)) (upZ so nd at_) (upZ ou nd out) (upZ pl nd i) ar ex en := fun u hu => ⟨by omega, g2, g3, by omega, by omega, g6, g7, fun k k1 k2 => by
            by_cases e : k = nd
            · rw [e, upZ_s]; exact g2.2
            · rw [upZ_n e]; exact g8 k k1 (by omega), rI_up r1 (by omega) (by omega), rI_up r2 (by omega) (by omega), rI_up r3 (by omega) (by omega), rI_up r4 (by omega) (by omega), rI_up r5 (by omega) (by omega), r6, r7, r8, r9⟩
        refine WP_run [24] 60 ?_
        refine c2 (fun q => ?_) (fun q => ?_)
        · refine r_adds (by omega) ?_
          rw [if_neg q] at hK
          exact ih (i + 1) 0 at_ 0 (nd + 1) sc _ _ _ _ _ ar ex en _ _ (by omega) (by omega) (hM' 1 (by omega)) hK
        · refine r_adds (by omega) ?_
          rw [if_pos q] at hK
          exact ih (i + 1) 0 at_ 0 (nd + 1) sc _ _ _ _ _ ar ex en _ _ (by omega) (by omega) (hM' 0 (by omega)) hK
      refine WP_run [98, 125] 60 ?_
      refine r_isName hrb (fun q => ?_) (fun q => ?_)
      · refine f1 ?_
        refine c2 (fun q2 => ?_) (fun q2 => ?_)
        · exact rest (by omega)
        · refine c2 (fun q3 => ?_) (fun q3 => ?_)
          · exact ri (ff (p_LF hq q q2 (Or.inl q3)))
          · refine c2 (fun q4 => ?_) (fun q4 => ?_)
            · exact add q q2 (by omega)
            · refine r_isTwice hb (by unfold rg; omega) g5 r1 r2 r3 (fun q5 => ?_) (fun q5 => ?_)
              · refine f1 ?_
                exact ri (ff (p_LF hq q q2 (Or.inr ⟨q4, q5⟩)))
              · refine t1 ?_
                refine add q q2 (fun z => ?_)
                rcases z with z | z
                · omega
                · rw [q5] at z
                  exact absurd z.2 (by decide)
      · refine t1 ?_
        exact rest (by omega)
    refine WP_first [24, 58] 60 ?_
    refine f2 ?_
    refine ix ?_
    refine c1 (fun q => ?_) (fun q => ?_)
    · exact body 1 (by omega)
    · refine c2 (fun q2 => ?_) (fun q2 => ?_)
      · exact body 0 (by omega)
      · exact body 1 (by omega)
def RTm (iu nm so ou pl ar ex en : Int → Int) : Prop := rI iu 0 1 ∧ rI nm 0 25 ∧ rI so 0 9 ∧ rI ou 0 3 ∧ rI pl 0 99 ∧ rI ar (-1) 9 ∧ rI ex (-1) 9 ∧ (∀ s, 1 ≤ s → ar s < s) ∧ (∀ s, 1 ≤ s → ex s < s) ∧ rI en 0 1
set_option maxRecDepth 100000 in
set_option maxHeartbeats 4000000 in
theorem MI_begin {iu nm so ou pl ar ex en : Int → Int} (h : RTm iu nm so ou pl ar ex en) : MI 0 0 0 0 1 iu nm so ou pl (upZ ar 0 (-1)) (upZ ex 0 (-1)) (upZ en 0 0) := by
  obtain ⟨r1, r2, r3, r4, r5, r6, r7, r8, r9, r10⟩ := h
  refine ⟨by omega, by omega, by omega, by omega, by omega, fun s s1 s2 => by omega, rI_up r10 (by omega) (by omega), fun k k1 k2 => by omega, r1, r2, r3, r4, r5, rI_up r6 (by omega) (by omega), rI_up r7 (by omega) (by omega), fun s s1 => ?_, fun s s1 => ?_⟩
  · by_cases e : s = 0
    · rw [e, upZ_s]; omega
    · rw [upZ_n e]; exact r8 s (by omega)
  · by_cases e : s = 0
    · rw [e, upZ_s]; omega
    · rw [upZ_n e]; exact r9 s (by omega)
set_option maxRecDepth 100000 in
set_option maxHeartbeats 4000000 in
theorem r_readsText (htz : 0 ≤ mtz ∧ mtz ≤ 100) (htb : rI mt 0 255) (h0 : RTm miu mnm mso mou mpl mar mex men) (E : Int → Int → Int → (Int → Int) → (Int → Int) → (Int → Int) → (Int → Int) → (Int → Int) → (Int → Int) → (Int → Int) → (Int → Int) → Prop)
    (hE : ∀ fa nd' sc' iu' nm' so' ou' pl' ar' ex' en', E fa nd' sc' iu' nm' so' ou' pl' ar' ex' en' → EndM Q hA mtz mt mk mkf mot mox mfa mnd miu mnm mso mou mpl msc mar mex men mnn mon mde mbt mfo mfn mma mit mfm msz mim mmo mfi fa nd' sc' iu' nm' so' ou' pl' ar' ex' en')
    (hq : parse mt mtz E mtz.toNat 0 0 0 0 0 1 miu mnm mso mou mpl (upZ mar 0 (-1)) (upZ mex 0 (-1)) (upZ men 0 0)) : RNd ro (d + 3) 115 [vR 200] (hA, (heapM mtz mt mk mkf mot mox mfa mnd miu mnm mso mou mpl msc mar mex men mnn mon mde mbt mfo mfn mma mit mfm msz mim mmo mfi)) Q := by
  refine WP_run [24] 60 ?_
  refine r_opens (by omega) ?_
  exact readsText_loop htz htb E hE mtz.toNat 0 0 0 0 0 1 miu mnm mso mou mpl (upZ mar 0 (-1)) (upZ mex 0 (-1)) (upZ men 0 0) _ _ (by omega) (by omega) (MI_begin h0) hq
end MPARSE
