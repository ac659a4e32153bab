/-! ===== the reference: families; all that it reads ===== -/
/-- the text as it was read: the fault, nodes, scopes -/
def cFA (tx : Int → Int) (n : Int) : Int := (pr0 tx n).1
def cND (tx : Int → Int) (n : Int) : Int := if cFA tx n = -1 then (pr0 tx n).2.1 else 0
def cSC (tx : Int → Int) (n : Int) : Int := if cFA tx n = -1 then (pr0 tx n).2.2.1 else 1
def cIU (tx : Int → Int) (n : Int) : Int → Int := (pr0 tx n).2.2.2.1
def cNM (tx : Int → Int) (n : Int) : Int → Int := (pr0 tx n).2.2.2.2.1
def cSO (tx : Int → Int) (n : Int) : Int → Int := (pr0 tx n).2.2.2.2.2.1
def cOU (tx : Int → Int) (n : Int) : Int → Int := (pr0 tx n).2.2.2.2.2.2.1
def cPL (tx : Int → Int) (n : Int) : Int → Int := (pr0 tx n).2.2.2.2.2.2.2.1
def cAR (tx : Int → Int) (n : Int) : Int → Int := if cFA tx n = -1 then (pr0 tx n).2.2.2.2.2.2.2.2.1 else fun _ => -1
def cEX (tx : Int → Int) (n : Int) : Int → Int := if cFA tx n = -1 then (pr0 tx n).2.2.2.2.2.2.2.2.2.1 else fun _ => -1
/-- own, bound and families by names nn and outs oo -/
def cOW (tx : Int → Int) (n : Int) (nn : Int → Int) (s w : Int) : Int := OW (cND tx n) (cIU tx n) (cSO tx n) (cEX tx n) nn s w
def cBN (tx : Int → Int) (n : Int) (nn oo : Int → Int) (k : Int) : Int := BN (cND tx n) (cIU tx n) (cSO tx n) (cAR tx n) (cEX tx n) nn (cSO tx n k) (oo k) (nn k)
def cSF (tx : Int → Int) (n : Int) (nn : Int → Int) (k : Int) : Int := SFv (cIU tx n) (cSO tx n) (cEX tx n) nn (cOW tx n nn) k
def cFM (tx : Int → Int) (n : Int) (nn : Int → Int) (k : Int) : Int := famN (cIU tx n) (cSF tx n nn) (cND tx n).toNat k
def cBT (tx : Int → Int) (n : Int) (k : Int) : Int := if cIU tx n k = 1 then cBN tx n (cNM tx n) (cOU tx n) k else k
set_option maxRecDepth 100000 in
set_option maxHeartbeats 4000000 in
theorem SFv_rg {nd sc : Int} {IU SO PA BA nn : Int → Int} {T : Int → Int → Int} (hS : TS nd sc IU SO PA BA) {k : Int} (hk : 0 ≤ k ∧ k < nd) (hn : 0 ≤ nn k ∧ nn k < 26) (hT : ∀ s w, 0 ≤ s → s < sc → 0 ≤ w → w < 26 → -1 ≤ T s w ∧ T s w < nd) : -1 ≤ SFv IU SO BA nn (fun s w => lkp BA T w 10 s) k ∧ SFv IU SO BA nn (fun s w => lkp BA T w 10 s) k < nd := by
  obtain ⟨S1, S2, S3, S4⟩ := hS
  obtain ⟨S31, S32⟩ := S3 k hk.1 hk.2
  have e4 := (S4 (SO k) S32.1 S32.2).2
  unfold SFv
  split
  · omega
  · have := lkp_rg (nx := BA) (T := T) (w := nn k) (m := sc) (lo := -1) (hi := nd - 1) (by omega) (by omega) (fun s s0 s1 => (S4 s s0 s1).2.2) (fun s s0 s1 => by have := hT s (nn k) s0 s1 hn.1 hn.2; omega) 10 (BA (SO k)) (by omega)
    show -1 ≤ lkp BA T (nn k) 10 (BA (SO k)) ∧ lkp BA T (nn k) 10 (BA (SO k)) < nd
    omega
set_option maxRecDepth 100000 in
set_option maxHeartbeats 4000000 in
theorem famS_ne {F : Int → Int} {o k j : Int} (h : ¬ (o = -1 ∨ F o = F k)) : famS F o k j = if F j = (if F o < F k then F k else F o) then (if F o < F k then F o else F k) else F j := by
  unfold famS
  rw [if_neg h]
section MREADS
variable {ro : Nat × (Int → Int)} {d : Nat} {Q : Option AV → AH → Prop} {hA : List AC} {mtz : Int} {mt : Int → Int} {mk mkf : Int} {mot mox : Int → Int} {mfa mnd : Int} {miu mnm mso mou mpl : Int → Int} {msc : Int} {mar mex men mnn mon mde mbt mfo mfn mma mit mfm msz mim mmo : Int → Int} {mfi : Int} {IU SO PA BA : Int → Int}
set_option maxRecDepth 100000 in
set_option maxHeartbeats 4000000 in
theorem r_findsFamilies {T : Int → Int → Int} (hS : TS mnd msc IU SO PA BA) (hA' : TAg mnd msc miu mso mar mex IU SO PA BA) (hn : rI mnn 0 25) (hr : rI mde (-1) 59) (hrf : rI mfn (-1) 59) (hT : ∀ s w, 0 ≤ s → s < msc → 0 ≤ w → w < 26 → mde (26 * s + w) = T s w) (hT2 : ∀ s w, 0 ≤ s → s < msc → 0 ≤ w → w < 26 → -1 ≤ T s w ∧ T s w < mnd)
    (hQ : ∀ F, rI F (-1) 59 → (∀ j, 0 ≤ j → j < mnd → F j = famN IU (SFv IU SO BA mnn (fun s w => lkp BA T w 10 s)) mnd.toNat j) → Q none (hA, (heapM mtz mt mk mkf mot mox mfa mnd miu mnm mso mou mpl msc mar mex men mnn mon mde mbt mfo F mma mit mfm msz mim mmo mfi))) : RNd ro (d + 3) 123 [vR 200] (hA, (heapM mtz mt mk mkf mot mox mfa mnd miu mnm mso mou mpl msc mar mex men mnn mon mde mbt mfo mfn mma mit mfm msz mim mmo mfi)) Q := by
  obtain ⟨S1, S2, S3, S4⟩ := id hS
  have l2 : ∀ k : Int, ∀ (F : Int → Int) (j2 j3 j4 j5 : AV), 0 ≤ k → k ≤ mnd → rI F (-1) 59 → (∀ j, 0 ≤ j → j < mnd → F j = famN IU (SFv IU SO BA mnn (fun s w => lkp BA T w 10 s)) k.toNat j) → WPm ro (d + 2) (RNd ro (d + 2)) 123 0 0 Q 39 [vR 200, vI k, j2, j3, j4, j5] [] (hA, (heapM mtz mt mk mkf mot mox mfa mnd miu mnm mso mou mpl msc mar mex men mnn mon mde mbt mfo F mma mit mfm msz mim mmo mfi)) 0 0 := by
    refine loopUp mnd fun k ih F j2 j3 j4 j5 k0 k1 hF hFk => ?_
    refine WP_first [39, 139] 90 ?_
    refine c2 (fun q => ?_) (fun q => ?_)
    · have e : k = mnd := by omega
      subst e
      exact hQ F hF hFk
    · have hsf := SFv_rg (T := T) (nn := mnn) hS (k := k) (by omega) (by have := hn k; omega) hT2
      have hstep : famN IU (SFv IU SO BA mnn (fun s w => lkp BA T w 10 s)) (k + 1).toNat = famS (famN IU (SFv IU SO BA mnn (fun s w => lkp BA T w 10 s)) k.toNat) (SFv IU SO BA mnn (fun s w => lkp BA T w 10 s) k) k := by
        rw [show (k + 1).toNat = k.toNat + 1 by omega]
        show famS _ (SFv IU SO BA mnn (fun s w => lkp BA T w 10 s) ((k.toNat : Nat) : Int)) ((k.toNat : Nat) : Int) = _
        rw [show ((k.toNat : Nat) : Int) = k by omega]
      refine r_standsFor hS hA' (by omega) hn hr hT ?_
      generalize ho : SFv IU SO BA mnn (fun s w => lkp BA T w 10 s) k = o at hsf hstep ⊢
      refine c2 (fun q2 => ?_) (fun q2 => ?_)
      · refine ih (by omega) F _ _ _ _ (by omega) (by omega) hF (fun j a b => ?_)
        rw [hstep]
        unfold famS
        rw [if_pos (Or.inl q2)]
        exact hFk j a b
      · have v1 := hF o
        have v2 := hF k
        have g1 := hFk o (by omega) (by omega)
        have g2 := hFk k (by omega) (by omega)
        refine ix ?_
        refine ix ?_
        refine c2 (fun q3 => ?_) (fun q3 => ?_)
        · refine ih (by omega) F _ _ _ _ (by omega) (by omega) hF (fun j a b => ?_)
          rw [hstep]
          unfold famS
          rw [if_pos (Or.inr (by omega))]
          exact hFk j a b
        · have inner : ∀ (one two : Int), (-1 ≤ one ∧ one ≤ 59) → (-1 ≤ two ∧ two ≤ 59) → one = (if F o < F k then F o else F k) → two = (if F o < F k then F k else F o) → ∀ j : Int, ∀ f : Int → Int, 0 ≤ j → j ≤ mnd → rI f (-1) 59 → (∀ q, j ≤ q → f q = F q) → (∀ q, 0 ≤ q → q < j → f q = if F q = two then one else F q) → WPm ro (d + 2) (RNd ro (d + 2)) 123 0 0 Q 139 [vR 200, vI k, vI o, vI one, vI two, vI j] [] (hA, (heapM mtz mt mk mkf mot mox mfa mnd miu mnm mso mou mpl msc mar mex men mnn mon mde mbt mfo f mma mit mfm msz mim mmo mfi)) 0 0 := by
            intro one two r1 r2 h1 h2
            refine loopUp mnd fun j ihj f j0 j1 hf u1 u2 => ?_
            refine WP_first [39, 139] 90 ?_
            refine c2 (fun p1 => ?_) (fun p1 => ?_)
            · refine ih (by omega) f _ _ _ _ (by omega) (by omega) hf (fun q a b => ?_)
              rw [u2 q a (by omega), hstep, h1, h2]
              rw [famS_ne (by omega)]
              rw [← hFk q a b, ← g1, ← g2]
            · have e0 := u1 j (Int.le_refl _)
              have e1 := hf j
              refine ix ?_
              have nx : ∀ v : Int, (-1 ≤ v ∧ v ≤ 59) → v = (if F j = two then one else F j) → rI (upZ f j v) (-1) 59 ∧ (∀ q, j + 1 ≤ q → upZ f j v q = F q) ∧ (∀ q, 0 ≤ q → q < j + 1 → upZ f j v q = if F q = two then one else F q) := by
                intro v hv1 hv2
                refine ⟨rI_up hf hv1.1 hv1.2, fun q a => ?_, fun q a b => ?_⟩
                · rw [upZ_n (by omega)]; exact u1 q (by omega)
                · by_cases e : q = j
                  · rw [e, upZ_s]; exact hv2
                  · rw [upZ_n e]; exact u2 q a (by omega)
              refine c2 (fun p2 => ?_) (fun p2 => ?_)
              · refine ix ?_
                refine ix ?_
                obtain ⟨n1, n2, n3⟩ := nx (f j) e1 (by rw [if_neg (by omega)]; exact e0)
                exact ihj (by omega) _ (by omega) (by omega) n1 n2 n3
              · refine ix ?_
                obtain ⟨n1, n2, n3⟩ := nx one r1 (by rw [if_pos (by omega)])
                exact ihj (by omega) _ (by omega) (by omega) n1 n2 n3
          refine ix ?_
          refine ix ?_
          refine c2 (fun q4 => ?_) (fun q4 => ?_)
          · refine ix ?_
            refine ix ?_
            refine ix ?_
            refine t2 ?_
            refine ix ?_
            exact inner _ _ v2 v1 (by rw [if_neg (by omega)]) (by rw [if_neg (by omega)]) 0 F (by omega) (by omega) hF (fun q _ => rfl) (fun q a b => by omega)
          · refine ix ?_
            refine ix ?_
            refine ix ?_
            refine f2 ?_
            refine ix ?_
            exact inner _ _ v1 v2 (by rw [if_pos (by omega)]) (by rw [if_pos (by omega)]) 0 F (by omega) (by omega) hF (fun q _ => rfl) (fun q a b => by omega)
  have l1 : ∀ k : Int, ∀ (F : Int → Int) (j2 j3 j4 j5 : AV), 0 ≤ k → k ≤ mnd → rI F (-1) 59 → (∀ j, 0 ≤ j → j < k → F j = if IU j = 1 then -1 else j) → WPm ro (d + 2) (RNd ro (d + 2)) 123 0 0 Q 2 [vR 200, vI k, j2, j3, j4, j5] [] (hA, (heapM mtz mt mk mkf mot mox mfa mnd miu mnm mso mou mpl msc mar mex men mnn mon mde mbt mfo F mma mit mfm msz mim mmo mfi)) 0 0 := by
    refine loopUp mnd fun k ih F j2 j3 j4 j5 k0 k1 hF hFk => ?_
    refine WP_first [2, 39] 60 ?_
    refine c2 (fun q => ?_) (fun q => ?_)
    · exact l2 0 F _ _ _ _ (by omega) (by omega) hF (fun j a b => hFk j a (by omega))
    · obtain ⟨e1, e2⟩ := hA'.1 k k0 (by omega)
      obtain ⟨S31, S32⟩ := S3 k k0 (by omega)
      refine ix ?_
      refine c2 (fun q2 => ?_) (fun q2 => ?_)
      · refine ix ?_
        refine ih (by omega) _ _ _ _ _ (by omega) (by omega) (rI_up hF (by omega) (by omega)) (fun j a b => ?_)
        by_cases e : j = k
        · rw [e, upZ_s, if_neg (by omega)]
        · rw [upZ_n e]; exact hFk j a (by omega)
      · refine ix ?_
        refine ih (by omega) _ _ _ _ _ (by omega) (by omega) (rI_up hF (by omega) (by omega)) (fun j a b => ?_)
        by_cases e : j = k
        · rw [e, upZ_s, if_pos (by omega)]
        · rw [upZ_n e]; exact hFk j a (by omega)
  exact WP_run [2] 20 (l1 0 mfn _ _ _ _ (by omega) (by omega) hrf (fun j a b => by omega))
end MREADS
