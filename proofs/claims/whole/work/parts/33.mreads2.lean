/-! ===== the reference: all that it reads ===== -/
set_option maxRecDepth 100000 in
set_option maxHeartbeats 4000000 in
theorem OW_ext {nd sc : Int} {IU SO PA BA nn nn' : Int → Int} {s w : Int} (hS : TS nd sc IU SO PA BA) (h : ∀ k, 0 ≤ k → k < nd → nn k = nn' k) (hs : s < sc) : OW nd IU SO BA nn s w = OW nd IU SO BA nn' s w :=
  lkp_ext (m := sc) (fun s s0 s1 => ⟨rfl, (hS.2.2.2 s s0 s1).2.2⟩) (fun _ _ _ => TBk_ext h 0 (by omega)) 10 s hs
set_option maxRecDepth 100000 in
set_option maxHeartbeats 4000000 in
theorem BN_ext {nd sc : Int} {IU SO PA BA nn nn' : Int → Int} {s o w : Int} (hS : TS nd sc IU SO PA BA) (h : ∀ k, 0 ≤ k → k < nd → nn k = nn' k) (hs : s < sc) : BN nd IU SO PA BA nn s o w = BN nd IU SO PA BA nn' s o w :=
  lkp_ext (m := sc) (fun s s0 s1 => ⟨rfl, (hS.2.2.2 s s0 s1).1.2⟩) (fun s _ s1 => OW_ext hS h s1) 10 _ (goOut_lt (fun s s0 s1 => (hS.2.2.2 s s0 s1).1.2) _ s hs)
set_option maxRecDepth 100000 in
set_option maxHeartbeats 4000000 in
theorem famN_ext {nd : Int} {IU SF SF' : Int → Int} (h : ∀ k, 0 ≤ k → k < nd → SF k = SF' k ∧ -1 ≤ SF k ∧ SF k < nd) : ∀ m : Nat, (m : Int) ≤ nd → ∀ j, 0 ≤ j → j < nd → famN IU SF m j = famN IU SF' m j
  | 0, _, j, _, _ => rfl
  | m + 1, hm, j, j0, j1 => by
    obtain ⟨e1, e2, e3⟩ := h m (by omega) (by omega)
    show famS (famN IU SF m) (SF m) m j = famS (famN IU SF' m) (SF' m) m j
    rw [← e1]
    have ih := famN_ext (IU := IU) h m (by omega)
    by_cases ho : SF m = -1
    · unfold famS
      rw [if_pos (Or.inl ho), if_pos (Or.inl ho)]
      exact ih j j0 j1
    · have a1 := ih (SF m) (by omega) e3
      have a2 := ih m (by omega) (by omega)
      have a3 := ih j j0 j1
      by_cases hf : famN IU SF m (SF m) = famN IU SF m m
      · unfold famS
        rw [if_pos (Or.inr hf), if_pos (Or.inr (by rw [← a1, ← a2]; exact hf))]
        exact a3
      · rw [famS_ne (by omega), famS_ne (by omega), a1, a2, a3]
set_option maxRecDepth 100000 in
set_option maxHeartbeats 4000000 in
theorem TBd_lt {nd : Int} {IU SO nn : Int → Int} {s w : Int} (h : 0 ≤ nd) : -1 ≤ TBd nd IU SO nn s w ∧ TBd nd IU SO nn s w < nd := by
  rcases TBk_in nd IU SO nn s w 0 with ⟨a1, -⟩ | ⟨a1, a2, -⟩
  · unfold TBd
    rw [a1]
    omega
  · unfold TBd
    omega
/-- ranges of the reference's rows -/
def RM (miu mnm mso mou mpl mar mex men mnn mon mde mbt mfo mfn : Int → Int) : Prop := RTm miu mnm mso mou mpl mar mex men ∧ rI mnn 0 25 ∧ rI mon 0 4 ∧ rI mde (-1) 59 ∧ rI mbt (-1) 59 ∧ rI mfo (-1) 59 ∧ rI mfn (-1) 59
/-- the reference's rows as they are when the text was read -/
def MRd (tx : Int → Int) (n mfa mnd msc : Int) (miu mnm mso mou mpl mar mex men mnn mon mde mbt mfo mfn : Int → Int) : Prop :=
  (mfa = cFA tx n ∧ mnd = cND tx n ∧ msc = cSC tx n) ∧ TS mnd msc (cIU tx n) (cSO tx n) (cAR tx n) (cEX tx n) ∧ TAg mnd msc miu mso mar mex (cIU tx n) (cSO tx n) (cAR tx n) (cEX tx n) ∧
  (∀ k, 0 ≤ k → k < mnd → mnm k = cNM tx n k ∧ mou k = cOU tx n k ∧ mpl k = cPL tx n k) ∧ (∀ k, 0 ≤ k → k < mnd → mbt k = cBT tx n k ∧ mfo k = cFM tx n (cNM tx n) k) ∧
  (∀ s w, 0 ≤ s → s < msc → 0 ≤ w → w < 26 → mde (26 * s + w) = TBd mnd (cIU tx n) (cSO tx n) (cNM tx n) s w) ∧ RM miu mnm mso mou mpl mar mex men mnn mon mde mbt mfo mfn ∧ (-1 ≤ mfa ∧ mfa ≤ 100)
section MREADS2
variable {ro : Nat × (Int → Int)} {d : Nat} {Q : Option AV → AH → Prop} {hA : List AC} {mtz : Int} {mt : Int → Int} {mk mkf : Int} {mot mox : Int → Int} {mfa mnd : Int} {miu mnm mso mou mpl : Int → Int} {msc : Int} {mar mex men mnn mon mde mbt mfo mfn mma mit mfm msz mim mmo : Int → Int} {mfi : Int}
set_option maxRecDepth 100000 in
set_option maxHeartbeats 4000000 in
theorem r_reads_tail {j1 : AV} (hfa : mfa = cFA mt mtz ∧ mnd = cND mt mtz ∧ msc = cSC mt mtz) (hfr : -1 ≤ mfa ∧ mfa ≤ 100) (hS : TS mnd msc (cIU mt mtz) (cSO mt mtz) (cAR mt mtz) (cEX mt mtz)) (hA' : TAg mnd msc miu mso mar mex (cIU mt mtz) (cSO mt mtz) (cAR mt mtz) (cEX mt mtz))
    (hN : ∀ k, 0 ≤ k → k < mnd → mnm k = cNM mt mtz k ∧ mou k = cOU mt mtz k ∧ mpl k = cPL mt mtz k) (hR : RM miu mnm mso mou mpl mar mex men mnn mon mde mbt mfo mfn)
    (hQ : ∀ mnn' mon' mde' mbt' mfo' mfn', MRd mt mtz mfa mnd msc miu mnm mso mou mpl mar mex men mnn' mon' mde' mbt' mfo' mfn' → Q none (hA, (heapM mtz mt mk mkf mot mox mfa mnd miu mnm mso mou mpl msc mar mex men mnn' mon' mde' mbt' mfo' mfn' mma mit mfm msz mim mmo mfi))) :
    WPm ro (d + 4) (RNd ro (d + 4)) 116 0 0 Q 26 [vR 200, j1] [] (hA, (heapM mtz mt mk mkf mot mox mfa mnd miu mnm mso mou mpl msc mar mex men mnn mon mde mbt mfo mfn mma mit mfm msz mim mmo mfi)) 0 0 := by
  obtain ⟨S1, S2, S3, S4⟩ := id hS
  obtain ⟨R1, R2, R3, R4, R5, R6, R7⟩ := hR
  obtain ⟨r1, r2, r3, r4, r5, r6, r7, r8, r9, r10⟩ := id R1
  have hnn : rI (fb mnn mnm 0 mnd) 0 25 := rI_fb R2 (fun q _ _ => r2 q)
  have hon : rI (fb mon mou 0 mnd) 0 4 := rI_fb R3 (fun q _ _ => by have := r4 q; omega)
  have enn : ∀ k, 0 ≤ k → k < mnd → fb mnn mnm 0 mnd k = cNM mt mtz k := fun k a b => by rw [fb_in a b]; exact (hN k a b).1
  have eon : ∀ k, 0 ≤ k → k < mnd → fb mon mou 0 mnd k = cOU mt mtz k := fun k a b => by rw [fb_in a b]; exact (hN k a b).2.1
  have l81 : ∀ (mde' mbt' mfn' : Int → Int), rI mde' (-1) 59 → rI mbt' (-1) 59 → rI mfn' (-1) 59 → (∀ s w, 0 ≤ s → s < msc → 0 ≤ w → w < 26 → mde' (26 * s + w) = TBd mnd (cIU mt mtz) (cSO mt mtz) (cNM mt mtz) s w) → (∀ k, 0 ≤ k → k < mnd → mbt' k = cBT mt mtz k) → (∀ k, 0 ≤ k → k < mnd → mfn' k = cFM mt mtz (cNM mt mtz) k) →
      ∀ k : Int, ∀ mfo' : Int → Int, 0 ≤ k → k ≤ mnd → rI mfo' (-1) 59 → (∀ q, 0 ≤ q → q < k → mfo' q = mfn' q) → WPm ro (d + 4) (RNd ro (d + 4)) 116 0 0 Q 81 [vR 200, vI k] [] (hA, (heapM mtz mt mk mkf mot mox mfa mnd miu mnm mso mou mpl msc mar mex men (fb mnn mnm 0 mnd) (fb mon mou 0 mnd) mde' mbt' mfo' mfn' mma mit mfm msz mim mmo mfi)) 0 0 := by
    intro mde' mbt' mfn' h1 h2 h3 h4 h5 h6
    refine loopUp mnd fun k ih mfo' k0 k1 hf hq => ?_
    refine WP_first [81] 60 ?_
    refine c2 (fun q => ?_) (fun q => ?_)
    · refine hQ _ _ _ _ _ _ ⟨hfa, hS, hA', hN, fun k a b => ⟨h5 k a b, ?_⟩, h4, ⟨R1, hnn, hon, h1, h2, hf, h3⟩, hfr⟩
      rw [hq k a (by omega)]
      exact h6 k a b
    · refine ix ?_
      refine ix ?_
      refine ih (by omega) _ (by omega) (by omega) (rI_up hf (h3 k).1 (h3 k).2) (fun q a b => ?_)
      by_cases e : q = k
      · rw [e, upZ_s]
      · rw [upZ_n e]; exact hq q a (by omega)
  have l36 : ∀ (mde' : Int → Int), rI mde' (-1) 59 → (∀ s w, 0 ≤ s → s < msc → 0 ≤ w → w < 26 → mde' (26 * s + w) = TBd mnd (cIU mt mtz) (cSO mt mtz) (fb mnn mnm 0 mnd) s w) →
      ∀ k : Int, ∀ mbt' : Int → Int, 0 ≤ k → k ≤ mnd → rI mbt' (-1) 59 → (∀ q, 0 ≤ q → q < k → mbt' q = cBT mt mtz q) → WPm ro (d + 4) (RNd ro (d + 4)) 116 0 0 Q 36 [vR 200, vI k] [] (hA, (heapM mtz mt mk mkf mot mox mfa mnd miu mnm mso mou mpl msc mar mex men (fb mnn mnm 0 mnd) (fb mon mou 0 mnd) mde' mbt' mfo mfn mma mit mfm msz mim mmo mfi)) 0 0 := by
    intro mde' h1 h2
    refine loopUp mnd fun k ih mbt' k0 k1 hf hq => ?_
    refine WP_first [36, 81] 60 ?_
    refine c2 (fun q => ?_) (fun q => ?_)
    · refine r_findsFamilies hS hA' hnn h1 R7 h2 (fun s w a b c e => TBd_lt S1.1) (fun F hF hFk => ?_)
      refine l81 mde' mbt' F h1 hf hF (fun s w a b c e => ?_) (fun k a b => hq k a (by omega)) (fun k a b => ?_) 0 mfo (by omega) (by omega) R6 (fun q a b => by omega)
      · rw [h2 s w a b c e]
        exact TBk_ext enn 0 (by omega)
      · rw [hFk k a b]
        unfold cFM
        rw [← hfa.2.1]
        refine famN_ext (fun k a b => ?_) mnd.toNat (by omega) k a b
        have h9 := SFv_rg (T := TBd mnd (cIU mt mtz) (cSO mt mtz) (fb mnn mnm 0 mnd)) (nn := fb mnn mnm 0 mnd) hS (k := k) ⟨a, b⟩ (by have := hnn k; omega) (fun s w _ _ _ _ => TBd_lt S1.1)
        refine ⟨?_, h9⟩
        obtain ⟨S31, S32⟩ := S3 k a b
        have S42 := (S4 _ S32.1 S32.2).2
        unfold cSF SFv
        split
        · rfl
        · rw [enn k a b]
          unfold cOW
          rw [← hfa.2.1]
          exact OW_ext hS enn (by omega)
    · obtain ⟨e1, e2⟩ := hA'.1 k k0 (by omega)
      obtain ⟨S31, S32⟩ := S3 k k0 (by omega)
      have nxt : ∀ v : Int, v = cBT mt mtz k → (-1 ≤ v ∧ v ≤ 59) → rI (upZ mbt' k v) (-1) 59 ∧ (∀ q, 0 ≤ q → q < k + 1 → upZ mbt' k v q = cBT mt mtz q) := by
        intro v hv1 hv2
        refine ⟨rI_up hf hv2.1 hv2.2, fun q a b => ?_⟩
        by_cases e : q = k
        · rw [e, upZ_s, hv1]
        · rw [upZ_n e]; exact hq q a (by omega)
      refine ix ?_
      refine c2 (fun q2 => ?_) (fun q2 => ?_)
      · refine ix ?_
        obtain ⟨n1, n2⟩ := nxt k (by unfold cBT; rw [if_neg (by omega)]) (by omega)
        exact ih (by omega) _ (by omega) (by omega) n1 n2
      · refine r_boundNow hS hA' ⟨k0, by omega⟩ hnn hon h1 h2 ?_
        refine ix ?_
        have hrg : -1 ≤ lkp (cAR mt mtz) (fun s w => lkp (cEX mt mtz) (TBd mnd (cIU mt mtz) (cSO mt mtz) (fb mnn mnm 0 mnd)) w 10 s) (fb mnn mnm 0 mnd k) 10 (goOut (cAR mt mtz) (fb mon mou 0 mnd k).toNat (cSO mt mtz k)) ∧ lkp (cAR mt mtz) (fun s w => lkp (cEX mt mtz) (TBd mnd (cIU mt mtz) (cSO mt mtz) (fb mnn mnm 0 mnd)) w 10 s) (fb mnn mnm 0 mnd k) 10 (goOut (cAR mt mtz) (fb mon mou 0 mnd k).toNat (cSO mt mtz k)) ≤ 59 :=
          lkp_rg (m := msc) (by omega) (by omega) (fun s s0 s1 => (S4 s s0 s1).1.2) (fun s s0 s1 => OW_rg hS s1) 10 _ (goOut_lt (fun s s0 s1 => (S4 s s0 s1).1.2) _ _ S32.2)
        obtain ⟨n1, n2⟩ := nxt _ (by
          unfold cBT cBN
          rw [if_pos (by omega), ← hfa.2.1]
          have e5 := BN_ext (o := cOU mt mtz k) (w := cNM mt mtz k) hS enn S32.2
          rw [← e5]
          unfold BN
          rw [← eon k k0 (by omega), ← enn k k0 (by omega)]
          rfl) hrg
        exact ih (by omega) _ (by omega) (by omega) n1 n2
  refine WP_run [36] 60 ?_
  refine r_asTold S1 ?_
  refine r_declares hS hA' hnn R4 (fun t ht hT => ?_)
  exact l36 t ht hT 0 mbt (by omega) (by omega) R5 (fun q a b => by omega)
set_option maxRecDepth 100000 in
set_option maxHeartbeats 4000000 in
theorem r_reads (htz : 0 ≤ mtz ∧ mtz ≤ 100) (htb : rI mt 0 255) (hR : RM miu mnm mso mou mpl mar mex men mnn mon mde mbt mfo mfn)
    (hQ : ∀ mfa' mnd' msc' miu' mnm' mso' mou' mpl' mar' mex' men' mnn' mon' mde' mbt' mfo' mfn', MRd mt mtz mfa' mnd' msc' miu' mnm' mso' mou' mpl' mar' mex' men' mnn' mon' mde' mbt' mfo' mfn' → Q none (hA, (heapM mtz mt mk mkf mot mox mfa' mnd' miu' mnm' mso' mou' mpl' msc' mar' mex' men' mnn' mon' mde' mbt' mfo' mfn' mma mit mfm msz mim mmo mfi))) :
    RNd ro (d + 5) 116 [vR 200] (hA, (heapM mtz mt mk mkf mot mox mfa mnd miu mnm mso mou mpl msc mar mex men mnn mon mde mbt mfo mfn mma mit mfm msz mim mmo mfi)) Q := by
  obtain ⟨R1, R2, R3, R4, R5, R6, R7⟩ := id hR
  refine WP_run [26] 60 ?_
  refine r_readsText htz htb R1 (fun fa nd sc iu nm so ou pl ar ex en => AgP (pr0 mt mtz) iu nm so ou pl ar ex en ∧ fa = (pr0 mt mtz).1 ∧ nd = (pr0 mt mtz).2.1 ∧ sc = (pr0 mt mtz).2.2.1) ?_ (parse_canon (fun iu1 nm1 so1 ou1 pl1 ar1 ex1 en1 hAg => ⟨hAg, rfl, rfl, rfl⟩))
  intro fa nd sc iu nm so ou pl ar ex en ⟨hAg, ea, eb, ec⟩ b1 b2 b3 b4 b5 b6 b7
  obtain ⟨r1, r2, r3, r4, r5, r6, r7, r8, r9⟩ := id b7
  have hRm : RTm iu nm so ou pl ar ex en := ⟨r1, r2, r3, r4, r5, r6, r7, fun s s1 => r8 s (by omega), fun s s1 => r9 s (by omega), b5⟩
  unfold AgP at hAg
  rw [← eb, ← ec] at hAg
  obtain ⟨ag1, ag2⟩ := hAg
  refine c2 (fun q => ?_) (fun q => ?_)
  · have ea1 : cFA mt mtz = -1 := by unfold cFA; omega
    have eb1 : nd = cND mt mtz := by unfold cND; rw [if_pos ea1]; exact eb
    have ec1 : sc = cSC mt mtz := by unfold cSC; rw [if_pos ea1]; exact ec
    have har : cAR mt mtz = (pr0 mt mtz).2.2.2.2.2.2.2.2.1 := by unfold cAR; rw [if_pos ea1]
    have hex : cEX mt mtz = (pr0 mt mtz).2.2.2.2.2.2.2.2.2.1 := by unfold cEX; rw [if_pos ea1]
    have hTA : TAg nd sc iu so ar ex (cIU mt mtz) (cSO mt mtz) (cAR mt mtz) (cEX mt mtz) := by
      rw [har, hex]
      exact ⟨fun k a b => ⟨(ag1 k a b).1.symm, (ag1 k a b).2.2.1.symm⟩, fun s a b => ⟨(ag2 s a b).1.symm, (ag2 s a b).2.1.symm⟩⟩
    have hTS : TS nd sc (cIU mt mtz) (cSO mt mtz) (cAR mt mtz) (cEX mt mtz) := by
      refine ⟨b2, b3, fun k a b => ?_, fun s a b => ?_⟩
      · obtain ⟨z1, z2⟩ := hTA.1 k a b
        rw [← z1, ← z2]
        exact ⟨r1 k, (r3 k).1, b6 k a b⟩
      · obtain ⟨z1, z2⟩ := hTA.2 s a b
        rw [← z1, ← z2]
        exact ⟨⟨(r6 s).1, r8 s a⟩, (r7 s).1, r9 s a⟩
    refine r_reads_tail (mfa := fa) ⟨ea, eb1, ec1⟩ b1 hTS hTA (fun k a b => ⟨(ag1 k a b).2.1.symm, (ag1 k a b).2.2.2.1.symm, (ag1 k a b).2.2.2.2.symm⟩) ⟨hRm, R2, R3, R4, R5, R6, R7⟩ (fun mnn' mon' mde' mbt' mfo' mfn' hM => ?_)
    exact hQ _ _ _ _ _ _ _ _ _ _ _ _ _ _ _ _ _ hM
  · have ea1 : ¬ cFA mt mtz = -1 := by unfold cFA; omega
    have hND : cND mt mtz = 0 := by unfold cND; rw [if_neg ea1]
    have hSC : cSC mt mtz = 1 := by unfold cSC; rw [if_neg ea1]
    have har : cAR mt mtz = fun _ => -1 := by unfold cAR; rw [if_neg ea1]
    have hex : cEX mt mtz = fun _ => -1 := by unfold cEX; rw [if_neg ea1]
    have hTA : TAg 0 1 iu so ar ex (cIU mt mtz) (cSO mt mtz) (cAR mt mtz) (cEX mt mtz) := by
      rw [har, hex]
      refine ⟨fun k a b => by omega, fun s a b => ?_⟩
      have z1 := r6 s
      have z2 := r8 s a
      have z3 := r7 s
      have z4 := r9 s a
      exact ⟨show ar s = -1 by omega, show ex s = -1 by omega⟩
    have hTS : TS 0 1 (cIU mt mtz) (cSO mt mtz) (cAR mt mtz) (cEX mt mtz) := by
      rw [har, hex]
      exact ⟨by omega, by omega, fun k a b => by omega, fun s a b => (show (-1 ≤ (-1:Int) ∧ (-1:Int) < s) ∧ (-1 ≤ (-1:Int) ∧ (-1:Int) < s) by omega)⟩
    refine r_reads_tail (mfa := fa) ⟨ea, hND.symm, hSC.symm⟩ b1 hTS hTA (fun k a b => by omega) ⟨hRm, R2, R3, R4, R5, R6, R7⟩ (fun mnn' mon' mde' mbt' mfo' mfn' hM => ?_)
    exact hQ _ _ _ _ _ _ _ _ _ _ _ _ _ _ _ _ _ hM
end MREADS2
