/-! ===== rename ===== -/
noncomputable def nnB (tx : Int → Int) (n i w : Int) : Int → Int := fb Z0 (cNN tx n i w (cBest tx n i w)) 0 (cND tx n)
noncomputable def ooB (tx : Int → Int) (n i w : Int) : Int → Int := fb Z0 (cOO tx n (cBest tx n i w) (cNN tx n i w (cBest tx n i w))) 0 (cND tx n)
noncomputable def wrB (tx : Int → Int) (n i w : Int) (f0 : Int → Int) : (Int → Int) × Int × Int := wrN tx (nnB tx n i w) (ooB tx n i w) f0 n.toNat
set_option maxRecDepth 100000 in
set_option maxHeartbeats 4000000 in
theorem ooB_rg {tx : Int → Int} {n i w : Int} (hO : ∀ k, 0 ≤ k → k < cND tx n → 0 ≤ cOU tx n k ∧ cOU tx n k ≤ 3) (k : Int) : 0 ≤ ooB tx n i w k ∧ ooB tx n i w k ≤ 3 := by
  unfold ooB fb
  split
  · rename_i h
    have ho := hO k h.1 h.2
    show 0 ≤ cOO tx n _ _ k ∧ cOO tx n _ _ k ≤ 3
    unfold cOO
    split
    · exact ho
    · rename_i hc
      have hl := loF_rg (cBo tx n (cNN tx n i w (cBest tx n i w)) k) (cBT tx n k)
      have hn : ¬ cLo tx n (cNN tx n i w (cBest tx n i w)) k = -1 := fun z => hc (Or.inr (Or.inr (Or.inr z)))
      unfold cLo at hn ⊢
      omega
  · exact ⟨Int.le_refl 0, by show (0 : Int) ≤ 3; omega⟩
set_option maxRecDepth 100000 in
set_option maxHeartbeats 4000000 in
theorem cND_fa {tx : Int → Int} {n i : Int} (h : 0 ≤ i ∧ i < cND tx n) : cFA tx n = -1 := by
  by_cases e : cFA tx n = -1
  · exact e
  · unfold cND at h
    rw [if_neg e] at h
    omega
set_option maxRecDepth 100000 in
set_option maxHeartbeats 4000000 in
theorem wrB_all {tx : Int → Int} {n i w : Int} {f0 : Int → Int} (hn : 0 ≤ n) (hi : 0 ≤ i ∧ i < cND tx n) (hO : ∀ k, 0 ≤ k → k < cND tx n → 0 ≤ cOU tx n k ∧ cOU tx n k ≤ 3) (hb : cBest tx n i w ≠ -1) :
    (∀ q, 0 ≤ q → q < n → ((97 ≤ tx q ∧ tx q ≤ 122) ↔ ((wrN tx (nnB tx n i w) (ooB tx n i w) f0 q.toNat).2.2 < cND tx n ∧ cPL tx n (wrN tx (nnB tx n i w) (ooB tx n i w) f0 q.toNat).2.2 = q))) ∧ (1 ≤ (wrB tx n i w f0).2.1 ∧ (wrB tx n i w f0).2.1 ≤ 100) := by
  obtain ⟨w1, w2, w3⟩ := wr_text (nn := nnB tx n i w) (oo := ooB tx n i w) (f0 := f0) hn (cND_fa hi)
  have hj := wr_jz (tx := tx) (nn := nnB tx n i w) (oo := ooB tx n i w) (f0 := f0) (fun k _ => (ooB_rg hO k).1) n.toNat
  refine ⟨w1, ?_, ?_⟩
  · show 1 ≤ (wrN tx (nnB tx n i w) (ooB tx n i w) f0 n.toNat).2.1
    omega
  · show (wrN tx (nnB tx n i w) (ooB tx n i w) f0 n.toNat).2.1 ≤ 100
    rw [w2]
    have hed : cED tx n i w (cBest tx n i w) ≠ -1 := by
      rcases cBest_rg (tx := tx) (n := n) (i := i) (w := w) with ⟨z, -⟩ | ⟨-, -, -, z⟩
      · exact absurd z hb
      · exact z
    have hle : cBy tx n (cOO tx n (cBest tx n i w) (cNN tx n i w (cBest tx n i w))) ≤ 100 := by
      apply Classical.byContradiction
      intro z
      exact hed (cED_n (fun y => z y.2.2))
    have he : cBy tx n (ooB tx n i w) = cBy tx n (cOO tx n (cBest tx n i w) (cNN tx n i w (cBest tx n i w))) := by
      unfold cBy
      rw [sumF_ext (f := fun k => ooB tx n i w k - cOU tx n k) (g := fun k => cOO tx n (cBest tx n i w) (cNN tx n i w (cBest tx n i w)) k - cOU tx n k) (cND tx n).toNat (fun k a b => by unfold ooB; rw [fb_in a (by omega)])]
    rw [he]
    exact hle
section RENC
variable {ro : Nat × (Int → Int)} {d : Nat} {Q : Option AV → AH → Prop} {hB : List AC} {tb : Int → Int} {tz : Int} {tk : Int → Int → Int} {tks : Int → Int} {tc tt : Int} {iu nm ou so pl : Int → Int} {nd : Int} {pa ba de en : Int → Int} {sc rsz fp ss cu os : Int} {a1 a2 a3 : Int → Int} {a4 : Int → Int64} {a5 b1 b2 b3 : Int → Int} {b4 : Int → Int64} {b5 : Int → Int} {le fi : Int} {xi0 : Int → Int} {xf0 xz0 xl0 : Int} {xi1 : Int → Int} {xf1 xz1 xl1 : Int} {xi2 : Int → Int} {xf2 xz2 xl2 : Int} {xi3 : Int → Int} {xf3 xz3 xl3 : Int}
set_option maxRecDepth 100000 in
set_option maxHeartbeats 4000000 in
theorem t_rename {i w : Int} (hi : rg i) (hw : rg w) (hC : CRd tb tz fp nd sc rsz iu nm so ou pl pa ba en a1 a2 a3 a4 a5) (htz : 0 ≤ tz ∧ tz ≤ 100) (htb : rI tb 0 255) (g1 : rI b1 0 25) (g2 : rI b2 0 3) (g3 : rI b3 (-1) 59) (g5 : rI b5 (-1) 59) (htt : 0 ≤ tt ∧ tt < 20) (htc : 0 ≤ tc ∧ tc ≤ 20)
    (q1 : aRefC tb tz i w 0 1 ≠ 0 → Q (some (vI (aRefC tb tz i w 0 1))) ((heapC tb tz tk tks tc tt iu nm ou so pl nd pa ba de en sc rsz fp ss cu os a1 a2 a3 a4 a5 b1 b2 b3 b4 b5 le fi xi0 xf0 xz0 xl0 xi1 xf1 xz1 xl1 xi2 xf2 xz2 xl2 xi3 xf3 xz3 xl3), hB))
    (q2 : aRefC tb tz i w 0 1 = 0 → cBest tb tz i (w - 97) = -1 → ∀ b1' b2' b3' b4' b5' le', rI b1' 0 25 → rI b2' 0 3 → rI b3' (-1) 59 → rI b5' (-1) 59 → Q (some (vI (-3))) ((heapC tb tz tk tks tc tt iu nm ou so pl nd pa ba de en sc rsz fp ss cu os a1 a2 a3 a4 a5 b1' b2' b3' b4' b5' le' fi xi0 xf0 xz0 xl0 xi1 xf1 xz1 xl1 xi2 xf2 xz2 xl2 xi3 xf3 xz3 xl3), hB))
    (q0 : aRefC tb tz i w 0 1 = 0 → cBest tb tz i (w - 97) ≠ -1 → rI (wrB tb tz i (w - 97) tb).1 0 255 → 1 ≤ (wrB tb tz i (w - 97) tb).2.1 ∧ (wrB tb tz i (w - 97) tb).2.1 ≤ 100 → ∀ b1' b2' b3' b4' b5' le', rI b1' 0 25 → rI b2' 0 3 → rI b3' (-1) 59 → rI b5' (-1) 59 → ∀ fp' nd' sc' rsz' iu' nm' so' ou' pl' pa' ba' de' en' ss' cu' os' a1' a2' a3' a4' a5', CRd (wrB tb tz i (w - 97) tb).1 (wrB tb tz i (w - 97) tb).2.1 fp' nd' sc' rsz' iu' nm' so' ou' pl' pa' ba' en' a1' a2' a3' a4' a5' → Q (some (vI (cED tb tz i (w - 97) (cBest tb tz i (w - 97))))) ((heapC ((wrB tb tz i (w - 97) tb).1) ((wrB tb tz i (w - 97) tb).2.1) (upZ tk tt (cpZ tb (tk tt) 0 0 tz)) (upZ tks tt tz) (if 20 < tc + 1 then 20 else tc + 1) (if tt + 1 < 20 then tt + 1 else 0) iu' nm' ou' so' pl' nd' pa' ba' de' en' sc' rsz' fp' ss' cu' os' a1' a2' a3' a4' a5' b1' b2' b3' b4' b5' le' fi xi0 xf0 xz0 xl0 xi1 xf1 xz1 xl1 xi2 xf2 xz2 xl2 xi3 xf3 xz3 xl3), hB)) : RNd ro (d + 8) 75 [vR 0, vI i, vI w] ((heapC tb tz tk tks tc tt iu nm ou so pl nd pa ba de en sc rsz fp ss cu os a1 a2 a3 a4 a5 b1 b2 b3 b4 b5 le fi xi0 xf0 xz0 xl0 xi1 xf1 xz1 xl1 xi2 xf2 xz2 xl2 xi3 xf3 xz3 xl3), hB) Q := by
  obtain ⟨⟨hfp, hnd, hsc, hrs⟩, hS, hA, hN, hW, hTa, hK, hR0, h1, h2, h3, h5⟩ := id hC
  obtain ⟨co1, co2⟩ := CRd_ou hC
  have rr := aRefC_rg (tx := tb) (n := tz) (i := i) (w := w) (what := 0) (bd := 1)
  have bb := cBest_rg (tx := tb) (n := tz) (i := i) (w := w - 97)
  refine WP_run [] 60 ?_
  refine t_refC hi hw (by unfold rg; omega) (by unfold rg; omega) hC ?_
  refine c1 (fun e => ?_) (fun e => ?_)
  · obtain ⟨⟨z1, z2⟩, z3, -⟩ := aRefC_0 e
    have z1' : 0 ≤ i ∧ i < nd := by rw [hnd]; exact z1
    refine t_bestPlan hC htz g1 g2 g3 g5 z1' z2 (by omega) (fun b1' b2' b3' b4' b5' k1 k2 k3 k5 => ?_)
    refine c2 (fun e2 => ?_) (fun e2 => ?_)
    · obtain ⟨ww, wz⟩ := wrB_all (f0 := tb) htz.1 z1 co2 e2
      refine t_attempt hC htz k1 k2 k3 k5 z1' z2 (by omega) (by omega) (fun b1'' b2'' b3'' b4'' b5'' l1 l2 l3 l5 hb => ?_)
      have hb' := hb (by omega)
      have hbyte : rI (wrB tb tz i (w - 97) tb).1 0 255 := by
        refine wr_byte (fun k _ => (ooB_rg co2 k).1) htb htb (fun k _ => ?_) tz.toNat
        unfold nnB fb
        split
        · rename_i hk
          rw [← (hb' k hk.1 (by omega)).1]
          exact l1 k
        · exact ⟨Int.le_refl 0, by show (0 : Int) ≤ 25; omega⟩
      have hq := q0 e e2 hbyte wz b1'' b2'' b3'' b4'' b5'' (cLst tb tz i (w - 97)) l1 l2 l3 l5
      refine t_respell (nn := nnB tb tz i (w - 97)) (oo := ooB tb tz i (w - 97)) (PL := cPL tb tz) (m := cND tb tz) htz htb htt htc co1.2 (fun k a b => ?_) (fun k _ => ooB_rg co2 k) ww wz.2 ?_
      · unfold nnB ooB
        rw [fb_in a b, fb_in a b]
        exact hb' k a (by omega)
      · refine t_reread (by unfold wrB at wz; omega) hbyte hR0 h1 h2 h3 h5 (fun fp' nd' sc' rsz' iu' nm' so' ou' pl' pa' ba' de' en' ss' cu' os' a1' a2' a3' a4' a5' hC2 => ?_)
        exact ri (hq fp' nd' sc' rsz' iu' nm' so' ou' pl' pa' ba' de' en' ss' cu' os' a1' a2' a3' a4' a5' hC2)
    · exact ri (q2 e (by omega) b1' b2' b3' b4' b5' _ k1 k2 k3 k5)
  · exact ri (q1 e)
end RENC
section RENM
variable {ro : Nat × (Int → Int)} {d : Nat} {Q : Option AV → AH → Prop} {hA : List AC} {mtz : Int} {mt : Int → Int} {mk mkf : Int} {mot mox : Int → Int} {mfa mnd : Int} {miu mnm mso mou mpl : Int → Int} {msc : Int} {mar mex men mnn mon mde mbt mfo mfn mma mit mfm msz mim mmo : Int → Int} {mfi : Int}
set_option maxRecDepth 100000 in
set_option maxHeartbeats 4000000 in
theorem MRw_RM (h : MRw mt mtz mfa mnd msc miu mnm mso mou mpl mar mex men mnn mon mde mbt mfo mfn) : RM miu mnm mso mou mpl mar mex men mnn mon mde mbt mfo mfn := h.2.2.2.2.2.1
set_option maxRecDepth 100000 in
set_option maxHeartbeats 4000000 in
theorem r_asked {i w b what bd : Int} (hi : rg i) (hw : rg w) (hb : b = 0 ∨ b = 1) (hwl : b = 1 ↔ (0 ≤ what ∧ what < bd)) (htz : 0 ≤ mtz ∧ mtz ≤ 100) (htb : rI mt 0 255) (hR : RM miu mnm mso mou mpl mar mex men mnn mon mde mbt mfo mfn)
    (hQ : ∀ mfa' mnd' msc' miu' mnm' mso' mou' mpl' mar' mex' men' mnn' mon' mde' mbt' mfo' mfn', MRd mt mtz mfa' mnd' msc' miu' mnm' mso' mou' mpl' mar' mex' men' mnn' mon' mde' mbt' mfo' mfn' → Q (some (vI (if aRefC mt mtz i w what bd = 0 then 1 else aRefC mt mtz i w what bd))) (hA, (heapM mtz mt mk mkf mot mox mfa' mnd' miu' mnm' mso' mou' mpl' msc' mar' mex' men' mnn' mon' mde' mbt' mfo' mfn' mma mit mfm msz mim mmo mfi))) : RNd ro (d + 7) 157 [vR 200, vI i, vI w, vI b] (hA, (heapM mtz mt mk mkf mot mox mfa mnd miu mnm mso mou mpl msc mar mex men mnn mon mde mbt mfo mfn mma mit mfm msz mim mmo mfi)) Q := by
  refine WP_run [] 40 ?_
  refine r_isNode hi htz htb hR (fun mfa' mnd' msc' miu' mnm' mso' mou' mpl' mar' mex' men' mnn' mon' mde' mbt' mfo' mfn' hM => ⟨fun h => ?_, fun h => ?_⟩)
  · have hq := hQ mfa' mnd' msc' miu' mnm' mso' mou' mpl' mar' mex' men' mnn' mon' mde' mbt' mfo' mfn' hM
    obtain ⟨⟨hfa, hnd, hsc⟩, hS, hA', hN, hW, hT, ⟨R1, R2, R3, R4, R5, R6, R7⟩, hfr⟩ := id hM
    have S1 := hS.1
    have e1 := (hA'.1 i h.1 h.2).1
    have r1 := R1.1 i
    refine f1 ?_
    refine r_isName hw (fun h2 => ?_) (fun h2 => ?_)
    · refine f1 ?_
      refine c1 (fun e => ?_) (fun e => ?_)
      · have e' := hwl.mp (by omega)
        unfold aRefC aRef at hq
        rw [if_pos (show (97 ≤ w ∧ w ≤ 122) ∧ 0 ≤ what ∧ what < bd by omega), if_pos (show 0 ≤ i ∧ i < cND mt mtz by omega)] at hq
        refine ix ?_
        refine c2 (fun e3 => ?_) (fun e3 => ?_)
        · rw [if_pos (show cIU mt mtz i = 0 by omega)] at hq
          exact ri hq
        · rw [if_neg (show ¬ cIU mt mtz i = 0 by omega)] at hq
          exact ri hq
      · unfold aRefC at hq
        rw [if_neg (show ¬ ((97 ≤ w ∧ w ≤ 122) ∧ 0 ≤ what ∧ what < bd) from fun z => by have := hwl.mpr z.2; omega)] at hq
        exact ri hq
    · unfold aRefC at hq
      rw [if_neg (show ¬ ((97 ≤ w ∧ w ≤ 122) ∧ 0 ≤ what ∧ what < bd) by omega)] at hq
      refine t1 ?_
      exact ri hq
  · have hq := hQ mfa' mnd' msc' miu' mnm' mso' mou' mpl' mar' mex' men' mnn' mon' mde' mbt' mfo' mfn' hM
    have hnd := hM.1.2.1
    refine t1 ?_
    have e : aRefC mt mtz i w what bd = -2 := by
      unfold aRefC aRef
      rw [if_neg (show ¬ (0 ≤ i ∧ i < cND mt mtz) by omega)]
      split <;> rfl
    rw [e] at hq
    exact ri hq
set_option maxRecDepth 100000 in
set_option maxHeartbeats 4000000 in
theorem r_plan {i w what : Int} (hi : rg i) (hw : rg w) (hwh : rg what) (htz : 0 ≤ mtz ∧ mtz ≤ 100) (htb : rI mt 0 255) (hR : RM miu mnm mso mou mpl mar mex men mnn mon mde mbt mfo mfn)
    (hQ : ∀ mfa' mnd' msc' miu' mnm' mso' mou' mpl' mar' mex' men' mnn' mon' mde' mbt' mfo' mfn', MRw mt mtz mfa' mnd' msc' miu' mnm' mso' mou' mpl' mar' mex' men' mnn' mon' mde' mbt' mfo' mfn' → Q (some (vI (aPlan mt mtz i w what))) (hA, (heapM mtz mt mk mkf mot mox mfa' mnd' miu' mnm' mso' mou' mpl' msc' mar' mex' men' mnn' mon' mde' mbt' mfo' mfn' mma mit mfm msz mim mmo mfi))) : RNd ro (d + 9) 158 [vR 200, vI i, vI w, vI what] (hA, (heapM mtz mt mk mkf mot mox mfa mnd miu mnm mso mou mpl msc mar mex men mnn mon mde mbt mfo mfn mma mit mfm msz mim mmo mfi)) Q := by
  have rr := aRefC_rg (tx := mt) (n := mtz) (i := i) (w := w) (what := what) (bd := 2)
  refine WP_run [9] 40 ?_
  have go : ∀ b : Int, (b = 0 ∨ b = 1) → (b = 1 ↔ (0 ≤ what ∧ what < 2)) → WPm ro (d + 8) (RNd ro (d + 8)) 158 0 0 Q 9 [vR 200, vI i, vI w, vI what, vN] [vI b, vI w, vI i, vR 200] (hA, (heapM mtz mt mk mkf mot mox mfa mnd miu mnm mso mou mpl msc mar mex men mnn mon mde mbt mfo mfn mma mit mfm msz mim mmo mfi)) 0 0 := by
    intro b hb hwl
    refine WP_first [] 40 ?_
    refine r_asked hi hw hb hwl htz htb hR (fun mfa' mnd' msc' miu' mnm' mso' mou' mpl' mar' mex' men' mnn' mon' mde' mbt' mfo' mfn' hM => ?_)
    have hnd := hM.1.2.1
    unfold aPlan at hQ
    by_cases e : aRefC mt mtz i w what 2 = 0
    · obtain ⟨⟨z1, z2⟩, z3, z4⟩ := aRefC_0 e
      rw [if_neg (by omega)] at hQ
      rw [if_pos e]
      refine f2 ?_
      refine r_planOf (MRd_w hM) htz (by omega) (by omega) (by omega) (fun mnn'' mon'' mde'' mfn'' hM2 => ?_)
      exact ri (hQ _ _ _ _ _ _ _ _ _ _ _ _ _ _ _ _ _ hM2)
    · rw [if_pos (by omega)] at hQ
      rw [if_neg e]
      refine t2 ?_
      exact ri (hQ _ _ _ _ _ _ _ _ _ _ _ _ _ _ _ _ _ (MRd_w hM))
  refine r_in hwh (by unfold rg; omega) (by unfold rg; omega) (fun h => ?_) (fun h => ?_)
  · exact go 1 (Or.inr rfl) (by omega)
  · exact go 0 (Or.inl rfl) (by omega)
set_option maxRecDepth 100000 in
set_option maxHeartbeats 4000000 in
theorem r_edits {i w what : Int} (hi : rg i) (hw : rg w) (hwh : rg what) (htz : 0 ≤ mtz ∧ mtz ≤ 100) (htb : rI mt 0 255) (hR : RM miu mnm mso mou mpl mar mex men mnn mon mde mbt mfo mfn)
    (hQ : ∀ mfa' mnd' msc' miu' mnm' mso' mou' mpl' mar' mex' men' mnn' mon' mde' mbt' mfo' mfn', MRw mt mtz mfa' mnd' msc' miu' mnm' mso' mou' mpl' mar' mex' men' mnn' mon' mde' mbt' mfo' mfn' → Q (some (vI (aEdits mt mtz i w what))) (hA, (heapM mtz mt mk mkf mot mox mfa' mnd' miu' mnm' mso' mou' mpl' msc' mar' mex' men' mnn' mon' mde' mbt' mfo' mfn' mma mit mfm msz mim mmo mfi))) : RNd ro (d + 9) 159 [vR 200, vI i, vI w, vI what] (hA, (heapM mtz mt mk mkf mot mox mfa mnd miu mnm mso mou mpl msc mar mex men mnn mon mde mbt mfo mfn mma mit mfm msz mim mmo mfi)) Q := by
  have rr := aRefC_rg (tx := mt) (n := mtz) (i := i) (w := w) (what := what) (bd := 3)
  refine WP_run [9] 40 ?_
  have go : ∀ b : Int, (b = 0 ∨ b = 1) → (b = 1 ↔ (0 ≤ what ∧ what < 3)) → WPm ro (d + 8) (RNd ro (d + 8)) 159 0 0 Q 9 [vR 200, vI i, vI w, vI what, vN] [vI b, vI w, vI i, vR 200] (hA, (heapM mtz mt mk mkf mot mox mfa mnd miu mnm mso mou mpl msc mar mex men mnn mon mde mbt mfo mfn mma mit mfm msz mim mmo mfi)) 0 0 := by
    intro b hb hwl
    refine WP_first [] 40 ?_
    refine r_asked hi hw hb hwl htz htb hR (fun mfa' mnd' msc' miu' mnm' mso' mou' mpl' mar' mex' men' mnn' mon' mde' mbt' mfo' mfn' hM => ?_)
    have hnd := hM.1.2.1
    unfold aEdits at hQ
    by_cases e : aRefC mt mtz i w what 3 = 0
    · obtain ⟨⟨z1, z2⟩, z3, z4⟩ := aRefC_0 e
      rw [if_neg (by omega)] at hQ
      rw [if_pos e]
      refine f2 ?_
      refine r_editsBy (MRd_w hM) htz (by omega) (by omega) (by omega) (fun mnn'' mon'' mde'' mfn'' hM2 _ => ?_)
      exact ri (hQ _ _ _ _ _ _ _ _ _ _ _ _ _ _ _ _ _ hM2)
    · rw [if_pos (by omega)] at hQ
      rw [if_neg e]
      refine t2 ?_
      exact ri (hQ _ _ _ _ _ _ _ _ _ _ _ _ _ _ _ _ _ (MRd_w hM))
  refine r_in hwh (by unfold rg; omega) (by unfold rg; omega) (fun h => ?_) (fun h => ?_)
  · exact go 1 (Or.inr rfl) (by omega)
  · exact go 0 (Or.inl rfl) (by omega)
set_option maxRecDepth 100000 in
set_option maxHeartbeats 4000000 in
theorem r_caught {i w what : Int} (hi : rg i) (hw : rg w) (hwh : rg what) (htz : 0 ≤ mtz ∧ mtz ≤ 100) (htb : rI mt 0 255) (hR : RM miu mnm mso mou mpl mar mex men mnn mon mde mbt mfo mfn)
    (hQ : ∀ mfa' mnd' msc' miu' mnm' mso' mou' mpl' mar' mex' men' mnn' mon' mde' mbt' mfo' mfn', MRw mt mtz mfa' mnd' msc' miu' mnm' mso' mou' mpl' mar' mex' men' mnn' mon' mde' mbt' mfo' mfn' → Q (some (vI (aCaught mt mtz i w what))) (hA, (heapM mtz mt mk mkf mot mox mfa' mnd' miu' mnm' mso' mou' mpl' msc' mar' mex' men' mnn' mon' mde' mbt' mfo' mfn' mma mit mfm msz mim mmo mfi))) : RNd ro (d + 9) 161 [vR 200, vI i, vI w, vI what] (hA, (heapM mtz mt mk mkf mot mox mfa mnd miu mnm mso mou mpl msc mar mex men mnn mon mde mbt mfo mfn mma mit mfm msz mim mmo mfi)) Q := by
  have rr := aRefC_rg (tx := mt) (n := mtz) (i := i) (w := w) (what := what) (bd := 2)
  refine WP_run [9] 40 ?_
  have go : ∀ b : Int, (b = 0 ∨ b = 1) → (b = 1 ↔ (0 ≤ what ∧ what < 2)) → WPm ro (d + 8) (RNd ro (d + 8)) 161 0 0 Q 9 [vR 200, vI i, vI w, vI what, vN] [vI b, vI w, vI i, vR 200] (hA, (heapM mtz mt mk mkf mot mox mfa mnd miu mnm mso mou mpl msc mar mex men mnn mon mde mbt mfo mfn mma mit mfm msz mim mmo mfi)) 0 0 := by
    intro b hb hwl
    refine WP_first [] 40 ?_
    refine r_asked hi hw hb hwl htz htb hR (fun mfa' mnd' msc' miu' mnm' mso' mou' mpl' mar' mex' men' mnn' mon' mde' mbt' mfo' mfn' hM => ?_)
    have hnd := hM.1.2.1
    unfold aCaught at hQ
    by_cases e : aRefC mt mtz i w what 2 = 0
    · obtain ⟨⟨z1, z2⟩, z3, z4⟩ := aRefC_0 e
      rw [if_neg (by omega)] at hQ
      rw [if_pos e]
      refine f2 ?_
      refine r_caughtOf (MRd_w hM) (by omega) (by omega) (by omega) (fun mnn'' mon'' mde'' mfn'' hM2 => ?_)
      exact ri (hQ _ _ _ _ _ _ _ _ _ _ _ _ _ _ _ _ _ hM2)
    · rw [if_pos (by omega)] at hQ
      rw [if_neg e]
      refine t2 ?_
      exact ri (hQ _ _ _ _ _ _ _ _ _ _ _ _ _ _ _ _ _ (MRd_w hM))
  refine r_in hwh (by unfold rg; omega) (by unfold rg; omega) (fun h => ?_) (fun h => ?_)
  · exact go 1 (Or.inr rfl) (by omega)
  · exact go 0 (Or.inl rfl) (by omega)
set_option maxRecDepth 100000 in
set_option maxHeartbeats 4000000 in
theorem r_easy {i : Int} (hi : rg i) (htz : 0 ≤ mtz ∧ mtz ≤ 100) (htb : rI mt 0 255) (hR : RM miu mnm mso mou mpl mar mex men mnn mon mde mbt mfo mfn)
    (hQ : ∀ mfa' mnd' msc' miu' mnm' mso' mou' mpl' mar' mex' men' mnn' mon' mde' mbt' mfo' mfn', MRw mt mtz mfa' mnd' msc' miu' mnm' mso' mou' mpl' mar' mex' men' mnn' mon' mde' mbt' mfo' mfn' → Q (some (vI (aEasy mt mtz i))) (hA, (heapM mtz mt mk mkf mot mox mfa' mnd' miu' mnm' mso' mou' mpl' msc' mar' mex' men' mnn' mon' mde' mbt' mfo' mfn' mma mit mfm msz mim mmo mfi))) : RNd ro (d + 9) 163 [vR 200, vI i] (hA, (heapM mtz mt mk mkf mot mox mfa mnd miu mnm mso mou mpl msc mar mex men mnn mon mde mbt mfo mfn mma mit mfm msz mim mmo mfi)) Q := by
  have rr := aRef_rg (tx := mt) (n := mtz) (i := i)
  have er : aRefC mt mtz i 97 0 1 = aRef mt mtz i := by
    unfold aRefC
    rw [if_pos (by omega)]
  refine WP_run [] 40 ?_
  refine r_asked (what := 0) (bd := 1) hi (by unfold rg; omega) (Or.inr rfl) (by omega) htz htb hR (fun mfa' mnd' msc' miu' mnm' mso' mou' mpl' mar' mex' men' mnn' mon' mde' mbt' mfo' mfn' hM => ?_)
  have hnd := hM.1.2.1
  rw [er]
  unfold aEasy at hQ
  by_cases e : aRef mt mtz i = 0
  · obtain ⟨z1, z2⟩ := aRef_0 e
    rw [if_neg (by omega)] at hQ
    rw [if_pos e]
    refine f2 ?_
    refine r_easyOf (MRd_w hM) htz (by omega) (fun mnn'' mon'' mde'' mfn'' hM2 => ?_)
    exact ri (hQ _ _ _ _ _ _ _ _ _ _ _ _ _ _ _ _ _ hM2)
  · rw [if_pos (by omega)] at hQ
    rw [if_neg e]
    refine t2 ?_
    exact ri (hQ _ _ _ _ _ _ _ _ _ _ _ _ _ _ _ _ _ (MRd_w hM))
set_option maxRecDepth 100000 in
set_option maxHeartbeats 4000000 in
theorem r_count {what : Int} (hwh : rg what) (htz : 0 ≤ mtz ∧ mtz ≤ 100) (htb : rI mt 0 255) (hR : RM miu mnm mso mou mpl mar mex men mnn mon mde mbt mfo mfn)
    (q0 : ¬ (1 ≤ what ∧ what ≤ 6) → Q (some (vI (aCount mt mtz mk mfi what))) (hA, (heapM mtz mt mk mkf mot mox mfa mnd miu mnm mso mou mpl msc mar mex men mnn mon mde mbt mfo mfn mma mit mfm msz mim mmo mfi))) (q1 : 1 ≤ what ∧ what ≤ 6 → ∀ mfa' mnd' msc' miu' mnm' mso' mou' mpl' mar' mex' men' mnn' mon' mde' mbt' mfo' mfn', MRw mt mtz mfa' mnd' msc' miu' mnm' mso' mou' mpl' mar' mex' men' mnn' mon' mde' mbt' mfo' mfn' → Q (some (vI (aCount mt mtz mk mfi what))) (hA, (heapM mtz mt mk mkf mot mox mfa' mnd' miu' mnm' mso' mou' mpl' msc' mar' mex' men' mnn' mon' mde' mbt' mfo' mfn' mma mit mfm msz mim mmo mfi))) : RNd ro (d + 7) 181 [vR 200, vI what] (hA, (heapM mtz mt mk mkf mot mox mfa mnd miu mnm mso mou mpl msc mar mex men mnn mon mde mbt mfo mfn mma mit mfm msz mim mmo mfi)) Q := by
  unfold aCount at q0 q1
  refine WP_run [57] 40 ?_
  refine m1 ?_ hwh
  by_cases e0 : what = 0
  · have q := q0 (by omega)
    rw [if_pos e0] at q
    refine st ?_
    exact ri q
  · refine sf ?_
    by_cases e1 : 1 ≤ what ∧ what ≤ 6
    · have q := q1 e1
      rw [if_neg e0, if_pos e1] at q
      have go : WPm ro (d + 6) (RNd ro (d + 6)) 181 0 0 Q 57 [vR 200, vI what] [] (hA, (heapM mtz mt mk mkf mot mox mfa mnd miu mnm mso mou mpl msc mar mex men mnn mon mde mbt mfo mfn mma mit mfm msz mim mmo mfi)) 0 0 := by
        refine WP_first [] 40 ?_
        refine r_tellOf e1 htz htb hR (fun mfa' mnd' msc' miu' mnm' mso' mou' mpl' mar' mex' men' mnn' mon' mde' mbt' mfo' mfn' hM => ?_)
        exact ri (q mfa' mnd' msc' miu' mnm' mso' mou' mpl' mar' mex' men' mnn' mon' mde' mbt' mfo' mfn' hM)
      by_cases k1 : what = 1
      · refine st ?_
        exact go
      · refine sf ?_
        by_cases k2 : what = 2
        · refine st ?_
          exact go
        · refine sf ?_
          by_cases k3 : what = 3
          · refine st ?_
            exact go
          · refine sf ?_
            by_cases k4 : what = 4
            · refine st ?_
              exact go
            · refine sf ?_
              by_cases k5 : what = 5
              · refine st ?_
                exact go
              · refine sf ?_
                refine st ?_
                exact go
    · have q := q0 e1
      rw [if_neg e0, if_neg e1] at q
      refine sf ?_
      refine sf ?_
      refine sf ?_
      refine sf ?_
      refine sf ?_
      refine sf ?_
      by_cases e7 : what = 7
      · rw [if_pos e7] at q
        refine st ?_
        exact ri q
      · rw [if_neg e7] at q
        refine sf ?_
        by_cases e8 : what = 8
        · rw [if_pos e8] at q
          refine st ?_
          exact ri q
        · rw [if_neg e8] at q
          refine sf ?_
          exact ri q
set_option maxRecDepth 100000 in
set_option maxHeartbeats 4000000 in
theorem r_rename {i w at_ : Int} (hi : rg i) (hw : rg w) (htz : 0 ≤ mtz ∧ mtz ≤ 100) (htb : rI mt 0 255) (hR : RM miu mnm mso mou mpl mar mex men mnn mon mde mbt mfo mfn) (hkf : 0 ≤ mkf ∧ mkf < 20) (hk : 0 ≤ mk ∧ mk ≤ 20) (hat : at_ = (mkf + mk) % 20)
    (q1 : aRefC mt mtz i w 0 1 ≠ 0 → ∀ mfa' mnd' msc' miu' mnm' mso' mou' mpl' mar' mex' men' mnn' mon' mde' mbt' mfo' mfn', MRw mt mtz mfa' mnd' msc' miu' mnm' mso' mou' mpl' mar' mex' men' mnn' mon' mde' mbt' mfo' mfn' → Q (some (vI (aRefC mt mtz i w 0 1))) (hA, (heapM mtz mt mk mkf mot mox mfa' mnd' miu' mnm' mso' mou' mpl' msc' mar' mex' men' mnn' mon' mde' mbt' mfo' mfn' mma mit mfm msz mim mmo mfi)))
    (q2 : aRefC mt mtz i w 0 1 = 0 → cBest mt mtz i (w - 97) = -1 → ∀ mfa' mnd' msc' miu' mnm' mso' mou' mpl' mar' mex' men' mnn' mon' mde' mbt' mfo' mfn', MRw mt mtz mfa' mnd' msc' miu' mnm' mso' mou' mpl' mar' mex' men' mnn' mon' mde' mbt' mfo' mfn' → Q (some (vI (-3))) (hA, (heapM mtz mt mk mkf mot mox mfa' mnd' miu' mnm' mso' mou' mpl' msc' mar' mex' men' mnn' mon' mde' mbt' mfo' mfn' mma mit mfm msz mim mmo mfi)))
    (q0 : aRefC mt mtz i w 0 1 = 0 → cBest mt mtz i (w - 97) ≠ -1 → ∀ mfa' mnd' msc' miu' mnm' mso' mou' mpl' mar' mex' men' mnn' mon' mde' mbt' mfo' mfn', MRw mt mtz mfa' mnd' msc' miu' mnm' mso' mou' mpl' mar' mex' men' mnn' mon' mde' mbt' mfo' mfn' → Q (some (vI (cED mt mtz i (w - 97) (cBest mt mtz i (w - 97))))) (hA, (heapM ((wrB mt mtz i (w - 97) mma).2.1) (fb mt (wrB mt mtz i (w - 97) mma).1 0 (wrB mt mtz i (w - 97) mma).2.1) (if mk = 20 then 20 else mk + 1) (if mk = 20 then (mkf + 1) % 20 else mkf) (upZ mot at_ mtz) (fb mox (fun q => mt (q - 100 * at_)) (100 * at_) (100 * at_ + mtz)) mfa' mnd' miu' mnm' mso' mou' mpl' msc' mar' mex' men' mnn' mon' mde' mbt' mfo' mfn' ((wrB mt mtz i (w - 97) mma).1) mit mfm msz mim mmo mfi))) : RNd ro (d + 9) 167 [vR 200, vI i, vI w] (hA, (heapM mtz mt mk mkf mot mox mfa mnd miu mnm mso mou mpl msc mar mex men mnn mon mde mbt mfo mfn mma mit mfm msz mim mmo mfi)) Q := by
  have rr := aRefC_rg (tx := mt) (n := mtz) (i := i) (w := w) (what := 0) (bd := 1)
  have bb := cBest_rg (tx := mt) (n := mtz) (i := i) (w := w - 97)
  refine WP_run [] 40 ?_
  refine r_asked (what := 0) (bd := 1) hi hw (Or.inr rfl) (by omega) htz htb hR (fun mfa' mnd' msc' miu' mnm' mso' mou' mpl' mar' mex' men' mnn' mon' mde' mbt' mfo' mfn' hM => ?_)
  have hnd := hM.1.2.1
  by_cases e : aRefC mt mtz i w 0 1 = 0
  · obtain ⟨⟨z1, z2⟩, z3, -⟩ := aRefC_0 e
    obtain ⟨co1, co2⟩ := MRw_ou (MRd_w hM)
    rw [if_pos e]
    refine f2 ?_
    refine WP_run [] 40 ?_
    refine r_bestNow (MRd_w hM) htz (by omega) (by omega) (fun mnn'' mon'' mde'' mfn'' hM2 => ?_)
    refine c2 (fun e2 => ?_) (fun e2 => ?_)
    · obtain ⟨ww, wz⟩ := wrB_all (f0 := mma) htz.1 z1 co2 e2
      refine r_editsBy hM2 htz (by omega) (by omega) (by omega) (fun mnn3 mon3 mde3 mfn3 hM3 hb => ?_)
      have hb' := hb (by omega)
      obtain ⟨-, hS, -, hN, -, ⟨R1, -⟩, -⟩ := id hM3
      have S1 := hS.1
      refine r_remembers (at_ := at_) htz hkf hk hat ?_
      refine r_writesText (nn := nnB mt mtz i (w - 97)) (oo := ooB mt mtz i (w - 97)) htz S1 htb R1.2.2.2.2.1 (fun k a b => ?_) (fun k _ => ooB_rg co2 k) (fun q a b => ?_) wz.2 ?_
      · unfold nnB ooB
        rw [fb_in a (by omega), fb_in a (by omega)]
        exact hb' k a b
      · rw [ww q a b]
        have j0 := (wr_0 (tx := mt) (nn := nnB mt mtz i (w - 97)) (oo := ooB mt mtz i (w - 97)) (f0 := mma) (fun k _ => (ooB_rg co2 k).1) q.toNat).2.1
        constructor
        · rintro ⟨y1, y2⟩
          exact ⟨by omega, by rw [(hN _ j0 (by omega)).2.2]; exact y2⟩
        · rintro ⟨y1, y2⟩
          exact ⟨by omega, by rw [← (hN _ j0 (by omega)).2.2]; exact y2⟩
      · exact ri (ri (q0 e e2 _ _ _ _ _ _ _ _ _ _ _ _ _ _ _ _ _ hM3))
    · exact ri (ri (q2 e (by omega) _ _ _ _ _ _ _ _ _ _ _ _ _ _ _ _ _ hM2))
  · rw [if_neg e]
    refine t2 ?_
    exact ri (q1 e _ _ _ _ _ _ _ _ _ _ _ _ _ _ _ _ _ (MRd_w hM))
end RENM
