/-! ===== the best plan, easy letters, what is caught ===== -/
def bst (E : Int → Int) (l0 : Int) : Nat → Int × Int
  | 0 => (-1, l0)
  | p + 1 => if E p ≠ -1 ∧ ((bst E l0 p).1 = -1 ∨ E p < (bst E l0 p).2) then ((p : Int), E p) else bst E l0 p
set_option maxRecDepth 100000 in
set_option maxHeartbeats 4000000 in
theorem bst_st {E : Int → Int} {l0 p : Int} (h : 0 ≤ p) : bst E l0 (p + 1).toNat = if E p ≠ -1 ∧ ((bst E l0 p.toNat).1 = -1 ∨ E p < (bst E l0 p.toNat).2) then (p, E p) else bst E l0 p.toNat := by
  rw [show (p + 1).toNat = p.toNat + 1 by omega]
  show (if E ((p.toNat : Nat) : Int) ≠ -1 ∧ ((bst E l0 p.toNat).1 = -1 ∨ E ((p.toNat : Nat) : Int) < (bst E l0 p.toNat).2) then (((p.toNat : Nat) : Int), E ((p.toNat : Nat) : Int)) else bst E l0 p.toNat) = _
  rw [show ((p.toNat : Nat) : Int) = p by omega]
set_option maxRecDepth 100000 in
set_option maxHeartbeats 4000000 in
theorem bst_in (E : Int → Int) (l0 : Int) : ∀ n : Nat, ((bst E l0 n).1 = -1 ∧ (bst E l0 n).2 = l0) ∨ (0 ≤ (bst E l0 n).1 ∧ (bst E l0 n).1 < n ∧ (bst E l0 n).2 = E (bst E l0 n).1 ∧ E (bst E l0 n).1 ≠ -1)
  | 0 => Or.inl ⟨rfl, rfl⟩
  | p + 1 => by
    rcases bst_in E l0 p with ⟨h1, h2⟩ | ⟨h1, h2, h3, h4⟩
    all_goals
      by_cases hc : E p ≠ -1 ∧ ((bst E l0 p).1 = -1 ∨ E p < (bst E l0 p).2)
      · have e : bst E l0 (p + 1) = ((p : Int), E p) := if_pos hc
        rw [e]
        exact Or.inr ⟨by omega, by omega, rfl, hc.1⟩
      · have e : bst E l0 (p + 1) = bst E l0 p := if_neg hc
        rw [e]
        first
          | exact Or.inl ⟨h1, h2⟩
          | exact Or.inr ⟨h1, by omega, h3, h4⟩
set_option maxRecDepth 100000 in
set_option maxHeartbeats 4000000 in
theorem bst_l0 (E : Int → Int) (l0 l1 : Int) : ∀ n : Nat, (bst E l0 n).1 = (bst E l1 n).1
  | 0 => rfl
  | p + 1 => by
    have ih := bst_l0 E l0 l1 p
    have h0 := bst_in E l0 p
    have h1 := bst_in E l1 p
    show (if E p ≠ -1 ∧ ((bst E l0 p).1 = -1 ∨ E p < (bst E l0 p).2) then ((p : Int), E p) else bst E l0 p).1 = (if E p ≠ -1 ∧ ((bst E l1 p).1 = -1 ∨ E p < (bst E l1 p).2) then ((p : Int), E p) else bst E l1 p).1
    have hc : (E p ≠ -1 ∧ ((bst E l0 p).1 = -1 ∨ E p < (bst E l0 p).2)) ↔ (E p ≠ -1 ∧ ((bst E l1 p).1 = -1 ∨ E p < (bst E l1 p).2)) := by
      rcases h0 with ⟨a1, a2⟩ | ⟨a1, a2, a3, a4⟩
      · rw [a1, show (bst E l1 p).1 = -1 by omega]
        simp
      · rcases h1 with ⟨b1, b2⟩ | ⟨b1, b2, b3, b4⟩
        · omega
        · rw [a3, b3, ih]
    by_cases h : E p ≠ -1 ∧ ((bst E l0 p).1 = -1 ∨ E p < (bst E l0 p).2)
    · rw [if_pos h, if_pos (hc.mp h)]
    · rw [if_neg h, if_neg (fun z => h (hc.mpr z))]
      exact ih
noncomputable def cBest (tx : Int → Int) (n i w : Int) : Int := (bst (cED tx n i w) (-1) (3 : Int).toNat).1
noncomputable def cLst (tx : Int → Int) (n i w : Int) : Int := (bst (cED tx n i w) (-1) (3 : Int).toNat).2
set_option maxRecDepth 100000 in
set_option maxHeartbeats 4000000 in
theorem cBest_rg {tx : Int → Int} {n i w : Int} : (cBest tx n i w = -1 ∧ cLst tx n i w = -1) ∨ (0 ≤ cBest tx n i w ∧ cBest tx n i w < 3 ∧ cLst tx n i w = cED tx n i w (cBest tx n i w) ∧ cED tx n i w (cBest tx n i w) ≠ -1) := bst_in (cED tx n i w) (-1) (3 : Int).toNat
def esy (E : Int → Int) : Nat → Int
  | 0 => 0
  | p + 1 => if E p ≠ -1 then orZ (esy E p) (shlZ 1 p) else esy E p
set_option maxRecDepth 100000 in
set_option maxHeartbeats 4000000 in
theorem esy_rg (E : Int → Int) : ∀ n : Nat, rg (esy E n)
  | 0 => by show rg 0; unfold rg; omega
  | p + 1 => by
    show rg (if E p ≠ -1 then orZ (esy E p) (shlZ 1 p) else esy E p)
    split
    · exact rg_orZ _ _
    · exact esy_rg E p
set_option maxRecDepth 100000 in
set_option maxHeartbeats 4000000 in
theorem esy_st {E : Int → Int} {p : Int} (h : 0 ≤ p) : esy E (p + 1).toNat = if E p ≠ -1 then orZ (esy E p.toNat) (shlZ 1 p) else esy E p.toNat := by
  rw [show (p + 1).toNat = p.toNat + 1 by omega]
  show (if E ((p.toNat : Nat) : Int) ≠ -1 then orZ (esy E p.toNat) (shlZ 1 ((p.toNat : Nat) : Int)) else esy E p.toNat) = _
  rw [show ((p.toNat : Nat) : Int) = p by omega]
set_option maxRecDepth 100000 in
set_option maxHeartbeats 4000000 in
theorem orZ_0 {x : Int} (h : rg x) : orZ x 0 = x := by
  unfold orZ
  have e : iI x ||| iI 0 = iI x := by
    refine Int32.toBitVec_inj.mp ?_
    show (iI x).toBitVec ||| (0 : BitVec 32) = _
    simp
  rw [e]
  unfold rg at h
  unfold iI
  exact Int32.toInt_ofInt_of_le (by omega) (by omega)
/-- the first use that is caught -/
def cCa (tx : Int → Int) (n i w : Int) : Int := lkN (fun k => decide (cIU tx n k = 1 ∧ cBo tx n (cNN tx n i w 0) k (cOU tx n k) ≠ cBT tx n k)) (cND tx n - 0).toNat 0
def cCb (tx : Int → Int) (n i w : Int) : Int := if cCa tx n i w = -1 then -1 else cBo tx n (cNN tx n i w 0) (cCa tx n i w) (cOU tx n (cCa tx n i w))
set_option maxRecDepth 100000 in
set_option maxHeartbeats 4000000 in
theorem cED_rg {tx : Int → Int} {n i w p : Int} (hn : 0 ≤ cND tx n ∧ cND tx n ≤ 60) (hO : ∀ k, 0 ≤ k → k < cND tx n → 0 ≤ cOU tx n k ∧ cOU tx n k ≤ 3) : -1 ≤ cED tx n i w p ∧ cED tx n i w p ≤ 300 := by
  have key : 0 * ((cND tx n).toNat : Int) ≤ cEt tx n (cNN tx n i w p) (cOO tx n p (cNN tx n i w p)) ∧ cEt tx n (cNN tx n i w p) (cOO tx n p (cNN tx n i w p)) ≤ 5 * ((cND tx n).toNat : Int) := by
    unfold cEt
    refine sumF_rg _ (fun k a b => ?_)
    have h1 := hO k a (by omega)
    have h2 := loF_rg (cBo tx n (cNN tx n i w p) k) (cBT tx n k)
    have h3 : 0 ≤ cOO tx n p (cNN tx n i w p) k ∧ cOO tx n p (cNN tx n i w p) k ≤ 3 := by
      unfold cOO
      split
      · exact h1
      · rename_i hh
        have : cLo tx n (cNN tx n i w p) k ≠ -1 := fun z => hh (Or.inr (Or.inr (Or.inr z)))
        unfold cLo at this ⊢
        omega
    have h4 : 0 ≤ (if cNN tx n i w p k ≠ cNM tx n k then (1:Int) else 0) ∧ (if cNN tx n i w p k ≠ cNM tx n k then (1:Int) else 0) ≤ 1 := ite_rg (by omega) (by omega)
    have h5 : 0 ≤ (if 0 ≤ cOO tx n p (cNN tx n i w p) k - cOU tx n k then cOO tx n p (cNN tx n i w p) k - cOU tx n k else -(cOO tx n p (cNN tx n i w p) k - cOU tx n k)) ∧ (if 0 ≤ cOO tx n p (cNN tx n i w p) k - cOU tx n k then cOO tx n p (cNN tx n i w p) k - cOU tx n k else -(cOO tx n p (cNN tx n i w p) k - cOU tx n k)) ≤ 3 := by
      split <;> omega
    omega
  by_cases h : (¬ (p = 2 ∧ spr (cND tx n) (cNM tx n) = -1)) ∧ cWE tx n (cNN tx n i w p) (cOO tx n p (cNN tx n i w p)) ∧ cBy tx n (cOO tx n p (cNN tx n i w p)) ≤ 100
  · rw [cED_y h]; omega
  · rw [cED_n h]; omega
section BESTC
variable {ro : Nat × (Int → Int)} {d : Nat} {Q : Option AV → AH → Prop} {hB : List AC} {tb : Int → Int} {tz : Int} {tk : Int → Int → Int} {tks : Int → Int} {tc tt : Int} {iu nm ou so pl : Int → Int} {nd : Int} {pa ba de en : Int → Int} {sc rsz fp ss cu os : Int} {a1 a2 a3 : Int → Int} {a4 : Int → Int64} {a5 b1 b2 b3 : Int → Int} {b4 : Int → Int64} {b5 : Int → Int} {le fi : Int} {xi0 : Int → Int} {xf0 xz0 xl0 : Int} {xi1 : Int → Int} {xf1 xz1 xl1 : Int} {xi2 : Int → Int} {xf2 xz2 xl2 : Int} {xi3 : Int → Int} {xf3 xz3 xl3 : Int}
set_option maxRecDepth 100000 in
set_option maxHeartbeats 4000000 in
theorem CRd_ou (hC : CRd tb tz fp nd sc rsz iu nm so ou pl pa ba en a1 a2 a3 a4 a5) : (0 ≤ cND tb tz ∧ cND tb tz ≤ 60) ∧ ∀ k, 0 ≤ k → k < cND tb tz → 0 ≤ cOU tb tz k ∧ cOU tb tz k ≤ 3 := by
  obtain ⟨⟨hfp, hnd, hsc, hrs⟩, hS, hA, hN, hW, hTa, hK, hR0, h1, h2, h3, h5⟩ := hC
  rw [← hnd]
  refine ⟨hS.1, fun k a b => ?_⟩
  rw [← (hW k a b).2.1]
  exact h2 k
set_option maxRecDepth 100000 in
set_option maxHeartbeats 4000000 in
theorem t_bestPlan {i w : Int} (hC : CRd tb tz fp nd sc rsz iu nm so ou pl pa ba en a1 a2 a3 a4 a5) (htz : 0 ≤ tz ∧ tz ≤ 100) (g1 : rI b1 0 25) (g2 : rI b2 0 3) (g3 : rI b3 (-1) 59) (g5 : rI b5 (-1) 59) (hi : 0 ≤ i ∧ i < nd) (hd : cIU tb tz i = 0) (hw : 0 ≤ w ∧ w < 26)
    (hQ : ∀ b1' b2' b3' b4' b5', rI b1' 0 25 → rI b2' 0 3 → rI b3' (-1) 59 → rI b5' (-1) 59 → Q (some (vI (cBest tb tz i w))) ((heapC tb tz tk tks tc tt iu nm ou so pl nd pa ba de en sc rsz fp ss cu os a1 a2 a3 a4 a5 b1' b2' b3' b4' b5' (cLst tb tz i w) fi xi0 xf0 xz0 xl0 xi1 xf1 xz1 xl1 xi2 xf2 xz2 xl2 xi3 xf3 xz3 xl3), hB)) : RNd ro (d + 5) 14 [vR 41, vI i, vI w] ((heapC tb tz tk tks tc tt iu nm ou so pl nd pa ba de en sc rsz fp ss cu os a1 a2 a3 a4 a5 b1 b2 b3 b4 b5 le fi xi0 xf0 xz0 xl0 xi1 xf1 xz1 xl1 xi2 xf2 xz2 xl2 xi3 xf3 xz3 xl3), hB) Q := by
  obtain ⟨co1, co2⟩ := CRd_ou hC
  have main : ∀ p : Int, ∀ (best : Int) (le b1 b2 b3 b4 b5) (j : AV), 0 ≤ p → p ≤ 3 → rI b1 0 25 → rI b2 0 3 → rI b3 (-1) 59 → rI b5 (-1) 59 → (best, le) = bst (cED tb tz i w) (-1) p.toNat → WPm ro (d + 4) (RNd ro (d + 4)) 14 0 0 Q 10 [vR 41, vI i, vI w, vI best, vI p, j] [] ((heapC tb tz tk tks tc tt iu nm ou so pl nd pa ba de en sc rsz fp ss cu os a1 a2 a3 a4 a5 b1 b2 b3 b4 b5 le fi xi0 xf0 xz0 xl0 xi1 xf1 xz1 xl1 xi2 xf2 xz2 xl2 xi3 xf3 xz3 xl3), hB) 0 0 := by
    refine loopUp 3 fun p ih best le b1 b2 b3 b4 b5 j p0 p1 g1 g2 g3 g5 hbe => ?_
    have hb1 : best = (bst (cED tb tz i w) (-1) p.toNat).1 := congrArg Prod.fst hbe
    have hb2 : le = (bst (cED tb tz i w) (-1) p.toNat).2 := congrArg Prod.snd hbe
    have hin := bst_in (cED tb tz i w) (-1) p.toNat
    rw [← hb1, ← hb2] at hin
    have hst := bst_st (E := cED tb tz i w) (l0 := -1) p0
    rw [← hbe] at hst
    refine WP_first [10] 60 ?_
    refine c2 (fun q => ?_) (fun q => ?_)
    · have e : p = 3 := by omega
      subst e
      have hq := hQ b1 b2 b3 b4 b5 g1 g2 g3 g5
      unfold cBest cLst at hq
      rw [← hbe] at hq
      exact ri hq
    · refine t_attempt hC htz g1 g2 g3 g5 hi hd hw (by omega) (fun b1' b2' b3' b4' b5' k1 k2 k3 k5 _ => ?_)
      have er := cED_rg (i := i) (w := w) (p := p) co1 co2
      have er2 := cED_rg (i := i) (w := w) (p := best) co1 co2
      refine c2 (fun q2 => ?_) (fun q2 => ?_)
      · refine ih (by omega) _ _ _ _ _ _ _ _ (by omega) (by omega) k1 k2 k3 k5 ?_
        rw [hst, if_neg (fun z => z.1 q2)]
      · refine c2 (fun q3 => ?_) (fun q3 => ?_)
        · refine ih (by omega) _ _ _ _ _ _ _ _ (by omega) (by omega) k1 k2 k3 k5 ?_
          rw [hst, if_pos ⟨q2, Or.inl q3⟩]
        · refine c2 (fun q4 => ?_) (fun q4 => ?_)
          · refine ih (by omega) _ _ _ _ _ _ _ _ (by omega) (by omega) k1 k2 k3 k5 ?_
            rw [hst, if_neg (fun z => z.2.elim q3 (fun z => by have : cED tb tz i w p < le := z; omega))]
          · refine ih (by omega) _ _ _ _ _ _ _ _ (by omega) (by omega) k1 k2 k3 k5 ?_
            rw [hst, if_pos ⟨q2, Or.inr (show cED tb tz i w p < le by omega)⟩]
  refine WP_run [10] 20 ?_
  exact main 0 (-1) (-1) b1 b2 b3 b4 b5 _ (by omega) (by omega) g1 g2 g3 g5 rfl
set_option maxRecDepth 100000 in
set_option maxHeartbeats 4000000 in
theorem t_easyLetters {i : Int} (hC : CRd tb tz fp nd sc rsz iu nm so ou pl pa ba en a1 a2 a3 a4 a5) (htz : 0 ≤ tz ∧ tz ≤ 100) (g1 : rI b1 0 25) (g2 : rI b2 0 3) (g3 : rI b3 (-1) 59) (g5 : rI b5 (-1) 59) (hi : 0 ≤ i ∧ i < nd) (hd : cIU tb tz i = 0)
    (hQ : ∀ b1' b2' b3' b4' b5', rI b1' 0 25 → rI b2' 0 3 → rI b3' (-1) 59 → rI b5' (-1) 59 → Q (some (vI (esy (fun w => cED tb tz i w 0) (26 : Int).toNat))) ((heapC tb tz tk tks tc tt iu nm ou so pl nd pa ba de en sc rsz fp ss cu os a1 a2 a3 a4 a5 b1' b2' b3' b4' b5' le fi xi0 xf0 xz0 xl0 xi1 xf1 xz1 xl1 xi2 xf2 xz2 xl2 xi3 xf3 xz3 xl3), hB)) : RNd ro (d + 5) 16 [vR 41, vI i] ((heapC tb tz tk tks tc tt iu nm ou so pl nd pa ba de en sc rsz fp ss cu os a1 a2 a3 a4 a5 b1 b2 b3 b4 b5 le fi xi0 xf0 xz0 xl0 xi1 xf1 xz1 xl1 xi2 xf2 xz2 xl2 xi3 xf3 xz3 xl3), hB) Q := by
  obtain ⟨co1, co2⟩ := CRd_ou hC
  have main : ∀ p : Int, ∀ (x : Int) (b1 b2 b3 b4 b5), 0 ≤ p → p ≤ 26 → rI b1 0 25 → rI b2 0 3 → rI b3 (-1) 59 → rI b5 (-1) 59 → x = esy (fun w => cED tb tz i w 0) p.toNat → WPm ro (d + 4) (RNd ro (d + 4)) 16 0 0 Q 4 [vR 41, vI i, vI x, vI p] [] ((heapC tb tz tk tks tc tt iu nm ou so pl nd pa ba de en sc rsz fp ss cu os a1 a2 a3 a4 a5 b1 b2 b3 b4 b5 le fi xi0 xf0 xz0 xl0 xi1 xf1 xz1 xl1 xi2 xf2 xz2 xl2 xi3 xf3 xz3 xl3), hB) 0 0 := by
    refine loopUp 26 fun p ih x b1 b2 b3 b4 b5 p0 p1 g1 g2 g3 g5 hx => ?_
    have hst := esy_st (E := fun w => cED tb tz i w 0) p0
    rw [← hx] at hst
    refine WP_first [4] 60 ?_
    refine c2 (fun q => ?_) (fun q => ?_)
    · have e : p = 26 := by omega
      subst e
      rw [hx]
      exact ri (hQ b1 b2 b3 b4 b5 g1 g2 g3 g5)
    · refine t_attempt hC htz g1 g2 g3 g5 hi hd ⟨p0, by omega⟩ (by omega) (fun b1' b2' b3' b4' b5' k1 k2 k3 k5 _ => ?_)
      have er := cED_rg (i := i) (w := p) (p := 0) co1 co2
      refine c2 (fun q2 => ?_) (fun q2 => ?_)
      · refine ih (by omega) _ _ _ _ _ _ (by omega) (by omega) k1 k2 k3 k5 ?_
        rw [hst, if_neg (fun z => z q2)]
      · refine ih (by omega) _ _ _ _ _ _ (by omega) (by omega) k1 k2 k3 k5 ?_
        rw [hst, if_pos q2]
  exact WP_run [4] 20 (main 0 0 b1 b2 b3 b4 b5 (by omega) (by omega) g1 g2 g3 g5 rfl)
set_option maxRecDepth 100000 in
set_option maxHeartbeats 4000000 in
theorem t_firstCaught {i w : Int} (hC : CRd tb tz fp nd sc rsz iu nm so ou pl pa ba en a1 a2 a3 a4 a5) (g1 : rI b1 0 25) (g2 : rI b2 0 3) (g3 : rI b3 (-1) 59) (g5 : rI b5 (-1) 59) (hi : 0 ≤ i ∧ i < nd) (hd : cIU tb tz i = 0) (hw : 0 ≤ w ∧ w < 26)
    (hQ : ∀ b1' b2' b3' b4' b5', rI b1' 0 25 → rI b2' 0 3 → rI b3' (-1) 59 → rI b5' (-1) 59 → (cCa tb tz i w ≠ -1 → b3' (cCa tb tz i w) = cCb tb tz i w) → Q (some (vI (cCa tb tz i w))) ((heapC tb tz tk tks tc tt iu nm ou so pl nd pa ba de en sc rsz fp ss cu os a1 a2 a3 a4 a5 b1' b2' b3' b4' b5' le fi xi0 xf0 xz0 xl0 xi1 xf1 xz1 xl1 xi2 xf2 xz2 xl2 xi3 xf3 xz3 xl3), hB)) : RNd ro (d + 3) 17 [vR 41, vI i, vI w] ((heapC tb tz tk tks tc tt iu nm ou so pl nd pa ba de en sc rsz fp ss cu os a1 a2 a3 a4 a5 b1 b2 b3 b4 b5 le fi xi0 xf0 xz0 xl0 xi1 xf1 xz1 xl1 xi2 xf2 xz2 xl2 xi3 xf3 xz3 xl3), hB) Q := by
  obtain ⟨⟨hfp, hnd, hsc, hrs⟩, hS, hA, hN, hW, hTa, hK, hR0, h1, h2, h3, h5⟩ := id hC
  obtain ⟨S1, S2, S3, S4⟩ := id hS
  have hSc : TS (cND tb tz) (cSC tb tz) (cIU tb tz) (cSO tb tz) (cAR tb tz) (cEX tb tz) := by rw [← hnd, ← hsc]; exact hS
  have hBT : ∀ k, 0 ≤ k → k < nd → cBT tb tz k = -1 ∨ (0 ≤ cBT tb tz k ∧ cBT tb tz k < nd ∧ cIU tb tz (cBT tb tz k) = 0) := fun k a b => by
    rcases cBT_dl hSc a (by omega) with e | ⟨e1, e2, e3, -⟩
    · exact Or.inl e
    · exact Or.inr ⟨e1, by omega, e3⟩
  have k1 : rI (cpZ a1 b1 0 0 60) 0 25 := rI_cp h1 g1
  have k2 : rI (cpZ a2 b2 0 0 60) 0 3 := rI_cp h2 g2
  have m1' : ∀ k, 0 ≤ k → k < nd → cpZ a1 b1 0 0 60 k = cNM tb tz k := fun k a b => by rw [cpZ_60 a (by omega)]; exact (hW k a b).1
  have m2' : ∀ k, 0 ≤ k → k < nd → cpZ a2 b2 0 0 60 k = cOU tb tz k := fun k a b => by rw [cpZ_60 a (by omega)]; exact (hW k a b).2.1
  have gf : rI (fb (cpZ a1 b1 0 0 60) (fun k => if cBT tb tz k ≠ -1 ∧ cFM tb tz (cNM tb tz) (cBT tb tz k) = cFM tb tz (cNM tb tz) i then w else cpZ a1 b1 0 0 60 k) 0 nd) 0 25 := rI_fb k1 (fun k a b => ite_rg (by omega) (k1 k))
  have ef : ∀ k, 0 ≤ k → k < nd → fb (cpZ a1 b1 0 0 60) (fun k => if cBT tb tz k ≠ -1 ∧ cFM tb tz (cNM tb tz) (cBT tb tz k) = cFM tb tz (cNM tb tz) i then w else cpZ a1 b1 0 0 60 k) 0 nd k = cNN tb tz i w 0 k := by
    intro k a b
    rw [fb_in a b, m1' k a b]
    unfold cNN cRn
    rw [if_neg (show ¬ (0:Int) = 2 by omega)]
  refine WP_run [25] 40 ?_
  refine t_takeSpelling ?_
  refine t_giveName (IU := cIU tb tz) (F := cFM tb tz (cNM tb tz)) (BT := cBT tb tz) S1 hi hd (fun k a b => (hW k a b).2.2) hBT hK ?_
  generalize fb (cpZ a1 b1 0 0 60) (fun k => if cBT tb tz k ≠ -1 ∧ cFM tb tz (cNM tb tz) (cBT tb tz k) = cFM tb tz (cNM tb tz) i then w else cpZ a1 b1 0 0 60 k) 0 nd = f at gf ef ⊢
  have tail : ∀ t, rI t (-1) 59 → (∀ s w, 0 ≤ s → s < sc → 0 ≤ w → w < 26 → t (s * 26 + w) = OW nd (cIU tb tz) (cSO tb tz) (cEX tb tz) f s w) → WPm ro (d + 2) (RNd ro (d + 2)) 17 0 0 Q 25 [vR 41, vI i, vI w] [] ((heapC tb tz tk tks tc tt iu nm ou so pl nd pa ba de en sc rsz fp ss cu os a1 a2 a3 a4 a5 f (cpZ a2 b2 0 0 60) b3 b4 t le fi xi0 xf0 xz0 xl0 xi1 xf1 xz1 xl1 xi2 xf2 xz2 xl2 xi3 xf3 xz3 xl3), hB) 0 0 := by
    intro t ht hT
    refine WP_run [] 40 ?_
    refine t_bindAll_then hS hA gf k2 hT ht ?_
    have eB : ∀ k o, 0 ≤ k → k < nd → lkp (cAR tb tz) (OW nd (cIU tb tz) (cSO tb tz) (cEX tb tz) f) (f k) 10 (goOut (cAR tb tz) o.toNat (cSO tb tz k)) = cBo tb tz (cNN tb tz i w 0) k o := by
      intro k o a b
      have e := BN_ext (o := o) (w := f k) hS ef (S3 k a b).2.2
      unfold cBo
      rw [← hnd, ← ef k a b, ← e]
      rfl
    have e3 : ∀ k, 0 ≤ k → k < nd → fb b3 (fun k => if cIU tb tz k = 1 then lkp (cAR tb tz) (OW nd (cIU tb tz) (cSO tb tz) (cEX tb tz) f) (f k) 10 (goOut (cAR tb tz) (cpZ a2 b2 0 0 60 k).toNat (cSO tb tz k)) else k) 0 nd k = if cIU tb tz k = 1 then cBo tb tz (cNN tb tz i w 0) k (cOU tb tz k) else k := by
      intro k a b
      rw [fb_in a b, eB k _ a b, m2' k a b]
    have g3' : rI (fb b3 (fun k => if cIU tb tz k = 1 then lkp (cAR tb tz) (OW nd (cIU tb tz) (cSO tb tz) (cEX tb tz) f) (f k) 10 (goOut (cAR tb tz) (cpZ a2 b2 0 0 60 k).toNat (cSO tb tz k)) else k) 0 nd) (-1) 59 := by
      refine rI_fb g3 (fun k a b => ite_rg ?_ (by omega))
      rcases BN_dl (nn := f) (o := cpZ a2 b2 0 0 60 k) (w := f k) hS (S3 k a b).2.2 with e | ⟨z1, z2, -⟩
      · exact (show -1 ≤ BN nd (cIU tb tz) (cSO tb tz) (cAR tb tz) (cEX tb tz) f (cSO tb tz k) (cpZ a2 b2 0 0 60 k) (f k) ∧ BN nd (cIU tb tz) (cSO tb tz) (cAR tb tz) (cEX tb tz) f (cSO tb tz k) (cpZ a2 b2 0 0 60 k) (f k) ≤ 59 by rw [e]; omega)
      · exact (show -1 ≤ BN nd (cIU tb tz) (cSO tb tz) (cAR tb tz) (cEX tb tz) f (cSO tb tz k) (cpZ a2 b2 0 0 60 k) (f k) ∧ BN nd (cIU tb tz) (cSO tb tz) (cAR tb tz) (cEX tb tz) f (cSO tb tz k) (cpZ a2 b2 0 0 60 k) (f k) ≤ 59 by omega)
    generalize fb b3 (fun k => if cIU tb tz k = 1 then lkp (cAR tb tz) (OW nd (cIU tb tz) (cSO tb tz) (cEX tb tz) f) (f k) 10 (goOut (cAR tb tz) (cpZ a2 b2 0 0 60 k).toNat (cSO tb tz k)) else k) 0 nd = g at e3 g3' ⊢
    have eBT : ∀ k, 0 ≤ k → k < nd → cIU tb tz k ≠ 1 → cBT tb tz k = k := fun k a b z => by unfold cBT; rw [if_neg z]
    refine t_firstRebound S1 h3 g3' ?_
    have ec : lkN (fun k => decide (g k ≠ a3 k)) (nd - 0).toNat 0 = cCa tb tz i w := by
      unfold cCa
      rw [← hnd]
      refine lkN_ext _ _ (fun k a b => ?_)
      have b' : k < nd := by omega
      show decide (g k ≠ a3 k) = decide (cIU tb tz k = 1 ∧ cBo tb tz (cNN tb tz i w 0) k (cOU tb tz k) ≠ cBT tb tz k)
      rw [e3 k a b', (hW k a b').2.2]
      by_cases u : cIU tb tz k = 1
      · rw [if_pos u]
        simp [u]
      · rw [if_neg u, eBT k a b' u]
        simp [u]
    rw [ec]
    refine ri (hQ f _ g b4 t gf k2 g3' ht (fun hne => ?_))
    have hin := lkN_in (fun k => decide (cIU tb tz k = 1 ∧ cBo tb tz (cNN tb tz i w 0) k (cOU tb tz k) ≠ cBT tb tz k)) (cND tb tz - 0).toNat 0
    have hin2 : 0 ≤ cCa tb tz i w ∧ cCa tb tz i w < 0 + ((cND tb tz - 0).toNat : Int) ∧ cIU tb tz (cCa tb tz i w) = 1 := by
      rcases hin with ⟨z1, -⟩ | ⟨z1, z2, z3, -⟩
      · exact absurd z1 hne
      · exact ⟨z1, z2, (of_decide_eq_true z3).1⟩
    unfold cCb
    rw [if_neg hne, e3 _ hin2.1 (by omega), if_pos hin2.2.2]
  refine t_fillTable_then hS hA gf g5 (fun t ht hT => ⟨fun _ => ?_, fun _ => ?_⟩)
  · exact tail t ht hT
  · exact tail t ht hT
end BESTC
section BESTM
variable {ro : Nat × (Int → Int)} {d : Nat} {Q : Option AV → AH → Prop} {hA : List AC} {mtz : Int} {mt : Int → Int} {mk mkf : Int} {mot mox : Int → Int} {mfa mnd : Int} {miu mnm mso mou mpl : Int → Int} {msc : Int} {mar mex men mnn mon mde mbt mfo mfn mma mit mfm msz mim mmo : Int → Int} {mfi : Int}
set_option maxRecDepth 100000 in
set_option maxHeartbeats 4000000 in
theorem MRw_ou (hM : MRw mt mtz mfa mnd msc miu mnm mso mou mpl mar mex men mnn mon mde mbt mfo mfn) : (0 ≤ cND mt mtz ∧ cND mt mtz ≤ 60) ∧ ∀ k, 0 ≤ k → k < cND mt mtz → 0 ≤ cOU mt mtz k ∧ cOU mt mtz k ≤ 3 := by
  obtain ⟨⟨hfa, hnd, hsc⟩, hS, hA', hN, hW, ⟨R1, R2, R3, R4, R5, R6, R7⟩, hfr⟩ := hM
  obtain ⟨r1, r2, r3, r4, -⟩ := R1
  rw [← hnd]
  refine ⟨hS.1, fun k a b => ?_⟩
  rw [← (hN k a b).2.1]
  exact r4 k
set_option maxRecDepth 100000 in
set_option maxHeartbeats 4000000 in
theorem r_bestNow {i w : Int} (hM : MRw mt mtz mfa mnd msc miu mnm mso mou mpl mar mex men mnn mon mde mbt mfo mfn) (htz : 0 ≤ mtz ∧ mtz ≤ 100) (hi : 0 ≤ i ∧ i < mnd) (hw : 0 ≤ w ∧ w < 26)
    (hQ : ∀ mnn' mon' mde' mfn', MRw mt mtz mfa mnd msc miu mnm mso mou mpl mar mex men mnn' mon' mde' mbt mfo mfn' → Q (some (vI (cBest mt mtz i w))) (hA, (heapM mtz mt mk mkf mot mox mfa mnd miu mnm mso mou mpl msc mar mex men mnn' mon' mde' mbt mfo mfn' mma mit mfm msz mim mmo mfi))) : RNd ro (d + 7) 155 [vR 200, vI i, vI w] (hA, (heapM mtz mt mk mkf mot mox mfa mnd miu mnm mso mou mpl msc mar mex men mnn mon mde mbt mfo mfn mma mit mfm msz mim mmo mfi)) Q := by
  obtain ⟨co1, co2⟩ := MRw_ou hM
  have main : ∀ p : Int, ∀ (best least : Int) (mnn mon mde mfn) (j6 j7 : AV), 0 ≤ p → p ≤ 3 → MRw mt mtz mfa mnd msc miu mnm mso mou mpl mar mex men mnn mon mde mbt mfo mfn → (best, least) = bst (cED mt mtz i w) 0 p.toNat → WPm ro (d + 6) (RNd ro (d + 6)) 155 0 0 Q 8 [vR 200, vI i, vI w, vI best, vI least, vI p, j6, j7] [] (hA, (heapM mtz mt mk mkf mot mox mfa mnd miu mnm mso mou mpl msc mar mex men mnn mon mde mbt mfo mfn mma mit mfm msz mim mmo mfi)) 0 0 := by
    refine loopUp 3 fun p ih best least mnn mon mde mfn j6 j7 p0 p1 hM hbe => ?_
    have hb1 : best = (bst (cED mt mtz i w) 0 p.toNat).1 := congrArg Prod.fst hbe
    have hb2 : least = (bst (cED mt mtz i w) 0 p.toNat).2 := congrArg Prod.snd hbe
    have hin := bst_in (cED mt mtz i w) 0 p.toNat
    rw [← hb1, ← hb2] at hin
    have hst := bst_st (E := cED mt mtz i w) (l0 := 0) p0
    rw [← hbe] at hst
    refine WP_first [8, 47] 60 ?_
    refine c2 (fun q => ?_) (fun q => ?_)
    · have e : p = 3 := by omega
      subst e
      have hq := hQ mnn mon mde mfn hM
      unfold cBest at hq
      rw [bst_l0 _ (-1) 0, ← hbe] at hq
      exact ri hq
    · refine r_editsBy hM htz hi hw (by omega) (fun mnn' mon' mde' mfn' hM2 _ => ?_)
      have er := cED_rg (i := i) (w := w) (p := p) co1 co2
      have er2 := cED_rg (i := i) (w := w) (p := best) co1 co2
      have no : ¬ (cED mt mtz i w p ≠ -1 ∧ (best = -1 ∨ cED mt mtz i w p < least)) → WPm ro (d + 6) (RNd ro (d + 6)) 155 0 0 Q 47 [vR 200, vI i, vI w, vI best, vI least, vI p, vI (cED mt mtz i w p), j7] [vI 0] (hA, (heapM mtz mt mk mkf mot mox mfa mnd miu mnm mso mou mpl msc mar mex men mnn' mon' mde' mbt mfo mfn' mma mit mfm msz mim mmo mfi)) 0 0 := by
        intro z
        refine WP_run [8] 60 ?_
        refine t1 ?_
        refine t1 ?_
        refine ih (by omega) _ _ _ _ _ _ _ _ (by omega) (by omega) hM2 ?_
        rw [hst, if_neg z]
      have yes : (cED mt mtz i w p ≠ -1 ∧ (best = -1 ∨ cED mt mtz i w p < least)) → WPm ro (d + 6) (RNd ro (d + 6)) 155 0 0 Q 47 [vR 200, vI i, vI w, vI best, vI least, vI p, vI (cED mt mtz i w p), j7] [vI 1] (hA, (heapM mtz mt mk mkf mot mox mfa mnd miu mnm mso mou mpl msc mar mex men mnn' mon' mde' mbt mfo mfn' mma mit mfm msz mim mmo mfi)) 0 0 := by
        intro z
        refine WP_run [8] 60 ?_
        refine f1 ?_
        refine f1 ?_
        refine ih (by omega) _ _ _ _ _ _ _ _ (by omega) (by omega) hM2 ?_
        rw [hst, if_pos z]
      refine c2 (fun q2 => ?_) (fun q2 => ?_)
      · exact no (fun z => z.1 q2)
      · refine c2 (fun q3 => ?_) (fun q3 => ?_)
        · exact yes ⟨q2, Or.inl q3⟩
        · refine c2 (fun q4 => ?_) (fun q4 => ?_)
          · exact no (fun z => z.2.elim q3 (fun z => by omega))
          · exact yes ⟨q2, Or.inr (by omega)⟩
  exact WP_run [8] 20 (main 0 (-1) 0 mnn mon mde mfn _ _ (by omega) (by omega) hM rfl)
set_option maxRecDepth 100000 in
set_option maxHeartbeats 4000000 in
theorem r_planOf {i w what : Int} (hM : MRw mt mtz mfa mnd msc miu mnm mso mou mpl mar mex men mnn mon mde mbt mfo mfn) (htz : 0 ≤ mtz ∧ mtz ≤ 100) (hi : 0 ≤ i ∧ i < mnd) (hw : 0 ≤ w ∧ w < 26) (hwh : 0 ≤ what ∧ what ≤ 1)
    (hQ : ∀ mnn' mon' mde' mfn', MRw mt mtz mfa mnd msc miu mnm mso mou mpl mar mex men mnn' mon' mde' mbt mfo mfn' → Q (some (vI (if what = 0 then cBest mt mtz i w else cLst mt mtz i w))) (hA, (heapM mtz mt mk mkf mot mox mfa mnd miu mnm mso mou mpl msc mar mex men mnn' mon' mde' mbt mfo mfn' mma mit mfm msz mim mmo mfi))) : RNd ro (d + 8) 156 [vR 200, vI i, vI w, vI what] (hA, (heapM mtz mt mk mkf mot mox mfa mnd miu mnm mso mou mpl msc mar mex men mnn mon mde mbt mfo mfn mma mit mfm msz mim mmo mfi)) Q := by
  have hin := cBest_rg (tx := mt) (n := mtz) (i := i) (w := w)
  refine WP_run [] 40 ?_
  refine r_bestNow hM htz hi hw (fun mnn' mon' mde' mfn' hM2 => ?_)
  refine c2 (fun q => ?_) (fun q => ?_)
  · have hq := hQ mnn' mon' mde' mfn' hM2
    have e : (if what = 0 then cBest mt mtz i w else cLst mt mtz i w) = cBest mt mtz i w := by
      split
      · rfl
      · omega
    rw [e] at hq
    exact ri hq
  · refine c1 (fun q2 => ?_) (fun q2 => ?_)
    · have hin3 : 0 ≤ cBest mt mtz i w ∧ cBest mt mtz i w < 3 ∧ cLst mt mtz i w = cED mt mtz i w (cBest mt mtz i w) := by omega
      refine r_editsBy hM2 htz hi hw (by omega) (fun mnn'' mon'' mde'' mfn'' hM3 _ => ?_)
      have hq := hQ mnn'' mon'' mde'' mfn'' hM3
      rw [if_neg q2, hin3.2.2] at hq
      exact ri hq
    · have hq := hQ mnn' mon' mde' mfn' hM2
      rw [if_pos q2] at hq
      exact ri hq
set_option maxRecDepth 100000 in
set_option maxHeartbeats 4000000 in
theorem r_easyOf {i : Int} (hM : MRw mt mtz mfa mnd msc miu mnm mso mou mpl mar mex men mnn mon mde mbt mfo mfn) (htz : 0 ≤ mtz ∧ mtz ≤ 100) (hi : 0 ≤ i ∧ i < mnd)
    (hQ : ∀ mnn' mon' mde' mfn', MRw mt mtz mfa mnd msc miu mnm mso mou mpl mar mex men mnn' mon' mde' mbt mfo mfn' → Q (some (vI (esy (fun w => cED mt mtz i w 0) (26 : Int).toNat))) (hA, (heapM mtz mt mk mkf mot mox mfa mnd miu mnm mso mou mpl msc mar mex men mnn' mon' mde' mbt mfo mfn' mma mit mfm msz mim mmo mfi))) : RNd ro (d + 7) 162 [vR 200, vI i] (hA, (heapM mtz mt mk mkf mot mox mfa mnd miu mnm mso mou mpl msc mar mex men mnn mon mde mbt mfo mfn mma mit mfm msz mim mmo mfi)) Q := by
  obtain ⟨co1, co2⟩ := MRw_ou hM
  have main : ∀ p : Int, ∀ (x : Int) (mnn mon mde mfn), 0 ≤ p → p ≤ 26 → MRw mt mtz mfa mnd msc miu mnm mso mou mpl mar mex men mnn mon mde mbt mfo mfn → x = esy (fun w => cED mt mtz i w 0) p.toNat → WPm ro (d + 6) (RNd ro (d + 6)) 162 0 0 Q 4 [vR 200, vI i, vI x, vI p] [] (hA, (heapM mtz mt mk mkf mot mox mfa mnd miu mnm mso mou mpl msc mar mex men mnn mon mde mbt mfo mfn mma mit mfm msz mim mmo mfi)) 0 0 := by
    refine loopUp 26 fun p ih x mnn mon mde mfn p0 p1 hM hx => ?_
    have hst := esy_st (E := fun w => cED mt mtz i w 0) p0
    rw [← hx] at hst
    have hxr : rg x := by rw [hx]; exact esy_rg _ _
    refine WP_first [4] 60 ?_
    refine c2 (fun q => ?_) (fun q => ?_)
    · have e : p = 26 := by omega
      subst e
      rw [hx]
      exact ri (hQ mnn mon mde mfn hM)
    · refine r_editsBy hM htz hi ⟨p0, by omega⟩ (by omega) (fun mnn' mon' mde' mfn' hM2 _ => ?_)
      have er := cED_rg (i := i) (w := p) (p := 0) co1 co2
      refine c2 (fun q2 => ?_) (fun q2 => ?_)
      · refine ih (by omega) _ _ _ _ _ (by omega) (by omega) hM2 ?_
        rw [hst, if_neg (fun z => z q2)]
        exact orZ_0 hxr
      · refine ih (by omega) _ _ _ _ _ (by omega) (by omega) hM2 ?_
        rw [hst, if_pos q2]
  exact WP_run [4] 20 (main 0 0 mnn mon mde mfn (by omega) (by omega) hM rfl)
set_option maxRecDepth 100000 in
set_option maxHeartbeats 4000000 in
theorem r_caughtOf {i w what : Int} (hM : MRw mt mtz mfa mnd msc miu mnm mso mou mpl mar mex men mnn mon mde mbt mfo mfn) (hi : 0 ≤ i ∧ i < mnd) (hw : 0 ≤ w ∧ w < 26) (hwh : 0 ≤ what ∧ what ≤ 1)
    (hQ : ∀ mnn' mon' mde' mfn', MRw mt mtz mfa mnd msc miu mnm mso mou mpl mar mex men mnn' mon' mde' mbt mfo mfn' → Q (some (vI (if what = 0 then cCa mt mtz i w else cCb mt mtz i w))) (hA, (heapM mtz mt mk mkf mot mox mfa mnd miu mnm mso mou mpl msc mar mex men mnn' mon' mde' mbt mfo mfn' mma mit mfm msz mim mmo mfi))) : RNd ro (d + 4) 160 [vR 200, vI i, vI w, vI what] (hA, (heapM mtz mt mk mkf mot mox mfa mnd miu mnm mso mou mpl msc mar mex men mnn mon mde mbt mfo mfn mma mit mfm msz mim mmo mfi)) Q := by
  obtain ⟨⟨hfa, hnd, hsc⟩, hS, hA', hN, hW, ⟨R1, R2, R3, R4, R5, R6, R7⟩, hfr⟩ := id hM
  obtain ⟨r1, r2, r3, r4, -⟩ := id R1
  obtain ⟨S1, S2, S3, S4⟩ := id hS
  have hSc : TS (cND mt mtz) (cSC mt mtz) (cIU mt mtz) (cSO mt mtz) (cAR mt mtz) (cEX mt mtz) := by rw [← hnd, ← hsc]; exact hS
  have hBT : ∀ k, 0 ≤ k → k < mnd → cBT mt mtz k = -1 ∨ (0 ≤ cBT mt mtz k ∧ cBT mt mtz k < mnd) := fun k a b => by
    rcases cBT_dl hSc a (by omega) with e | ⟨e1, e2, e3, -⟩
    · exact Or.inl e
    · exact Or.inr ⟨e1, by omega⟩
  have k1 : rI (fb mnn mnm 0 mnd) 0 25 := rI_fb R2 (fun q _ _ => r2 q)
  have k2 : rI (fb mon mou 0 mnd) 0 4 := rI_fb R3 (fun q _ _ => by have := r4 q; omega)
  have m2' : ∀ k, 0 ≤ k → k < mnd → fb mon mou 0 mnd k = cOU mt mtz k := fun k a b => by rw [fb_in a b]; exact (hN k a b).2.1
  have gf : rI (fb (fb mnn mnm 0 mnd) (fun k => if cBT mt mtz k ≠ -1 ∧ cFM mt mtz (cNM mt mtz) (cBT mt mtz k) = cFM mt mtz (cNM mt mtz) i then w else fb mnn mnm 0 mnd k) 0 mnd) 0 25 := rI_fb k1 (fun k a b => ite_rg (by omega) (k1 k))
  have ef : ∀ k, 0 ≤ k → k < mnd → fb (fb mnn mnm 0 mnd) (fun k => if cBT mt mtz k ≠ -1 ∧ cFM mt mtz (cNM mt mtz) (cBT mt mtz k) = cFM mt mtz (cNM mt mtz) i then w else fb mnn mnm 0 mnd k) 0 mnd k = cNN mt mtz i w 0 k := by
    intro k a b
    rw [fb_in a b, fb_in a b, (hN k a b).1]
    unfold cNN cRn
    rw [if_neg (show ¬ (0:Int) = 2 by omega)]
  refine WP_run [17] 40 ?_
  refine r_asTold S1 ?_
  refine r_renames (F := cFM mt mtz (cNM mt mtz)) (BT := cBT mt mtz) S1 hi (fun k a b => ⟨(hW k a b).2, (hW k a b).1⟩) hBT R6 ?_
  generalize fb (fb mnn mnm 0 mnd) (fun k => if cBT mt mtz k ≠ -1 ∧ cFM mt mtz (cNM mt mtz) (cBT mt mtz k) = cFM mt mtz (cNM mt mtz) i then w else fb mnn mnm 0 mnd k) 0 mnd = f at gf ef ⊢
  generalize fb mon mou 0 mnd = g at k2 m2' ⊢
  refine r_declares hS hA' gf R4 (fun t ht hT => ?_)
  have hM2 := MRw_up hM gf k2 ht R7
  have eB : ∀ k, 0 ≤ k → k < mnd → BN mnd (cIU mt mtz) (cSO mt mtz) (cAR mt mtz) (cEX mt mtz) f (cSO mt mtz k) (g k) (f k) = cBo mt mtz (cNN mt mtz i w 0) k (cOU mt mtz k) := by
    intro k a b
    unfold cBo
    rw [← hnd, ← ef k a b, m2' k a b]
    exact BN_ext hS ef (S3 k a b).2.2
  have main : ∀ k : Int, 0 ≤ k → k ≤ mnd → lkN (fun k => decide (cIU mt mtz k = 1 ∧ cBo mt mtz (cNN mt mtz i w 0) k (cOU mt mtz k) ≠ cBT mt mtz k)) (mnd - k).toNat k = cCa mt mtz i w → WPm ro (d + 3) (RNd ro (d + 3)) 160 0 0 Q 17 [vR 200, vI i, vI w, vI what, vI k] [] (hA, (heapM mtz mt mk mkf mot mox mfa mnd miu mnm mso mou mpl msc mar mex men f g t mbt mfo mfn mma mit mfm msz mim mmo mfi)) 0 0 := by
    refine loopUp mnd fun k ih k0 k1' hl => ?_
    refine WP_first [17] 60 ?_
    refine c2 (fun q => ?_) (fun q => ?_)
    · rw [lkN_end q] at hl
      have hq := hQ f g t mfn hM2
      unfold cCb at hq
      rw [← hl, if_pos rfl] at hq
      split at hq
      · exact ri hq
      · exact ri hq
    · obtain ⟨e1, e2⟩ := hA'.1 k k0 (by omega)
      obtain ⟨S31, S32⟩ := S3 k k0 (by omega)
      have r1' := R5 k
      have e3 := (hW k k0 (by omega)).1
      rw [lkN_st (by omega)] at hl
      refine ix ?_
      refine c2 (fun q2 => ?_) (fun q2 => ?_)
      · rw [if_neg (by rw [decide_eq_true_iff]; omega)] at hl
        exact ih (by omega) (by omega) (by omega) hl
      · refine r_boundNow hS hA' ⟨k0, by omega⟩ gf k2 ht hT ?_
        refine ix ?_
        have hg : -1 ≤ BN mnd (cIU mt mtz) (cSO mt mtz) (cAR mt mtz) (cEX mt mtz) f (cSO mt mtz k) (g k) (f k) ∧ BN mnd (cIU mt mtz) (cSO mt mtz) (cAR mt mtz) (cEX mt mtz) f (cSO mt mtz k) (g k) (f k) ≤ 59 := by
          rcases BN_dl (nn := f) (o := g k) (w := f k) hS S32.2 with e | ⟨z1, z2, -⟩
          · rw [e]; omega
          · omega
        show rg (BN mnd (cIU mt mtz) (cSO mt mtz) (cAR mt mtz) (cEX mt mtz) f (cSO mt mtz k) (g k) (f k)) ∧ _
        refine c2 (fun q3 => ?_) (fun q3 => ?_)
        · rw [if_neg (by rw [decide_eq_true_iff]; exact fun z => z.2 (by rw [← eB k k0 (by omega), ← e3]; exact q3))] at hl
          exact ih (by omega) (by omega) (by omega) hl
        · rw [if_pos (by rw [decide_eq_true_iff]; exact ⟨by omega, fun z => q3 (by rw [e3, ← z]; exact eB k k0 (by omega))⟩)] at hl
          have hq := hQ f g t mfn hM2
          unfold cCb at hq
          rw [← hl, if_neg (show ¬ k = -1 by omega)] at hq
          refine c1 (fun q4 => ?_) (fun q4 => ?_)
          · refine r_boundNow hS hA' ⟨k0, by omega⟩ gf k2 ht hT ?_
            rw [if_neg q4, ← eB k k0 (by omega)] at hq
            exact ri hq
          · rw [if_pos q4] at hq
            exact ri hq
  exact main 0 (by omega) (by omega) (by unfold cCa; rw [← hnd])
end BESTM
