/-! ===== all answers are ints ===== -/
set_option maxRecDepth 100000 in
set_option maxHeartbeats 4000000 in
theorem rg_i {x lo hi : Int} (h : lo ≤ x ∧ x ≤ hi) (h0 : -2147483648 ≤ lo := by omega) (h1 : hi ≤ 2147483647 := by omega) : rg x := ⟨by omega, by omega⟩
set_option maxRecDepth 100000 in
set_option maxHeartbeats 4000000 in
theorem DL_rg {nd : Int} {IU nn : Int → Int} {w v : Int} (h : DL nd IU nn w v) (hn : nd ≤ 60) : -1 ≤ v ∧ v ≤ 59 := by
  rcases h with e | ⟨e1, e2, -⟩
  · omega
  · omega
section RANGES
variable {mtz : Int} {mt : Int → Int} {mk mkf : Int} {mot mox : Int → Int} {mfa mnd : Int} {miu mnm mso mou mpl : Int → Int} {msc : Int} {mar mex men mnn mon mde mbt mfo mfn mma mit mfm msz mim mmo : Int → Int} {mfi : Int} {i what w : Int}
set_option maxRecDepth 100000 in
set_option maxHeartbeats 4000000 in
theorem rg_fa (hM : MRw mt mtz mfa mnd msc miu mnm mso mou mpl mar mex men mnn mon mde mbt mfo mfn) : rg (cFA mt mtz) := by
  have h := hM.2.2.2.2.2.2
  rw [hM.1.1] at h
  exact rg_i h
set_option maxRecDepth 100000 in
set_option maxHeartbeats 4000000 in
theorem rg_node (hM : MRw mt mtz mfa mnd msc miu mnm mso mou mpl mar mex men mnn mon mde mbt mfo mfn) : rg (aNode mt mtz i what) := by
  obtain ⟨⟨hfa, hnd, hsc⟩, hS, hA', hN, hW, ⟨R1, R2, R3, R4, R5, R6, R7⟩, hfr⟩ := hM
  unfold aNode
  split
  · rename_i h
    obtain ⟨e1, e2⟩ := hA'.1 i h.1.1 (by omega)
    obtain ⟨e3, e4, e5⟩ := hN i h.1.1 (by omega)
    obtain ⟨r1, r2, r3, r4, r5, -⟩ := R1
    have a1 := r1 i
    have a2 := r2 i
    have a3 := r3 i
    have a4 := r4 i
    have a5 := r5 i
    rw [← e1, ← e2, ← e3, ← e4, ← e5]
    exact ite_rg (by omega) (ite_rg (by omega) (ite_rg (by omega) (ite_rg (by omega) (by omega))))
  · unfold rg
    omega
set_option maxRecDepth 100000 in
set_option maxHeartbeats 4000000 in
theorem rg_scope (hM : MRw mt mtz mfa mnd msc miu mnm mso mou mpl mar mex men mnn mon mde mbt mfo mfn) : rg (aScope mt mtz i what) := by
  obtain ⟨⟨hfa, hnd, hsc⟩, hS, -⟩ := hM
  have S1 := hS.1
  have S2 := hS.2.1
  unfold aScope
  split
  · rename_i h
    have s4 := hS.2.2.2 i h.1.1 (by omega)
    have c := cntF_rg (fun k => decide (cSO mt mtz k = i ∧ cIU mt mtz k = what - 2)) (cND mt mtz).toNat
    exact ite_rg (by omega) (ite_rg (by omega) (by omega))
  · unfold rg
    omega
set_option maxRecDepth 100000 in
set_option maxHeartbeats 4000000 in
theorem rg_bound (hM : MRw mt mtz mfa mnd msc miu mnm mso mou mpl mar mex men mnn mon mde mbt mfo mfn) : rg (aBound mt mtz i) := by
  obtain ⟨⟨hfa, hnd, hsc⟩, hS, hA', hN, hW, ⟨R1, R2, R3, R4, R5, R6, R7⟩, hfr⟩ := hM
  unfold aBound
  split
  · rename_i h
    have e := (hW i h.1 (by omega)).1
    have r := R5 i
    rw [← e]
    exact ite_rg (by omega) (by omega)
  · unfold rg
    omega
set_option maxRecDepth 100000 in
set_option maxHeartbeats 4000000 in
theorem MRw_TS (hM : MRw mt mtz mfa mnd msc miu mnm mso mou mpl mar mex men mnn mon mde mbt mfo mfn) : TS (cND mt mtz) (cSC mt mtz) (cIU mt mtz) (cSO mt mtz) (cAR mt mtz) (cEX mt mtz) := by
  obtain ⟨⟨hfa, hnd, hsc⟩, hS, -⟩ := hM
  rw [← hnd, ← hsc]
  exact hS
set_option maxRecDepth 100000 in
set_option maxHeartbeats 4000000 in
theorem rg_own (hM : MRw mt mtz mfa mnd msc miu mnm mso mou mpl mar mex men mnn mon mde mbt mfo mfn) : rg (aOwn mt mtz i w) := by
  have hS := MRw_TS hM
  unfold aOwn
  split
  · rename_i h
    exact rg_i (DL_rg (OW_dl hS h.1.2) hS.1.2)
  · unfold rg
    omega
set_option maxRecDepth 100000 in
set_option maxHeartbeats 4000000 in
theorem rg_hides (hM : MRw mt mtz mfa mnd msc miu mnm mso mou mpl mar mex men mnn mon mde mbt mfo mfn) : rg (aHides mt mtz i) := by
  have hS := MRw_TS hM
  unfold aHides
  split
  · rename_i h
    split
    · exact rg_i (DL_rg (BN_dl hS (hS.2.2.1 i h.1 h.2).2.2) hS.1.2)
    · unfold rg
      omega
  · unfold rg
    omega
set_option maxRecDepth 100000 in
set_option maxHeartbeats 4000000 in
theorem rg_count {kn f : Int} (hM : MRw mt mtz mfa mnd msc miu mnm mso mou mpl mar mex men mnn mon mde mbt mfo mfn) (htz : 0 ≤ mtz ∧ mtz ≤ 100) (hk : 0 ≤ kn ∧ kn ≤ 20) (hf : 0 ≤ f ∧ f ≤ 5) : rg (aCount mt mtz kn f what) := by
  have hS := MRw_TS hM
  have S1 := hS.1
  have S2 := hS.2.1
  have c1 := cntF_rg (fun k => decide (cIU mt mtz k = 0)) (cND mt mtz).toNat
  have c2 := cntF_rg (fun k => decide (cBT mt mtz k = -1)) (cND mt mtz).toNat
  have c3 := cntF_rg (fun k => decide (cFM mt mtz (cNM mt mtz) k = k)) (cND mt mtz).toNat
  have c4 := cntF_rg (idleP (cND mt mtz) (cIU mt mtz) (cBT mt mtz)) (cND mt mtz).toNat
  unfold aCount telF
  exact ite_rg (by omega) (ite_rg (ite_rg (by omega) (ite_rg (by omega) (ite_rg (by omega) (ite_rg (by omega) (ite_rg (by omega) (by omega)))))) (ite_rg (by omega) (ite_rg (by omega) (by omega))))
set_option maxRecDepth 100000 in
set_option maxHeartbeats 4000000 in
theorem rg_ed {p : Int} (hM : MRw mt mtz mfa mnd msc miu mnm mso mou mpl mar mex men mnn mon mde mbt mfo mfn) : -1 ≤ cED mt mtz i w p ∧ cED mt mtz i w p ≤ 300 := by
  obtain ⟨co1, co2⟩ := MRw_ou hM
  exact cED_rg co1 co2
set_option maxRecDepth 100000 in
set_option maxHeartbeats 4000000 in
theorem rg_plan (hM : MRw mt mtz mfa mnd msc miu mnm mso mou mpl mar mex men mnn mon mde mbt mfo mfn) : rg (aPlan mt mtz i w what) := by
  have r := aRefC_rg (tx := mt) (n := mtz) (i := i) (w := w) (what := what) (bd := 2)
  have b := cBest_rg (tx := mt) (n := mtz) (i := i) (w := w - 97)
  have e := rg_ed (i := i) (w := w - 97) (p := cBest mt mtz i (w - 97)) hM
  unfold aPlan
  exact ite_rg (by omega) (ite_rg (by omega) (by omega))
set_option maxRecDepth 100000 in
set_option maxHeartbeats 4000000 in
theorem rg_edits (hM : MRw mt mtz mfa mnd msc miu mnm mso mou mpl mar mex men mnn mon mde mbt mfo mfn) : rg (aEdits mt mtz i w what) := by
  have r := aRefC_rg (tx := mt) (n := mtz) (i := i) (w := w) (what := what) (bd := 3)
  have e := rg_ed (i := i) (w := w - 97) (p := what) hM
  unfold aEdits
  exact ite_rg (by omega) (by omega)
set_option maxRecDepth 100000 in
set_option maxHeartbeats 4000000 in
theorem rg_caught (hM : MRw mt mtz mfa mnd msc miu mnm mso mou mpl mar mex men mnn mon mde mbt mfo mfn) : rg (aCaught mt mtz i w what) := by
  have r := aRefC_rg (tx := mt) (n := mtz) (i := i) (w := w) (what := what) (bd := 2)
  have hS := MRw_TS hM
  have S1 := hS.1
  have hca : cCa mt mtz i (w - 97) = -1 ∨ (0 ≤ cCa mt mtz i (w - 97) ∧ cCa mt mtz i (w - 97) < cND mt mtz) := by
    rcases lkN_in (fun k => decide (cIU mt mtz k = 1 ∧ cBo mt mtz (cNN mt mtz i (w - 97) 0) k (cOU mt mtz k) ≠ cBT mt mtz k)) (cND mt mtz - 0).toNat 0 with ⟨y1, -⟩ | ⟨y1, y2, -, -⟩
    · exact Or.inl y1
    · refine Or.inr ⟨y1, ?_⟩
      have y2' : cCa mt mtz i (w - 97) < 0 + ((cND mt mtz - 0).toNat : Int) := y2
      omega
  have hcb : -1 ≤ cCb mt mtz i (w - 97) ∧ cCb mt mtz i (w - 97) ≤ 59 := by
    unfold cCb
    split
    · omega
    · rename_i hn
      have h := hca.resolve_left hn
      exact DL_rg (BN_dl hS (hS.2.2.1 _ h.1 h.2).2.2) hS.1.2
  unfold aCaught
  exact ite_rg (by omega) (ite_rg (by omega) (by omega))
set_option maxRecDepth 100000 in
set_option maxHeartbeats 4000000 in
theorem rg_easy : rg (aEasy mt mtz i) := by
  have r := aRef_rg (tx := mt) (n := mtz) (i := i)
  unfold aEasy
  exact ite_rg (by omega) (esy_rg _ _)
set_option maxRecDepth 100000 in
set_option maxHeartbeats 4000000 in
theorem rg_shown (htb : rI mt 0 255) : rg (aShown mt mtz i) := by
  have r := htb i
  unfold aShown
  exact ite_rg (ite_rg (by omega) (by omega)) (by omega)
end RANGES
