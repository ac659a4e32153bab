/-! ===== copy on both sides ===== -/
section OPS3
variable {ro : Nat × (Int → Int)} {d : Nat} {tb : Int → Int} {tz : Int} {tk : Int → Int → Int} {tks : Int → Int} {tc tt : Int} {iu nm ou so pl : Int → Int} {nd : Int} {pa ba de en : Int → Int} {sc rsz fp ss cu os : Int} {a1 a2 a3 : Int → Int} {a4 : Int → Int64} {a5 b1 b2 b3 : Int → Int} {b4 : Int → Int64} {b5 : Int → Int} {le fi : Int} {xi0 : Int → Int} {xf0 xz0 xl0 : Int} {xi1 : Int → Int} {xf1 xz1 xl1 : Int} {xi2 : Int → Int} {xf2 xz2 xl2 : Int} {xi3 : Int → Int} {xf3 xz3 xl3 : Int} {mtz : Int} {mt : Int → Int} {mk mkf : Int} {mot mox : Int → Int} {mfa mnd : Int} {miu mnm mso mou mpl : Int → Int} {msc : Int} {mar mex men mnn mon mde mbt mfo mfn mma mit mfm msz mim mmo : Int → Int} {mfi : Int}
set_option maxRecDepth 100000 in
set_option maxHeartbeats 4000000 in
theorem op_copy_0_0 {i j n : Int} (ri : rg i) (rj : rg j) (rn : rg n) (h1 : tb = mt ∧ tz = mtz) (h2 : 0 ≤ tz ∧ tz ≤ 100) (h3 : rI tb 0 255) (h4 : CRd tb tz fp nd sc rsz iu nm so ou pl pa ba en a1 a2 a3 a4 a5) (h5 : RM miu mnm mso mou mpl mar mex men mnn mon mde mbt mfo mfn) (h6 : rI b1 0 25 ∧ rI b2 0 3 ∧ rI b3 (-1) 59 ∧ rI b5 (-1) 59) (h7 : KnR tz tk tks tc tt mk mkf mot mox) (h8 : rI mit 0 1 ∧ rI mfm 0 2 ∧ rI msz 0 60 ∧ ∀ i, rg (mim i)) (h9 : ShR xi0 xf0 xz0 xl0 0 mit mfm msz mim ∧ ShR xi1 xf1 xz1 xl1 1 mit mfm msz mim ∧ ShR xi2 xf2 xz2 xl2 2 mit mfm msz mim ∧ ShR xi3 xf3 xz3 xl3 3 mit mfm msz mim) (h10 : fi = mfi ∧ 0 ≤ fi ∧ fi ≤ 5) : OPI ro (d + 12) 81 177 [vI 0, vI i, vI 0, vI j, vI n] (heapC tb tz tk tks tc tt iu nm ou so pl nd pa ba de en sc rsz fp ss cu os a1 a2 a3 a4 a5 b1 b2 b3 b4 b5 le fi xi0 xf0 xz0 xl0 xi1 xf1 xz1 xl1 xi2 xf2 xz2 xl2 xi3 xf3 xz3 xl3) (heapM mtz mt mk mkf mot mox mfa mnd miu mnm mso mou mpl msc mar mex men mnn mon mde mbt mfo mfn mma mit mfm msz mim mmo mfi) := by
  obtain ⟨rfl, rfl⟩ := h1
  obtain ⟨s0, s1, s2, s3⟩ := id h9
  obtain ⟨⟨rfl, l2⟩, ⟨rfl, x2⟩, ⟨rfl, z2⟩, -, -⟩ := id s0
  obtain ⟨m1, m2, m3, m4⟩ := id h8
  intro Q hQ
  refine t_copy_0_0 ri rj rn l2 l2 x2 x2 z2 z2 (fun e => ?_) (fun e e2 => ?_) (fun e e2 e3 => ?_) (fun e e2 e3 => ?_)
  · refine hQ _ _ (fun Q2 hq => ?_)
    refine r_copy (by unfold rg; omega) (by unfold rg; omega) ri rj rn m1 m2 m3 (fun e' => absurd (by omega) e') (fun _ _ => ?_) (fun _ e' => absurd e' (by omega)) (fun _ e' => absurd e' (by omega)) (fun _ e' => absurd e' (by omega))
    exact hq _ (by unfold rg; omega) (mkSR ⟨rfl, rfl⟩ h2 h3 h4 h5 h6 h7 h8 h9 ⟨rfl, by omega, by omega⟩)
  · refine hQ _ _ (fun Q2 hq => ?_)
    refine r_copy (by unfold rg; omega) (by unfold rg; omega) ri rj rn m1 m2 m3 (fun e' => absurd (by omega) e') (fun _ e' => absurd (by omega) e') (fun _ _ _ => ?_) (fun _ _ e' => absurd e' e2) (fun _ _ e' => absurd e' e2)
    exact hq _ (by unfold rg; omega) (mkSR ⟨rfl, rfl⟩ h2 h3 h4 h5 h6 h7 h8 h9 ⟨rfl, by omega, by omega⟩)
  · refine hQ _ _ (fun Q2 hq => ?_)
    refine r_copy (by unfold rg; omega) (by unfold rg; omega) ri rj rn m1 m2 m3 (fun e' => absurd (by omega) e') (fun _ e' => absurd (by omega) e') (fun _ _ e' => absurd e2 e') (fun _ _ _ _ => ?_) (fun _ _ _ e' => absurd e' e3)
    exact hq _ (by unfold rg; omega) (mkSR ⟨rfl, rfl⟩ h2 h3 h4 h5 h6 h7 h8 h9 ⟨rfl, by omega, by omega⟩)
  · refine hQ _ _ (fun Q2 hq => ?_)
    refine r_copy (by unfold rg; omega) (by unfold rg; omega) ri rj rn m1 m2 m3 (fun e' => absurd (by omega) e') (fun _ e' => absurd (by omega) e') (fun _ _ e' => absurd e2 e') (fun _ _ _ e' => absurd e3 e') (fun _ _ _ _ mmo' => ?_)
    refine hq _ (by unfold rg; omega) (mkSR ⟨rfl, rfl⟩ h2 h3 h4 h5 h6 h7 ⟨m1, m2, m3, fun k => ?_⟩ ⟨L_copy s0 s0 (by omega) (by omega), L_copyN s1 (by omega) (by omega), L_copyN s2 (by omega) (by omega), L_copyN s3 (by omega) (by omega)⟩ h10)
    unfold fb
    split
    · exact m4 _
    · exact m4 k
set_option maxRecDepth 100000 in
set_option maxHeartbeats 4000000 in
theorem op_copy_0_1 {i j n : Int} (ri : rg i) (rj : rg j) (rn : rg n) (h1 : tb = mt ∧ tz = mtz) (h2 : 0 ≤ tz ∧ tz ≤ 100) (h3 : rI tb 0 255) (h4 : CRd tb tz fp nd sc rsz iu nm so ou pl pa ba en a1 a2 a3 a4 a5) (h5 : RM miu mnm mso mou mpl mar mex men mnn mon mde mbt mfo mfn) (h6 : rI b1 0 25 ∧ rI b2 0 3 ∧ rI b3 (-1) 59 ∧ rI b5 (-1) 59) (h7 : KnR tz tk tks tc tt mk mkf mot mox) (h8 : rI mit 0 1 ∧ rI mfm 0 2 ∧ rI msz 0 60 ∧ ∀ i, rg (mim i)) (h9 : ShR xi0 xf0 xz0 xl0 0 mit mfm msz mim ∧ ShR xi1 xf1 xz1 xl1 1 mit mfm msz mim ∧ ShR xi2 xf2 xz2 xl2 2 mit mfm msz mim ∧ ShR xi3 xf3 xz3 xl3 3 mit mfm msz mim) (h10 : fi = mfi ∧ 0 ≤ fi ∧ fi ≤ 5) : OPI ro (d + 12) 81 177 [vI 0, vI i, vI 1, vI j, vI n] (heapC tb tz tk tks tc tt iu nm ou so pl nd pa ba de en sc rsz fp ss cu os a1 a2 a3 a4 a5 b1 b2 b3 b4 b5 le fi xi0 xf0 xz0 xl0 xi1 xf1 xz1 xl1 xi2 xf2 xz2 xl2 xi3 xf3 xz3 xl3) (heapM mtz mt mk mkf mot mox mfa mnd miu mnm mso mou mpl msc mar mex men mnn mon mde mbt mfo mfn mma mit mfm msz mim mmo mfi) := by
  obtain ⟨rfl, rfl⟩ := h1
  obtain ⟨s0, s1, s2, s3⟩ := id h9
  obtain ⟨⟨rfl, l2⟩, ⟨rfl, x2⟩, ⟨rfl, z2⟩, -, -⟩ := id s0
  obtain ⟨⟨rfl, k2⟩, ⟨rfl, y2⟩, ⟨rfl, v2⟩, -, -⟩ := id s1
  obtain ⟨m1, m2, m3, m4⟩ := id h8
  intro Q hQ
  refine t_copy_0_1 ri rj rn l2 k2 x2 y2 z2 v2 (fun e => ?_) (fun e e2 => ?_) (fun e e2 e3 => ?_) (fun e e2 e3 => ?_)
  · refine hQ _ _ (fun Q2 hq => ?_)
    refine r_copy (by unfold rg; omega) (by unfold rg; omega) ri rj rn m1 m2 m3 (fun e' => absurd (by omega) e') (fun _ _ => ?_) (fun _ e' => absurd e' (by omega)) (fun _ e' => absurd e' (by omega)) (fun _ e' => absurd e' (by omega))
    exact hq _ (by unfold rg; omega) (mkSR ⟨rfl, rfl⟩ h2 h3 h4 h5 h6 h7 h8 h9 ⟨rfl, by omega, by omega⟩)
  · refine hQ _ _ (fun Q2 hq => ?_)
    refine r_copy (by unfold rg; omega) (by unfold rg; omega) ri rj rn m1 m2 m3 (fun e' => absurd (by omega) e') (fun _ e' => absurd (by omega) e') (fun _ _ _ => ?_) (fun _ _ e' => absurd e' e2) (fun _ _ e' => absurd e' e2)
    exact hq _ (by unfold rg; omega) (mkSR ⟨rfl, rfl⟩ h2 h3 h4 h5 h6 h7 h8 h9 ⟨rfl, by omega, by omega⟩)
  · refine hQ _ _ (fun Q2 hq => ?_)
    refine r_copy (by unfold rg; omega) (by unfold rg; omega) ri rj rn m1 m2 m3 (fun e' => absurd (by omega) e') (fun _ e' => absurd (by omega) e') (fun _ _ e' => absurd e2 e') (fun _ _ _ _ => ?_) (fun _ _ _ e' => absurd e' e3)
    exact hq _ (by unfold rg; omega) (mkSR ⟨rfl, rfl⟩ h2 h3 h4 h5 h6 h7 h8 h9 ⟨rfl, by omega, by omega⟩)
  · refine hQ _ _ (fun Q2 hq => ?_)
    refine r_copy (by unfold rg; omega) (by unfold rg; omega) ri rj rn m1 m2 m3 (fun e' => absurd (by omega) e') (fun _ e' => absurd (by omega) e') (fun _ _ e' => absurd e2 e') (fun _ _ _ e' => absurd e3 e') (fun _ _ _ _ mmo' => ?_)
    refine hq _ (by unfold rg; omega) (mkSR ⟨rfl, rfl⟩ h2 h3 h4 h5 h6 h7 ⟨m1, m2, m3, fun k => ?_⟩ ⟨L_copyN s0 (by omega) (by omega), L_copy s0 s1 (by omega) (by omega), L_copyN s2 (by omega) (by omega), L_copyN s3 (by omega) (by omega)⟩ h10)
    unfold fb
    split
    · exact m4 _
    · exact m4 k
set_option maxRecDepth 100000 in
set_option maxHeartbeats 4000000 in
theorem op_copy_0_2 {i j n : Int} (ri : rg i) (rj : rg j) (rn : rg n) (h1 : tb = mt ∧ tz = mtz) (h2 : 0 ≤ tz ∧ tz ≤ 100) (h3 : rI tb 0 255) (h4 : CRd tb tz fp nd sc rsz iu nm so ou pl pa ba en a1 a2 a3 a4 a5) (h5 : RM miu mnm mso mou mpl mar mex men mnn mon mde mbt mfo mfn) (h6 : rI b1 0 25 ∧ rI b2 0 3 ∧ rI b3 (-1) 59 ∧ rI b5 (-1) 59) (h7 : KnR tz tk tks tc tt mk mkf mot mox) (h8 : rI mit 0 1 ∧ rI mfm 0 2 ∧ rI msz 0 60 ∧ ∀ i, rg (mim i)) (h9 : ShR xi0 xf0 xz0 xl0 0 mit mfm msz mim ∧ ShR xi1 xf1 xz1 xl1 1 mit mfm msz mim ∧ ShR xi2 xf2 xz2 xl2 2 mit mfm msz mim ∧ ShR xi3 xf3 xz3 xl3 3 mit mfm msz mim) (h10 : fi = mfi ∧ 0 ≤ fi ∧ fi ≤ 5) : OPI ro (d + 12) 81 177 [vI 0, vI i, vI 2, vI j, vI n] (heapC tb tz tk tks tc tt iu nm ou so pl nd pa ba de en sc rsz fp ss cu os a1 a2 a3 a4 a5 b1 b2 b3 b4 b5 le fi xi0 xf0 xz0 xl0 xi1 xf1 xz1 xl1 xi2 xf2 xz2 xl2 xi3 xf3 xz3 xl3) (heapM mtz mt mk mkf mot mox mfa mnd miu mnm mso mou mpl msc mar mex men mnn mon mde mbt mfo mfn mma mit mfm msz mim mmo mfi) := by
  obtain ⟨rfl, rfl⟩ := h1
  obtain ⟨s0, s1, s2, s3⟩ := id h9
  obtain ⟨⟨rfl, l2⟩, ⟨rfl, x2⟩, ⟨rfl, z2⟩, -, -⟩ := id s0
  obtain ⟨⟨rfl, k2⟩, ⟨rfl, y2⟩, ⟨rfl, v2⟩, -, -⟩ := id s2
  obtain ⟨m1, m2, m3, m4⟩ := id h8
  intro Q hQ
  refine t_copy_0_2 ri rj rn l2 k2 x2 y2 z2 v2 (fun e => ?_) (fun e e2 => ?_) (fun e e2 e3 => ?_) (fun e e2 e3 => ?_)
  · refine hQ _ _ (fun Q2 hq => ?_)
    refine r_copy (by unfold rg; omega) (by unfold rg; omega) ri rj rn m1 m2 m3 (fun e' => absurd (by omega) e') (fun _ _ => ?_) (fun _ e' => absurd e' (by omega)) (fun _ e' => absurd e' (by omega)) (fun _ e' => absurd e' (by omega))
    exact hq _ (by unfold rg; omega) (mkSR ⟨rfl, rfl⟩ h2 h3 h4 h5 h6 h7 h8 h9 ⟨rfl, by omega, by omega⟩)
  · refine hQ _ _ (fun Q2 hq => ?_)
    refine r_copy (by unfold rg; omega) (by unfold rg; omega) ri rj rn m1 m2 m3 (fun e' => absurd (by omega) e') (fun _ e' => absurd (by omega) e') (fun _ _ _ => ?_) (fun _ _ e' => absurd e' e2) (fun _ _ e' => absurd e' e2)
    exact hq _ (by unfold rg; omega) (mkSR ⟨rfl, rfl⟩ h2 h3 h4 h5 h6 h7 h8 h9 ⟨rfl, by omega, by omega⟩)
  · refine hQ _ _ (fun Q2 hq => ?_)
    refine r_copy (by unfold rg; omega) (by unfold rg; omega) ri rj rn m1 m2 m3 (fun e' => absurd (by omega) e') (fun _ e' => absurd (by omega) e') (fun _ _ e' => absurd e2 e') (fun _ _ _ _ => ?_) (fun _ _ _ e' => absurd e' e3)
    exact hq _ (by unfold rg; omega) (mkSR ⟨rfl, rfl⟩ h2 h3 h4 h5 h6 h7 h8 h9 ⟨rfl, by omega, by omega⟩)
  · refine hQ _ _ (fun Q2 hq => ?_)
    refine r_copy (by unfold rg; omega) (by unfold rg; omega) ri rj rn m1 m2 m3 (fun e' => absurd (by omega) e') (fun _ e' => absurd (by omega) e') (fun _ _ e' => absurd e2 e') (fun _ _ _ e' => absurd e3 e') (fun _ _ _ _ mmo' => ?_)
    refine hq _ (by unfold rg; omega) (mkSR ⟨rfl, rfl⟩ h2 h3 h4 h5 h6 h7 ⟨m1, m2, m3, fun k => ?_⟩ ⟨L_copyN s0 (by omega) (by omega), L_copyN s1 (by omega) (by omega), L_copy s0 s2 (by omega) (by omega), L_copyN s3 (by omega) (by omega)⟩ h10)
    unfold fb
    split
    · exact m4 _
    · exact m4 k
set_option maxRecDepth 100000 in
set_option maxHeartbeats 4000000 in
theorem op_copy_0_3 {i j n : Int} (ri : rg i) (rj : rg j) (rn : rg n) (h1 : tb = mt ∧ tz = mtz) (h2 : 0 ≤ tz ∧ tz ≤ 100) (h3 : rI tb 0 255) (h4 : CRd tb tz fp nd sc rsz iu nm so ou pl pa ba en a1 a2 a3 a4 a5) (h5 : RM miu mnm mso mou mpl mar mex men mnn mon mde mbt mfo mfn) (h6 : rI b1 0 25 ∧ rI b2 0 3 ∧ rI b3 (-1) 59 ∧ rI b5 (-1) 59) (h7 : KnR tz tk tks tc tt mk mkf mot mox) (h8 : rI mit 0 1 ∧ rI mfm 0 2 ∧ rI msz 0 60 ∧ ∀ i, rg (mim i)) (h9 : ShR xi0 xf0 xz0 xl0 0 mit mfm msz mim ∧ ShR xi1 xf1 xz1 xl1 1 mit mfm msz mim ∧ ShR xi2 xf2 xz2 xl2 2 mit mfm msz mim ∧ ShR xi3 xf3 xz3 xl3 3 mit mfm msz mim) (h10 : fi = mfi ∧ 0 ≤ fi ∧ fi ≤ 5) : OPI ro (d + 12) 81 177 [vI 0, vI i, vI 3, vI j, vI n] (heapC tb tz tk tks tc tt iu nm ou so pl nd pa ba de en sc rsz fp ss cu os a1 a2 a3 a4 a5 b1 b2 b3 b4 b5 le fi xi0 xf0 xz0 xl0 xi1 xf1 xz1 xl1 xi2 xf2 xz2 xl2 xi3 xf3 xz3 xl3) (heapM mtz mt mk mkf mot mox mfa mnd miu mnm mso mou mpl msc mar mex men mnn mon mde mbt mfo mfn mma mit mfm msz mim mmo mfi) := by
  obtain ⟨rfl, rfl⟩ := h1
  obtain ⟨s0, s1, s2, s3⟩ := id h9
  obtain ⟨⟨rfl, l2⟩, ⟨rfl, x2⟩, ⟨rfl, z2⟩, -, -⟩ := id s0
  obtain ⟨⟨rfl, k2⟩, ⟨rfl, y2⟩, ⟨rfl, v2⟩, -, -⟩ := id s3
  obtain ⟨m1, m2, m3, m4⟩ := id h8
  intro Q hQ
  refine t_copy_0_3 ri rj rn l2 k2 x2 y2 z2 v2 (fun e => ?_) (fun e e2 => ?_) (fun e e2 e3 => ?_) (fun e e2 e3 => ?_)
  · refine hQ _ _ (fun Q2 hq => ?_)
    refine r_copy (by unfold rg; omega) (by unfold rg; omega) ri rj rn m1 m2 m3 (fun e' => absurd (by omega) e') (fun _ _ => ?_) (fun _ e' => absurd e' (by omega)) (fun _ e' => absurd e' (by omega)) (fun _ e' => absurd e' (by omega))
    exact hq _ (by unfold rg; omega) (mkSR ⟨rfl, rfl⟩ h2 h3 h4 h5 h6 h7 h8 h9 ⟨rfl, by omega, by omega⟩)
  · refine hQ _ _ (fun Q2 hq => ?_)
    refine r_copy (by unfold rg; omega) (by unfold rg; omega) ri rj rn m1 m2 m3 (fun e' => absurd (by omega) e') (fun _ e' => absurd (by omega) e') (fun _ _ _ => ?_) (fun _ _ e' => absurd e' e2) (fun _ _ e' => absurd e' e2)
    exact hq _ (by unfold rg; omega) (mkSR ⟨rfl, rfl⟩ h2 h3 h4 h5 h6 h7 h8 h9 ⟨rfl, by omega, by omega⟩)
  · refine hQ _ _ (fun Q2 hq => ?_)
    refine r_copy (by unfold rg; omega) (by unfold rg; omega) ri rj rn m1 m2 m3 (fun e' => absurd (by omega) e') (fun _ e' => absurd (by omega) e') (fun _ _ e' => absurd e2 e') (fun _ _ _ _ => ?_) (fun _ _ _ e' => absurd e' e3)
    exact hq _ (by unfold rg; omega) (mkSR ⟨rfl, rfl⟩ h2 h3 h4 h5 h6 h7 h8 h9 ⟨rfl, by omega, by omega⟩)
  · refine hQ _ _ (fun Q2 hq => ?_)
    refine r_copy (by unfold rg; omega) (by unfold rg; omega) ri rj rn m1 m2 m3 (fun e' => absurd (by omega) e') (fun _ e' => absurd (by omega) e') (fun _ _ e' => absurd e2 e') (fun _ _ _ e' => absurd e3 e') (fun _ _ _ _ mmo' => ?_)
    refine hq _ (by unfold rg; omega) (mkSR ⟨rfl, rfl⟩ h2 h3 h4 h5 h6 h7 ⟨m1, m2, m3, fun k => ?_⟩ ⟨L_copyN s0 (by omega) (by omega), L_copyN s1 (by omega) (by omega), L_copyN s2 (by omega) (by omega), L_copy s0 s3 (by omega) (by omega)⟩ h10)
    unfold fb
    split
    · exact m4 _
    · exact m4 k
set_option maxRecDepth 100000 in
set_option maxHeartbeats 4000000 in
theorem op_copy_1_0 {i j n : Int} (ri : rg i) (rj : rg j) (rn : rg n) (h1 : tb = mt ∧ tz = mtz) (h2 : 0 ≤ tz ∧ tz ≤ 100) (h3 : rI tb 0 255) (h4 : CRd tb tz fp nd sc rsz iu nm so ou pl pa ba en a1 a2 a3 a4 a5) (h5 : RM miu mnm mso mou mpl mar mex men mnn mon mde mbt mfo mfn) (h6 : rI b1 0 25 ∧ rI b2 0 3 ∧ rI b3 (-1) 59 ∧ rI b5 (-1) 59) (h7 : KnR tz tk tks tc tt mk mkf mot mox) (h8 : rI mit 0 1 ∧ rI mfm 0 2 ∧ rI msz 0 60 ∧ ∀ i, rg (mim i)) (h9 : ShR xi0 xf0 xz0 xl0 0 mit mfm msz mim ∧ ShR xi1 xf1 xz1 xl1 1 mit mfm msz mim ∧ ShR xi2 xf2 xz2 xl2 2 mit mfm msz mim ∧ ShR xi3 xf3 xz3 xl3 3 mit mfm msz mim) (h10 : fi = mfi ∧ 0 ≤ fi ∧ fi ≤ 5) : OPI ro (d + 12) 81 177 [vI 1, vI i, vI 0, vI j, vI n] (heapC tb tz tk tks tc tt iu nm ou so pl nd pa ba de en sc rsz fp ss cu os a1 a2 a3 a4 a5 b1 b2 b3 b4 b5 le fi xi0 xf0 xz0 xl0 xi1 xf1 xz1 xl1 xi2 xf2 xz2 xl2 xi3 xf3 xz3 xl3) (heapM mtz mt mk mkf mot mox mfa mnd miu mnm mso mou mpl msc mar mex men mnn mon mde mbt mfo mfn mma mit mfm msz mim mmo mfi) := by
  obtain ⟨rfl, rfl⟩ := h1
  obtain ⟨s0, s1, s2, s3⟩ := id h9
  obtain ⟨⟨rfl, l2⟩, ⟨rfl, x2⟩, ⟨rfl, z2⟩, -, -⟩ := id s1
  obtain ⟨⟨rfl, k2⟩, ⟨rfl, y2⟩, ⟨rfl, v2⟩, -, -⟩ := id s0
  obtain ⟨m1, m2, m3, m4⟩ := id h8
  intro Q hQ
  refine t_copy_1_0 ri rj rn l2 k2 x2 y2 z2 v2 (fun e => ?_) (fun e e2 => ?_) (fun e e2 e3 => ?_) (fun e e2 e3 => ?_)
  · refine hQ _ _ (fun Q2 hq => ?_)
    refine r_copy (by unfold rg; omega) (by unfold rg; omega) ri rj rn m1 m2 m3 (fun e' => absurd (by omega) e') (fun _ _ => ?_) (fun _ e' => absurd e' (by omega)) (fun _ e' => absurd e' (by omega)) (fun _ e' => absurd e' (by omega))
    exact hq _ (by unfold rg; omega) (mkSR ⟨rfl, rfl⟩ h2 h3 h4 h5 h6 h7 h8 h9 ⟨rfl, by omega, by omega⟩)
  · refine hQ _ _ (fun Q2 hq => ?_)
    refine r_copy (by unfold rg; omega) (by unfold rg; omega) ri rj rn m1 m2 m3 (fun e' => absurd (by omega) e') (fun _ e' => absurd (by omega) e') (fun _ _ _ => ?_) (fun _ _ e' => absurd e' e2) (fun _ _ e' => absurd e' e2)
    exact hq _ (by unfold rg; omega) (mkSR ⟨rfl, rfl⟩ h2 h3 h4 h5 h6 h7 h8 h9 ⟨rfl, by omega, by omega⟩)
  · refine hQ _ _ (fun Q2 hq => ?_)
    refine r_copy (by unfold rg; omega) (by unfold rg; omega) ri rj rn m1 m2 m3 (fun e' => absurd (by omega) e') (fun _ e' => absurd (by omega) e') (fun _ _ e' => absurd e2 e') (fun _ _ _ _ => ?_) (fun _ _ _ e' => absurd e' e3)
    exact hq _ (by unfold rg; omega) (mkSR ⟨rfl, rfl⟩ h2 h3 h4 h5 h6 h7 h8 h9 ⟨rfl, by omega, by omega⟩)
  · refine hQ _ _ (fun Q2 hq => ?_)
    refine r_copy (by unfold rg; omega) (by unfold rg; omega) ri rj rn m1 m2 m3 (fun e' => absurd (by omega) e') (fun _ e' => absurd (by omega) e') (fun _ _ e' => absurd e2 e') (fun _ _ _ e' => absurd e3 e') (fun _ _ _ _ mmo' => ?_)
    refine hq _ (by unfold rg; omega) (mkSR ⟨rfl, rfl⟩ h2 h3 h4 h5 h6 h7 ⟨m1, m2, m3, fun k => ?_⟩ ⟨L_copy s1 s0 (by omega) (by omega), L_copyN s1 (by omega) (by omega), L_copyN s2 (by omega) (by omega), L_copyN s3 (by omega) (by omega)⟩ h10)
    unfold fb
    split
    · exact m4 _
    · exact m4 k
set_option maxRecDepth 100000 in
set_option maxHeartbeats 4000000 in
theorem op_copy_1_1 {i j n : Int} (ri : rg i) (rj : rg j) (rn : rg n) (h1 : tb = mt ∧ tz = mtz) (h2 : 0 ≤ tz ∧ tz ≤ 100) (h3 : rI tb 0 255) (h4 : CRd tb tz fp nd sc rsz iu nm so ou pl pa ba en a1 a2 a3 a4 a5) (h5 : RM miu mnm mso mou mpl mar mex men mnn mon mde mbt mfo mfn) (h6 : rI b1 0 25 ∧ rI b2 0 3 ∧ rI b3 (-1) 59 ∧ rI b5 (-1) 59) (h7 : KnR tz tk tks tc tt mk mkf mot mox) (h8 : rI mit 0 1 ∧ rI mfm 0 2 ∧ rI msz 0 60 ∧ ∀ i, rg (mim i)) (h9 : ShR xi0 xf0 xz0 xl0 0 mit mfm msz mim ∧ ShR xi1 xf1 xz1 xl1 1 mit mfm msz mim ∧ ShR xi2 xf2 xz2 xl2 2 mit mfm msz mim ∧ ShR xi3 xf3 xz3 xl3 3 mit mfm msz mim) (h10 : fi = mfi ∧ 0 ≤ fi ∧ fi ≤ 5) : OPI ro (d + 12) 81 177 [vI 1, vI i, vI 1, vI j, vI n] (heapC tb tz tk tks tc tt iu nm ou so pl nd pa ba de en sc rsz fp ss cu os a1 a2 a3 a4 a5 b1 b2 b3 b4 b5 le fi xi0 xf0 xz0 xl0 xi1 xf1 xz1 xl1 xi2 xf2 xz2 xl2 xi3 xf3 xz3 xl3) (heapM mtz mt mk mkf mot mox mfa mnd miu mnm mso mou mpl msc mar mex men mnn mon mde mbt mfo mfn mma mit mfm msz mim mmo mfi) := by
  obtain ⟨rfl, rfl⟩ := h1
  obtain ⟨s0, s1, s2, s3⟩ := id h9
  obtain ⟨⟨rfl, l2⟩, ⟨rfl, x2⟩, ⟨rfl, z2⟩, -, -⟩ := id s1
  obtain ⟨m1, m2, m3, m4⟩ := id h8
  intro Q hQ
  refine t_copy_1_1 ri rj rn l2 l2 x2 x2 z2 z2 (fun e => ?_) (fun e e2 => ?_) (fun e e2 e3 => ?_) (fun e e2 e3 => ?_)
  · refine hQ _ _ (fun Q2 hq => ?_)
    refine r_copy (by unfold rg; omega) (by unfold rg; omega) ri rj rn m1 m2 m3 (fun e' => absurd (by omega) e') (fun _ _ => ?_) (fun _ e' => absurd e' (by omega)) (fun _ e' => absurd e' (by omega)) (fun _ e' => absurd e' (by omega))
    exact hq _ (by unfold rg; omega) (mkSR ⟨rfl, rfl⟩ h2 h3 h4 h5 h6 h7 h8 h9 ⟨rfl, by omega, by omega⟩)
  · refine hQ _ _ (fun Q2 hq => ?_)
    refine r_copy (by unfold rg; omega) (by unfold rg; omega) ri rj rn m1 m2 m3 (fun e' => absurd (by omega) e') (fun _ e' => absurd (by omega) e') (fun _ _ _ => ?_) (fun _ _ e' => absurd e' e2) (fun _ _ e' => absurd e' e2)
    exact hq _ (by unfold rg; omega) (mkSR ⟨rfl, rfl⟩ h2 h3 h4 h5 h6 h7 h8 h9 ⟨rfl, by omega, by omega⟩)
  · refine hQ _ _ (fun Q2 hq => ?_)
    refine r_copy (by unfold rg; omega) (by unfold rg; omega) ri rj rn m1 m2 m3 (fun e' => absurd (by omega) e') (fun _ e' => absurd (by omega) e') (fun _ _ e' => absurd e2 e') (fun _ _ _ _ => ?_) (fun _ _ _ e' => absurd e' e3)
    exact hq _ (by unfold rg; omega) (mkSR ⟨rfl, rfl⟩ h2 h3 h4 h5 h6 h7 h8 h9 ⟨rfl, by omega, by omega⟩)
  · refine hQ _ _ (fun Q2 hq => ?_)
    refine r_copy (by unfold rg; omega) (by unfold rg; omega) ri rj rn m1 m2 m3 (fun e' => absurd (by omega) e') (fun _ e' => absurd (by omega) e') (fun _ _ e' => absurd e2 e') (fun _ _ _ e' => absurd e3 e') (fun _ _ _ _ mmo' => ?_)
    refine hq _ (by unfold rg; omega) (mkSR ⟨rfl, rfl⟩ h2 h3 h4 h5 h6 h7 ⟨m1, m2, m3, fun k => ?_⟩ ⟨L_copyN s0 (by omega) (by omega), L_copy s1 s1 (by omega) (by omega), L_copyN s2 (by omega) (by omega), L_copyN s3 (by omega) (by omega)⟩ h10)
    unfold fb
    split
    · exact m4 _
    · exact m4 k
set_option maxRecDepth 100000 in
set_option maxHeartbeats 4000000 in
theorem op_copy_1_2 {i j n : Int} (ri : rg i) (rj : rg j) (rn : rg n) (h1 : tb = mt ∧ tz = mtz) (h2 : 0 ≤ tz ∧ tz ≤ 100) (h3 : rI tb 0 255) (h4 : CRd tb tz fp nd sc rsz iu nm so ou pl pa ba en a1 a2 a3 a4 a5) (h5 : RM miu mnm mso mou mpl mar mex men mnn mon mde mbt mfo mfn) (h6 : rI b1 0 25 ∧ rI b2 0 3 ∧ rI b3 (-1) 59 ∧ rI b5 (-1) 59) (h7 : KnR tz tk tks tc tt mk mkf mot mox) (h8 : rI mit 0 1 ∧ rI mfm 0 2 ∧ rI msz 0 60 ∧ ∀ i, rg (mim i)) (h9 : ShR xi0 xf0 xz0 xl0 0 mit mfm msz mim ∧ ShR xi1 xf1 xz1 xl1 1 mit mfm msz mim ∧ ShR xi2 xf2 xz2 xl2 2 mit mfm msz mim ∧ ShR xi3 xf3 xz3 xl3 3 mit mfm msz mim) (h10 : fi = mfi ∧ 0 ≤ fi ∧ fi ≤ 5) : OPI ro (d + 12) 81 177 [vI 1, vI i, vI 2, vI j, vI n] (heapC tb tz tk tks tc tt iu nm ou so pl nd pa ba de en sc rsz fp ss cu os a1 a2 a3 a4 a5 b1 b2 b3 b4 b5 le fi xi0 xf0 xz0 xl0 xi1 xf1 xz1 xl1 xi2 xf2 xz2 xl2 xi3 xf3 xz3 xl3) (heapM mtz mt mk mkf mot mox mfa mnd miu mnm mso mou mpl msc mar mex men mnn mon mde mbt mfo mfn mma mit mfm msz mim mmo mfi) := by
  obtain ⟨rfl, rfl⟩ := h1
  obtain ⟨s0, s1, s2, s3⟩ := id h9
  obtain ⟨⟨rfl, l2⟩, ⟨rfl, x2⟩, ⟨rfl, z2⟩, -, -⟩ := id s1
  obtain ⟨⟨rfl, k2⟩, ⟨rfl, y2⟩, ⟨rfl, v2⟩, -, -⟩ := id s2
  obtain ⟨m1, m2, m3, m4⟩ := id h8
  intro Q hQ
  refine t_copy_1_2 ri rj rn l2 k2 x2 y2 z2 v2 (fun e => ?_) (fun e e2 => ?_) (fun e e2 e3 => ?_) (fun e e2 e3 => ?_)
  · refine hQ _ _ (fun Q2 hq => ?_)
    refine r_copy (by unfold rg; omega) (by unfold rg; omega) ri rj rn m1 m2 m3 (fun e' => absurd (by omega) e') (fun _ _ => ?_) (fun _ e' => absurd e' (by omega)) (fun _ e' => absurd e' (by omega)) (fun _ e' => absurd e' (by omega))
    exact hq _ (by unfold rg; omega) (mkSR ⟨rfl, rfl⟩ h2 h3 h4 h5 h6 h7 h8 h9 ⟨rfl, by omega, by omega⟩)
  · refine hQ _ _ (fun Q2 hq => ?_)
    refine r_copy (by unfold rg; omega) (by unfold rg; omega) ri rj rn m1 m2 m3 (fun e' => absurd (by omega) e') (fun _ e' => absurd (by omega) e') (fun _ _ _ => ?_) (fun _ _ e' => absurd e' e2) (fun _ _ e' => absurd e' e2)
    exact hq _ (by unfold rg; omega) (mkSR ⟨rfl, rfl⟩ h2 h3 h4 h5 h6 h7 h8 h9 ⟨rfl, by omega, by omega⟩)
  · refine hQ _ _ (fun Q2 hq => ?_)
    refine r_copy (by unfold rg; omega) (by unfold rg; omega) ri rj rn m1 m2 m3 (fun e' => absurd (by omega) e') (fun _ e' => absurd (by omega) e') (fun _ _ e' => absurd e2 e') (fun _ _ _ _ => ?_) (fun _ _ _ e' => absurd e' e3)
    exact hq _ (by unfold rg; omega) (mkSR ⟨rfl, rfl⟩ h2 h3 h4 h5 h6 h7 h8 h9 ⟨rfl, by omega, by omega⟩)
  · refine hQ _ _ (fun Q2 hq => ?_)
    refine r_copy (by unfold rg; omega) (by unfold rg; omega) ri rj rn m1 m2 m3 (fun e' => absurd (by omega) e') (fun _ e' => absurd (by omega) e') (fun _ _ e' => absurd e2 e') (fun _ _ _ e' => absurd e3 e') (fun _ _ _ _ mmo' => ?_)
    refine hq _ (by unfold rg; omega) (mkSR ⟨rfl, rfl⟩ h2 h3 h4 h5 h6 h7 ⟨m1, m2, m3, fun k => ?_⟩ ⟨L_copyN s0 (by omega) (by omega), L_copyN s1 (by omega) (by omega), L_copy s1 s2 (by omega) (by omega), L_copyN s3 (by omega) (by omega)⟩ h10)
    unfold fb
    split
    · exact m4 _
    · exact m4 k
set_option maxRecDepth 100000 in
set_option maxHeartbeats 4000000 in
theorem op_copy_1_3 {i j n : Int} (ri : rg i) (rj : rg j) (rn : rg n) (h1 : tb = mt ∧ tz = mtz) (h2 : 0 ≤ tz ∧ tz ≤ 100) (h3 : rI tb 0 255) (h4 : CRd tb tz fp nd sc rsz iu nm so ou pl pa ba en a1 a2 a3 a4 a5) (h5 : RM miu mnm mso mou mpl mar mex men mnn mon mde mbt mfo mfn) (h6 : rI b1 0 25 ∧ rI b2 0 3 ∧ rI b3 (-1) 59 ∧ rI b5 (-1) 59) (h7 : KnR tz tk tks tc tt mk mkf mot mox) (h8 : rI mit 0 1 ∧ rI mfm 0 2 ∧ rI msz 0 60 ∧ ∀ i, rg (mim i)) (h9 : ShR xi0 xf0 xz0 xl0 0 mit mfm msz mim ∧ ShR xi1 xf1 xz1 xl1 1 mit mfm msz mim ∧ ShR xi2 xf2 xz2 xl2 2 mit mfm msz mim ∧ ShR xi3 xf3 xz3 xl3 3 mit mfm msz mim) (h10 : fi = mfi ∧ 0 ≤ fi ∧ fi ≤ 5) : OPI ro (d + 12) 81 177 [vI 1, vI i, vI 3, vI j, vI n] (heapC tb tz tk tks tc tt iu nm ou so pl nd pa ba de en sc rsz fp ss cu os a1 a2 a3 a4 a5 b1 b2 b3 b4 b5 le fi xi0 xf0 xz0 xl0 xi1 xf1 xz1 xl1 xi2 xf2 xz2 xl2 xi3 xf3 xz3 xl3) (heapM mtz mt mk mkf mot mox mfa mnd miu mnm mso mou mpl msc mar mex men mnn mon mde mbt mfo mfn mma mit mfm msz mim mmo mfi) := by
  obtain ⟨rfl, rfl⟩ := h1
  obtain ⟨s0, s1, s2, s3⟩ := id h9
  obtain ⟨⟨rfl, l2⟩, ⟨rfl, x2⟩, ⟨rfl, z2⟩, -, -⟩ := id s1
  obtain ⟨⟨rfl, k2⟩, ⟨rfl, y2⟩, ⟨rfl, v2⟩, -, -⟩ := id s3
  obtain ⟨m1, m2, m3, m4⟩ := id h8
  intro Q hQ
  refine t_copy_1_3 ri rj rn l2 k2 x2 y2 z2 v2 (fun e => ?_) (fun e e2 => ?_) (fun e e2 e3 => ?_) (fun e e2 e3 => ?_)
  · refine hQ _ _ (fun Q2 hq => ?_)
    refine r_copy (by unfold rg; omega) (by unfold rg; omega) ri rj rn m1 m2 m3 (fun e' => absurd (by omega) e') (fun _ _ => ?_) (fun _ e' => absurd e' (by omega)) (fun _ e' => absurd e' (by omega)) (fun _ e' => absurd e' (by omega))
    exact hq _ (by unfold rg; omega) (mkSR ⟨rfl, rfl⟩ h2 h3 h4 h5 h6 h7 h8 h9 ⟨rfl, by omega, by omega⟩)
  · refine hQ _ _ (fun Q2 hq => ?_)
    refine r_copy (by unfold rg; omega) (by unfold rg; omega) ri rj rn m1 m2 m3 (fun e' => absurd (by omega) e') (fun _ e' => absurd (by omega) e') (fun _ _ _ => ?_) (fun _ _ e' => absurd e' e2) (fun _ _ e' => absurd e' e2)
    exact hq _ (by unfold rg; omega) (mkSR ⟨rfl, rfl⟩ h2 h3 h4 h5 h6 h7 h8 h9 ⟨rfl, by omega, by omega⟩)
  · refine hQ _ _ (fun Q2 hq => ?_)
    refine r_copy (by unfold rg; omega) (by unfold rg; omega) ri rj rn m1 m2 m3 (fun e' => absurd (by omega) e') (fun _ e' => absurd (by omega) e') (fun _ _ e' => absurd e2 e') (fun _ _ _ _ => ?_) (fun _ _ _ e' => absurd e' e3)
    exact hq _ (by unfold rg; omega) (mkSR ⟨rfl, rfl⟩ h2 h3 h4 h5 h6 h7 h8 h9 ⟨rfl, by omega, by omega⟩)
  · refine hQ _ _ (fun Q2 hq => ?_)
    refine r_copy (by unfold rg; omega) (by unfold rg; omega) ri rj rn m1 m2 m3 (fun e' => absurd (by omega) e') (fun _ e' => absurd (by omega) e') (fun _ _ e' => absurd e2 e') (fun _ _ _ e' => absurd e3 e') (fun _ _ _ _ mmo' => ?_)
    refine hq _ (by unfold rg; omega) (mkSR ⟨rfl, rfl⟩ h2 h3 h4 h5 h6 h7 ⟨m1, m2, m3, fun k => ?_⟩ ⟨L_copyN s0 (by omega) (by omega), L_copyN s1 (by omega) (by omega), L_copyN s2 (by omega) (by omega), L_copy s1 s3 (by omega) (by omega)⟩ h10)
    unfold fb
    split
    · exact m4 _
    · exact m4 k
set_option maxRecDepth 100000 in
set_option maxHeartbeats 4000000 in
theorem op_copy_2_0 {i j n : Int} (ri : rg i) (rj : rg j) (rn : rg n) (h1 : tb = mt ∧ tz = mtz) (h2 : 0 ≤ tz ∧ tz ≤ 100) (h3 : rI tb 0 255) (h4 : CRd tb tz fp nd sc rsz iu nm so ou pl pa ba en a1 a2 a3 a4 a5) (h5 : RM miu mnm mso mou mpl mar mex men mnn mon mde mbt mfo mfn) (h6 : rI b1 0 25 ∧ rI b2 0 3 ∧ rI b3 (-1) 59 ∧ rI b5 (-1) 59) (h7 : KnR tz tk tks tc tt mk mkf mot mox) (h8 : rI mit 0 1 ∧ rI mfm 0 2 ∧ rI msz 0 60 ∧ ∀ i, rg (mim i)) (h9 : ShR xi0 xf0 xz0 xl0 0 mit mfm msz mim ∧ ShR xi1 xf1 xz1 xl1 1 mit mfm msz mim ∧ ShR xi2 xf2 xz2 xl2 2 mit mfm msz mim ∧ ShR xi3 xf3 xz3 xl3 3 mit mfm msz mim) (h10 : fi = mfi ∧ 0 ≤ fi ∧ fi ≤ 5) : OPI ro (d + 12) 81 177 [vI 2, vI i, vI 0, vI j, vI n] (heapC tb tz tk tks tc tt iu nm ou so pl nd pa ba de en sc rsz fp ss cu os a1 a2 a3 a4 a5 b1 b2 b3 b4 b5 le fi xi0 xf0 xz0 xl0 xi1 xf1 xz1 xl1 xi2 xf2 xz2 xl2 xi3 xf3 xz3 xl3) (heapM mtz mt mk mkf mot mox mfa mnd miu mnm mso mou mpl msc mar mex men mnn mon mde mbt mfo mfn mma mit mfm msz mim mmo mfi) := by
  obtain ⟨rfl, rfl⟩ := h1
  obtain ⟨s0, s1, s2, s3⟩ := id h9
  obtain ⟨⟨rfl, l2⟩, ⟨rfl, x2⟩, ⟨rfl, z2⟩, -, -⟩ := id s2
  obtain ⟨⟨rfl, k2⟩, ⟨rfl, y2⟩, ⟨rfl, v2⟩, -, -⟩ := id s0
  obtain ⟨m1, m2, m3, m4⟩ := id h8
  intro Q hQ
  refine t_copy_2_0 ri rj rn l2 k2 x2 y2 z2 v2 (fun e => ?_) (fun e e2 => ?_) (fun e e2 e3 => ?_) (fun e e2 e3 => ?_)
  · refine hQ _ _ (fun Q2 hq => ?_)
    refine r_copy (by unfold rg; omega) (by unfold rg; omega) ri rj rn m1 m2 m3 (fun e' => absurd (by omega) e') (fun _ _ => ?_) (fun _ e' => absurd e' (by omega)) (fun _ e' => absurd e' (by omega)) (fun _ e' => absurd e' (by omega))
    exact hq _ (by unfold rg; omega) (mkSR ⟨rfl, rfl⟩ h2 h3 h4 h5 h6 h7 h8 h9 ⟨rfl, by omega, by omega⟩)
  · refine hQ _ _ (fun Q2 hq => ?_)
    refine r_copy (by unfold rg; omega) (by unfold rg; omega) ri rj rn m1 m2 m3 (fun e' => absurd (by omega) e') (fun _ e' => absurd (by omega) e') (fun _ _ _ => ?_) (fun _ _ e' => absurd e' e2) (fun _ _ e' => absurd e' e2)
    exact hq _ (by unfold rg; omega) (mkSR ⟨rfl, rfl⟩ h2 h3 h4 h5 h6 h7 h8 h9 ⟨rfl, by omega, by omega⟩)
  · refine hQ _ _ (fun Q2 hq => ?_)
    refine r_copy (by unfold rg; omega) (by unfold rg; omega) ri rj rn m1 m2 m3 (fun e' => absurd (by omega) e') (fun _ e' => absurd (by omega) e') (fun _ _ e' => absurd e2 e') (fun _ _ _ _ => ?_) (fun _ _ _ e' => absurd e' e3)
    exact hq _ (by unfold rg; omega) (mkSR ⟨rfl, rfl⟩ h2 h3 h4 h5 h6 h7 h8 h9 ⟨rfl, by omega, by omega⟩)
  · refine hQ _ _ (fun Q2 hq => ?_)
    refine r_copy (by unfold rg; omega) (by unfold rg; omega) ri rj rn m1 m2 m3 (fun e' => absurd (by omega) e') (fun _ e' => absurd (by omega) e') (fun _ _ e' => absurd e2 e') (fun _ _ _ e' => absurd e3 e') (fun _ _ _ _ mmo' => ?_)
    refine hq _ (by unfold rg; omega) (mkSR ⟨rfl, rfl⟩ h2 h3 h4 h5 h6 h7 ⟨m1, m2, m3, fun k => ?_⟩ ⟨L_copy s2 s0 (by omega) (by omega), L_copyN s1 (by omega) (by omega), L_copyN s2 (by omega) (by omega), L_copyN s3 (by omega) (by omega)⟩ h10)
    unfold fb
    split
    · exact m4 _
    · exact m4 k
set_option maxRecDepth 100000 in
set_option maxHeartbeats 4000000 in
theorem op_copy_2_1 {i j n : Int} (ri : rg i) (rj : rg j) (rn : rg n) (h1 : tb = mt ∧ tz = mtz) (h2 : 0 ≤ tz ∧ tz ≤ 100) (h3 : rI tb 0 255) (h4 : CRd tb tz fp nd sc rsz iu nm so ou pl pa ba en a1 a2 a3 a4 a5) (h5 : RM miu mnm mso mou mpl mar mex men mnn mon mde mbt mfo mfn) (h6 : rI b1 0 25 ∧ rI b2 0 3 ∧ rI b3 (-1) 59 ∧ rI b5 (-1) 59) (h7 : KnR tz tk tks tc tt mk mkf mot mox) (h8 : rI mit 0 1 ∧ rI mfm 0 2 ∧ rI msz 0 60 ∧ ∀ i, rg (mim i)) (h9 : ShR xi0 xf0 xz0 xl0 0 mit mfm msz mim ∧ ShR xi1 xf1 xz1 xl1 1 mit mfm msz mim ∧ ShR xi2 xf2 xz2 xl2 2 mit mfm msz mim ∧ ShR xi3 xf3 xz3 xl3 3 mit mfm msz mim) (h10 : fi = mfi ∧ 0 ≤ fi ∧ fi ≤ 5) : OPI ro (d + 12) 81 177 [vI 2, vI i, vI 1, vI j, vI n] (heapC tb tz tk tks tc tt iu nm ou so pl nd pa ba de en sc rsz fp ss cu os a1 a2 a3 a4 a5 b1 b2 b3 b4 b5 le fi xi0 xf0 xz0 xl0 xi1 xf1 xz1 xl1 xi2 xf2 xz2 xl2 xi3 xf3 xz3 xl3) (heapM mtz mt mk mkf mot mox mfa mnd miu mnm mso mou mpl msc mar mex men mnn mon mde mbt mfo mfn mma mit mfm msz mim mmo mfi) := by
  obtain ⟨rfl, rfl⟩ := h1
  obtain ⟨s0, s1, s2, s3⟩ := id h9
  obtain ⟨⟨rfl, l2⟩, ⟨rfl, x2⟩, ⟨rfl, z2⟩, -, -⟩ := id s2
  obtain ⟨⟨rfl, k2⟩, ⟨rfl, y2⟩, ⟨rfl, v2⟩, -, -⟩ := id s1
  obtain ⟨m1, m2, m3, m4⟩ := id h8
  intro Q hQ
  refine t_copy_2_1 ri rj rn l2 k2 x2 y2 z2 v2 (fun e => ?_) (fun e e2 => ?_) (fun e e2 e3 => ?_) (fun e e2 e3 => ?_)
  · refine hQ _ _ (fun Q2 hq => ?_)
    refine r_copy (by unfold rg; omega) (by unfold rg; omega) ri rj rn m1 m2 m3 (fun e' => absurd (by omega) e') (fun _ _ => ?_) (fun _ e' => absurd e' (by omega)) (fun _ e' => absurd e' (by omega)) (fun _ e' => absurd e' (by omega))
    exact hq _ (by unfold rg; omega) (mkSR ⟨rfl, rfl⟩ h2 h3 h4 h5 h6 h7 h8 h9 ⟨rfl, by omega, by omega⟩)
  · refine hQ _ _ (fun Q2 hq => ?_)
    refine r_copy (by unfold rg; omega) (by unfold rg; omega) ri rj rn m1 m2 m3 (fun e' => absurd (by omega) e') (fun _ e' => absurd (by omega) e') (fun _ _ _ => ?_) (fun _ _ e' => absurd e' e2) (fun _ _ e' => absurd e' e2)
    exact hq _ (by unfold rg; omega) (mkSR ⟨rfl, rfl⟩ h2 h3 h4 h5 h6 h7 h8 h9 ⟨rfl, by omega, by omega⟩)
  · refine hQ _ _ (fun Q2 hq => ?_)
    refine r_copy (by unfold rg; omega) (by unfold rg; omega) ri rj rn m1 m2 m3 (fun e' => absurd (by omega) e') (fun _ e' => absurd (by omega) e') (fun _ _ e' => absurd e2 e') (fun _ _ _ _ => ?_) (fun _ _ _ e' => absurd e' e3)
    exact hq _ (by unfold rg; omega) (mkSR ⟨rfl, rfl⟩ h2 h3 h4 h5 h6 h7 h8 h9 ⟨rfl, by omega, by omega⟩)
  · refine hQ _ _ (fun Q2 hq => ?_)
    refine r_copy (by unfold rg; omega) (by unfold rg; omega) ri rj rn m1 m2 m3 (fun e' => absurd (by omega) e') (fun _ e' => absurd (by omega) e') (fun _ _ e' => absurd e2 e') (fun _ _ _ e' => absurd e3 e') (fun _ _ _ _ mmo' => ?_)
    refine hq _ (by unfold rg; omega) (mkSR ⟨rfl, rfl⟩ h2 h3 h4 h5 h6 h7 ⟨m1, m2, m3, fun k => ?_⟩ ⟨L_copyN s0 (by omega) (by omega), L_copy s2 s1 (by omega) (by omega), L_copyN s2 (by omega) (by omega), L_copyN s3 (by omega) (by omega)⟩ h10)
    unfold fb
    split
    · exact m4 _
    · exact m4 k
set_option maxRecDepth 100000 in
set_option maxHeartbeats 4000000 in
theorem op_copy_2_2 {i j n : Int} (ri : rg i) (rj : rg j) (rn : rg n) (h1 : tb = mt ∧ tz = mtz) (h2 : 0 ≤ tz ∧ tz ≤ 100) (h3 : rI tb 0 255) (h4 : CRd tb tz fp nd sc rsz iu nm so ou pl pa ba en a1 a2 a3 a4 a5) (h5 : RM miu mnm mso mou mpl mar mex men mnn mon mde mbt mfo mfn) (h6 : rI b1 0 25 ∧ rI b2 0 3 ∧ rI b3 (-1) 59 ∧ rI b5 (-1) 59) (h7 : KnR tz tk tks tc tt mk mkf mot mox) (h8 : rI mit 0 1 ∧ rI mfm 0 2 ∧ rI msz 0 60 ∧ ∀ i, rg (mim i)) (h9 : ShR xi0 xf0 xz0 xl0 0 mit mfm msz mim ∧ ShR xi1 xf1 xz1 xl1 1 mit mfm msz mim ∧ ShR xi2 xf2 xz2 xl2 2 mit mfm msz mim ∧ ShR xi3 xf3 xz3 xl3 3 mit mfm msz mim) (h10 : fi = mfi ∧ 0 ≤ fi ∧ fi ≤ 5) : OPI ro (d + 12) 81 177 [vI 2, vI i, vI 2, vI j, vI n] (heapC tb tz tk tks tc tt iu nm ou so pl nd pa ba de en sc rsz fp ss cu os a1 a2 a3 a4 a5 b1 b2 b3 b4 b5 le fi xi0 xf0 xz0 xl0 xi1 xf1 xz1 xl1 xi2 xf2 xz2 xl2 xi3 xf3 xz3 xl3) (heapM mtz mt mk mkf mot mox mfa mnd miu mnm mso mou mpl msc mar mex men mnn mon mde mbt mfo mfn mma mit mfm msz mim mmo mfi) := by
  obtain ⟨rfl, rfl⟩ := h1
  obtain ⟨s0, s1, s2, s3⟩ := id h9
  obtain ⟨⟨rfl, l2⟩, ⟨rfl, x2⟩, ⟨rfl, z2⟩, -, -⟩ := id s2
  obtain ⟨m1, m2, m3, m4⟩ := id h8
  intro Q hQ
  refine t_copy_2_2 ri rj rn l2 l2 x2 x2 z2 z2 (fun e => ?_) (fun e e2 => ?_) (fun e e2 e3 => ?_) (fun e e2 e3 => ?_)
  · refine hQ _ _ (fun Q2 hq => ?_)
    refine r_copy (by unfold rg; omega) (by unfold rg; omega) ri rj rn m1 m2 m3 (fun e' => absurd (by omega) e') (fun _ _ => ?_) (fun _ e' => absurd e' (by omega)) (fun _ e' => absurd e' (by omega)) (fun _ e' => absurd e' (by omega))
    exact hq _ (by unfold rg; omega) (mkSR ⟨rfl, rfl⟩ h2 h3 h4 h5 h6 h7 h8 h9 ⟨rfl, by omega, by omega⟩)
  · refine hQ _ _ (fun Q2 hq => ?_)
    refine r_copy (by unfold rg; omega) (by unfold rg; omega) ri rj rn m1 m2 m3 (fun e' => absurd (by omega) e') (fun _ e' => absurd (by omega) e') (fun _ _ _ => ?_) (fun _ _ e' => absurd e' e2) (fun _ _ e' => absurd e' e2)
    exact hq _ (by unfold rg; omega) (mkSR ⟨rfl, rfl⟩ h2 h3 h4 h5 h6 h7 h8 h9 ⟨rfl, by omega, by omega⟩)
  · refine hQ _ _ (fun Q2 hq => ?_)
    refine r_copy (by unfold rg; omega) (by unfold rg; omega) ri rj rn m1 m2 m3 (fun e' => absurd (by omega) e') (fun _ e' => absurd (by omega) e') (fun _ _ e' => absurd e2 e') (fun _ _ _ _ => ?_) (fun _ _ _ e' => absurd e' e3)
    exact hq _ (by unfold rg; omega) (mkSR ⟨rfl, rfl⟩ h2 h3 h4 h5 h6 h7 h8 h9 ⟨rfl, by omega, by omega⟩)
  · refine hQ _ _ (fun Q2 hq => ?_)
    refine r_copy (by unfold rg; omega) (by unfold rg; omega) ri rj rn m1 m2 m3 (fun e' => absurd (by omega) e') (fun _ e' => absurd (by omega) e') (fun _ _ e' => absurd e2 e') (fun _ _ _ e' => absurd e3 e') (fun _ _ _ _ mmo' => ?_)
    refine hq _ (by unfold rg; omega) (mkSR ⟨rfl, rfl⟩ h2 h3 h4 h5 h6 h7 ⟨m1, m2, m3, fun k => ?_⟩ ⟨L_copyN s0 (by omega) (by omega), L_copyN s1 (by omega) (by omega), L_copy s2 s2 (by omega) (by omega), L_copyN s3 (by omega) (by omega)⟩ h10)
    unfold fb
    split
    · exact m4 _
    · exact m4 k
set_option maxRecDepth 100000 in
set_option maxHeartbeats 4000000 in
theorem op_copy_2_3 {i j n : Int} (ri : rg i) (rj : rg j) (rn : rg n) (h1 : tb = mt ∧ tz = mtz) (h2 : 0 ≤ tz ∧ tz ≤ 100) (h3 : rI tb 0 255) (h4 : CRd tb tz fp nd sc rsz iu nm so ou pl pa ba en a1 a2 a3 a4 a5) (h5 : RM miu mnm mso mou mpl mar mex men mnn mon mde mbt mfo mfn) (h6 : rI b1 0 25 ∧ rI b2 0 3 ∧ rI b3 (-1) 59 ∧ rI b5 (-1) 59) (h7 : KnR tz tk tks tc tt mk mkf mot mox) (h8 : rI mit 0 1 ∧ rI mfm 0 2 ∧ rI msz 0 60 ∧ ∀ i, rg (mim i)) (h9 : ShR xi0 xf0 xz0 xl0 0 mit mfm msz mim ∧ ShR xi1 xf1 xz1 xl1 1 mit mfm msz mim ∧ ShR xi2 xf2 xz2 xl2 2 mit mfm msz mim ∧ ShR xi3 xf3 xz3 xl3 3 mit mfm msz mim) (h10 : fi = mfi ∧ 0 ≤ fi ∧ fi ≤ 5) : OPI ro (d + 12) 81 177 [vI 2, vI i, vI 3, vI j, vI n] (heapC tb tz tk tks tc tt iu nm ou so pl nd pa ba de en sc rsz fp ss cu os a1 a2 a3 a4 a5 b1 b2 b3 b4 b5 le fi xi0 xf0 xz0 xl0 xi1 xf1 xz1 xl1 xi2 xf2 xz2 xl2 xi3 xf3 xz3 xl3) (heapM mtz mt mk mkf mot mox mfa mnd miu mnm mso mou mpl msc mar mex men mnn mon mde mbt mfo mfn mma mit mfm msz mim mmo mfi) := by
  obtain ⟨rfl, rfl⟩ := h1
  obtain ⟨s0, s1, s2, s3⟩ := id h9
  obtain ⟨⟨rfl, l2⟩, ⟨rfl, x2⟩, ⟨rfl, z2⟩, -, -⟩ := id s2
  obtain ⟨⟨rfl, k2⟩, ⟨rfl, y2⟩, ⟨rfl, v2⟩, -, -⟩ := id s3
  obtain ⟨m1, m2, m3, m4⟩ := id h8
  intro Q hQ
  refine t_copy_2_3 ri rj rn l2 k2 x2 y2 z2 v2 (fun e => ?_) (fun e e2 => ?_) (fun e e2 e3 => ?_) (fun e e2 e3 => ?_)
  · refine hQ _ _ (fun Q2 hq => ?_)
    refine r_copy (by unfold rg; omega) (by unfold rg; omega) ri rj rn m1 m2 m3 (fun e' => absurd (by omega) e') (fun _ _ => ?_) (fun _ e' => absurd e' (by omega)) (fun _ e' => absurd e' (by omega)) (fun _ e' => absurd e' (by omega))
    exact hq _ (by unfold rg; omega) (mkSR ⟨rfl, rfl⟩ h2 h3 h4 h5 h6 h7 h8 h9 ⟨rfl, by omega, by omega⟩)
  · refine hQ _ _ (fun Q2 hq => ?_)
    refine r_copy (by unfold rg; omega) (by unfold rg; omega) ri rj rn m1 m2 m3 (fun e' => absurd (by omega) e') (fun _ e' => absurd (by omega) e') (fun _ _ _ => ?_) (fun _ _ e' => absurd e' e2) (fun _ _ e' => absurd e' e2)
    exact hq _ (by unfold rg; omega) (mkSR ⟨rfl, rfl⟩ h2 h3 h4 h5 h6 h7 h8 h9 ⟨rfl, by omega, by omega⟩)
  · refine hQ _ _ (fun Q2 hq => ?_)
    refine r_copy (by unfold rg; omega) (by unfold rg; omega) ri rj rn m1 m2 m3 (fun e' => absurd (by omega) e') (fun _ e' => absurd (by omega) e') (fun _ _ e' => absurd e2 e') (fun _ _ _ _ => ?_) (fun _ _ _ e' => absurd e' e3)
    exact hq _ (by unfold rg; omega) (mkSR ⟨rfl, rfl⟩ h2 h3 h4 h5 h6 h7 h8 h9 ⟨rfl, by omega, by omega⟩)
  · refine hQ _ _ (fun Q2 hq => ?_)
    refine r_copy (by unfold rg; omega) (by unfold rg; omega) ri rj rn m1 m2 m3 (fun e' => absurd (by omega) e') (fun _ e' => absurd (by omega) e') (fun _ _ e' => absurd e2 e') (fun _ _ _ e' => absurd e3 e') (fun _ _ _ _ mmo' => ?_)
    refine hq _ (by unfold rg; omega) (mkSR ⟨rfl, rfl⟩ h2 h3 h4 h5 h6 h7 ⟨m1, m2, m3, fun k => ?_⟩ ⟨L_copyN s0 (by omega) (by omega), L_copyN s1 (by omega) (by omega), L_copyN s2 (by omega) (by omega), L_copy s2 s3 (by omega) (by omega)⟩ h10)
    unfold fb
    split
    · exact m4 _
    · exact m4 k
set_option maxRecDepth 100000 in
set_option maxHeartbeats 4000000 in
theorem op_copy_3_0 {i j n : Int} (ri : rg i) (rj : rg j) (rn : rg n) (h1 : tb = mt ∧ tz = mtz) (h2 : 0 ≤ tz ∧ tz ≤ 100) (h3 : rI tb 0 255) (h4 : CRd tb tz fp nd sc rsz iu nm so ou pl pa ba en a1 a2 a3 a4 a5) (h5 : RM miu mnm mso mou mpl mar mex men mnn mon mde mbt mfo mfn) (h6 : rI b1 0 25 ∧ rI b2 0 3 ∧ rI b3 (-1) 59 ∧ rI b5 (-1) 59) (h7 : KnR tz tk tks tc tt mk mkf mot mox) (h8 : rI mit 0 1 ∧ rI mfm 0 2 ∧ rI msz 0 60 ∧ ∀ i, rg (mim i)) (h9 : ShR xi0 xf0 xz0 xl0 0 mit mfm msz mim ∧ ShR xi1 xf1 xz1 xl1 1 mit mfm msz mim ∧ ShR xi2 xf2 xz2 xl2 2 mit mfm msz mim ∧ ShR xi3 xf3 xz3 xl3 3 mit mfm msz mim) (h10 : fi = mfi ∧ 0 ≤ fi ∧ fi ≤ 5) : OPI ro (d + 12) 81 177 [vI 3, vI i, vI 0, vI j, vI n] (heapC tb tz tk tks tc tt iu nm ou so pl nd pa ba de en sc rsz fp ss cu os a1 a2 a3 a4 a5 b1 b2 b3 b4 b5 le fi xi0 xf0 xz0 xl0 xi1 xf1 xz1 xl1 xi2 xf2 xz2 xl2 xi3 xf3 xz3 xl3) (heapM mtz mt mk mkf mot mox mfa mnd miu mnm mso mou mpl msc mar mex men mnn mon mde mbt mfo mfn mma mit mfm msz mim mmo mfi) := by
  obtain ⟨rfl, rfl⟩ := h1
  obtain ⟨s0, s1, s2, s3⟩ := id h9
  obtain ⟨⟨rfl, l2⟩, ⟨rfl, x2⟩, ⟨rfl, z2⟩, -, -⟩ := id s3
  obtain ⟨⟨rfl, k2⟩, ⟨rfl, y2⟩, ⟨rfl, v2⟩, -, -⟩ := id s0
  obtain ⟨m1, m2, m3, m4⟩ := id h8
  intro Q hQ
  refine t_copy_3_0 ri rj rn l2 k2 x2 y2 z2 v2 (fun e => ?_) (fun e e2 => ?_) (fun e e2 e3 => ?_) (fun e e2 e3 => ?_)
  · refine hQ _ _ (fun Q2 hq => ?_)
    refine r_copy (by unfold rg; omega) (by unfold rg; omega) ri rj rn m1 m2 m3 (fun e' => absurd (by omega) e') (fun _ _ => ?_) (fun _ e' => absurd e' (by omega)) (fun _ e' => absurd e' (by omega)) (fun _ e' => absurd e' (by omega))
    exact hq _ (by unfold rg; omega) (mkSR ⟨rfl, rfl⟩ h2 h3 h4 h5 h6 h7 h8 h9 ⟨rfl, by omega, by omega⟩)
  · refine hQ _ _ (fun Q2 hq => ?_)
    refine r_copy (by unfold rg; omega) (by unfold rg; omega) ri rj rn m1 m2 m3 (fun e' => absurd (by omega) e') (fun _ e' => absurd (by omega) e') (fun _ _ _ => ?_) (fun _ _ e' => absurd e' e2) (fun _ _ e' => absurd e' e2)
    exact hq _ (by unfold rg; omega) (mkSR ⟨rfl, rfl⟩ h2 h3 h4 h5 h6 h7 h8 h9 ⟨rfl, by omega, by omega⟩)
  · refine hQ _ _ (fun Q2 hq => ?_)
    refine r_copy (by unfold rg; omega) (by unfold rg; omega) ri rj rn m1 m2 m3 (fun e' => absurd (by omega) e') (fun _ e' => absurd (by omega) e') (fun _ _ e' => absurd e2 e') (fun _ _ _ _ => ?_) (fun _ _ _ e' => absurd e' e3)
    exact hq _ (by unfold rg; omega) (mkSR ⟨rfl, rfl⟩ h2 h3 h4 h5 h6 h7 h8 h9 ⟨rfl, by omega, by omega⟩)
  · refine hQ _ _ (fun Q2 hq => ?_)
    refine r_copy (by unfold rg; omega) (by unfold rg; omega) ri rj rn m1 m2 m3 (fun e' => absurd (by omega) e') (fun _ e' => absurd (by omega) e') (fun _ _ e' => absurd e2 e') (fun _ _ _ e' => absurd e3 e') (fun _ _ _ _ mmo' => ?_)
    refine hq _ (by unfold rg; omega) (mkSR ⟨rfl, rfl⟩ h2 h3 h4 h5 h6 h7 ⟨m1, m2, m3, fun k => ?_⟩ ⟨L_copy s3 s0 (by omega) (by omega), L_copyN s1 (by omega) (by omega), L_copyN s2 (by omega) (by omega), L_copyN s3 (by omega) (by omega)⟩ h10)
    unfold fb
    split
    · exact m4 _
    · exact m4 k
set_option maxRecDepth 100000 in
set_option maxHeartbeats 4000000 in
theorem op_copy_3_1 {i j n : Int} (ri : rg i) (rj : rg j) (rn : rg n) (h1 : tb = mt ∧ tz = mtz) (h2 : 0 ≤ tz ∧ tz ≤ 100) (h3 : rI tb 0 255) (h4 : CRd tb tz fp nd sc rsz iu nm so ou pl pa ba en a1 a2 a3 a4 a5) (h5 : RM miu mnm mso mou mpl mar mex men mnn mon mde mbt mfo mfn) (h6 : rI b1 0 25 ∧ rI b2 0 3 ∧ rI b3 (-1) 59 ∧ rI b5 (-1) 59) (h7 : KnR tz tk tks tc tt mk mkf mot mox) (h8 : rI mit 0 1 ∧ rI mfm 0 2 ∧ rI msz 0 60 ∧ ∀ i, rg (mim i)) (h9 : ShR xi0 xf0 xz0 xl0 0 mit mfm msz mim ∧ ShR xi1 xf1 xz1 xl1 1 mit mfm msz mim ∧ ShR xi2 xf2 xz2 xl2 2 mit mfm msz mim ∧ ShR xi3 xf3 xz3 xl3 3 mit mfm msz mim) (h10 : fi = mfi ∧ 0 ≤ fi ∧ fi ≤ 5) : OPI ro (d + 12) 81 177 [vI 3, vI i, vI 1, vI j, vI n] (heapC tb tz tk tks tc tt iu nm ou so pl nd pa ba de en sc rsz fp ss cu os a1 a2 a3 a4 a5 b1 b2 b3 b4 b5 le fi xi0 xf0 xz0 xl0 xi1 xf1 xz1 xl1 xi2 xf2 xz2 xl2 xi3 xf3 xz3 xl3) (heapM mtz mt mk mkf mot mox mfa mnd miu mnm mso mou mpl msc mar mex men mnn mon mde mbt mfo mfn mma mit mfm msz mim mmo mfi) := by
  obtain ⟨rfl, rfl⟩ := h1
  obtain ⟨s0, s1, s2, s3⟩ := id h9
  obtain ⟨⟨rfl, l2⟩, ⟨rfl, x2⟩, ⟨rfl, z2⟩, -, -⟩ := id s3
  obtain ⟨⟨rfl, k2⟩, ⟨rfl, y2⟩, ⟨rfl, v2⟩, -, -⟩ := id s1
  obtain ⟨m1, m2, m3, m4⟩ := id h8
  intro Q hQ
  refine t_copy_3_1 ri rj rn l2 k2 x2 y2 z2 v2 (fun e => ?_) (fun e e2 => ?_) (fun e e2 e3 => ?_) (fun e e2 e3 => ?_)
  · refine hQ _ _ (fun Q2 hq => ?_)
    refine r_copy (by unfold rg; omega) (by unfold rg; omega) ri rj rn m1 m2 m3 (fun e' => absurd (by omega) e') (fun _ _ => ?_) (fun _ e' => absurd e' (by omega)) (fun _ e' => absurd e' (by omega)) (fun _ e' => absurd e' (by omega))
    exact hq _ (by unfold rg; omega) (mkSR ⟨rfl, rfl⟩ h2 h3 h4 h5 h6 h7 h8 h9 ⟨rfl, by omega, by omega⟩)
  · refine hQ _ _ (fun Q2 hq => ?_)
    refine r_copy (by unfold rg; omega) (by unfold rg; omega) ri rj rn m1 m2 m3 (fun e' => absurd (by omega) e') (fun _ e' => absurd (by omega) e') (fun _ _ _ => ?_) (fun _ _ e' => absurd e' e2) (fun _ _ e' => absurd e' e2)
    exact hq _ (by unfold rg; omega) (mkSR ⟨rfl, rfl⟩ h2 h3 h4 h5 h6 h7 h8 h9 ⟨rfl, by omega, by omega⟩)
  · refine hQ _ _ (fun Q2 hq => ?_)
    refine r_copy (by unfold rg; omega) (by unfold rg; omega) ri rj rn m1 m2 m3 (fun e' => absurd (by omega) e') (fun _ e' => absurd (by omega) e') (fun _ _ e' => absurd e2 e') (fun _ _ _ _ => ?_) (fun _ _ _ e' => absurd e' e3)
    exact hq _ (by unfold rg; omega) (mkSR ⟨rfl, rfl⟩ h2 h3 h4 h5 h6 h7 h8 h9 ⟨rfl, by omega, by omega⟩)
  · refine hQ _ _ (fun Q2 hq => ?_)
    refine r_copy (by unfold rg; omega) (by unfold rg; omega) ri rj rn m1 m2 m3 (fun e' => absurd (by omega) e') (fun _ e' => absurd (by omega) e') (fun _ _ e' => absurd e2 e') (fun _ _ _ e' => absurd e3 e') (fun _ _ _ _ mmo' => ?_)
    refine hq _ (by unfold rg; omega) (mkSR ⟨rfl, rfl⟩ h2 h3 h4 h5 h6 h7 ⟨m1, m2, m3, fun k => ?_⟩ ⟨L_copyN s0 (by omega) (by omega), L_copy s3 s1 (by omega) (by omega), L_copyN s2 (by omega) (by omega), L_copyN s3 (by omega) (by omega)⟩ h10)
    unfold fb
    split
    · exact m4 _
    · exact m4 k
set_option maxRecDepth 100000 in
set_option maxHeartbeats 4000000 in
theorem op_copy_3_2 {i j n : Int} (ri : rg i) (rj : rg j) (rn : rg n) (h1 : tb = mt ∧ tz = mtz) (h2 : 0 ≤ tz ∧ tz ≤ 100) (h3 : rI tb 0 255) (h4 : CRd tb tz fp nd sc rsz iu nm so ou pl pa ba en a1 a2 a3 a4 a5) (h5 : RM miu mnm mso mou mpl mar mex men mnn mon mde mbt mfo mfn) (h6 : rI b1 0 25 ∧ rI b2 0 3 ∧ rI b3 (-1) 59 ∧ rI b5 (-1) 59) (h7 : KnR tz tk tks tc tt mk mkf mot mox) (h8 : rI mit 0 1 ∧ rI mfm 0 2 ∧ rI msz 0 60 ∧ ∀ i, rg (mim i)) (h9 : ShR xi0 xf0 xz0 xl0 0 mit mfm msz mim ∧ ShR xi1 xf1 xz1 xl1 1 mit mfm msz mim ∧ ShR xi2 xf2 xz2 xl2 2 mit mfm msz mim ∧ ShR xi3 xf3 xz3 xl3 3 mit mfm msz mim) (h10 : fi = mfi ∧ 0 ≤ fi ∧ fi ≤ 5) : OPI ro (d + 12) 81 177 [vI 3, vI i, vI 2, vI j, vI n] (heapC tb tz tk tks tc tt iu nm ou so pl nd pa ba de en sc rsz fp ss cu os a1 a2 a3 a4 a5 b1 b2 b3 b4 b5 le fi xi0 xf0 xz0 xl0 xi1 xf1 xz1 xl1 xi2 xf2 xz2 xl2 xi3 xf3 xz3 xl3) (heapM mtz mt mk mkf mot mox mfa mnd miu mnm mso mou mpl msc mar mex men mnn mon mde mbt mfo mfn mma mit mfm msz mim mmo mfi) := by
  obtain ⟨rfl, rfl⟩ := h1
  obtain ⟨s0, s1, s2, s3⟩ := id h9
  obtain ⟨⟨rfl, l2⟩, ⟨rfl, x2⟩, ⟨rfl, z2⟩, -, -⟩ := id s3
  obtain ⟨⟨rfl, k2⟩, ⟨rfl, y2⟩, ⟨rfl, v2⟩, -, -⟩ := id s2
  obtain ⟨m1, m2, m3, m4⟩ := id h8
  intro Q hQ
  refine t_copy_3_2 ri rj rn l2 k2 x2 y2 z2 v2 (fun e => ?_) (fun e e2 => ?_) (fun e e2 e3 => ?_) (fun e e2 e3 => ?_)
  · refine hQ _ _ (fun Q2 hq => ?_)
    refine r_copy (by unfold rg; omega) (by unfold rg; omega) ri rj rn m1 m2 m3 (fun e' => absurd (by omega) e') (fun _ _ => ?_) (fun _ e' => absurd e' (by omega)) (fun _ e' => absurd e' (by omega)) (fun _ e' => absurd e' (by omega))
    exact hq _ (by unfold rg; omega) (mkSR ⟨rfl, rfl⟩ h2 h3 h4 h5 h6 h7 h8 h9 ⟨rfl, by omega, by omega⟩)
  · refine hQ _ _ (fun Q2 hq => ?_)
    refine r_copy (by unfold rg; omega) (by unfold rg; omega) ri rj rn m1 m2 m3 (fun e' => absurd (by omega) e') (fun _ e' => absurd (by omega) e') (fun _ _ _ => ?_) (fun _ _ e' => absurd e' e2) (fun _ _ e' => absurd e' e2)
    exact hq _ (by unfold rg; omega) (mkSR ⟨rfl, rfl⟩ h2 h3 h4 h5 h6 h7 h8 h9 ⟨rfl, by omega, by omega⟩)
  · refine hQ _ _ (fun Q2 hq => ?_)
    refine r_copy (by unfold rg; omega) (by unfold rg; omega) ri rj rn m1 m2 m3 (fun e' => absurd (by omega) e') (fun _ e' => absurd (by omega) e') (fun _ _ e' => absurd e2 e') (fun _ _ _ _ => ?_) (fun _ _ _ e' => absurd e' e3)
    exact hq _ (by unfold rg; omega) (mkSR ⟨rfl, rfl⟩ h2 h3 h4 h5 h6 h7 h8 h9 ⟨rfl, by omega, by omega⟩)
  · refine hQ _ _ (fun Q2 hq => ?_)
    refine r_copy (by unfold rg; omega) (by unfold rg; omega) ri rj rn m1 m2 m3 (fun e' => absurd (by omega) e') (fun _ e' => absurd (by omega) e') (fun _ _ e' => absurd e2 e') (fun _ _ _ e' => absurd e3 e') (fun _ _ _ _ mmo' => ?_)
    refine hq _ (by unfold rg; omega) (mkSR ⟨rfl, rfl⟩ h2 h3 h4 h5 h6 h7 ⟨m1, m2, m3, fun k => ?_⟩ ⟨L_copyN s0 (by omega) (by omega), L_copyN s1 (by omega) (by omega), L_copy s3 s2 (by omega) (by omega), L_copyN s3 (by omega) (by omega)⟩ h10)
    unfold fb
    split
    · exact m4 _
    · exact m4 k
set_option maxRecDepth 100000 in
set_option maxHeartbeats 4000000 in
theorem op_copy_3_3 {i j n : Int} (ri : rg i) (rj : rg j) (rn : rg n) (h1 : tb = mt ∧ tz = mtz) (h2 : 0 ≤ tz ∧ tz ≤ 100) (h3 : rI tb 0 255) (h4 : CRd tb tz fp nd sc rsz iu nm so ou pl pa ba en a1 a2 a3 a4 a5) (h5 : RM miu mnm mso mou mpl mar mex men mnn mon mde mbt mfo mfn) (h6 : rI b1 0 25 ∧ rI b2 0 3 ∧ rI b3 (-1) 59 ∧ rI b5 (-1) 59) (h7 : KnR tz tk tks tc tt mk mkf mot mox) (h8 : rI mit 0 1 ∧ rI mfm 0 2 ∧ rI msz 0 60 ∧ ∀ i, rg (mim i)) (h9 : ShR xi0 xf0 xz0 xl0 0 mit mfm msz mim ∧ ShR xi1 xf1 xz1 xl1 1 mit mfm msz mim ∧ ShR xi2 xf2 xz2 xl2 2 mit mfm msz mim ∧ ShR xi3 xf3 xz3 xl3 3 mit mfm msz mim) (h10 : fi = mfi ∧ 0 ≤ fi ∧ fi ≤ 5) : OPI ro (d + 12) 81 177 [vI 3, vI i, vI 3, vI j, vI n] (heapC tb tz tk tks tc tt iu nm ou so pl nd pa ba de en sc rsz fp ss cu os a1 a2 a3 a4 a5 b1 b2 b3 b4 b5 le fi xi0 xf0 xz0 xl0 xi1 xf1 xz1 xl1 xi2 xf2 xz2 xl2 xi3 xf3 xz3 xl3) (heapM mtz mt mk mkf mot mox mfa mnd miu mnm mso mou mpl msc mar mex men mnn mon mde mbt mfo mfn mma mit mfm msz mim mmo mfi) := by
  obtain ⟨rfl, rfl⟩ := h1
  obtain ⟨s0, s1, s2, s3⟩ := id h9
  obtain ⟨⟨rfl, l2⟩, ⟨rfl, x2⟩, ⟨rfl, z2⟩, -, -⟩ := id s3
  obtain ⟨m1, m2, m3, m4⟩ := id h8
  intro Q hQ
  refine t_copy_3_3 ri rj rn l2 l2 x2 x2 z2 z2 (fun e => ?_) (fun e e2 => ?_) (fun e e2 e3 => ?_) (fun e e2 e3 => ?_)
  · refine hQ _ _ (fun Q2 hq => ?_)
    refine r_copy (by unfold rg; omega) (by unfold rg; omega) ri rj rn m1 m2 m3 (fun e' => absurd (by omega) e') (fun _ _ => ?_) (fun _ e' => absurd e' (by omega)) (fun _ e' => absurd e' (by omega)) (fun _ e' => absurd e' (by omega))
    exact hq _ (by unfold rg; omega) (mkSR ⟨rfl, rfl⟩ h2 h3 h4 h5 h6 h7 h8 h9 ⟨rfl, by omega, by omega⟩)
  · refine hQ _ _ (fun Q2 hq => ?_)
    refine r_copy (by unfold rg; omega) (by unfold rg; omega) ri rj rn m1 m2 m3 (fun e' => absurd (by omega) e') (fun _ e' => absurd (by omega) e') (fun _ _ _ => ?_) (fun _ _ e' => absurd e' e2) (fun _ _ e' => absurd e' e2)
    exact hq _ (by unfold rg; omega) (mkSR ⟨rfl, rfl⟩ h2 h3 h4 h5 h6 h7 h8 h9 ⟨rfl, by omega, by omega⟩)
  · refine hQ _ _ (fun Q2 hq => ?_)
    refine r_copy (by unfold rg; omega) (by unfold rg; omega) ri rj rn m1 m2 m3 (fun e' => absurd (by omega) e') (fun _ e' => absurd (by omega) e') (fun _ _ e' => absurd e2 e') (fun _ _ _ _ => ?_) (fun _ _ _ e' => absurd e' e3)
    exact hq _ (by unfold rg; omega) (mkSR ⟨rfl, rfl⟩ h2 h3 h4 h5 h6 h7 h8 h9 ⟨rfl, by omega, by omega⟩)
  · refine hQ _ _ (fun Q2 hq => ?_)
    refine r_copy (by unfold rg; omega) (by unfold rg; omega) ri rj rn m1 m2 m3 (fun e' => absurd (by omega) e') (fun _ e' => absurd (by omega) e') (fun _ _ e' => absurd e2 e') (fun _ _ _ e' => absurd e3 e') (fun _ _ _ _ mmo' => ?_)
    refine hq _ (by unfold rg; omega) (mkSR ⟨rfl, rfl⟩ h2 h3 h4 h5 h6 h7 ⟨m1, m2, m3, fun k => ?_⟩ ⟨L_copyN s0 (by omega) (by omega), L_copyN s1 (by omega) (by omega), L_copyN s2 (by omega) (by omega), L_copy s3 s3 (by omega) (by omega)⟩ h10)
    unfold fb
    split
    · exact m4 _
    · exact m4 k
set_option maxRecDepth 100000 in
set_option maxHeartbeats 4000000 in
theorem op_copy {s i t j n : Int} (rs : rg s) (ri : rg i) (rt : rg t) (rj : rg j) (rn : rg n) (h1 : tb = mt ∧ tz = mtz) (h2 : 0 ≤ tz ∧ tz ≤ 100) (h3 : rI tb 0 255) (h4 : CRd tb tz fp nd sc rsz iu nm so ou pl pa ba en a1 a2 a3 a4 a5) (h5 : RM miu mnm mso mou mpl mar mex men mnn mon mde mbt mfo mfn) (h6 : rI b1 0 25 ∧ rI b2 0 3 ∧ rI b3 (-1) 59 ∧ rI b5 (-1) 59) (h7 : KnR tz tk tks tc tt mk mkf mot mox) (h8 : rI mit 0 1 ∧ rI mfm 0 2 ∧ rI msz 0 60 ∧ ∀ i, rg (mim i)) (h9 : ShR xi0 xf0 xz0 xl0 0 mit mfm msz mim ∧ ShR xi1 xf1 xz1 xl1 1 mit mfm msz mim ∧ ShR xi2 xf2 xz2 xl2 2 mit mfm msz mim ∧ ShR xi3 xf3 xz3 xl3 3 mit mfm msz mim) (h10 : fi = mfi ∧ 0 ≤ fi ∧ fi ≤ 5) : OPI ro (d + 12) 81 177 [vI s, vI i, vI t, vI j, vI n] (heapC tb tz tk tks tc tt iu nm ou so pl nd pa ba de en sc rsz fp ss cu os a1 a2 a3 a4 a5 b1 b2 b3 b4 b5 le fi xi0 xf0 xz0 xl0 xi1 xf1 xz1 xl1 xi2 xf2 xz2 xl2 xi3 xf3 xz3 xl3) (heapM mtz mt mk mkf mot mox mfa mnd miu mnm mso mou mpl msc mar mex men mnn mon mde mbt mfo mfn mma mit mfm msz mim mmo mfi) := by
  obtain ⟨rfl, rfl⟩ := h1
  by_cases hs : (0 ≤ s ∧ s < 4) ∧ (0 ≤ t ∧ t < 4)
  · have q : s = 0 ∨ s = 1 ∨ s = 2 ∨ s = 3 := by omega
    have q' : t = 0 ∨ t = 1 ∨ t = 2 ∨ t = 3 := by omega
    rcases q with rfl | rfl | rfl | rfl
    · rcases q' with rfl | rfl | rfl | rfl
      · exact op_copy_0_0 ri rj rn ⟨rfl, rfl⟩ h2 h3 h4 h5 h6 h7 h8 h9 h10
      · exact op_copy_0_1 ri rj rn ⟨rfl, rfl⟩ h2 h3 h4 h5 h6 h7 h8 h9 h10
      · exact op_copy_0_2 ri rj rn ⟨rfl, rfl⟩ h2 h3 h4 h5 h6 h7 h8 h9 h10
      · exact op_copy_0_3 ri rj rn ⟨rfl, rfl⟩ h2 h3 h4 h5 h6 h7 h8 h9 h10
    · rcases q' with rfl | rfl | rfl | rfl
      · exact op_copy_1_0 ri rj rn ⟨rfl, rfl⟩ h2 h3 h4 h5 h6 h7 h8 h9 h10
      · exact op_copy_1_1 ri rj rn ⟨rfl, rfl⟩ h2 h3 h4 h5 h6 h7 h8 h9 h10
      · exact op_copy_1_2 ri rj rn ⟨rfl, rfl⟩ h2 h3 h4 h5 h6 h7 h8 h9 h10
      · exact op_copy_1_3 ri rj rn ⟨rfl, rfl⟩ h2 h3 h4 h5 h6 h7 h8 h9 h10
    · rcases q' with rfl | rfl | rfl | rfl
      · exact op_copy_2_0 ri rj rn ⟨rfl, rfl⟩ h2 h3 h4 h5 h6 h7 h8 h9 h10
      · exact op_copy_2_1 ri rj rn ⟨rfl, rfl⟩ h2 h3 h4 h5 h6 h7 h8 h9 h10
      · exact op_copy_2_2 ri rj rn ⟨rfl, rfl⟩ h2 h3 h4 h5 h6 h7 h8 h9 h10
      · exact op_copy_2_3 ri rj rn ⟨rfl, rfl⟩ h2 h3 h4 h5 h6 h7 h8 h9 h10
    · rcases q' with rfl | rfl | rfl | rfl
      · exact op_copy_3_0 ri rj rn ⟨rfl, rfl⟩ h2 h3 h4 h5 h6 h7 h8 h9 h10
      · exact op_copy_3_1 ri rj rn ⟨rfl, rfl⟩ h2 h3 h4 h5 h6 h7 h8 h9 h10
      · exact op_copy_3_2 ri rj rn ⟨rfl, rfl⟩ h2 h3 h4 h5 h6 h7 h8 h9 h10
      · exact op_copy_3_3 ri rj rn ⟨rfl, rfl⟩ h2 h3 h4 h5 h6 h7 h8 h9 h10
  · intro Q hQ
    refine t_copy_x rs rt hs ?_
    refine hQ _ _ (fun Q2 hq => ?_)
    refine r_copy rs rt ri rj rn h8.1 h8.2.1 h8.2.2.1 (fun _ => ?_) (fun e' => absurd e' hs) (fun e' => absurd e' hs) (fun e' => absurd e' hs) (fun e' => absurd e' hs)
    exact hq _ (by unfold rg; omega) (mkSR ⟨rfl, rfl⟩ h2 h3 h4 h5 h6 h7 h8 h9 h10)
end OPS3
