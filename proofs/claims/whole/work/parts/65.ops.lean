/-! ===== each call on both sides: asks, text ===== -/
section OPS1
variable {ro : Nat × (Int → Int)} {d : Nat} {tb : Int → Int} {tz : Int} {tk : Int → Int → Int} {tks : Int → Int} {tc tt : Int} {iu nm ou so pl : Int → Int} {nd : Int} {pa ba de en : Int → Int} {sc rsz fp ss cu os : Int} {a1 a2 a3 : Int → Int} {a4 : Int → Int64} {a5 b1 b2 b3 : Int → Int} {b4 : Int → Int64} {b5 : Int → Int} {le fi : Int} {xi0 : Int → Int} {xf0 xz0 xl0 : Int} {xi1 : Int → Int} {xf1 xz1 xl1 : Int} {xi2 : Int → Int} {xf2 xz2 xl2 : Int} {xi3 : Int → Int} {xf3 xz3 xl3 : Int} {mtz : Int} {mt : Int → Int} {mk mkf : Int} {mot mox : Int → Int} {mfa mnd : Int} {miu mnm mso mou mpl : Int → Int} {msc : Int} {mar mex men mnn mon mde mbt mfo mfn mma mit mfm msz mim mmo : Int → Int} {mfi : Int}
set_option maxRecDepth 100000 in
set_option maxHeartbeats 4000000 in
theorem op_fault (h1 : tb = mt ∧ tz = mtz) (h2 : 0 ≤ tz ∧ tz ≤ 100) (h3 : rI tb 0 255) (h4 : CRd tb tz fp nd sc rsz iu nm so ou pl pa ba en a1 a2 a3 a4 a5) (h5 : RM miu mnm mso mou mpl mar mex men mnn mon mde mbt mfo mfn) (h6 : rI b1 0 25 ∧ rI b2 0 3 ∧ rI b3 (-1) 59 ∧ rI b5 (-1) 59) (h7 : KnR tz tk tks tc tt mk mkf mot mox) (h8 : rI mit 0 1 ∧ rI mfm 0 2 ∧ rI msz 0 60 ∧ ∀ i, rg (mim i)) (h9 : ShR xi0 xf0 xz0 xl0 0 mit mfm msz mim ∧ ShR xi1 xf1 xz1 xl1 1 mit mfm msz mim ∧ ShR xi2 xf2 xz2 xl2 2 mit mfm msz mim ∧ ShR xi3 xf3 xz3 xl3 3 mit mfm msz mim) (h10 : fi = mfi ∧ 0 ≤ fi ∧ fi ≤ 5) : OPI ro (d + 12) 60 125 [] (heapC tb tz tk tks tc tt iu nm ou so pl nd pa ba de en sc rsz fp ss cu os a1 a2 a3 a4 a5 b1 b2 b3 b4 b5 le fi xi0 xf0 xz0 xl0 xi1 xf1 xz1 xl1 xi2 xf2 xz2 xl2 xi3 xf3 xz3 xl3) (heapM mtz mt mk mkf mot mox mfa mnd miu mnm mso mou mpl msc mar mex men mnn mon mde mbt mfo mfn mma mit mfm msz mim mmo mfi) := by
  obtain ⟨rfl, rfl⟩ := h1
  intro Q hQ
  refine t_fault h4 ?_
  refine hQ _ _ (fun Q2 hq => ?_)
  refine r_fault h2 h3 h5 (fun mfa' mnd' msc' miu' mnm' mso' mou' mpl' mar' mex' men' mnn' mon' mde' mbt' mfo' mfn' hM => ?_)
  exact hq _ (rg_fa (MRd_w hM)) (mkSR ⟨rfl, rfl⟩ h2 h3 h4 (MRw_RM (MRd_w hM)) h6 h7 h8 h9 h10)
set_option maxRecDepth 100000 in
set_option maxHeartbeats 4000000 in
theorem op_node {i w : Int} (ri : rg i) (rw : rg w) (h1 : tb = mt ∧ tz = mtz) (h2 : 0 ≤ tz ∧ tz ≤ 100) (h3 : rI tb 0 255) (h4 : CRd tb tz fp nd sc rsz iu nm so ou pl pa ba en a1 a2 a3 a4 a5) (h5 : RM miu mnm mso mou mpl mar mex men mnn mon mde mbt mfo mfn) (h6 : rI b1 0 25 ∧ rI b2 0 3 ∧ rI b3 (-1) 59 ∧ rI b5 (-1) 59) (h7 : KnR tz tk tks tc tt mk mkf mot mox) (h8 : rI mit 0 1 ∧ rI mfm 0 2 ∧ rI msz 0 60 ∧ ∀ i, rg (mim i)) (h9 : ShR xi0 xf0 xz0 xl0 0 mit mfm msz mim ∧ ShR xi1 xf1 xz1 xl1 1 mit mfm msz mim ∧ ShR xi2 xf2 xz2 xl2 2 mit mfm msz mim ∧ ShR xi3 xf3 xz3 xl3 3 mit mfm msz mim) (h10 : fi = mfi ∧ 0 ≤ fi ∧ fi ≤ 5) : OPI ro (d + 12) 63 128 [vI i, vI w] (heapC tb tz tk tks tc tt iu nm ou so pl nd pa ba de en sc rsz fp ss cu os a1 a2 a3 a4 a5 b1 b2 b3 b4 b5 le fi xi0 xf0 xz0 xl0 xi1 xf1 xz1 xl1 xi2 xf2 xz2 xl2 xi3 xf3 xz3 xl3) (heapM mtz mt mk mkf mot mox mfa mnd miu mnm mso mou mpl msc mar mex men mnn mon mde mbt mfo mfn mma mit mfm msz mim mmo mfi) := by
  obtain ⟨rfl, rfl⟩ := h1
  intro Q hQ
  refine t_node ri rw h4 ?_
  refine hQ _ _ (fun Q2 hq => ?_)
  refine r_node ri rw h2 h3 h5 (fun mfa' mnd' msc' miu' mnm' mso' mou' mpl' mar' mex' men' mnn' mon' mde' mbt' mfo' mfn' hM => ?_)
  exact hq _ (rg_node (MRd_w hM)) (mkSR ⟨rfl, rfl⟩ h2 h3 h4 (MRw_RM (MRd_w hM)) h6 h7 h8 h9 h10)
set_option maxRecDepth 100000 in
set_option maxHeartbeats 4000000 in
theorem op_scope {i w : Int} (ri : rg i) (rw : rg w) (h1 : tb = mt ∧ tz = mtz) (h2 : 0 ≤ tz ∧ tz ≤ 100) (h3 : rI tb 0 255) (h4 : CRd tb tz fp nd sc rsz iu nm so ou pl pa ba en a1 a2 a3 a4 a5) (h5 : RM miu mnm mso mou mpl mar mex men mnn mon mde mbt mfo mfn) (h6 : rI b1 0 25 ∧ rI b2 0 3 ∧ rI b3 (-1) 59 ∧ rI b5 (-1) 59) (h7 : KnR tz tk tks tc tt mk mkf mot mox) (h8 : rI mit 0 1 ∧ rI mfm 0 2 ∧ rI msz 0 60 ∧ ∀ i, rg (mim i)) (h9 : ShR xi0 xf0 xz0 xl0 0 mit mfm msz mim ∧ ShR xi1 xf1 xz1 xl1 1 mit mfm msz mim ∧ ShR xi2 xf2 xz2 xl2 2 mit mfm msz mim ∧ ShR xi3 xf3 xz3 xl3 3 mit mfm msz mim) (h10 : fi = mfi ∧ 0 ≤ fi ∧ fi ≤ 5) : OPI ro (d + 12) 64 132 [vI i, vI w] (heapC tb tz tk tks tc tt iu nm ou so pl nd pa ba de en sc rsz fp ss cu os a1 a2 a3 a4 a5 b1 b2 b3 b4 b5 le fi xi0 xf0 xz0 xl0 xi1 xf1 xz1 xl1 xi2 xf2 xz2 xl2 xi3 xf3 xz3 xl3) (heapM mtz mt mk mkf mot mox mfa mnd miu mnm mso mou mpl msc mar mex men mnn mon mde mbt mfo mfn mma mit mfm msz mim mmo mfi) := by
  obtain ⟨rfl, rfl⟩ := h1
  intro Q hQ
  refine t_scope ri rw h4 ?_
  refine hQ _ _ (fun Q2 hq => ?_)
  refine r_scope ri rw h2 h3 h5 (fun mfa' mnd' msc' miu' mnm' mso' mou' mpl' mar' mex' men' mnn' mon' mde' mbt' mfo' mfn' hM => ?_)
  exact hq _ (rg_scope (MRd_w hM)) (mkSR ⟨rfl, rfl⟩ h2 h3 h4 (MRw_RM (MRd_w hM)) h6 h7 h8 h9 h10)
set_option maxRecDepth 100000 in
set_option maxHeartbeats 4000000 in
theorem op_bound {i : Int} (ri : rg i) (h1 : tb = mt ∧ tz = mtz) (h2 : 0 ≤ tz ∧ tz ≤ 100) (h3 : rI tb 0 255) (h4 : CRd tb tz fp nd sc rsz iu nm so ou pl pa ba en a1 a2 a3 a4 a5) (h5 : RM miu mnm mso mou mpl mar mex men mnn mon mde mbt mfo mfn) (h6 : rI b1 0 25 ∧ rI b2 0 3 ∧ rI b3 (-1) 59 ∧ rI b5 (-1) 59) (h7 : KnR tz tk tks tc tt mk mkf mot mox) (h8 : rI mit 0 1 ∧ rI mfm 0 2 ∧ rI msz 0 60 ∧ ∀ i, rg (mim i)) (h9 : ShR xi0 xf0 xz0 xl0 0 mit mfm msz mim ∧ ShR xi1 xf1 xz1 xl1 1 mit mfm msz mim ∧ ShR xi2 xf2 xz2 xl2 2 mit mfm msz mim ∧ ShR xi3 xf3 xz3 xl3 3 mit mfm msz mim) (h10 : fi = mfi ∧ 0 ≤ fi ∧ fi ≤ 5) : OPI ro (d + 12) 65 133 [vI i] (heapC tb tz tk tks tc tt iu nm ou so pl nd pa ba de en sc rsz fp ss cu os a1 a2 a3 a4 a5 b1 b2 b3 b4 b5 le fi xi0 xf0 xz0 xl0 xi1 xf1 xz1 xl1 xi2 xf2 xz2 xl2 xi3 xf3 xz3 xl3) (heapM mtz mt mk mkf mot mox mfa mnd miu mnm mso mou mpl msc mar mex men mnn mon mde mbt mfo mfn mma mit mfm msz mim mmo mfi) := by
  obtain ⟨rfl, rfl⟩ := h1
  intro Q hQ
  refine t_bound ri h4 ?_
  refine hQ _ _ (fun Q2 hq => ?_)
  refine r_bound ri h2 h3 h5 (fun mfa' mnd' msc' miu' mnm' mso' mou' mpl' mar' mex' men' mnn' mon' mde' mbt' mfo' mfn' hM => ?_)
  exact hq _ (rg_bound (MRd_w hM)) (mkSR ⟨rfl, rfl⟩ h2 h3 h4 (MRw_RM (MRd_w hM)) h6 h7 h8 h9 h10)
set_option maxRecDepth 100000 in
set_option maxHeartbeats 4000000 in
theorem op_own {i w : Int} (ri : rg i) (rw : rg w) (h1 : tb = mt ∧ tz = mtz) (h2 : 0 ≤ tz ∧ tz ≤ 100) (h3 : rI tb 0 255) (h4 : CRd tb tz fp nd sc rsz iu nm so ou pl pa ba en a1 a2 a3 a4 a5) (h5 : RM miu mnm mso mou mpl mar mex men mnn mon mde mbt mfo mfn) (h6 : rI b1 0 25 ∧ rI b2 0 3 ∧ rI b3 (-1) 59 ∧ rI b5 (-1) 59) (h7 : KnR tz tk tks tc tt mk mkf mot mox) (h8 : rI mit 0 1 ∧ rI mfm 0 2 ∧ rI msz 0 60 ∧ ∀ i, rg (mim i)) (h9 : ShR xi0 xf0 xz0 xl0 0 mit mfm msz mim ∧ ShR xi1 xf1 xz1 xl1 1 mit mfm msz mim ∧ ShR xi2 xf2 xz2 xl2 2 mit mfm msz mim ∧ ShR xi3 xf3 xz3 xl3 3 mit mfm msz mim) (h10 : fi = mfi ∧ 0 ≤ fi ∧ fi ≤ 5) : OPI ro (d + 12) 66 134 [vI i, vI w] (heapC tb tz tk tks tc tt iu nm ou so pl nd pa ba de en sc rsz fp ss cu os a1 a2 a3 a4 a5 b1 b2 b3 b4 b5 le fi xi0 xf0 xz0 xl0 xi1 xf1 xz1 xl1 xi2 xf2 xz2 xl2 xi3 xf3 xz3 xl3) (heapM mtz mt mk mkf mot mox mfa mnd miu mnm mso mou mpl msc mar mex men mnn mon mde mbt mfo mfn mma mit mfm msz mim mmo mfi) := by
  obtain ⟨rfl, rfl⟩ := h1
  intro Q hQ
  refine t_own ri rw h4 ?_
  refine hQ _ _ (fun Q2 hq => ?_)
  refine r_own ri rw h2 h3 h5 (fun mfa' mnd' msc' miu' mnm' mso' mou' mpl' mar' mex' men' mnn' mon' mde' mbt' mfo' mfn' hM => ?_)
  exact hq _ (rg_own (MRd_w hM)) (mkSR ⟨rfl, rfl⟩ h2 h3 h4 (MRw_RM (MRd_w hM)) h6 h7 h8 h9 h10)
set_option maxRecDepth 100000 in
set_option maxHeartbeats 4000000 in
theorem op_family {i : Int} (ri : rg i) (h1 : tb = mt ∧ tz = mtz) (h2 : 0 ≤ tz ∧ tz ≤ 100) (h3 : rI tb 0 255) (h4 : CRd tb tz fp nd sc rsz iu nm so ou pl pa ba en a1 a2 a3 a4 a5) (h5 : RM miu mnm mso mou mpl mar mex men mnn mon mde mbt mfo mfn) (h6 : rI b1 0 25 ∧ rI b2 0 3 ∧ rI b3 (-1) 59 ∧ rI b5 (-1) 59) (h7 : KnR tz tk tks tc tt mk mkf mot mox) (h8 : rI mit 0 1 ∧ rI mfm 0 2 ∧ rI msz 0 60 ∧ ∀ i, rg (mim i)) (h9 : ShR xi0 xf0 xz0 xl0 0 mit mfm msz mim ∧ ShR xi1 xf1 xz1 xl1 1 mit mfm msz mim ∧ ShR xi2 xf2 xz2 xl2 2 mit mfm msz mim ∧ ShR xi3 xf3 xz3 xl3 3 mit mfm msz mim) (h10 : fi = mfi ∧ 0 ≤ fi ∧ fi ≤ 5) : OPL ro (d + 12) 67 136 [vI i] (heapC tb tz tk tks tc tt iu nm ou so pl nd pa ba de en sc rsz fp ss cu os a1 a2 a3 a4 a5 b1 b2 b3 b4 b5 le fi xi0 xf0 xz0 xl0 xi1 xf1 xz1 xl1 xi2 xf2 xz2 xl2 xi3 xf3 xz3 xl3) (heapM mtz mt mk mkf mot mox mfa mnd miu mnm mso mou mpl msc mar mex men mnn mon mde mbt mfo mfn mma mit mfm msz mim mmo mfi) := by
  obtain ⟨rfl, rfl⟩ := h1
  intro Q hQ
  refine t_family ri h4 ?_
  refine hQ _ _ (fun Q2 hq => ?_)
  refine r_family ri h2 h3 h5 (fun mfa' mnd' msc' miu' mnm' mso' mou' mpl' mar' mex' men' mnn' mon' mde' mbt' mfo' mfn' hM => ?_)
  exact hq _ (mkSR ⟨rfl, rfl⟩ h2 h3 h4 (MRw_RM (MRd_w hM)) h6 h7 h8 h9 h10)
set_option maxRecDepth 100000 in
set_option maxHeartbeats 4000000 in
theorem op_uses {i : Int} (ri : rg i) (h1 : tb = mt ∧ tz = mtz) (h2 : 0 ≤ tz ∧ tz ≤ 100) (h3 : rI tb 0 255) (h4 : CRd tb tz fp nd sc rsz iu nm so ou pl pa ba en a1 a2 a3 a4 a5) (h5 : RM miu mnm mso mou mpl mar mex men mnn mon mde mbt mfo mfn) (h6 : rI b1 0 25 ∧ rI b2 0 3 ∧ rI b3 (-1) 59 ∧ rI b5 (-1) 59) (h7 : KnR tz tk tks tc tt mk mkf mot mox) (h8 : rI mit 0 1 ∧ rI mfm 0 2 ∧ rI msz 0 60 ∧ ∀ i, rg (mim i)) (h9 : ShR xi0 xf0 xz0 xl0 0 mit mfm msz mim ∧ ShR xi1 xf1 xz1 xl1 1 mit mfm msz mim ∧ ShR xi2 xf2 xz2 xl2 2 mit mfm msz mim ∧ ShR xi3 xf3 xz3 xl3 3 mit mfm msz mim) (h10 : fi = mfi ∧ 0 ≤ fi ∧ fi ≤ 5) : OPL ro (d + 12) 68 138 [vI i] (heapC tb tz tk tks tc tt iu nm ou so pl nd pa ba de en sc rsz fp ss cu os a1 a2 a3 a4 a5 b1 b2 b3 b4 b5 le fi xi0 xf0 xz0 xl0 xi1 xf1 xz1 xl1 xi2 xf2 xz2 xl2 xi3 xf3 xz3 xl3) (heapM mtz mt mk mkf mot mox mfa mnd miu mnm mso mou mpl msc mar mex men mnn mon mde mbt mfo mfn mma mit mfm msz mim mmo mfi) := by
  obtain ⟨rfl, rfl⟩ := h1
  intro Q hQ
  refine t_uses ri h4 ?_
  refine hQ _ _ (fun Q2 hq => ?_)
  refine r_uses ri h2 h3 h5 (fun mfa' mnd' msc' miu' mnm' mso' mou' mpl' mar' mex' men' mnn' mon' mde' mbt' mfo' mfn' hM => ?_)
  exact hq _ (mkSR ⟨rfl, rfl⟩ h2 h3 h4 (MRw_RM (MRd_w hM)) h6 h7 h8 h9 h10)
set_option maxRecDepth 100000 in
set_option maxHeartbeats 4000000 in
theorem op_hides {i : Int} (ri : rg i) (h1 : tb = mt ∧ tz = mtz) (h2 : 0 ≤ tz ∧ tz ≤ 100) (h3 : rI tb 0 255) (h4 : CRd tb tz fp nd sc rsz iu nm so ou pl pa ba en a1 a2 a3 a4 a5) (h5 : RM miu mnm mso mou mpl mar mex men mnn mon mde mbt mfo mfn) (h6 : rI b1 0 25 ∧ rI b2 0 3 ∧ rI b3 (-1) 59 ∧ rI b5 (-1) 59) (h7 : KnR tz tk tks tc tt mk mkf mot mox) (h8 : rI mit 0 1 ∧ rI mfm 0 2 ∧ rI msz 0 60 ∧ ∀ i, rg (mim i)) (h9 : ShR xi0 xf0 xz0 xl0 0 mit mfm msz mim ∧ ShR xi1 xf1 xz1 xl1 1 mit mfm msz mim ∧ ShR xi2 xf2 xz2 xl2 2 mit mfm msz mim ∧ ShR xi3 xf3 xz3 xl3 3 mit mfm msz mim) (h10 : fi = mfi ∧ 0 ≤ fi ∧ fi ≤ 5) : OPI ro (d + 12) 69 140 [vI i] (heapC tb tz tk tks tc tt iu nm ou so pl nd pa ba de en sc rsz fp ss cu os a1 a2 a3 a4 a5 b1 b2 b3 b4 b5 le fi xi0 xf0 xz0 xl0 xi1 xf1 xz1 xl1 xi2 xf2 xz2 xl2 xi3 xf3 xz3 xl3) (heapM mtz mt mk mkf mot mox mfa mnd miu mnm mso mou mpl msc mar mex men mnn mon mde mbt mfo mfn mma mit mfm msz mim mmo mfi) := by
  obtain ⟨rfl, rfl⟩ := h1
  intro Q hQ
  refine t_hides ri h4 ?_
  refine hQ _ _ (fun Q2 hq => ?_)
  refine r_hides ri h2 h3 h5 (fun mfa' mnd' msc' miu' mnm' mso' mou' mpl' mar' mex' men' mnn' mon' mde' mbt' mfo' mfn' hM => ?_)
  exact hq _ (rg_hides (MRd_w hM)) (mkSR ⟨rfl, rfl⟩ h2 h3 h4 (MRw_RM (MRd_w hM)) h6 h7 h8 h9 h10)
set_option maxRecDepth 100000 in
set_option maxHeartbeats 4000000 in
theorem op_idle (h1 : tb = mt ∧ tz = mtz) (h2 : 0 ≤ tz ∧ tz ≤ 100) (h3 : rI tb 0 255) (h4 : CRd tb tz fp nd sc rsz iu nm so ou pl pa ba en a1 a2 a3 a4 a5) (h5 : RM miu mnm mso mou mpl mar mex men mnn mon mde mbt mfo mfn) (h6 : rI b1 0 25 ∧ rI b2 0 3 ∧ rI b3 (-1) 59 ∧ rI b5 (-1) 59) (h7 : KnR tz tk tks tc tt mk mkf mot mox) (h8 : rI mit 0 1 ∧ rI mfm 0 2 ∧ rI msz 0 60 ∧ ∀ i, rg (mim i)) (h9 : ShR xi0 xf0 xz0 xl0 0 mit mfm msz mim ∧ ShR xi1 xf1 xz1 xl1 1 mit mfm msz mim ∧ ShR xi2 xf2 xz2 xl2 2 mit mfm msz mim ∧ ShR xi3 xf3 xz3 xl3 3 mit mfm msz mim) (h10 : fi = mfi ∧ 0 ≤ fi ∧ fi ≤ 5) : OPL ro (d + 12) 70 143 [] (heapC tb tz tk tks tc tt iu nm ou so pl nd pa ba de en sc rsz fp ss cu os a1 a2 a3 a4 a5 b1 b2 b3 b4 b5 le fi xi0 xf0 xz0 xl0 xi1 xf1 xz1 xl1 xi2 xf2 xz2 xl2 xi3 xf3 xz3 xl3) (heapM mtz mt mk mkf mot mox mfa mnd miu mnm mso mou mpl msc mar mex men mnn mon mde mbt mfo mfn mma mit mfm msz mim mmo mfi) := by
  obtain ⟨rfl, rfl⟩ := h1
  intro Q hQ
  refine t_idle h4 ?_
  refine hQ _ _ (fun Q2 hq => ?_)
  refine r_idle h2 h3 h5 (fun mfa' mnd' msc' miu' mnm' mso' mou' mpl' mar' mex' men' mnn' mon' mde' mbt' mfo' mfn' hM => ?_)
  exact hq _ (mkSR ⟨rfl, rfl⟩ h2 h3 h4 (MRw_RM (MRd_w hM)) h6 h7 h8 h9 h10)
set_option maxRecDepth 100000 in
set_option maxHeartbeats 4000000 in
theorem op_shown {i : Int} (ri : rg i) (h1 : tb = mt ∧ tz = mtz) (h2 : 0 ≤ tz ∧ tz ≤ 100) (h3 : rI tb 0 255) (h4 : CRd tb tz fp nd sc rsz iu nm so ou pl pa ba en a1 a2 a3 a4 a5) (h5 : RM miu mnm mso mou mpl mar mex men mnn mon mde mbt mfo mfn) (h6 : rI b1 0 25 ∧ rI b2 0 3 ∧ rI b3 (-1) 59 ∧ rI b5 (-1) 59) (h7 : KnR tz tk tks tc tt mk mkf mot mox) (h8 : rI mit 0 1 ∧ rI mfm 0 2 ∧ rI msz 0 60 ∧ ∀ i, rg (mim i)) (h9 : ShR xi0 xf0 xz0 xl0 0 mit mfm msz mim ∧ ShR xi1 xf1 xz1 xl1 1 mit mfm msz mim ∧ ShR xi2 xf2 xz2 xl2 2 mit mfm msz mim ∧ ShR xi3 xf3 xz3 xl3 3 mit mfm msz mim) (h10 : fi = mfi ∧ 0 ≤ fi ∧ fi ≤ 5) : OPI ro (d + 12) 62 111 [vI i] (heapC tb tz tk tks tc tt iu nm ou so pl nd pa ba de en sc rsz fp ss cu os a1 a2 a3 a4 a5 b1 b2 b3 b4 b5 le fi xi0 xf0 xz0 xl0 xi1 xf1 xz1 xl1 xi2 xf2 xz2 xl2 xi3 xf3 xz3 xl3) (heapM mtz mt mk mkf mot mox mfa mnd miu mnm mso mou mpl msc mar mex men mnn mon mde mbt mfo mfn mma mit mfm msz mim mmo mfi) := by
  obtain ⟨rfl, rfl⟩ := h1
  intro Q hQ
  refine t_shown ri h2 ?_
  refine hQ _ _ (fun Q2 hq => ?_)
  refine r_shown ri h2 ?_
  exact hq _ (rg_shown h3) (mkSR ⟨rfl, rfl⟩ h2 h3 h4 h5 h6 h7 h8 h9 h10)
set_option maxRecDepth 100000 in
set_option maxHeartbeats 4000000 in
theorem op_plan {i w what : Int} (ri : rg i) (rw : rg w) (rwhat : rg what) (h1 : tb = mt ∧ tz = mtz) (h2 : 0 ≤ tz ∧ tz ≤ 100) (h3 : rI tb 0 255) (h4 : CRd tb tz fp nd sc rsz iu nm so ou pl pa ba en a1 a2 a3 a4 a5) (h5 : RM miu mnm mso mou mpl mar mex men mnn mon mde mbt mfo mfn) (h6 : rI b1 0 25 ∧ rI b2 0 3 ∧ rI b3 (-1) 59 ∧ rI b5 (-1) 59) (h7 : KnR tz tk tks tc tt mk mkf mot mox) (h8 : rI mit 0 1 ∧ rI mfm 0 2 ∧ rI msz 0 60 ∧ ∀ i, rg (mim i)) (h9 : ShR xi0 xf0 xz0 xl0 0 mit mfm msz mim ∧ ShR xi1 xf1 xz1 xl1 1 mit mfm msz mim ∧ ShR xi2 xf2 xz2 xl2 2 mit mfm msz mim ∧ ShR xi3 xf3 xz3 xl3 3 mit mfm msz mim) (h10 : fi = mfi ∧ 0 ≤ fi ∧ fi ≤ 5) : OPI ro (d + 12) 71 158 [vI i, vI w, vI what] (heapC tb tz tk tks tc tt iu nm ou so pl nd pa ba de en sc rsz fp ss cu os a1 a2 a3 a4 a5 b1 b2 b3 b4 b5 le fi xi0 xf0 xz0 xl0 xi1 xf1 xz1 xl1 xi2 xf2 xz2 xl2 xi3 xf3 xz3 xl3) (heapM mtz mt mk mkf mot mox mfa mnd miu mnm mso mou mpl msc mar mex men mnn mon mde mbt mfo mfn mma mit mfm msz mim mmo mfi) := by
  obtain ⟨rfl, rfl⟩ := h1
  intro Q hQ
  refine t_plan ri rw rwhat h4 h2 h6.1 h6.2.1 h6.2.2.1 h6.2.2.2 (fun b1' b2' b3' b4' b5' le' g1 g2 g3 g5 => ?_)
  refine hQ _ _ (fun Q2 hq => ?_)
  refine r_plan ri rw rwhat h2 h3 h5 (fun mfa' mnd' msc' miu' mnm' mso' mou' mpl' mar' mex' men' mnn' mon' mde' mbt' mfo' mfn' hM => ?_)
  exact hq _ (rg_plan hM) (mkSR ⟨rfl, rfl⟩ h2 h3 h4 (MRw_RM hM) ⟨g1, g2, g3, g5⟩ h7 h8 h9 h10)
set_option maxRecDepth 100000 in
set_option maxHeartbeats 4000000 in
theorem op_edits {i w what : Int} (ri : rg i) (rw : rg w) (rwhat : rg what) (h1 : tb = mt ∧ tz = mtz) (h2 : 0 ≤ tz ∧ tz ≤ 100) (h3 : rI tb 0 255) (h4 : CRd tb tz fp nd sc rsz iu nm so ou pl pa ba en a1 a2 a3 a4 a5) (h5 : RM miu mnm mso mou mpl mar mex men mnn mon mde mbt mfo mfn) (h6 : rI b1 0 25 ∧ rI b2 0 3 ∧ rI b3 (-1) 59 ∧ rI b5 (-1) 59) (h7 : KnR tz tk tks tc tt mk mkf mot mox) (h8 : rI mit 0 1 ∧ rI mfm 0 2 ∧ rI msz 0 60 ∧ ∀ i, rg (mim i)) (h9 : ShR xi0 xf0 xz0 xl0 0 mit mfm msz mim ∧ ShR xi1 xf1 xz1 xl1 1 mit mfm msz mim ∧ ShR xi2 xf2 xz2 xl2 2 mit mfm msz mim ∧ ShR xi3 xf3 xz3 xl3 3 mit mfm msz mim) (h10 : fi = mfi ∧ 0 ≤ fi ∧ fi ≤ 5) : OPI ro (d + 12) 72 159 [vI i, vI w, vI what] (heapC tb tz tk tks tc tt iu nm ou so pl nd pa ba de en sc rsz fp ss cu os a1 a2 a3 a4 a5 b1 b2 b3 b4 b5 le fi xi0 xf0 xz0 xl0 xi1 xf1 xz1 xl1 xi2 xf2 xz2 xl2 xi3 xf3 xz3 xl3) (heapM mtz mt mk mkf mot mox mfa mnd miu mnm mso mou mpl msc mar mex men mnn mon mde mbt mfo mfn mma mit mfm msz mim mmo mfi) := by
  obtain ⟨rfl, rfl⟩ := h1
  intro Q hQ
  refine t_edits ri rw rwhat h4 h2 h6.1 h6.2.1 h6.2.2.1 h6.2.2.2 (fun b1' b2' b3' b4' b5' g1 g2 g3 g5 => ?_)
  refine hQ _ _ (fun Q2 hq => ?_)
  refine r_edits ri rw rwhat h2 h3 h5 (fun mfa' mnd' msc' miu' mnm' mso' mou' mpl' mar' mex' men' mnn' mon' mde' mbt' mfo' mfn' hM => ?_)
  exact hq _ (rg_edits hM) (mkSR ⟨rfl, rfl⟩ h2 h3 h4 (MRw_RM hM) ⟨g1, g2, g3, g5⟩ h7 h8 h9 h10)
set_option maxRecDepth 100000 in
set_option maxHeartbeats 4000000 in
theorem op_caught {i w what : Int} (ri : rg i) (rw : rg w) (rwhat : rg what) (h1 : tb = mt ∧ tz = mtz) (h2 : 0 ≤ tz ∧ tz ≤ 100) (h3 : rI tb 0 255) (h4 : CRd tb tz fp nd sc rsz iu nm so ou pl pa ba en a1 a2 a3 a4 a5) (h5 : RM miu mnm mso mou mpl mar mex men mnn mon mde mbt mfo mfn) (h6 : rI b1 0 25 ∧ rI b2 0 3 ∧ rI b3 (-1) 59 ∧ rI b5 (-1) 59) (h7 : KnR tz tk tks tc tt mk mkf mot mox) (h8 : rI mit 0 1 ∧ rI mfm 0 2 ∧ rI msz 0 60 ∧ ∀ i, rg (mim i)) (h9 : ShR xi0 xf0 xz0 xl0 0 mit mfm msz mim ∧ ShR xi1 xf1 xz1 xl1 1 mit mfm msz mim ∧ ShR xi2 xf2 xz2 xl2 2 mit mfm msz mim ∧ ShR xi3 xf3 xz3 xl3 3 mit mfm msz mim) (h10 : fi = mfi ∧ 0 ≤ fi ∧ fi ≤ 5) : OPI ro (d + 12) 73 161 [vI i, vI w, vI what] (heapC tb tz tk tks tc tt iu nm ou so pl nd pa ba de en sc rsz fp ss cu os a1 a2 a3 a4 a5 b1 b2 b3 b4 b5 le fi xi0 xf0 xz0 xl0 xi1 xf1 xz1 xl1 xi2 xf2 xz2 xl2 xi3 xf3 xz3 xl3) (heapM mtz mt mk mkf mot mox mfa mnd miu mnm mso mou mpl msc mar mex men mnn mon mde mbt mfo mfn mma mit mfm msz mim mmo mfi) := by
  obtain ⟨rfl, rfl⟩ := h1
  intro Q hQ
  refine t_caught ri rw rwhat h4 h6.1 h6.2.1 h6.2.2.1 h6.2.2.2 (fun b1' b2' b3' b4' b5' g1 g2 g3 g5 => ?_)
  refine hQ _ _ (fun Q2 hq => ?_)
  refine r_caught ri rw rwhat h2 h3 h5 (fun mfa' mnd' msc' miu' mnm' mso' mou' mpl' mar' mex' men' mnn' mon' mde' mbt' mfo' mfn' hM => ?_)
  exact hq _ (rg_caught hM) (mkSR ⟨rfl, rfl⟩ h2 h3 h4 (MRw_RM hM) ⟨g1, g2, g3, g5⟩ h7 h8 h9 h10)
set_option maxRecDepth 100000 in
set_option maxHeartbeats 4000000 in
theorem op_easy {i : Int} (ri : rg i) (h1 : tb = mt ∧ tz = mtz) (h2 : 0 ≤ tz ∧ tz ≤ 100) (h3 : rI tb 0 255) (h4 : CRd tb tz fp nd sc rsz iu nm so ou pl pa ba en a1 a2 a3 a4 a5) (h5 : RM miu mnm mso mou mpl mar mex men mnn mon mde mbt mfo mfn) (h6 : rI b1 0 25 ∧ rI b2 0 3 ∧ rI b3 (-1) 59 ∧ rI b5 (-1) 59) (h7 : KnR tz tk tks tc tt mk mkf mot mox) (h8 : rI mit 0 1 ∧ rI mfm 0 2 ∧ rI msz 0 60 ∧ ∀ i, rg (mim i)) (h9 : ShR xi0 xf0 xz0 xl0 0 mit mfm msz mim ∧ ShR xi1 xf1 xz1 xl1 1 mit mfm msz mim ∧ ShR xi2 xf2 xz2 xl2 2 mit mfm msz mim ∧ ShR xi3 xf3 xz3 xl3 3 mit mfm msz mim) (h10 : fi = mfi ∧ 0 ≤ fi ∧ fi ≤ 5) : OPI ro (d + 12) 74 163 [vI i] (heapC tb tz tk tks tc tt iu nm ou so pl nd pa ba de en sc rsz fp ss cu os a1 a2 a3 a4 a5 b1 b2 b3 b4 b5 le fi xi0 xf0 xz0 xl0 xi1 xf1 xz1 xl1 xi2 xf2 xz2 xl2 xi3 xf3 xz3 xl3) (heapM mtz mt mk mkf mot mox mfa mnd miu mnm mso mou mpl msc mar mex men mnn mon mde mbt mfo mfn mma mit mfm msz mim mmo mfi) := by
  obtain ⟨rfl, rfl⟩ := h1
  intro Q hQ
  refine t_easy ri h4 h2 h6.1 h6.2.1 h6.2.2.1 h6.2.2.2 (fun b1' b2' b3' b4' b5' g1 g2 g3 g5 => ?_)
  refine hQ _ _ (fun Q2 hq => ?_)
  refine r_easy ri h2 h3 h5 (fun mfa' mnd' msc' miu' mnm' mso' mou' mpl' mar' mex' men' mnn' mon' mde' mbt' mfo' mfn' hM => ?_)
  exact hq _ rg_easy (mkSR ⟨rfl, rfl⟩ h2 h3 h4 (MRw_RM hM) ⟨g1, g2, g3, g5⟩ h7 h8 h9 h10)
set_option maxRecDepth 100000 in
set_option maxHeartbeats 4000000 in
theorem CRd_rg (h4 : CRd tb tz fp nd sc rsz iu nm so ou pl pa ba en a1 a2 a3 a4 a5) : RT0 iu nm so ou pl pa ba en ∧ rI a1 0 25 ∧ rI a2 0 3 ∧ rI a3 (-1) 59 ∧ rI a5 (-1) 59 := by
  obtain ⟨-, -, -, -, -, -, -, r0, r1, r2, r3, r5⟩ := h4
  exact ⟨r0, r1, r2, r3, r5⟩
set_option maxRecDepth 100000 in
set_option maxHeartbeats 4000000 in
theorem CRd_TS (h4 : CRd tb tz fp nd sc rsz iu nm so ou pl pa ba en a1 a2 a3 a4 a5) : TS (cND tb tz) (cSC tb tz) (cIU tb tz) (cSO tb tz) (cAR tb tz) (cEX tb tz) := by
  obtain ⟨⟨-, hnd, hsc, -⟩, hS, -⟩ := h4
  rw [← hnd, ← hsc]
  exact hS
set_option maxRecDepth 100000 in
set_option maxHeartbeats 4000000 in
theorem op_digest (h1 : tb = mt ∧ tz = mtz) (h2 : 0 ≤ tz ∧ tz ≤ 100) (h3 : rI tb 0 255) (h4 : CRd tb tz fp nd sc rsz iu nm so ou pl pa ba en a1 a2 a3 a4 a5) (h5 : RM miu mnm mso mou mpl mar mex men mnn mon mde mbt mfo mfn) (h6 : rI b1 0 25 ∧ rI b2 0 3 ∧ rI b3 (-1) 59 ∧ rI b5 (-1) 59) (h7 : KnR tz tk tks tc tt mk mkf mot mox) (h8 : rI mit 0 1 ∧ rI mfm 0 2 ∧ rI msz 0 60 ∧ ∀ i, rg (mim i)) (h9 : ShR xi0 xf0 xz0 xl0 0 mit mfm msz mim ∧ ShR xi1 xf1 xz1 xl1 1 mit mfm msz mim ∧ ShR xi2 xf2 xz2 xl2 2 mit mfm msz mim ∧ ShR xi3 xf3 xz3 xl3 3 mit mfm msz mim) (h10 : fi = mfi ∧ 0 ≤ fi ∧ fi ≤ 5) : OPL ro (d + 12) 84 184 [] (heapC tb tz tk tks tc tt iu nm ou so pl nd pa ba de en sc rsz fp ss cu os a1 a2 a3 a4 a5 b1 b2 b3 b4 b5 le fi xi0 xf0 xz0 xl0 xi1 xf1 xz1 xl1 xi2 xf2 xz2 xl2 xi3 xf3 xz3 xl3) (heapM mtz mt mk mkf mot mox mfa mnd miu mnm mso mou mpl msc mar mex men mnn mon mde mbt mfo mfn mma mit mfm msz mim mmo mfi) := by
  obtain ⟨rfl, rfl⟩ := h1
  intro Q hQ
  have hS := CRd_TS h4
  obtain ⟨rfl, f0, f1⟩ := h10
  obtain ⟨k1, -⟩ := id h7
  obtain ⟨rfl, -, -⟩ := k1
  refine t_digest h4 h2 h6.1 h6.2.1 h6.2.2.1 h6.2.2.2 (fun b1' b2' b3' b4' b5' le' g1 g2 g3 g5 => ?_)
  refine hQ _ _ (fun Q2 hq => ?_)
  refine r_digest h2 h3 h5 hS.2.1 hS.1 (fun mfa' mnd' msc' miu' mnm' mso' mou' mpl' mar' mex' men' mnn' mon' mde' mbt' mfo' mfn' hM => ?_)
  exact hq _ (mkSR ⟨rfl, rfl⟩ h2 h3 h4 (MRw_RM hM) ⟨g1, g2, g3, g5⟩ h7 h8 h9 ⟨rfl, f0, f1⟩)
set_option maxRecDepth 100000 in
set_option maxHeartbeats 4000000 in
theorem op_count {what : Int} (rwhat : rg what) (h1 : tb = mt ∧ tz = mtz) (h2 : 0 ≤ tz ∧ tz ≤ 100) (h3 : rI tb 0 255) (h4 : CRd tb tz fp nd sc rsz iu nm so ou pl pa ba en a1 a2 a3 a4 a5) (h5 : RM miu mnm mso mou mpl mar mex men mnn mon mde mbt mfo mfn) (h6 : rI b1 0 25 ∧ rI b2 0 3 ∧ rI b3 (-1) 59 ∧ rI b5 (-1) 59) (h7 : KnR tz tk tks tc tt mk mkf mot mox) (h8 : rI mit 0 1 ∧ rI mfm 0 2 ∧ rI msz 0 60 ∧ ∀ i, rg (mim i)) (h9 : ShR xi0 xf0 xz0 xl0 0 mit mfm msz mim ∧ ShR xi1 xf1 xz1 xl1 1 mit mfm msz mim ∧ ShR xi2 xf2 xz2 xl2 2 mit mfm msz mim ∧ ShR xi3 xf3 xz3 xl3 3 mit mfm msz mim) (h10 : fi = mfi ∧ 0 ≤ fi ∧ fi ≤ 5) : OPI ro (d + 12) 83 181 [vI what] (heapC tb tz tk tks tc tt iu nm ou so pl nd pa ba de en sc rsz fp ss cu os a1 a2 a3 a4 a5 b1 b2 b3 b4 b5 le fi xi0 xf0 xz0 xl0 xi1 xf1 xz1 xl1 xi2 xf2 xz2 xl2 xi3 xf3 xz3 xl3) (heapM mtz mt mk mkf mot mox mfa mnd miu mnm mso mou mpl msc mar mex men mnn mon mde mbt mfo mfn mma mit mfm msz mim mmo mfi) := by
  obtain ⟨rfl, rfl⟩ := h1
  intro Q hQ
  obtain ⟨rfl, f0, f1⟩ := h10
  obtain ⟨⟨k1, kl, ku⟩, -⟩ := id h7
  subst k1
  have hS := CRd_TS h4
  have S1 := hS.1
  have S2 := hS.2.1
  refine t_count rwhat h4 ?_
  refine hQ _ _ (fun Q2 hq => ?_)
  refine r_count rwhat h2 h3 h5 (fun e => ?_) (fun _ mfa' mnd' msc' miu' mnm' mso' mou' mpl' mar' mex' men' mnn' mon' mde' mbt' mfo' mfn' hM => ?_)
  · refine hq _ ?_ (mkSR ⟨rfl, rfl⟩ h2 h3 h4 h5 h6 h7 h8 h9 ⟨rfl, f0, f1⟩)
    unfold aCount
    rw [if_neg e]
    exact ite_rg (by omega) (ite_rg (by omega) (ite_rg (by omega) (by omega)))
  · exact hq _ (rg_count hM h2 ⟨kl, ku⟩ ⟨f0, f1⟩) (mkSR ⟨rfl, rfl⟩ h2 h3 h4 (MRw_RM hM) h6 h7 h8 h9 ⟨rfl, f0, f1⟩)
set_option maxRecDepth 100000 in
set_option maxHeartbeats 4000000 in
theorem op_type {b : Int} (rb : rg b) (h1 : tb = mt ∧ tz = mtz) (h2 : 0 ≤ tz ∧ tz ≤ 100) (h3 : rI tb 0 255) (h4 : CRd tb tz fp nd sc rsz iu nm so ou pl pa ba en a1 a2 a3 a4 a5) (h5 : RM miu mnm mso mou mpl mar mex men mnn mon mde mbt mfo mfn) (h6 : rI b1 0 25 ∧ rI b2 0 3 ∧ rI b3 (-1) 59 ∧ rI b5 (-1) 59) (h7 : KnR tz tk tks tc tt mk mkf mot mox) (h8 : rI mit 0 1 ∧ rI mfm 0 2 ∧ rI msz 0 60 ∧ ∀ i, rg (mim i)) (h9 : ShR xi0 xf0 xz0 xl0 0 mit mfm msz mim ∧ ShR xi1 xf1 xz1 xl1 1 mit mfm msz mim ∧ ShR xi2 xf2 xz2 xl2 2 mit mfm msz mim ∧ ShR xi3 xf3 xz3 xl3 3 mit mfm msz mim) (h10 : fi = mfi ∧ 0 ≤ fi ∧ fi ≤ 5) : OPI ro (d + 12) 57 106 [vI b] (heapC tb tz tk tks tc tt iu nm ou so pl nd pa ba de en sc rsz fp ss cu os a1 a2 a3 a4 a5 b1 b2 b3 b4 b5 le fi xi0 xf0 xz0 xl0 xi1 xf1 xz1 xl1 xi2 xf2 xz2 xl2 xi3 xf3 xz3 xl3) (heapM mtz mt mk mkf mot mox mfa mnd miu mnm mso mou mpl msc mar mex men mnn mon mde mbt mfo mfn mma mit mfm msz mim mmo mfi) := by
  obtain ⟨rfl, rfl⟩ := h1
  intro Q hQ
  obtain ⟨r0, r1, r2, r3, r5⟩ := CRd_rg h4
  have rb' := rb
  unfold rg at rb'
  refine t_type rb h2 h3 r0 r1 r2 r3 r5 (fun e => ?_) (fun e e2 => ?_) (fun e e2 fp' nd' sc' rsz' iu' nm' so' ou' pl' pa' ba' de' en' ss' cu' os' a1' a2' a3' a4' a5' hC => ?_)
  · refine hQ _ _ (fun Q2 hq => ?_)
    refine r_type rb h2 (fun _ => ?_) (fun e' _ => absurd e' e) (fun e' _ => absurd e' e)
    exact hq _ (by unfold rg; omega) (mkSR ⟨rfl, rfl⟩ h2 h3 h4 h5 h6 h7 h8 h9 h10)
  · refine hQ _ _ (fun Q2 hq => ?_)
    refine r_type rb h2 (fun e' => absurd e e') (fun _ _ => ?_) (fun _ e' => absurd e' (by omega))
    exact hq _ (by unfold rg; omega) (mkSR ⟨rfl, rfl⟩ h2 h3 h4 h5 h6 h7 h8 h9 h10)
  · refine hQ _ _ (fun Q2 hq => ?_)
    refine r_type rb h2 (fun e' => absurd e e') (fun _ e' => absurd e' (by omega)) (fun _ _ => ?_)
    exact hq _ (by unfold rg; omega) (mkSR ⟨rfl, rfl⟩ (by omega) (rI_up h3 e.1 e.2) hC h5 h6 (KnR_0 h7) h8 h9 h10)
set_option maxRecDepth 100000 in
set_option maxHeartbeats 4000000 in
theorem op_wipe (h1 : tb = mt ∧ tz = mtz) (h2 : 0 ≤ tz ∧ tz ≤ 100) (h3 : rI tb 0 255) (h4 : CRd tb tz fp nd sc rsz iu nm so ou pl pa ba en a1 a2 a3 a4 a5) (h5 : RM miu mnm mso mou mpl mar mex men mnn mon mde mbt mfo mfn) (h6 : rI b1 0 25 ∧ rI b2 0 3 ∧ rI b3 (-1) 59 ∧ rI b5 (-1) 59) (h7 : KnR tz tk tks tc tt mk mkf mot mox) (h8 : rI mit 0 1 ∧ rI mfm 0 2 ∧ rI msz 0 60 ∧ ∀ i, rg (mim i)) (h9 : ShR xi0 xf0 xz0 xl0 0 mit mfm msz mim ∧ ShR xi1 xf1 xz1 xl1 1 mit mfm msz mim ∧ ShR xi2 xf2 xz2 xl2 2 mit mfm msz mim ∧ ShR xi3 xf3 xz3 xl3 3 mit mfm msz mim) (h10 : fi = mfi ∧ 0 ≤ fi ∧ fi ≤ 5) : OPI ro (d + 12) 58 107 [] (heapC tb tz tk tks tc tt iu nm ou so pl nd pa ba de en sc rsz fp ss cu os a1 a2 a3 a4 a5 b1 b2 b3 b4 b5 le fi xi0 xf0 xz0 xl0 xi1 xf1 xz1 xl1 xi2 xf2 xz2 xl2 xi3 xf3 xz3 xl3) (heapM mtz mt mk mkf mot mox mfa mnd miu mnm mso mou mpl msc mar mex men mnn mon mde mbt mfo mfn mma mit mfm msz mim mmo mfi) := by
  obtain ⟨rfl, rfl⟩ := h1
  intro Q hQ
  obtain ⟨r0, r1, r2, r3, r5⟩ := CRd_rg h4
  refine t_wipe h2 h3 r0 r1 r2 r3 r5 (fun fp' nd' sc' rsz' iu' nm' so' ou' pl' pa' ba' de' en' ss' cu' os' a1' a2' a3' a4' a5' hC => ?_)
  refine hQ _ _ (fun Q2 hq => ?_)
  refine r_wipe h2 ?_
  have e : (if 0 < tz then 0 else mk) = 0 := by
    obtain ⟨⟨k1, kl, ku⟩, -, -, k4, -⟩ := h7
    split
    · rfl
    · have : ¬ 0 < tc := fun z => absurd (k4 z) (by assumption)
      omega
  rw [e]
  exact hq _ (by unfold rg; omega) (mkSR ⟨rfl, rfl⟩ (by omega) h3 hC h5 h6 (KnR_0 h7) h8 h9 h10)
set_option maxRecDepth 100000 in
set_option maxHeartbeats 4000000 in
theorem op_undo (h1 : tb = mt ∧ tz = mtz) (h2 : 0 ≤ tz ∧ tz ≤ 100) (h3 : rI tb 0 255) (h4 : CRd tb tz fp nd sc rsz iu nm so ou pl pa ba en a1 a2 a3 a4 a5) (h5 : RM miu mnm mso mou mpl mar mex men mnn mon mde mbt mfo mfn) (h6 : rI b1 0 25 ∧ rI b2 0 3 ∧ rI b3 (-1) 59 ∧ rI b5 (-1) 59) (h7 : KnR tz tk tks tc tt mk mkf mot mox) (h8 : rI mit 0 1 ∧ rI mfm 0 2 ∧ rI msz 0 60 ∧ ∀ i, rg (mim i)) (h9 : ShR xi0 xf0 xz0 xl0 0 mit mfm msz mim ∧ ShR xi1 xf1 xz1 xl1 1 mit mfm msz mim ∧ ShR xi2 xf2 xz2 xl2 2 mit mfm msz mim ∧ ShR xi3 xf3 xz3 xl3 3 mit mfm msz mim) (h10 : fi = mfi ∧ 0 ≤ fi ∧ fi ≤ 5) : OPI ro (d + 12) 59 108 [] (heapC tb tz tk tks tc tt iu nm ou so pl nd pa ba de en sc rsz fp ss cu os a1 a2 a3 a4 a5 b1 b2 b3 b4 b5 le fi xi0 xf0 xz0 xl0 xi1 xf1 xz1 xl1 xi2 xf2 xz2 xl2 xi3 xf3 xz3 xl3) (heapM mtz mt mk mkf mot mox mfa mnd miu mnm mso mou mpl msc mar mex men mnn mon mde mbt mfo mfn mma mit mfm msz mim mmo mfi) := by
  obtain ⟨rfl, rfl⟩ := h1
  intro Q hQ
  obtain ⟨r0, r1, r2, r3, r5⟩ := CRd_rg h4
  refine t_undo h2 h3 r0 r1 r2 r3 r5 (fun e => ?_) (fun e fp' nd' sc' rsz' iu' nm' so' ou' pl' pa' ba' de' en' ss' cu' os' a1' a2' a3' a4' a5' hC => ?_)
  · refine hQ _ _ (fun Q2 hq => ?_)
    refine r_undo h2 (fun _ => ?_) (fun e' => absurd e' (by omega))
    exact hq _ (by unfold rg; omega) (mkSR ⟨rfl, rfl⟩ h2 h3 h4 h5 h6 h7 h8 h9 h10)
  · refine hQ _ _ (fun Q2 hq => ?_)
    refine r_undo h2 (fun e' => absurd e' (by omega)) (fun _ => ?_)
    exact hq _ (by unfold rg; omega) (mkSR ⟨rfl, rfl⟩ (by omega) h3 hC h5 h6 (KnR_0 h7) h8 h9 h10)
set_option maxRecDepth 100000 in
set_option maxHeartbeats 4000000 in
theorem op_back (h1 : tb = mt ∧ tz = mtz) (h2 : 0 ≤ tz ∧ tz ≤ 100) (h3 : rI tb 0 255) (h4 : CRd tb tz fp nd sc rsz iu nm so ou pl pa ba en a1 a2 a3 a4 a5) (h5 : RM miu mnm mso mou mpl mar mex men mnn mon mde mbt mfo mfn) (h6 : rI b1 0 25 ∧ rI b2 0 3 ∧ rI b3 (-1) 59 ∧ rI b5 (-1) 59) (h7 : KnR tz tk tks tc tt mk mkf mot mox) (h8 : rI mit 0 1 ∧ rI mfm 0 2 ∧ rI msz 0 60 ∧ ∀ i, rg (mim i)) (h9 : ShR xi0 xf0 xz0 xl0 0 mit mfm msz mim ∧ ShR xi1 xf1 xz1 xl1 1 mit mfm msz mim ∧ ShR xi2 xf2 xz2 xl2 2 mit mfm msz mim ∧ ShR xi3 xf3 xz3 xl3 3 mit mfm msz mim) (h10 : fi = mfi ∧ 0 ≤ fi ∧ fi ≤ 5) : OPI ro (d + 12) 76 168 [] (heapC tb tz tk tks tc tt iu nm ou so pl nd pa ba de en sc rsz fp ss cu os a1 a2 a3 a4 a5 b1 b2 b3 b4 b5 le fi xi0 xf0 xz0 xl0 xi1 xf1 xz1 xl1 xi2 xf2 xz2 xl2 xi3 xf3 xz3 xl3) (heapM mtz mt mk mkf mot mox mfa mnd miu mnm mso mou mpl msc mar mex men mnn mon mde mbt mfo mfn mma mit mfm msz mim mmo mfi) := by
  obtain ⟨rfl, rfl⟩ := h1
  intro Q hQ
  obtain ⟨r0, r1, r2, r3, r5⟩ := CRd_rg h4
  obtain ⟨⟨k1, kl, ku⟩, k2, k3, k4, k5, k6, k7⟩ := id h7
  subst k1
  have eT : (tt - 1 - 0) % 20 = (if 0 < tt then tt - 1 else 19) := by split <;> omega
  have eM : (mkf + mk - 1 - 0) % 20 = (mkf + (mk - 1)) % 20 := by rw [show mkf + mk - 1 - 0 = mkf + (mk - 1) by omega]
  have kk : 0 < mk → tks (if 0 < tt then tt - 1 else 19) = mot ((mkf + (mk - 1)) % 20) ∧ (1 ≤ tks (if 0 < tt then tt - 1 else 19) ∧ tks (if 0 < tt then tt - 1 else 19) ≤ 100) ∧ ∀ k, 0 ≤ k → k < tks (if 0 < tt then tt - 1 else 19) → tk (if 0 < tt then tt - 1 else 19) k = mox (100 * ((mkf + (mk - 1)) % 20) + k) := by
    intro e
    have z := k7 0 (by omega) e
    rw [eT, eM] at z
    exact z
  refine t_back k2 ⟨kl, ku⟩ h3 r0 r1 r2 r3 r5 (fun e => ⟨by have := (kk e).2.1; omega, (kk e).2.1.2⟩) (fun e => k5 _) (fun e => ?_) (fun e fp' nd' sc' rsz' iu' nm' so' ou' pl' pa' ba' de' en' ss' cu' os' a1' a2' a3' a4' a5' hC => ?_)
  · refine hQ _ _ (fun Q2 hq => ?_)
    refine r_back ⟨kl, ku⟩ k3 rfl (fun e' => absurd e' (by omega)) (fun _ => ?_) (fun e' => absurd e' (by omega))
    exact hq _ (by unfold rg; omega) (mkSR ⟨rfl, rfl⟩ h2 h3 h4 h5 h6 h7 h8 h9 h10)
  · obtain ⟨q1, q2, q3⟩ := kk e
    refine hQ _ _ (fun Q2 hq => ?_)
    refine r_back ⟨kl, ku⟩ k3 rfl (fun _ => by rw [← q1]; omega) (fun e' => absurd e' (by omega)) (fun _ => ?_)
    have ef : fb tb (fun k => mox (100 * ((mkf + (mk - 1)) % 20) + k)) 0 (mot ((mkf + (mk - 1)) % 20)) = cpZ (tk (if 0 < tt then tt - 1 else 19)) tb 0 0 (tks (if 0 < tt then tt - 1 else 19)) := by
      rw [← q1]
      funext k
      unfold fb cpZ
      by_cases z : 0 ≤ k ∧ k < tks (if 0 < tt then tt - 1 else 19)
      · rw [if_pos z, if_pos (by omega), show 0 + (k - 0) = k by omega, q3 k z.1 z.2]
      · rw [if_neg z, if_neg (by omega)]
    rw [ef, ← q1]
    exact hq _ (by unfold rg; omega) (mkSR ⟨rfl, rfl⟩ (by omega) (rI_cp (k5 _) h3) hC h5 h6 (KnR_back e (by omega) h7) h8 h9 h10)
set_option maxRecDepth 100000 in
set_option maxHeartbeats 4000000 in
theorem op_rename {i w : Int} (ri : rg i) (rw : rg w) (h1 : tb = mt ∧ tz = mtz) (h2 : 0 ≤ tz ∧ tz ≤ 100) (h3 : rI tb 0 255) (h4 : CRd tb tz fp nd sc rsz iu nm so ou pl pa ba en a1 a2 a3 a4 a5) (h5 : RM miu mnm mso mou mpl mar mex men mnn mon mde mbt mfo mfn) (h6 : rI b1 0 25 ∧ rI b2 0 3 ∧ rI b3 (-1) 59 ∧ rI b5 (-1) 59) (h7 : KnR tz tk tks tc tt mk mkf mot mox) (h8 : rI mit 0 1 ∧ rI mfm 0 2 ∧ rI msz 0 60 ∧ ∀ i, rg (mim i)) (h9 : ShR xi0 xf0 xz0 xl0 0 mit mfm msz mim ∧ ShR xi1 xf1 xz1 xl1 1 mit mfm msz mim ∧ ShR xi2 xf2 xz2 xl2 2 mit mfm msz mim ∧ ShR xi3 xf3 xz3 xl3 3 mit mfm msz mim) (h10 : fi = mfi ∧ 0 ≤ fi ∧ fi ≤ 5) : OPI ro (d + 12) 75 167 [vI i, vI w] (heapC tb tz tk tks tc tt iu nm ou so pl nd pa ba de en sc rsz fp ss cu os a1 a2 a3 a4 a5 b1 b2 b3 b4 b5 le fi xi0 xf0 xz0 xl0 xi1 xf1 xz1 xl1 xi2 xf2 xz2 xl2 xi3 xf3 xz3 xl3) (heapM mtz mt mk mkf mot mox mfa mnd miu mnm mso mou mpl msc mar mex men mnn mon mde mbt mfo mfn mma mit mfm msz mim mmo mfi) := by
  obtain ⟨rfl, rfl⟩ := h1
  intro Q hQ
  obtain ⟨r0, r1, r2, r3, r5⟩ := CRd_rg h4
  obtain ⟨⟨k1, kl, ku⟩, k2, k3, k4, k5, k6, k7⟩ := id h7
  subst k1
  have rr := aRefC_rg (tx := tb) (n := tz) (i := i) (w := w) (what := 0) (bd := 1)
  obtain ⟨co1, co2⟩ := CRd_ou h4
  refine t_rename ri rw h4 h2 h3 h6.1 h6.2.1 h6.2.2.1 h6.2.2.2 k2 ⟨kl, ku⟩ (fun e => ?_) (fun e e2 b1' b2' b3' b4' b5' le' g1 g2 g3 g5 => ?_) (fun e e2 hby hz b1' b2' b3' b4' b5' le' g1 g2 g3 g5 fp' nd' sc' rsz' iu' nm' so' ou' pl' pa' ba' de' en' ss' cu' os' a1' a2' a3' a4' a5' hC => ?_)
  · refine hQ _ _ (fun Q2 hq => ?_)
    refine r_rename ri rw h2 h3 h5 k3 ⟨kl, ku⟩ rfl (fun _ mfa' mnd' msc' miu' mnm' mso' mou' mpl' mar' mex' men' mnn' mon' mde' mbt' mfo' mfn' hM => ?_) (fun e' => absurd e' e) (fun e' => absurd e' e)
    exact hq _ (by unfold rg; omega) (mkSR ⟨rfl, rfl⟩ h2 h3 h4 (MRw_RM hM) h6 h7 h8 h9 h10)
  · refine hQ _ _ (fun Q2 hq => ?_)
    refine r_rename ri rw h2 h3 h5 k3 ⟨kl, ku⟩ rfl (fun e' => absurd e e') (fun _ _ mfa' mnd' msc' miu' mnm' mso' mou' mpl' mar' mex' men' mnn' mon' mde' mbt' mfo' mfn' hM => ?_) (fun _ e' => absurd e2 e')
    exact hq _ (by unfold rg; omega) (mkSR ⟨rfl, rfl⟩ h2 h3 h4 (MRw_RM hM) ⟨g1, g2, g3, g5⟩ h7 h8 h9 h10)
  · refine hQ _ _ (fun Q2 hq => ?_)
    refine r_rename ri rw h2 h3 h5 k3 ⟨kl, ku⟩ rfl (fun e' => absurd e e') (fun _ e' => absurd e' e2) (fun _ _ mfa' mnd' msc' miu' mnm' mso' mou' mpl' mar' mex' men' mnn' mon' mde' mbt' mfo' mfn' hM => ?_)
    have hi := (aRefC_0 e).1.1
    have hO : ∀ k, 0 ≤ k → 0 ≤ ooB tb tz i (w - 97) k := fun k _ => (ooB_rg co2 k).1
    obtain ⟨t1, t2, t3⟩ := wr_two (tx := tb) (nn := nnB tb tz i (w - 97)) (oo := ooB tb tz i (w - 97)) (f0 := tb) (g0 := mma) hO tz.toNat
    have ez : (wrB tb tz i (w - 97) mma).2.1 = (wrB tb tz i (w - 97) tb).2.1 := by
      show (wrN _ _ _ mma _).2.1 = (wrN _ _ _ tb _).2.1
      rw [t1]
    have ef : fb tb (wrB tb tz i (w - 97) mma).1 0 (wrB tb tz i (w - 97) mma).2.1 = (wrB tb tz i (w - 97) tb).1 := by
      rw [ez]
      funext k
      unfold fb
      by_cases z : 0 ≤ k ∧ k < (wrB tb tz i (w - 97) tb).2.1
      · rw [if_pos z]
        exact t2 k z.1 z.2
      · rw [if_neg z]
        exact (t3 k z).symm
    have tz0 : 0 < tz := by
      apply Classical.byContradiction
      intro z
      have e0 : tz = 0 := by omega
      rw [e0] at hi
      have : cND tb 0 = 0 := rfl
      omega
    rw [ef, ez]
    exact hq _ (rg_i (rg_ed hM)) (mkSR ⟨rfl, rfl⟩ (by omega) hby hC (MRw_RM hM) ⟨g1, g2, g3, g5⟩ (KnR_keep h3 ⟨tz0, h2.2⟩ (by omega) h7 rfl) h8 h9 h10)
end OPS1
