/-! ===== the law: each case ===== -/
section LAWC
variable {ro : Nat × (Int → Int)} {d mc ms c s : Nat} {Q : Option AV → AH → Prop} {p : Int} {tb : Int → Int} {tz : Int} {tk : Int → Int → Int} {tks : Int → Int} {tc tt : Int} {iu nm ou so pl : Int → Int} {nd : Int} {pa ba de en : Int → Int} {sc rsz fp ss cu os : Int} {a1 a2 a3 : Int → Int} {a4 : Int → Int64} {a5 b1 b2 b3 : Int → Int} {b4 : Int → Int64} {b5 : Int → Int} {le fi : Int} {xi0 : Int → Int} {xf0 xz0 xl0 : Int} {xi1 : Int → Int} {xf1 xz1 xl1 : Int} {xi2 : Int → Int} {xf2 xz2 xl2 : Int} {xi3 : Int → Int} {xf3 xz3 xl3 : Int} {mtz : Int} {mt : Int → Int} {mk mkf : Int} {mot mox : Int → Int} {mfa mnd : Int} {miu mnm mso mou mpl : Int → Int} {msc : Int} {mar mex men mnn mon mde mbt mfo mfn mma mit mfm msz mim mmo : Int → Int} {mfi : Int}
set_option maxRecDepth 100000 in
set_option maxHeartbeats 4000000 in
theorem lx_type (hro : ∀ j, rg (ro.2 j)) (hp : 0 ≤ p ∧ p + 6 ≤ (ro.1 : Int)) (h1 : tb = mt ∧ tz = mtz) (h2 : 0 ≤ tz ∧ tz ≤ 100) (h3 : rI tb 0 255) (h4 : CRd tb tz fp nd sc rsz iu nm so ou pl pa ba en a1 a2 a3 a4 a5) (h5 : RM miu mnm mso mou mpl mar mex men mnn mon mde mbt mfo mfn) (h6 : rI b1 0 25 ∧ rI b2 0 3 ∧ rI b3 (-1) 59 ∧ rI b5 (-1) 59) (h7 : KnR tz tk tks tc tt mk mkf mot mox) (h8 : rI mit 0 1 ∧ rI mfm 0 2 ∧ rI msz 0 60 ∧ ∀ i, rg (mim i)) (h9 : ShR xi0 xf0 xz0 xl0 0 mit mfm msz mim ∧ ShR xi1 xf1 xz1 xl1 1 mit mfm msz mim ∧ ShR xi2 xf2 xz2 xl2 2 mit mfm msz mim ∧ ShR xi3 xf3 xz3 xl3 3 mit mfm msz mim) (h10 : fi = mfi ∧ 0 ≤ fi ∧ fi ≤ 5) (hn : ∀ a' b', SRh a' b' → WPm ro (d + 12) (RNd ro (d + 12)) 189 mc ms Q 18 [vR 900, vR 0, vR 200, vI (p + 6)] [] (a', b') c s) : WPm ro (d + 12) (RNd ro (d + 12)) 189 mc ms Q 160 [vR 900, vR 0, vR 200, vI p] [] ((heapC tb tz tk tks tc tt iu nm ou so pl nd pa ba de en sc rsz fp ss cu os a1 a2 a3 a4 a5 b1 b2 b3 b4 b5 le fi xi0 xf0 xz0 xl0 xi1 xf1 xz1 xl1 xi2 xf2 xz2 xl2 xi3 xf3 xz3 xl3), (heapM mtz mt mk mkf mot mox mfa mnd miu mnm mso mou mpl msc mar mex men mnn mon mde mbt mfo mfn mma mit mfm msz mim mmo mfi)) c s := by
  refine WP_first [18] 80 ?_
  refine ix ?_
  refine op_type (hro _) h1 h2 h3 h4 h5 h6 h7 h8 h9 h10 _ (fun a' v hM => ?_)
  refine ix ?_
  refine hM _ (fun b' rv hS => ?_)
  refine t2 ?_ (fun q => q rfl) rv rv
  exact hn _ _ hS
set_option maxRecDepth 100000 in
set_option maxHeartbeats 4000000 in
theorem lx_wipe (hro : ∀ j, rg (ro.2 j)) (hp : 0 ≤ p ∧ p + 6 ≤ (ro.1 : Int)) (h1 : tb = mt ∧ tz = mtz) (h2 : 0 ≤ tz ∧ tz ≤ 100) (h3 : rI tb 0 255) (h4 : CRd tb tz fp nd sc rsz iu nm so ou pl pa ba en a1 a2 a3 a4 a5) (h5 : RM miu mnm mso mou mpl mar mex men mnn mon mde mbt mfo mfn) (h6 : rI b1 0 25 ∧ rI b2 0 3 ∧ rI b3 (-1) 59 ∧ rI b5 (-1) 59) (h7 : KnR tz tk tks tc tt mk mkf mot mox) (h8 : rI mit 0 1 ∧ rI mfm 0 2 ∧ rI msz 0 60 ∧ ∀ i, rg (mim i)) (h9 : ShR xi0 xf0 xz0 xl0 0 mit mfm msz mim ∧ ShR xi1 xf1 xz1 xl1 1 mit mfm msz mim ∧ ShR xi2 xf2 xz2 xl2 2 mit mfm msz mim ∧ ShR xi3 xf3 xz3 xl3 3 mit mfm msz mim) (h10 : fi = mfi ∧ 0 ≤ fi ∧ fi ≤ 5) (hn : ∀ a' b', SRh a' b' → WPm ro (d + 12) (RNd ro (d + 12)) 189 mc ms Q 18 [vR 900, vR 0, vR 200, vI (p + 6)] [] (a', b') c s) : WPm ro (d + 12) (RNd ro (d + 12)) 189 mc ms Q 183 [vR 900, vR 0, vR 200, vI p] [] ((heapC tb tz tk tks tc tt iu nm ou so pl nd pa ba de en sc rsz fp ss cu os a1 a2 a3 a4 a5 b1 b2 b3 b4 b5 le fi xi0 xf0 xz0 xl0 xi1 xf1 xz1 xl1 xi2 xf2 xz2 xl2 xi3 xf3 xz3 xl3), (heapM mtz mt mk mkf mot mox mfa mnd miu mnm mso mou mpl msc mar mex men mnn mon mde mbt mfo mfn mma mit mfm msz mim mmo mfi)) c s := by
  refine WP_first [18] 80 ?_
  refine op_wipe h1 h2 h3 h4 h5 h6 h7 h8 h9 h10 _ (fun a' v hM => ?_)
  refine hM _ (fun b' rv hS => ?_)
  refine t2 ?_ (fun q => q rfl) rv rv
  exact hn _ _ hS
set_option maxRecDepth 100000 in
set_option maxHeartbeats 4000000 in
theorem lx_undo (hro : ∀ j, rg (ro.2 j)) (hp : 0 ≤ p ∧ p + 6 ≤ (ro.1 : Int)) (h1 : tb = mt ∧ tz = mtz) (h2 : 0 ≤ tz ∧ tz ≤ 100) (h3 : rI tb 0 255) (h4 : CRd tb tz fp nd sc rsz iu nm so ou pl pa ba en a1 a2 a3 a4 a5) (h5 : RM miu mnm mso mou mpl mar mex men mnn mon mde mbt mfo mfn) (h6 : rI b1 0 25 ∧ rI b2 0 3 ∧ rI b3 (-1) 59 ∧ rI b5 (-1) 59) (h7 : KnR tz tk tks tc tt mk mkf mot mox) (h8 : rI mit 0 1 ∧ rI mfm 0 2 ∧ rI msz 0 60 ∧ ∀ i, rg (mim i)) (h9 : ShR xi0 xf0 xz0 xl0 0 mit mfm msz mim ∧ ShR xi1 xf1 xz1 xl1 1 mit mfm msz mim ∧ ShR xi2 xf2 xz2 xl2 2 mit mfm msz mim ∧ ShR xi3 xf3 xz3 xl3 3 mit mfm msz mim) (h10 : fi = mfi ∧ 0 ≤ fi ∧ fi ≤ 5) (hn : ∀ a' b', SRh a' b' → WPm ro (d + 12) (RNd ro (d + 12)) 189 mc ms Q 18 [vR 900, vR 0, vR 200, vI (p + 6)] [] (a', b') c s) : WPm ro (d + 12) (RNd ro (d + 12)) 189 mc ms Q 196 [vR 900, vR 0, vR 200, vI p] [] ((heapC tb tz tk tks tc tt iu nm ou so pl nd pa ba de en sc rsz fp ss cu os a1 a2 a3 a4 a5 b1 b2 b3 b4 b5 le fi xi0 xf0 xz0 xl0 xi1 xf1 xz1 xl1 xi2 xf2 xz2 xl2 xi3 xf3 xz3 xl3), (heapM mtz mt mk mkf mot mox mfa mnd miu mnm mso mou mpl msc mar mex men mnn mon mde mbt mfo mfn mma mit mfm msz mim mmo mfi)) c s := by
  refine WP_first [18] 80 ?_
  refine op_undo h1 h2 h3 h4 h5 h6 h7 h8 h9 h10 _ (fun a' v hM => ?_)
  refine hM _ (fun b' rv hS => ?_)
  refine t2 ?_ (fun q => q rfl) rv rv
  exact hn _ _ hS
set_option maxRecDepth 100000 in
set_option maxHeartbeats 4000000 in
theorem lx_fault (hro : ∀ j, rg (ro.2 j)) (hp : 0 ≤ p ∧ p + 6 ≤ (ro.1 : Int)) (h1 : tb = mt ∧ tz = mtz) (h2 : 0 ≤ tz ∧ tz ≤ 100) (h3 : rI tb 0 255) (h4 : CRd tb tz fp nd sc rsz iu nm so ou pl pa ba en a1 a2 a3 a4 a5) (h5 : RM miu mnm mso mou mpl mar mex men mnn mon mde mbt mfo mfn) (h6 : rI b1 0 25 ∧ rI b2 0 3 ∧ rI b3 (-1) 59 ∧ rI b5 (-1) 59) (h7 : KnR tz tk tks tc tt mk mkf mot mox) (h8 : rI mit 0 1 ∧ rI mfm 0 2 ∧ rI msz 0 60 ∧ ∀ i, rg (mim i)) (h9 : ShR xi0 xf0 xz0 xl0 0 mit mfm msz mim ∧ ShR xi1 xf1 xz1 xl1 1 mit mfm msz mim ∧ ShR xi2 xf2 xz2 xl2 2 mit mfm msz mim ∧ ShR xi3 xf3 xz3 xl3 3 mit mfm msz mim) (h10 : fi = mfi ∧ 0 ≤ fi ∧ fi ≤ 5) (hn : ∀ a' b', SRh a' b' → WPm ro (d + 12) (RNd ro (d + 12)) 189 mc ms Q 18 [vR 900, vR 0, vR 200, vI (p + 6)] [] (a', b') c s) : WPm ro (d + 12) (RNd ro (d + 12)) 189 mc ms Q 209 [vR 900, vR 0, vR 200, vI p] [] ((heapC tb tz tk tks tc tt iu nm ou so pl nd pa ba de en sc rsz fp ss cu os a1 a2 a3 a4 a5 b1 b2 b3 b4 b5 le fi xi0 xf0 xz0 xl0 xi1 xf1 xz1 xl1 xi2 xf2 xz2 xl2 xi3 xf3 xz3 xl3), (heapM mtz mt mk mkf mot mox mfa mnd miu mnm mso mou mpl msc mar mex men mnn mon mde mbt mfo mfn mma mit mfm msz mim mmo mfi)) c s := by
  refine WP_first [18] 80 ?_
  refine op_fault h1 h2 h3 h4 h5 h6 h7 h8 h9 h10 _ (fun a' v hM => ?_)
  refine hM _ (fun b' rv hS => ?_)
  refine t2 ?_ (fun q => q rfl) rv rv
  exact hn _ _ hS
set_option maxRecDepth 100000 in
set_option maxHeartbeats 4000000 in
theorem lx_read (hro : ∀ j, rg (ro.2 j)) (hp : 0 ≤ p ∧ p + 6 ≤ (ro.1 : Int)) (h1 : tb = mt ∧ tz = mtz) (h2 : 0 ≤ tz ∧ tz ≤ 100) (h3 : rI tb 0 255) (h4 : CRd tb tz fp nd sc rsz iu nm so ou pl pa ba en a1 a2 a3 a4 a5) (h5 : RM miu mnm mso mou mpl mar mex men mnn mon mde mbt mfo mfn) (h6 : rI b1 0 25 ∧ rI b2 0 3 ∧ rI b3 (-1) 59 ∧ rI b5 (-1) 59) (h7 : KnR tz tk tks tc tt mk mkf mot mox) (h8 : rI mit 0 1 ∧ rI mfm 0 2 ∧ rI msz 0 60 ∧ ∀ i, rg (mim i)) (h9 : ShR xi0 xf0 xz0 xl0 0 mit mfm msz mim ∧ ShR xi1 xf1 xz1 xl1 1 mit mfm msz mim ∧ ShR xi2 xf2 xz2 xl2 2 mit mfm msz mim ∧ ShR xi3 xf3 xz3 xl3 3 mit mfm msz mim) (h10 : fi = mfi ∧ 0 ≤ fi ∧ fi ≤ 5) (hn : ∀ a' b', SRh a' b' → WPm ro (d + 12) (RNd ro (d + 12)) 189 mc ms Q 18 [vR 900, vR 0, vR 200, vI (p + 6)] [] (a', b') c s) : WPm ro (d + 12) (RNd ro (d + 12)) 189 mc ms Q 222 [vR 900, vR 0, vR 200, vI p] [] ((heapC tb tz tk tks tc tt iu nm ou so pl nd pa ba de en sc rsz fp ss cu os a1 a2 a3 a4 a5 b1 b2 b3 b4 b5 le fi xi0 xf0 xz0 xl0 xi1 xf1 xz1 xl1 xi2 xf2 xz2 xl2 xi3 xf3 xz3 xl3), (heapM mtz mt mk mkf mot mox mfa mnd miu mnm mso mou mpl msc mar mex men mnn mon mde mbt mfo mfn mma mit mfm msz mim mmo mfi)) c s := by
  refine WP_first [18] 80 ?_
  refine ix ?_
  refine op_read (hro _) h1 h2 h3 h4 h5 h6 h7 h8 h9 h10 _ (fun a' v hM => ?_)
  refine ix ?_
  refine hM _ (fun b' rv hS => ?_)
  refine t2 ?_ (fun q => q rfl) rv rv
  exact hn _ _ hS
set_option maxRecDepth 100000 in
set_option maxHeartbeats 4000000 in
theorem lx_shown (hro : ∀ j, rg (ro.2 j)) (hp : 0 ≤ p ∧ p + 6 ≤ (ro.1 : Int)) (h1 : tb = mt ∧ tz = mtz) (h2 : 0 ≤ tz ∧ tz ≤ 100) (h3 : rI tb 0 255) (h4 : CRd tb tz fp nd sc rsz iu nm so ou pl pa ba en a1 a2 a3 a4 a5) (h5 : RM miu mnm mso mou mpl mar mex men mnn mon mde mbt mfo mfn) (h6 : rI b1 0 25 ∧ rI b2 0 3 ∧ rI b3 (-1) 59 ∧ rI b5 (-1) 59) (h7 : KnR tz tk tks tc tt mk mkf mot mox) (h8 : rI mit 0 1 ∧ rI mfm 0 2 ∧ rI msz 0 60 ∧ ∀ i, rg (mim i)) (h9 : ShR xi0 xf0 xz0 xl0 0 mit mfm msz mim ∧ ShR xi1 xf1 xz1 xl1 1 mit mfm msz mim ∧ ShR xi2 xf2 xz2 xl2 2 mit mfm msz mim ∧ ShR xi3 xf3 xz3 xl3 3 mit mfm msz mim) (h10 : fi = mfi ∧ 0 ≤ fi ∧ fi ≤ 5) (hn : ∀ a' b', SRh a' b' → WPm ro (d + 12) (RNd ro (d + 12)) 189 mc ms Q 18 [vR 900, vR 0, vR 200, vI (p + 6)] [] (a', b') c s) : WPm ro (d + 12) (RNd ro (d + 12)) 189 mc ms Q 245 [vR 900, vR 0, vR 200, vI p] [] ((heapC tb tz tk tks tc tt iu nm ou so pl nd pa ba de en sc rsz fp ss cu os a1 a2 a3 a4 a5 b1 b2 b3 b4 b5 le fi xi0 xf0 xz0 xl0 xi1 xf1 xz1 xl1 xi2 xf2 xz2 xl2 xi3 xf3 xz3 xl3), (heapM mtz mt mk mkf mot mox mfa mnd miu mnm mso mou mpl msc mar mex men mnn mon mde mbt mfo mfn mma mit mfm msz mim mmo mfi)) c s := by
  refine WP_first [18] 80 ?_
  refine ix ?_
  refine op_shown (hro _) h1 h2 h3 h4 h5 h6 h7 h8 h9 h10 _ (fun a' v hM => ?_)
  refine ix ?_
  refine hM _ (fun b' rv hS => ?_)
  refine t2 ?_ (fun q => q rfl) rv rv
  exact hn _ _ hS
set_option maxRecDepth 100000 in
set_option maxHeartbeats 4000000 in
theorem lx_node (hro : ∀ j, rg (ro.2 j)) (hp : 0 ≤ p ∧ p + 6 ≤ (ro.1 : Int)) (h1 : tb = mt ∧ tz = mtz) (h2 : 0 ≤ tz ∧ tz ≤ 100) (h3 : rI tb 0 255) (h4 : CRd tb tz fp nd sc rsz iu nm so ou pl pa ba en a1 a2 a3 a4 a5) (h5 : RM miu mnm mso mou mpl mar mex men mnn mon mde mbt mfo mfn) (h6 : rI b1 0 25 ∧ rI b2 0 3 ∧ rI b3 (-1) 59 ∧ rI b5 (-1) 59) (h7 : KnR tz tk tks tc tt mk mkf mot mox) (h8 : rI mit 0 1 ∧ rI mfm 0 2 ∧ rI msz 0 60 ∧ ∀ i, rg (mim i)) (h9 : ShR xi0 xf0 xz0 xl0 0 mit mfm msz mim ∧ ShR xi1 xf1 xz1 xl1 1 mit mfm msz mim ∧ ShR xi2 xf2 xz2 xl2 2 mit mfm msz mim ∧ ShR xi3 xf3 xz3 xl3 3 mit mfm msz mim) (h10 : fi = mfi ∧ 0 ≤ fi ∧ fi ≤ 5) (hn : ∀ a' b', SRh a' b' → WPm ro (d + 12) (RNd ro (d + 12)) 189 mc ms Q 18 [vR 900, vR 0, vR 200, vI (p + 6)] [] (a', b') c s) : WPm ro (d + 12) (RNd ro (d + 12)) 189 mc ms Q 268 [vR 900, vR 0, vR 200, vI p] [] ((heapC tb tz tk tks tc tt iu nm ou so pl nd pa ba de en sc rsz fp ss cu os a1 a2 a3 a4 a5 b1 b2 b3 b4 b5 le fi xi0 xf0 xz0 xl0 xi1 xf1 xz1 xl1 xi2 xf2 xz2 xl2 xi3 xf3 xz3 xl3), (heapM mtz mt mk mkf mot mox mfa mnd miu mnm mso mou mpl msc mar mex men mnn mon mde mbt mfo mfn mma mit mfm msz mim mmo mfi)) c s := by
  refine WP_first [18] 80 ?_
  refine ix ?_
  refine ix ?_
  refine op_node (hro _) (hro _) h1 h2 h3 h4 h5 h6 h7 h8 h9 h10 _ (fun a' v hM => ?_)
  refine ix ?_
  refine ix ?_
  refine hM _ (fun b' rv hS => ?_)
  refine t2 ?_ (fun q => q rfl) rv rv
  exact hn _ _ hS
set_option maxRecDepth 100000 in
set_option maxHeartbeats 4000000 in
theorem lx_scope (hro : ∀ j, rg (ro.2 j)) (hp : 0 ≤ p ∧ p + 6 ≤ (ro.1 : Int)) (h1 : tb = mt ∧ tz = mtz) (h2 : 0 ≤ tz ∧ tz ≤ 100) (h3 : rI tb 0 255) (h4 : CRd tb tz fp nd sc rsz iu nm so ou pl pa ba en a1 a2 a3 a4 a5) (h5 : RM miu mnm mso mou mpl mar mex men mnn mon mde mbt mfo mfn) (h6 : rI b1 0 25 ∧ rI b2 0 3 ∧ rI b3 (-1) 59 ∧ rI b5 (-1) 59) (h7 : KnR tz tk tks tc tt mk mkf mot mox) (h8 : rI mit 0 1 ∧ rI mfm 0 2 ∧ rI msz 0 60 ∧ ∀ i, rg (mim i)) (h9 : ShR xi0 xf0 xz0 xl0 0 mit mfm msz mim ∧ ShR xi1 xf1 xz1 xl1 1 mit mfm msz mim ∧ ShR xi2 xf2 xz2 xl2 2 mit mfm msz mim ∧ ShR xi3 xf3 xz3 xl3 3 mit mfm msz mim) (h10 : fi = mfi ∧ 0 ≤ fi ∧ fi ≤ 5) (hn : ∀ a' b', SRh a' b' → WPm ro (d + 12) (RNd ro (d + 12)) 189 mc ms Q 18 [vR 900, vR 0, vR 200, vI (p + 6)] [] (a', b') c s) : WPm ro (d + 12) (RNd ro (d + 12)) 189 mc ms Q 301 [vR 900, vR 0, vR 200, vI p] [] ((heapC tb tz tk tks tc tt iu nm ou so pl nd pa ba de en sc rsz fp ss cu os a1 a2 a3 a4 a5 b1 b2 b3 b4 b5 le fi xi0 xf0 xz0 xl0 xi1 xf1 xz1 xl1 xi2 xf2 xz2 xl2 xi3 xf3 xz3 xl3), (heapM mtz mt mk mkf mot mox mfa mnd miu mnm mso mou mpl msc mar mex men mnn mon mde mbt mfo mfn mma mit mfm msz mim mmo mfi)) c s := by
  refine WP_first [18] 80 ?_
  refine ix ?_
  refine ix ?_
  refine op_scope (hro _) (hro _) h1 h2 h3 h4 h5 h6 h7 h8 h9 h10 _ (fun a' v hM => ?_)
  refine ix ?_
  refine ix ?_
  refine hM _ (fun b' rv hS => ?_)
  refine t2 ?_ (fun q => q rfl) rv rv
  exact hn _ _ hS
set_option maxRecDepth 100000 in
set_option maxHeartbeats 4000000 in
theorem lx_bound (hro : ∀ j, rg (ro.2 j)) (hp : 0 ≤ p ∧ p + 6 ≤ (ro.1 : Int)) (h1 : tb = mt ∧ tz = mtz) (h2 : 0 ≤ tz ∧ tz ≤ 100) (h3 : rI tb 0 255) (h4 : CRd tb tz fp nd sc rsz iu nm so ou pl pa ba en a1 a2 a3 a4 a5) (h5 : RM miu mnm mso mou mpl mar mex men mnn mon mde mbt mfo mfn) (h6 : rI b1 0 25 ∧ rI b2 0 3 ∧ rI b3 (-1) 59 ∧ rI b5 (-1) 59) (h7 : KnR tz tk tks tc tt mk mkf mot mox) (h8 : rI mit 0 1 ∧ rI mfm 0 2 ∧ rI msz 0 60 ∧ ∀ i, rg (mim i)) (h9 : ShR xi0 xf0 xz0 xl0 0 mit mfm msz mim ∧ ShR xi1 xf1 xz1 xl1 1 mit mfm msz mim ∧ ShR xi2 xf2 xz2 xl2 2 mit mfm msz mim ∧ ShR xi3 xf3 xz3 xl3 3 mit mfm msz mim) (h10 : fi = mfi ∧ 0 ≤ fi ∧ fi ≤ 5) (hn : ∀ a' b', SRh a' b' → WPm ro (d + 12) (RNd ro (d + 12)) 189 mc ms Q 18 [vR 900, vR 0, vR 200, vI (p + 6)] [] (a', b') c s) : WPm ro (d + 12) (RNd ro (d + 12)) 189 mc ms Q 334 [vR 900, vR 0, vR 200, vI p] [] ((heapC tb tz tk tks tc tt iu nm ou so pl nd pa ba de en sc rsz fp ss cu os a1 a2 a3 a4 a5 b1 b2 b3 b4 b5 le fi xi0 xf0 xz0 xl0 xi1 xf1 xz1 xl1 xi2 xf2 xz2 xl2 xi3 xf3 xz3 xl3), (heapM mtz mt mk mkf mot mox mfa mnd miu mnm mso mou mpl msc mar mex men mnn mon mde mbt mfo mfn mma mit mfm msz mim mmo mfi)) c s := by
  refine WP_first [18] 80 ?_
  refine ix ?_
  refine op_bound (hro _) h1 h2 h3 h4 h5 h6 h7 h8 h9 h10 _ (fun a' v hM => ?_)
  refine ix ?_
  refine hM _ (fun b' rv hS => ?_)
  refine t2 ?_ (fun q => q rfl) rv rv
  exact hn _ _ hS
set_option maxRecDepth 100000 in
set_option maxHeartbeats 4000000 in
theorem lx_own (hro : ∀ j, rg (ro.2 j)) (hp : 0 ≤ p ∧ p + 6 ≤ (ro.1 : Int)) (h1 : tb = mt ∧ tz = mtz) (h2 : 0 ≤ tz ∧ tz ≤ 100) (h3 : rI tb 0 255) (h4 : CRd tb tz fp nd sc rsz iu nm so ou pl pa ba en a1 a2 a3 a4 a5) (h5 : RM miu mnm mso mou mpl mar mex men mnn mon mde mbt mfo mfn) (h6 : rI b1 0 25 ∧ rI b2 0 3 ∧ rI b3 (-1) 59 ∧ rI b5 (-1) 59) (h7 : KnR tz tk tks tc tt mk mkf mot mox) (h8 : rI mit 0 1 ∧ rI mfm 0 2 ∧ rI msz 0 60 ∧ ∀ i, rg (mim i)) (h9 : ShR xi0 xf0 xz0 xl0 0 mit mfm msz mim ∧ ShR xi1 xf1 xz1 xl1 1 mit mfm msz mim ∧ ShR xi2 xf2 xz2 xl2 2 mit mfm msz mim ∧ ShR xi3 xf3 xz3 xl3 3 mit mfm msz mim) (h10 : fi = mfi ∧ 0 ≤ fi ∧ fi ≤ 5) (hn : ∀ a' b', SRh a' b' → WPm ro (d + 12) (RNd ro (d + 12)) 189 mc ms Q 18 [vR 900, vR 0, vR 200, vI (p + 6)] [] (a', b') c s) : WPm ro (d + 12) (RNd ro (d + 12)) 189 mc ms Q 357 [vR 900, vR 0, vR 200, vI p] [] ((heapC tb tz tk tks tc tt iu nm ou so pl nd pa ba de en sc rsz fp ss cu os a1 a2 a3 a4 a5 b1 b2 b3 b4 b5 le fi xi0 xf0 xz0 xl0 xi1 xf1 xz1 xl1 xi2 xf2 xz2 xl2 xi3 xf3 xz3 xl3), (heapM mtz mt mk mkf mot mox mfa mnd miu mnm mso mou mpl msc mar mex men mnn mon mde mbt mfo mfn mma mit mfm msz mim mmo mfi)) c s := by
  refine WP_first [18] 80 ?_
  refine ix ?_
  refine ix ?_
  refine op_own (hro _) (hro _) h1 h2 h3 h4 h5 h6 h7 h8 h9 h10 _ (fun a' v hM => ?_)
  refine ix ?_
  refine ix ?_
  refine hM _ (fun b' rv hS => ?_)
  refine t2 ?_ (fun q => q rfl) rv rv
  exact hn _ _ hS
set_option maxRecDepth 100000 in
set_option maxHeartbeats 4000000 in
theorem lx_family (hro : ∀ j, rg (ro.2 j)) (hp : 0 ≤ p ∧ p + 6 ≤ (ro.1 : Int)) (h1 : tb = mt ∧ tz = mtz) (h2 : 0 ≤ tz ∧ tz ≤ 100) (h3 : rI tb 0 255) (h4 : CRd tb tz fp nd sc rsz iu nm so ou pl pa ba en a1 a2 a3 a4 a5) (h5 : RM miu mnm mso mou mpl mar mex men mnn mon mde mbt mfo mfn) (h6 : rI b1 0 25 ∧ rI b2 0 3 ∧ rI b3 (-1) 59 ∧ rI b5 (-1) 59) (h7 : KnR tz tk tks tc tt mk mkf mot mox) (h8 : rI mit 0 1 ∧ rI mfm 0 2 ∧ rI msz 0 60 ∧ ∀ i, rg (mim i)) (h9 : ShR xi0 xf0 xz0 xl0 0 mit mfm msz mim ∧ ShR xi1 xf1 xz1 xl1 1 mit mfm msz mim ∧ ShR xi2 xf2 xz2 xl2 2 mit mfm msz mim ∧ ShR xi3 xf3 xz3 xl3 3 mit mfm msz mim) (h10 : fi = mfi ∧ 0 ≤ fi ∧ fi ≤ 5) (hn : ∀ a' b', SRh a' b' → WPm ro (d + 12) (RNd ro (d + 12)) 189 mc ms Q 18 [vR 900, vR 0, vR 200, vI (p + 6)] [] (a', b') c s) : WPm ro (d + 12) (RNd ro (d + 12)) 189 mc ms Q 390 [vR 900, vR 0, vR 200, vI p] [] ((heapC tb tz tk tks tc tt iu nm ou so pl nd pa ba de en sc rsz fp ss cu os a1 a2 a3 a4 a5 b1 b2 b3 b4 b5 le fi xi0 xf0 xz0 xl0 xi1 xf1 xz1 xl1 xi2 xf2 xz2 xl2 xi3 xf3 xz3 xl3), (heapM mtz mt mk mkf mot mox mfa mnd miu mnm mso mou mpl msc mar mex men mnn mon mde mbt mfo mfn mma mit mfm msz mim mmo mfi)) c s := by
  refine WP_first [18] 80 ?_
  refine ix ?_
  refine op_family (hro _) h1 h2 h3 h4 h5 h6 h7 h8 h9 h10 _ (fun a' v hM => ?_)
  refine ix ?_
  refine hM _ (fun b' hS => ?_)
  refine cl (fun _ => ?_) (fun q => absurd (lcZ_eq.mpr rfl) q)
  exact hn _ _ hS
set_option maxRecDepth 100000 in
set_option maxHeartbeats 4000000 in
theorem lx_uses (hro : ∀ j, rg (ro.2 j)) (hp : 0 ≤ p ∧ p + 6 ≤ (ro.1 : Int)) (h1 : tb = mt ∧ tz = mtz) (h2 : 0 ≤ tz ∧ tz ≤ 100) (h3 : rI tb 0 255) (h4 : CRd tb tz fp nd sc rsz iu nm so ou pl pa ba en a1 a2 a3 a4 a5) (h5 : RM miu mnm mso mou mpl mar mex men mnn mon mde mbt mfo mfn) (h6 : rI b1 0 25 ∧ rI b2 0 3 ∧ rI b3 (-1) 59 ∧ rI b5 (-1) 59) (h7 : KnR tz tk tks tc tt mk mkf mot mox) (h8 : rI mit 0 1 ∧ rI mfm 0 2 ∧ rI msz 0 60 ∧ ∀ i, rg (mim i)) (h9 : ShR xi0 xf0 xz0 xl0 0 mit mfm msz mim ∧ ShR xi1 xf1 xz1 xl1 1 mit mfm msz mim ∧ ShR xi2 xf2 xz2 xl2 2 mit mfm msz mim ∧ ShR xi3 xf3 xz3 xl3 3 mit mfm msz mim) (h10 : fi = mfi ∧ 0 ≤ fi ∧ fi ≤ 5) (hn : ∀ a' b', SRh a' b' → WPm ro (d + 12) (RNd ro (d + 12)) 189 mc ms Q 18 [vR 900, vR 0, vR 200, vI (p + 6)] [] (a', b') c s) : WPm ro (d + 12) (RNd ro (d + 12)) 189 mc ms Q 414 [vR 900, vR 0, vR 200, vI p] [] ((heapC tb tz tk tks tc tt iu nm ou so pl nd pa ba de en sc rsz fp ss cu os a1 a2 a3 a4 a5 b1 b2 b3 b4 b5 le fi xi0 xf0 xz0 xl0 xi1 xf1 xz1 xl1 xi2 xf2 xz2 xl2 xi3 xf3 xz3 xl3), (heapM mtz mt mk mkf mot mox mfa mnd miu mnm mso mou mpl msc mar mex men mnn mon mde mbt mfo mfn mma mit mfm msz mim mmo mfi)) c s := by
  refine WP_first [18] 80 ?_
  refine ix ?_
  refine op_uses (hro _) h1 h2 h3 h4 h5 h6 h7 h8 h9 h10 _ (fun a' v hM => ?_)
  refine ix ?_
  refine hM _ (fun b' hS => ?_)
  refine cl (fun _ => ?_) (fun q => absurd (lcZ_eq.mpr rfl) q)
  exact hn _ _ hS
set_option maxRecDepth 100000 in
set_option maxHeartbeats 4000000 in
theorem lx_hides (hro : ∀ j, rg (ro.2 j)) (hp : 0 ≤ p ∧ p + 6 ≤ (ro.1 : Int)) (h1 : tb = mt ∧ tz = mtz) (h2 : 0 ≤ tz ∧ tz ≤ 100) (h3 : rI tb 0 255) (h4 : CRd tb tz fp nd sc rsz iu nm so ou pl pa ba en a1 a2 a3 a4 a5) (h5 : RM miu mnm mso mou mpl mar mex men mnn mon mde mbt mfo mfn) (h6 : rI b1 0 25 ∧ rI b2 0 3 ∧ rI b3 (-1) 59 ∧ rI b5 (-1) 59) (h7 : KnR tz tk tks tc tt mk mkf mot mox) (h8 : rI mit 0 1 ∧ rI mfm 0 2 ∧ rI msz 0 60 ∧ ∀ i, rg (mim i)) (h9 : ShR xi0 xf0 xz0 xl0 0 mit mfm msz mim ∧ ShR xi1 xf1 xz1 xl1 1 mit mfm msz mim ∧ ShR xi2 xf2 xz2 xl2 2 mit mfm msz mim ∧ ShR xi3 xf3 xz3 xl3 3 mit mfm msz mim) (h10 : fi = mfi ∧ 0 ≤ fi ∧ fi ≤ 5) (hn : ∀ a' b', SRh a' b' → WPm ro (d + 12) (RNd ro (d + 12)) 189 mc ms Q 18 [vR 900, vR 0, vR 200, vI (p + 6)] [] (a', b') c s) : WPm ro (d + 12) (RNd ro (d + 12)) 189 mc ms Q 438 [vR 900, vR 0, vR 200, vI p] [] ((heapC tb tz tk tks tc tt iu nm ou so pl nd pa ba de en sc rsz fp ss cu os a1 a2 a3 a4 a5 b1 b2 b3 b4 b5 le fi xi0 xf0 xz0 xl0 xi1 xf1 xz1 xl1 xi2 xf2 xz2 xl2 xi3 xf3 xz3 xl3), (heapM mtz mt mk mkf mot mox mfa mnd miu mnm mso mou mpl msc mar mex men mnn mon mde mbt mfo mfn mma mit mfm msz mim mmo mfi)) c s := by
  refine WP_first [18] 80 ?_
  refine ix ?_
  refine op_hides (hro _) h1 h2 h3 h4 h5 h6 h7 h8 h9 h10 _ (fun a' v hM => ?_)
  refine ix ?_
  refine hM _ (fun b' rv hS => ?_)
  refine t2 ?_ (fun q => q rfl) rv rv
  exact hn _ _ hS
set_option maxRecDepth 100000 in
set_option maxHeartbeats 4000000 in
theorem lx_idle (hro : ∀ j, rg (ro.2 j)) (hp : 0 ≤ p ∧ p + 6 ≤ (ro.1 : Int)) (h1 : tb = mt ∧ tz = mtz) (h2 : 0 ≤ tz ∧ tz ≤ 100) (h3 : rI tb 0 255) (h4 : CRd tb tz fp nd sc rsz iu nm so ou pl pa ba en a1 a2 a3 a4 a5) (h5 : RM miu mnm mso mou mpl mar mex men mnn mon mde mbt mfo mfn) (h6 : rI b1 0 25 ∧ rI b2 0 3 ∧ rI b3 (-1) 59 ∧ rI b5 (-1) 59) (h7 : KnR tz tk tks tc tt mk mkf mot mox) (h8 : rI mit 0 1 ∧ rI mfm 0 2 ∧ rI msz 0 60 ∧ ∀ i, rg (mim i)) (h9 : ShR xi0 xf0 xz0 xl0 0 mit mfm msz mim ∧ ShR xi1 xf1 xz1 xl1 1 mit mfm msz mim ∧ ShR xi2 xf2 xz2 xl2 2 mit mfm msz mim ∧ ShR xi3 xf3 xz3 xl3 3 mit mfm msz mim) (h10 : fi = mfi ∧ 0 ≤ fi ∧ fi ≤ 5) (hn : ∀ a' b', SRh a' b' → WPm ro (d + 12) (RNd ro (d + 12)) 189 mc ms Q 18 [vR 900, vR 0, vR 200, vI (p + 6)] [] (a', b') c s) : WPm ro (d + 12) (RNd ro (d + 12)) 189 mc ms Q 461 [vR 900, vR 0, vR 200, vI p] [] ((heapC tb tz tk tks tc tt iu nm ou so pl nd pa ba de en sc rsz fp ss cu os a1 a2 a3 a4 a5 b1 b2 b3 b4 b5 le fi xi0 xf0 xz0 xl0 xi1 xf1 xz1 xl1 xi2 xf2 xz2 xl2 xi3 xf3 xz3 xl3), (heapM mtz mt mk mkf mot mox mfa mnd miu mnm mso mou mpl msc mar mex men mnn mon mde mbt mfo mfn mma mit mfm msz mim mmo mfi)) c s := by
  refine WP_first [18] 80 ?_
  refine op_idle h1 h2 h3 h4 h5 h6 h7 h8 h9 h10 _ (fun a' v hM => ?_)
  refine hM _ (fun b' hS => ?_)
  refine cl (fun _ => ?_) (fun q => absurd (lcZ_eq.mpr rfl) q)
  exact hn _ _ hS
set_option maxRecDepth 100000 in
set_option maxHeartbeats 4000000 in
theorem lx_plan (hro : ∀ j, rg (ro.2 j)) (hp : 0 ≤ p ∧ p + 6 ≤ (ro.1 : Int)) (h1 : tb = mt ∧ tz = mtz) (h2 : 0 ≤ tz ∧ tz ≤ 100) (h3 : rI tb 0 255) (h4 : CRd tb tz fp nd sc rsz iu nm so ou pl pa ba en a1 a2 a3 a4 a5) (h5 : RM miu mnm mso mou mpl mar mex men mnn mon mde mbt mfo mfn) (h6 : rI b1 0 25 ∧ rI b2 0 3 ∧ rI b3 (-1) 59 ∧ rI b5 (-1) 59) (h7 : KnR tz tk tks tc tt mk mkf mot mox) (h8 : rI mit 0 1 ∧ rI mfm 0 2 ∧ rI msz 0 60 ∧ ∀ i, rg (mim i)) (h9 : ShR xi0 xf0 xz0 xl0 0 mit mfm msz mim ∧ ShR xi1 xf1 xz1 xl1 1 mit mfm msz mim ∧ ShR xi2 xf2 xz2 xl2 2 mit mfm msz mim ∧ ShR xi3 xf3 xz3 xl3 3 mit mfm msz mim) (h10 : fi = mfi ∧ 0 ≤ fi ∧ fi ≤ 5) (hn : ∀ a' b', SRh a' b' → WPm ro (d + 12) (RNd ro (d + 12)) 189 mc ms Q 18 [vR 900, vR 0, vR 200, vI (p + 6)] [] (a', b') c s) : WPm ro (d + 12) (RNd ro (d + 12)) 189 mc ms Q 475 [vR 900, vR 0, vR 200, vI p] [] ((heapC tb tz tk tks tc tt iu nm ou so pl nd pa ba de en sc rsz fp ss cu os a1 a2 a3 a4 a5 b1 b2 b3 b4 b5 le fi xi0 xf0 xz0 xl0 xi1 xf1 xz1 xl1 xi2 xf2 xz2 xl2 xi3 xf3 xz3 xl3), (heapM mtz mt mk mkf mot mox mfa mnd miu mnm mso mou mpl msc mar mex men mnn mon mde mbt mfo mfn mma mit mfm msz mim mmo mfi)) c s := by
  refine WP_first [18] 80 ?_
  refine ix ?_
  refine ix ?_
  refine ix ?_
  refine op_plan (hro _) (hro _) (hro _) h1 h2 h3 h4 h5 h6 h7 h8 h9 h10 _ (fun a' v hM => ?_)
  refine ix ?_
  refine ix ?_
  refine ix ?_
  refine hM _ (fun b' rv hS => ?_)
  refine t2 ?_ (fun q => q rfl) rv rv
  exact hn _ _ hS
set_option maxRecDepth 100000 in
set_option maxHeartbeats 4000000 in
theorem lx_edits (hro : ∀ j, rg (ro.2 j)) (hp : 0 ≤ p ∧ p + 6 ≤ (ro.1 : Int)) (h1 : tb = mt ∧ tz = mtz) (h2 : 0 ≤ tz ∧ tz ≤ 100) (h3 : rI tb 0 255) (h4 : CRd tb tz fp nd sc rsz iu nm so ou pl pa ba en a1 a2 a3 a4 a5) (h5 : RM miu mnm mso mou mpl mar mex men mnn mon mde mbt mfo mfn) (h6 : rI b1 0 25 ∧ rI b2 0 3 ∧ rI b3 (-1) 59 ∧ rI b5 (-1) 59) (h7 : KnR tz tk tks tc tt mk mkf mot mox) (h8 : rI mit 0 1 ∧ rI mfm 0 2 ∧ rI msz 0 60 ∧ ∀ i, rg (mim i)) (h9 : ShR xi0 xf0 xz0 xl0 0 mit mfm msz mim ∧ ShR xi1 xf1 xz1 xl1 1 mit mfm msz mim ∧ ShR xi2 xf2 xz2 xl2 2 mit mfm msz mim ∧ ShR xi3 xf3 xz3 xl3 3 mit mfm msz mim) (h10 : fi = mfi ∧ 0 ≤ fi ∧ fi ≤ 5) (hn : ∀ a' b', SRh a' b' → WPm ro (d + 12) (RNd ro (d + 12)) 189 mc ms Q 18 [vR 900, vR 0, vR 200, vI (p + 6)] [] (a', b') c s) : WPm ro (d + 12) (RNd ro (d + 12)) 189 mc ms Q 518 [vR 900, vR 0, vR 200, vI p] [] ((heapC tb tz tk tks tc tt iu nm ou so pl nd pa ba de en sc rsz fp ss cu os a1 a2 a3 a4 a5 b1 b2 b3 b4 b5 le fi xi0 xf0 xz0 xl0 xi1 xf1 xz1 xl1 xi2 xf2 xz2 xl2 xi3 xf3 xz3 xl3), (heapM mtz mt mk mkf mot mox mfa mnd miu mnm mso mou mpl msc mar mex men mnn mon mde mbt mfo mfn mma mit mfm msz mim mmo mfi)) c s := by
  refine WP_first [18] 80 ?_
  refine ix ?_
  refine ix ?_
  refine ix ?_
  refine op_edits (hro _) (hro _) (hro _) h1 h2 h3 h4 h5 h6 h7 h8 h9 h10 _ (fun a' v hM => ?_)
  refine ix ?_
  refine ix ?_
  refine ix ?_
  refine hM _ (fun b' rv hS => ?_)
  refine t2 ?_ (fun q => q rfl) rv rv
  exact hn _ _ hS
set_option maxRecDepth 100000 in
set_option maxHeartbeats 4000000 in
theorem lx_caught (hro : ∀ j, rg (ro.2 j)) (hp : 0 ≤ p ∧ p + 6 ≤ (ro.1 : Int)) (h1 : tb = mt ∧ tz = mtz) (h2 : 0 ≤ tz ∧ tz ≤ 100) (h3 : rI tb 0 255) (h4 : CRd tb tz fp nd sc rsz iu nm so ou pl pa ba en a1 a2 a3 a4 a5) (h5 : RM miu mnm mso mou mpl mar mex men mnn mon mde mbt mfo mfn) (h6 : rI b1 0 25 ∧ rI b2 0 3 ∧ rI b3 (-1) 59 ∧ rI b5 (-1) 59) (h7 : KnR tz tk tks tc tt mk mkf mot mox) (h8 : rI mit 0 1 ∧ rI mfm 0 2 ∧ rI msz 0 60 ∧ ∀ i, rg (mim i)) (h9 : ShR xi0 xf0 xz0 xl0 0 mit mfm msz mim ∧ ShR xi1 xf1 xz1 xl1 1 mit mfm msz mim ∧ ShR xi2 xf2 xz2 xl2 2 mit mfm msz mim ∧ ShR xi3 xf3 xz3 xl3 3 mit mfm msz mim) (h10 : fi = mfi ∧ 0 ≤ fi ∧ fi ≤ 5) (hn : ∀ a' b', SRh a' b' → WPm ro (d + 12) (RNd ro (d + 12)) 189 mc ms Q 18 [vR 900, vR 0, vR 200, vI (p + 6)] [] (a', b') c s) : WPm ro (d + 12) (RNd ro (d + 12)) 189 mc ms Q 561 [vR 900, vR 0, vR 200, vI p] [] ((heapC tb tz tk tks tc tt iu nm ou so pl nd pa ba de en sc rsz fp ss cu os a1 a2 a3 a4 a5 b1 b2 b3 b4 b5 le fi xi0 xf0 xz0 xl0 xi1 xf1 xz1 xl1 xi2 xf2 xz2 xl2 xi3 xf3 xz3 xl3), (heapM mtz mt mk mkf mot mox mfa mnd miu mnm mso mou mpl msc mar mex men mnn mon mde mbt mfo mfn mma mit mfm msz mim mmo mfi)) c s := by
  refine WP_first [18] 80 ?_
  refine ix ?_
  refine ix ?_
  refine ix ?_
  refine op_caught (hro _) (hro _) (hro _) h1 h2 h3 h4 h5 h6 h7 h8 h9 h10 _ (fun a' v hM => ?_)
  refine ix ?_
  refine ix ?_
  refine ix ?_
  refine hM _ (fun b' rv hS => ?_)
  refine t2 ?_ (fun q => q rfl) rv rv
  exact hn _ _ hS
set_option maxRecDepth 100000 in
set_option maxHeartbeats 4000000 in
theorem lx_easy (hro : ∀ j, rg (ro.2 j)) (hp : 0 ≤ p ∧ p + 6 ≤ (ro.1 : Int)) (h1 : tb = mt ∧ tz = mtz) (h2 : 0 ≤ tz ∧ tz ≤ 100) (h3 : rI tb 0 255) (h4 : CRd tb tz fp nd sc rsz iu nm so ou pl pa ba en a1 a2 a3 a4 a5) (h5 : RM miu mnm mso mou mpl mar mex men mnn mon mde mbt mfo mfn) (h6 : rI b1 0 25 ∧ rI b2 0 3 ∧ rI b3 (-1) 59 ∧ rI b5 (-1) 59) (h7 : KnR tz tk tks tc tt mk mkf mot mox) (h8 : rI mit 0 1 ∧ rI mfm 0 2 ∧ rI msz 0 60 ∧ ∀ i, rg (mim i)) (h9 : ShR xi0 xf0 xz0 xl0 0 mit mfm msz mim ∧ ShR xi1 xf1 xz1 xl1 1 mit mfm msz mim ∧ ShR xi2 xf2 xz2 xl2 2 mit mfm msz mim ∧ ShR xi3 xf3 xz3 xl3 3 mit mfm msz mim) (h10 : fi = mfi ∧ 0 ≤ fi ∧ fi ≤ 5) (hn : ∀ a' b', SRh a' b' → WPm ro (d + 12) (RNd ro (d + 12)) 189 mc ms Q 18 [vR 900, vR 0, vR 200, vI (p + 6)] [] (a', b') c s) : WPm ro (d + 12) (RNd ro (d + 12)) 189 mc ms Q 604 [vR 900, vR 0, vR 200, vI p] [] ((heapC tb tz tk tks tc tt iu nm ou so pl nd pa ba de en sc rsz fp ss cu os a1 a2 a3 a4 a5 b1 b2 b3 b4 b5 le fi xi0 xf0 xz0 xl0 xi1 xf1 xz1 xl1 xi2 xf2 xz2 xl2 xi3 xf3 xz3 xl3), (heapM mtz mt mk mkf mot mox mfa mnd miu mnm mso mou mpl msc mar mex men mnn mon mde mbt mfo mfn mma mit mfm msz mim mmo mfi)) c s := by
  refine WP_first [18] 80 ?_
  refine ix ?_
  refine op_easy (hro _) h1 h2 h3 h4 h5 h6 h7 h8 h9 h10 _ (fun a' v hM => ?_)
  refine ix ?_
  refine hM _ (fun b' rv hS => ?_)
  refine t2 ?_ (fun q => q rfl) rv rv
  exact hn _ _ hS
set_option maxRecDepth 100000 in
set_option maxHeartbeats 4000000 in
theorem lx_rename (hro : ∀ j, rg (ro.2 j)) (hp : 0 ≤ p ∧ p + 6 ≤ (ro.1 : Int)) (h1 : tb = mt ∧ tz = mtz) (h2 : 0 ≤ tz ∧ tz ≤ 100) (h3 : rI tb 0 255) (h4 : CRd tb tz fp nd sc rsz iu nm so ou pl pa ba en a1 a2 a3 a4 a5) (h5 : RM miu mnm mso mou mpl mar mex men mnn mon mde mbt mfo mfn) (h6 : rI b1 0 25 ∧ rI b2 0 3 ∧ rI b3 (-1) 59 ∧ rI b5 (-1) 59) (h7 : KnR tz tk tks tc tt mk mkf mot mox) (h8 : rI mit 0 1 ∧ rI mfm 0 2 ∧ rI msz 0 60 ∧ ∀ i, rg (mim i)) (h9 : ShR xi0 xf0 xz0 xl0 0 mit mfm msz mim ∧ ShR xi1 xf1 xz1 xl1 1 mit mfm msz mim ∧ ShR xi2 xf2 xz2 xl2 2 mit mfm msz mim ∧ ShR xi3 xf3 xz3 xl3 3 mit mfm msz mim) (h10 : fi = mfi ∧ 0 ≤ fi ∧ fi ≤ 5) (hn : ∀ a' b', SRh a' b' → WPm ro (d + 12) (RNd ro (d + 12)) 189 mc ms Q 18 [vR 900, vR 0, vR 200, vI (p + 6)] [] (a', b') c s) : WPm ro (d + 12) (RNd ro (d + 12)) 189 mc ms Q 627 [vR 900, vR 0, vR 200, vI p] [] ((heapC tb tz tk tks tc tt iu nm ou so pl nd pa ba de en sc rsz fp ss cu os a1 a2 a3 a4 a5 b1 b2 b3 b4 b5 le fi xi0 xf0 xz0 xl0 xi1 xf1 xz1 xl1 xi2 xf2 xz2 xl2 xi3 xf3 xz3 xl3), (heapM mtz mt mk mkf mot mox mfa mnd miu mnm mso mou mpl msc mar mex men mnn mon mde mbt mfo mfn mma mit mfm msz mim mmo mfi)) c s := by
  refine WP_first [18] 80 ?_
  refine ix ?_
  refine ix ?_
  refine op_rename (hro _) (hro _) h1 h2 h3 h4 h5 h6 h7 h8 h9 h10 _ (fun a' v hM => ?_)
  refine ix ?_
  refine ix ?_
  refine hM _ (fun b' rv hS => ?_)
  refine t2 ?_ (fun q => q rfl) rv rv
  exact hn _ _ hS
set_option maxRecDepth 100000 in
set_option maxHeartbeats 4000000 in
theorem lx_back (hro : ∀ j, rg (ro.2 j)) (hp : 0 ≤ p ∧ p + 6 ≤ (ro.1 : Int)) (h1 : tb = mt ∧ tz = mtz) (h2 : 0 ≤ tz ∧ tz ≤ 100) (h3 : rI tb 0 255) (h4 : CRd tb tz fp nd sc rsz iu nm so ou pl pa ba en a1 a2 a3 a4 a5) (h5 : RM miu mnm mso mou mpl mar mex men mnn mon mde mbt mfo mfn) (h6 : rI b1 0 25 ∧ rI b2 0 3 ∧ rI b3 (-1) 59 ∧ rI b5 (-1) 59) (h7 : KnR tz tk tks tc tt mk mkf mot mox) (h8 : rI mit 0 1 ∧ rI mfm 0 2 ∧ rI msz 0 60 ∧ ∀ i, rg (mim i)) (h9 : ShR xi0 xf0 xz0 xl0 0 mit mfm msz mim ∧ ShR xi1 xf1 xz1 xl1 1 mit mfm msz mim ∧ ShR xi2 xf2 xz2 xl2 2 mit mfm msz mim ∧ ShR xi3 xf3 xz3 xl3 3 mit mfm msz mim) (h10 : fi = mfi ∧ 0 ≤ fi ∧ fi ≤ 5) (hn : ∀ a' b', SRh a' b' → WPm ro (d + 12) (RNd ro (d + 12)) 189 mc ms Q 18 [vR 900, vR 0, vR 200, vI (p + 6)] [] (a', b') c s) : WPm ro (d + 12) (RNd ro (d + 12)) 189 mc ms Q 660 [vR 900, vR 0, vR 200, vI p] [] ((heapC tb tz tk tks tc tt iu nm ou so pl nd pa ba de en sc rsz fp ss cu os a1 a2 a3 a4 a5 b1 b2 b3 b4 b5 le fi xi0 xf0 xz0 xl0 xi1 xf1 xz1 xl1 xi2 xf2 xz2 xl2 xi3 xf3 xz3 xl3), (heapM mtz mt mk mkf mot mox mfa mnd miu mnm mso mou mpl msc mar mex men mnn mon mde mbt mfo mfn mma mit mfm msz mim mmo mfi)) c s := by
  refine WP_first [18] 80 ?_
  refine op_back h1 h2 h3 h4 h5 h6 h7 h8 h9 h10 _ (fun a' v hM => ?_)
  refine hM _ (fun b' rv hS => ?_)
  refine t2 ?_ (fun q => q rfl) rv rv
  exact hn _ _ hS
set_option maxRecDepth 100000 in
set_option maxHeartbeats 4000000 in
theorem lx_sheet (hro : ∀ j, rg (ro.2 j)) (hp : 0 ≤ p ∧ p + 6 ≤ (ro.1 : Int)) (h1 : tb = mt ∧ tz = mtz) (h2 : 0 ≤ tz ∧ tz ≤ 100) (h3 : rI tb 0 255) (h4 : CRd tb tz fp nd sc rsz iu nm so ou pl pa ba en a1 a2 a3 a4 a5) (h5 : RM miu mnm mso mou mpl mar mex men mnn mon mde mbt mfo mfn) (h6 : rI b1 0 25 ∧ rI b2 0 3 ∧ rI b3 (-1) 59 ∧ rI b5 (-1) 59) (h7 : KnR tz tk tks tc tt mk mkf mot mox) (h8 : rI mit 0 1 ∧ rI mfm 0 2 ∧ rI msz 0 60 ∧ ∀ i, rg (mim i)) (h9 : ShR xi0 xf0 xz0 xl0 0 mit mfm msz mim ∧ ShR xi1 xf1 xz1 xl1 1 mit mfm msz mim ∧ ShR xi2 xf2 xz2 xl2 2 mit mfm msz mim ∧ ShR xi3 xf3 xz3 xl3 3 mit mfm msz mim) (h10 : fi = mfi ∧ 0 ≤ fi ∧ fi ≤ 5) (hn : ∀ a' b', SRh a' b' → WPm ro (d + 12) (RNd ro (d + 12)) 189 mc ms Q 18 [vR 900, vR 0, vR 200, vI (p + 6)] [] (a', b') c s) : WPm ro (d + 12) (RNd ro (d + 12)) 189 mc ms Q 673 [vR 900, vR 0, vR 200, vI p] [] ((heapC tb tz tk tks tc tt iu nm ou so pl nd pa ba de en sc rsz fp ss cu os a1 a2 a3 a4 a5 b1 b2 b3 b4 b5 le fi xi0 xf0 xz0 xl0 xi1 xf1 xz1 xl1 xi2 xf2 xz2 xl2 xi3 xf3 xz3 xl3), (heapM mtz mt mk mkf mot mox mfa mnd miu mnm mso mou mpl msc mar mex men mnn mon mde mbt mfo mfn mma mit mfm msz mim mmo mfi)) c s := by
  refine WP_first [18] 80 ?_
  refine ix ?_
  refine ix ?_
  refine ix ?_
  refine op_sheet (hro _) (hro _) (hro _) h1 h2 h3 h4 h5 h6 h7 h8 h9 h10 _ (fun a' v hM => ?_)
  refine ix ?_
  refine ix ?_
  refine ix ?_
  refine hM _ (fun b' rv hS => ?_)
  refine t2 ?_ (fun q => q rfl) rv rv
  exact hn _ _ hS
set_option maxRecDepth 100000 in
set_option maxHeartbeats 4000000 in
theorem lx_lose (hro : ∀ j, rg (ro.2 j)) (hp : 0 ≤ p ∧ p + 6 ≤ (ro.1 : Int)) (h1 : tb = mt ∧ tz = mtz) (h2 : 0 ≤ tz ∧ tz ≤ 100) (h3 : rI tb 0 255) (h4 : CRd tb tz fp nd sc rsz iu nm so ou pl pa ba en a1 a2 a3 a4 a5) (h5 : RM miu mnm mso mou mpl mar mex men mnn mon mde mbt mfo mfn) (h6 : rI b1 0 25 ∧ rI b2 0 3 ∧ rI b3 (-1) 59 ∧ rI b5 (-1) 59) (h7 : KnR tz tk tks tc tt mk mkf mot mox) (h8 : rI mit 0 1 ∧ rI mfm 0 2 ∧ rI msz 0 60 ∧ ∀ i, rg (mim i)) (h9 : ShR xi0 xf0 xz0 xl0 0 mit mfm msz mim ∧ ShR xi1 xf1 xz1 xl1 1 mit mfm msz mim ∧ ShR xi2 xf2 xz2 xl2 2 mit mfm msz mim ∧ ShR xi3 xf3 xz3 xl3 3 mit mfm msz mim) (h10 : fi = mfi ∧ 0 ≤ fi ∧ fi ≤ 5) (hn : ∀ a' b', SRh a' b' → WPm ro (d + 12) (RNd ro (d + 12)) 189 mc ms Q 18 [vR 900, vR 0, vR 200, vI (p + 6)] [] (a', b') c s) : WPm ro (d + 12) (RNd ro (d + 12)) 189 mc ms Q 716 [vR 900, vR 0, vR 200, vI p] [] ((heapC tb tz tk tks tc tt iu nm ou so pl nd pa ba de en sc rsz fp ss cu os a1 a2 a3 a4 a5 b1 b2 b3 b4 b5 le fi xi0 xf0 xz0 xl0 xi1 xf1 xz1 xl1 xi2 xf2 xz2 xl2 xi3 xf3 xz3 xl3), (heapM mtz mt mk mkf mot mox mfa mnd miu mnm mso mou mpl msc mar mex men mnn mon mde mbt mfo mfn mma mit mfm msz mim mmo mfi)) c s := by
  refine WP_first [18] 80 ?_
  refine ix ?_
  refine op_lose (hro _) h1 h2 h3 h4 h5 h6 h7 h8 h9 h10 _ (fun a' v hM => ?_)
  refine ix ?_
  refine hM _ (fun b' rv hS => ?_)
  refine t2 ?_ (fun q => q rfl) rv rv
  exact hn _ _ hS
set_option maxRecDepth 100000 in
set_option maxHeartbeats 4000000 in
theorem lx_put (hro : ∀ j, rg (ro.2 j)) (hp : 0 ≤ p ∧ p + 6 ≤ (ro.1 : Int)) (h1 : tb = mt ∧ tz = mtz) (h2 : 0 ≤ tz ∧ tz ≤ 100) (h3 : rI tb 0 255) (h4 : CRd tb tz fp nd sc rsz iu nm so ou pl pa ba en a1 a2 a3 a4 a5) (h5 : RM miu mnm mso mou mpl mar mex men mnn mon mde mbt mfo mfn) (h6 : rI b1 0 25 ∧ rI b2 0 3 ∧ rI b3 (-1) 59 ∧ rI b5 (-1) 59) (h7 : KnR tz tk tks tc tt mk mkf mot mox) (h8 : rI mit 0 1 ∧ rI mfm 0 2 ∧ rI msz 0 60 ∧ ∀ i, rg (mim i)) (h9 : ShR xi0 xf0 xz0 xl0 0 mit mfm msz mim ∧ ShR xi1 xf1 xz1 xl1 1 mit mfm msz mim ∧ ShR xi2 xf2 xz2 xl2 2 mit mfm msz mim ∧ ShR xi3 xf3 xz3 xl3 3 mit mfm msz mim) (h10 : fi = mfi ∧ 0 ≤ fi ∧ fi ≤ 5) (hn : ∀ a' b', SRh a' b' → WPm ro (d + 12) (RNd ro (d + 12)) 189 mc ms Q 18 [vR 900, vR 0, vR 200, vI (p + 6)] [] (a', b') c s) : WPm ro (d + 12) (RNd ro (d + 12)) 189 mc ms Q 739 [vR 900, vR 0, vR 200, vI p] [] ((heapC tb tz tk tks tc tt iu nm ou so pl nd pa ba de en sc rsz fp ss cu os a1 a2 a3 a4 a5 b1 b2 b3 b4 b5 le fi xi0 xf0 xz0 xl0 xi1 xf1 xz1 xl1 xi2 xf2 xz2 xl2 xi3 xf3 xz3 xl3), (heapM mtz mt mk mkf mot mox mfa mnd miu mnm mso mou mpl msc mar mex men mnn mon mde mbt mfo mfn mma mit mfm msz mim mmo mfi)) c s := by
  refine WP_first [18] 80 ?_
  refine ix ?_
  refine ix ?_
  refine ix ?_
  refine ix ?_
  refine op_put (hro _) (hro _) (hro _) (hro _) h1 h2 h3 h4 h5 h6 h7 h8 h9 h10 _ (fun a' v hM => ?_)
  refine ix ?_
  refine ix ?_
  refine ix ?_
  refine ix ?_
  refine hM _ (fun b' rv hS => ?_)
  refine t2 ?_ (fun q => q rfl) rv rv
  exact hn _ _ hS
set_option maxRecDepth 100000 in
set_option maxHeartbeats 4000000 in
theorem lx_get (hro : ∀ j, rg (ro.2 j)) (hp : 0 ≤ p ∧ p + 6 ≤ (ro.1 : Int)) (h1 : tb = mt ∧ tz = mtz) (h2 : 0 ≤ tz ∧ tz ≤ 100) (h3 : rI tb 0 255) (h4 : CRd tb tz fp nd sc rsz iu nm so ou pl pa ba en a1 a2 a3 a4 a5) (h5 : RM miu mnm mso mou mpl mar mex men mnn mon mde mbt mfo mfn) (h6 : rI b1 0 25 ∧ rI b2 0 3 ∧ rI b3 (-1) 59 ∧ rI b5 (-1) 59) (h7 : KnR tz tk tks tc tt mk mkf mot mox) (h8 : rI mit 0 1 ∧ rI mfm 0 2 ∧ rI msz 0 60 ∧ ∀ i, rg (mim i)) (h9 : ShR xi0 xf0 xz0 xl0 0 mit mfm msz mim ∧ ShR xi1 xf1 xz1 xl1 1 mit mfm msz mim ∧ ShR xi2 xf2 xz2 xl2 2 mit mfm msz mim ∧ ShR xi3 xf3 xz3 xl3 3 mit mfm msz mim) (h10 : fi = mfi ∧ 0 ≤ fi ∧ fi ≤ 5) (hn : ∀ a' b', SRh a' b' → WPm ro (d + 12) (RNd ro (d + 12)) 189 mc ms Q 18 [vR 900, vR 0, vR 200, vI (p + 6)] [] (a', b') c s) : WPm ro (d + 12) (RNd ro (d + 12)) 189 mc ms Q 792 [vR 900, vR 0, vR 200, vI p] [] ((heapC tb tz tk tks tc tt iu nm ou so pl nd pa ba de en sc rsz fp ss cu os a1 a2 a3 a4 a5 b1 b2 b3 b4 b5 le fi xi0 xf0 xz0 xl0 xi1 xf1 xz1 xl1 xi2 xf2 xz2 xl2 xi3 xf3 xz3 xl3), (heapM mtz mt mk mkf mot mox mfa mnd miu mnm mso mou mpl msc mar mex men mnn mon mde mbt mfo mfn mma mit mfm msz mim mmo mfi)) c s := by
  refine WP_first [18] 80 ?_
  refine ix ?_
  refine ix ?_
  refine ix ?_
  refine op_get (hro _) (hro _) (hro _) h1 h2 h3 h4 h5 h6 h7 h8 h9 h10 _ (fun a' v hM => ?_)
  refine ix ?_
  refine ix ?_
  refine ix ?_
  refine hM _ (fun b' rv hS => ?_)
  refine t2 ?_ (fun q => q rfl) rv rv
  exact hn _ _ hS
set_option maxRecDepth 100000 in
set_option maxHeartbeats 4000000 in
theorem lx_copy (hro : ∀ j, rg (ro.2 j)) (hp : 0 ≤ p ∧ p + 6 ≤ (ro.1 : Int)) (h1 : tb = mt ∧ tz = mtz) (h2 : 0 ≤ tz ∧ tz ≤ 100) (h3 : rI tb 0 255) (h4 : CRd tb tz fp nd sc rsz iu nm so ou pl pa ba en a1 a2 a3 a4 a5) (h5 : RM miu mnm mso mou mpl mar mex men mnn mon mde mbt mfo mfn) (h6 : rI b1 0 25 ∧ rI b2 0 3 ∧ rI b3 (-1) 59 ∧ rI b5 (-1) 59) (h7 : KnR tz tk tks tc tt mk mkf mot mox) (h8 : rI mit 0 1 ∧ rI mfm 0 2 ∧ rI msz 0 60 ∧ ∀ i, rg (mim i)) (h9 : ShR xi0 xf0 xz0 xl0 0 mit mfm msz mim ∧ ShR xi1 xf1 xz1 xl1 1 mit mfm msz mim ∧ ShR xi2 xf2 xz2 xl2 2 mit mfm msz mim ∧ ShR xi3 xf3 xz3 xl3 3 mit mfm msz mim) (h10 : fi = mfi ∧ 0 ≤ fi ∧ fi ≤ 5) (hn : ∀ a' b', SRh a' b' → WPm ro (d + 12) (RNd ro (d + 12)) 189 mc ms Q 18 [vR 900, vR 0, vR 200, vI (p + 6)] [] (a', b') c s) : WPm ro (d + 12) (RNd ro (d + 12)) 189 mc ms Q 835 [vR 900, vR 0, vR 200, vI p] [] ((heapC tb tz tk tks tc tt iu nm ou so pl nd pa ba de en sc rsz fp ss cu os a1 a2 a3 a4 a5 b1 b2 b3 b4 b5 le fi xi0 xf0 xz0 xl0 xi1 xf1 xz1 xl1 xi2 xf2 xz2 xl2 xi3 xf3 xz3 xl3), (heapM mtz mt mk mkf mot mox mfa mnd miu mnm mso mou mpl msc mar mex men mnn mon mde mbt mfo mfn mma mit mfm msz mim mmo mfi)) c s := by
  refine WP_first [18] 80 ?_
  refine ix ?_
  refine ix ?_
  refine ix ?_
  refine ix ?_
  refine ix ?_
  refine op_copy (hro _) (hro _) (hro _) (hro _) (hro _) h1 h2 h3 h4 h5 h6 h7 h8 h9 h10 _ (fun a' v hM => ?_)
  refine ix ?_
  refine ix ?_
  refine ix ?_
  refine ix ?_
  refine ix ?_
  refine hM _ (fun b' rv hS => ?_)
  refine t2 ?_ (fun q => q rfl) rv rv
  exact hn _ _ hS
set_option maxRecDepth 100000 in
set_option maxHeartbeats 4000000 in
theorem lx_write (hro : ∀ j, rg (ro.2 j)) (hp : 0 ≤ p ∧ p + 6 ≤ (ro.1 : Int)) (h1 : tb = mt ∧ tz = mtz) (h2 : 0 ≤ tz ∧ tz ≤ 100) (h3 : rI tb 0 255) (h4 : CRd tb tz fp nd sc rsz iu nm so ou pl pa ba en a1 a2 a3 a4 a5) (h5 : RM miu mnm mso mou mpl mar mex men mnn mon mde mbt mfo mfn) (h6 : rI b1 0 25 ∧ rI b2 0 3 ∧ rI b3 (-1) 59 ∧ rI b5 (-1) 59) (h7 : KnR tz tk tks tc tt mk mkf mot mox) (h8 : rI mit 0 1 ∧ rI mfm 0 2 ∧ rI msz 0 60 ∧ ∀ i, rg (mim i)) (h9 : ShR xi0 xf0 xz0 xl0 0 mit mfm msz mim ∧ ShR xi1 xf1 xz1 xl1 1 mit mfm msz mim ∧ ShR xi2 xf2 xz2 xl2 2 mit mfm msz mim ∧ ShR xi3 xf3 xz3 xl3 3 mit mfm msz mim) (h10 : fi = mfi ∧ 0 ≤ fi ∧ fi ≤ 5) (hn : ∀ a' b', SRh a' b' → WPm ro (d + 12) (RNd ro (d + 12)) 189 mc ms Q 18 [vR 900, vR 0, vR 200, vI (p + 6)] [] (a', b') c s) : WPm ro (d + 12) (RNd ro (d + 12)) 189 mc ms Q 898 [vR 900, vR 0, vR 200, vI p] [] ((heapC tb tz tk tks tc tt iu nm ou so pl nd pa ba de en sc rsz fp ss cu os a1 a2 a3 a4 a5 b1 b2 b3 b4 b5 le fi xi0 xf0 xz0 xl0 xi1 xf1 xz1 xl1 xi2 xf2 xz2 xl2 xi3 xf3 xz3 xl3), (heapM mtz mt mk mkf mot mox mfa mnd miu mnm mso mou mpl msc mar mex men mnn mon mde mbt mfo mfn mma mit mfm msz mim mmo mfi)) c s := by
  refine WP_first [18] 80 ?_
  refine ix ?_
  refine op_write (hro _) h1 h2 h3 h4 h5 h6 h7 h8 h9 h10 _ (fun a' v hM => ?_)
  refine ix ?_
  refine hM _ (fun b' rv hS => ?_)
  refine t2 ?_ (fun q => q rfl) rv rv
  exact hn _ _ hS
set_option maxRecDepth 100000 in
set_option maxHeartbeats 4000000 in
theorem lx_count (hro : ∀ j, rg (ro.2 j)) (hp : 0 ≤ p ∧ p + 6 ≤ (ro.1 : Int)) (h1 : tb = mt ∧ tz = mtz) (h2 : 0 ≤ tz ∧ tz ≤ 100) (h3 : rI tb 0 255) (h4 : CRd tb tz fp nd sc rsz iu nm so ou pl pa ba en a1 a2 a3 a4 a5) (h5 : RM miu mnm mso mou mpl mar mex men mnn mon mde mbt mfo mfn) (h6 : rI b1 0 25 ∧ rI b2 0 3 ∧ rI b3 (-1) 59 ∧ rI b5 (-1) 59) (h7 : KnR tz tk tks tc tt mk mkf mot mox) (h8 : rI mit 0 1 ∧ rI mfm 0 2 ∧ rI msz 0 60 ∧ ∀ i, rg (mim i)) (h9 : ShR xi0 xf0 xz0 xl0 0 mit mfm msz mim ∧ ShR xi1 xf1 xz1 xl1 1 mit mfm msz mim ∧ ShR xi2 xf2 xz2 xl2 2 mit mfm msz mim ∧ ShR xi3 xf3 xz3 xl3 3 mit mfm msz mim) (h10 : fi = mfi ∧ 0 ≤ fi ∧ fi ≤ 5) (hn : ∀ a' b', SRh a' b' → WPm ro (d + 12) (RNd ro (d + 12)) 189 mc ms Q 18 [vR 900, vR 0, vR 200, vI (p + 6)] [] (a', b') c s) : WPm ro (d + 12) (RNd ro (d + 12)) 189 mc ms Q 921 [vR 900, vR 0, vR 200, vI p] [] ((heapC tb tz tk tks tc tt iu nm ou so pl nd pa ba de en sc rsz fp ss cu os a1 a2 a3 a4 a5 b1 b2 b3 b4 b5 le fi xi0 xf0 xz0 xl0 xi1 xf1 xz1 xl1 xi2 xf2 xz2 xl2 xi3 xf3 xz3 xl3), (heapM mtz mt mk mkf mot mox mfa mnd miu mnm mso mou mpl msc mar mex men mnn mon mde mbt mfo mfn mma mit mfm msz mim mmo mfi)) c s := by
  refine WP_first [18] 80 ?_
  refine ix ?_
  refine op_count (hro _) h1 h2 h3 h4 h5 h6 h7 h8 h9 h10 _ (fun a' v hM => ?_)
  refine ix ?_
  refine hM _ (fun b' rv hS => ?_)
  refine t2 ?_ (fun q => q rfl) rv rv
  exact hn _ _ hS
set_option maxRecDepth 100000 in
set_option maxHeartbeats 4000000 in
theorem lx_digest (hro : ∀ j, rg (ro.2 j)) (hp : 0 ≤ p ∧ p + 6 ≤ (ro.1 : Int)) (h1 : tb = mt ∧ tz = mtz) (h2 : 0 ≤ tz ∧ tz ≤ 100) (h3 : rI tb 0 255) (h4 : CRd tb tz fp nd sc rsz iu nm so ou pl pa ba en a1 a2 a3 a4 a5) (h5 : RM miu mnm mso mou mpl mar mex men mnn mon mde mbt mfo mfn) (h6 : rI b1 0 25 ∧ rI b2 0 3 ∧ rI b3 (-1) 59 ∧ rI b5 (-1) 59) (h7 : KnR tz tk tks tc tt mk mkf mot mox) (h8 : rI mit 0 1 ∧ rI mfm 0 2 ∧ rI msz 0 60 ∧ ∀ i, rg (mim i)) (h9 : ShR xi0 xf0 xz0 xl0 0 mit mfm msz mim ∧ ShR xi1 xf1 xz1 xl1 1 mit mfm msz mim ∧ ShR xi2 xf2 xz2 xl2 2 mit mfm msz mim ∧ ShR xi3 xf3 xz3 xl3 3 mit mfm msz mim) (h10 : fi = mfi ∧ 0 ≤ fi ∧ fi ≤ 5) (hn : ∀ a' b', SRh a' b' → WPm ro (d + 12) (RNd ro (d + 12)) 189 mc ms Q 18 [vR 900, vR 0, vR 200, vI (p + 6)] [] (a', b') c s) : WPm ro (d + 12) (RNd ro (d + 12)) 189 mc ms Q 944 [vR 900, vR 0, vR 200, vI p] [] ((heapC tb tz tk tks tc tt iu nm ou so pl nd pa ba de en sc rsz fp ss cu os a1 a2 a3 a4 a5 b1 b2 b3 b4 b5 le fi xi0 xf0 xz0 xl0 xi1 xf1 xz1 xl1 xi2 xf2 xz2 xl2 xi3 xf3 xz3 xl3), (heapM mtz mt mk mkf mot mox mfa mnd miu mnm mso mou mpl msc mar mex men mnn mon mde mbt mfo mfn mma mit mfm msz mim mmo mfi)) c s := by
  refine WP_first [18] 80 ?_
  refine op_digest h1 h2 h3 h4 h5 h6 h7 h8 h9 h10 _ (fun a' v hM => ?_)
  refine hM _ (fun b' hS => ?_)
  refine cl (fun _ => ?_) (fun q => absurd (lcZ_eq.mpr rfl) q)
  exact hn _ _ hS
end LAWC
