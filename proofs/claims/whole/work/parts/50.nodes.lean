/-! ===== node, scope, shown ===== -/
def aShown (tx : Int → Int) (n i : Int) : Int := if 0 ≤ i ∧ i < 100 then (if i < n then tx i else -1) else -2
section NODEC
variable {ro : Nat × (Int → Int)} {d : Nat} {Q : Option AV → AH → Prop} {hB : List AC} {tb : Int → Int} {tz : Int} {tk : Int → Int → Int} {tks : Int → Int} {tc tt : Int} {iu nm ou so pl : Int → Int} {nd : Int} {pa ba de en : Int → Int} {sc rsz fp ss cu os : Int} {a1 a2 a3 : Int → Int} {a4 : Int → Int64} {a5 b1 b2 b3 : Int → Int} {b4 : Int → Int64} {b5 : Int → Int} {le fi : Int} {xi0 : Int → Int} {xf0 xz0 xl0 : Int} {xi1 : Int → Int} {xf1 xz1 xl1 : Int} {xi2 : Int → Int} {xf2 xz2 xl2 : Int} {xi3 : Int → Int} {xf3 xz3 xl3 : Int}
set_option maxRecDepth 100000 in
set_option maxHeartbeats 4000000 in
theorem t_node {i what : Int} (hi : rg i) (hwh : rg what) (hC : CRd tb tz fp nd sc rsz iu nm so ou pl pa ba en a1 a2 a3 a4 a5) (hQ : Q (some (vI (aNode tb tz i what))) ((heapC tb tz tk tks tc tt iu nm ou so pl nd pa ba de en sc rsz fp ss cu os a1 a2 a3 a4 a5 b1 b2 b3 b4 b5 le fi xi0 xf0 xz0 xl0 xi1 xf1 xz1 xl1 xi2 xf2 xz2 xl2 xi3 xf3 xz3 xl3), hB)) : RNd ro (d + 2) 63 [vR 0, vI i, vI what] ((heapC tb tz tk tks tc tt iu nm ou so pl nd pa ba de en sc rsz fp ss cu os a1 a2 a3 a4 a5 b1 b2 b3 b4 b5 le fi xi0 xf0 xz0 xl0 xi1 xf1 xz1 xl1 xi2 xf2 xz2 xl2 xi3 xf3 xz3 xl3), hB) Q := by
  obtain ⟨⟨hfp, hnd, hsc, hrs⟩, hS, hA, hN, hW, hTa, hK, hR0, h1, h2, h3, h5⟩ := id hC
  have S1 := hS.1
  unfold aNode at hQ
  refine WP_run [] 40 ?_
  refine t_isNode hi S1 (fun h => ?_) (fun h => ?_)
  · obtain ⟨e1, e2⟩ := hA.1 i h.1 h.2
    obtain ⟨e3, e4, e5⟩ := hN i h.1 h.2
    have r1 := hR0.1 i
    refine t1 ?_
    refine m1 ?_ hwh
    by_cases q0 : what = 0
    · rw [if_pos (by omega), if_pos q0, ← e1] at hQ
      refine st ?_
      refine ix ?_
      refine c1 (fun q => ?_) (fun q => ?_)
      · rw [q] at hQ
        exact ri hQ
      · rw [show iu i = 1 by omega] at hQ
        exact ri hQ
    · refine sf ?_
      by_cases q1 : what = 1
      · rw [if_pos (by omega), if_neg q0, if_pos q1, ← e3] at hQ
        refine st ?_
        refine ix ?_
        rw [Int.add_comm] at hQ
        exact ri hQ
      · refine sf ?_
        by_cases q2 : what = 2
        · rw [if_pos (by omega), if_neg q0, if_neg q1, if_pos q2, ← e2] at hQ
          refine st ?_
          refine ix ?_
          exact ri hQ
        · refine sf ?_
          by_cases q3 : what = 3
          · rw [if_pos (by omega), if_neg q0, if_neg q1, if_neg q2, if_pos q3, ← e4] at hQ
            refine st ?_
            refine ix ?_
            exact ri hQ
          · refine sf ?_
            by_cases q4 : what = 4
            · rw [if_pos (by omega), if_neg q0, if_neg q1, if_neg q2, if_neg q3, ← e5] at hQ
              refine st ?_
              refine ix ?_
              exact ri hQ
            · rw [if_neg (by omega)] at hQ
              refine sf ?_
              exact ri hQ
  · rw [if_neg (by omega)] at hQ
    refine f1 ?_
    exact ri hQ
set_option maxRecDepth 100000 in
set_option maxHeartbeats 4000000 in
theorem t_scope {i what : Int} (hi : rg i) (hwh : rg what) (hC : CRd tb tz fp nd sc rsz iu nm so ou pl pa ba en a1 a2 a3 a4 a5) (hQ : Q (some (vI (aScope tb tz i what))) ((heapC tb tz tk tks tc tt iu nm ou so pl nd pa ba de en sc rsz fp ss cu os a1 a2 a3 a4 a5 b1 b2 b3 b4 b5 le fi xi0 xf0 xz0 xl0 xi1 xf1 xz1 xl1 xi2 xf2 xz2 xl2 xi3 xf3 xz3 xl3), hB)) : RNd ro (d + 2) 64 [vR 0, vI i, vI what] ((heapC tb tz tk tks tc tt iu nm ou so pl nd pa ba de en sc rsz fp ss cu os a1 a2 a3 a4 a5 b1 b2 b3 b4 b5 le fi xi0 xf0 xz0 xl0 xi1 xf1 xz1 xl1 xi2 xf2 xz2 xl2 xi3 xf3 xz3 xl3), hB) Q := by
  obtain ⟨⟨hfp, hnd, hsc, hrs⟩, hS, hA, hN, hW, hTa, hK, hR0, h1, h2, h3, h5⟩ := id hC
  have S1 := hS.1
  have S2 := hS.2.1
  unfold aScope at hQ
  refine WP_run [] 40 ?_
  refine t_isScope hi S2 (fun h => ?_) (fun h => ?_)
  · obtain ⟨e1, e2⟩ := hA.2 i h.1 h.2
    refine t1 ?_
    refine m1 ?_ hwh
    by_cases q0 : what = 0
    · rw [if_pos (by omega), if_pos q0, ← e1] at hQ
      refine st ?_
      refine ix ?_
      exact ri hQ
    · refine sf ?_
      by_cases q1 : what = 1
      · rw [if_pos (by omega), if_neg q0, if_pos q1, ← e2] at hQ
        refine st ?_
        refine ix ?_
        exact ri hQ
      · refine sf ?_
        by_cases q2 : what = 2
        · rw [if_pos (by omega), if_neg q0, if_neg q1, q2, ← hnd] at hQ
          refine st ?_
          refine t_nodesIn (IU := cIU tb tz) (SO := cSO tb tz) S1 hi (Or.inl rfl) (fun k a b => hA.1 k a b) hR0.1 hR0.2.2.1 ?_
          exact ri hQ
        · refine sf ?_
          by_cases q3 : what = 3
          · rw [if_pos (by omega), if_neg q0, if_neg q1, q3, ← hnd] at hQ
            refine st ?_
            refine t_nodesIn (IU := cIU tb tz) (SO := cSO tb tz) S1 hi (Or.inr rfl) (fun k a b => hA.1 k a b) hR0.1 hR0.2.2.1 ?_
            exact ri hQ
          · rw [if_neg (by omega)] at hQ
            refine sf ?_
            exact ri hQ
  · rw [if_neg (by omega)] at hQ
    refine f1 ?_
    exact ri hQ
set_option maxRecDepth 100000 in
set_option maxHeartbeats 4000000 in
theorem t_shown {i : Int} (hi : rg i) (htz : 0 ≤ tz ∧ tz ≤ 100) (hQ : Q (some (vI (aShown tb tz i))) ((heapC tb tz tk tks tc tt iu nm ou so pl nd pa ba de en sc rsz fp ss cu os a1 a2 a3 a4 a5 b1 b2 b3 b4 b5 le fi xi0 xf0 xz0 xl0 xi1 xf1 xz1 xl1 xi2 xf2 xz2 xl2 xi3 xf3 xz3 xl3), hB)) : RNd ro (d + 1) 62 [vR 0, vI i] ((heapC tb tz tk tks tc tt iu nm ou so pl nd pa ba de en sc rsz fp ss cu os a1 a2 a3 a4 a5 b1 b2 b3 b4 b5 le fi xi0 xf0 xz0 xl0 xi1 xf1 xz1 xl1 xi2 xf2 xz2 xl2 xi3 xf3 xz3 xl3), hB) Q := by
  unfold aShown at hQ
  refine WP_run [] 30 ?_
  refine c1 (fun q => ?_) (fun q => ?_) hi
  · rw [if_neg (by omega)] at hQ
    exact ri hQ
  · refine c2 (fun q2 => ?_) (fun q2 => ?_) hi
    · rw [if_pos (by omega)] at hQ
      refine c2 (fun q3 => ?_) (fun q3 => ?_) hi
      · rw [if_neg (by omega)] at hQ
        exact ri hQ
      · refine ix ?_
        rw [if_pos (by omega)] at hQ
        exact ri hQ
    · rw [if_neg (by omega)] at hQ
      exact ri hQ
end NODEC
section NODEM
variable {ro : Nat × (Int → Int)} {d : Nat} {Q : Option AV → AH → Prop} {hA : List AC} {mtz : Int} {mt : Int → Int} {mk mkf : Int} {mot mox : Int → Int} {mfa mnd : Int} {miu mnm mso mou mpl : Int → Int} {msc : Int} {mar mex men mnn mon mde mbt mfo mfn mma mit mfm msz mim mmo : Int → Int} {mfi : Int}
set_option maxRecDepth 100000 in
set_option maxHeartbeats 4000000 in
theorem r_shownOf {i : Int} (hi : 0 ≤ i ∧ i < 100) (htz : 0 ≤ mtz ∧ mtz ≤ 100) (hQ : Q (some (vI (aShown mt mtz i))) (hA, (heapM mtz mt mk mkf mot mox mfa mnd miu mnm mso mou mpl msc mar mex men mnn mon mde mbt mfo mfn mma mit mfm msz mim mmo mfi))) : RNd ro (d + 1) 110 [vR 200, vI i] (hA, (heapM mtz mt mk mkf mot mox mfa mnd miu mnm mso mou mpl msc mar mex men mnn mon mde mbt mfo mfn mma mit mfm msz mim mmo mfi)) Q := by
  unfold aShown at hQ
  rw [if_pos hi] at hQ
  refine WP_run [] 30 ?_
  refine c2 (fun q => ?_) (fun q => ?_)
  · rw [if_neg (by omega)] at hQ
    exact ri hQ
  · refine ix ?_
    rw [if_pos (by omega)] at hQ
    exact ri hQ
set_option maxRecDepth 100000 in
set_option maxHeartbeats 4000000 in
theorem r_shown {i : Int} (hi : rg i) (htz : 0 ≤ mtz ∧ mtz ≤ 100) (hQ : Q (some (vI (aShown mt mtz i))) (hA, (heapM mtz mt mk mkf mot mox mfa mnd miu mnm mso mou mpl msc mar mex men mnn mon mde mbt mfo mfn mma mit mfm msz mim mmo mfi))) : RNd ro (d + 2) 111 [vR 200, vI i] (hA, (heapM mtz mt mk mkf mot mox mfa mnd miu mnm mso mou mpl msc mar mex men mnn mon mde mbt mfo mfn mma mit mfm msz mim mmo mfi)) Q := by
  refine WP_run [] 30 ?_
  refine r_in hi (by unfold rg; omega) (by unfold rg; omega) (fun h => ?_) (fun h => ?_)
  · refine f1 ?_
    refine r_shownOf (by omega) htz ?_
    exact ri hQ
  · refine t1 ?_
    unfold aShown at hQ
    rw [if_neg (by omega)] at hQ
    exact ri hQ
end NODEM
