/-! ===== what is asked of nodes and scopes: the class ===== -/
section ASKC
variable {ro : Nat × (Int → Int)} {d : Nat} {Q : Option AV → AH → Prop} {hB : List AC} {tb : Int → Int} {tz : Int} {tk : Int → Int → Int} {tks : Int → Int} {tc tt : Int} {iu nm ou so pl : Int → Int} {nd : Int} {pa ba de en : Int → Int} {sc rsz fp ss cu os : Int} {a1 a2 a3 : Int → Int} {a4 : Int → Int64} {a5 b1 b2 b3 : Int → Int} {b4 : Int → Int64} {b5 : Int → Int} {le fi : Int} {xi0 : Int → Int} {xf0 xz0 xl0 : Int} {xi1 : Int → Int} {xf1 xz1 xl1 : Int} {xi2 : Int → Int} {xf2 xz2 xl2 : Int} {xi3 : Int → Int} {xf3 xz3 xl3 : Int}
set_option maxRecDepth 100000 in
set_option maxHeartbeats 4000000 in
theorem t_isNode {i : Int} (hi : rg i) (hn : 0 ≤ nd ∧ nd ≤ 60) (h1 : 0 ≤ i ∧ i < nd → Q (some (vI 1)) ((heapC tb tz tk tks tc tt iu nm ou so pl nd pa ba de en sc rsz fp ss cu os a1 a2 a3 a4 a5 b1 b2 b3 b4 b5 le fi xi0 xf0 xz0 xl0 xi1 xf1 xz1 xl1 xi2 xf2 xz2 xl2 xi3 xf3 xz3 xl3), hB)) (h0 : ¬ (0 ≤ i ∧ i < nd) → Q (some (vI 0)) ((heapC tb tz tk tks tc tt iu nm ou so pl nd pa ba de en sc rsz fp ss cu os a1 a2 a3 a4 a5 b1 b2 b3 b4 b5 le fi xi0 xf0 xz0 xl0 xi1 xf1 xz1 xl1 xi2 xf2 xz2 xl2 xi3 xf3 xz3 xl3), hB)) : RNd ro (d + 1) 91 [vR 0, vI i] ((heapC tb tz tk tks tc tt iu nm ou so pl nd pa ba de en sc rsz fp ss cu os a1 a2 a3 a4 a5 b1 b2 b3 b4 b5 le fi xi0 xf0 xz0 xl0 xi1 xf1 xz1 xl1 xi2 xf2 xz2 xl2 xi3 xf3 xz3 xl3), hB) Q := by
  refine WP_run [] 20 ?_
  refine c1 (fun q => ?_) (fun q => ?_) hi
  · exact rz (h0 (by omega))
  · refine c2 (fun q2 => ?_) (fun q2 => ?_) hi
    · exact rz (h0 (by omega))
    · exact rz (h1 (by omega))
set_option maxRecDepth 100000 in
set_option maxHeartbeats 4000000 in
theorem t_isScope {i : Int} (hi : rg i) (hn : 1 ≤ sc ∧ sc ≤ 10) (h1 : 0 ≤ i ∧ i < sc → Q (some (vI 1)) ((heapC tb tz tk tks tc tt iu nm ou so pl nd pa ba de en sc rsz fp ss cu os a1 a2 a3 a4 a5 b1 b2 b3 b4 b5 le fi xi0 xf0 xz0 xl0 xi1 xf1 xz1 xl1 xi2 xf2 xz2 xl2 xi3 xf3 xz3 xl3), hB)) (h0 : ¬ (0 ≤ i ∧ i < sc) → Q (some (vI 0)) ((heapC tb tz tk tks tc tt iu nm ou so pl nd pa ba de en sc rsz fp ss cu os a1 a2 a3 a4 a5 b1 b2 b3 b4 b5 le fi xi0 xf0 xz0 xl0 xi1 xf1 xz1 xl1 xi2 xf2 xz2 xl2 xi3 xf3 xz3 xl3), hB)) : RNd ro (d + 1) 92 [vR 0, vI i] ((heapC tb tz tk tks tc tt iu nm ou so pl nd pa ba de en sc rsz fp ss cu os a1 a2 a3 a4 a5 b1 b2 b3 b4 b5 le fi xi0 xf0 xz0 xl0 xi1 xf1 xz1 xl1 xi2 xf2 xz2 xl2 xi3 xf3 xz3 xl3), hB) Q := by
  refine WP_run [] 20 ?_
  refine c1 (fun q => ?_) (fun q => ?_) hi
  · exact rz (h0 (by omega))
  · refine c2 (fun q2 => ?_) (fun q2 => ?_) hi
    · exact rz (h0 (by omega))
    · exact rz (h1 (by omega))
set_option maxRecDepth 100000 in
set_option maxHeartbeats 4000000 in
theorem t_isLet {b : Int} {h : AH} (hb : rg b) (h1 : 97 ≤ b ∧ b ≤ 122 → Q (some (vI 1)) h) (h0 : ¬ (97 ≤ b ∧ b ≤ 122) → Q (some (vI 0)) h) : RNd ro (d + 1) 94 [vI b] h Q := by
  refine WP_run [] 20 ?_
  refine c2 (fun q => ?_) (fun q => ?_) hb
  · exact rz (h0 (by omega))
  · refine c2 (fun q2 => ?_) (fun q2 => ?_) hb
    · exact rz (h0 (by omega))
    · exact rz (h1 (by omega))
set_option maxRecDepth 100000 in
set_option maxHeartbeats 4000000 in
theorem t_asLong {r : Int} {h : AH} (hQ : Q (some (vL (noL r))) h) : RNd ro (d + 1) 90 [vI r] h Q := by
  refine WP_run [] 20 ?_
  exact hQ
/-- 0: a declaration -/
def aRef (tx : Int → Int) (n i : Int) : Int := if 0 ≤ i ∧ i < cND tx n then (if cIU tx n i = 0 then 0 else -3) else -2
set_option maxRecDepth 100000 in
set_option maxHeartbeats 4000000 in
theorem t_refD {i : Int} (hi : rg i) (hC : CRd tb tz fp nd sc rsz iu nm so ou pl pa ba en a1 a2 a3 a4 a5) (hQ : Q (some (vI (aRef tb tz i))) ((heapC tb tz tk tks tc tt iu nm ou so pl nd pa ba de en sc rsz fp ss cu os a1 a2 a3 a4 a5 b1 b2 b3 b4 b5 le fi xi0 xf0 xz0 xl0 xi1 xf1 xz1 xl1 xi2 xf2 xz2 xl2 xi3 xf3 xz3 xl3), hB)) : RNd ro (d + 2) 97 [vR 0, vI i] ((heapC tb tz tk tks tc tt iu nm ou so pl nd pa ba de en sc rsz fp ss cu os a1 a2 a3 a4 a5 b1 b2 b3 b4 b5 le fi xi0 xf0 xz0 xl0 xi1 xf1 xz1 xl1 xi2 xf2 xz2 xl2 xi3 xf3 xz3 xl3), hB) Q := by
  obtain ⟨⟨hfp, hnd, hsc, hrs⟩, hS, hA, hN, hW, hTa, hK, hR0, h1, h2, h3, h5⟩ := id hC
  have S1 := hS.1
  unfold aRef at hQ
  refine WP_run [] 20 ?_
  refine t_isNode hi S1 (fun h => ?_) (fun h => ?_)
  · rw [if_pos (by omega)] at hQ
    have e1 := (hA.1 i h.1 h.2).1
    have r1 := hR0.1 i
    refine t1 ?_
    refine ix ?_
    refine c1 (fun q => ?_) (fun q => ?_)
    · rw [if_pos (by omega)] at hQ
      exact ri hQ
    · rw [if_neg (by omega)] at hQ
      exact ri hQ
  · rw [if_neg (by omega)] at hQ
    refine f1 ?_
    exact ri hQ
set_option maxRecDepth 100000 in
set_option maxHeartbeats 4000000 in
theorem t_bound {i : Int} (hi : rg i) (hC : CRd tb tz fp nd sc rsz iu nm so ou pl pa ba en a1 a2 a3 a4 a5) (hQ : Q (some (vI (aBound tb tz i))) ((heapC tb tz tk tks tc tt iu nm ou so pl nd pa ba de en sc rsz fp ss cu os a1 a2 a3 a4 a5 b1 b2 b3 b4 b5 le fi xi0 xf0 xz0 xl0 xi1 xf1 xz1 xl1 xi2 xf2 xz2 xl2 xi3 xf3 xz3 xl3), hB)) : RNd ro (d + 2) 65 [vR 0, vI i] ((heapC tb tz tk tks tc tt iu nm ou so pl nd pa ba de en sc rsz fp ss cu os a1 a2 a3 a4 a5 b1 b2 b3 b4 b5 le fi xi0 xf0 xz0 xl0 xi1 xf1 xz1 xl1 xi2 xf2 xz2 xl2 xi3 xf3 xz3 xl3), hB) Q := by
  obtain ⟨⟨hfp, hnd, hsc, hrs⟩, hS, hA, hN, hW, hTa, hK, hR0, h1, h2, h3, h5⟩ := id hC
  have S1 := hS.1
  unfold aBound at hQ
  refine WP_run [] 20 ?_
  refine t_isNode hi S1 (fun h => ?_) (fun h => ?_)
  · rw [if_pos (by omega)] at hQ
    have e1 := (hA.1 i h.1 h.2).1
    have e2 := (hW i h.1 h.2).2.2
    have r1 := hR0.1 i
    refine t1 ?_
    refine ix ?_
    refine c1 (fun q => ?_) (fun q => ?_)
    · rw [if_neg (by omega)] at hQ
      exact ri hQ
    · refine ix ?_
      rw [if_pos (by omega), ← e2] at hQ
      exact ri hQ
  · rw [if_neg (by omega)] at hQ
    refine f1 ?_
    exact ri hQ
set_option maxRecDepth 100000 in
set_option maxHeartbeats 4000000 in
theorem t_own {i w : Int} (hi : rg i) (hw : rg w) (hC : CRd tb tz fp nd sc rsz iu nm so ou pl pa ba en a1 a2 a3 a4 a5) (hQ : Q (some (vI (aOwn tb tz i w))) ((heapC tb tz tk tks tc tt iu nm ou so pl nd pa ba de en sc rsz fp ss cu os a1 a2 a3 a4 a5 b1 b2 b3 b4 b5 le fi xi0 xf0 xz0 xl0 xi1 xf1 xz1 xl1 xi2 xf2 xz2 xl2 xi3 xf3 xz3 xl3), hB)) : RNd ro (d + 2) 66 [vR 0, vI i, vI w] ((heapC tb tz tk tks tc tt iu nm ou so pl nd pa ba de en sc rsz fp ss cu os a1 a2 a3 a4 a5 b1 b2 b3 b4 b5 le fi xi0 xf0 xz0 xl0 xi1 xf1 xz1 xl1 xi2 xf2 xz2 xl2 xi3 xf3 xz3 xl3), hB) Q := by
  obtain ⟨⟨hfp, hnd, hsc, hrs⟩, hS, hA, hN, hW, hTa, hK, hR0, h1, h2, h3, h5⟩ := id hC
  have S2 := hS.2.1
  unfold aOwn at hQ
  refine WP_run [] 30 ?_
  refine t_isScope hi S2 (fun h => ?_) (fun h => ?_)
  · refine f1 ?_
    refine t_isLet hw (fun h2 => ?_) (fun h2 => ?_)
    · rw [if_pos (by omega)] at hQ
      have e := hTa i (w - 97) h.1 h.2 (by omega) (by omega)
      rw [show i * 26 + (w - 97) = i * 26 + w - 97 by omega] at e
      refine t1 ?_
      refine ix ?_
      rw [← e] at hQ
      exact ri hQ
    · rw [if_neg (by omega)] at hQ
      refine f1 ?_
      exact ri hQ
  · rw [if_neg (by omega)] at hQ
    refine t1 ?_
    exact ri hQ
set_option maxRecDepth 100000 in
set_option maxHeartbeats 4000000 in
theorem t_family {i : Int} (hi : rg i) (hC : CRd tb tz fp nd sc rsz iu nm so ou pl pa ba en a1 a2 a3 a4 a5) (hQ : Q (some (vL (aFam tb tz i))) ((heapC tb tz tk tks tc tt iu nm ou so pl nd pa ba de en sc rsz fp ss cu os a1 a2 a3 a4 a5 b1 b2 b3 b4 b5 le fi xi0 xf0 xz0 xl0 xi1 xf1 xz1 xl1 xi2 xf2 xz2 xl2 xi3 xf3 xz3 xl3), hB)) : RNd ro (d + 3) 67 [vR 0, vI i] ((heapC tb tz tk tks tc tt iu nm ou so pl nd pa ba de en sc rsz fp ss cu os a1 a2 a3 a4 a5 b1 b2 b3 b4 b5 le fi xi0 xf0 xz0 xl0 xi1 xf1 xz1 xl1 xi2 xf2 xz2 xl2 xi3 xf3 xz3 xl3), hB) Q := by
  obtain ⟨⟨hfp, hnd, hsc, hrs⟩, hS, hA, hN, hW, hTa, hK, hR0, h1, h2, h3, h5⟩ := id hC
  have S1 := hS.1
  have hSc : TS (cND tb tz) (cSC tb tz) (cIU tb tz) (cSO tb tz) (cAR tb tz) (cEX tb tz) := by rw [← hnd, ← hsc]; exact hS
  unfold aFam at hQ
  refine WP_run [] 20 ?_
  refine t_refD hi hC ?_
  unfold aRef
  by_cases h : 0 ≤ i ∧ i < cND tb tz
  · rw [if_pos h] at hQ ⊢
    by_cases u : cIU tb tz i = 0
    · rw [if_pos u] at hQ ⊢
      refine t1 ?_
      refine ix ?_
      rw [kin_famB S1.2 (TS_U01 hS) (by rw [hnd]; exact cFM_ok hSc) hK (by omega) u]
      rw [← hnd] at hQ
      exact hQ
    · rw [if_neg u] at hQ ⊢
      refine f1 ?_
      exact t_asLong hQ
  · rw [if_neg h] at hQ ⊢
    refine f1 ?_
    exact t_asLong hQ
set_option maxRecDepth 100000 in
set_option maxHeartbeats 4000000 in
theorem t_uses {i : Int} (hi : rg i) (hC : CRd tb tz fp nd sc rsz iu nm so ou pl pa ba en a1 a2 a3 a4 a5) (hQ : Q (some (vL (aUses tb tz i))) ((heapC tb tz tk tks tc tt iu nm ou so pl nd pa ba de en sc rsz fp ss cu os a1 a2 a3 a4 a5 b1 b2 b3 b4 b5 le fi xi0 xf0 xz0 xl0 xi1 xf1 xz1 xl1 xi2 xf2 xz2 xl2 xi3 xf3 xz3 xl3), hB)) : RNd ro (d + 3) 68 [vR 0, vI i] ((heapC tb tz tk tks tc tt iu nm ou so pl nd pa ba de en sc rsz fp ss cu os a1 a2 a3 a4 a5 b1 b2 b3 b4 b5 le fi xi0 xf0 xz0 xl0 xi1 xf1 xz1 xl1 xi2 xf2 xz2 xl2 xi3 xf3 xz3 xl3), hB) Q := by
  obtain ⟨⟨hfp, hnd, hsc, hrs⟩, hS, hA, hN, hW, hTa, hK, hR0, h1, h2, h3, h5⟩ := id hC
  have S1 := hS.1
  unfold aUses at hQ
  refine WP_run [] 20 ?_
  refine t_refD hi hC ?_
  unfold aRef
  by_cases h : 0 ≤ i ∧ i < cND tb tz
  · rw [if_pos h] at hQ ⊢
    by_cases u : cIU tb tz i = 0
    · rw [if_pos u] at hQ ⊢
      refine t1 ?_
      refine t_usesOf (IU := cIU tb tz) (BT := cBT tb tz) S1 hi (fun k a b => ⟨(hA.1 k a b).1, (hW k a b).2.2⟩) hR0.1 h3 ?_
      rw [← hnd] at hQ
      exact hQ
    · rw [if_neg u] at hQ ⊢
      refine f1 ?_
      exact t_asLong hQ
  · rw [if_neg h] at hQ ⊢
    refine f1 ?_
    exact t_asLong hQ
set_option maxRecDepth 100000 in
set_option maxHeartbeats 4000000 in
theorem t_hides {i : Int} (hi : rg i) (hC : CRd tb tz fp nd sc rsz iu nm so ou pl pa ba en a1 a2 a3 a4 a5) (hQ : Q (some (vI (aHides tb tz i))) ((heapC tb tz tk tks tc tt iu nm ou so pl nd pa ba de en sc rsz fp ss cu os a1 a2 a3 a4 a5 b1 b2 b3 b4 b5 le fi xi0 xf0 xz0 xl0 xi1 xf1 xz1 xl1 xi2 xf2 xz2 xl2 xi3 xf3 xz3 xl3), hB)) : RNd ro (d + 3) 69 [vR 0, vI i] ((heapC tb tz tk tks tc tt iu nm ou so pl nd pa ba de en sc rsz fp ss cu os a1 a2 a3 a4 a5 b1 b2 b3 b4 b5 le fi xi0 xf0 xz0 xl0 xi1 xf1 xz1 xl1 xi2 xf2 xz2 xl2 xi3 xf3 xz3 xl3), hB) Q := by
  obtain ⟨⟨hfp, hnd, hsc, hrs⟩, hS, hA, hN, hW, hTa, hK, hR0, h1, h2, h3, h5⟩ := id hC
  have S1 := hS.1
  unfold aHides at hQ
  refine WP_run [] 40 ?_
  refine t_refD hi hC ?_
  unfold aRef
  by_cases h : 0 ≤ i ∧ i < cND tb tz
  · rw [if_pos h] at hQ ⊢
    by_cases u : cIU tb tz i = 0
    · rw [if_pos u] at hQ ⊢
      have e2 := (hA.1 i h.1 (by omega)).2
      have e3 := (hN i h.1 (by omega)).1
      have s2 := (hS.2.2.1 i h.1 (by omega)).2
      have r2 := hR0.2.1 i
      refine t1 ?_
      refine ix ?_
      refine ix ?_
      refine t_lookUp_now hS hA (by omega) (by omega) (by omega) hTa h5 ?_
      rw [e2, e3]
      exact ri hQ
    · rw [if_neg u] at hQ ⊢
      refine f1 ?_
      exact ri hQ
  · rw [if_neg h] at hQ ⊢
    refine f1 ?_
    exact ri hQ
set_option maxRecDepth 100000 in
set_option maxHeartbeats 4000000 in
theorem t_idle (hC : CRd tb tz fp nd sc rsz iu nm so ou pl pa ba en a1 a2 a3 a4 a5) (hQ : Q (some (vL (idleB (cND tb tz) (cIU tb tz) (cBT tb tz)))) ((heapC tb tz tk tks tc tt iu nm ou so pl nd pa ba de en sc rsz fp ss cu os a1 a2 a3 a4 a5 b1 b2 b3 b4 b5 le fi xi0 xf0 xz0 xl0 xi1 xf1 xz1 xl1 xi2 xf2 xz2 xl2 xi3 xf3 xz3 xl3), hB)) : RNd ro (d + 2) 70 [vR 0] ((heapC tb tz tk tks tc tt iu nm ou so pl nd pa ba de en sc rsz fp ss cu os a1 a2 a3 a4 a5 b1 b2 b3 b4 b5 le fi xi0 xf0 xz0 xl0 xi1 xf1 xz1 xl1 xi2 xf2 xz2 xl2 xi3 xf3 xz3 xl3), hB) Q := by
  obtain ⟨⟨hfp, hnd, hsc, hrs⟩, hS, hA, hN, hW, hTa, hK, hR0, h1, h2, h3, h5⟩ := id hC
  refine WP_run [] 20 ?_
  refine t_idleOnes (IU := cIU tb tz) (BT := cBT tb tz) hS.1 (fun k a b => ⟨(hA.1 k a b).1, (hW k a b).2.2⟩) hR0.1 h3 ?_
  rw [← hnd] at hQ
  exact hQ
set_option maxRecDepth 100000 in
set_option maxHeartbeats 4000000 in
theorem t_fault (hC : CRd tb tz fp nd sc rsz iu nm so ou pl pa ba en a1 a2 a3 a4 a5) (hQ : Q (some (vI (cFA tb tz))) ((heapC tb tz tk tks tc tt iu nm ou so pl nd pa ba de en sc rsz fp ss cu os a1 a2 a3 a4 a5 b1 b2 b3 b4 b5 le fi xi0 xf0 xz0 xl0 xi1 xf1 xz1 xl1 xi2 xf2 xz2 xl2 xi3 xf3 xz3 xl3), hB)) : RNd ro (d + 1) 60 [vR 0] ((heapC tb tz tk tks tc tt iu nm ou so pl nd pa ba de en sc rsz fp ss cu os a1 a2 a3 a4 a5 b1 b2 b3 b4 b5 le fi xi0 xf0 xz0 xl0 xi1 xf1 xz1 xl1 xi2 xf2 xz2 xl2 xi3 xf3 xz3 xl3), hB) Q := by
  refine WP_run [] 20 ?_
  rw [← hC.1.1] at hQ
  exact ri hQ
end ASKC
