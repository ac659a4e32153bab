/-! ===== the digest ===== -/
def dgI (h : Int64) (v : Int) : Int64 := Int64.ofNat 31 * h + i2lZ v
def dgL (h x : Int64) : Int64 := Int64.ofNat 31 * h + x
def itG (g : Int → Int64 → Int64) : Nat → Int → Int64 → Int64
  | 0, _, h => h
  | m + 1, k, h => itG g m (k + 1) (g k h)
set_option maxRecDepth 100000 in
set_option maxHeartbeats 4000000 in
theorem it_st {g : Int → Int64 → Int64} {e k : Int} {h : Int64} (hk : k < e) : itG g (e - k).toNat k h = itG g (e - (k + 1)).toNat (k + 1) (g k h) := by
  rw [show (e - k).toNat = (e - (k + 1)).toNat + 1 by omega]
  rfl
set_option maxRecDepth 100000 in
set_option maxHeartbeats 4000000 in
theorem it_end {g : Int → Int64 → Int64} {e k : Int} {h : Int64} (hk : e ≤ k) : itG g (e - k).toNat k h = h := by
  rw [show (e - k).toNat = 0 by omega]
  rfl
noncomputable def nmD (tx : Int → Int) (n i w : Int) (h : Int64) : Int64 := dgI (dgI (dgI (dgI h (aPlan tx n i w 0)) (aPlan tx n i w 1)) (aCaught tx n i w 0)) (aCaught tx n i w 1)
def ndE (tx : Int → Int) (n i : Int) (h : Int64) : Int64 := dgI (dgL (dgL (dgI h (aBound tx n i)) (aFam tx n i)) (aUses tx n i)) (aHides tx n i)
def ndK (tx : Int → Int) (n i : Int) : Int → Int64 → Int64 := fun w h => dgI h (aNode tx n i w)
noncomputable def ndF (tx : Int → Int) (n i : Int) (h : Int64) : Int64 := if cIU tx n i = 0 then nmD tx n i 120 (nmD tx n i 99 (nmD tx n i 97 (dgI (ndE tx n i h) (aEasy tx n i)))) else ndE tx n i h
noncomputable def ndD (tx : Int → Int) (n : Int) : Int → Int64 → Int64 := fun i h => ndF tx n i (itG (ndK tx n i) (5 - 0 : Int).toNat 0 h)
def scK (tx : Int → Int) (n s : Int) : Int → Int64 → Int64 := fun w h => dgI h (aScope tx n s w)
def scE (tx : Int → Int) (n s : Int) (h : Int64) : Int64 := dgI (dgI h (aOwn tx n s 97)) (aOwn tx n s 98)
def scD (tx : Int → Int) (n : Int) : Int → Int64 → Int64 := fun s h => scE tx n s (itG (scK tx n s) (4 - 0 : Int).toNat 0 h)
def coK (tx : Int → Int) (n kn fi : Int) : Int → Int64 → Int64 := fun w h => dgI h (aCount tx n kn fi w)
def shK (tx : Int → Int) (n : Int) : Int → Int64 → Int64 := fun i h => dgI h (aShown tx n i)
noncomputable def dg4 (tx : Int → Int) (n : Int) (h : Int64) : Int64 := dgL h (idleB (cND tx n) (cIU tx n) (cBT tx n))
noncomputable def dg3 (tx : Int → Int) (n : Int) (h : Int64) : Int64 := dg4 tx n (itG (scD tx n) (cSC tx n - 0).toNat 0 h)
noncomputable def dg2 (tx : Int → Int) (n : Int) (h : Int64) : Int64 := dg3 tx n (itG (ndD tx n) (cND tx n - 0).toNat 0 h)
noncomputable def dg1 (tx : Int → Int) (n : Int) (h : Int64) : Int64 := dg2 tx n (itG (shK tx n) (40 - 0 : Int).toNat 0 (dgI h (cFA tx n)))
noncomputable def digD (tx : Int → Int) (n kn fi : Int) : Int64 := dg1 tx n (itG (coK tx n kn fi) (8 - 0 : Int).toNat 0 (Int64.ofNat 17))
section DIGC
variable {ro : Nat × (Int → Int)} {d : Nat} {Q : Option AV → AH → Prop} {hB : List AC} {tb : Int → Int} {tz : Int} {tk : Int → Int → Int} {tks : Int → Int} {tc tt : Int} {iu nm ou so pl : Int → Int} {nd : Int} {pa ba de en : Int → Int} {sc rsz fp ss cu os : Int} {a1 a2 a3 : Int → Int} {a4 : Int → Int64} {a5 b1 b2 b3 : Int → Int} {b4 : Int → Int64} {b5 : Int → Int} {le fi : Int} {xi0 : Int → Int} {xf0 xz0 xl0 : Int} {xi1 : Int → Int} {xf1 xz1 xl1 : Int} {xi2 : Int → Int} {xf2 xz2 xl2 : Int} {xi3 : Int → Int} {xf3 xz3 xl3 : Int}
set_option maxRecDepth 100000 in
set_option maxHeartbeats 4000000 in
theorem t_dn {i k : Int} {h0 h : Int64} {j7 : AV} (hi : rg i) (hk : 0 ≤ k ∧ k < 3) (hw : rg (dgF k)) (hC : CRd tb tz fp nd sc rsz iu nm so ou pl pa ba en a1 a2 a3 a4 a5) (htz : 0 ≤ tz ∧ tz ≤ 100) (g1 : rI b1 0 25) (g2 : rI b2 0 3) (g3 : rI b3 (-1) 59) (g5 : rI b5 (-1) 59)
    (hQ : ∀ b1' b2' b3' b4' b5' le', rI b1' 0 25 → rI b2' 0 3 → rI b3' (-1) 59 → rI b5' (-1) 59 → ∀ j7, WPm ro (d + 6) (RNd ro (d + 6)) 85 0 0 Q 126 [vR 0, vL h0, vN, vI i, vL (nmD tb tz i (dgF k) h), vN, vI (k + 1), j7] [] ((heapC tb tz tk tks tc tt iu nm ou so pl nd pa ba de en sc rsz fp ss cu os a1 a2 a3 a4 a5 b1' b2' b3' b4' b5' le' fi xi0 xf0 xz0 xl0 xi1 xf1 xz1 xl1 xi2 xf2 xz2 xl2 xi3 xf3 xz3 xl3), hB) 0 0) : WPm ro (d + 6) (RNd ro (d + 6)) 85 0 0 Q 126 [vR 0, vL h0, vN, vI i, vL h, vN, vI k, j7] [] ((heapC tb tz tk tks tc tt iu nm ou so pl nd pa ba de en sc rsz fp ss cu os a1 a2 a3 a4 a5 b1 b2 b3 b4 b5 le fi xi0 xf0 xz0 xl0 xi1 xf1 xz1 xl1 xi2 xf2 xz2 xl2 xi3 xf3 xz3 xl3), hB) 0 0 := by
  refine WP_first [126] 100 ?_
  refine f2 ?_
  refine ix ?_
  refine t_plan hi hw (by unfold rg; omega) hC htz g1 g2 g3 g5 (fun b1' b2' b3' b4' b5' le' g1 g2 g3 g5 => ?_)
  refine t_plan hi hw (by unfold rg; omega) hC htz g1 g2 g3 g5 (fun b1' b2' b3' b4' b5' le' g1 g2 g3 g5 => ?_)
  refine t_caught hi hw (by unfold rg; omega) hC g1 g2 g3 g5 (fun b1' b2' b3' b4' b5' g1 g2 g3 g5 => ?_)
  refine t_caught hi hw (by unfold rg; omega) hC g1 g2 g3 g5 (fun b1' b2' b3' b4' b5' g1 g2 g3 g5 => ?_)
  exact hQ _ _ _ _ _ _ g1 g2 g3 g5 _
set_option maxRecDepth 100000 in
set_option maxHeartbeats 4000000 in
theorem t_dNode {i : Int} {h0 : Int64} (hi : 0 ≤ i ∧ i < nd) (hC : CRd tb tz fp nd sc rsz iu nm so ou pl pa ba en a1 a2 a3 a4 a5) (htz : 0 ≤ tz ∧ tz ≤ 100) (g1 : rI b1 0 25) (g2 : rI b2 0 3) (g3 : rI b3 (-1) 59) (g5 : rI b5 (-1) 59)
    (hQ : ∀ b1' b2' b3' b4' b5' le', rI b1' 0 25 → rI b2' 0 3 → rI b3' (-1) 59 → rI b5' (-1) 59 → Q (some (vL (ndD tb tz i h0))) ((heapC tb tz tk tks tc tt iu nm ou so pl nd pa ba de en sc rsz fp ss cu os a1 a2 a3 a4 a5 b1' b2' b3' b4' b5' le' fi xi0 xf0 xz0 xl0 xi1 xf1 xz1 xl1 xi2 xf2 xz2 xl2 xi3 xf3 xz3 xl3), hB)) : RNd ro (d + 7) 85 [vR 0, vL h0, vI i] ((heapC tb tz tk tks tc tt iu nm ou so pl nd pa ba de en sc rsz fp ss cu os a1 a2 a3 a4 a5 b1 b2 b3 b4 b5 le fi xi0 xf0 xz0 xl0 xi1 xf1 xz1 xl1 xi2 xf2 xz2 xl2 xi3 xf3 xz3 xl3), hB) Q := by
  obtain ⟨⟨hfp, hnd, hsc, hrs⟩, hS, hA, hN, hW, hTa, hK, hR0, h1, h2, h3, h5⟩ := id hC
  have S1 := hS.1
  have ri0 : rg i := by unfold rg; omega
  have e1 := (hA.1 i hi.1 hi.2).1
  have r1 := hR0.1 i
  have main : ∀ k : Int, ∀ (h : Int64) (j7 : AV), 0 ≤ k → k ≤ 5 → itG (ndK tb tz i) (5 - k).toNat k h = itG (ndK tb tz i) (5 - 0 : Int).toNat 0 h0 → WPm ro (d + 6) (RNd ro (d + 6)) 85 0 0 Q 6 [vR 0, vL h0, vN, vI i, vL h, vN, vI k, j7] [] ((heapC tb tz tk tks tc tt iu nm ou so pl nd pa ba de en sc rsz fp ss cu os a1 a2 a3 a4 a5 b1 b2 b3 b4 b5 le fi xi0 xf0 xz0 xl0 xi1 xf1 xz1 xl1 xi2 xf2 xz2 xl2 xi3 xf3 xz3 xl3), hB) 0 0 := by
    refine loopUp 5 fun k ih h j7 k0 k1 hk => ?_
    refine WP_first [6, 126] 100 ?_
    refine c2 (fun q => ?_) (fun q => ?_)
    · rw [it_end (by omega)] at hk
      unfold ndD ndF at hQ
      rw [← hk] at hQ
      refine t_bound ri0 hC ?_
      refine t_family ri0 hC ?_
      refine t_uses ri0 hC ?_
      refine t_hides ri0 hC ?_
      refine ix ?_
      refine c1 (fun e => ?_) (fun e => ?_)
      · rw [if_pos (show cIU tb tz i = 0 by omega)] at hQ
        refine t_easy ri0 hC htz g1 g2 g3 g5 (fun b1' b2' b3' b4' b5' g1 g2 g3 g5 => ?_)
        refine t_dn (k := 0) ri0 (by omega) (show rg 97 by unfold rg; omega) hC htz g1 g2 g3 g5 (fun b1' b2' b3' b4' b5' le' g1 g2 g3 g5 j7 => ?_)
        refine t_dn (k := 0 + 1) ri0 (by omega) (show rg 99 by unfold rg; omega) hC htz g1 g2 g3 g5 (fun b1' b2' b3' b4' b5' le' g1 g2 g3 g5 j7 => ?_)
        refine t_dn (k := 0 + 1 + 1) ri0 (by omega) (show rg 120 by unfold rg; omega) hC htz g1 g2 g3 g5 (fun b1' b2' b3' b4' b5' le' g1 g2 g3 g5 j7 => ?_)
        refine WP_first [] 20 ?_
        refine t2 ?_
        exact hQ _ _ _ _ _ _ g1 g2 g3 g5
      · rw [if_neg (show ¬ cIU tb tz i = 0 by omega)] at hQ
        exact hQ _ _ _ _ _ _ g1 g2 g3 g5
    · rw [it_st (by omega)] at hk
      refine t_node ri0 (by unfold rg; omega) hC ?_
      exact ih (by omega) _ _ (by omega) (by omega) hk
  exact WP_run [6] 20 (main 0 h0 _ (by omega) (by omega) rfl)
set_option maxRecDepth 100000 in
set_option maxHeartbeats 4000000 in
theorem t_dScope {s : Int} {h0 : Int64} (hs : 0 ≤ s ∧ s < sc) (hC : CRd tb tz fp nd sc rsz iu nm so ou pl pa ba en a1 a2 a3 a4 a5)
    (hQ : Q (some (vL (scD tb tz s h0))) ((heapC tb tz tk tks tc tt iu nm ou so pl nd pa ba de en sc rsz fp ss cu os a1 a2 a3 a4 a5 b1 b2 b3 b4 b5 le fi xi0 xf0 xz0 xl0 xi1 xf1 xz1 xl1 xi2 xf2 xz2 xl2 xi3 xf3 xz3 xl3), hB)) : RNd ro (d + 4) 86 [vR 0, vL h0, vI s] ((heapC tb tz tk tks tc tt iu nm ou so pl nd pa ba de en sc rsz fp ss cu os a1 a2 a3 a4 a5 b1 b2 b3 b4 b5 le fi xi0 xf0 xz0 xl0 xi1 xf1 xz1 xl1 xi2 xf2 xz2 xl2 xi3 xf3 xz3 xl3), hB) Q := by
  obtain ⟨⟨hfp, hnd, hsc, hrs⟩, hS, hA, hN, hW, hTa, hK, hR0, h1, h2, h3, h5⟩ := id hC
  have S2 := hS.2.1
  have ri0 : rg s := by unfold rg; omega
  have main : ∀ k : Int, ∀ (h : Int64), 0 ≤ k → k ≤ 4 → itG (scK tb tz s) (4 - k).toNat k h = itG (scK tb tz s) (4 - 0 : Int).toNat 0 h0 → WPm ro (d + 3) (RNd ro (d + 3)) 86 0 0 Q 6 [vR 0, vL h0, vN, vI s, vL h, vN, vI k] [] ((heapC tb tz tk tks tc tt iu nm ou so pl nd pa ba de en sc rsz fp ss cu os a1 a2 a3 a4 a5 b1 b2 b3 b4 b5 le fi xi0 xf0 xz0 xl0 xi1 xf1 xz1 xl1 xi2 xf2 xz2 xl2 xi3 xf3 xz3 xl3), hB) 0 0 := by
    refine loopUp 4 fun k ih h k0 k1 hk => ?_
    refine WP_first [6] 60 ?_
    refine c2 (fun q => ?_) (fun q => ?_)
    · rw [it_end (by omega)] at hk
      unfold scD at hQ
      rw [← hk] at hQ
      refine t_own ri0 (by unfold rg; omega) hC ?_
      refine t_own ri0 (by unfold rg; omega) hC ?_
      exact hQ
    · rw [it_st (by omega)] at hk
      refine t_scope ri0 (by unfold rg; omega) hC ?_
      exact ih (by omega) _ (by omega) (by omega) hk
  exact WP_run [6] 20 (main 0 h0 (by omega) (by omega) rfl)
set_option maxRecDepth 100000 in
set_option maxHeartbeats 4000000 in
theorem t_dg3 {H : Int64} (hC : CRd tb tz fp nd sc rsz iu nm so ou pl pa ba en a1 a2 a3 a4 a5) (hQ : Q (some (vL (dg3 tb tz H))) ((heapC tb tz tk tks tc tt iu nm ou so pl nd pa ba de en sc rsz fp ss cu os a1 a2 a3 a4 a5 b1 b2 b3 b4 b5 le fi xi0 xf0 xz0 xl0 xi1 xf1 xz1 xl1 xi2 xf2 xz2 xl2 xi3 xf3 xz3 xl3), hB)) : ∀ k : Int, ∀ (h : Int64), 0 ≤ k → k ≤ sc → itG (scD tb tz) (sc - k).toNat k h = itG (scD tb tz) (sc - 0).toNat 0 H → WPm ro (d + 7) (RNd ro (d + 7)) 84 0 0 Q 98 [vR 0, vL h, vN, vI k] [] ((heapC tb tz tk tks tc tt iu nm ou so pl nd pa ba de en sc rsz fp ss cu os a1 a2 a3 a4 a5 b1 b2 b3 b4 b5 le fi xi0 xf0 xz0 xl0 xi1 xf1 xz1 xl1 xi2 xf2 xz2 xl2 xi3 xf3 xz3 xl3), hB) 0 0 := by
  have S2 := hC.2.1.2.1
  have hsc := hC.1.2.2.1
  refine loopUp sc fun k ih h k0 k1 hk => ?_
  refine WP_first [98] 60 ?_
  refine c2 (fun q => ?_) (fun q => ?_)
  · rw [it_end (by omega)] at hk
    unfold dg3 at hQ
    rw [← hsc, ← hk] at hQ
    refine t_idle hC ?_
    exact hQ
  · rw [it_st (by omega)] at hk
    refine t_dScope ⟨k0, by omega⟩ hC ?_
    exact ih (by omega) _ (by omega) (by omega) hk
set_option maxRecDepth 100000 in
set_option maxHeartbeats 4000000 in
theorem t_dg2 {H : Int64} (hC : CRd tb tz fp nd sc rsz iu nm so ou pl pa ba en a1 a2 a3 a4 a5) (htz : 0 ≤ tz ∧ tz ≤ 100) (hQ : ∀ b1' b2' b3' b4' b5' le', rI b1' 0 25 → rI b2' 0 3 → rI b3' (-1) 59 → rI b5' (-1) 59 → Q (some (vL (dg2 tb tz H))) ((heapC tb tz tk tks tc tt iu nm ou so pl nd pa ba de en sc rsz fp ss cu os a1 a2 a3 a4 a5 b1' b2' b3' b4' b5' le' fi xi0 xf0 xz0 xl0 xi1 xf1 xz1 xl1 xi2 xf2 xz2 xl2 xi3 xf3 xz3 xl3), hB)) : ∀ k : Int, ∀ (h : Int64), ∀ b1' b2' b3' b4' b5' le', rI b1' 0 25 → rI b2' 0 3 → rI b3' (-1) 59 → rI b5' (-1) 59 → 0 ≤ k → k ≤ nd → itG (ndD tb tz) (nd - k).toNat k h = itG (ndD tb tz) (nd - 0).toNat 0 H → WPm ro (d + 7) (RNd ro (d + 7)) 84 0 0 Q 72 [vR 0, vL h, vN, vI k] [] ((heapC tb tz tk tks tc tt iu nm ou so pl nd pa ba de en sc rsz fp ss cu os a1 a2 a3 a4 a5 b1' b2' b3' b4' b5' le' fi xi0 xf0 xz0 xl0 xi1 xf1 xz1 xl1 xi2 xf2 xz2 xl2 xi3 xf3 xz3 xl3), hB) 0 0 := by
  have S1 := hC.2.1.1
  have S2 := hC.2.1.2.1
  have hnd := hC.1.2.1
  refine loopUp nd fun k ih h b1' b2' b3' b4' b5' le' g1 g2 g3 g5 k0 k1 hk => ?_
  refine WP_first [72, 98] 60 ?_
  refine c2 (fun q => ?_) (fun q => ?_)
  · rw [it_end (by omega)] at hk
    have hq := hQ b1' b2' b3' b4' b5' le' g1 g2 g3 g5
    unfold dg2 at hq
    rw [← hnd, ← hk] at hq
    exact t_dg3 hC hq 0 h (by omega) (by omega) rfl
  · rw [it_st (by omega)] at hk
    refine t_dNode ⟨k0, by omega⟩ hC htz g1 g2 g3 g5 (fun b1' b2' b3' b4' b5' le' g1 g2 g3 g5 => ?_)
    exact ih (by omega) _ _ _ _ _ _ _ g1 g2 g3 g5 (by omega) (by omega) hk
set_option maxRecDepth 100000 in
set_option maxHeartbeats 4000000 in
theorem t_digest (hC : CRd tb tz fp nd sc rsz iu nm so ou pl pa ba en a1 a2 a3 a4 a5) (htz : 0 ≤ tz ∧ tz ≤ 100) (g1 : rI b1 0 25) (g2 : rI b2 0 3) (g3 : rI b3 (-1) 59) (g5 : rI b5 (-1) 59) (hQ : ∀ b1' b2' b3' b4' b5' le', rI b1' 0 25 → rI b2' 0 3 → rI b3' (-1) 59 → rI b5' (-1) 59 → Q (some (vL (digD tb tz tc fi))) ((heapC tb tz tk tks tc tt iu nm ou so pl nd pa ba de en sc rsz fp ss cu os a1 a2 a3 a4 a5 b1' b2' b3' b4' b5' le' fi xi0 xf0 xz0 xl0 xi1 xf1 xz1 xl1 xi2 xf2 xz2 xl2 xi3 xf3 xz3 xl3), hB)) : RNd ro (d + 8) 84 [vR 0] ((heapC tb tz tk tks tc tt iu nm ou so pl nd pa ba de en sc rsz fp ss cu os a1 a2 a3 a4 a5 b1 b2 b3 b4 b5 le fi xi0 xf0 xz0 xl0 xi1 xf1 xz1 xl1 xi2 xf2 xz2 xl2 xi3 xf3 xz3 xl3), hB) Q := by
  have S1 := hC.2.1.1
  have hfp := hC.1.1
  have main2 : ∀ H : Int64, (∀ b1' b2' b3' b4' b5' le', rI b1' 0 25 → rI b2' 0 3 → rI b3' (-1) 59 → rI b5' (-1) 59 → Q (some (vL (dg2 tb tz (itG (shK tb tz) (40 - 0 : Int).toNat 0 H)))) ((heapC tb tz tk tks tc tt iu nm ou so pl nd pa ba de en sc rsz fp ss cu os a1 a2 a3 a4 a5 b1' b2' b3' b4' b5' le' fi xi0 xf0 xz0 xl0 xi1 xf1 xz1 xl1 xi2 xf2 xz2 xl2 xi3 xf3 xz3 xl3), hB)) → ∀ k : Int, ∀ (h : Int64), 0 ≤ k → k ≤ 40 → itG (shK tb tz) (40 - k).toNat k h = itG (shK tb tz) (40 - 0 : Int).toNat 0 H → WPm ro (d + 7) (RNd ro (d + 7)) 84 0 0 Q 45 [vR 0, vL h, vN, vI k] [] ((heapC tb tz tk tks tc tt iu nm ou so pl nd pa ba de en sc rsz fp ss cu os a1 a2 a3 a4 a5 b1 b2 b3 b4 b5 le fi xi0 xf0 xz0 xl0 xi1 xf1 xz1 xl1 xi2 xf2 xz2 xl2 xi3 xf3 xz3 xl3), hB) 0 0 := by
    intro H hq
    refine loopUp 40 fun k ih h k0 k1 hk => ?_
    refine WP_first [45, 72] 60 ?_
    refine c2 (fun q => ?_) (fun q => ?_)
    · rw [it_end (by omega)] at hk
      rw [← hk] at hq
      exact t_dg2 hC htz hq 0 h b1 b2 b3 b4 b5 le g1 g2 g3 g5 (by omega) (by omega) rfl
    · rw [it_st (by omega)] at hk
      refine t_shown (by unfold rg; omega) htz ?_
      exact ih (by omega) _ (by omega) (by omega) hk
  have main1 : ∀ k : Int, ∀ (h : Int64), 0 ≤ k → k ≤ 8 → itG (coK tb tz tc fi) (8 - k).toNat k h = itG (coK tb tz tc fi) (8 - 0 : Int).toNat 0 (Int64.ofNat 17) → WPm ro (d + 7) (RNd ro (d + 7)) 84 0 0 Q 6 [vR 0, vL h, vN, vI k] [] ((heapC tb tz tk tks tc tt iu nm ou so pl nd pa ba de en sc rsz fp ss cu os a1 a2 a3 a4 a5 b1 b2 b3 b4 b5 le fi xi0 xf0 xz0 xl0 xi1 xf1 xz1 xl1 xi2 xf2 xz2 xl2 xi3 xf3 xz3 xl3), hB) 0 0 := by
    refine loopUp 8 fun k ih h k0 k1 hk => ?_
    refine WP_first [6, 45] 60 ?_
    refine c2 (fun q => ?_) (fun q => ?_)
    · rw [it_end (by omega)] at hk
      unfold digD dg1 at hQ
      rw [← hk] at hQ
      refine t_fault hC ?_
      exact main2 _ hQ 0 _ (by omega) (by omega) rfl
    · rw [it_st (by omega)] at hk
      refine t_count (by unfold rg; omega) hC ?_
      exact ih (by omega) _ (by omega) (by omega) hk
  exact WP_run [6] 20 (main1 0 _ (by omega) (by omega) rfl)
end DIGC
