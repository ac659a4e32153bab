/-! ===== class and reference side by side ===== -/
def ShR (xi : Int → Int) (xf xz xl t : Int) (mit mfm msz mim : Int → Int) : Prop :=
  (xl = 1 - mit t ∧ 0 ≤ xl ∧ xl ≤ 1) ∧ (xf = mfm t ∧ 0 ≤ xf ∧ xf ≤ 2) ∧ (xz = msz t ∧ 0 ≤ xz ∧ xz ≤ 60) ∧ (∀ i, 0 ≤ i → i < 60 → xi i = mim (60 * t + i)) ∧ (∀ i, rg (xi i))
def KnR (tz : Int) (tk : Int → Int → Int) (tks : Int → Int) (tc tt mk mkf : Int) (mot mox : Int → Int) : Prop :=
  (mk = tc ∧ 0 ≤ tc ∧ tc ≤ 20) ∧ (0 ≤ tt ∧ tt < 20) ∧ (0 ≤ mkf ∧ mkf < 20) ∧ (0 < tc → 0 < tz) ∧ (∀ n, rI (tk n) 0 255) ∧ rI mox 0 255 ∧
  (∀ j, 0 ≤ j → j < tc → tks ((tt - 1 - j) % 20) = mot ((mkf + tc - 1 - j) % 20) ∧ (1 ≤ tks ((tt - 1 - j) % 20) ∧ tks ((tt - 1 - j) % 20) ≤ 100) ∧ ∀ k, 0 ≤ k → k < tks ((tt - 1 - j) % 20) → tk ((tt - 1 - j) % 20) k = mox (100 * ((mkf + tc - 1 - j) % 20) + k))
set_option maxRecDepth 100000 in
set_option maxHeartbeats 4000000 in
theorem KnR_0 {tz tz' : Int} {tk : Int → Int → Int} {tks : Int → Int} {tc tt mk mkf : Int} {mot mox : Int → Int} (h : KnR tz tk tks tc tt mk mkf mot mox) : KnR tz' tk tks 0 tt 0 mkf mot mox := by
  obtain ⟨k1, k2, k3, k4, k5, k6, k7⟩ := h
  exact ⟨⟨rfl, by omega, by omega⟩, k2, k3, fun z => absurd z (by omega), k5, k6, fun j a b => absurd b (by omega)⟩
set_option maxRecDepth 100000 in
set_option maxHeartbeats 4000000 in
theorem KnR_keep {tb : Int → Int} {tz tz' : Int} {tk : Int → Int → Int} {tks : Int → Int} {tc tt mk mkf at_ : Int} {mot mox : Int → Int} (hb : rI tb 0 255) (hz : 0 < tz ∧ tz ≤ 100) (hz' : 0 < tz') (h : KnR tz tk tks tc tt mk mkf mot mox) (hat : at_ = (mkf + mk) % 20) :
    KnR tz' (upZ tk tt (cpZ tb (tk tt) 0 0 tz)) (upZ tks tt tz) (if 20 < tc + 1 then 20 else tc + 1) (if tt + 1 < 20 then tt + 1 else 0) (if mk = 20 then 20 else mk + 1) (if mk = 20 then (mkf + 1) % 20 else mkf) (upZ mot at_ tz) (fb mox (fun q => tb (q - 100 * at_)) (100 * at_) (100 * at_ + tz)) := by
  obtain ⟨⟨k1, k1', k1''⟩, k2, k3, k4, k5, k6, k7⟩ := h
  subst k1
  have eT : ∀ j : Int, ((if tt + 1 < 20 then tt + 1 else 0) - 1 - j) % 20 = (tt - j) % 20 := fun j => by split <;> omega
  have eM : ∀ j : Int, ((if mk = 20 then (mkf + 1) % 20 else mkf) + (if 20 < mk + 1 then 20 else mk + 1) - 1 - j) % 20 = (mkf + mk - j) % 20 := fun j => by
    split
    · rw [if_pos (by omega)]
      omega
    · rw [if_neg (by omega)]
      omega
  refine ⟨⟨?_, ?_, ?_⟩, ?_, ?_, fun _ => hz', fun n => ?_, rI_fb2 k6 (fun q _ _ => hb _), fun j a b => ?_⟩
  · split <;> split <;> omega
  · split <;> omega
  · split <;> omega
  · split <;> omega
  · split <;> omega
  · unfold upZ
    split
    · exact rI_cp hb (k5 tt)
    · exact k5 n
  · rw [eT, eM]
    by_cases e : j = 0
    · subst e
      have e1 : (tt - 0) % 20 = tt := by omega
      have e2 : (mkf + mk - 0) % 20 = at_ := by omega
      rw [e1, e2, upZ_s, upZ_s, upZ_s]
      refine ⟨rfl, by omega, fun k a b => ?_⟩
      unfold cpZ fb
      rw [if_pos (by omega), if_pos (by omega)]
      show tb (0 + (k - 0)) = tb (100 * at_ + k - 100 * at_)
      rw [show 0 + (k - 0) = k by omega, show 100 * at_ + k - 100 * at_ = k by omega]
    · have b' : j ≤ mk ∧ j < 20 := by split at b <;> omega
      obtain ⟨q1, q2, q3⟩ := k7 (j - 1) (by omega) (by omega)
      rw [show tt - 1 - (j - 1) = tt - j by omega] at q1 q2 q3
      rw [show mkf + mk - 1 - (j - 1) = mkf + mk - j by omega] at q1 q3
      have n1 : (tt - j) % 20 ≠ tt := by omega
      have n2 : (mkf + mk - j) % 20 ≠ at_ := by omega
      rw [upZ_n n1, upZ_n n1, upZ_n n2]
      refine ⟨q1, q2, fun k a b => ?_⟩
      rw [q3 k a b]
      unfold fb
      rw [if_neg (by omega)]
set_option maxRecDepth 100000 in
set_option maxHeartbeats 4000000 in
theorem KnR_back {tz tz' : Int} {tk : Int → Int → Int} {tks : Int → Int} {tc tt mk mkf : Int} {mot mox : Int → Int} (hc : 0 < tc) (hz' : 0 < tz') (h : KnR tz tk tks tc tt mk mkf mot mox) : KnR tz' tk tks (tc - 1) (if 0 < tt then tt - 1 else 19) (mk - 1) mkf mot mox := by
  obtain ⟨⟨k1, k1', k1''⟩, k2, k3, k4, k5, k6, k7⟩ := h
  refine ⟨⟨by omega, by omega, by omega⟩, ?_, k3, fun _ => hz', k5, k6, fun j a b => ?_⟩
  · split <;> omega
  · have e1 : ((if 0 < tt then tt - 1 else 19) - 1 - j) % 20 = (tt - 1 - (j + 1)) % 20 := by split <;> omega
    have e2 : mkf + (tc - 1) - 1 - j = mkf + tc - 1 - (j + 1) := by omega
    rw [e1, e2]
    exact k7 (j + 1) (by omega) (by omega)
set_option maxRecDepth 100000 in
set_option maxHeartbeats 4000000 in
theorem ShR_fr {xi : Int → Int} {xf xz xl t : Int} {mit mfm msz mim mit' mfm' msz' mim' : Int → Int} (h : ShR xi xf xz xl t mit mfm msz mim) (e1 : mit' t = mit t) (e2 : mfm' t = mfm t) (e3 : msz' t = msz t) (e4 : ∀ i, 0 ≤ i → i < 60 → mim' (60 * t + i) = mim (60 * t + i)) : ShR xi xf xz xl t mit' mfm' msz' mim' := by
  obtain ⟨⟨s1, s1'⟩, ⟨s2, s2'⟩, ⟨s3, s3'⟩, s4, s5⟩ := h
  exact ⟨⟨by rw [e1]; exact s1, s1'⟩, ⟨by rw [e2]; exact s2, s2'⟩, ⟨by rw [e3]; exact s3, s3'⟩, fun i a b => by rw [e4 i a b]; exact s4 i a b, s5⟩
set_option maxRecDepth 100000 in
set_option maxHeartbeats 4000000 in
theorem rg_stZ {f v : Int} (h : rg v) : rg (stZ f v) := by
  unfold stZ
  split
  · exact rg_toInt _
  · split
    · exact rg_toInt _
    · exact h
section SIDES
variable {tb : Int → Int} {tz : Int} {tk : Int → Int → Int} {tks : Int → Int} {tc tt : Int} {iu nm ou so pl : Int → Int} {nd : Int} {pa ba de en : Int → Int} {sc rsz fp ss cu os : Int} {a1 a2 a3 : Int → Int} {a4 : Int → Int64} {a5 b1 b2 b3 : Int → Int} {b4 : Int → Int64} {b5 : Int → Int} {le fi : Int} {xi0 : Int → Int} {xf0 xz0 xl0 : Int} {xi1 : Int → Int} {xf1 xz1 xl1 : Int} {xi2 : Int → Int} {xf2 xz2 xl2 : Int} {xi3 : Int → Int} {xf3 xz3 xl3 : Int} {mtz : Int} {mt : Int → Int} {mk mkf : Int} {mot mox : Int → Int} {mfa mnd : Int} {miu mnm mso mou mpl : Int → Int} {msc : Int} {mar mex men mnn mon mde mbt mfo mfn mma mit mfm msz mim mmo : Int → Int} {mfi : Int}
def SRh (a b : List AC) : Prop := ∃ (tb : Int → Int) (tz : Int) (tk : Int → Int → Int) (tks : Int → Int) (tc : Int) (tt : Int) (iu : Int → Int) (nm : Int → Int) (ou : Int → Int) (so : Int → Int) (pl : Int → Int) (nd : Int) (pa : Int → Int) (ba : Int → Int) (de : Int → Int) (en : Int → Int) (sc : Int) (rsz : Int) (fp : Int) (ss : Int) (cu : Int) (os : Int) (a1 : Int → Int) (a2 : Int → Int) (a3 : Int → Int) (a4 : Int → Int64) (a5 : Int → Int) (b1 : Int → Int) (b2 : Int → Int) (b3 : Int → Int) (b4 : Int → Int64) (b5 : Int → Int) (le : Int) (fi : Int) (xi0 : Int → Int) (xf0 : Int) (xz0 : Int) (xl0 : Int) (xi1 : Int → Int) (xf1 : Int) (xz1 : Int) (xl1 : Int) (xi2 : Int → Int) (xf2 : Int) (xz2 : Int) (xl2 : Int) (xi3 : Int → Int) (xf3 : Int) (xz3 : Int) (xl3 : Int) (mtz : Int) (mt : Int → Int) (mk : Int) (mkf : Int) (mot : Int → Int) (mox : Int → Int) (mfa : Int) (mnd : Int) (miu : Int → Int) (mnm : Int → Int) (mso : Int → Int) (mou : Int → Int) (mpl : Int → Int) (msc : Int) (mar : Int → Int) (mex : Int → Int) (men : Int → Int) (mnn : Int → Int) (mon : Int → Int) (mde : Int → Int) (mbt : Int → Int) (mfo : Int → Int) (mfn : Int → Int) (mma : Int → Int) (mit : Int → Int) (mfm : Int → Int) (msz : Int → Int) (mim : Int → Int) (mmo : Int → Int) (mfi : Int), a = (heapC tb tz tk tks tc tt iu nm ou so pl nd pa ba de en sc rsz fp ss cu os a1 a2 a3 a4 a5 b1 b2 b3 b4 b5 le fi xi0 xf0 xz0 xl0 xi1 xf1 xz1 xl1 xi2 xf2 xz2 xl2 xi3 xf3 xz3 xl3) ∧ b = (heapM mtz mt mk mkf mot mox mfa mnd miu mnm mso mou mpl msc mar mex men mnn mon mde mbt mfo mfn mma mit mfm msz mim mmo mfi) ∧ (tb = mt ∧ tz = mtz) ∧ (0 ≤ tz ∧ tz ≤ 100) ∧ (rI tb 0 255) ∧ (CRd tb tz fp nd sc rsz iu nm so ou pl pa ba en a1 a2 a3 a4 a5) ∧ (RM miu mnm mso mou mpl mar mex men mnn mon mde mbt mfo mfn) ∧ (rI b1 0 25 ∧ rI b2 0 3 ∧ rI b3 (-1) 59 ∧ rI b5 (-1) 59) ∧ (KnR tz tk tks tc tt mk mkf mot mox) ∧ (rI mit 0 1 ∧ rI mfm 0 2 ∧ rI msz 0 60 ∧ ∀ i, rg (mim i)) ∧ (ShR xi0 xf0 xz0 xl0 0 mit mfm msz mim ∧ ShR xi1 xf1 xz1 xl1 1 mit mfm msz mim ∧ ShR xi2 xf2 xz2 xl2 2 mit mfm msz mim ∧ ShR xi3 xf3 xz3 xl3 3 mit mfm msz mim) ∧ (fi = mfi ∧ 0 ≤ fi ∧ fi ≤ 5)
set_option maxRecDepth 100000 in
set_option maxHeartbeats 4000000 in
theorem mkSR (h1 : tb = mt ∧ tz = mtz) (h2 : 0 ≤ tz ∧ tz ≤ 100) (h3 : rI tb 0 255) (h4 : CRd tb tz fp nd sc rsz iu nm so ou pl pa ba en a1 a2 a3 a4 a5) (h5 : RM miu mnm mso mou mpl mar mex men mnn mon mde mbt mfo mfn) (h6 : rI b1 0 25 ∧ rI b2 0 3 ∧ rI b3 (-1) 59 ∧ rI b5 (-1) 59) (h7 : KnR tz tk tks tc tt mk mkf mot mox) (h8 : rI mit 0 1 ∧ rI mfm 0 2 ∧ rI msz 0 60 ∧ ∀ i, rg (mim i)) (h9 : ShR xi0 xf0 xz0 xl0 0 mit mfm msz mim ∧ ShR xi1 xf1 xz1 xl1 1 mit mfm msz mim ∧ ShR xi2 xf2 xz2 xl2 2 mit mfm msz mim ∧ ShR xi3 xf3 xz3 xl3 3 mit mfm msz mim) (h10 : fi = mfi ∧ 0 ≤ fi ∧ fi ≤ 5) : SRh (heapC tb tz tk tks tc tt iu nm ou so pl nd pa ba de en sc rsz fp ss cu os a1 a2 a3 a4 a5 b1 b2 b3 b4 b5 le fi xi0 xf0 xz0 xl0 xi1 xf1 xz1 xl1 xi2 xf2 xz2 xl2 xi3 xf3 xz3 xl3) (heapM mtz mt mk mkf mot mox mfa mnd miu mnm mso mou mpl msc mar mex men mnn mon mde mbt mfo mfn mma mit mfm msz mim mmo mfi) := ⟨_, _, _, _, _, _, _, _, _, _, _, _, _, _, _, _, _, _, _, _, _, _, _, _, _, _, _, _, _, _, _, _, _, _, _, _, _, _, _, _, _, _, _, _, _, _, _, _, _, _, _, _, _, _, _, _, _, _, _, _, _, _, _, _, _, _, _, _, _, _, _, _, _, _, _, _, _, _, _, _, rfl, rfl, h1, h2, h3, h4, h5, h6, h7, h8, h9, h10⟩
end SIDES
def OPI (ro : Nat × (Int → Int)) (D m1 m2 : Nat) (as : List AV) (a b : List AC) : Prop := ∀ Q : Option AV → AH → Prop, (∀ a' v, (∀ Q2 : Option AV → AH → Prop, (∀ b', rg v → SRh a' b' → Q2 (some (vI v)) (a', b')) → RNd ro D m2 (vR 200 :: as) (a', b) Q2) → Q (some (vI v)) (a', b)) → RNd ro D m1 (vR 0 :: as) (a, b) Q
def OPL (ro : Nat × (Int → Int)) (D m1 m2 : Nat) (as : List AV) (a b : List AC) : Prop := ∀ Q : Option AV → AH → Prop, (∀ a' v, (∀ Q2 : Option AV → AH → Prop, (∀ b', SRh a' b' → Q2 (some (vL v)) (a', b')) → RNd ro D m2 (vR 200 :: as) (a', b) Q2) → Q (some (vL v)) (a', b)) → RNd ro D m1 (vR 0 :: as) (a, b) Q
