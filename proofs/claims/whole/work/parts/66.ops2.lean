/-! ===== each call on both sides: sheets ===== -/
section SHL
variable {xi xi' a3 BB : Int → Int} {xf xz xl xf' xz' xl' s t u i j n v w form : Int} {mit mfm msz mim : Int → Int}
set_option maxRecDepth 100000 in
set_option maxHeartbeats 4000000 in
theorem L_lose (h : ShR xi xf xz xl s mit mfm msz mim) : ShR xi xf xz 1 s (upZ mit s 0) mfm msz mim := by
  obtain ⟨-, h2, h3, h4, h5⟩ := h
  exact ⟨⟨by rw [upZ_s]; rfl, by omega, by omega⟩, h2, h3, h4, h5⟩
set_option maxRecDepth 100000 in
set_option maxHeartbeats 4000000 in
theorem L_loseN (h : ShR xi xf xz xl t mit mfm msz mim) (ne : t ≠ s) : ShR xi xf xz xl t (upZ mit s 0) mfm msz mim := ShR_fr h (upZ_n ne) rfl rfl (fun _ _ _ => rfl)
set_option maxRecDepth 100000 in
set_option maxHeartbeats 4000000 in
theorem L_new (h : ShR xi xf xz xl s mit mfm msz mim) (hf : 0 ≤ form ∧ form < 3) (hn : 0 ≤ n ∧ n ≤ 60) : ShR (fz xi 0 60 0) form n 0 s (upZ mit s 1) (upZ mfm s form) (upZ msz s n) (fz mim (60 * s) (60 * s + 60) 0) := by
  obtain ⟨-, -, -, h4, h5⟩ := h
  refine ⟨⟨by rw [upZ_s]; rfl, by omega, by omega⟩, ⟨by rw [upZ_s], by omega, by omega⟩, ⟨by rw [upZ_s], by omega, by omega⟩, fun i a b => ?_, fun i => ?_⟩
  · unfold fz
    rw [if_pos (by omega), if_pos (by omega)]
  · unfold fz
    split
    · unfold rg
      omega
    · exact h5 i
set_option maxRecDepth 100000 in
set_option maxHeartbeats 4000000 in
theorem L_newN (h : ShR xi xf xz xl t mit mfm msz mim) (ne : t ≠ s) : ShR xi xf xz xl t (upZ mit s 1) (upZ mfm s form) (upZ msz s n) (fz mim (60 * s) (60 * s + 60) 0) :=
  ShR_fr h (upZ_n ne) (upZ_n ne) (upZ_n ne) (fun i a b => by unfold fz; rw [if_neg (by omega)])
set_option maxRecDepth 100000 in
set_option maxHeartbeats 4000000 in
theorem L_put (h : ShR xi xf xz xl s mit mfm msz mim) (hv : rg v) (hi : 0 ≤ i ∧ i < 60) : ShR (upZ xi i (stZ xf v)) xf xz xl s mit mfm msz (upZ mim (60 * s + i) (stZ (mfm s) v)) := by
  obtain ⟨h1, ⟨h2, h2'⟩, h3, h4, h5⟩ := h
  refine ⟨h1, ⟨h2, h2'⟩, h3, fun k a b => ?_, fun k => ?_⟩
  · by_cases e : k = i
    · rw [e, upZ_s, upZ_s, h2]
    · rw [upZ_n e, upZ_n (by omega)]
      exact h4 k a b
  · unfold upZ
    split
    · exact rg_stZ hv
    · exact h5 k
set_option maxRecDepth 100000 in
set_option maxHeartbeats 4000000 in
theorem L_putN (h : ShR xi xf xz xl t mit mfm msz mim) (hi : 0 ≤ i ∧ i < 60) (ne : t ≠ s) : ShR xi xf xz xl t mit mfm msz (upZ mim (60 * s + i) v) :=
  ShR_fr h rfl rfl rfl (fun k a b => upZ_n (by omega))
set_option maxRecDepth 100000 in
set_option maxHeartbeats 4000000 in
theorem L_write (h : ShR xi xf xz xl s mit mfm msz mim) (hw : 0 ≤ w ∧ w ≤ 60) (hb : ∀ k, 0 ≤ k → k < w → a3 k = BB k) (hr : rI a3 (-1) 59) : ShR (fb xi (fun k => stZ xf (a3 k)) 0 w) xf xz xl s mit mfm msz (fb mim (fun q => stZ (mfm s) (BB (q - 60 * s))) (60 * s) (60 * s + w)) := by
  obtain ⟨h1, ⟨h2, h2'⟩, h3, h4, h5⟩ := h
  refine ⟨h1, ⟨h2, h2'⟩, h3, fun k a b => ?_, fun k => ?_⟩
  · unfold fb
    by_cases e : k < w
    · rw [if_pos (by omega), if_pos (by omega)]
      show stZ xf (a3 k) = stZ (mfm s) (BB (60 * s + k - 60 * s))
      rw [show 60 * s + k - 60 * s = k by omega, hb k a e, h2]
    · rw [if_neg (by omega), if_neg (by omega)]
      exact h4 k a b
  · unfold fb
    split
    · exact rg_stZ (rg_i (hr k))
    · exact h5 k
set_option maxRecDepth 100000 in
set_option maxHeartbeats 4000000 in
theorem L_writeN {g : Int → Int} (h : ShR xi xf xz xl t mit mfm msz mim) (hw : 0 ≤ w ∧ w ≤ 60) (ne : t ≠ s) : ShR xi xf xz xl t mit mfm msz (fb mim g (60 * s) (60 * s + w)) :=
  ShR_fr h rfl rfl rfl (fun k a b => by unfold fb; rw [if_neg (by omega)])
set_option maxRecDepth 100000 in
set_option maxHeartbeats 4000000 in
theorem L_copy (h : ShR xi xf xz xl s mit mfm msz mim) (h' : ShR xi' xf' xz' xl' t mit mfm msz mim) (hi : 0 ≤ i ∧ 0 ≤ n ∧ i + n ≤ 60) (hj : 0 ≤ j ∧ j + n ≤ 60) : ShR (cpZ xi xi' i j n) xf' xz' xl' t mit mfm msz (fb mim (fun q => mim (60 * s + i + (q - (60 * t + j)))) (60 * t + j) (60 * t + j + n)) := by
  obtain ⟨-, -, -, h4, h5⟩ := h
  obtain ⟨k1, k2, k3, k4, k5⟩ := h'
  refine ⟨k1, k2, k3, fun k a b => ?_, fun k => ?_⟩
  · unfold cpZ fb
    by_cases e : j ≤ k ∧ k < j + n
    · rw [if_pos e, if_pos (by omega)]
      show xi (i + (k - j)) = mim (60 * s + i + (60 * t + k - (60 * t + j)))
      rw [h4 _ (by omega) (by omega), show 60 * s + (i + (k - j)) = 60 * s + i + (60 * t + k - (60 * t + j)) by omega]
    · rw [if_neg e, if_neg (by omega)]
      exact k4 k a b
  · unfold cpZ
    split
    · exact h5 _
    · exact k5 k
set_option maxRecDepth 100000 in
set_option maxHeartbeats 4000000 in
theorem L_copyN {g : Int → Int} (h : ShR xi xf xz xl u mit mfm msz mim) (hj : 0 ≤ j ∧ 0 ≤ n ∧ j + n ≤ 60) (ne : u ≠ t) : ShR xi xf xz xl u mit mfm msz (fb mim g (60 * t + j) (60 * t + j + n)) :=
  ShR_fr h rfl rfl rfl (fun k a b => by unfold fb; rw [if_neg (by omega)])
set_option maxRecDepth 100000 in
set_option maxHeartbeats 4000000 in
theorem rg_fbk {f g : Int → Int} {i n : Int} (hf : ∀ k, rg (f k)) (hg : ∀ k, rg (g k)) (k : Int) : rg (fb f g i n k) := by
  unfold fb
  split
  · exact hg k
  · exact hf k
end SHL
section OPS2
variable {ro : Nat × (Int → Int)} {d : Nat} {tb : Int → Int} {tz : Int} {tk : Int → Int → Int} {tks : Int → Int} {tc tt : Int} {iu nm ou so pl : Int → Int} {nd : Int} {pa ba de en : Int → Int} {sc rsz fp ss cu os : Int} {a1 a2 a3 : Int → Int} {a4 : Int → Int64} {a5 b1 b2 b3 : Int → Int} {b4 : Int → Int64} {b5 : Int → Int} {le fi : Int} {xi0 : Int → Int} {xf0 xz0 xl0 : Int} {xi1 : Int → Int} {xf1 xz1 xl1 : Int} {xi2 : Int → Int} {xf2 xz2 xl2 : Int} {xi3 : Int → Int} {xf3 xz3 xl3 : Int} {mtz : Int} {mt : Int → Int} {mk mkf : Int} {mot mox : Int → Int} {mfa mnd : Int} {miu mnm mso mou mpl : Int → Int} {msc : Int} {mar mex men mnn mon mde mbt mfo mfn mma mit mfm msz mim mmo : Int → Int} {mfi : Int}
set_option maxRecDepth 100000 in
set_option maxHeartbeats 4000000 in
theorem op_lose_0 (h1 : tb = mt ∧ tz = mtz) (h2 : 0 ≤ tz ∧ tz ≤ 100) (h3 : rI tb 0 255) (h4 : CRd tb tz fp nd sc rsz iu nm so ou pl pa ba en a1 a2 a3 a4 a5) (h5 : RM miu mnm mso mou mpl mar mex men mnn mon mde mbt mfo mfn) (h6 : rI b1 0 25 ∧ rI b2 0 3 ∧ rI b3 (-1) 59 ∧ rI b5 (-1) 59) (h7 : KnR tz tk tks tc tt mk mkf mot mox) (h8 : rI mit 0 1 ∧ rI mfm 0 2 ∧ rI msz 0 60 ∧ ∀ i, rg (mim i)) (h9 : ShR xi0 xf0 xz0 xl0 0 mit mfm msz mim ∧ ShR xi1 xf1 xz1 xl1 1 mit mfm msz mim ∧ ShR xi2 xf2 xz2 xl2 2 mit mfm msz mim ∧ ShR xi3 xf3 xz3 xl3 3 mit mfm msz mim) (h10 : fi = mfi ∧ 0 ≤ fi ∧ fi ≤ 5) : OPI ro (d + 12) 78 172 [vI 0] (heapC tb tz tk tks tc tt iu nm ou so pl nd pa ba de en sc rsz fp ss cu os a1 a2 a3 a4 a5 b1 b2 b3 b4 b5 le fi xi0 xf0 xz0 xl0 xi1 xf1 xz1 xl1 xi2 xf2 xz2 xl2 xi3 xf3 xz3 xl3) (heapM mtz mt mk mkf mot mox mfa mnd miu mnm mso mou mpl msc mar mex men mnn mon mde mbt mfo mfn mma mit mfm msz mim mmo mfi) := by
  obtain ⟨rfl, rfl⟩ := h1
  obtain ⟨s0, s1, s2, s3⟩ := id h9
  obtain ⟨⟨rfl, l2⟩, ⟨rfl, x2⟩, ⟨rfl, z2⟩, it, ir⟩ := id s0
  obtain ⟨m1, m2, m3, m4⟩ := id h8
  intro Q hQ
  refine t_lose_0 l2 (fun e => ?_) (fun e => ?_)
  · refine hQ _ _ (fun Q2 hq => ?_)
    refine r_lose (by unfold rg; omega) m1 (fun e' => absurd (by omega) e') (fun _ _ => ?_) (fun _ e' => absurd e' (by omega))
    exact hq _ (by unfold rg; omega) (mkSR ⟨rfl, rfl⟩ h2 h3 h4 h5 h6 h7 h8 h9 ⟨rfl, by omega, by omega⟩)
  · refine hQ _ _ (fun Q2 hq => ?_)
    refine r_lose (by unfold rg; omega) m1 (fun e' => absurd (by omega) e') (fun _ e' => absurd e' (by omega)) (fun _ _ => ?_)
    exact hq _ (by unfold rg; omega) (mkSR ⟨rfl, rfl⟩ h2 h3 h4 h5 h6 h7 ⟨rI_up m1 (by omega) (by omega), m2, m3, m4⟩ ⟨L_lose s0, L_loseN s1 (by omega), L_loseN s2 (by omega), L_loseN s3 (by omega)⟩ h10)
set_option maxRecDepth 100000 in
set_option maxHeartbeats 4000000 in
theorem op_sheet_0 {form n : Int} (rform : rg form) (rn : rg n) (h1 : tb = mt ∧ tz = mtz) (h2 : 0 ≤ tz ∧ tz ≤ 100) (h3 : rI tb 0 255) (h4 : CRd tb tz fp nd sc rsz iu nm so ou pl pa ba en a1 a2 a3 a4 a5) (h5 : RM miu mnm mso mou mpl mar mex men mnn mon mde mbt mfo mfn) (h6 : rI b1 0 25 ∧ rI b2 0 3 ∧ rI b3 (-1) 59 ∧ rI b5 (-1) 59) (h7 : KnR tz tk tks tc tt mk mkf mot mox) (h8 : rI mit 0 1 ∧ rI mfm 0 2 ∧ rI msz 0 60 ∧ ∀ i, rg (mim i)) (h9 : ShR xi0 xf0 xz0 xl0 0 mit mfm msz mim ∧ ShR xi1 xf1 xz1 xl1 1 mit mfm msz mim ∧ ShR xi2 xf2 xz2 xl2 2 mit mfm msz mim ∧ ShR xi3 xf3 xz3 xl3 3 mit mfm msz mim) (h10 : fi = mfi ∧ 0 ≤ fi ∧ fi ≤ 5) : OPI ro (d + 12) 77 171 [vI 0, vI form, vI n] (heapC tb tz tk tks tc tt iu nm ou so pl nd pa ba de en sc rsz fp ss cu os a1 a2 a3 a4 a5 b1 b2 b3 b4 b5 le fi xi0 xf0 xz0 xl0 xi1 xf1 xz1 xl1 xi2 xf2 xz2 xl2 xi3 xf3 xz3 xl3) (heapM mtz mt mk mkf mot mox mfa mnd miu mnm mso mou mpl msc mar mex men mnn mon mde mbt mfo mfn mma mit mfm msz mim mmo mfi) := by
  obtain ⟨rfl, rfl⟩ := h1
  obtain ⟨s0, s1, s2, s3⟩ := id h9
  obtain ⟨⟨rfl, l2⟩, ⟨rfl, x2⟩, ⟨rfl, z2⟩, it, ir⟩ := id s0
  obtain ⟨m1, m2, m3, m4⟩ := id h8
  intro Q hQ
  refine t_sheet_0 rform rn (fun e => ?_) (fun e e2 => ?_) (fun e e2 => ?_)
  · refine hQ _ _ (fun Q2 hq => ?_)
    refine r_sheet (by unfold rg; omega) rform rn (fun _ => ?_) (fun _ e' => absurd e' e) (fun _ e' => absurd e' e)
    exact hq _ (by unfold rg; omega) (mkSR ⟨rfl, rfl⟩ h2 h3 h4 h5 h6 h7 h8 h9 h10)
  · refine hQ _ _ (fun Q2 hq => ?_)
    refine r_sheet (by unfold rg; omega) rform rn (fun e' => absurd ⟨by omega, e⟩ e') (fun _ _ _ => ?_) (fun _ _ e' => absurd e' (by omega))
    exact hq _ (by unfold rg; omega) (mkSR ⟨rfl, rfl⟩ h2 h3 h4 h5 h6 h7 h8 h9 ⟨rfl, by omega, by omega⟩)
  · refine hQ _ _ (fun Q2 hq => ?_)
    refine r_sheet (by unfold rg; omega) rform rn (fun e' => absurd ⟨by omega, e⟩ e') (fun _ _ e' => absurd e' (by omega)) (fun _ _ _ => ?_)
    refine hq _ rn (mkSR ⟨rfl, rfl⟩ h2 h3 h4 h5 h6 h7 ⟨rI_up m1 (by omega) (by omega), rI_up m2 (by omega) (by omega), rI_up m3 (by omega) (by omega), fun i => ?_⟩ ⟨L_new s0 e.1 ⟨e2, e.2⟩, L_newN s1 (by omega), L_newN s2 (by omega), L_newN s3 (by omega)⟩ h10)
    unfold fz
    split
    · unfold rg
      omega
    · exact m4 i
set_option maxRecDepth 100000 in
set_option maxHeartbeats 4000000 in
theorem op_put_0 {form i v : Int} (rform : rg form) (ri : rg i) (rv : rg v) (h1 : tb = mt ∧ tz = mtz) (h2 : 0 ≤ tz ∧ tz ≤ 100) (h3 : rI tb 0 255) (h4 : CRd tb tz fp nd sc rsz iu nm so ou pl pa ba en a1 a2 a3 a4 a5) (h5 : RM miu mnm mso mou mpl mar mex men mnn mon mde mbt mfo mfn) (h6 : rI b1 0 25 ∧ rI b2 0 3 ∧ rI b3 (-1) 59 ∧ rI b5 (-1) 59) (h7 : KnR tz tk tks tc tt mk mkf mot mox) (h8 : rI mit 0 1 ∧ rI mfm 0 2 ∧ rI msz 0 60 ∧ ∀ i, rg (mim i)) (h9 : ShR xi0 xf0 xz0 xl0 0 mit mfm msz mim ∧ ShR xi1 xf1 xz1 xl1 1 mit mfm msz mim ∧ ShR xi2 xf2 xz2 xl2 2 mit mfm msz mim ∧ ShR xi3 xf3 xz3 xl3 3 mit mfm msz mim) (h10 : fi = mfi ∧ 0 ≤ fi ∧ fi ≤ 5) : OPI ro (d + 12) 79 175 [vI 0, vI form, vI i, vI v] (heapC tb tz tk tks tc tt iu nm ou so pl nd pa ba de en sc rsz fp ss cu os a1 a2 a3 a4 a5 b1 b2 b3 b4 b5 le fi xi0 xf0 xz0 xl0 xi1 xf1 xz1 xl1 xi2 xf2 xz2 xl2 xi3 xf3 xz3 xl3) (heapM mtz mt mk mkf mot mox mfa mnd miu mnm mso mou mpl msc mar mex men mnn mon mde mbt mfo mfn mma mit mfm msz mim mmo mfi) := by
  obtain ⟨rfl, rfl⟩ := h1
  obtain ⟨s0, s1, s2, s3⟩ := id h9
  obtain ⟨⟨rfl, l2⟩, ⟨rfl, x2⟩, ⟨rfl, z2⟩, it, ir⟩ := id s0
  obtain ⟨m1, m2, m3, m4⟩ := id h8
  intro Q hQ
  have lr := aLk_rg (xl := 1 - mit 0) (xf := mfm 0) (xz := msz 0) (form := form) (i := i)
  refine t_put_0 rform ri l2 x2 z2 (fun e => ?_) (fun e e2 => ?_) (fun e e2 => ?_)
  · refine hQ _ _ (fun Q2 hq => ?_)
    refine r_put (by unfold rg; omega) rform ri m1 m2 m3 (fun _ => ?_) (fun _ e' => absurd e' e) (fun _ e' => absurd e' e)
    exact hq _ (by unfold rg; omega) (mkSR ⟨rfl, rfl⟩ h2 h3 h4 h5 h6 h7 h8 h9 h10)
  · refine hQ _ _ (fun Q2 hq => ?_)
    refine r_put (by unfold rg; omega) rform ri m1 m2 m3 (fun e' => absurd ⟨by omega, e⟩ e') (fun _ _ _ => ?_) (fun _ _ e' => absurd e' e2)
    exact hq _ (by unfold rg; omega) (mkSR ⟨rfl, rfl⟩ h2 h3 h4 h5 h6 h7 h8 h9 ⟨rfl, by omega, by omega⟩)
  · have z := aLk_0 e2
    refine hQ _ _ (fun Q2 hq => ?_)
    refine r_put (by unfold rg; omega) rform ri m1 m2 m3 (fun e' => absurd ⟨by omega, e⟩ e') (fun _ _ e' => absurd e2 e') (fun _ _ _ => ?_)
    refine hq _ (by unfold rg; omega) (mkSR ⟨rfl, rfl⟩ h2 h3 h4 h5 h6 h7 ⟨m1, m2, m3, fun k => ?_⟩ ⟨L_put s0 rv (by omega), L_putN s1 (by omega) (by omega), L_putN s2 (by omega) (by omega), L_putN s3 (by omega) (by omega)⟩ h10)
    unfold upZ
    split
    · exact rg_stZ rv
    · exact m4 k
set_option maxRecDepth 100000 in
set_option maxHeartbeats 4000000 in
theorem op_get_0 {form i : Int} (rform : rg form) (ri : rg i) (h1 : tb = mt ∧ tz = mtz) (h2 : 0 ≤ tz ∧ tz ≤ 100) (h3 : rI tb 0 255) (h4 : CRd tb tz fp nd sc rsz iu nm so ou pl pa ba en a1 a2 a3 a4 a5) (h5 : RM miu mnm mso mou mpl mar mex men mnn mon mde mbt mfo mfn) (h6 : rI b1 0 25 ∧ rI b2 0 3 ∧ rI b3 (-1) 59 ∧ rI b5 (-1) 59) (h7 : KnR tz tk tks tc tt mk mkf mot mox) (h8 : rI mit 0 1 ∧ rI mfm 0 2 ∧ rI msz 0 60 ∧ ∀ i, rg (mim i)) (h9 : ShR xi0 xf0 xz0 xl0 0 mit mfm msz mim ∧ ShR xi1 xf1 xz1 xl1 1 mit mfm msz mim ∧ ShR xi2 xf2 xz2 xl2 2 mit mfm msz mim ∧ ShR xi3 xf3 xz3 xl3 3 mit mfm msz mim) (h10 : fi = mfi ∧ 0 ≤ fi ∧ fi ≤ 5) : OPI ro (d + 12) 80 176 [vI 0, vI form, vI i] (heapC tb tz tk tks tc tt iu nm ou so pl nd pa ba de en sc rsz fp ss cu os a1 a2 a3 a4 a5 b1 b2 b3 b4 b5 le fi xi0 xf0 xz0 xl0 xi1 xf1 xz1 xl1 xi2 xf2 xz2 xl2 xi3 xf3 xz3 xl3) (heapM mtz mt mk mkf mot mox mfa mnd miu mnm mso mou mpl msc mar mex men mnn mon mde mbt mfo mfn mma mit mfm msz mim mmo mfi) := by
  obtain ⟨rfl, rfl⟩ := h1
  obtain ⟨s0, s1, s2, s3⟩ := id h9
  obtain ⟨⟨rfl, l2⟩, ⟨rfl, x2⟩, ⟨rfl, z2⟩, it, ir⟩ := id s0
  obtain ⟨m1, m2, m3, m4⟩ := id h8
  intro Q hQ
  have lr := aLk_rg (xl := 1 - mit 0) (xf := mfm 0) (xz := msz 0) (form := form) (i := i)
  refine t_get_0 rform ri l2 x2 z2 (fun e => ?_) (fun e e2 => ?_) (fun e e2 => ?_)
  · refine hQ _ _ (fun Q2 hq => ?_)
    refine r_get (by unfold rg; omega) rform ri m1 m2 m3 (fun _ => ?_) (fun _ e' => absurd e' e) (fun _ e' => absurd e' e)
    exact hq _ (by unfold rg; omega) (mkSR ⟨rfl, rfl⟩ h2 h3 h4 h5 h6 h7 h8 h9 h10)
  · refine hQ _ _ (fun Q2 hq => ?_)
    refine r_get (by unfold rg; omega) rform ri m1 m2 m3 (fun e' => absurd ⟨by omega, e⟩ e') (fun _ _ _ => ?_) (fun _ _ e' => absurd e' e2)
    exact hq _ (by unfold rg; omega) (mkSR ⟨rfl, rfl⟩ h2 h3 h4 h5 h6 h7 h8 h9 ⟨rfl, by omega, by omega⟩)
  · have z := aLk_0 e2
    refine hQ _ _ (fun Q2 hq => ?_)
    refine r_get (by unfold rg; omega) rform ri m1 m2 m3 (fun e' => absurd ⟨by omega, e⟩ e') (fun _ _ e' => absurd e2 e') (fun _ _ _ => ?_)
    rw [← it i (by omega) (by omega)]
    exact hq _ (ir i) (mkSR ⟨rfl, rfl⟩ h2 h3 h4 h5 h6 h7 h8 h9 h10)
set_option maxRecDepth 100000 in
set_option maxHeartbeats 4000000 in
theorem op_write_0 (h1 : tb = mt ∧ tz = mtz) (h2 : 0 ≤ tz ∧ tz ≤ 100) (h3 : rI tb 0 255) (h4 : CRd tb tz fp nd sc rsz iu nm so ou pl pa ba en a1 a2 a3 a4 a5) (h5 : RM miu mnm mso mou mpl mar mex men mnn mon mde mbt mfo mfn) (h6 : rI b1 0 25 ∧ rI b2 0 3 ∧ rI b3 (-1) 59 ∧ rI b5 (-1) 59) (h7 : KnR tz tk tks tc tt mk mkf mot mox) (h8 : rI mit 0 1 ∧ rI mfm 0 2 ∧ rI msz 0 60 ∧ ∀ i, rg (mim i)) (h9 : ShR xi0 xf0 xz0 xl0 0 mit mfm msz mim ∧ ShR xi1 xf1 xz1 xl1 1 mit mfm msz mim ∧ ShR xi2 xf2 xz2 xl2 2 mit mfm msz mim ∧ ShR xi3 xf3 xz3 xl3 3 mit mfm msz mim) (h10 : fi = mfi ∧ 0 ≤ fi ∧ fi ≤ 5) : OPI ro (d + 12) 82 178 [vI 0] (heapC tb tz tk tks tc tt iu nm ou so pl nd pa ba de en sc rsz fp ss cu os a1 a2 a3 a4 a5 b1 b2 b3 b4 b5 le fi xi0 xf0 xz0 xl0 xi1 xf1 xz1 xl1 xi2 xf2 xz2 xl2 xi3 xf3 xz3 xl3) (heapM mtz mt mk mkf mot mox mfa mnd miu mnm mso mou mpl msc mar mex men mnn mon mde mbt mfo mfn mma mit mfm msz mim mmo mfi) := by
  obtain ⟨rfl, rfl⟩ := h1
  obtain ⟨s0, s1, s2, s3⟩ := id h9
  obtain ⟨⟨rfl, l2⟩, ⟨rfl, x2⟩, ⟨rfl, z2⟩, it, ir⟩ := id s0
  obtain ⟨m1, m2, m3, m4⟩ := id h8
  intro Q hQ
  obtain ⟨⟨-, hnd, -, -⟩, hS, -, -, hW, -⟩ := id h4
  have S1 := hS.1
  obtain ⟨r0, r1, r2, r3, r5⟩ := CRd_rg h4
  refine t_write_0 l2 x2 z2 S1 (fun e => ?_) (fun e => ?_)
  · refine hQ _ _ (fun Q2 hq => ?_)
    refine r_write (by unfold rg; omega) m1 m2 m3 h2 h3 h5 (fun e' => absurd (by omega) e') (fun _ _ => ?_) (fun _ e' => absurd e' (by omega))
    exact hq _ (by unfold rg; omega) (mkSR ⟨rfl, rfl⟩ h2 h3 h4 h5 h6 h7 h8 h9 ⟨rfl, by omega, by omega⟩)
  · refine hQ _ _ (fun Q2 hq => ?_)
    refine r_write (by unfold rg; omega) m1 m2 m3 h2 h3 h5 (fun e' => absurd (by omega) e') (fun _ e' => absurd e' (by omega)) (fun _ _ mfa' mnd' msc' miu' mnm' mso' mou' mpl' mar' mex' men' mnn' mon' mde' mbt' mfo' mfn' hM => ?_)
    have en : mnd' = nd := by rw [hM.1.2.1, ← hnd]
    have hB := hM.2.2.2.2.1
    have R5 := (MRw_RM (MRd_w hM)).2.2.2.2.1
    subst en
    have w2 : 0 ≤ (if mnd' < msz 0 then mnd' else msz 0) ∧ (if mnd' < msz 0 then mnd' else msz 0) ≤ 60 ∧ (if mnd' < msz 0 then mnd' else msz 0) ≤ mnd' := by split <;> omega
    exact hq _ (by unfold rg; omega) (mkSR ⟨rfl, rfl⟩ h2 h3 h4 (MRw_RM (MRd_w hM)) h6 h7 ⟨m1, m2, m3, rg_fbk m4 (fun q => rg_stZ (rg_i (R5 _)))⟩ ⟨L_write s0 (by omega) (fun k a b => by rw [(hW k a (by omega)).2.2, (hB k a (by omega)).1]) r3, L_writeN s1 (by omega) (by omega), L_writeN s2 (by omega) (by omega), L_writeN s3 (by omega) (by omega)⟩ h10)
set_option maxRecDepth 100000 in
set_option maxHeartbeats 4000000 in
theorem op_read_0 (h1 : tb = mt ∧ tz = mtz) (h2 : 0 ≤ tz ∧ tz ≤ 100) (h3 : rI tb 0 255) (h4 : CRd tb tz fp nd sc rsz iu nm so ou pl pa ba en a1 a2 a3 a4 a5) (h5 : RM miu mnm mso mou mpl mar mex men mnn mon mde mbt mfo mfn) (h6 : rI b1 0 25 ∧ rI b2 0 3 ∧ rI b3 (-1) 59 ∧ rI b5 (-1) 59) (h7 : KnR tz tk tks tc tt mk mkf mot mox) (h8 : rI mit 0 1 ∧ rI mfm 0 2 ∧ rI msz 0 60 ∧ ∀ i, rg (mim i)) (h9 : ShR xi0 xf0 xz0 xl0 0 mit mfm msz mim ∧ ShR xi1 xf1 xz1 xl1 1 mit mfm msz mim ∧ ShR xi2 xf2 xz2 xl2 2 mit mfm msz mim ∧ ShR xi3 xf3 xz3 xl3 3 mit mfm msz mim) (h10 : fi = mfi ∧ 0 ≤ fi ∧ fi ≤ 5) : OPI ro (d + 12) 61 109 [vI 0] (heapC tb tz tk tks tc tt iu nm ou so pl nd pa ba de en sc rsz fp ss cu os a1 a2 a3 a4 a5 b1 b2 b3 b4 b5 le fi xi0 xf0 xz0 xl0 xi1 xf1 xz1 xl1 xi2 xf2 xz2 xl2 xi3 xf3 xz3 xl3) (heapM mtz mt mk mkf mot mox mfa mnd miu mnm mso mou mpl msc mar mex men mnn mon mde mbt mfo mfn mma mit mfm msz mim mmo mfi) := by
  obtain ⟨rfl, rfl⟩ := h1
  obtain ⟨s0, s1, s2, s3⟩ := id h9
  obtain ⟨⟨rfl, l2⟩, ⟨rfl, x2⟩, ⟨rfl, z2⟩, it, ir⟩ := id s0
  obtain ⟨m1, m2, m3, m4⟩ := id h8
  intro Q hQ
  obtain ⟨r0, r1, r2, r3, r5⟩ := CRd_rg h4
  obtain ⟨g1, g2, g3⟩ := fr_in xi0 (msz 0 - 0).toNat 0
  have w2 : ∀ w : Int, w = (if 100 - tz < frN xi0 (msz 0 - 0).toNat 0 then 100 - tz else frN xi0 (msz 0 - 0).toNat 0) → 0 ≤ w ∧ tz + w ≤ 100 ∧ w ≤ 60 ∧ w ≤ frN xi0 (msz 0 - 0).toNat 0 := by
    intro w hw
    rw [hw]
    split <;> omega
  generalize hw : (if 100 - tz < frN xi0 (msz 0 - 0).toNat 0 then 100 - tz else frN xi0 (msz 0 - 0).toNat 0) = w at w2
  obtain ⟨w3, w4, w5, w6⟩ := w2 w rfl
  refine t_read_0 hw.symm l2 z2 ir h2 h3 r0 r1 r2 r3 r5 (fun e => ?_) (fun e e2 => ?_) (fun e e2 fp' nd' sc' rsz' iu' nm' so' ou' pl' pa' ba' de' en' ss' cu' os' a1' a2' a3' a4' a5' hC => ?_)
  · refine hQ _ _ (fun Q2 hq => ?_)
    refine r_read (by unfold rg; omega) it (fun _ => hw.symm) m1 m3 m4 h2 h3 (fun e' => absurd (by omega) e') (fun _ _ => ?_) (fun _ e' => absurd e' (by omega)) (fun _ e' => absurd e' (by omega))
    exact hq _ (by unfold rg; omega) (mkSR ⟨rfl, rfl⟩ h2 h3 h4 h5 h6 h7 h8 h9 ⟨rfl, by omega, by omega⟩)
  · refine hQ _ _ (fun Q2 hq => ?_)
    refine r_read (by unfold rg; omega) it (fun _ => hw.symm) m1 m3 m4 h2 h3 (fun e' => absurd (by omega) e') (fun _ e' => absurd e' (by omega)) (fun _ _ _ => ?_) (fun _ _ e' => absurd e' (by omega))
    exact hq _ (by unfold rg; omega) (mkSR ⟨rfl, rfl⟩ h2 h3 h4 h5 h6 h7 h8 h9 h10)
  · refine hQ _ _ (fun Q2 hq => ?_)
    refine r_read (by unfold rg; omega) it (fun _ => hw.symm) m1 m3 m4 h2 h3 (fun e' => absurd (by omega) e') (fun _ e' => absurd e' (by omega)) (fun _ _ e' => absurd e' (by omega)) (fun _ _ _ => ?_)
    exact hq _ (by unfold rg; omega) (mkSR ⟨rfl, rfl⟩ ⟨by omega, w4⟩ (rI_fb2 h3 (fun q a b => g3 _ (by omega) (by omega))) hC h5 h6 (KnR_0 h7) h8 h9 h10)
set_option maxRecDepth 100000 in
set_option maxHeartbeats 4000000 in
theorem op_lose_1 (h1 : tb = mt ∧ tz = mtz) (h2 : 0 ≤ tz ∧ tz ≤ 100) (h3 : rI tb 0 255) (h4 : CRd tb tz fp nd sc rsz iu nm so ou pl pa ba en a1 a2 a3 a4 a5) (h5 : RM miu mnm mso mou mpl mar mex men mnn mon mde mbt mfo mfn) (h6 : rI b1 0 25 ∧ rI b2 0 3 ∧ rI b3 (-1) 59 ∧ rI b5 (-1) 59) (h7 : KnR tz tk tks tc tt mk mkf mot mox) (h8 : rI mit 0 1 ∧ rI mfm 0 2 ∧ rI msz 0 60 ∧ ∀ i, rg (mim i)) (h9 : ShR xi0 xf0 xz0 xl0 0 mit mfm msz mim ∧ ShR xi1 xf1 xz1 xl1 1 mit mfm msz mim ∧ ShR xi2 xf2 xz2 xl2 2 mit mfm msz mim ∧ ShR xi3 xf3 xz3 xl3 3 mit mfm msz mim) (h10 : fi = mfi ∧ 0 ≤ fi ∧ fi ≤ 5) : OPI ro (d + 12) 78 172 [vI 1] (heapC tb tz tk tks tc tt iu nm ou so pl nd pa ba de en sc rsz fp ss cu os a1 a2 a3 a4 a5 b1 b2 b3 b4 b5 le fi xi0 xf0 xz0 xl0 xi1 xf1 xz1 xl1 xi2 xf2 xz2 xl2 xi3 xf3 xz3 xl3) (heapM mtz mt mk mkf mot mox mfa mnd miu mnm mso mou mpl msc mar mex men mnn mon mde mbt mfo mfn mma mit mfm msz mim mmo mfi) := by
  obtain ⟨rfl, rfl⟩ := h1
  obtain ⟨s0, s1, s2, s3⟩ := id h9
  obtain ⟨⟨rfl, l2⟩, ⟨rfl, x2⟩, ⟨rfl, z2⟩, it, ir⟩ := id s1
  obtain ⟨m1, m2, m3, m4⟩ := id h8
  intro Q hQ
  refine t_lose_1 l2 (fun e => ?_) (fun e => ?_)
  · refine hQ _ _ (fun Q2 hq => ?_)
    refine r_lose (by unfold rg; omega) m1 (fun e' => absurd (by omega) e') (fun _ _ => ?_) (fun _ e' => absurd e' (by omega))
    exact hq _ (by unfold rg; omega) (mkSR ⟨rfl, rfl⟩ h2 h3 h4 h5 h6 h7 h8 h9 ⟨rfl, by omega, by omega⟩)
  · refine hQ _ _ (fun Q2 hq => ?_)
    refine r_lose (by unfold rg; omega) m1 (fun e' => absurd (by omega) e') (fun _ e' => absurd e' (by omega)) (fun _ _ => ?_)
    exact hq _ (by unfold rg; omega) (mkSR ⟨rfl, rfl⟩ h2 h3 h4 h5 h6 h7 ⟨rI_up m1 (by omega) (by omega), m2, m3, m4⟩ ⟨L_loseN s0 (by omega), L_lose s1, L_loseN s2 (by omega), L_loseN s3 (by omega)⟩ h10)
set_option maxRecDepth 100000 in
set_option maxHeartbeats 4000000 in
theorem op_sheet_1 {form n : Int} (rform : rg form) (rn : rg n) (h1 : tb = mt ∧ tz = mtz) (h2 : 0 ≤ tz ∧ tz ≤ 100) (h3 : rI tb 0 255) (h4 : CRd tb tz fp nd sc rsz iu nm so ou pl pa ba en a1 a2 a3 a4 a5) (h5 : RM miu mnm mso mou mpl mar mex men mnn mon mde mbt mfo mfn) (h6 : rI b1 0 25 ∧ rI b2 0 3 ∧ rI b3 (-1) 59 ∧ rI b5 (-1) 59) (h7 : KnR tz tk tks tc tt mk mkf mot mox) (h8 : rI mit 0 1 ∧ rI mfm 0 2 ∧ rI msz 0 60 ∧ ∀ i, rg (mim i)) (h9 : ShR xi0 xf0 xz0 xl0 0 mit mfm msz mim ∧ ShR xi1 xf1 xz1 xl1 1 mit mfm msz mim ∧ ShR xi2 xf2 xz2 xl2 2 mit mfm msz mim ∧ ShR xi3 xf3 xz3 xl3 3 mit mfm msz mim) (h10 : fi = mfi ∧ 0 ≤ fi ∧ fi ≤ 5) : OPI ro (d + 12) 77 171 [vI 1, vI form, vI n] (heapC tb tz tk tks tc tt iu nm ou so pl nd pa ba de en sc rsz fp ss cu os a1 a2 a3 a4 a5 b1 b2 b3 b4 b5 le fi xi0 xf0 xz0 xl0 xi1 xf1 xz1 xl1 xi2 xf2 xz2 xl2 xi3 xf3 xz3 xl3) (heapM mtz mt mk mkf mot mox mfa mnd miu mnm mso mou mpl msc mar mex men mnn mon mde mbt mfo mfn mma mit mfm msz mim mmo mfi) := by
  obtain ⟨rfl, rfl⟩ := h1
  obtain ⟨s0, s1, s2, s3⟩ := id h9
  obtain ⟨⟨rfl, l2⟩, ⟨rfl, x2⟩, ⟨rfl, z2⟩, it, ir⟩ := id s1
  obtain ⟨m1, m2, m3, m4⟩ := id h8
  intro Q hQ
  refine t_sheet_1 rform rn (fun e => ?_) (fun e e2 => ?_) (fun e e2 => ?_)
  · refine hQ _ _ (fun Q2 hq => ?_)
    refine r_sheet (by unfold rg; omega) rform rn (fun _ => ?_) (fun _ e' => absurd e' e) (fun _ e' => absurd e' e)
    exact hq _ (by unfold rg; omega) (mkSR ⟨rfl, rfl⟩ h2 h3 h4 h5 h6 h7 h8 h9 h10)
  · refine hQ _ _ (fun Q2 hq => ?_)
    refine r_sheet (by unfold rg; omega) rform rn (fun e' => absurd ⟨by omega, e⟩ e') (fun _ _ _ => ?_) (fun _ _ e' => absurd e' (by omega))
    exact hq _ (by unfold rg; omega) (mkSR ⟨rfl, rfl⟩ h2 h3 h4 h5 h6 h7 h8 h9 ⟨rfl, by omega, by omega⟩)
  · refine hQ _ _ (fun Q2 hq => ?_)
    refine r_sheet (by unfold rg; omega) rform rn (fun e' => absurd ⟨by omega, e⟩ e') (fun _ _ e' => absurd e' (by omega)) (fun _ _ _ => ?_)
    refine hq _ rn (mkSR ⟨rfl, rfl⟩ h2 h3 h4 h5 h6 h7 ⟨rI_up m1 (by omega) (by omega), rI_up m2 (by omega) (by omega), rI_up m3 (by omega) (by omega), fun i => ?_⟩ ⟨L_newN s0 (by omega), L_new s1 e.1 ⟨e2, e.2⟩, L_newN s2 (by omega), L_newN s3 (by omega)⟩ h10)
    unfold fz
    split
    · unfold rg
      omega
    · exact m4 i
set_option maxRecDepth 100000 in
set_option maxHeartbeats 4000000 in
theorem op_put_1 {form i v : Int} (rform : rg form) (ri : rg i) (rv : rg v) (h1 : tb = mt ∧ tz = mtz) (h2 : 0 ≤ tz ∧ tz ≤ 100) (h3 : rI tb 0 255) (h4 : CRd tb tz fp nd sc rsz iu nm so ou pl pa ba en a1 a2 a3 a4 a5) (h5 : RM miu mnm mso mou mpl mar mex men mnn mon mde mbt mfo mfn) (h6 : rI b1 0 25 ∧ rI b2 0 3 ∧ rI b3 (-1) 59 ∧ rI b5 (-1) 59) (h7 : KnR tz tk tks tc tt mk mkf mot mox) (h8 : rI mit 0 1 ∧ rI mfm 0 2 ∧ rI msz 0 60 ∧ ∀ i, rg (mim i)) (h9 : ShR xi0 xf0 xz0 xl0 0 mit mfm msz mim ∧ ShR xi1 xf1 xz1 xl1 1 mit mfm msz mim ∧ ShR xi2 xf2 xz2 xl2 2 mit mfm msz mim ∧ ShR xi3 xf3 xz3 xl3 3 mit mfm msz mim) (h10 : fi = mfi ∧ 0 ≤ fi ∧ fi ≤ 5) : OPI ro (d + 12) 79 175 [vI 1, vI form, vI i, vI v] (heapC tb tz tk tks tc tt iu nm ou so pl nd pa ba de en sc rsz fp ss cu os a1 a2 a3 a4 a5 b1 b2 b3 b4 b5 le fi xi0 xf0 xz0 xl0 xi1 xf1 xz1 xl1 xi2 xf2 xz2 xl2 xi3 xf3 xz3 xl3) (heapM mtz mt mk mkf mot mox mfa mnd miu mnm mso mou mpl msc mar mex men mnn mon mde mbt mfo mfn mma mit mfm msz mim mmo mfi) := by
  obtain ⟨rfl, rfl⟩ := h1
  obtain ⟨s0, s1, s2, s3⟩ := id h9
  obtain ⟨⟨rfl, l2⟩, ⟨rfl, x2⟩, ⟨rfl, z2⟩, it, ir⟩ := id s1
  obtain ⟨m1, m2, m3, m4⟩ := id h8
  intro Q hQ
  have lr := aLk_rg (xl := 1 - mit 1) (xf := mfm 1) (xz := msz 1) (form := form) (i := i)
  refine t_put_1 rform ri l2 x2 z2 (fun e => ?_) (fun e e2 => ?_) (fun e e2 => ?_)
  · refine hQ _ _ (fun Q2 hq => ?_)
    refine r_put (by unfold rg; omega) rform ri m1 m2 m3 (fun _ => ?_) (fun _ e' => absurd e' e) (fun _ e' => absurd e' e)
    exact hq _ (by unfold rg; omega) (mkSR ⟨rfl, rfl⟩ h2 h3 h4 h5 h6 h7 h8 h9 h10)
  · refine hQ _ _ (fun Q2 hq => ?_)
    refine r_put (by unfold rg; omega) rform ri m1 m2 m3 (fun e' => absurd ⟨by omega, e⟩ e') (fun _ _ _ => ?_) (fun _ _ e' => absurd e' e2)
    exact hq _ (by unfold rg; omega) (mkSR ⟨rfl, rfl⟩ h2 h3 h4 h5 h6 h7 h8 h9 ⟨rfl, by omega, by omega⟩)
  · have z := aLk_0 e2
    refine hQ _ _ (fun Q2 hq => ?_)
    refine r_put (by unfold rg; omega) rform ri m1 m2 m3 (fun e' => absurd ⟨by omega, e⟩ e') (fun _ _ e' => absurd e2 e') (fun _ _ _ => ?_)
    refine hq _ (by unfold rg; omega) (mkSR ⟨rfl, rfl⟩ h2 h3 h4 h5 h6 h7 ⟨m1, m2, m3, fun k => ?_⟩ ⟨L_putN s0 (by omega) (by omega), L_put s1 rv (by omega), L_putN s2 (by omega) (by omega), L_putN s3 (by omega) (by omega)⟩ h10)
    unfold upZ
    split
    · exact rg_stZ rv
    · exact m4 k
set_option maxRecDepth 100000 in
set_option maxHeartbeats 4000000 in
theorem op_get_1 {form i : Int} (rform : rg form) (ri : rg i) (h1 : tb = mt ∧ tz = mtz) (h2 : 0 ≤ tz ∧ tz ≤ 100) (h3 : rI tb 0 255) (h4 : CRd tb tz fp nd sc rsz iu nm so ou pl pa ba en a1 a2 a3 a4 a5) (h5 : RM miu mnm mso mou mpl mar mex men mnn mon mde mbt mfo mfn) (h6 : rI b1 0 25 ∧ rI b2 0 3 ∧ rI b3 (-1) 59 ∧ rI b5 (-1) 59) (h7 : KnR tz tk tks tc tt mk mkf mot mox) (h8 : rI mit 0 1 ∧ rI mfm 0 2 ∧ rI msz 0 60 ∧ ∀ i, rg (mim i)) (h9 : ShR xi0 xf0 xz0 xl0 0 mit mfm msz mim ∧ ShR xi1 xf1 xz1 xl1 1 mit mfm msz mim ∧ ShR xi2 xf2 xz2 xl2 2 mit mfm msz mim ∧ ShR xi3 xf3 xz3 xl3 3 mit mfm msz mim) (h10 : fi = mfi ∧ 0 ≤ fi ∧ fi ≤ 5) : OPI ro (d + 12) 80 176 [vI 1, vI form, vI i] (heapC tb tz tk tks tc tt iu nm ou so pl nd pa ba de en sc rsz fp ss cu os a1 a2 a3 a4 a5 b1 b2 b3 b4 b5 le fi xi0 xf0 xz0 xl0 xi1 xf1 xz1 xl1 xi2 xf2 xz2 xl2 xi3 xf3 xz3 xl3) (heapM mtz mt mk mkf mot mox mfa mnd miu mnm mso mou mpl msc mar mex men mnn mon mde mbt mfo mfn mma mit mfm msz mim mmo mfi) := by
  obtain ⟨rfl, rfl⟩ := h1
  obtain ⟨s0, s1, s2, s3⟩ := id h9
  obtain ⟨⟨rfl, l2⟩, ⟨rfl, x2⟩, ⟨rfl, z2⟩, it, ir⟩ := id s1
  obtain ⟨m1, m2, m3, m4⟩ := id h8
  intro Q hQ
  have lr := aLk_rg (xl := 1 - mit 1) (xf := mfm 1) (xz := msz 1) (form := form) (i := i)
  refine t_get_1 rform ri l2 x2 z2 (fun e => ?_) (fun e e2 => ?_) (fun e e2 => ?_)
  · refine hQ _ _ (fun Q2 hq => ?_)
    refine r_get (by unfold rg; omega) rform ri m1 m2 m3 (fun _ => ?_) (fun _ e' => absurd e' e) (fun _ e' => absurd e' e)
    exact hq _ (by unfold rg; omega) (mkSR ⟨rfl, rfl⟩ h2 h3 h4 h5 h6 h7 h8 h9 h10)
  · refine hQ _ _ (fun Q2 hq => ?_)
    refine r_get (by unfold rg; omega) rform ri m1 m2 m3 (fun e' => absurd ⟨by omega, e⟩ e') (fun _ _ _ => ?_) (fun _ _ e' => absurd e' e2)
    exact hq _ (by unfold rg; omega) (mkSR ⟨rfl, rfl⟩ h2 h3 h4 h5 h6 h7 h8 h9 ⟨rfl, by omega, by omega⟩)
  · have z := aLk_0 e2
    refine hQ _ _ (fun Q2 hq => ?_)
    refine r_get (by unfold rg; omega) rform ri m1 m2 m3 (fun e' => absurd ⟨by omega, e⟩ e') (fun _ _ e' => absurd e2 e') (fun _ _ _ => ?_)
    rw [← it i (by omega) (by omega)]
    exact hq _ (ir i) (mkSR ⟨rfl, rfl⟩ h2 h3 h4 h5 h6 h7 h8 h9 h10)
set_option maxRecDepth 100000 in
set_option maxHeartbeats 4000000 in
theorem op_write_1 (h1 : tb = mt ∧ tz = mtz) (h2 : 0 ≤ tz ∧ tz ≤ 100) (h3 : rI tb 0 255) (h4 : CRd tb tz fp nd sc rsz iu nm so ou pl pa ba en a1 a2 a3 a4 a5) (h5 : RM miu mnm mso mou mpl mar mex men mnn mon mde mbt mfo mfn) (h6 : rI b1 0 25 ∧ rI b2 0 3 ∧ rI b3 (-1) 59 ∧ rI b5 (-1) 59) (h7 : KnR tz tk tks tc tt mk mkf mot mox) (h8 : rI mit 0 1 ∧ rI mfm 0 2 ∧ rI msz 0 60 ∧ ∀ i, rg (mim i)) (h9 : ShR xi0 xf0 xz0 xl0 0 mit mfm msz mim ∧ ShR xi1 xf1 xz1 xl1 1 mit mfm msz mim ∧ ShR xi2 xf2 xz2 xl2 2 mit mfm msz mim ∧ ShR xi3 xf3 xz3 xl3 3 mit mfm msz mim) (h10 : fi = mfi ∧ 0 ≤ fi ∧ fi ≤ 5) : OPI ro (d + 12) 82 178 [vI 1] (heapC tb tz tk tks tc tt iu nm ou so pl nd pa ba de en sc rsz fp ss cu os a1 a2 a3 a4 a5 b1 b2 b3 b4 b5 le fi xi0 xf0 xz0 xl0 xi1 xf1 xz1 xl1 xi2 xf2 xz2 xl2 xi3 xf3 xz3 xl3) (heapM mtz mt mk mkf mot mox mfa mnd miu mnm mso mou mpl msc mar mex men mnn mon mde mbt mfo mfn mma mit mfm msz mim mmo mfi) := by
  obtain ⟨rfl, rfl⟩ := h1
  obtain ⟨s0, s1, s2, s3⟩ := id h9
  obtain ⟨⟨rfl, l2⟩, ⟨rfl, x2⟩, ⟨rfl, z2⟩, it, ir⟩ := id s1
  obtain ⟨m1, m2, m3, m4⟩ := id h8
  intro Q hQ
  obtain ⟨⟨-, hnd, -, -⟩, hS, -, -, hW, -⟩ := id h4
  have S1 := hS.1
  obtain ⟨r0, r1, r2, r3, r5⟩ := CRd_rg h4
  refine t_write_1 l2 x2 z2 S1 (fun e => ?_) (fun e => ?_)
  · refine hQ _ _ (fun Q2 hq => ?_)
    refine r_write (by unfold rg; omega) m1 m2 m3 h2 h3 h5 (fun e' => absurd (by omega) e') (fun _ _ => ?_) (fun _ e' => absurd e' (by omega))
    exact hq _ (by unfold rg; omega) (mkSR ⟨rfl, rfl⟩ h2 h3 h4 h5 h6 h7 h8 h9 ⟨rfl, by omega, by omega⟩)
  · refine hQ _ _ (fun Q2 hq => ?_)
    refine r_write (by unfold rg; omega) m1 m2 m3 h2 h3 h5 (fun e' => absurd (by omega) e') (fun _ e' => absurd e' (by omega)) (fun _ _ mfa' mnd' msc' miu' mnm' mso' mou' mpl' mar' mex' men' mnn' mon' mde' mbt' mfo' mfn' hM => ?_)
    have en : mnd' = nd := by rw [hM.1.2.1, ← hnd]
    have hB := hM.2.2.2.2.1
    have R5 := (MRw_RM (MRd_w hM)).2.2.2.2.1
    subst en
    have w2 : 0 ≤ (if mnd' < msz 1 then mnd' else msz 1) ∧ (if mnd' < msz 1 then mnd' else msz 1) ≤ 60 ∧ (if mnd' < msz 1 then mnd' else msz 1) ≤ mnd' := by split <;> omega
    exact hq _ (by unfold rg; omega) (mkSR ⟨rfl, rfl⟩ h2 h3 h4 (MRw_RM (MRd_w hM)) h6 h7 ⟨m1, m2, m3, rg_fbk m4 (fun q => rg_stZ (rg_i (R5 _)))⟩ ⟨L_writeN s0 (by omega) (by omega), L_write s1 (by omega) (fun k a b => by rw [(hW k a (by omega)).2.2, (hB k a (by omega)).1]) r3, L_writeN s2 (by omega) (by omega), L_writeN s3 (by omega) (by omega)⟩ h10)
set_option maxRecDepth 100000 in
set_option maxHeartbeats 4000000 in
theorem op_read_1 (h1 : tb = mt ∧ tz = mtz) (h2 : 0 ≤ tz ∧ tz ≤ 100) (h3 : rI tb 0 255) (h4 : CRd tb tz fp nd sc rsz iu nm so ou pl pa ba en a1 a2 a3 a4 a5) (h5 : RM miu mnm mso mou mpl mar mex men mnn mon mde mbt mfo mfn) (h6 : rI b1 0 25 ∧ rI b2 0 3 ∧ rI b3 (-1) 59 ∧ rI b5 (-1) 59) (h7 : KnR tz tk tks tc tt mk mkf mot mox) (h8 : rI mit 0 1 ∧ rI mfm 0 2 ∧ rI msz 0 60 ∧ ∀ i, rg (mim i)) (h9 : ShR xi0 xf0 xz0 xl0 0 mit mfm msz mim ∧ ShR xi1 xf1 xz1 xl1 1 mit mfm msz mim ∧ ShR xi2 xf2 xz2 xl2 2 mit mfm msz mim ∧ ShR xi3 xf3 xz3 xl3 3 mit mfm msz mim) (h10 : fi = mfi ∧ 0 ≤ fi ∧ fi ≤ 5) : OPI ro (d + 12) 61 109 [vI 1] (heapC tb tz tk tks tc tt iu nm ou so pl nd pa ba de en sc rsz fp ss cu os a1 a2 a3 a4 a5 b1 b2 b3 b4 b5 le fi xi0 xf0 xz0 xl0 xi1 xf1 xz1 xl1 xi2 xf2 xz2 xl2 xi3 xf3 xz3 xl3) (heapM mtz mt mk mkf mot mox mfa mnd miu mnm mso mou mpl msc mar mex men mnn mon mde mbt mfo mfn mma mit mfm msz mim mmo mfi) := by
  obtain ⟨rfl, rfl⟩ := h1
  obtain ⟨s0, s1, s2, s3⟩ := id h9
  obtain ⟨⟨rfl, l2⟩, ⟨rfl, x2⟩, ⟨rfl, z2⟩, it, ir⟩ := id s1
  obtain ⟨m1, m2, m3, m4⟩ := id h8
  intro Q hQ
  obtain ⟨r0, r1, r2, r3, r5⟩ := CRd_rg h4
  obtain ⟨g1, g2, g3⟩ := fr_in xi1 (msz 1 - 0).toNat 0
  have w2 : ∀ w : Int, w = (if 100 - tz < frN xi1 (msz 1 - 0).toNat 0 then 100 - tz else frN xi1 (msz 1 - 0).toNat 0) → 0 ≤ w ∧ tz + w ≤ 100 ∧ w ≤ 60 ∧ w ≤ frN xi1 (msz 1 - 0).toNat 0 := by
    intro w hw
    rw [hw]
    split <;> omega
  generalize hw : (if 100 - tz < frN xi1 (msz 1 - 0).toNat 0 then 100 - tz else frN xi1 (msz 1 - 0).toNat 0) = w at w2
  obtain ⟨w3, w4, w5, w6⟩ := w2 w rfl
  refine t_read_1 hw.symm l2 z2 ir h2 h3 r0 r1 r2 r3 r5 (fun e => ?_) (fun e e2 => ?_) (fun e e2 fp' nd' sc' rsz' iu' nm' so' ou' pl' pa' ba' de' en' ss' cu' os' a1' a2' a3' a4' a5' hC => ?_)
  · refine hQ _ _ (fun Q2 hq => ?_)
    refine r_read (by unfold rg; omega) it (fun _ => hw.symm) m1 m3 m4 h2 h3 (fun e' => absurd (by omega) e') (fun _ _ => ?_) (fun _ e' => absurd e' (by omega)) (fun _ e' => absurd e' (by omega))
    exact hq _ (by unfold rg; omega) (mkSR ⟨rfl, rfl⟩ h2 h3 h4 h5 h6 h7 h8 h9 ⟨rfl, by omega, by omega⟩)
  · refine hQ _ _ (fun Q2 hq => ?_)
    refine r_read (by unfold rg; omega) it (fun _ => hw.symm) m1 m3 m4 h2 h3 (fun e' => absurd (by omega) e') (fun _ e' => absurd e' (by omega)) (fun _ _ _ => ?_) (fun _ _ e' => absurd e' (by omega))
    exact hq _ (by unfold rg; omega) (mkSR ⟨rfl, rfl⟩ h2 h3 h4 h5 h6 h7 h8 h9 h10)
  · refine hQ _ _ (fun Q2 hq => ?_)
    refine r_read (by unfold rg; omega) it (fun _ => hw.symm) m1 m3 m4 h2 h3 (fun e' => absurd (by omega) e') (fun _ e' => absurd e' (by omega)) (fun _ _ e' => absurd e' (by omega)) (fun _ _ _ => ?_)
    exact hq _ (by unfold rg; omega) (mkSR ⟨rfl, rfl⟩ ⟨by omega, w4⟩ (rI_fb2 h3 (fun q a b => g3 _ (by omega) (by omega))) hC h5 h6 (KnR_0 h7) h8 h9 h10)
set_option maxRecDepth 100000 in
set_option maxHeartbeats 4000000 in
theorem op_lose_2 (h1 : tb = mt ∧ tz = mtz) (h2 : 0 ≤ tz ∧ tz ≤ 100) (h3 : rI tb 0 255) (h4 : CRd tb tz fp nd sc rsz iu nm so ou pl pa ba en a1 a2 a3 a4 a5) (h5 : RM miu mnm mso mou mpl mar mex men mnn mon mde mbt mfo mfn) (h6 : rI b1 0 25 ∧ rI b2 0 3 ∧ rI b3 (-1) 59 ∧ rI b5 (-1) 59) (h7 : KnR tz tk tks tc tt mk mkf mot mox) (h8 : rI mit 0 1 ∧ rI mfm 0 2 ∧ rI msz 0 60 ∧ ∀ i, rg (mim i)) (h9 : ShR xi0 xf0 xz0 xl0 0 mit mfm msz mim ∧ ShR xi1 xf1 xz1 xl1 1 mit mfm msz mim ∧ ShR xi2 xf2 xz2 xl2 2 mit mfm msz mim ∧ ShR xi3 xf3 xz3 xl3 3 mit mfm msz mim) (h10 : fi = mfi ∧ 0 ≤ fi ∧ fi ≤ 5) : OPI ro (d + 12) 78 172 [vI 2] (heapC tb tz tk tks tc tt iu nm ou so pl nd pa ba de en sc rsz fp ss cu os a1 a2 a3 a4 a5 b1 b2 b3 b4 b5 le fi xi0 xf0 xz0 xl0 xi1 xf1 xz1 xl1 xi2 xf2 xz2 xl2 xi3 xf3 xz3 xl3) (heapM mtz mt mk mkf mot mox mfa mnd miu mnm mso mou mpl msc mar mex men mnn mon mde mbt mfo mfn mma mit mfm msz mim mmo mfi) := by
  obtain ⟨rfl, rfl⟩ := h1
  obtain ⟨s0, s1, s2, s3⟩ := id h9
  obtain ⟨⟨rfl, l2⟩, ⟨rfl, x2⟩, ⟨rfl, z2⟩, it, ir⟩ := id s2
  obtain ⟨m1, m2, m3, m4⟩ := id h8
  intro Q hQ
  refine t_lose_2 l2 (fun e => ?_) (fun e => ?_)
  · refine hQ _ _ (fun Q2 hq => ?_)
    refine r_lose (by unfold rg; omega) m1 (fun e' => absurd (by omega) e') (fun _ _ => ?_) (fun _ e' => absurd e' (by omega))
    exact hq _ (by unfold rg; omega) (mkSR ⟨rfl, rfl⟩ h2 h3 h4 h5 h6 h7 h8 h9 ⟨rfl, by omega, by omega⟩)
  · refine hQ _ _ (fun Q2 hq => ?_)
    refine r_lose (by unfold rg; omega) m1 (fun e' => absurd (by omega) e') (fun _ e' => absurd e' (by omega)) (fun _ _ => ?_)
    exact hq _ (by unfold rg; omega) (mkSR ⟨rfl, rfl⟩ h2 h3 h4 h5 h6 h7 ⟨rI_up m1 (by omega) (by omega), m2, m3, m4⟩ ⟨L_loseN s0 (by omega), L_loseN s1 (by omega), L_lose s2, L_loseN s3 (by omega)⟩ h10)
set_option maxRecDepth 100000 in
set_option maxHeartbeats 4000000 in
theorem op_sheet_2 {form n : Int} (rform : rg form) (rn : rg n) (h1 : tb = mt ∧ tz = mtz) (h2 : 0 ≤ tz ∧ tz ≤ 100) (h3 : rI tb 0 255) (h4 : CRd tb tz fp nd sc rsz iu nm so ou pl pa ba en a1 a2 a3 a4 a5) (h5 : RM miu mnm mso mou mpl mar mex men mnn mon mde mbt mfo mfn) (h6 : rI b1 0 25 ∧ rI b2 0 3 ∧ rI b3 (-1) 59 ∧ rI b5 (-1) 59) (h7 : KnR tz tk tks tc tt mk mkf mot mox) (h8 : rI mit 0 1 ∧ rI mfm 0 2 ∧ rI msz 0 60 ∧ ∀ i, rg (mim i)) (h9 : ShR xi0 xf0 xz0 xl0 0 mit mfm msz mim ∧ ShR xi1 xf1 xz1 xl1 1 mit mfm msz mim ∧ ShR xi2 xf2 xz2 xl2 2 mit mfm msz mim ∧ ShR xi3 xf3 xz3 xl3 3 mit mfm msz mim) (h10 : fi = mfi ∧ 0 ≤ fi ∧ fi ≤ 5) : OPI ro (d + 12) 77 171 [vI 2, vI form, vI n] (heapC tb tz tk tks tc tt iu nm ou so pl nd pa ba de en sc rsz fp ss cu os a1 a2 a3 a4 a5 b1 b2 b3 b4 b5 le fi xi0 xf0 xz0 xl0 xi1 xf1 xz1 xl1 xi2 xf2 xz2 xl2 xi3 xf3 xz3 xl3) (heapM mtz mt mk mkf mot mox mfa mnd miu mnm mso mou mpl msc mar mex men mnn mon mde mbt mfo mfn mma mit mfm msz mim mmo mfi) := by
  obtain ⟨rfl, rfl⟩ := h1
  obtain ⟨s0, s1, s2, s3⟩ := id h9
  obtain ⟨⟨rfl, l2⟩, ⟨rfl, x2⟩, ⟨rfl, z2⟩, it, ir⟩ := id s2
  obtain ⟨m1, m2, m3, m4⟩ := id h8
  intro Q hQ
  refine t_sheet_2 rform rn (fun e => ?_) (fun e e2 => ?_) (fun e e2 => ?_)
  · refine hQ _ _ (fun Q2 hq => ?_)
    refine r_sheet (by unfold rg; omega) rform rn (fun _ => ?_) (fun _ e' => absurd e' e) (fun _ e' => absurd e' e)
    exact hq _ (by unfold rg; omega) (mkSR ⟨rfl, rfl⟩ h2 h3 h4 h5 h6 h7 h8 h9 h10)
  · refine hQ _ _ (fun Q2 hq => ?_)
    refine r_sheet (by unfold rg; omega) rform rn (fun e' => absurd ⟨by omega, e⟩ e') (fun _ _ _ => ?_) (fun _ _ e' => absurd e' (by omega))
    exact hq _ (by unfold rg; omega) (mkSR ⟨rfl, rfl⟩ h2 h3 h4 h5 h6 h7 h8 h9 ⟨rfl, by omega, by omega⟩)
  · refine hQ _ _ (fun Q2 hq => ?_)
    refine r_sheet (by unfold rg; omega) rform rn (fun e' => absurd ⟨by omega, e⟩ e') (fun _ _ e' => absurd e' (by omega)) (fun _ _ _ => ?_)
    refine hq _ rn (mkSR ⟨rfl, rfl⟩ h2 h3 h4 h5 h6 h7 ⟨rI_up m1 (by omega) (by omega), rI_up m2 (by omega) (by omega), rI_up m3 (by omega) (by omega), fun i => ?_⟩ ⟨L_newN s0 (by omega), L_newN s1 (by omega), L_new s2 e.1 ⟨e2, e.2⟩, L_newN s3 (by omega)⟩ h10)
    unfold fz
    split
    · unfold rg
      omega
    · exact m4 i
set_option maxRecDepth 100000 in
set_option maxHeartbeats 4000000 in
theorem op_put_2 {form i v : Int} (rform : rg form) (ri : rg i) (rv : rg v) (h1 : tb = mt ∧ tz = mtz) (h2 : 0 ≤ tz ∧ tz ≤ 100) (h3 : rI tb 0 255) (h4 : CRd tb tz fp nd sc rsz iu nm so ou pl pa ba en a1 a2 a3 a4 a5) (h5 : RM miu mnm mso mou mpl mar mex men mnn mon mde mbt mfo mfn) (h6 : rI b1 0 25 ∧ rI b2 0 3 ∧ rI b3 (-1) 59 ∧ rI b5 (-1) 59) (h7 : KnR tz tk tks tc tt mk mkf mot mox) (h8 : rI mit 0 1 ∧ rI mfm 0 2 ∧ rI msz 0 60 ∧ ∀ i, rg (mim i)) (h9 : ShR xi0 xf0 xz0 xl0 0 mit mfm msz mim ∧ ShR xi1 xf1 xz1 xl1 1 mit mfm msz mim ∧ ShR xi2 xf2 xz2 xl2 2 mit mfm msz mim ∧ ShR xi3 xf3 xz3 xl3 3 mit mfm msz mim) (h10 : fi = mfi ∧ 0 ≤ fi ∧ fi ≤ 5) : OPI ro (d + 12) 79 175 [vI 2, vI form, vI i, vI v] (heapC tb tz tk tks tc tt iu nm ou so pl nd pa ba de en sc rsz fp ss cu os a1 a2 a3 a4 a5 b1 b2 b3 b4 b5 le fi xi0 xf0 xz0 xl0 xi1 xf1 xz1 xl1 xi2 xf2 xz2 xl2 xi3 xf3 xz3 xl3) (heapM mtz mt mk mkf mot mox mfa mnd miu mnm mso mou mpl msc mar mex men mnn mon mde mbt mfo mfn mma mit mfm msz mim mmo mfi) := by
  obtain ⟨rfl, rfl⟩ := h1
  obtain ⟨s0, s1, s2, s3⟩ := id h9
  obtain ⟨⟨rfl, l2⟩, ⟨rfl, x2⟩, ⟨rfl, z2⟩, it, ir⟩ := id s2
  obtain ⟨m1, m2, m3, m4⟩ := id h8
  intro Q hQ
  have lr := aLk_rg (xl := 1 - mit 2) (xf := mfm 2) (xz := msz 2) (form := form) (i := i)
  refine t_put_2 rform ri l2 x2 z2 (fun e => ?_) (fun e e2 => ?_) (fun e e2 => ?_)
  · refine hQ _ _ (fun Q2 hq => ?_)
    refine r_put (by unfold rg; omega) rform ri m1 m2 m3 (fun _ => ?_) (fun _ e' => absurd e' e) (fun _ e' => absurd e' e)
    exact hq _ (by unfold rg; omega) (mkSR ⟨rfl, rfl⟩ h2 h3 h4 h5 h6 h7 h8 h9 h10)
  · refine hQ _ _ (fun Q2 hq => ?_)
    refine r_put (by unfold rg; omega) rform ri m1 m2 m3 (fun e' => absurd ⟨by omega, e⟩ e') (fun _ _ _ => ?_) (fun _ _ e' => absurd e' e2)
    exact hq _ (by unfold rg; omega) (mkSR ⟨rfl, rfl⟩ h2 h3 h4 h5 h6 h7 h8 h9 ⟨rfl, by omega, by omega⟩)
  · have z := aLk_0 e2
    refine hQ _ _ (fun Q2 hq => ?_)
    refine r_put (by unfold rg; omega) rform ri m1 m2 m3 (fun e' => absurd ⟨by omega, e⟩ e') (fun _ _ e' => absurd e2 e') (fun _ _ _ => ?_)
    refine hq _ (by unfold rg; omega) (mkSR ⟨rfl, rfl⟩ h2 h3 h4 h5 h6 h7 ⟨m1, m2, m3, fun k => ?_⟩ ⟨L_putN s0 (by omega) (by omega), L_putN s1 (by omega) (by omega), L_put s2 rv (by omega), L_putN s3 (by omega) (by omega)⟩ h10)
    unfold upZ
    split
    · exact rg_stZ rv
    · exact m4 k
set_option maxRecDepth 100000 in
set_option maxHeartbeats 4000000 in
theorem op_get_2 {form i : Int} (rform : rg form) (ri : rg i) (h1 : tb = mt ∧ tz = mtz) (h2 : 0 ≤ tz ∧ tz ≤ 100) (h3 : rI tb 0 255) (h4 : CRd tb tz fp nd sc rsz iu nm so ou pl pa ba en a1 a2 a3 a4 a5) (h5 : RM miu mnm mso mou mpl mar mex men mnn mon mde mbt mfo mfn) (h6 : rI b1 0 25 ∧ rI b2 0 3 ∧ rI b3 (-1) 59 ∧ rI b5 (-1) 59) (h7 : KnR tz tk tks tc tt mk mkf mot mox) (h8 : rI mit 0 1 ∧ rI mfm 0 2 ∧ rI msz 0 60 ∧ ∀ i, rg (mim i)) (h9 : ShR xi0 xf0 xz0 xl0 0 mit mfm msz mim ∧ ShR xi1 xf1 xz1 xl1 1 mit mfm msz mim ∧ ShR xi2 xf2 xz2 xl2 2 mit mfm msz mim ∧ ShR xi3 xf3 xz3 xl3 3 mit mfm msz mim) (h10 : fi = mfi ∧ 0 ≤ fi ∧ fi ≤ 5) : OPI ro (d + 12) 80 176 [vI 2, vI form, vI i] (heapC tb tz tk tks tc tt iu nm ou so pl nd pa ba de en sc rsz fp ss cu os a1 a2 a3 a4 a5 b1 b2 b3 b4 b5 le fi xi0 xf0 xz0 xl0 xi1 xf1 xz1 xl1 xi2 xf2 xz2 xl2 xi3 xf3 xz3 xl3) (heapM mtz mt mk mkf mot mox mfa mnd miu mnm mso mou mpl msc mar mex men mnn mon mde mbt mfo mfn mma mit mfm msz mim mmo mfi) := by
  obtain ⟨rfl, rfl⟩ := h1
  obtain ⟨s0, s1, s2, s3⟩ := id h9
  obtain ⟨⟨rfl, l2⟩, ⟨rfl, x2⟩, ⟨rfl, z2⟩, it, ir⟩ := id s2
  obtain ⟨m1, m2, m3, m4⟩ := id h8
  intro Q hQ
  have lr := aLk_rg (xl := 1 - mit 2) (xf := mfm 2) (xz := msz 2) (form := form) (i := i)
  refine t_get_2 rform ri l2 x2 z2 (fun e => ?_) (fun e e2 => ?_) (fun e e2 => ?_)
  · refine hQ _ _ (fun Q2 hq => ?_)
    refine r_get (by unfold rg; omega) rform ri m1 m2 m3 (fun _ => ?_) (fun _ e' => absurd e' e) (fun _ e' => absurd e' e)
    exact hq _ (by unfold rg; omega) (mkSR ⟨rfl, rfl⟩ h2 h3 h4 h5 h6 h7 h8 h9 h10)
  · refine hQ _ _ (fun Q2 hq => ?_)
    refine r_get (by unfold rg; omega) rform ri m1 m2 m3 (fun e' => absurd ⟨by omega, e⟩ e') (fun _ _ _ => ?_) (fun _ _ e' => absurd e' e2)
    exact hq _ (by unfold rg; omega) (mkSR ⟨rfl, rfl⟩ h2 h3 h4 h5 h6 h7 h8 h9 ⟨rfl, by omega, by omega⟩)
  · have z := aLk_0 e2
    refine hQ _ _ (fun Q2 hq => ?_)
    refine r_get (by unfold rg; omega) rform ri m1 m2 m3 (fun e' => absurd ⟨by omega, e⟩ e') (fun _ _ e' => absurd e2 e') (fun _ _ _ => ?_)
    rw [← it i (by omega) (by omega)]
    exact hq _ (ir i) (mkSR ⟨rfl, rfl⟩ h2 h3 h4 h5 h6 h7 h8 h9 h10)
set_option maxRecDepth 100000 in
set_option maxHeartbeats 4000000 in
theorem op_write_2 (h1 : tb = mt ∧ tz = mtz) (h2 : 0 ≤ tz ∧ tz ≤ 100) (h3 : rI tb 0 255) (h4 : CRd tb tz fp nd sc rsz iu nm so ou pl pa ba en a1 a2 a3 a4 a5) (h5 : RM miu mnm mso mou mpl mar mex men mnn mon mde mbt mfo mfn) (h6 : rI b1 0 25 ∧ rI b2 0 3 ∧ rI b3 (-1) 59 ∧ rI b5 (-1) 59) (h7 : KnR tz tk tks tc tt mk mkf mot mox) (h8 : rI mit 0 1 ∧ rI mfm 0 2 ∧ rI msz 0 60 ∧ ∀ i, rg (mim i)) (h9 : ShR xi0 xf0 xz0 xl0 0 mit mfm msz mim ∧ ShR xi1 xf1 xz1 xl1 1 mit mfm msz mim ∧ ShR xi2 xf2 xz2 xl2 2 mit mfm msz mim ∧ ShR xi3 xf3 xz3 xl3 3 mit mfm msz mim) (h10 : fi = mfi ∧ 0 ≤ fi ∧ fi ≤ 5) : OPI ro (d + 12) 82 178 [vI 2] (heapC tb tz tk tks tc tt iu nm ou so pl nd pa ba de en sc rsz fp ss cu os a1 a2 a3 a4 a5 b1 b2 b3 b4 b5 le fi xi0 xf0 xz0 xl0 xi1 xf1 xz1 xl1 xi2 xf2 xz2 xl2 xi3 xf3 xz3 xl3) (heapM mtz mt mk mkf mot mox mfa mnd miu mnm mso mou mpl msc mar mex men mnn mon mde mbt mfo mfn mma mit mfm msz mim mmo mfi) := by
  obtain ⟨rfl, rfl⟩ := h1
  obtain ⟨s0, s1, s2, s3⟩ := id h9
  obtain ⟨⟨rfl, l2⟩, ⟨rfl, x2⟩, ⟨rfl, z2⟩, it, ir⟩ := id s2
  obtain ⟨m1, m2, m3, m4⟩ := id h8
  intro Q hQ
  obtain ⟨⟨-, hnd, -, -⟩, hS, -, -, hW, -⟩ := id h4
  have S1 := hS.1
  obtain ⟨r0, r1, r2, r3, r5⟩ := CRd_rg h4
  refine t_write_2 l2 x2 z2 S1 (fun e => ?_) (fun e => ?_)
  · refine hQ _ _ (fun Q2 hq => ?_)
    refine r_write (by unfold rg; omega) m1 m2 m3 h2 h3 h5 (fun e' => absurd (by omega) e') (fun _ _ => ?_) (fun _ e' => absurd e' (by omega))
    exact hq _ (by unfold rg; omega) (mkSR ⟨rfl, rfl⟩ h2 h3 h4 h5 h6 h7 h8 h9 ⟨rfl, by omega, by omega⟩)
  · refine hQ _ _ (fun Q2 hq => ?_)
    refine r_write (by unfold rg; omega) m1 m2 m3 h2 h3 h5 (fun e' => absurd (by omega) e') (fun _ e' => absurd e' (by omega)) (fun _ _ mfa' mnd' msc' miu' mnm' mso' mou' mpl' mar' mex' men' mnn' mon' mde' mbt' mfo' mfn' hM => ?_)
    have en : mnd' = nd := by rw [hM.1.2.1, ← hnd]
    have hB := hM.2.2.2.2.1
    have R5 := (MRw_RM (MRd_w hM)).2.2.2.2.1
    subst en
    have w2 : 0 ≤ (if mnd' < msz 2 then mnd' else msz 2) ∧ (if mnd' < msz 2 then mnd' else msz 2) ≤ 60 ∧ (if mnd' < msz 2 then mnd' else msz 2) ≤ mnd' := by split <;> omega
    exact hq _ (by unfold rg; omega) (mkSR ⟨rfl, rfl⟩ h2 h3 h4 (MRw_RM (MRd_w hM)) h6 h7 ⟨m1, m2, m3, rg_fbk m4 (fun q => rg_stZ (rg_i (R5 _)))⟩ ⟨L_writeN s0 (by omega) (by omega), L_writeN s1 (by omega) (by omega), L_write s2 (by omega) (fun k a b => by rw [(hW k a (by omega)).2.2, (hB k a (by omega)).1]) r3, L_writeN s3 (by omega) (by omega)⟩ h10)
set_option maxRecDepth 100000 in
set_option maxHeartbeats 4000000 in
theorem op_read_2 (h1 : tb = mt ∧ tz = mtz) (h2 : 0 ≤ tz ∧ tz ≤ 100) (h3 : rI tb 0 255) (h4 : CRd tb tz fp nd sc rsz iu nm so ou pl pa ba en a1 a2 a3 a4 a5) (h5 : RM miu mnm mso mou mpl mar mex men mnn mon mde mbt mfo mfn) (h6 : rI b1 0 25 ∧ rI b2 0 3 ∧ rI b3 (-1) 59 ∧ rI b5 (-1) 59) (h7 : KnR tz tk tks tc tt mk mkf mot mox) (h8 : rI mit 0 1 ∧ rI mfm 0 2 ∧ rI msz 0 60 ∧ ∀ i, rg (mim i)) (h9 : ShR xi0 xf0 xz0 xl0 0 mit mfm msz mim ∧ ShR xi1 xf1 xz1 xl1 1 mit mfm msz mim ∧ ShR xi2 xf2 xz2 xl2 2 mit mfm msz mim ∧ ShR xi3 xf3 xz3 xl3 3 mit mfm msz mim) (h10 : fi = mfi ∧ 0 ≤ fi ∧ fi ≤ 5) : OPI ro (d + 12) 61 109 [vI 2] (heapC tb tz tk tks tc tt iu nm ou so pl nd pa ba de en sc rsz fp ss cu os a1 a2 a3 a4 a5 b1 b2 b3 b4 b5 le fi xi0 xf0 xz0 xl0 xi1 xf1 xz1 xl1 xi2 xf2 xz2 xl2 xi3 xf3 xz3 xl3) (heapM mtz mt mk mkf mot mox mfa mnd miu mnm mso mou mpl msc mar mex men mnn mon mde mbt mfo mfn mma mit mfm msz mim mmo mfi) := by
  obtain ⟨rfl, rfl⟩ := h1
  obtain ⟨s0, s1, s2, s3⟩ := id h9
  obtain ⟨⟨rfl, l2⟩, ⟨rfl, x2⟩, ⟨rfl, z2⟩, it, ir⟩ := id s2
  obtain ⟨m1, m2, m3, m4⟩ := id h8
  intro Q hQ
  obtain ⟨r0, r1, r2, r3, r5⟩ := CRd_rg h4
  obtain ⟨g1, g2, g3⟩ := fr_in xi2 (msz 2 - 0).toNat 0
  have w2 : ∀ w : Int, w = (if 100 - tz < frN xi2 (msz 2 - 0).toNat 0 then 100 - tz else frN xi2 (msz 2 - 0).toNat 0) → 0 ≤ w ∧ tz + w ≤ 100 ∧ w ≤ 60 ∧ w ≤ frN xi2 (msz 2 - 0).toNat 0 := by
    intro w hw
    rw [hw]
    split <;> omega
  generalize hw : (if 100 - tz < frN xi2 (msz 2 - 0).toNat 0 then 100 - tz else frN xi2 (msz 2 - 0).toNat 0) = w at w2
  obtain ⟨w3, w4, w5, w6⟩ := w2 w rfl
  refine t_read_2 hw.symm l2 z2 ir h2 h3 r0 r1 r2 r3 r5 (fun e => ?_) (fun e e2 => ?_) (fun e e2 fp' nd' sc' rsz' iu' nm' so' ou' pl' pa' ba' de' en' ss' cu' os' a1' a2' a3' a4' a5' hC => ?_)
  · refine hQ _ _ (fun Q2 hq => ?_)
    refine r_read (by unfold rg; omega) it (fun _ => hw.symm) m1 m3 m4 h2 h3 (fun e' => absurd (by omega) e') (fun _ _ => ?_) (fun _ e' => absurd e' (by omega)) (fun _ e' => absurd e' (by omega))
    exact hq _ (by unfold rg; omega) (mkSR ⟨rfl, rfl⟩ h2 h3 h4 h5 h6 h7 h8 h9 ⟨rfl, by omega, by omega⟩)
  · refine hQ _ _ (fun Q2 hq => ?_)
    refine r_read (by unfold rg; omega) it (fun _ => hw.symm) m1 m3 m4 h2 h3 (fun e' => absurd (by omega) e') (fun _ e' => absurd e' (by omega)) (fun _ _ _ => ?_) (fun _ _ e' => absurd e' (by omega))
    exact hq _ (by unfold rg; omega) (mkSR ⟨rfl, rfl⟩ h2 h3 h4 h5 h6 h7 h8 h9 h10)
  · refine hQ _ _ (fun Q2 hq => ?_)
    refine r_read (by unfold rg; omega) it (fun _ => hw.symm) m1 m3 m4 h2 h3 (fun e' => absurd (by omega) e') (fun _ e' => absurd e' (by omega)) (fun _ _ e' => absurd e' (by omega)) (fun _ _ _ => ?_)
    exact hq _ (by unfold rg; omega) (mkSR ⟨rfl, rfl⟩ ⟨by omega, w4⟩ (rI_fb2 h3 (fun q a b => g3 _ (by omega) (by omega))) hC h5 h6 (KnR_0 h7) h8 h9 h10)
set_option maxRecDepth 100000 in
set_option maxHeartbeats 4000000 in
theorem op_lose_3 (h1 : tb = mt ∧ tz = mtz) (h2 : 0 ≤ tz ∧ tz ≤ 100) (h3 : rI tb 0 255) (h4 : CRd tb tz fp nd sc rsz iu nm so ou pl pa ba en a1 a2 a3 a4 a5) (h5 : RM miu mnm mso mou mpl mar mex men mnn mon mde mbt mfo mfn) (h6 : rI b1 0 25 ∧ rI b2 0 3 ∧ rI b3 (-1) 59 ∧ rI b5 (-1) 59) (h7 : KnR tz tk tks tc tt mk mkf mot mox) (h8 : rI mit 0 1 ∧ rI mfm 0 2 ∧ rI msz 0 60 ∧ ∀ i, rg (mim i)) (h9 : ShR xi0 xf0 xz0 xl0 0 mit mfm msz mim ∧ ShR xi1 xf1 xz1 xl1 1 mit mfm msz mim ∧ ShR xi2 xf2 xz2 xl2 2 mit mfm msz mim ∧ ShR xi3 xf3 xz3 xl3 3 mit mfm msz mim) (h10 : fi = mfi ∧ 0 ≤ fi ∧ fi ≤ 5) : OPI ro (d + 12) 78 172 [vI 3] (heapC tb tz tk tks tc tt iu nm ou so pl nd pa ba de en sc rsz fp ss cu os a1 a2 a3 a4 a5 b1 b2 b3 b4 b5 le fi xi0 xf0 xz0 xl0 xi1 xf1 xz1 xl1 xi2 xf2 xz2 xl2 xi3 xf3 xz3 xl3) (heapM mtz mt mk mkf mot mox mfa mnd miu mnm mso mou mpl msc mar mex men mnn mon mde mbt mfo mfn mma mit mfm msz mim mmo mfi) := by
  obtain ⟨rfl, rfl⟩ := h1
  obtain ⟨s0, s1, s2, s3⟩ := id h9
  obtain ⟨⟨rfl, l2⟩, ⟨rfl, x2⟩, ⟨rfl, z2⟩, it, ir⟩ := id s3
  obtain ⟨m1, m2, m3, m4⟩ := id h8
  intro Q hQ
  refine t_lose_3 l2 (fun e => ?_) (fun e => ?_)
  · refine hQ _ _ (fun Q2 hq => ?_)
    refine r_lose (by unfold rg; omega) m1 (fun e' => absurd (by omega) e') (fun _ _ => ?_) (fun _ e' => absurd e' (by omega))
    exact hq _ (by unfold rg; omega) (mkSR ⟨rfl, rfl⟩ h2 h3 h4 h5 h6 h7 h8 h9 ⟨rfl, by omega, by omega⟩)
  · refine hQ _ _ (fun Q2 hq => ?_)
    refine r_lose (by unfold rg; omega) m1 (fun e' => absurd (by omega) e') (fun _ e' => absurd e' (by omega)) (fun _ _ => ?_)
    exact hq _ (by unfold rg; omega) (mkSR ⟨rfl, rfl⟩ h2 h3 h4 h5 h6 h7 ⟨rI_up m1 (by omega) (by omega), m2, m3, m4⟩ ⟨L_loseN s0 (by omega), L_loseN s1 (by omega), L_loseN s2 (by omega), L_lose s3⟩ h10)
set_option maxRecDepth 100000 in
set_option maxHeartbeats 4000000 in
theorem op_sheet_3 {form n : Int} (rform : rg form) (rn : rg n) (h1 : tb = mt ∧ tz = mtz) (h2 : 0 ≤ tz ∧ tz ≤ 100) (h3 : rI tb 0 255) (h4 : CRd tb tz fp nd sc rsz iu nm so ou pl pa ba en a1 a2 a3 a4 a5) (h5 : RM miu mnm mso mou mpl mar mex men mnn mon mde mbt mfo mfn) (h6 : rI b1 0 25 ∧ rI b2 0 3 ∧ rI b3 (-1) 59 ∧ rI b5 (-1) 59) (h7 : KnR tz tk tks tc tt mk mkf mot mox) (h8 : rI mit 0 1 ∧ rI mfm 0 2 ∧ rI msz 0 60 ∧ ∀ i, rg (mim i)) (h9 : ShR xi0 xf0 xz0 xl0 0 mit mfm msz mim ∧ ShR xi1 xf1 xz1 xl1 1 mit mfm msz mim ∧ ShR xi2 xf2 xz2 xl2 2 mit mfm msz mim ∧ ShR xi3 xf3 xz3 xl3 3 mit mfm msz mim) (h10 : fi = mfi ∧ 0 ≤ fi ∧ fi ≤ 5) : OPI ro (d + 12) 77 171 [vI 3, vI form, vI n] (heapC tb tz tk tks tc tt iu nm ou so pl nd pa ba de en sc rsz fp ss cu os a1 a2 a3 a4 a5 b1 b2 b3 b4 b5 le fi xi0 xf0 xz0 xl0 xi1 xf1 xz1 xl1 xi2 xf2 xz2 xl2 xi3 xf3 xz3 xl3) (heapM mtz mt mk mkf mot mox mfa mnd miu mnm mso mou mpl msc mar mex men mnn mon mde mbt mfo mfn mma mit mfm msz mim mmo mfi) := by
  obtain ⟨rfl, rfl⟩ := h1
  obtain ⟨s0, s1, s2, s3⟩ := id h9
  obtain ⟨⟨rfl, l2⟩, ⟨rfl, x2⟩, ⟨rfl, z2⟩, it, ir⟩ := id s3
  obtain ⟨m1, m2, m3, m4⟩ := id h8
  intro Q hQ
  refine t_sheet_3 rform rn (fun e => ?_) (fun e e2 => ?_) (fun e e2 => ?_)
  · refine hQ _ _ (fun Q2 hq => ?_)
    refine r_sheet (by unfold rg; omega) rform rn (fun _ => ?_) (fun _ e' => absurd e' e) (fun _ e' => absurd e' e)
    exact hq _ (by unfold rg; omega) (mkSR ⟨rfl, rfl⟩ h2 h3 h4 h5 h6 h7 h8 h9 h10)
  · refine hQ _ _ (fun Q2 hq => ?_)
    refine r_sheet (by unfold rg; omega) rform rn (fun e' => absurd ⟨by omega, e⟩ e') (fun _ _ _ => ?_) (fun _ _ e' => absurd e' (by omega))
    exact hq _ (by unfold rg; omega) (mkSR ⟨rfl, rfl⟩ h2 h3 h4 h5 h6 h7 h8 h9 ⟨rfl, by omega, by omega⟩)
  · refine hQ _ _ (fun Q2 hq => ?_)
    refine r_sheet (by unfold rg; omega) rform rn (fun e' => absurd ⟨by omega, e⟩ e') (fun _ _ e' => absurd e' (by omega)) (fun _ _ _ => ?_)
    refine hq _ rn (mkSR ⟨rfl, rfl⟩ h2 h3 h4 h5 h6 h7 ⟨rI_up m1 (by omega) (by omega), rI_up m2 (by omega) (by omega), rI_up m3 (by omega) (by omega), fun i => ?_⟩ ⟨L_newN s0 (by omega), L_newN s1 (by omega), L_newN s2 (by omega), L_new s3 e.1 ⟨e2, e.2⟩⟩ h10)
    unfold fz
    split
    · unfold rg
      omega
    · exact m4 i
set_option maxRecDepth 100000 in
set_option maxHeartbeats 4000000 in
theorem op_put_3 {form i v : Int} (rform : rg form) (ri : rg i) (rv : rg v) (h1 : tb = mt ∧ tz = mtz) (h2 : 0 ≤ tz ∧ tz ≤ 100) (h3 : rI tb 0 255) (h4 : CRd tb tz fp nd sc rsz iu nm so ou pl pa ba en a1 a2 a3 a4 a5) (h5 : RM miu mnm mso mou mpl mar mex men mnn mon mde mbt mfo mfn) (h6 : rI b1 0 25 ∧ rI b2 0 3 ∧ rI b3 (-1) 59 ∧ rI b5 (-1) 59) (h7 : KnR tz tk tks tc tt mk mkf mot mox) (h8 : rI mit 0 1 ∧ rI mfm 0 2 ∧ rI msz 0 60 ∧ ∀ i, rg (mim i)) (h9 : ShR xi0 xf0 xz0 xl0 0 mit mfm msz mim ∧ ShR xi1 xf1 xz1 xl1 1 mit mfm msz mim ∧ ShR xi2 xf2 xz2 xl2 2 mit mfm msz mim ∧ ShR xi3 xf3 xz3 xl3 3 mit mfm msz mim) (h10 : fi = mfi ∧ 0 ≤ fi ∧ fi ≤ 5) : OPI ro (d + 12) 79 175 [vI 3, vI form, vI i, vI v] (heapC tb tz tk tks tc tt iu nm ou so pl nd pa ba de en sc rsz fp ss cu os a1 a2 a3 a4 a5 b1 b2 b3 b4 b5 le fi xi0 xf0 xz0 xl0 xi1 xf1 xz1 xl1 xi2 xf2 xz2 xl2 xi3 xf3 xz3 xl3) (heapM mtz mt mk mkf mot mox mfa mnd miu mnm mso mou mpl msc mar mex men mnn mon mde mbt mfo mfn mma mit mfm msz mim mmo mfi) := by
  obtain ⟨rfl, rfl⟩ := h1
  obtain ⟨s0, s1, s2, s3⟩ := id h9
  obtain ⟨⟨rfl, l2⟩, ⟨rfl, x2⟩, ⟨rfl, z2⟩, it, ir⟩ := id s3
  obtain ⟨m1, m2, m3, m4⟩ := id h8
  intro Q hQ
  have lr := aLk_rg (xl := 1 - mit 3) (xf := mfm 3) (xz := msz 3) (form := form) (i := i)
  refine t_put_3 rform ri l2 x2 z2 (fun e => ?_) (fun e e2 => ?_) (fun e e2 => ?_)
  · refine hQ _ _ (fun Q2 hq => ?_)
    refine r_put (by unfold rg; omega) rform ri m1 m2 m3 (fun _ => ?_) (fun _ e' => absurd e' e) (fun _ e' => absurd e' e)
    exact hq _ (by unfold rg; omega) (mkSR ⟨rfl, rfl⟩ h2 h3 h4 h5 h6 h7 h8 h9 h10)
  · refine hQ _ _ (fun Q2 hq => ?_)
    refine r_put (by unfold rg; omega) rform ri m1 m2 m3 (fun e' => absurd ⟨by omega, e⟩ e') (fun _ _ _ => ?_) (fun _ _ e' => absurd e' e2)
    exact hq _ (by unfold rg; omega) (mkSR ⟨rfl, rfl⟩ h2 h3 h4 h5 h6 h7 h8 h9 ⟨rfl, by omega, by omega⟩)
  · have z := aLk_0 e2
    refine hQ _ _ (fun Q2 hq => ?_)
    refine r_put (by unfold rg; omega) rform ri m1 m2 m3 (fun e' => absurd ⟨by omega, e⟩ e') (fun _ _ e' => absurd e2 e') (fun _ _ _ => ?_)
    refine hq _ (by unfold rg; omega) (mkSR ⟨rfl, rfl⟩ h2 h3 h4 h5 h6 h7 ⟨m1, m2, m3, fun k => ?_⟩ ⟨L_putN s0 (by omega) (by omega), L_putN s1 (by omega) (by omega), L_putN s2 (by omega) (by omega), L_put s3 rv (by omega)⟩ h10)
    unfold upZ
    split
    · exact rg_stZ rv
    · exact m4 k
set_option maxRecDepth 100000 in
set_option maxHeartbeats 4000000 in
theorem op_get_3 {form i : Int} (rform : rg form) (ri : rg i) (h1 : tb = mt ∧ tz = mtz) (h2 : 0 ≤ tz ∧ tz ≤ 100) (h3 : rI tb 0 255) (h4 : CRd tb tz fp nd sc rsz iu nm so ou pl pa ba en a1 a2 a3 a4 a5) (h5 : RM miu mnm mso mou mpl mar mex men mnn mon mde mbt mfo mfn) (h6 : rI b1 0 25 ∧ rI b2 0 3 ∧ rI b3 (-1) 59 ∧ rI b5 (-1) 59) (h7 : KnR tz tk tks tc tt mk mkf mot mox) (h8 : rI mit 0 1 ∧ rI mfm 0 2 ∧ rI msz 0 60 ∧ ∀ i, rg (mim i)) (h9 : ShR xi0 xf0 xz0 xl0 0 mit mfm msz mim ∧ ShR xi1 xf1 xz1 xl1 1 mit mfm msz mim ∧ ShR xi2 xf2 xz2 xl2 2 mit mfm msz mim ∧ ShR xi3 xf3 xz3 xl3 3 mit mfm msz mim) (h10 : fi = mfi ∧ 0 ≤ fi ∧ fi ≤ 5) : OPI ro (d + 12) 80 176 [vI 3, vI form, vI i] (heapC tb tz tk tks tc tt iu nm ou so pl nd pa ba de en sc rsz fp ss cu os a1 a2 a3 a4 a5 b1 b2 b3 b4 b5 le fi xi0 xf0 xz0 xl0 xi1 xf1 xz1 xl1 xi2 xf2 xz2 xl2 xi3 xf3 xz3 xl3) (heapM mtz mt mk mkf mot mox mfa mnd miu mnm mso mou mpl msc mar mex men mnn mon mde mbt mfo mfn mma mit mfm msz mim mmo mfi) := by
  obtain ⟨rfl, rfl⟩ := h1
  obtain ⟨s0, s1, s2, s3⟩ := id h9
  obtain ⟨⟨rfl, l2⟩, ⟨rfl, x2⟩, ⟨rfl, z2⟩, it, ir⟩ := id s3
  obtain ⟨m1, m2, m3, m4⟩ := id h8
  intro Q hQ
  have lr := aLk_rg (xl := 1 - mit 3) (xf := mfm 3) (xz := msz 3) (form := form) (i := i)
  refine t_get_3 rform ri l2 x2 z2 (fun e => ?_) (fun e e2 => ?_) (fun e e2 => ?_)
  · refine hQ _ _ (fun Q2 hq => ?_)
    refine r_get (by unfold rg; omega) rform ri m1 m2 m3 (fun _ => ?_) (fun _ e' => absurd e' e) (fun _ e' => absurd e' e)
    exact hq _ (by unfold rg; omega) (mkSR ⟨rfl, rfl⟩ h2 h3 h4 h5 h6 h7 h8 h9 h10)
  · refine hQ _ _ (fun Q2 hq => ?_)
    refine r_get (by unfold rg; omega) rform ri m1 m2 m3 (fun e' => absurd ⟨by omega, e⟩ e') (fun _ _ _ => ?_) (fun _ _ e' => absurd e' e2)
    exact hq _ (by unfold rg; omega) (mkSR ⟨rfl, rfl⟩ h2 h3 h4 h5 h6 h7 h8 h9 ⟨rfl, by omega, by omega⟩)
  · have z := aLk_0 e2
    refine hQ _ _ (fun Q2 hq => ?_)
    refine r_get (by unfold rg; omega) rform ri m1 m2 m3 (fun e' => absurd ⟨by omega, e⟩ e') (fun _ _ e' => absurd e2 e') (fun _ _ _ => ?_)
    rw [← it i (by omega) (by omega)]
    exact hq _ (ir i) (mkSR ⟨rfl, rfl⟩ h2 h3 h4 h5 h6 h7 h8 h9 h10)
set_option maxRecDepth 100000 in
set_option maxHeartbeats 4000000 in
theorem op_write_3 (h1 : tb = mt ∧ tz = mtz) (h2 : 0 ≤ tz ∧ tz ≤ 100) (h3 : rI tb 0 255) (h4 : CRd tb tz fp nd sc rsz iu nm so ou pl pa ba en a1 a2 a3 a4 a5) (h5 : RM miu mnm mso mou mpl mar mex men mnn mon mde mbt mfo mfn) (h6 : rI b1 0 25 ∧ rI b2 0 3 ∧ rI b3 (-1) 59 ∧ rI b5 (-1) 59) (h7 : KnR tz tk tks tc tt mk mkf mot mox) (h8 : rI mit 0 1 ∧ rI mfm 0 2 ∧ rI msz 0 60 ∧ ∀ i, rg (mim i)) (h9 : ShR xi0 xf0 xz0 xl0 0 mit mfm msz mim ∧ ShR xi1 xf1 xz1 xl1 1 mit mfm msz mim ∧ ShR xi2 xf2 xz2 xl2 2 mit mfm msz mim ∧ ShR xi3 xf3 xz3 xl3 3 mit mfm msz mim) (h10 : fi = mfi ∧ 0 ≤ fi ∧ fi ≤ 5) : OPI ro (d + 12) 82 178 [vI 3] (heapC tb tz tk tks tc tt iu nm ou so pl nd pa ba de en sc rsz fp ss cu os a1 a2 a3 a4 a5 b1 b2 b3 b4 b5 le fi xi0 xf0 xz0 xl0 xi1 xf1 xz1 xl1 xi2 xf2 xz2 xl2 xi3 xf3 xz3 xl3) (heapM mtz mt mk mkf mot mox mfa mnd miu mnm mso mou mpl msc mar mex men mnn mon mde mbt mfo mfn mma mit mfm msz mim mmo mfi) := by
  obtain ⟨rfl, rfl⟩ := h1
  obtain ⟨s0, s1, s2, s3⟩ := id h9
  obtain ⟨⟨rfl, l2⟩, ⟨rfl, x2⟩, ⟨rfl, z2⟩, it, ir⟩ := id s3
  obtain ⟨m1, m2, m3, m4⟩ := id h8
  intro Q hQ
  obtain ⟨⟨-, hnd, -, -⟩, hS, -, -, hW, -⟩ := id h4
  have S1 := hS.1
  obtain ⟨r0, r1, r2, r3, r5⟩ := CRd_rg h4
  refine t_write_3 l2 x2 z2 S1 (fun e => ?_) (fun e => ?_)
  · refine hQ _ _ (fun Q2 hq => ?_)
    refine r_write (by unfold rg; omega) m1 m2 m3 h2 h3 h5 (fun e' => absurd (by omega) e') (fun _ _ => ?_) (fun _ e' => absurd e' (by omega))
    exact hq _ (by unfold rg; omega) (mkSR ⟨rfl, rfl⟩ h2 h3 h4 h5 h6 h7 h8 h9 ⟨rfl, by omega, by omega⟩)
  · refine hQ _ _ (fun Q2 hq => ?_)
    refine r_write (by unfold rg; omega) m1 m2 m3 h2 h3 h5 (fun e' => absurd (by omega) e') (fun _ e' => absurd e' (by omega)) (fun _ _ mfa' mnd' msc' miu' mnm' mso' mou' mpl' mar' mex' men' mnn' mon' mde' mbt' mfo' mfn' hM => ?_)
    have en : mnd' = nd := by rw [hM.1.2.1, ← hnd]
    have hB := hM.2.2.2.2.1
    have R5 := (MRw_RM (MRd_w hM)).2.2.2.2.1
    subst en
    have w2 : 0 ≤ (if mnd' < msz 3 then mnd' else msz 3) ∧ (if mnd' < msz 3 then mnd' else msz 3) ≤ 60 ∧ (if mnd' < msz 3 then mnd' else msz 3) ≤ mnd' := by split <;> omega
    exact hq _ (by unfold rg; omega) (mkSR ⟨rfl, rfl⟩ h2 h3 h4 (MRw_RM (MRd_w hM)) h6 h7 ⟨m1, m2, m3, rg_fbk m4 (fun q => rg_stZ (rg_i (R5 _)))⟩ ⟨L_writeN s0 (by omega) (by omega), L_writeN s1 (by omega) (by omega), L_writeN s2 (by omega) (by omega), L_write s3 (by omega) (fun k a b => by rw [(hW k a (by omega)).2.2, (hB k a (by omega)).1]) r3⟩ h10)
set_option maxRecDepth 100000 in
set_option maxHeartbeats 4000000 in
theorem op_read_3 (h1 : tb = mt ∧ tz = mtz) (h2 : 0 ≤ tz ∧ tz ≤ 100) (h3 : rI tb 0 255) (h4 : CRd tb tz fp nd sc rsz iu nm so ou pl pa ba en a1 a2 a3 a4 a5) (h5 : RM miu mnm mso mou mpl mar mex men mnn mon mde mbt mfo mfn) (h6 : rI b1 0 25 ∧ rI b2 0 3 ∧ rI b3 (-1) 59 ∧ rI b5 (-1) 59) (h7 : KnR tz tk tks tc tt mk mkf mot mox) (h8 : rI mit 0 1 ∧ rI mfm 0 2 ∧ rI msz 0 60 ∧ ∀ i, rg (mim i)) (h9 : ShR xi0 xf0 xz0 xl0 0 mit mfm msz mim ∧ ShR xi1 xf1 xz1 xl1 1 mit mfm msz mim ∧ ShR xi2 xf2 xz2 xl2 2 mit mfm msz mim ∧ ShR xi3 xf3 xz3 xl3 3 mit mfm msz mim) (h10 : fi = mfi ∧ 0 ≤ fi ∧ fi ≤ 5) : OPI ro (d + 12) 61 109 [vI 3] (heapC tb tz tk tks tc tt iu nm ou so pl nd pa ba de en sc rsz fp ss cu os a1 a2 a3 a4 a5 b1 b2 b3 b4 b5 le fi xi0 xf0 xz0 xl0 xi1 xf1 xz1 xl1 xi2 xf2 xz2 xl2 xi3 xf3 xz3 xl3) (heapM mtz mt mk mkf mot mox mfa mnd miu mnm mso mou mpl msc mar mex men mnn mon mde mbt mfo mfn mma mit mfm msz mim mmo mfi) := by
  obtain ⟨rfl, rfl⟩ := h1
  obtain ⟨s0, s1, s2, s3⟩ := id h9
  obtain ⟨⟨rfl, l2⟩, ⟨rfl, x2⟩, ⟨rfl, z2⟩, it, ir⟩ := id s3
  obtain ⟨m1, m2, m3, m4⟩ := id h8
  intro Q hQ
  obtain ⟨r0, r1, r2, r3, r5⟩ := CRd_rg h4
  obtain ⟨g1, g2, g3⟩ := fr_in xi3 (msz 3 - 0).toNat 0
  have w2 : ∀ w : Int, w = (if 100 - tz < frN xi3 (msz 3 - 0).toNat 0 then 100 - tz else frN xi3 (msz 3 - 0).toNat 0) → 0 ≤ w ∧ tz + w ≤ 100 ∧ w ≤ 60 ∧ w ≤ frN xi3 (msz 3 - 0).toNat 0 := by
    intro w hw
    rw [hw]
    split <;> omega
  generalize hw : (if 100 - tz < frN xi3 (msz 3 - 0).toNat 0 then 100 - tz else frN xi3 (msz 3 - 0).toNat 0) = w at w2
  obtain ⟨w3, w4, w5, w6⟩ := w2 w rfl
  refine t_read_3 hw.symm l2 z2 ir h2 h3 r0 r1 r2 r3 r5 (fun e => ?_) (fun e e2 => ?_) (fun e e2 fp' nd' sc' rsz' iu' nm' so' ou' pl' pa' ba' de' en' ss' cu' os' a1' a2' a3' a4' a5' hC => ?_)
  · refine hQ _ _ (fun Q2 hq => ?_)
    refine r_read (by unfold rg; omega) it (fun _ => hw.symm) m1 m3 m4 h2 h3 (fun e' => absurd (by omega) e') (fun _ _ => ?_) (fun _ e' => absurd e' (by omega)) (fun _ e' => absurd e' (by omega))
    exact hq _ (by unfold rg; omega) (mkSR ⟨rfl, rfl⟩ h2 h3 h4 h5 h6 h7 h8 h9 ⟨rfl, by omega, by omega⟩)
  · refine hQ _ _ (fun Q2 hq => ?_)
    refine r_read (by unfold rg; omega) it (fun _ => hw.symm) m1 m3 m4 h2 h3 (fun e' => absurd (by omega) e') (fun _ e' => absurd e' (by omega)) (fun _ _ _ => ?_) (fun _ _ e' => absurd e' (by omega))
    exact hq _ (by unfold rg; omega) (mkSR ⟨rfl, rfl⟩ h2 h3 h4 h5 h6 h7 h8 h9 h10)
  · refine hQ _ _ (fun Q2 hq => ?_)
    refine r_read (by unfold rg; omega) it (fun _ => hw.symm) m1 m3 m4 h2 h3 (fun e' => absurd (by omega) e') (fun _ e' => absurd e' (by omega)) (fun _ _ e' => absurd e' (by omega)) (fun _ _ _ => ?_)
    exact hq _ (by unfold rg; omega) (mkSR ⟨rfl, rfl⟩ ⟨by omega, w4⟩ (rI_fb2 h3 (fun q a b => g3 _ (by omega) (by omega))) hC h5 h6 (KnR_0 h7) h8 h9 h10)
set_option maxRecDepth 100000 in
set_option maxHeartbeats 4000000 in
theorem op_lose {s : Int} (rs : rg s) (h1 : tb = mt ∧ tz = mtz) (h2 : 0 ≤ tz ∧ tz ≤ 100) (h3 : rI tb 0 255) (h4 : CRd tb tz fp nd sc rsz iu nm so ou pl pa ba en a1 a2 a3 a4 a5) (h5 : RM miu mnm mso mou mpl mar mex men mnn mon mde mbt mfo mfn) (h6 : rI b1 0 25 ∧ rI b2 0 3 ∧ rI b3 (-1) 59 ∧ rI b5 (-1) 59) (h7 : KnR tz tk tks tc tt mk mkf mot mox) (h8 : rI mit 0 1 ∧ rI mfm 0 2 ∧ rI msz 0 60 ∧ ∀ i, rg (mim i)) (h9 : ShR xi0 xf0 xz0 xl0 0 mit mfm msz mim ∧ ShR xi1 xf1 xz1 xl1 1 mit mfm msz mim ∧ ShR xi2 xf2 xz2 xl2 2 mit mfm msz mim ∧ ShR xi3 xf3 xz3 xl3 3 mit mfm msz mim) (h10 : fi = mfi ∧ 0 ≤ fi ∧ fi ≤ 5) : OPI ro (d + 12) 78 172 [vI s] (heapC tb tz tk tks tc tt iu nm ou so pl nd pa ba de en sc rsz fp ss cu os a1 a2 a3 a4 a5 b1 b2 b3 b4 b5 le fi xi0 xf0 xz0 xl0 xi1 xf1 xz1 xl1 xi2 xf2 xz2 xl2 xi3 xf3 xz3 xl3) (heapM mtz mt mk mkf mot mox mfa mnd miu mnm mso mou mpl msc mar mex men mnn mon mde mbt mfo mfn mma mit mfm msz mim mmo mfi) := by
  obtain ⟨rfl, rfl⟩ := h1
  by_cases hs : 0 ≤ s ∧ s < 4
  · have q : s = 0 ∨ s = 1 ∨ s = 2 ∨ s = 3 := by omega
    rcases q with rfl | rfl | rfl | rfl
    · exact op_lose_0  ⟨rfl, rfl⟩ h2 h3 h4 h5 h6 h7 h8 h9 h10
    · exact op_lose_1  ⟨rfl, rfl⟩ h2 h3 h4 h5 h6 h7 h8 h9 h10
    · exact op_lose_2  ⟨rfl, rfl⟩ h2 h3 h4 h5 h6 h7 h8 h9 h10
    · exact op_lose_3  ⟨rfl, rfl⟩ h2 h3 h4 h5 h6 h7 h8 h9 h10
  · intro Q hQ
    refine t_lose_x rs hs ?_
    refine hQ _ _ (fun Q2 hq => ?_)
    refine r_lose rs h8.1 (fun _ => ?_) (fun e' => absurd e' hs) (fun e' => absurd e' hs)
    exact hq _ (by unfold rg; omega) (mkSR ⟨rfl, rfl⟩ h2 h3 h4 h5 h6 h7 h8 h9 h10)
set_option maxRecDepth 100000 in
set_option maxHeartbeats 4000000 in
theorem op_sheet {s form n : Int} (rs : rg s) (rform : rg form) (rn : rg n) (h1 : tb = mt ∧ tz = mtz) (h2 : 0 ≤ tz ∧ tz ≤ 100) (h3 : rI tb 0 255) (h4 : CRd tb tz fp nd sc rsz iu nm so ou pl pa ba en a1 a2 a3 a4 a5) (h5 : RM miu mnm mso mou mpl mar mex men mnn mon mde mbt mfo mfn) (h6 : rI b1 0 25 ∧ rI b2 0 3 ∧ rI b3 (-1) 59 ∧ rI b5 (-1) 59) (h7 : KnR tz tk tks tc tt mk mkf mot mox) (h8 : rI mit 0 1 ∧ rI mfm 0 2 ∧ rI msz 0 60 ∧ ∀ i, rg (mim i)) (h9 : ShR xi0 xf0 xz0 xl0 0 mit mfm msz mim ∧ ShR xi1 xf1 xz1 xl1 1 mit mfm msz mim ∧ ShR xi2 xf2 xz2 xl2 2 mit mfm msz mim ∧ ShR xi3 xf3 xz3 xl3 3 mit mfm msz mim) (h10 : fi = mfi ∧ 0 ≤ fi ∧ fi ≤ 5) : OPI ro (d + 12) 77 171 [vI s, vI form, vI n] (heapC tb tz tk tks tc tt iu nm ou so pl nd pa ba de en sc rsz fp ss cu os a1 a2 a3 a4 a5 b1 b2 b3 b4 b5 le fi xi0 xf0 xz0 xl0 xi1 xf1 xz1 xl1 xi2 xf2 xz2 xl2 xi3 xf3 xz3 xl3) (heapM mtz mt mk mkf mot mox mfa mnd miu mnm mso mou mpl msc mar mex men mnn mon mde mbt mfo mfn mma mit mfm msz mim mmo mfi) := by
  obtain ⟨rfl, rfl⟩ := h1
  by_cases hs : 0 ≤ s ∧ s < 4
  · have q : s = 0 ∨ s = 1 ∨ s = 2 ∨ s = 3 := by omega
    rcases q with rfl | rfl | rfl | rfl
    · exact op_sheet_0 rform rn ⟨rfl, rfl⟩ h2 h3 h4 h5 h6 h7 h8 h9 h10
    · exact op_sheet_1 rform rn ⟨rfl, rfl⟩ h2 h3 h4 h5 h6 h7 h8 h9 h10
    · exact op_sheet_2 rform rn ⟨rfl, rfl⟩ h2 h3 h4 h5 h6 h7 h8 h9 h10
    · exact op_sheet_3 rform rn ⟨rfl, rfl⟩ h2 h3 h4 h5 h6 h7 h8 h9 h10
  · intro Q hQ
    refine t_sheet_x rs hs ?_
    refine hQ _ _ (fun Q2 hq => ?_)
    refine r_sheet rs rform rn (fun _ => ?_) (fun e' => absurd e' hs) (fun e' => absurd e' hs)
    exact hq _ (by unfold rg; omega) (mkSR ⟨rfl, rfl⟩ h2 h3 h4 h5 h6 h7 h8 h9 h10)
set_option maxRecDepth 100000 in
set_option maxHeartbeats 4000000 in
theorem op_put {s form i v : Int} (rs : rg s) (rform : rg form) (ri : rg i) (rv : rg v) (h1 : tb = mt ∧ tz = mtz) (h2 : 0 ≤ tz ∧ tz ≤ 100) (h3 : rI tb 0 255) (h4 : CRd tb tz fp nd sc rsz iu nm so ou pl pa ba en a1 a2 a3 a4 a5) (h5 : RM miu mnm mso mou mpl mar mex men mnn mon mde mbt mfo mfn) (h6 : rI b1 0 25 ∧ rI b2 0 3 ∧ rI b3 (-1) 59 ∧ rI b5 (-1) 59) (h7 : KnR tz tk tks tc tt mk mkf mot mox) (h8 : rI mit 0 1 ∧ rI mfm 0 2 ∧ rI msz 0 60 ∧ ∀ i, rg (mim i)) (h9 : ShR xi0 xf0 xz0 xl0 0 mit mfm msz mim ∧ ShR xi1 xf1 xz1 xl1 1 mit mfm msz mim ∧ ShR xi2 xf2 xz2 xl2 2 mit mfm msz mim ∧ ShR xi3 xf3 xz3 xl3 3 mit mfm msz mim) (h10 : fi = mfi ∧ 0 ≤ fi ∧ fi ≤ 5) : OPI ro (d + 12) 79 175 [vI s, vI form, vI i, vI v] (heapC tb tz tk tks tc tt iu nm ou so pl nd pa ba de en sc rsz fp ss cu os a1 a2 a3 a4 a5 b1 b2 b3 b4 b5 le fi xi0 xf0 xz0 xl0 xi1 xf1 xz1 xl1 xi2 xf2 xz2 xl2 xi3 xf3 xz3 xl3) (heapM mtz mt mk mkf mot mox mfa mnd miu mnm mso mou mpl msc mar mex men mnn mon mde mbt mfo mfn mma mit mfm msz mim mmo mfi) := by
  obtain ⟨rfl, rfl⟩ := h1
  by_cases hs : 0 ≤ s ∧ s < 4
  · have q : s = 0 ∨ s = 1 ∨ s = 2 ∨ s = 3 := by omega
    rcases q with rfl | rfl | rfl | rfl
    · exact op_put_0 rform ri rv ⟨rfl, rfl⟩ h2 h3 h4 h5 h6 h7 h8 h9 h10
    · exact op_put_1 rform ri rv ⟨rfl, rfl⟩ h2 h3 h4 h5 h6 h7 h8 h9 h10
    · exact op_put_2 rform ri rv ⟨rfl, rfl⟩ h2 h3 h4 h5 h6 h7 h8 h9 h10
    · exact op_put_3 rform ri rv ⟨rfl, rfl⟩ h2 h3 h4 h5 h6 h7 h8 h9 h10
  · intro Q hQ
    refine t_put_x rs hs ?_
    refine hQ _ _ (fun Q2 hq => ?_)
    refine r_put rs rform ri h8.1 h8.2.1 h8.2.2.1 (fun _ => ?_) (fun e' => absurd e' hs) (fun e' => absurd e' hs)
    exact hq _ (by unfold rg; omega) (mkSR ⟨rfl, rfl⟩ h2 h3 h4 h5 h6 h7 h8 h9 h10)
set_option maxRecDepth 100000 in
set_option maxHeartbeats 4000000 in
theorem op_get {s form i : Int} (rs : rg s) (rform : rg form) (ri : rg i) (h1 : tb = mt ∧ tz = mtz) (h2 : 0 ≤ tz ∧ tz ≤ 100) (h3 : rI tb 0 255) (h4 : CRd tb tz fp nd sc rsz iu nm so ou pl pa ba en a1 a2 a3 a4 a5) (h5 : RM miu mnm mso mou mpl mar mex men mnn mon mde mbt mfo mfn) (h6 : rI b1 0 25 ∧ rI b2 0 3 ∧ rI b3 (-1) 59 ∧ rI b5 (-1) 59) (h7 : KnR tz tk tks tc tt mk mkf mot mox) (h8 : rI mit 0 1 ∧ rI mfm 0 2 ∧ rI msz 0 60 ∧ ∀ i, rg (mim i)) (h9 : ShR xi0 xf0 xz0 xl0 0 mit mfm msz mim ∧ ShR xi1 xf1 xz1 xl1 1 mit mfm msz mim ∧ ShR xi2 xf2 xz2 xl2 2 mit mfm msz mim ∧ ShR xi3 xf3 xz3 xl3 3 mit mfm msz mim) (h10 : fi = mfi ∧ 0 ≤ fi ∧ fi ≤ 5) : OPI ro (d + 12) 80 176 [vI s, vI form, vI i] (heapC tb tz tk tks tc tt iu nm ou so pl nd pa ba de en sc rsz fp ss cu os a1 a2 a3 a4 a5 b1 b2 b3 b4 b5 le fi xi0 xf0 xz0 xl0 xi1 xf1 xz1 xl1 xi2 xf2 xz2 xl2 xi3 xf3 xz3 xl3) (heapM mtz mt mk mkf mot mox mfa mnd miu mnm mso mou mpl msc mar mex men mnn mon mde mbt mfo mfn mma mit mfm msz mim mmo mfi) := by
  obtain ⟨rfl, rfl⟩ := h1
  by_cases hs : 0 ≤ s ∧ s < 4
  · have q : s = 0 ∨ s = 1 ∨ s = 2 ∨ s = 3 := by omega
    rcases q with rfl | rfl | rfl | rfl
    · exact op_get_0 rform ri ⟨rfl, rfl⟩ h2 h3 h4 h5 h6 h7 h8 h9 h10
    · exact op_get_1 rform ri ⟨rfl, rfl⟩ h2 h3 h4 h5 h6 h7 h8 h9 h10
    · exact op_get_2 rform ri ⟨rfl, rfl⟩ h2 h3 h4 h5 h6 h7 h8 h9 h10
    · exact op_get_3 rform ri ⟨rfl, rfl⟩ h2 h3 h4 h5 h6 h7 h8 h9 h10
  · intro Q hQ
    refine t_get_x rs hs ?_
    refine hQ _ _ (fun Q2 hq => ?_)
    refine r_get rs rform ri h8.1 h8.2.1 h8.2.2.1 (fun _ => ?_) (fun e' => absurd e' hs) (fun e' => absurd e' hs)
    exact hq _ (by unfold rg; omega) (mkSR ⟨rfl, rfl⟩ h2 h3 h4 h5 h6 h7 h8 h9 h10)
set_option maxRecDepth 100000 in
set_option maxHeartbeats 4000000 in
theorem op_write {s : Int} (rs : rg s) (h1 : tb = mt ∧ tz = mtz) (h2 : 0 ≤ tz ∧ tz ≤ 100) (h3 : rI tb 0 255) (h4 : CRd tb tz fp nd sc rsz iu nm so ou pl pa ba en a1 a2 a3 a4 a5) (h5 : RM miu mnm mso mou mpl mar mex men mnn mon mde mbt mfo mfn) (h6 : rI b1 0 25 ∧ rI b2 0 3 ∧ rI b3 (-1) 59 ∧ rI b5 (-1) 59) (h7 : KnR tz tk tks tc tt mk mkf mot mox) (h8 : rI mit 0 1 ∧ rI mfm 0 2 ∧ rI msz 0 60 ∧ ∀ i, rg (mim i)) (h9 : ShR xi0 xf0 xz0 xl0 0 mit mfm msz mim ∧ ShR xi1 xf1 xz1 xl1 1 mit mfm msz mim ∧ ShR xi2 xf2 xz2 xl2 2 mit mfm msz mim ∧ ShR xi3 xf3 xz3 xl3 3 mit mfm msz mim) (h10 : fi = mfi ∧ 0 ≤ fi ∧ fi ≤ 5) : OPI ro (d + 12) 82 178 [vI s] (heapC tb tz tk tks tc tt iu nm ou so pl nd pa ba de en sc rsz fp ss cu os a1 a2 a3 a4 a5 b1 b2 b3 b4 b5 le fi xi0 xf0 xz0 xl0 xi1 xf1 xz1 xl1 xi2 xf2 xz2 xl2 xi3 xf3 xz3 xl3) (heapM mtz mt mk mkf mot mox mfa mnd miu mnm mso mou mpl msc mar mex men mnn mon mde mbt mfo mfn mma mit mfm msz mim mmo mfi) := by
  obtain ⟨rfl, rfl⟩ := h1
  by_cases hs : 0 ≤ s ∧ s < 4
  · have q : s = 0 ∨ s = 1 ∨ s = 2 ∨ s = 3 := by omega
    rcases q with rfl | rfl | rfl | rfl
    · exact op_write_0  ⟨rfl, rfl⟩ h2 h3 h4 h5 h6 h7 h8 h9 h10
    · exact op_write_1  ⟨rfl, rfl⟩ h2 h3 h4 h5 h6 h7 h8 h9 h10
    · exact op_write_2  ⟨rfl, rfl⟩ h2 h3 h4 h5 h6 h7 h8 h9 h10
    · exact op_write_3  ⟨rfl, rfl⟩ h2 h3 h4 h5 h6 h7 h8 h9 h10
  · intro Q hQ
    refine t_write_x rs hs ?_
    refine hQ _ _ (fun Q2 hq => ?_)
    refine r_write rs h8.1 h8.2.1 h8.2.2.1 h2 h3 h5 (fun _ => ?_) (fun e' => absurd e' hs) (fun e' => absurd e' hs)
    exact hq _ (by unfold rg; omega) (mkSR ⟨rfl, rfl⟩ h2 h3 h4 h5 h6 h7 h8 h9 h10)
set_option maxRecDepth 100000 in
set_option maxHeartbeats 4000000 in
theorem op_read {s : Int} (rs : rg s) (h1 : tb = mt ∧ tz = mtz) (h2 : 0 ≤ tz ∧ tz ≤ 100) (h3 : rI tb 0 255) (h4 : CRd tb tz fp nd sc rsz iu nm so ou pl pa ba en a1 a2 a3 a4 a5) (h5 : RM miu mnm mso mou mpl mar mex men mnn mon mde mbt mfo mfn) (h6 : rI b1 0 25 ∧ rI b2 0 3 ∧ rI b3 (-1) 59 ∧ rI b5 (-1) 59) (h7 : KnR tz tk tks tc tt mk mkf mot mox) (h8 : rI mit 0 1 ∧ rI mfm 0 2 ∧ rI msz 0 60 ∧ ∀ i, rg (mim i)) (h9 : ShR xi0 xf0 xz0 xl0 0 mit mfm msz mim ∧ ShR xi1 xf1 xz1 xl1 1 mit mfm msz mim ∧ ShR xi2 xf2 xz2 xl2 2 mit mfm msz mim ∧ ShR xi3 xf3 xz3 xl3 3 mit mfm msz mim) (h10 : fi = mfi ∧ 0 ≤ fi ∧ fi ≤ 5) : OPI ro (d + 12) 61 109 [vI s] (heapC tb tz tk tks tc tt iu nm ou so pl nd pa ba de en sc rsz fp ss cu os a1 a2 a3 a4 a5 b1 b2 b3 b4 b5 le fi xi0 xf0 xz0 xl0 xi1 xf1 xz1 xl1 xi2 xf2 xz2 xl2 xi3 xf3 xz3 xl3) (heapM mtz mt mk mkf mot mox mfa mnd miu mnm mso mou mpl msc mar mex men mnn mon mde mbt mfo mfn mma mit mfm msz mim mmo mfi) := by
  obtain ⟨rfl, rfl⟩ := h1
  by_cases hs : 0 ≤ s ∧ s < 4
  · have q : s = 0 ∨ s = 1 ∨ s = 2 ∨ s = 3 := by omega
    rcases q with rfl | rfl | rfl | rfl
    · exact op_read_0  ⟨rfl, rfl⟩ h2 h3 h4 h5 h6 h7 h8 h9 h10
    · exact op_read_1  ⟨rfl, rfl⟩ h2 h3 h4 h5 h6 h7 h8 h9 h10
    · exact op_read_2  ⟨rfl, rfl⟩ h2 h3 h4 h5 h6 h7 h8 h9 h10
    · exact op_read_3  ⟨rfl, rfl⟩ h2 h3 h4 h5 h6 h7 h8 h9 h10
  · intro Q hQ
    refine t_read_x rs hs ?_
    refine hQ _ _ (fun Q2 hq => ?_)
    refine r_read (w := 0) (X := fun k => mim (60 * s + k)) rs (fun _ _ _ => rfl) (fun e' => absurd e' hs) h8.1 h8.2.2.1 h8.2.2.2 h2 h3 (fun _ => ?_) (fun e' => absurd e' hs) (fun e' => absurd e' hs) (fun e' => absurd e' hs)
    exact hq _ (by unfold rg; omega) (mkSR ⟨rfl, rfl⟩ h2 h3 h4 h5 h6 h7 h8 h9 h10)
end OPS2
