/-! ===== the class: sheets and small ones ===== -/
def stZ (f v : Int) : Int := if f = 0 then i2bZ v else if f = 1 then i2sZ v else v
def frN (f : Int → Int) : Nat → Int → Int
  | 0, k => k
  | n + 1, k => if 0 ≤ f k ∧ f k ≤ 255 then frN f n (k + 1) else k
set_option maxRecDepth 100000 in
set_option maxHeartbeats 4000000 in
theorem fr_st {f : Int → Int} {z k : Int} (h : k < z) : frN f (z - k).toNat k = if 0 ≤ f k ∧ f k ≤ 255 then frN f (z - (k + 1)).toNat (k + 1) else k := by
  rw [show (z - k).toNat = (z - (k + 1)).toNat + 1 by omega]
  rfl
set_option maxRecDepth 100000 in
set_option maxHeartbeats 4000000 in
theorem fr_end {f : Int → Int} {z k : Int} (h : z ≤ k) : frN f (z - k).toNat k = k := by
  rw [show (z - k).toNat = 0 by omega]
  rfl
set_option maxRecDepth 100000 in
set_option maxHeartbeats 4000000 in
theorem fr_in (f : Int → Int) : ∀ (m : Nat) (k : Int), k ≤ frN f m k ∧ frN f m k ≤ k + m ∧ ∀ q, k ≤ q → q < frN f m k → 0 ≤ f q ∧ f q ≤ 255
  | 0, k => ⟨Int.le_refl _, by show k ≤ k + ((0 : Nat) : Int); omega, fun q a b => absurd b (Int.not_lt.mpr a)⟩
  | m + 1, k => by
    unfold frN
    obtain ⟨i1, i2, i3⟩ := fr_in f m (k + 1)
    split
    · rename_i h
      refine ⟨by omega, by omega, fun q a b => ?_⟩
      by_cases e : q = k
      · rw [e]; exact h
      · exact i3 q (by omega) b
    · exact ⟨by omega, by omega, fun q a b => absurd b (Int.not_lt.mpr a)⟩
def aLk (xl xf xz form i : Int) : Int := if xl ≠ 0 then 1 else if xf ≠ form then 3 else if 0 ≤ i ∧ i < xz then 0 else 2
set_option maxRecDepth 100000 in
set_option maxHeartbeats 4000000 in
theorem aLk_rg {xl xf xz form i : Int} : 0 ≤ aLk xl xf xz form i ∧ aLk xl xf xz form i ≤ 3 := by
  unfold aLk
  split
  · omega
  · split
    · omega
    · split <;> omega
set_option maxRecDepth 100000 in
set_option maxHeartbeats 4000000 in
theorem aLk_0 {xl xf xz form i : Int} (h : aLk xl xf xz form i = 0) : xl = 0 ∧ xf = form ∧ 0 ≤ i ∧ i < xz := by
  unfold aLk at h
  split at h
  · omega
  · split at h
    · omega
    · split at h
      · omega
      · omega
section SHEETS
variable {ro : Nat × (Int → Int)} {d : Nat} {Q : Option AV → AH → Prop} {hB : List AC} {tb : Int → Int} {tz : Int} {tk : Int → Int → Int} {tks : Int → Int} {tc tt : Int} {iu nm ou so pl : Int → Int} {nd : Int} {pa ba de en : Int → Int} {sc rsz fp ss cu os : Int} {a1 a2 a3 : Int → Int} {a4 : Int → Int64} {a5 b1 b2 b3 : Int → Int} {b4 : Int → Int64} {b5 : Int → Int} {le fi : Int} {xi0 : Int → Int} {xf0 xz0 xl0 : Int} {xi1 : Int → Int} {xf1 xz1 xl1 : Int} {xi2 : Int → Int} {xf2 xz2 xl2 : Int} {xi3 : Int → Int} {xf3 xz3 xl3 : Int}
set_option maxRecDepth 100000 in
set_option maxHeartbeats 4000000 in
theorem t_found {x : Int} (hQ : Q (some (vI (-10 - x))) ((heapC tb tz tk tks tc tt iu nm ou so pl nd pa ba de en sc rsz fp ss cu os a1 a2 a3 a4 a5 b1 b2 b3 b4 b5 le x xi0 xf0 xz0 xl0 xi1 xf1 xz1 xl1 xi2 xf2 xz2 xl2 xi3 xf3 xz3 xl3), hB)) : RNd ro (d + 1) 89 [vR 0, vI x] ((heapC tb tz tk tks tc tt iu nm ou so pl nd pa ba de en sc rsz fp ss cu os a1 a2 a3 a4 a5 b1 b2 b3 b4 b5 le fi xi0 xf0 xz0 xl0 xi1 xf1 xz1 xl1 xi2 xf2 xz2 xl2 xi3 xf3 xz3 xl3), hB) Q := by
  refine WP_run [] 20 ?_
  exact ri hQ
set_option maxRecDepth 100000 in
set_option maxHeartbeats 4000000 in
theorem t_isBy {b : Int} {h : AH} (hb : rg b) (h1 : 0 ≤ b ∧ b ≤ 255 → Q (some (vI 1)) h) (h0 : ¬ (0 ≤ b ∧ b ≤ 255) → Q (some (vI 0)) h) : RNd ro (d + 1) 93 [vI b] h Q := by
  refine WP_run [] 20 ?_
  refine c1 (fun q => ?_) (fun q => ?_) hb
  · exact rz (h0 (by omega))
  · refine c2 (fun q2 => ?_) (fun q2 => ?_) hb
    · exact rz (h0 (by omega))
    · exact rz (h1 (by omega))
set_option maxRecDepth 100000 in
set_option maxHeartbeats 4000000 in
theorem t_isSh {b : Int} {h : AH} (hb : rg b) (h1 : 0 ≤ b ∧ b < 4 → Q (some (vI 1)) h) (h0 : ¬ (0 ≤ b ∧ b < 4) → Q (some (vI 0)) h) : RNd ro (d + 1) 95 [vI b] h Q := by
  refine WP_run [] 20 ?_
  refine c1 (fun q => ?_) (fun q => ?_) hb
  · exact rz (h0 (by omega))
  · refine c2 (fun q2 => ?_) (fun q2 => ?_) hb
    · exact rz (h0 (by omega))
    · exact rz (h1 (by omega))
set_option maxRecDepth 100000 in
set_option maxHeartbeats 4000000 in
theorem t_isFm {b : Int} {h : AH} (hb : rg b) (h1 : 0 ≤ b ∧ b < 3 → Q (some (vI 1)) h) (h0 : ¬ (0 ≤ b ∧ b < 3) → Q (some (vI 0)) h) : RNd ro (d + 1) 96 [vI b] h Q := by
  refine WP_run [] 20 ?_
  refine c1 (fun q => ?_) (fun q => ?_) hb
  · exact rz (h0 (by omega))
  · refine c2 (fun q2 => ?_) (fun q2 => ?_) hb
    · exact rz (h0 (by omega))
    · exact rz (h1 (by omega))
set_option maxRecDepth 100000 in
set_option maxHeartbeats 4000000 in
theorem t_told (htz : 0 ≤ tz ∧ tz ≤ 100) (htb : rI tb 0 255) (h0 : RT0 iu nm so ou pl pa ba en) (h1 : rI a1 0 25) (h2 : rI a2 0 3) (h3 : rI a3 (-1) 59) (h5 : rI a5 (-1) 59)
    (hQ : ∀ fp' nd' sc' rsz' iu' nm' so' ou' pl' pa' ba' de' en' ss' cu' os' a1' a2' a3' a4' a5', CRd tb tz fp' nd' sc' rsz' iu' nm' so' ou' pl' pa' ba' en' a1' a2' a3' a4' a5' → Q (none) ((heapC tb tz tk tks 0 tt iu' nm' ou' so' pl' nd' pa' ba' de' en' sc' rsz' fp' ss' cu' os' a1' a2' a3' a4' a5' b1 b2 b3 b4 b5 le fi xi0 xf0 xz0 xl0 xi1 xf1 xz1 xl1 xi2 xf2 xz2 xl2 xi3 xf3 xz3 xl3), hB)) : RNd ro (d + 8) 87 [vR 0] ((heapC tb tz tk tks tc tt iu nm ou so pl nd pa ba de en sc rsz fp ss cu os a1 a2 a3 a4 a5 b1 b2 b3 b4 b5 le fi xi0 xf0 xz0 xl0 xi1 xf1 xz1 xl1 xi2 xf2 xz2 xl2 xi3 xf3 xz3 xl3), hB) Q := by
  refine WP_run [] 20 ?_
  refine t_reread htz htb h0 h1 h2 h3 h5 (fun fp' nd' sc' rsz' iu' nm' so' ou' pl' pa' ba' de' en' ss' cu' os' a1' a2' a3' a4' a5' hC => ?_)
  exact hQ fp' nd' sc' rsz' iu' nm' so' ou' pl' pa' ba' de' en' ss' cu' os' a1' a2' a3' a4' a5' hC
set_option maxRecDepth 100000 in
set_option maxHeartbeats 4000000 in
theorem t_renew_0 {f z : Int} (hQ : Q none ((heapC tb tz tk tks tc tt iu nm ou so pl nd pa ba de en sc rsz fp ss cu os a1 a2 a3 a4 a5 b1 b2 b3 b4 b5 le fi (fz xi0 0 60 0) f z 0 xi1 xf1 xz1 xl1 xi2 xf2 xz2 xl2 xi3 xf3 xz3 xl3), hB)) : RNd ro (d + 2) 29 [vR 49, vI f, vI z] ((heapC tb tz tk tks tc tt iu nm ou so pl nd pa ba de en sc rsz fp ss cu os a1 a2 a3 a4 a5 b1 b2 b3 b4 b5 le fi xi0 xf0 xz0 xl0 xi1 xf1 xz1 xl1 xi2 xf2 xz2 xl2 xi3 xf3 xz3 xl3), hB) Q := by
  refine WP_run [] 20 ?_
  refine fill_50 ?_
  exact bz hQ
set_option maxRecDepth 100000 in
set_option maxHeartbeats 4000000 in
theorem t_store_0 {i v : Int} (hf : 0 ≤ xf0 ∧ xf0 ≤ 2) (hi : 0 ≤ i ∧ i < 60) (hQ : Q none ((heapC tb tz tk tks tc tt iu nm ou so pl nd pa ba de en sc rsz fp ss cu os a1 a2 a3 a4 a5 b1 b2 b3 b4 b5 le fi (upZ xi0 i (stZ xf0 v)) xf0 xz0 xl0 xi1 xf1 xz1 xl1 xi2 xf2 xz2 xl2 xi3 xf3 xz3 xl3), hB)) : RNd ro (d + 1) 30 [vR 49, vI i, vI v] ((heapC tb tz tk tks tc tt iu nm ou so pl nd pa ba de en sc rsz fp ss cu os a1 a2 a3 a4 a5 b1 b2 b3 b4 b5 le fi xi0 xf0 xz0 xl0 xi1 xf1 xz1 xl1 xi2 xf2 xz2 xl2 xi3 xf3 xz3 xl3), hB) Q := by
  unfold stZ at hQ
  refine WP_run [] 20 ?_
  refine m1 ?_
  by_cases q0 : xf0 = 0
  · rw [if_pos q0] at hQ
    refine st ?_
    refine ix ?_
    exact hQ
  · rw [if_neg q0] at hQ
    refine sf ?_
    by_cases q1 : xf0 = 1
    · rw [if_pos q1] at hQ
      refine st ?_
      refine ix ?_
      exact hQ
    · rw [if_neg q1] at hQ
      refine sf ?_
      refine ix ?_
      exact hQ
set_option maxRecDepth 100000 in
set_option maxHeartbeats 4000000 in
theorem t_front_0 (hz : 0 ≤ xz0 ∧ xz0 ≤ 60) (hr : ∀ i, rg (xi0 i)) (hQ : Q (some (vI (frN xi0 (xz0 - 0).toNat 0))) ((heapC tb tz tk tks tc tt iu nm ou so pl nd pa ba de en sc rsz fp ss cu os a1 a2 a3 a4 a5 b1 b2 b3 b4 b5 le fi xi0 xf0 xz0 xl0 xi1 xf1 xz1 xl1 xi2 xf2 xz2 xl2 xi3 xf3 xz3 xl3), hB)) : RNd ro (d + 2) 31 [vR 49] ((heapC tb tz tk tks tc tt iu nm ou so pl nd pa ba de en sc rsz fp ss cu os a1 a2 a3 a4 a5 b1 b2 b3 b4 b5 le fi xi0 xf0 xz0 xl0 xi1 xf1 xz1 xl1 xi2 xf2 xz2 xl2 xi3 xf3 xz3 xl3), hB) Q := by
  have main : ∀ k : Int, 0 ≤ k → k ≤ xz0 → frN xi0 (xz0 - k).toNat k = frN xi0 (xz0 - 0).toNat 0 → WPm ro (d + 1) (RNd ro (d + 1)) 31 0 0 Q 2 [vR 49, vI k] [] ((heapC tb tz tk tks tc tt iu nm ou so pl nd pa ba de en sc rsz fp ss cu os a1 a2 a3 a4 a5 b1 b2 b3 b4 b5 le fi xi0 xf0 xz0 xl0 xi1 xf1 xz1 xl1 xi2 xf2 xz2 xl2 xi3 xf3 xz3 xl3), hB) 0 0 := by
    refine loopUp xz0 fun k ih k0 k1 hk => ?_
    refine WP_first [2] 30 ?_
    refine c2 (fun q => ?_) (fun q => ?_)
    · rw [fr_end q] at hk
      rw [← hk] at hQ
      exact ri hQ
    · rw [fr_st (by omega)] at hk
      refine ix ?_
      refine t_isBy (hr k) (fun h => ?_) (fun h => ?_)
      · rw [if_pos h] at hk
        refine f1 ?_
        exact ih (by omega) (by omega) (by omega) hk
      · rw [if_neg h] at hk
        rw [← hk] at hQ
        refine t1 ?_
        exact ri hQ
  exact WP_run [2] 20 (main 0 (by omega) hz.1 rfl)
set_option maxRecDepth 100000 in
set_option maxHeartbeats 4000000 in
theorem t_hasRun_0 {i n : Int} (hz : 0 ≤ xz0 ∧ xz0 ≤ 60) (hi : rg i) (hn : rg n) (h1 : 0 ≤ i ∧ 0 ≤ n ∧ i + n ≤ xz0 → Q (some (vI 1)) ((heapC tb tz tk tks tc tt iu nm ou so pl nd pa ba de en sc rsz fp ss cu os a1 a2 a3 a4 a5 b1 b2 b3 b4 b5 le fi xi0 xf0 xz0 xl0 xi1 xf1 xz1 xl1 xi2 xf2 xz2 xl2 xi3 xf3 xz3 xl3), hB)) (h0 : ¬ (0 ≤ i ∧ 0 ≤ n ∧ i + n ≤ xz0) → Q (some (vI 0)) ((heapC tb tz tk tks tc tt iu nm ou so pl nd pa ba de en sc rsz fp ss cu os a1 a2 a3 a4 a5 b1 b2 b3 b4 b5 le fi xi0 xf0 xz0 xl0 xi1 xf1 xz1 xl1 xi2 xf2 xz2 xl2 xi3 xf3 xz3 xl3), hB)) : RNd ro (d + 1) 32 [vR 49, vI i, vI n] ((heapC tb tz tk tks tc tt iu nm ou so pl nd pa ba de en sc rsz fp ss cu os a1 a2 a3 a4 a5 b1 b2 b3 b4 b5 le fi xi0 xf0 xz0 xl0 xi1 xf1 xz1 xl1 xi2 xf2 xz2 xl2 xi3 xf3 xz3 xl3), hB) Q := by
  have hn' := hn
  unfold rg at hn'
  refine WP_run [] 30 ?_
  refine c1 (fun q => ?_) (fun q => ?_) hi
  · exact rz (h0 (by omega))
  · refine c1 (fun q2 => ?_) (fun q2 => ?_) hn
    · exact rz (h0 (by omega))
    · refine c2 (fun q3 => ?_) (fun q3 => ?_) hi
      · exact rz (h0 (by omega))
      · exact rz (h1 (by omega))
set_option maxRecDepth 100000 in
set_option maxHeartbeats 4000000 in
theorem t_lose_0 (hl : 0 ≤ xl0 ∧ xl0 ≤ 1) (h1 : xl0 ≠ 0 → Q (some (vI (-11))) ((heapC tb tz tk tks tc tt iu nm ou so pl nd pa ba de en sc rsz fp ss cu os a1 a2 a3 a4 a5 b1 b2 b3 b4 b5 le 1 xi0 xf0 xz0 xl0 xi1 xf1 xz1 xl1 xi2 xf2 xz2 xl2 xi3 xf3 xz3 xl3), hB)) (h0 : xl0 = 0 → Q (some (vI xz0)) ((heapC tb tz tk tks tc tt iu nm ou so pl nd pa ba de en sc rsz fp ss cu os a1 a2 a3 a4 a5 b1 b2 b3 b4 b5 le fi xi0 xf0 xz0 1 xi1 xf1 xz1 xl1 xi2 xf2 xz2 xl2 xi3 xf3 xz3 xl3), hB)) : RNd ro (d + 2) 78 [vR 0, vI 0] ((heapC tb tz tk tks tc tt iu nm ou so pl nd pa ba de en sc rsz fp ss cu os a1 a2 a3 a4 a5 b1 b2 b3 b4 b5 le fi xi0 xf0 xz0 xl0 xi1 xf1 xz1 xl1 xi2 xf2 xz2 xl2 xi3 xf3 xz3 xl3), hB) Q := by
  refine WP_run [] 40 ?_
  refine t_isSh (by unfold rg; omega) (fun _ => ?_) (fun h => absurd (by omega) h)
  refine t1 ?_
  refine ix ?_
  refine c1 (fun q => ?_) (fun q => ?_)
  · refine bz ?_
    exact ri (h0 q)
  · refine t_found ?_
    exact ri (h1 q)
set_option maxRecDepth 100000 in
set_option maxHeartbeats 4000000 in
theorem t_refI_0 {form i : Int} (hf : rg form) (hi : rg i) (hl : 0 ≤ xl0 ∧ xl0 ≤ 1) (hx : 0 ≤ xf0 ∧ xf0 ≤ 2) (hz : 0 ≤ xz0 ∧ xz0 ≤ 60)
    (q2 : ¬ (0 ≤ form ∧ form < 3) → Q (some (vI (-2))) ((heapC tb tz tk tks tc tt iu nm ou so pl nd pa ba de en sc rsz fp ss cu os a1 a2 a3 a4 a5 b1 b2 b3 b4 b5 le fi xi0 xf0 xz0 xl0 xi1 xf1 xz1 xl1 xi2 xf2 xz2 xl2 xi3 xf3 xz3 xl3), hB))
    (q1 : 0 ≤ form ∧ form < 3 → aLk xl0 xf0 xz0 form i ≠ 0 → Q (some (vI (-10 - aLk xl0 xf0 xz0 form i))) ((heapC tb tz tk tks tc tt iu nm ou so pl nd pa ba de en sc rsz fp ss cu os a1 a2 a3 a4 a5 b1 b2 b3 b4 b5 le (aLk xl0 xf0 xz0 form i) xi0 xf0 xz0 xl0 xi1 xf1 xz1 xl1 xi2 xf2 xz2 xl2 xi3 xf3 xz3 xl3), hB))
    (q0 : 0 ≤ form ∧ form < 3 → aLk xl0 xf0 xz0 form i = 0 → Q (some (vI 0)) ((heapC tb tz tk tks tc tt iu nm ou so pl nd pa ba de en sc rsz fp ss cu os a1 a2 a3 a4 a5 b1 b2 b3 b4 b5 le fi xi0 xf0 xz0 xl0 xi1 xf1 xz1 xl1 xi2 xf2 xz2 xl2 xi3 xf3 xz3 xl3), hB)) : RNd ro (d + 2) 99 [vR 0, vI 0, vI form, vI i] ((heapC tb tz tk tks tc tt iu nm ou so pl nd pa ba de en sc rsz fp ss cu os a1 a2 a3 a4 a5 b1 b2 b3 b4 b5 le fi xi0 xf0 xz0 xl0 xi1 xf1 xz1 xl1 xi2 xf2 xz2 xl2 xi3 xf3 xz3 xl3), hB) Q := by
  unfold aLk at q1 q0
  refine WP_run [] 60 ?_
  refine t_isSh (by unfold rg; omega) (fun _ => ?_) (fun h => absurd (by omega) h)
  refine f1 ?_
  refine t_isFm hf (fun h => ?_) (fun h => ?_)
  · have q1' := q1 h
    have q0' := q0 h
    refine t1 ?_
    refine ix ?_
    refine c1 (fun e1 => ?_) (fun e1 => ?_)
    · rw [if_neg (by omega)] at q1' q0'
      refine c2 (fun e2 => ?_) (fun e2 => ?_) (by unfold rg; omega) hf
      · rw [if_neg (by omega)] at q1' q0'
        refine c1 (fun e3 => ?_) (fun e3 => ?_) hi
        · rw [if_neg (by omega)] at q1'
          refine t_found ?_
          exact ri (q1' (by omega))
        · refine c2 (fun e4 => ?_) (fun e4 => ?_) hi
          · rw [if_pos (by omega)] at q0'
            exact ri (q0' rfl)
          · rw [if_neg (by omega)] at q1'
            refine t_found ?_
            exact ri (q1' (by omega))
      · rw [if_pos (by omega)] at q1'
        refine t_found ?_
        exact ri (q1' (by omega))
    · rw [if_pos (by omega)] at q1'
      refine t_found ?_
      exact ri (q1' (by omega))
  · refine f1 ?_
    exact ri (q2 h)
set_option maxRecDepth 100000 in
set_option maxHeartbeats 4000000 in
theorem t_put_0 {form i v : Int} (hf : rg form) (hi : rg i) (hl : 0 ≤ xl0 ∧ xl0 ≤ 1) (hx : 0 ≤ xf0 ∧ xf0 ≤ 2) (hz : 0 ≤ xz0 ∧ xz0 ≤ 60)
    (q2 : ¬ (0 ≤ form ∧ form < 3) → Q (some (vI (-2))) ((heapC tb tz tk tks tc tt iu nm ou so pl nd pa ba de en sc rsz fp ss cu os a1 a2 a3 a4 a5 b1 b2 b3 b4 b5 le fi xi0 xf0 xz0 xl0 xi1 xf1 xz1 xl1 xi2 xf2 xz2 xl2 xi3 xf3 xz3 xl3), hB))
    (q1 : 0 ≤ form ∧ form < 3 → aLk xl0 xf0 xz0 form i ≠ 0 → Q (some (vI (-10 - aLk xl0 xf0 xz0 form i))) ((heapC tb tz tk tks tc tt iu nm ou so pl nd pa ba de en sc rsz fp ss cu os a1 a2 a3 a4 a5 b1 b2 b3 b4 b5 le (aLk xl0 xf0 xz0 form i) xi0 xf0 xz0 xl0 xi1 xf1 xz1 xl1 xi2 xf2 xz2 xl2 xi3 xf3 xz3 xl3), hB))
    (q0 : 0 ≤ form ∧ form < 3 → aLk xl0 xf0 xz0 form i = 0 → Q (some (vI 1)) ((heapC tb tz tk tks tc tt iu nm ou so pl nd pa ba de en sc rsz fp ss cu os a1 a2 a3 a4 a5 b1 b2 b3 b4 b5 le fi (upZ xi0 i (stZ xf0 v)) xf0 xz0 xl0 xi1 xf1 xz1 xl1 xi2 xf2 xz2 xl2 xi3 xf3 xz3 xl3), hB)) : RNd ro (d + 3) 79 [vR 0, vI 0, vI form, vI i, vI v] ((heapC tb tz tk tks tc tt iu nm ou so pl nd pa ba de en sc rsz fp ss cu os a1 a2 a3 a4 a5 b1 b2 b3 b4 b5 le fi xi0 xf0 xz0 xl0 xi1 xf1 xz1 xl1 xi2 xf2 xz2 xl2 xi3 xf3 xz3 xl3), hB) Q := by
  have lr := aLk_rg (xl := xl0) (xf := xf0) (xz := xz0) (form := form) (i := i)
  refine WP_run [] 40 ?_
  refine t_refI_0 hf hi hl hx hz (fun h => ?_) (fun h k => ?_) (fun h k => ?_)
  · refine f1 ?_
    exact ri (q2 h)
  · refine f1 ?_
    exact ri (q1 h k)
  · have z := aLk_0 k
    refine t1 ?_
    refine ix ?_
    refine t_store_0 hx (by omega) ?_
    exact ri (q0 h k)
set_option maxRecDepth 100000 in
set_option maxHeartbeats 4000000 in
theorem t_get_0 {form i : Int} (hf : rg form) (hi : rg i) (hl : 0 ≤ xl0 ∧ xl0 ≤ 1) (hx : 0 ≤ xf0 ∧ xf0 ≤ 2) (hz : 0 ≤ xz0 ∧ xz0 ≤ 60)
    (q2 : ¬ (0 ≤ form ∧ form < 3) → Q (some (vI (-2147483648))) ((heapC tb tz tk tks tc tt iu nm ou so pl nd pa ba de en sc rsz fp ss cu os a1 a2 a3 a4 a5 b1 b2 b3 b4 b5 le fi xi0 xf0 xz0 xl0 xi1 xf1 xz1 xl1 xi2 xf2 xz2 xl2 xi3 xf3 xz3 xl3), hB))
    (q1 : 0 ≤ form ∧ form < 3 → aLk xl0 xf0 xz0 form i ≠ 0 → Q (some (vI (-2147483648))) ((heapC tb tz tk tks tc tt iu nm ou so pl nd pa ba de en sc rsz fp ss cu os a1 a2 a3 a4 a5 b1 b2 b3 b4 b5 le (aLk xl0 xf0 xz0 form i) xi0 xf0 xz0 xl0 xi1 xf1 xz1 xl1 xi2 xf2 xz2 xl2 xi3 xf3 xz3 xl3), hB))
    (q0 : 0 ≤ form ∧ form < 3 → aLk xl0 xf0 xz0 form i = 0 → Q (some (vI (xi0 i))) ((heapC tb tz tk tks tc tt iu nm ou so pl nd pa ba de en sc rsz fp ss cu os a1 a2 a3 a4 a5 b1 b2 b3 b4 b5 le fi xi0 xf0 xz0 xl0 xi1 xf1 xz1 xl1 xi2 xf2 xz2 xl2 xi3 xf3 xz3 xl3), hB)) : RNd ro (d + 3) 80 [vR 0, vI 0, vI form, vI i] ((heapC tb tz tk tks tc tt iu nm ou so pl nd pa ba de en sc rsz fp ss cu os a1 a2 a3 a4 a5 b1 b2 b3 b4 b5 le fi xi0 xf0 xz0 xl0 xi1 xf1 xz1 xl1 xi2 xf2 xz2 xl2 xi3 xf3 xz3 xl3), hB) Q := by
  have lr := aLk_rg (xl := xl0) (xf := xf0) (xz := xz0) (form := form) (i := i)
  refine WP_run [] 40 ?_
  refine t_refI_0 hf hi hl hx hz (fun h => ?_) (fun h k => ?_) (fun h k => ?_)
  · refine f1 ?_
    exact ri (q2 h)
  · refine f1 ?_
    exact ri (q1 h k)
  · have z := aLk_0 k
    refine t1 ?_
    refine ix ?_
    refine ix ?_
    exact ri (q0 h k)
set_option maxRecDepth 100000 in
set_option maxHeartbeats 4000000 in
theorem t_sheet_0 {form n : Int} (hf : rg form) (hn : rg n)
    (q2 : ¬ ((0 ≤ form ∧ form < 3) ∧ n ≤ 60) → Q (some (vI (-2))) ((heapC tb tz tk tks tc tt iu nm ou so pl nd pa ba de en sc rsz fp ss cu os a1 a2 a3 a4 a5 b1 b2 b3 b4 b5 le fi xi0 xf0 xz0 xl0 xi1 xf1 xz1 xl1 xi2 xf2 xz2 xl2 xi3 xf3 xz3 xl3), hB))
    (q1 : (0 ≤ form ∧ form < 3) ∧ n ≤ 60 → n < 0 → Q (some (vI (-15))) ((heapC tb tz tk tks tc tt iu nm ou so pl nd pa ba de en sc rsz fp ss cu os a1 a2 a3 a4 a5 b1 b2 b3 b4 b5 le 5 xi0 xf0 xz0 xl0 xi1 xf1 xz1 xl1 xi2 xf2 xz2 xl2 xi3 xf3 xz3 xl3), hB))
    (q0 : (0 ≤ form ∧ form < 3) ∧ n ≤ 60 → 0 ≤ n → Q (some (vI n)) ((heapC tb tz tk tks tc tt iu nm ou so pl nd pa ba de en sc rsz fp ss cu os a1 a2 a3 a4 a5 b1 b2 b3 b4 b5 le fi (fz xi0 0 60 0) form n 0 xi1 xf1 xz1 xl1 xi2 xf2 xz2 xl2 xi3 xf3 xz3 xl3), hB)) : RNd ro (d + 3) 77 [vR 0, vI 0, vI form, vI n] ((heapC tb tz tk tks tc tt iu nm ou so pl nd pa ba de en sc rsz fp ss cu os a1 a2 a3 a4 a5 b1 b2 b3 b4 b5 le fi xi0 xf0 xz0 xl0 xi1 xf1 xz1 xl1 xi2 xf2 xz2 xl2 xi3 xf3 xz3 xl3), hB) Q := by
  refine WP_run [] 40 ?_
  refine t_isSh (by unfold rg; omega) (fun _ => ?_) (fun h => absurd (by omega) h)
  refine f1 ?_
  refine t_isFm hf (fun h => ?_) (fun h => ?_)
  · refine f1 ?_
    refine c2 (fun e => ?_) (fun e => ?_) hn
    · refine c1 (fun e2 => ?_) (fun e2 => ?_) hn
      · refine ix ?_
        refine t_renew_0 ?_
        exact ri (q0 ⟨h, e⟩ e2)
      · refine t_found ?_
        exact ri (q1 ⟨h, e⟩ (by omega))
    · exact ri (q2 (by omega))
  · refine t1 ?_
    exact ri (q2 (by omega))
set_option maxRecDepth 100000 in
set_option maxHeartbeats 4000000 in
theorem t_write_0 (hl : 0 ≤ xl0 ∧ xl0 ≤ 1) (hx : 0 ≤ xf0 ∧ xf0 ≤ 2) (hz : 0 ≤ xz0 ∧ xz0 ≤ 60) (hn : 0 ≤ nd ∧ nd ≤ 60)
    (q1 : xl0 ≠ 0 → Q (some (vI (-11))) ((heapC tb tz tk tks tc tt iu nm ou so pl nd pa ba de en sc rsz fp ss cu os a1 a2 a3 a4 a5 b1 b2 b3 b4 b5 le 1 xi0 xf0 xz0 xl0 xi1 xf1 xz1 xl1 xi2 xf2 xz2 xl2 xi3 xf3 xz3 xl3), hB))
    (q0 : xl0 = 0 → Q (some (vI (if nd < xz0 then nd else xz0))) ((heapC tb tz tk tks tc tt iu nm ou so pl nd pa ba de en sc rsz fp ss cu os a1 a2 a3 a4 a5 b1 b2 b3 b4 b5 le fi (fb xi0 (fun k => stZ xf0 (a3 k)) 0 (if nd < xz0 then nd else xz0)) xf0 xz0 xl0 xi1 xf1 xz1 xl1 xi2 xf2 xz2 xl2 xi3 xf3 xz3 xl3), hB)) : RNd ro (d + 2) 82 [vR 0, vI 0] ((heapC tb tz tk tks tc tt iu nm ou so pl nd pa ba de en sc rsz fp ss cu os a1 a2 a3 a4 a5 b1 b2 b3 b4 b5 le fi xi0 xf0 xz0 xl0 xi1 xf1 xz1 xl1 xi2 xf2 xz2 xl2 xi3 xf3 xz3 xl3), hB) Q := by
  have main : ∀ w : Int, 0 ≤ w → w ≤ 60 → Q (some (vI w)) ((heapC tb tz tk tks tc tt iu nm ou so pl nd pa ba de en sc rsz fp ss cu os a1 a2 a3 a4 a5 b1 b2 b3 b4 b5 le fi (fb xi0 (fun k => stZ xf0 (a3 k)) 0 w) xf0 xz0 xl0 xi1 xf1 xz1 xl1 xi2 xf2 xz2 xl2 xi3 xf3 xz3 xl3), hB) → ∀ k : Int, ∀ f : Int → Int, 0 ≤ k → k ≤ w → f = fb xi0 (fun k => stZ xf0 (a3 k)) 0 k → WPm ro (d + 1) (RNd ro (d + 1)) 82 0 0 Q 48 [vR 0, vI 0, vR 49, vI w, vI k] [] ((heapC tb tz tk tks tc tt iu nm ou so pl nd pa ba de en sc rsz fp ss cu os a1 a2 a3 a4 a5 b1 b2 b3 b4 b5 le fi f xf0 xz0 xl0 xi1 xf1 xz1 xl1 xi2 xf2 xz2 xl2 xi3 xf3 xz3 xl3), hB) 0 0 := by
    intro w w0 w1 hq
    refine loopUp w fun k ih f k0 k1 hk => ?_
    refine WP_first [48] 40 ?_
    refine c2 (fun q => ?_) (fun q => ?_)
    · rw [show k = w by omega] at hk
      rw [hk]
      exact ri hq
    · refine ix ?_
      refine t_store_0 hx (by omega) ?_
      refine ih (by omega) _ (by omega) (by omega) ?_
      rw [hk, fb_up (by omega) rfl]
  refine WP_run [48] 60 ?_
  refine t_isSh (by unfold rg; omega) (fun _ => ?_) (fun h => absurd (by omega) h)
  refine t1 ?_
  refine ix ?_
  refine c1 (fun q => ?_) (fun q => ?_)
  · refine m2 ?_
    have w2 : 0 ≤ (if nd < xz0 then nd else xz0) ∧ (if nd < xz0 then nd else xz0) ≤ 60 := by split <;> omega
    exact main _ w2.1 w2.2 (q0 q) 0 _ (by omega) w2.1 (by rw [fb_0 (by omega)])
  · refine t_found ?_
    exact ri (q1 q)
set_option maxRecDepth 100000 in
set_option maxHeartbeats 4000000 in
theorem t_read_0 {w : Int} (hw : w = if 100 - tz < frN xi0 (xz0 - 0).toNat 0 then 100 - tz else frN xi0 (xz0 - 0).toNat 0) (hl : 0 ≤ xl0 ∧ xl0 ≤ 1) (hz : 0 ≤ xz0 ∧ xz0 ≤ 60) (hr : ∀ i, rg (xi0 i)) (htz : 0 ≤ tz ∧ tz ≤ 100) (htb : rI tb 0 255) (h0 : RT0 iu nm so ou pl pa ba en) (h1 : rI a1 0 25) (h2 : rI a2 0 3) (h3 : rI a3 (-1) 59) (h5 : rI a5 (-1) 59)
    (q1 : xl0 ≠ 0 → Q (some (vI (-11))) ((heapC tb tz tk tks tc tt iu nm ou so pl nd pa ba de en sc rsz fp ss cu os a1 a2 a3 a4 a5 b1 b2 b3 b4 b5 le 1 xi0 xf0 xz0 xl0 xi1 xf1 xz1 xl1 xi2 xf2 xz2 xl2 xi3 xf3 xz3 xl3), hB))
    (q2 : xl0 = 0 → w = 0 → Q (some (vI 0)) ((heapC tb tz tk tks tc tt iu nm ou so pl nd pa ba de en sc rsz fp ss cu os a1 a2 a3 a4 a5 b1 b2 b3 b4 b5 le fi xi0 xf0 xz0 xl0 xi1 xf1 xz1 xl1 xi2 xf2 xz2 xl2 xi3 xf3 xz3 xl3), hB))
    (q0 : xl0 = 0 → 0 < w → ∀ fp' nd' sc' rsz' iu' nm' so' ou' pl' pa' ba' de' en' ss' cu' os' a1' a2' a3' a4' a5', CRd (fb tb (fun q => xi0 (q - tz)) tz (tz + w)) (tz + w) fp' nd' sc' rsz' iu' nm' so' ou' pl' pa' ba' en' a1' a2' a3' a4' a5' → Q (some (vI w)) ((heapC (fb tb (fun q => xi0 (q - tz)) tz (tz + w)) (tz + w) tk tks 0 tt iu' nm' ou' so' pl' nd' pa' ba' de' en' sc' rsz' fp' ss' cu' os' a1' a2' a3' a4' a5' b1 b2 b3 b4 b5 le fi xi0 xf0 xz0 xl0 xi1 xf1 xz1 xl1 xi2 xf2 xz2 xl2 xi3 xf3 xz3 xl3), hB)) : RNd ro (d + 9) 61 [vR 0, vI 0] ((heapC tb tz tk tks tc tt iu nm ou so pl nd pa ba de en sc rsz fp ss cu os a1 a2 a3 a4 a5 b1 b2 b3 b4 b5 le fi xi0 xf0 xz0 xl0 xi1 xf1 xz1 xl1 xi2 xf2 xz2 xl2 xi3 xf3 xz3 xl3), hB) Q := by
  obtain ⟨g1, g2, g3⟩ := fr_in xi0 (xz0 - 0).toNat 0
  have w2 : 0 ≤ w ∧ tz + w ≤ 100 ∧ w ≤ 60 ∧ w ≤ frN xi0 (xz0 - 0).toNat 0 := by rw [hw]; split <;> omega
  have main : xl0 = 0 → ∀ k : Int, ∀ (f : Int → Int) (z : Int), 0 ≤ k → k ≤ w → z = tz + k → f = fb tb (fun q => xi0 (q - tz)) tz (tz + k) → WPm ro (d + 8) (RNd ro (d + 8)) 61 0 0 Q 51 [vR 0, vI 0, vR 49, vI w, vI k] [] ((heapC f z tk tks tc tt iu nm ou so pl nd pa ba de en sc rsz fp ss cu os a1 a2 a3 a4 a5 b1 b2 b3 b4 b5 le fi xi0 xf0 xz0 xl0 xi1 xf1 xz1 xl1 xi2 xf2 xz2 xl2 xi3 xf3 xz3 xl3), hB) 0 0 := by
    intro hx
    refine loopUp w fun k ih f z k0 k1 hz hk => ?_
    refine WP_first [51] 40 ?_
    refine c2 (fun q => ?_) (fun q => ?_)
    · rw [show k = w by omega] at hk hz
      refine c1 (fun e => ?_) (fun e => ?_)
      · have e0 : w = 0 := by omega
        have hq := q2 hx e0
        rw [e0] at hz hk ⊢
        rw [fb_0 (by omega)] at hk
        rw [hz, hk, Int.add_zero]
        exact ri hq
      · have hq := q0 hx (by omega)
        have hf : rI f 0 255 := by
          rw [hk]
          exact rI_fb2 htb (fun q a b => g3 _ (by omega) (by omega))
        refine t_told (by omega) hf h0 h1 h2 h3 h5 (fun fp' nd' sc' rsz' iu' nm' so' ou' pl' pa' ba' de' en' ss' cu' os' a1' a2' a3' a4' a5' hC => ?_)
        rw [hk, hz] at hC
        have hq' := hq fp' nd' sc' rsz' iu' nm' so' ou' pl' pa' ba' de' en' ss' cu' os' a1' a2' a3' a4' a5' hC
        rw [hk, hz]
        exact ri hq'
    · refine ix ?_
      refine t_append (by omega) (fun e => by omega) (fun _ => ?_)
      refine ih (by omega) _ _ (by omega) (by omega) (by omega) ?_
      rw [hk, hz, fb_up (by omega) (by rw [show tz + k - tz = k by omega]), Int.add_assoc]
  refine WP_run [51] 60 ?_
  refine t_isSh (by unfold rg; omega) (fun _ => ?_) (fun h => absurd (by omega) h)
  refine t1 ?_
  refine ix ?_
  refine c1 (fun q => ?_) (fun q => ?_)
  · refine t_front_0 hz hr ?_
    refine m2 ?_
    rw [← hw]
    exact main q 0 tb tz (by omega) w2.1 (by omega) (by rw [fb_0 (by omega)])
  · refine t_found ?_
    exact ri (q1 q)
set_option maxRecDepth 100000 in
set_option maxHeartbeats 4000000 in
theorem t_renew_1 {f z : Int} (hQ : Q none ((heapC tb tz tk tks tc tt iu nm ou so pl nd pa ba de en sc rsz fp ss cu os a1 a2 a3 a4 a5 b1 b2 b3 b4 b5 le fi xi0 xf0 xz0 xl0 (fz xi1 0 60 0) f z 0 xi2 xf2 xz2 xl2 xi3 xf3 xz3 xl3), hB)) : RNd ro (d + 2) 29 [vR 51, vI f, vI z] ((heapC tb tz tk tks tc tt iu nm ou so pl nd pa ba de en sc rsz fp ss cu os a1 a2 a3 a4 a5 b1 b2 b3 b4 b5 le fi xi0 xf0 xz0 xl0 xi1 xf1 xz1 xl1 xi2 xf2 xz2 xl2 xi3 xf3 xz3 xl3), hB) Q := by
  refine WP_run [] 20 ?_
  refine fill_52 ?_
  exact bz hQ
set_option maxRecDepth 100000 in
set_option maxHeartbeats 4000000 in
theorem t_store_1 {i v : Int} (hf : 0 ≤ xf1 ∧ xf1 ≤ 2) (hi : 0 ≤ i ∧ i < 60) (hQ : Q none ((heapC tb tz tk tks tc tt iu nm ou so pl nd pa ba de en sc rsz fp ss cu os a1 a2 a3 a4 a5 b1 b2 b3 b4 b5 le fi xi0 xf0 xz0 xl0 (upZ xi1 i (stZ xf1 v)) xf1 xz1 xl1 xi2 xf2 xz2 xl2 xi3 xf3 xz3 xl3), hB)) : RNd ro (d + 1) 30 [vR 51, vI i, vI v] ((heapC tb tz tk tks tc tt iu nm ou so pl nd pa ba de en sc rsz fp ss cu os a1 a2 a3 a4 a5 b1 b2 b3 b4 b5 le fi xi0 xf0 xz0 xl0 xi1 xf1 xz1 xl1 xi2 xf2 xz2 xl2 xi3 xf3 xz3 xl3), hB) Q := by
  unfold stZ at hQ
  refine WP_run [] 20 ?_
  refine m1 ?_
  by_cases q0 : xf1 = 0
  · rw [if_pos q0] at hQ
    refine st ?_
    refine ix ?_
    exact hQ
  · rw [if_neg q0] at hQ
    refine sf ?_
    by_cases q1 : xf1 = 1
    · rw [if_pos q1] at hQ
      refine st ?_
      refine ix ?_
      exact hQ
    · rw [if_neg q1] at hQ
      refine sf ?_
      refine ix ?_
      exact hQ
set_option maxRecDepth 100000 in
set_option maxHeartbeats 4000000 in
theorem t_front_1 (hz : 0 ≤ xz1 ∧ xz1 ≤ 60) (hr : ∀ i, rg (xi1 i)) (hQ : Q (some (vI (frN xi1 (xz1 - 0).toNat 0))) ((heapC tb tz tk tks tc tt iu nm ou so pl nd pa ba de en sc rsz fp ss cu os a1 a2 a3 a4 a5 b1 b2 b3 b4 b5 le fi xi0 xf0 xz0 xl0 xi1 xf1 xz1 xl1 xi2 xf2 xz2 xl2 xi3 xf3 xz3 xl3), hB)) : RNd ro (d + 2) 31 [vR 51] ((heapC tb tz tk tks tc tt iu nm ou so pl nd pa ba de en sc rsz fp ss cu os a1 a2 a3 a4 a5 b1 b2 b3 b4 b5 le fi xi0 xf0 xz0 xl0 xi1 xf1 xz1 xl1 xi2 xf2 xz2 xl2 xi3 xf3 xz3 xl3), hB) Q := by
  have main : ∀ k : Int, 0 ≤ k → k ≤ xz1 → frN xi1 (xz1 - k).toNat k = frN xi1 (xz1 - 0).toNat 0 → WPm ro (d + 1) (RNd ro (d + 1)) 31 0 0 Q 2 [vR 51, vI k] [] ((heapC tb tz tk tks tc tt iu nm ou so pl nd pa ba de en sc rsz fp ss cu os a1 a2 a3 a4 a5 b1 b2 b3 b4 b5 le fi xi0 xf0 xz0 xl0 xi1 xf1 xz1 xl1 xi2 xf2 xz2 xl2 xi3 xf3 xz3 xl3), hB) 0 0 := by
    refine loopUp xz1 fun k ih k0 k1 hk => ?_
    refine WP_first [2] 30 ?_
    refine c2 (fun q => ?_) (fun q => ?_)
    · rw [fr_end q] at hk
      rw [← hk] at hQ
      exact ri hQ
    · rw [fr_st (by omega)] at hk
      refine ix ?_
      refine t_isBy (hr k) (fun h => ?_) (fun h => ?_)
      · rw [if_pos h] at hk
        refine f1 ?_
        exact ih (by omega) (by omega) (by omega) hk
      · rw [if_neg h] at hk
        rw [← hk] at hQ
        refine t1 ?_
        exact ri hQ
  exact WP_run [2] 20 (main 0 (by omega) hz.1 rfl)
set_option maxRecDepth 100000 in
set_option maxHeartbeats 4000000 in
theorem t_hasRun_1 {i n : Int} (hz : 0 ≤ xz1 ∧ xz1 ≤ 60) (hi : rg i) (hn : rg n) (h1 : 0 ≤ i ∧ 0 ≤ n ∧ i + n ≤ xz1 → Q (some (vI 1)) ((heapC tb tz tk tks tc tt iu nm ou so pl nd pa ba de en sc rsz fp ss cu os a1 a2 a3 a4 a5 b1 b2 b3 b4 b5 le fi xi0 xf0 xz0 xl0 xi1 xf1 xz1 xl1 xi2 xf2 xz2 xl2 xi3 xf3 xz3 xl3), hB)) (h0 : ¬ (0 ≤ i ∧ 0 ≤ n ∧ i + n ≤ xz1) → Q (some (vI 0)) ((heapC tb tz tk tks tc tt iu nm ou so pl nd pa ba de en sc rsz fp ss cu os a1 a2 a3 a4 a5 b1 b2 b3 b4 b5 le fi xi0 xf0 xz0 xl0 xi1 xf1 xz1 xl1 xi2 xf2 xz2 xl2 xi3 xf3 xz3 xl3), hB)) : RNd ro (d + 1) 32 [vR 51, vI i, vI n] ((heapC tb tz tk tks tc tt iu nm ou so pl nd pa ba de en sc rsz fp ss cu os a1 a2 a3 a4 a5 b1 b2 b3 b4 b5 le fi xi0 xf0 xz0 xl0 xi1 xf1 xz1 xl1 xi2 xf2 xz2 xl2 xi3 xf3 xz3 xl3), hB) Q := by
  have hn' := hn
  unfold rg at hn'
  refine WP_run [] 30 ?_
  refine c1 (fun q => ?_) (fun q => ?_) hi
  · exact rz (h0 (by omega))
  · refine c1 (fun q2 => ?_) (fun q2 => ?_) hn
    · exact rz (h0 (by omega))
    · refine c2 (fun q3 => ?_) (fun q3 => ?_) hi
      · exact rz (h0 (by omega))
      · exact rz (h1 (by omega))
set_option maxRecDepth 100000 in
set_option maxHeartbeats 4000000 in
theorem t_lose_1 (hl : 0 ≤ xl1 ∧ xl1 ≤ 1) (h1 : xl1 ≠ 0 → Q (some (vI (-11))) ((heapC tb tz tk tks tc tt iu nm ou so pl nd pa ba de en sc rsz fp ss cu os a1 a2 a3 a4 a5 b1 b2 b3 b4 b5 le 1 xi0 xf0 xz0 xl0 xi1 xf1 xz1 xl1 xi2 xf2 xz2 xl2 xi3 xf3 xz3 xl3), hB)) (h0 : xl1 = 0 → Q (some (vI xz1)) ((heapC tb tz tk tks tc tt iu nm ou so pl nd pa ba de en sc rsz fp ss cu os a1 a2 a3 a4 a5 b1 b2 b3 b4 b5 le fi xi0 xf0 xz0 xl0 xi1 xf1 xz1 1 xi2 xf2 xz2 xl2 xi3 xf3 xz3 xl3), hB)) : RNd ro (d + 2) 78 [vR 0, vI 1] ((heapC tb tz tk tks tc tt iu nm ou so pl nd pa ba de en sc rsz fp ss cu os a1 a2 a3 a4 a5 b1 b2 b3 b4 b5 le fi xi0 xf0 xz0 xl0 xi1 xf1 xz1 xl1 xi2 xf2 xz2 xl2 xi3 xf3 xz3 xl3), hB) Q := by
  refine WP_run [] 40 ?_
  refine t_isSh (by unfold rg; omega) (fun _ => ?_) (fun h => absurd (by omega) h)
  refine t1 ?_
  refine ix ?_
  refine c1 (fun q => ?_) (fun q => ?_)
  · refine bz ?_
    exact ri (h0 q)
  · refine t_found ?_
    exact ri (h1 q)
set_option maxRecDepth 100000 in
set_option maxHeartbeats 4000000 in
theorem t_refI_1 {form i : Int} (hf : rg form) (hi : rg i) (hl : 0 ≤ xl1 ∧ xl1 ≤ 1) (hx : 0 ≤ xf1 ∧ xf1 ≤ 2) (hz : 0 ≤ xz1 ∧ xz1 ≤ 60)
    (q2 : ¬ (0 ≤ form ∧ form < 3) → Q (some (vI (-2))) ((heapC tb tz tk tks tc tt iu nm ou so pl nd pa ba de en sc rsz fp ss cu os a1 a2 a3 a4 a5 b1 b2 b3 b4 b5 le fi xi0 xf0 xz0 xl0 xi1 xf1 xz1 xl1 xi2 xf2 xz2 xl2 xi3 xf3 xz3 xl3), hB))
    (q1 : 0 ≤ form ∧ form < 3 → aLk xl1 xf1 xz1 form i ≠ 0 → Q (some (vI (-10 - aLk xl1 xf1 xz1 form i))) ((heapC tb tz tk tks tc tt iu nm ou so pl nd pa ba de en sc rsz fp ss cu os a1 a2 a3 a4 a5 b1 b2 b3 b4 b5 le (aLk xl1 xf1 xz1 form i) xi0 xf0 xz0 xl0 xi1 xf1 xz1 xl1 xi2 xf2 xz2 xl2 xi3 xf3 xz3 xl3), hB))
    (q0 : 0 ≤ form ∧ form < 3 → aLk xl1 xf1 xz1 form i = 0 → Q (some (vI 0)) ((heapC tb tz tk tks tc tt iu nm ou so pl nd pa ba de en sc rsz fp ss cu os a1 a2 a3 a4 a5 b1 b2 b3 b4 b5 le fi xi0 xf0 xz0 xl0 xi1 xf1 xz1 xl1 xi2 xf2 xz2 xl2 xi3 xf3 xz3 xl3), hB)) : RNd ro (d + 2) 99 [vR 0, vI 1, vI form, vI i] ((heapC tb tz tk tks tc tt iu nm ou so pl nd pa ba de en sc rsz fp ss cu os a1 a2 a3 a4 a5 b1 b2 b3 b4 b5 le fi xi0 xf0 xz0 xl0 xi1 xf1 xz1 xl1 xi2 xf2 xz2 xl2 xi3 xf3 xz3 xl3), hB) Q := by
  unfold aLk at q1 q0
  refine WP_run [] 60 ?_
  refine t_isSh (by unfold rg; omega) (fun _ => ?_) (fun h => absurd (by omega) h)
  refine f1 ?_
  refine t_isFm hf (fun h => ?_) (fun h => ?_)
  · have q1' := q1 h
    have q0' := q0 h
    refine t1 ?_
    refine ix ?_
    refine c1 (fun e1 => ?_) (fun e1 => ?_)
    · rw [if_neg (by omega)] at q1' q0'
      refine c2 (fun e2 => ?_) (fun e2 => ?_) (by unfold rg; omega) hf
      · rw [if_neg (by omega)] at q1' q0'
        refine c1 (fun e3 => ?_) (fun e3 => ?_) hi
        · rw [if_neg (by omega)] at q1'
          refine t_found ?_
          exact ri (q1' (by omega))
        · refine c2 (fun e4 => ?_) (fun e4 => ?_) hi
          · rw [if_pos (by omega)] at q0'
            exact ri (q0' rfl)
          · rw [if_neg (by omega)] at q1'
            refine t_found ?_
            exact ri (q1' (by omega))
      · rw [if_pos (by omega)] at q1'
        refine t_found ?_
        exact ri (q1' (by omega))
    · rw [if_pos (by omega)] at q1'
      refine t_found ?_
      exact ri (q1' (by omega))
  · refine f1 ?_
    exact ri (q2 h)
set_option maxRecDepth 100000 in
set_option maxHeartbeats 4000000 in
theorem t_put_1 {form i v : Int} (hf : rg form) (hi : rg i) (hl : 0 ≤ xl1 ∧ xl1 ≤ 1) (hx : 0 ≤ xf1 ∧ xf1 ≤ 2) (hz : 0 ≤ xz1 ∧ xz1 ≤ 60)
    (q2 : ¬ (0 ≤ form ∧ form < 3) → Q (some (vI (-2))) ((heapC tb tz tk tks tc tt iu nm ou so pl nd pa ba de en sc rsz fp ss cu os a1 a2 a3 a4 a5 b1 b2 b3 b4 b5 le fi xi0 xf0 xz0 xl0 xi1 xf1 xz1 xl1 xi2 xf2 xz2 xl2 xi3 xf3 xz3 xl3), hB))
    (q1 : 0 ≤ form ∧ form < 3 → aLk xl1 xf1 xz1 form i ≠ 0 → Q (some (vI (-10 - aLk xl1 xf1 xz1 form i))) ((heapC tb tz tk tks tc tt iu nm ou so pl nd pa ba de en sc rsz fp ss cu os a1 a2 a3 a4 a5 b1 b2 b3 b4 b5 le (aLk xl1 xf1 xz1 form i) xi0 xf0 xz0 xl0 xi1 xf1 xz1 xl1 xi2 xf2 xz2 xl2 xi3 xf3 xz3 xl3), hB))
    (q0 : 0 ≤ form ∧ form < 3 → aLk xl1 xf1 xz1 form i = 0 → Q (some (vI 1)) ((heapC tb tz tk tks tc tt iu nm ou so pl nd pa ba de en sc rsz fp ss cu os a1 a2 a3 a4 a5 b1 b2 b3 b4 b5 le fi xi0 xf0 xz0 xl0 (upZ xi1 i (stZ xf1 v)) xf1 xz1 xl1 xi2 xf2 xz2 xl2 xi3 xf3 xz3 xl3), hB)) : RNd ro (d + 3) 79 [vR 0, vI 1, vI form, vI i, vI v] ((heapC tb tz tk tks tc tt iu nm ou so pl nd pa ba de en sc rsz fp ss cu os a1 a2 a3 a4 a5 b1 b2 b3 b4 b5 le fi xi0 xf0 xz0 xl0 xi1 xf1 xz1 xl1 xi2 xf2 xz2 xl2 xi3 xf3 xz3 xl3), hB) Q := by
  have lr := aLk_rg (xl := xl1) (xf := xf1) (xz := xz1) (form := form) (i := i)
  refine WP_run [] 40 ?_
  refine t_refI_1 hf hi hl hx hz (fun h => ?_) (fun h k => ?_) (fun h k => ?_)
  · refine f1 ?_
    exact ri (q2 h)
  · refine f1 ?_
    exact ri (q1 h k)
  · have z := aLk_0 k
    refine t1 ?_
    refine ix ?_
    refine t_store_1 hx (by omega) ?_
    exact ri (q0 h k)
set_option maxRecDepth 100000 in
set_option maxHeartbeats 4000000 in
theorem t_get_1 {form i : Int} (hf : rg form) (hi : rg i) (hl : 0 ≤ xl1 ∧ xl1 ≤ 1) (hx : 0 ≤ xf1 ∧ xf1 ≤ 2) (hz : 0 ≤ xz1 ∧ xz1 ≤ 60)
    (q2 : ¬ (0 ≤ form ∧ form < 3) → Q (some (vI (-2147483648))) ((heapC tb tz tk tks tc tt iu nm ou so pl nd pa ba de en sc rsz fp ss cu os a1 a2 a3 a4 a5 b1 b2 b3 b4 b5 le fi xi0 xf0 xz0 xl0 xi1 xf1 xz1 xl1 xi2 xf2 xz2 xl2 xi3 xf3 xz3 xl3), hB))
    (q1 : 0 ≤ form ∧ form < 3 → aLk xl1 xf1 xz1 form i ≠ 0 → Q (some (vI (-2147483648))) ((heapC tb tz tk tks tc tt iu nm ou so pl nd pa ba de en sc rsz fp ss cu os a1 a2 a3 a4 a5 b1 b2 b3 b4 b5 le (aLk xl1 xf1 xz1 form i) xi0 xf0 xz0 xl0 xi1 xf1 xz1 xl1 xi2 xf2 xz2 xl2 xi3 xf3 xz3 xl3), hB))
    (q0 : 0 ≤ form ∧ form < 3 → aLk xl1 xf1 xz1 form i = 0 → Q (some (vI (xi1 i))) ((heapC tb tz tk tks tc tt iu nm ou so pl nd pa ba de en sc rsz fp ss cu os a1 a2 a3 a4 a5 b1 b2 b3 b4 b5 le fi xi0 xf0 xz0 xl0 xi1 xf1 xz1 xl1 xi2 xf2 xz2 xl2 xi3 xf3 xz3 xl3), hB)) : RNd ro (d + 3) 80 [vR 0, vI 1, vI form, vI i] ((heapC tb tz tk tks tc tt iu nm ou so pl nd pa ba de en sc rsz fp ss cu os a1 a2 a3 a4 a5 b1 b2 b3 b4 b5 le fi xi0 xf0 xz0 xl0 xi1 xf1 xz1 xl1 xi2 xf2 xz2 xl2 xi3 xf3 xz3 xl3), hB) Q := by
  have lr := aLk_rg (xl := xl1) (xf := xf1) (xz := xz1) (form := form) (i := i)
  refine WP_run [] 40 ?_
  refine t_refI_1 hf hi hl hx hz (fun h => ?_) (fun h k => ?_) (fun h k => ?_)
  · refine f1 ?_
    exact ri (q2 h)
  · refine f1 ?_
    exact ri (q1 h k)
  · have z := aLk_0 k
    refine t1 ?_
    refine ix ?_
    refine ix ?_
    exact ri (q0 h k)
set_option maxRecDepth 100000 in
set_option maxHeartbeats 4000000 in
theorem t_sheet_1 {form n : Int} (hf : rg form) (hn : rg n)
    (q2 : ¬ ((0 ≤ form ∧ form < 3) ∧ n ≤ 60) → Q (some (vI (-2))) ((heapC tb tz tk tks tc tt iu nm ou so pl nd pa ba de en sc rsz fp ss cu os a1 a2 a3 a4 a5 b1 b2 b3 b4 b5 le fi xi0 xf0 xz0 xl0 xi1 xf1 xz1 xl1 xi2 xf2 xz2 xl2 xi3 xf3 xz3 xl3), hB))
    (q1 : (0 ≤ form ∧ form < 3) ∧ n ≤ 60 → n < 0 → Q (some (vI (-15))) ((heapC tb tz tk tks tc tt iu nm ou so pl nd pa ba de en sc rsz fp ss cu os a1 a2 a3 a4 a5 b1 b2 b3 b4 b5 le 5 xi0 xf0 xz0 xl0 xi1 xf1 xz1 xl1 xi2 xf2 xz2 xl2 xi3 xf3 xz3 xl3), hB))
    (q0 : (0 ≤ form ∧ form < 3) ∧ n ≤ 60 → 0 ≤ n → Q (some (vI n)) ((heapC tb tz tk tks tc tt iu nm ou so pl nd pa ba de en sc rsz fp ss cu os a1 a2 a3 a4 a5 b1 b2 b3 b4 b5 le fi xi0 xf0 xz0 xl0 (fz xi1 0 60 0) form n 0 xi2 xf2 xz2 xl2 xi3 xf3 xz3 xl3), hB)) : RNd ro (d + 3) 77 [vR 0, vI 1, vI form, vI n] ((heapC tb tz tk tks tc tt iu nm ou so pl nd pa ba de en sc rsz fp ss cu os a1 a2 a3 a4 a5 b1 b2 b3 b4 b5 le fi xi0 xf0 xz0 xl0 xi1 xf1 xz1 xl1 xi2 xf2 xz2 xl2 xi3 xf3 xz3 xl3), hB) Q := by
  refine WP_run [] 40 ?_
  refine t_isSh (by unfold rg; omega) (fun _ => ?_) (fun h => absurd (by omega) h)
  refine f1 ?_
  refine t_isFm hf (fun h => ?_) (fun h => ?_)
  · refine f1 ?_
    refine c2 (fun e => ?_) (fun e => ?_) hn
    · refine c1 (fun e2 => ?_) (fun e2 => ?_) hn
      · refine ix ?_
        refine t_renew_1 ?_
        exact ri (q0 ⟨h, e⟩ e2)
      · refine t_found ?_
        exact ri (q1 ⟨h, e⟩ (by omega))
    · exact ri (q2 (by omega))
  · refine t1 ?_
    exact ri (q2 (by omega))
set_option maxRecDepth 100000 in
set_option maxHeartbeats 4000000 in
theorem t_write_1 (hl : 0 ≤ xl1 ∧ xl1 ≤ 1) (hx : 0 ≤ xf1 ∧ xf1 ≤ 2) (hz : 0 ≤ xz1 ∧ xz1 ≤ 60) (hn : 0 ≤ nd ∧ nd ≤ 60)
    (q1 : xl1 ≠ 0 → Q (some (vI (-11))) ((heapC tb tz tk tks tc tt iu nm ou so pl nd pa ba de en sc rsz fp ss cu os a1 a2 a3 a4 a5 b1 b2 b3 b4 b5 le 1 xi0 xf0 xz0 xl0 xi1 xf1 xz1 xl1 xi2 xf2 xz2 xl2 xi3 xf3 xz3 xl3), hB))
    (q0 : xl1 = 0 → Q (some (vI (if nd < xz1 then nd else xz1))) ((heapC tb tz tk tks tc tt iu nm ou so pl nd pa ba de en sc rsz fp ss cu os a1 a2 a3 a4 a5 b1 b2 b3 b4 b5 le fi xi0 xf0 xz0 xl0 (fb xi1 (fun k => stZ xf1 (a3 k)) 0 (if nd < xz1 then nd else xz1)) xf1 xz1 xl1 xi2 xf2 xz2 xl2 xi3 xf3 xz3 xl3), hB)) : RNd ro (d + 2) 82 [vR 0, vI 1] ((heapC tb tz tk tks tc tt iu nm ou so pl nd pa ba de en sc rsz fp ss cu os a1 a2 a3 a4 a5 b1 b2 b3 b4 b5 le fi xi0 xf0 xz0 xl0 xi1 xf1 xz1 xl1 xi2 xf2 xz2 xl2 xi3 xf3 xz3 xl3), hB) Q := by
  have main : ∀ w : Int, 0 ≤ w → w ≤ 60 → Q (some (vI w)) ((heapC tb tz tk tks tc tt iu nm ou so pl nd pa ba de en sc rsz fp ss cu os a1 a2 a3 a4 a5 b1 b2 b3 b4 b5 le fi xi0 xf0 xz0 xl0 (fb xi1 (fun k => stZ xf1 (a3 k)) 0 w) xf1 xz1 xl1 xi2 xf2 xz2 xl2 xi3 xf3 xz3 xl3), hB) → ∀ k : Int, ∀ f : Int → Int, 0 ≤ k → k ≤ w → f = fb xi1 (fun k => stZ xf1 (a3 k)) 0 k → WPm ro (d + 1) (RNd ro (d + 1)) 82 0 0 Q 48 [vR 0, vI 1, vR 51, vI w, vI k] [] ((heapC tb tz tk tks tc tt iu nm ou so pl nd pa ba de en sc rsz fp ss cu os a1 a2 a3 a4 a5 b1 b2 b3 b4 b5 le fi xi0 xf0 xz0 xl0 f xf1 xz1 xl1 xi2 xf2 xz2 xl2 xi3 xf3 xz3 xl3), hB) 0 0 := by
    intro w w0 w1 hq
    refine loopUp w fun k ih f k0 k1 hk => ?_
    refine WP_first [48] 40 ?_
    refine c2 (fun q => ?_) (fun q => ?_)
    · rw [show k = w by omega] at hk
      rw [hk]
      exact ri hq
    · refine ix ?_
      refine t_store_1 hx (by omega) ?_
      refine ih (by omega) _ (by omega) (by omega) ?_
      rw [hk, fb_up (by omega) rfl]
  refine WP_run [48] 60 ?_
  refine t_isSh (by unfold rg; omega) (fun _ => ?_) (fun h => absurd (by omega) h)
  refine t1 ?_
  refine ix ?_
  refine c1 (fun q => ?_) (fun q => ?_)
  · refine m2 ?_
    have w2 : 0 ≤ (if nd < xz1 then nd else xz1) ∧ (if nd < xz1 then nd else xz1) ≤ 60 := by split <;> omega
    exact main _ w2.1 w2.2 (q0 q) 0 _ (by omega) w2.1 (by rw [fb_0 (by omega)])
  · refine t_found ?_
    exact ri (q1 q)
set_option maxRecDepth 100000 in
set_option maxHeartbeats 4000000 in
theorem t_read_1 {w : Int} (hw : w = if 100 - tz < frN xi1 (xz1 - 0).toNat 0 then 100 - tz else frN xi1 (xz1 - 0).toNat 0) (hl : 0 ≤ xl1 ∧ xl1 ≤ 1) (hz : 0 ≤ xz1 ∧ xz1 ≤ 60) (hr : ∀ i, rg (xi1 i)) (htz : 0 ≤ tz ∧ tz ≤ 100) (htb : rI tb 0 255) (h0 : RT0 iu nm so ou pl pa ba en) (h1 : rI a1 0 25) (h2 : rI a2 0 3) (h3 : rI a3 (-1) 59) (h5 : rI a5 (-1) 59)
    (q1 : xl1 ≠ 0 → Q (some (vI (-11))) ((heapC tb tz tk tks tc tt iu nm ou so pl nd pa ba de en sc rsz fp ss cu os a1 a2 a3 a4 a5 b1 b2 b3 b4 b5 le 1 xi0 xf0 xz0 xl0 xi1 xf1 xz1 xl1 xi2 xf2 xz2 xl2 xi3 xf3 xz3 xl3), hB))
    (q2 : xl1 = 0 → w = 0 → Q (some (vI 0)) ((heapC tb tz tk tks tc tt iu nm ou so pl nd pa ba de en sc rsz fp ss cu os a1 a2 a3 a4 a5 b1 b2 b3 b4 b5 le fi xi0 xf0 xz0 xl0 xi1 xf1 xz1 xl1 xi2 xf2 xz2 xl2 xi3 xf3 xz3 xl3), hB))
    (q0 : xl1 = 0 → 0 < w → ∀ fp' nd' sc' rsz' iu' nm' so' ou' pl' pa' ba' de' en' ss' cu' os' a1' a2' a3' a4' a5', CRd (fb tb (fun q => xi1 (q - tz)) tz (tz + w)) (tz + w) fp' nd' sc' rsz' iu' nm' so' ou' pl' pa' ba' en' a1' a2' a3' a4' a5' → Q (some (vI w)) ((heapC (fb tb (fun q => xi1 (q - tz)) tz (tz + w)) (tz + w) tk tks 0 tt iu' nm' ou' so' pl' nd' pa' ba' de' en' sc' rsz' fp' ss' cu' os' a1' a2' a3' a4' a5' b1 b2 b3 b4 b5 le fi xi0 xf0 xz0 xl0 xi1 xf1 xz1 xl1 xi2 xf2 xz2 xl2 xi3 xf3 xz3 xl3), hB)) : RNd ro (d + 9) 61 [vR 0, vI 1] ((heapC tb tz tk tks tc tt iu nm ou so pl nd pa ba de en sc rsz fp ss cu os a1 a2 a3 a4 a5 b1 b2 b3 b4 b5 le fi xi0 xf0 xz0 xl0 xi1 xf1 xz1 xl1 xi2 xf2 xz2 xl2 xi3 xf3 xz3 xl3), hB) Q := by
  obtain ⟨g1, g2, g3⟩ := fr_in xi1 (xz1 - 0).toNat 0
  have w2 : 0 ≤ w ∧ tz + w ≤ 100 ∧ w ≤ 60 ∧ w ≤ frN xi1 (xz1 - 0).toNat 0 := by rw [hw]; split <;> omega
  have main : xl1 = 0 → ∀ k : Int, ∀ (f : Int → Int) (z : Int), 0 ≤ k → k ≤ w → z = tz + k → f = fb tb (fun q => xi1 (q - tz)) tz (tz + k) → WPm ro (d + 8) (RNd ro (d + 8)) 61 0 0 Q 51 [vR 0, vI 1, vR 51, vI w, vI k] [] ((heapC f z tk tks tc tt iu nm ou so pl nd pa ba de en sc rsz fp ss cu os a1 a2 a3 a4 a5 b1 b2 b3 b4 b5 le fi xi0 xf0 xz0 xl0 xi1 xf1 xz1 xl1 xi2 xf2 xz2 xl2 xi3 xf3 xz3 xl3), hB) 0 0 := by
    intro hx
    refine loopUp w fun k ih f z k0 k1 hz hk => ?_
    refine WP_first [51] 40 ?_
    refine c2 (fun q => ?_) (fun q => ?_)
    · rw [show k = w by omega] at hk hz
      refine c1 (fun e => ?_) (fun e => ?_)
      · have e0 : w = 0 := by omega
        have hq := q2 hx e0
        rw [e0] at hz hk ⊢
        rw [fb_0 (by omega)] at hk
        rw [hz, hk, Int.add_zero]
        exact ri hq
      · have hq := q0 hx (by omega)
        have hf : rI f 0 255 := by
          rw [hk]
          exact rI_fb2 htb (fun q a b => g3 _ (by omega) (by omega))
        refine t_told (by omega) hf h0 h1 h2 h3 h5 (fun fp' nd' sc' rsz' iu' nm' so' ou' pl' pa' ba' de' en' ss' cu' os' a1' a2' a3' a4' a5' hC => ?_)
        rw [hk, hz] at hC
        have hq' := hq fp' nd' sc' rsz' iu' nm' so' ou' pl' pa' ba' de' en' ss' cu' os' a1' a2' a3' a4' a5' hC
        rw [hk, hz]
        exact ri hq'
    · refine ix ?_
      refine t_append (by omega) (fun e => by omega) (fun _ => ?_)
      refine ih (by omega) _ _ (by omega) (by omega) (by omega) ?_
      rw [hk, hz, fb_up (by omega) (by rw [show tz + k - tz = k by omega]), Int.add_assoc]
  refine WP_run [51] 60 ?_
  refine t_isSh (by unfold rg; omega) (fun _ => ?_) (fun h => absurd (by omega) h)
  refine t1 ?_
  refine ix ?_
  refine c1 (fun q => ?_) (fun q => ?_)
  · refine t_front_1 hz hr ?_
    refine m2 ?_
    rw [← hw]
    exact main q 0 tb tz (by omega) w2.1 (by omega) (by rw [fb_0 (by omega)])
  · refine t_found ?_
    exact ri (q1 q)
set_option maxRecDepth 100000 in
set_option maxHeartbeats 4000000 in
theorem t_renew_2 {f z : Int} (hQ : Q none ((heapC tb tz tk tks tc tt iu nm ou so pl nd pa ba de en sc rsz fp ss cu os a1 a2 a3 a4 a5 b1 b2 b3 b4 b5 le fi xi0 xf0 xz0 xl0 xi1 xf1 xz1 xl1 (fz xi2 0 60 0) f z 0 xi3 xf3 xz3 xl3), hB)) : RNd ro (d + 2) 29 [vR 53, vI f, vI z] ((heapC tb tz tk tks tc tt iu nm ou so pl nd pa ba de en sc rsz fp ss cu os a1 a2 a3 a4 a5 b1 b2 b3 b4 b5 le fi xi0 xf0 xz0 xl0 xi1 xf1 xz1 xl1 xi2 xf2 xz2 xl2 xi3 xf3 xz3 xl3), hB) Q := by
  refine WP_run [] 20 ?_
  refine fill_54 ?_
  exact bz hQ
set_option maxRecDepth 100000 in
set_option maxHeartbeats 4000000 in
theorem t_store_2 {i v : Int} (hf : 0 ≤ xf2 ∧ xf2 ≤ 2) (hi : 0 ≤ i ∧ i < 60) (hQ : Q none ((heapC tb tz tk tks tc tt iu nm ou so pl nd pa ba de en sc rsz fp ss cu os a1 a2 a3 a4 a5 b1 b2 b3 b4 b5 le fi xi0 xf0 xz0 xl0 xi1 xf1 xz1 xl1 (upZ xi2 i (stZ xf2 v)) xf2 xz2 xl2 xi3 xf3 xz3 xl3), hB)) : RNd ro (d + 1) 30 [vR 53, vI i, vI v] ((heapC tb tz tk tks tc tt iu nm ou so pl nd pa ba de en sc rsz fp ss cu os a1 a2 a3 a4 a5 b1 b2 b3 b4 b5 le fi xi0 xf0 xz0 xl0 xi1 xf1 xz1 xl1 xi2 xf2 xz2 xl2 xi3 xf3 xz3 xl3), hB) Q := by
  unfold stZ at hQ
  refine WP_run [] 20 ?_
  refine m1 ?_
  by_cases q0 : xf2 = 0
  · rw [if_pos q0] at hQ
    refine st ?_
    refine ix ?_
    exact hQ
  · rw [if_neg q0] at hQ
    refine sf ?_
    by_cases q1 : xf2 = 1
    · rw [if_pos q1] at hQ
      refine st ?_
      refine ix ?_
      exact hQ
    · rw [if_neg q1] at hQ
      refine sf ?_
      refine ix ?_
      exact hQ
set_option maxRecDepth 100000 in
set_option maxHeartbeats 4000000 in
theorem t_front_2 (hz : 0 ≤ xz2 ∧ xz2 ≤ 60) (hr : ∀ i, rg (xi2 i)) (hQ : Q (some (vI (frN xi2 (xz2 - 0).toNat 0))) ((heapC tb tz tk tks tc tt iu nm ou so pl nd pa ba de en sc rsz fp ss cu os a1 a2 a3 a4 a5 b1 b2 b3 b4 b5 le fi xi0 xf0 xz0 xl0 xi1 xf1 xz1 xl1 xi2 xf2 xz2 xl2 xi3 xf3 xz3 xl3), hB)) : RNd ro (d + 2) 31 [vR 53] ((heapC tb tz tk tks tc tt iu nm ou so pl nd pa ba de en sc rsz fp ss cu os a1 a2 a3 a4 a5 b1 b2 b3 b4 b5 le fi xi0 xf0 xz0 xl0 xi1 xf1 xz1 xl1 xi2 xf2 xz2 xl2 xi3 xf3 xz3 xl3), hB) Q := by
  have main : ∀ k : Int, 0 ≤ k → k ≤ xz2 → frN xi2 (xz2 - k).toNat k = frN xi2 (xz2 - 0).toNat 0 → WPm ro (d + 1) (RNd ro (d + 1)) 31 0 0 Q 2 [vR 53, vI k] [] ((heapC tb tz tk tks tc tt iu nm ou so pl nd pa ba de en sc rsz fp ss cu os a1 a2 a3 a4 a5 b1 b2 b3 b4 b5 le fi xi0 xf0 xz0 xl0 xi1 xf1 xz1 xl1 xi2 xf2 xz2 xl2 xi3 xf3 xz3 xl3), hB) 0 0 := by
    refine loopUp xz2 fun k ih k0 k1 hk => ?_
    refine WP_first [2] 30 ?_
    refine c2 (fun q => ?_) (fun q => ?_)
    · rw [fr_end q] at hk
      rw [← hk] at hQ
      exact ri hQ
    · rw [fr_st (by omega)] at hk
      refine ix ?_
      refine t_isBy (hr k) (fun h => ?_) (fun h => ?_)
      · rw [if_pos h] at hk
        refine f1 ?_
        exact ih (by omega) (by omega) (by omega) hk
      · rw [if_neg h] at hk
        rw [← hk] at hQ
        refine t1 ?_
        exact ri hQ
  exact WP_run [2] 20 (main 0 (by omega) hz.1 rfl)
set_option maxRecDepth 100000 in
set_option maxHeartbeats 4000000 in
theorem t_hasRun_2 {i n : Int} (hz : 0 ≤ xz2 ∧ xz2 ≤ 60) (hi : rg i) (hn : rg n) (h1 : 0 ≤ i ∧ 0 ≤ n ∧ i + n ≤ xz2 → Q (some (vI 1)) ((heapC tb tz tk tks tc tt iu nm ou so pl nd pa ba de en sc rsz fp ss cu os a1 a2 a3 a4 a5 b1 b2 b3 b4 b5 le fi xi0 xf0 xz0 xl0 xi1 xf1 xz1 xl1 xi2 xf2 xz2 xl2 xi3 xf3 xz3 xl3), hB)) (h0 : ¬ (0 ≤ i ∧ 0 ≤ n ∧ i + n ≤ xz2) → Q (some (vI 0)) ((heapC tb tz tk tks tc tt iu nm ou so pl nd pa ba de en sc rsz fp ss cu os a1 a2 a3 a4 a5 b1 b2 b3 b4 b5 le fi xi0 xf0 xz0 xl0 xi1 xf1 xz1 xl1 xi2 xf2 xz2 xl2 xi3 xf3 xz3 xl3), hB)) : RNd ro (d + 1) 32 [vR 53, vI i, vI n] ((heapC tb tz tk tks tc tt iu nm ou so pl nd pa ba de en sc rsz fp ss cu os a1 a2 a3 a4 a5 b1 b2 b3 b4 b5 le fi xi0 xf0 xz0 xl0 xi1 xf1 xz1 xl1 xi2 xf2 xz2 xl2 xi3 xf3 xz3 xl3), hB) Q := by
  have hn' := hn
  unfold rg at hn'
  refine WP_run [] 30 ?_
  refine c1 (fun q => ?_) (fun q => ?_) hi
  · exact rz (h0 (by omega))
  · refine c1 (fun q2 => ?_) (fun q2 => ?_) hn
    · exact rz (h0 (by omega))
    · refine c2 (fun q3 => ?_) (fun q3 => ?_) hi
      · exact rz (h0 (by omega))
      · exact rz (h1 (by omega))
set_option maxRecDepth 100000 in
set_option maxHeartbeats 4000000 in
theorem t_lose_2 (hl : 0 ≤ xl2 ∧ xl2 ≤ 1) (h1 : xl2 ≠ 0 → Q (some (vI (-11))) ((heapC tb tz tk tks tc tt iu nm ou so pl nd pa ba de en sc rsz fp ss cu os a1 a2 a3 a4 a5 b1 b2 b3 b4 b5 le 1 xi0 xf0 xz0 xl0 xi1 xf1 xz1 xl1 xi2 xf2 xz2 xl2 xi3 xf3 xz3 xl3), hB)) (h0 : xl2 = 0 → Q (some (vI xz2)) ((heapC tb tz tk tks tc tt iu nm ou so pl nd pa ba de en sc rsz fp ss cu os a1 a2 a3 a4 a5 b1 b2 b3 b4 b5 le fi xi0 xf0 xz0 xl0 xi1 xf1 xz1 xl1 xi2 xf2 xz2 1 xi3 xf3 xz3 xl3), hB)) : RNd ro (d + 2) 78 [vR 0, vI 2] ((heapC tb tz tk tks tc tt iu nm ou so pl nd pa ba de en sc rsz fp ss cu os a1 a2 a3 a4 a5 b1 b2 b3 b4 b5 le fi xi0 xf0 xz0 xl0 xi1 xf1 xz1 xl1 xi2 xf2 xz2 xl2 xi3 xf3 xz3 xl3), hB) Q := by
  refine WP_run [] 40 ?_
  refine t_isSh (by unfold rg; omega) (fun _ => ?_) (fun h => absurd (by omega) h)
  refine t1 ?_
  refine ix ?_
  refine c1 (fun q => ?_) (fun q => ?_)
  · refine bz ?_
    exact ri (h0 q)
  · refine t_found ?_
    exact ri (h1 q)
set_option maxRecDepth 100000 in
set_option maxHeartbeats 4000000 in
theorem t_refI_2 {form i : Int} (hf : rg form) (hi : rg i) (hl : 0 ≤ xl2 ∧ xl2 ≤ 1) (hx : 0 ≤ xf2 ∧ xf2 ≤ 2) (hz : 0 ≤ xz2 ∧ xz2 ≤ 60)
    (q2 : ¬ (0 ≤ form ∧ form < 3) → Q (some (vI (-2))) ((heapC tb tz tk tks tc tt iu nm ou so pl nd pa ba de en sc rsz fp ss cu os a1 a2 a3 a4 a5 b1 b2 b3 b4 b5 le fi xi0 xf0 xz0 xl0 xi1 xf1 xz1 xl1 xi2 xf2 xz2 xl2 xi3 xf3 xz3 xl3), hB))
    (q1 : 0 ≤ form ∧ form < 3 → aLk xl2 xf2 xz2 form i ≠ 0 → Q (some (vI (-10 - aLk xl2 xf2 xz2 form i))) ((heapC tb tz tk tks tc tt iu nm ou so pl nd pa ba de en sc rsz fp ss cu os a1 a2 a3 a4 a5 b1 b2 b3 b4 b5 le (aLk xl2 xf2 xz2 form i) xi0 xf0 xz0 xl0 xi1 xf1 xz1 xl1 xi2 xf2 xz2 xl2 xi3 xf3 xz3 xl3), hB))
    (q0 : 0 ≤ form ∧ form < 3 → aLk xl2 xf2 xz2 form i = 0 → Q (some (vI 0)) ((heapC tb tz tk tks tc tt iu nm ou so pl nd pa ba de en sc rsz fp ss cu os a1 a2 a3 a4 a5 b1 b2 b3 b4 b5 le fi xi0 xf0 xz0 xl0 xi1 xf1 xz1 xl1 xi2 xf2 xz2 xl2 xi3 xf3 xz3 xl3), hB)) : RNd ro (d + 2) 99 [vR 0, vI 2, vI form, vI i] ((heapC tb tz tk tks tc tt iu nm ou so pl nd pa ba de en sc rsz fp ss cu os a1 a2 a3 a4 a5 b1 b2 b3 b4 b5 le fi xi0 xf0 xz0 xl0 xi1 xf1 xz1 xl1 xi2 xf2 xz2 xl2 xi3 xf3 xz3 xl3), hB) Q := by
  unfold aLk at q1 q0
  refine WP_run [] 60 ?_
  refine t_isSh (by unfold rg; omega) (fun _ => ?_) (fun h => absurd (by omega) h)
  refine f1 ?_
  refine t_isFm hf (fun h => ?_) (fun h => ?_)
  · have q1' := q1 h
    have q0' := q0 h
    refine t1 ?_
    refine ix ?_
    refine c1 (fun e1 => ?_) (fun e1 => ?_)
    · rw [if_neg (by omega)] at q1' q0'
      refine c2 (fun e2 => ?_) (fun e2 => ?_) (by unfold rg; omega) hf
      · rw [if_neg (by omega)] at q1' q0'
        refine c1 (fun e3 => ?_) (fun e3 => ?_) hi
        · rw [if_neg (by omega)] at q1'
          refine t_found ?_
          exact ri (q1' (by omega))
        · refine c2 (fun e4 => ?_) (fun e4 => ?_) hi
          · rw [if_pos (by omega)] at q0'
            exact ri (q0' rfl)
          · rw [if_neg (by omega)] at q1'
            refine t_found ?_
            exact ri (q1' (by omega))
      · rw [if_pos (by omega)] at q1'
        refine t_found ?_
        exact ri (q1' (by omega))
    · rw [if_pos (by omega)] at q1'
      refine t_found ?_
      exact ri (q1' (by omega))
  · refine f1 ?_
    exact ri (q2 h)
set_option maxRecDepth 100000 in
set_option maxHeartbeats 4000000 in
theorem t_put_2 {form i v : Int} (hf : rg form) (hi : rg i) (hl : 0 ≤ xl2 ∧ xl2 ≤ 1) (hx : 0 ≤ xf2 ∧ xf2 ≤ 2) (hz : 0 ≤ xz2 ∧ xz2 ≤ 60)
    (q2 : ¬ (0 ≤ form ∧ form < 3) → Q (some (vI (-2))) ((heapC tb tz tk tks tc tt iu nm ou so pl nd pa ba de en sc rsz fp ss cu os a1 a2 a3 a4 a5 b1 b2 b3 b4 b5 le fi xi0 xf0 xz0 xl0 xi1 xf1 xz1 xl1 xi2 xf2 xz2 xl2 xi3 xf3 xz3 xl3), hB))
    (q1 : 0 ≤ form ∧ form < 3 → aLk xl2 xf2 xz2 form i ≠ 0 → Q (some (vI (-10 - aLk xl2 xf2 xz2 form i))) ((heapC tb tz tk tks tc tt iu nm ou so pl nd pa ba de en sc rsz fp ss cu os a1 a2 a3 a4 a5 b1 b2 b3 b4 b5 le (aLk xl2 xf2 xz2 form i) xi0 xf0 xz0 xl0 xi1 xf1 xz1 xl1 xi2 xf2 xz2 xl2 xi3 xf3 xz3 xl3), hB))
    (q0 : 0 ≤ form ∧ form < 3 → aLk xl2 xf2 xz2 form i = 0 → Q (some (vI 1)) ((heapC tb tz tk tks tc tt iu nm ou so pl nd pa ba de en sc rsz fp ss cu os a1 a2 a3 a4 a5 b1 b2 b3 b4 b5 le fi xi0 xf0 xz0 xl0 xi1 xf1 xz1 xl1 (upZ xi2 i (stZ xf2 v)) xf2 xz2 xl2 xi3 xf3 xz3 xl3), hB)) : RNd ro (d + 3) 79 [vR 0, vI 2, vI form, vI i, vI v] ((heapC tb tz tk tks tc tt iu nm ou so pl nd pa ba de en sc rsz fp ss cu os a1 a2 a3 a4 a5 b1 b2 b3 b4 b5 le fi xi0 xf0 xz0 xl0 xi1 xf1 xz1 xl1 xi2 xf2 xz2 xl2 xi3 xf3 xz3 xl3), hB) Q := by
  have lr := aLk_rg (xl := xl2) (xf := xf2) (xz := xz2) (form := form) (i := i)
  refine WP_run [] 40 ?_
  refine t_refI_2 hf hi hl hx hz (fun h => ?_) (fun h k => ?_) (fun h k => ?_)
  · refine f1 ?_
    exact ri (q2 h)
  · refine f1 ?_
    exact ri (q1 h k)
  · have z := aLk_0 k
    refine t1 ?_
    refine ix ?_
    refine t_store_2 hx (by omega) ?_
    exact ri (q0 h k)
set_option maxRecDepth 100000 in
set_option maxHeartbeats 4000000 in
theorem t_get_2 {form i : Int} (hf : rg form) (hi : rg i) (hl : 0 ≤ xl2 ∧ xl2 ≤ 1) (hx : 0 ≤ xf2 ∧ xf2 ≤ 2) (hz : 0 ≤ xz2 ∧ xz2 ≤ 60)
    (q2 : ¬ (0 ≤ form ∧ form < 3) → Q (some (vI (-2147483648))) ((heapC tb tz tk tks tc tt iu nm ou so pl nd pa ba de en sc rsz fp ss cu os a1 a2 a3 a4 a5 b1 b2 b3 b4 b5 le fi xi0 xf0 xz0 xl0 xi1 xf1 xz1 xl1 xi2 xf2 xz2 xl2 xi3 xf3 xz3 xl3), hB))
    (q1 : 0 ≤ form ∧ form < 3 → aLk xl2 xf2 xz2 form i ≠ 0 → Q (some (vI (-2147483648))) ((heapC tb tz tk tks tc tt iu nm ou so pl nd pa ba de en sc rsz fp ss cu os a1 a2 a3 a4 a5 b1 b2 b3 b4 b5 le (aLk xl2 xf2 xz2 form i) xi0 xf0 xz0 xl0 xi1 xf1 xz1 xl1 xi2 xf2 xz2 xl2 xi3 xf3 xz3 xl3), hB))
    (q0 : 0 ≤ form ∧ form < 3 → aLk xl2 xf2 xz2 form i = 0 → Q (some (vI (xi2 i))) ((heapC tb tz tk tks tc tt iu nm ou so pl nd pa ba de en sc rsz fp ss cu os a1 a2 a3 a4 a5 b1 b2 b3 b4 b5 le fi xi0 xf0 xz0 xl0 xi1 xf1 xz1 xl1 xi2 xf2 xz2 xl2 xi3 xf3 xz3 xl3), hB)) : RNd ro (d + 3) 80 [vR 0, vI 2, vI form, vI i] ((heapC tb tz tk tks tc tt iu nm ou so pl nd pa ba de en sc rsz fp ss cu os a1 a2 a3 a4 a5 b1 b2 b3 b4 b5 le fi xi0 xf0 xz0 xl0 xi1 xf1 xz1 xl1 xi2 xf2 xz2 xl2 xi3 xf3 xz3 xl3), hB) Q := by
  have lr := aLk_rg (xl := xl2) (xf := xf2) (xz := xz2) (form := form) (i := i)
  refine WP_run [] 40 ?_
  refine t_refI_2 hf hi hl hx hz (fun h => ?_) (fun h k => ?_) (fun h k => ?_)
  · refine f1 ?_
    exact ri (q2 h)
  · refine f1 ?_
    exact ri (q1 h k)
  · have z := aLk_0 k
    refine t1 ?_
    refine ix ?_
    refine ix ?_
    exact ri (q0 h k)
set_option maxRecDepth 100000 in
set_option maxHeartbeats 4000000 in
theorem t_sheet_2 {form n : Int} (hf : rg form) (hn : rg n)
    (q2 : ¬ ((0 ≤ form ∧ form < 3) ∧ n ≤ 60) → Q (some (vI (-2))) ((heapC tb tz tk tks tc tt iu nm ou so pl nd pa ba de en sc rsz fp ss cu os a1 a2 a3 a4 a5 b1 b2 b3 b4 b5 le fi xi0 xf0 xz0 xl0 xi1 xf1 xz1 xl1 xi2 xf2 xz2 xl2 xi3 xf3 xz3 xl3), hB))
    (q1 : (0 ≤ form ∧ form < 3) ∧ n ≤ 60 → n < 0 → Q (some (vI (-15))) ((heapC tb tz tk tks tc tt iu nm ou so pl nd pa ba de en sc rsz fp ss cu os a1 a2 a3 a4 a5 b1 b2 b3 b4 b5 le 5 xi0 xf0 xz0 xl0 xi1 xf1 xz1 xl1 xi2 xf2 xz2 xl2 xi3 xf3 xz3 xl3), hB))
    (q0 : (0 ≤ form ∧ form < 3) ∧ n ≤ 60 → 0 ≤ n → Q (some (vI n)) ((heapC tb tz tk tks tc tt iu nm ou so pl nd pa ba de en sc rsz fp ss cu os a1 a2 a3 a4 a5 b1 b2 b3 b4 b5 le fi xi0 xf0 xz0 xl0 xi1 xf1 xz1 xl1 (fz xi2 0 60 0) form n 0 xi3 xf3 xz3 xl3), hB)) : RNd ro (d + 3) 77 [vR 0, vI 2, vI form, vI n] ((heapC tb tz tk tks tc tt iu nm ou so pl nd pa ba de en sc rsz fp ss cu os a1 a2 a3 a4 a5 b1 b2 b3 b4 b5 le fi xi0 xf0 xz0 xl0 xi1 xf1 xz1 xl1 xi2 xf2 xz2 xl2 xi3 xf3 xz3 xl3), hB) Q := by
  refine WP_run [] 40 ?_
  refine t_isSh (by unfold rg; omega) (fun _ => ?_) (fun h => absurd (by omega) h)
  refine f1 ?_
  refine t_isFm hf (fun h => ?_) (fun h => ?_)
  · refine f1 ?_
    refine c2 (fun e => ?_) (fun e => ?_) hn
    · refine c1 (fun e2 => ?_) (fun e2 => ?_) hn
      · refine ix ?_
        refine t_renew_2 ?_
        exact ri (q0 ⟨h, e⟩ e2)
      · refine t_found ?_
        exact ri (q1 ⟨h, e⟩ (by omega))
    · exact ri (q2 (by omega))
  · refine t1 ?_
    exact ri (q2 (by omega))
set_option maxRecDepth 100000 in
set_option maxHeartbeats 4000000 in
theorem t_write_2 (hl : 0 ≤ xl2 ∧ xl2 ≤ 1) (hx : 0 ≤ xf2 ∧ xf2 ≤ 2) (hz : 0 ≤ xz2 ∧ xz2 ≤ 60) (hn : 0 ≤ nd ∧ nd ≤ 60)
    (q1 : xl2 ≠ 0 → Q (some (vI (-11))) ((heapC tb tz tk tks tc tt iu nm ou so pl nd pa ba de en sc rsz fp ss cu os a1 a2 a3 a4 a5 b1 b2 b3 b4 b5 le 1 xi0 xf0 xz0 xl0 xi1 xf1 xz1 xl1 xi2 xf2 xz2 xl2 xi3 xf3 xz3 xl3), hB))
    (q0 : xl2 = 0 → Q (some (vI (if nd < xz2 then nd else xz2))) ((heapC tb tz tk tks tc tt iu nm ou so pl nd pa ba de en sc rsz fp ss cu os a1 a2 a3 a4 a5 b1 b2 b3 b4 b5 le fi xi0 xf0 xz0 xl0 xi1 xf1 xz1 xl1 (fb xi2 (fun k => stZ xf2 (a3 k)) 0 (if nd < xz2 then nd else xz2)) xf2 xz2 xl2 xi3 xf3 xz3 xl3), hB)) : RNd ro (d + 2) 82 [vR 0, vI 2] ((heapC tb tz tk tks tc tt iu nm ou so pl nd pa ba de en sc rsz fp ss cu os a1 a2 a3 a4 a5 b1 b2 b3 b4 b5 le fi xi0 xf0 xz0 xl0 xi1 xf1 xz1 xl1 xi2 xf2 xz2 xl2 xi3 xf3 xz3 xl3), hB) Q := by
  have main : ∀ w : Int, 0 ≤ w → w ≤ 60 → Q (some (vI w)) ((heapC tb tz tk tks tc tt iu nm ou so pl nd pa ba de en sc rsz fp ss cu os a1 a2 a3 a4 a5 b1 b2 b3 b4 b5 le fi xi0 xf0 xz0 xl0 xi1 xf1 xz1 xl1 (fb xi2 (fun k => stZ xf2 (a3 k)) 0 w) xf2 xz2 xl2 xi3 xf3 xz3 xl3), hB) → ∀ k : Int, ∀ f : Int → Int, 0 ≤ k → k ≤ w → f = fb xi2 (fun k => stZ xf2 (a3 k)) 0 k → WPm ro (d + 1) (RNd ro (d + 1)) 82 0 0 Q 48 [vR 0, vI 2, vR 53, vI w, vI k] [] ((heapC tb tz tk tks tc tt iu nm ou so pl nd pa ba de en sc rsz fp ss cu os a1 a2 a3 a4 a5 b1 b2 b3 b4 b5 le fi xi0 xf0 xz0 xl0 xi1 xf1 xz1 xl1 f xf2 xz2 xl2 xi3 xf3 xz3 xl3), hB) 0 0 := by
    intro w w0 w1 hq
    refine loopUp w fun k ih f k0 k1 hk => ?_
    refine WP_first [48] 40 ?_
    refine c2 (fun q => ?_) (fun q => ?_)
    · rw [show k = w by omega] at hk
      rw [hk]
      exact ri hq
    · refine ix ?_
      refine t_store_2 hx (by omega) ?_
      refine ih (by omega) _ (by omega) (by omega) ?_
      rw [hk, fb_up (by omega) rfl]
  refine WP_run [48] 60 ?_
  refine t_isSh (by unfold rg; omega) (fun _ => ?_) (fun h => absurd (by omega) h)
  refine t1 ?_
  refine ix ?_
  refine c1 (fun q => ?_) (fun q => ?_)
  · refine m2 ?_
    have w2 : 0 ≤ (if nd < xz2 then nd else xz2) ∧ (if nd < xz2 then nd else xz2) ≤ 60 := by split <;> omega
    exact main _ w2.1 w2.2 (q0 q) 0 _ (by omega) w2.1 (by rw [fb_0 (by omega)])
  · refine t_found ?_
    exact ri (q1 q)
set_option maxRecDepth 100000 in
set_option maxHeartbeats 4000000 in
theorem t_read_2 {w : Int} (hw : w = if 100 - tz < frN xi2 (xz2 - 0).toNat 0 then 100 - tz else frN xi2 (xz2 - 0).toNat 0) (hl : 0 ≤ xl2 ∧ xl2 ≤ 1) (hz : 0 ≤ xz2 ∧ xz2 ≤ 60) (hr : ∀ i, rg (xi2 i)) (htz : 0 ≤ tz ∧ tz ≤ 100) (htb : rI tb 0 255) (h0 : RT0 iu nm so ou pl pa ba en) (h1 : rI a1 0 25) (h2 : rI a2 0 3) (h3 : rI a3 (-1) 59) (h5 : rI a5 (-1) 59)
    (q1 : xl2 ≠ 0 → Q (some (vI (-11))) ((heapC tb tz tk tks tc tt iu nm ou so pl nd pa ba de en sc rsz fp ss cu os a1 a2 a3 a4 a5 b1 b2 b3 b4 b5 le 1 xi0 xf0 xz0 xl0 xi1 xf1 xz1 xl1 xi2 xf2 xz2 xl2 xi3 xf3 xz3 xl3), hB))
    (q2 : xl2 = 0 → w = 0 → Q (some (vI 0)) ((heapC tb tz tk tks tc tt iu nm ou so pl nd pa ba de en sc rsz fp ss cu os a1 a2 a3 a4 a5 b1 b2 b3 b4 b5 le fi xi0 xf0 xz0 xl0 xi1 xf1 xz1 xl1 xi2 xf2 xz2 xl2 xi3 xf3 xz3 xl3), hB))
    (q0 : xl2 = 0 → 0 < w → ∀ fp' nd' sc' rsz' iu' nm' so' ou' pl' pa' ba' de' en' ss' cu' os' a1' a2' a3' a4' a5', CRd (fb tb (fun q => xi2 (q - tz)) tz (tz + w)) (tz + w) fp' nd' sc' rsz' iu' nm' so' ou' pl' pa' ba' en' a1' a2' a3' a4' a5' → Q (some (vI w)) ((heapC (fb tb (fun q => xi2 (q - tz)) tz (tz + w)) (tz + w) tk tks 0 tt iu' nm' ou' so' pl' nd' pa' ba' de' en' sc' rsz' fp' ss' cu' os' a1' a2' a3' a4' a5' b1 b2 b3 b4 b5 le fi xi0 xf0 xz0 xl0 xi1 xf1 xz1 xl1 xi2 xf2 xz2 xl2 xi3 xf3 xz3 xl3), hB)) : RNd ro (d + 9) 61 [vR 0, vI 2] ((heapC tb tz tk tks tc tt iu nm ou so pl nd pa ba de en sc rsz fp ss cu os a1 a2 a3 a4 a5 b1 b2 b3 b4 b5 le fi xi0 xf0 xz0 xl0 xi1 xf1 xz1 xl1 xi2 xf2 xz2 xl2 xi3 xf3 xz3 xl3), hB) Q := by
  obtain ⟨g1, g2, g3⟩ := fr_in xi2 (xz2 - 0).toNat 0
  have w2 : 0 ≤ w ∧ tz + w ≤ 100 ∧ w ≤ 60 ∧ w ≤ frN xi2 (xz2 - 0).toNat 0 := by rw [hw]; split <;> omega
  have main : xl2 = 0 → ∀ k : Int, ∀ (f : Int → Int) (z : Int), 0 ≤ k → k ≤ w → z = tz + k → f = fb tb (fun q => xi2 (q - tz)) tz (tz + k) → WPm ro (d + 8) (RNd ro (d + 8)) 61 0 0 Q 51 [vR 0, vI 2, vR 53, vI w, vI k] [] ((heapC f z tk tks tc tt iu nm ou so pl nd pa ba de en sc rsz fp ss cu os a1 a2 a3 a4 a5 b1 b2 b3 b4 b5 le fi xi0 xf0 xz0 xl0 xi1 xf1 xz1 xl1 xi2 xf2 xz2 xl2 xi3 xf3 xz3 xl3), hB) 0 0 := by
    intro hx
    refine loopUp w fun k ih f z k0 k1 hz hk => ?_
    refine WP_first [51] 40 ?_
    refine c2 (fun q => ?_) (fun q => ?_)
    · rw [show k = w by omega] at hk hz
      refine c1 (fun e => ?_) (fun e => ?_)
      · have e0 : w = 0 := by omega
        have hq := q2 hx e0
        rw [e0] at hz hk ⊢
        rw [fb_0 (by omega)] at hk
        rw [hz, hk, Int.add_zero]
        exact ri hq
      · have hq := q0 hx (by omega)
        have hf : rI f 0 255 := by
          rw [hk]
          exact rI_fb2 htb (fun q a b => g3 _ (by omega) (by omega))
        refine t_told (by omega) hf h0 h1 h2 h3 h5 (fun fp' nd' sc' rsz' iu' nm' so' ou' pl' pa' ba' de' en' ss' cu' os' a1' a2' a3' a4' a5' hC => ?_)
        rw [hk, hz] at hC
        have hq' := hq fp' nd' sc' rsz' iu' nm' so' ou' pl' pa' ba' de' en' ss' cu' os' a1' a2' a3' a4' a5' hC
        rw [hk, hz]
        exact ri hq'
    · refine ix ?_
      refine t_append (by omega) (fun e => by omega) (fun _ => ?_)
      refine ih (by omega) _ _ (by omega) (by omega) (by omega) ?_
      rw [hk, hz, fb_up (by omega) (by rw [show tz + k - tz = k by omega]), Int.add_assoc]
  refine WP_run [51] 60 ?_
  refine t_isSh (by unfold rg; omega) (fun _ => ?_) (fun h => absurd (by omega) h)
  refine t1 ?_
  refine ix ?_
  refine c1 (fun q => ?_) (fun q => ?_)
  · refine t_front_2 hz hr ?_
    refine m2 ?_
    rw [← hw]
    exact main q 0 tb tz (by omega) w2.1 (by omega) (by rw [fb_0 (by omega)])
  · refine t_found ?_
    exact ri (q1 q)
set_option maxRecDepth 100000 in
set_option maxHeartbeats 4000000 in
theorem t_renew_3 {f z : Int} (hQ : Q none ((heapC tb tz tk tks tc tt iu nm ou so pl nd pa ba de en sc rsz fp ss cu os a1 a2 a3 a4 a5 b1 b2 b3 b4 b5 le fi xi0 xf0 xz0 xl0 xi1 xf1 xz1 xl1 xi2 xf2 xz2 xl2 (fz xi3 0 60 0) f z 0), hB)) : RNd ro (d + 2) 29 [vR 55, vI f, vI z] ((heapC tb tz tk tks tc tt iu nm ou so pl nd pa ba de en sc rsz fp ss cu os a1 a2 a3 a4 a5 b1 b2 b3 b4 b5 le fi xi0 xf0 xz0 xl0 xi1 xf1 xz1 xl1 xi2 xf2 xz2 xl2 xi3 xf3 xz3 xl3), hB) Q := by
  refine WP_run [] 20 ?_
  refine fill_56 ?_
  exact bz hQ
set_option maxRecDepth 100000 in
set_option maxHeartbeats 4000000 in
theorem t_store_3 {i v : Int} (hf : 0 ≤ xf3 ∧ xf3 ≤ 2) (hi : 0 ≤ i ∧ i < 60) (hQ : Q none ((heapC tb tz tk tks tc tt iu nm ou so pl nd pa ba de en sc rsz fp ss cu os a1 a2 a3 a4 a5 b1 b2 b3 b4 b5 le fi xi0 xf0 xz0 xl0 xi1 xf1 xz1 xl1 xi2 xf2 xz2 xl2 (upZ xi3 i (stZ xf3 v)) xf3 xz3 xl3), hB)) : RNd ro (d + 1) 30 [vR 55, vI i, vI v] ((heapC tb tz tk tks tc tt iu nm ou so pl nd pa ba de en sc rsz fp ss cu os a1 a2 a3 a4 a5 b1 b2 b3 b4 b5 le fi xi0 xf0 xz0 xl0 xi1 xf1 xz1 xl1 xi2 xf2 xz2 xl2 xi3 xf3 xz3 xl3), hB) Q := by
  unfold stZ at hQ
  refine WP_run [] 20 ?_
  refine m1 ?_
  by_cases q0 : xf3 = 0
  · rw [if_pos q0] at hQ
    refine st ?_
    refine ix ?_
    exact hQ
  · rw [if_neg q0] at hQ
    refine sf ?_
    by_cases q1 : xf3 = 1
    · rw [if_pos q1] at hQ
      refine st ?_
      refine ix ?_
      exact hQ
    · rw [if_neg q1] at hQ
      refine sf ?_
      refine ix ?_
      exact hQ
set_option maxRecDepth 100000 in
set_option maxHeartbeats 4000000 in
theorem t_front_3 (hz : 0 ≤ xz3 ∧ xz3 ≤ 60) (hr : ∀ i, rg (xi3 i)) (hQ : Q (some (vI (frN xi3 (xz3 - 0).toNat 0))) ((heapC tb tz tk tks tc tt iu nm ou so pl nd pa ba de en sc rsz fp ss cu os a1 a2 a3 a4 a5 b1 b2 b3 b4 b5 le fi xi0 xf0 xz0 xl0 xi1 xf1 xz1 xl1 xi2 xf2 xz2 xl2 xi3 xf3 xz3 xl3), hB)) : RNd ro (d + 2) 31 [vR 55] ((heapC tb tz tk tks tc tt iu nm ou so pl nd pa ba de en sc rsz fp ss cu os a1 a2 a3 a4 a5 b1 b2 b3 b4 b5 le fi xi0 xf0 xz0 xl0 xi1 xf1 xz1 xl1 xi2 xf2 xz2 xl2 xi3 xf3 xz3 xl3), hB) Q := by
  have main : ∀ k : Int, 0 ≤ k → k ≤ xz3 → frN xi3 (xz3 - k).toNat k = frN xi3 (xz3 - 0).toNat 0 → WPm ro (d + 1) (RNd ro (d + 1)) 31 0 0 Q 2 [vR 55, vI k] [] ((heapC tb tz tk tks tc tt iu nm ou so pl nd pa ba de en sc rsz fp ss cu os a1 a2 a3 a4 a5 b1 b2 b3 b4 b5 le fi xi0 xf0 xz0 xl0 xi1 xf1 xz1 xl1 xi2 xf2 xz2 xl2 xi3 xf3 xz3 xl3), hB) 0 0 := by
    refine loopUp xz3 fun k ih k0 k1 hk => ?_
    refine WP_first [2] 30 ?_
    refine c2 (fun q => ?_) (fun q => ?_)
    · rw [fr_end q] at hk
      rw [← hk] at hQ
      exact ri hQ
    · rw [fr_st (by omega)] at hk
      refine ix ?_
      refine t_isBy (hr k) (fun h => ?_) (fun h => ?_)
      · rw [if_pos h] at hk
        refine f1 ?_
        exact ih (by omega) (by omega) (by omega) hk
      · rw [if_neg h] at hk
        rw [← hk] at hQ
        refine t1 ?_
        exact ri hQ
  exact WP_run [2] 20 (main 0 (by omega) hz.1 rfl)
set_option maxRecDepth 100000 in
set_option maxHeartbeats 4000000 in
theorem t_hasRun_3 {i n : Int} (hz : 0 ≤ xz3 ∧ xz3 ≤ 60) (hi : rg i) (hn : rg n) (h1 : 0 ≤ i ∧ 0 ≤ n ∧ i + n ≤ xz3 → Q (some (vI 1)) ((heapC tb tz tk tks tc tt iu nm ou so pl nd pa ba de en sc rsz fp ss cu os a1 a2 a3 a4 a5 b1 b2 b3 b4 b5 le fi xi0 xf0 xz0 xl0 xi1 xf1 xz1 xl1 xi2 xf2 xz2 xl2 xi3 xf3 xz3 xl3), hB)) (h0 : ¬ (0 ≤ i ∧ 0 ≤ n ∧ i + n ≤ xz3) → Q (some (vI 0)) ((heapC tb tz tk tks tc tt iu nm ou so pl nd pa ba de en sc rsz fp ss cu os a1 a2 a3 a4 a5 b1 b2 b3 b4 b5 le fi xi0 xf0 xz0 xl0 xi1 xf1 xz1 xl1 xi2 xf2 xz2 xl2 xi3 xf3 xz3 xl3), hB)) : RNd ro (d + 1) 32 [vR 55, vI i, vI n] ((heapC tb tz tk tks tc tt iu nm ou so pl nd pa ba de en sc rsz fp ss cu os a1 a2 a3 a4 a5 b1 b2 b3 b4 b5 le fi xi0 xf0 xz0 xl0 xi1 xf1 xz1 xl1 xi2 xf2 xz2 xl2 xi3 xf3 xz3 xl3), hB) Q := by
  have hn' := hn
  unfold rg at hn'
  refine WP_run [] 30 ?_
  refine c1 (fun q => ?_) (fun q => ?_) hi
  · exact rz (h0 (by omega))
  · refine c1 (fun q2 => ?_) (fun q2 => ?_) hn
    · exact rz (h0 (by omega))
    · refine c2 (fun q3 => ?_) (fun q3 => ?_) hi
      · exact rz (h0 (by omega))
      · exact rz (h1 (by omega))
set_option maxRecDepth 100000 in
set_option maxHeartbeats 4000000 in
theorem t_lose_3 (hl : 0 ≤ xl3 ∧ xl3 ≤ 1) (h1 : xl3 ≠ 0 → Q (some (vI (-11))) ((heapC tb tz tk tks tc tt iu nm ou so pl nd pa ba de en sc rsz fp ss cu os a1 a2 a3 a4 a5 b1 b2 b3 b4 b5 le 1 xi0 xf0 xz0 xl0 xi1 xf1 xz1 xl1 xi2 xf2 xz2 xl2 xi3 xf3 xz3 xl3), hB)) (h0 : xl3 = 0 → Q (some (vI xz3)) ((heapC tb tz tk tks tc tt iu nm ou so pl nd pa ba de en sc rsz fp ss cu os a1 a2 a3 a4 a5 b1 b2 b3 b4 b5 le fi xi0 xf0 xz0 xl0 xi1 xf1 xz1 xl1 xi2 xf2 xz2 xl2 xi3 xf3 xz3 1), hB)) : RNd ro (d + 2) 78 [vR 0, vI 3] ((heapC tb tz tk tks tc tt iu nm ou so pl nd pa ba de en sc rsz fp ss cu os a1 a2 a3 a4 a5 b1 b2 b3 b4 b5 le fi xi0 xf0 xz0 xl0 xi1 xf1 xz1 xl1 xi2 xf2 xz2 xl2 xi3 xf3 xz3 xl3), hB) Q := by
  refine WP_run [] 40 ?_
  refine t_isSh (by unfold rg; omega) (fun _ => ?_) (fun h => absurd (by omega) h)
  refine t1 ?_
  refine ix ?_
  refine c1 (fun q => ?_) (fun q => ?_)
  · refine bz ?_
    exact ri (h0 q)
  · refine t_found ?_
    exact ri (h1 q)
set_option maxRecDepth 100000 in
set_option maxHeartbeats 4000000 in
theorem t_refI_3 {form i : Int} (hf : rg form) (hi : rg i) (hl : 0 ≤ xl3 ∧ xl3 ≤ 1) (hx : 0 ≤ xf3 ∧ xf3 ≤ 2) (hz : 0 ≤ xz3 ∧ xz3 ≤ 60)
    (q2 : ¬ (0 ≤ form ∧ form < 3) → Q (some (vI (-2))) ((heapC tb tz tk tks tc tt iu nm ou so pl nd pa ba de en sc rsz fp ss cu os a1 a2 a3 a4 a5 b1 b2 b3 b4 b5 le fi xi0 xf0 xz0 xl0 xi1 xf1 xz1 xl1 xi2 xf2 xz2 xl2 xi3 xf3 xz3 xl3), hB))
    (q1 : 0 ≤ form ∧ form < 3 → aLk xl3 xf3 xz3 form i ≠ 0 → Q (some (vI (-10 - aLk xl3 xf3 xz3 form i))) ((heapC tb tz tk tks tc tt iu nm ou so pl nd pa ba de en sc rsz fp ss cu os a1 a2 a3 a4 a5 b1 b2 b3 b4 b5 le (aLk xl3 xf3 xz3 form i) xi0 xf0 xz0 xl0 xi1 xf1 xz1 xl1 xi2 xf2 xz2 xl2 xi3 xf3 xz3 xl3), hB))
    (q0 : 0 ≤ form ∧ form < 3 → aLk xl3 xf3 xz3 form i = 0 → Q (some (vI 0)) ((heapC tb tz tk tks tc tt iu nm ou so pl nd pa ba de en sc rsz fp ss cu os a1 a2 a3 a4 a5 b1 b2 b3 b4 b5 le fi xi0 xf0 xz0 xl0 xi1 xf1 xz1 xl1 xi2 xf2 xz2 xl2 xi3 xf3 xz3 xl3), hB)) : RNd ro (d + 2) 99 [vR 0, vI 3, vI form, vI i] ((heapC tb tz tk tks tc tt iu nm ou so pl nd pa ba de en sc rsz fp ss cu os a1 a2 a3 a4 a5 b1 b2 b3 b4 b5 le fi xi0 xf0 xz0 xl0 xi1 xf1 xz1 xl1 xi2 xf2 xz2 xl2 xi3 xf3 xz3 xl3), hB) Q := by
  unfold aLk at q1 q0
  refine WP_run [] 60 ?_
  refine t_isSh (by unfold rg; omega) (fun _ => ?_) (fun h => absurd (by omega) h)
  refine f1 ?_
  refine t_isFm hf (fun h => ?_) (fun h => ?_)
  · have q1' := q1 h
    have q0' := q0 h
    refine t1 ?_
    refine ix ?_
    refine c1 (fun e1 => ?_) (fun e1 => ?_)
    · rw [if_neg (by omega)] at q1' q0'
      refine c2 (fun e2 => ?_) (fun e2 => ?_) (by unfold rg; omega) hf
      · rw [if_neg (by omega)] at q1' q0'
        refine c1 (fun e3 => ?_) (fun e3 => ?_) hi
        · rw [if_neg (by omega)] at q1'
          refine t_found ?_
          exact ri (q1' (by omega))
        · refine c2 (fun e4 => ?_) (fun e4 => ?_) hi
          · rw [if_pos (by omega)] at q0'
            exact ri (q0' rfl)
          · rw [if_neg (by omega)] at q1'
            refine t_found ?_
            exact ri (q1' (by omega))
      · rw [if_pos (by omega)] at q1'
        refine t_found ?_
        exact ri (q1' (by omega))
    · rw [if_pos (by omega)] at q1'
      refine t_found ?_
      exact ri (q1' (by omega))
  · refine f1 ?_
    exact ri (q2 h)
set_option maxRecDepth 100000 in
set_option maxHeartbeats 4000000 in
theorem t_put_3 {form i v : Int} (hf : rg form) (hi : rg i) (hl : 0 ≤ xl3 ∧ xl3 ≤ 1) (hx : 0 ≤ xf3 ∧ xf3 ≤ 2) (hz : 0 ≤ xz3 ∧ xz3 ≤ 60)
    (q2 : ¬ (0 ≤ form ∧ form < 3) → Q (some (vI (-2))) ((heapC tb tz tk tks tc tt iu nm ou so pl nd pa ba de en sc rsz fp ss cu os a1 a2 a3 a4 a5 b1 b2 b3 b4 b5 le fi xi0 xf0 xz0 xl0 xi1 xf1 xz1 xl1 xi2 xf2 xz2 xl2 xi3 xf3 xz3 xl3), hB))
    (q1 : 0 ≤ form ∧ form < 3 → aLk xl3 xf3 xz3 form i ≠ 0 → Q (some (vI (-10 - aLk xl3 xf3 xz3 form i))) ((heapC tb tz tk tks tc tt iu nm ou so pl nd pa ba de en sc rsz fp ss cu os a1 a2 a3 a4 a5 b1 b2 b3 b4 b5 le (aLk xl3 xf3 xz3 form i) xi0 xf0 xz0 xl0 xi1 xf1 xz1 xl1 xi2 xf2 xz2 xl2 xi3 xf3 xz3 xl3), hB))
    (q0 : 0 ≤ form ∧ form < 3 → aLk xl3 xf3 xz3 form i = 0 → Q (some (vI 1)) ((heapC tb tz tk tks tc tt iu nm ou so pl nd pa ba de en sc rsz fp ss cu os a1 a2 a3 a4 a5 b1 b2 b3 b4 b5 le fi xi0 xf0 xz0 xl0 xi1 xf1 xz1 xl1 xi2 xf2 xz2 xl2 (upZ xi3 i (stZ xf3 v)) xf3 xz3 xl3), hB)) : RNd ro (d + 3) 79 [vR 0, vI 3, vI form, vI i, vI v] ((heapC tb tz tk tks tc tt iu nm ou so pl nd pa ba de en sc rsz fp ss cu os a1 a2 a3 a4 a5 b1 b2 b3 b4 b5 le fi xi0 xf0 xz0 xl0 xi1 xf1 xz1 xl1 xi2 xf2 xz2 xl2 xi3 xf3 xz3 xl3), hB) Q := by
  have lr := aLk_rg (xl := xl3) (xf := xf3) (xz := xz3) (form := form) (i := i)
  refine WP_run [] 40 ?_
  refine t_refI_3 hf hi hl hx hz (fun h => ?_) (fun h k => ?_) (fun h k => ?_)
  · refine f1 ?_
    exact ri (q2 h)
  · refine f1 ?_
    exact ri (q1 h k)
  · have z := aLk_0 k
    refine t1 ?_
    refine ix ?_
    refine t_store_3 hx (by omega) ?_
    exact ri (q0 h k)
set_option maxRecDepth 100000 in
set_option maxHeartbeats 4000000 in
theorem t_get_3 {form i : Int} (hf : rg form) (hi : rg i) (hl : 0 ≤ xl3 ∧ xl3 ≤ 1) (hx : 0 ≤ xf3 ∧ xf3 ≤ 2) (hz : 0 ≤ xz3 ∧ xz3 ≤ 60)
    (q2 : ¬ (0 ≤ form ∧ form < 3) → Q (some (vI (-2147483648))) ((heapC tb tz tk tks tc tt iu nm ou so pl nd pa ba de en sc rsz fp ss cu os a1 a2 a3 a4 a5 b1 b2 b3 b4 b5 le fi xi0 xf0 xz0 xl0 xi1 xf1 xz1 xl1 xi2 xf2 xz2 xl2 xi3 xf3 xz3 xl3), hB))
    (q1 : 0 ≤ form ∧ form < 3 → aLk xl3 xf3 xz3 form i ≠ 0 → Q (some (vI (-2147483648))) ((heapC tb tz tk tks tc tt iu nm ou so pl nd pa ba de en sc rsz fp ss cu os a1 a2 a3 a4 a5 b1 b2 b3 b4 b5 le (aLk xl3 xf3 xz3 form i) xi0 xf0 xz0 xl0 xi1 xf1 xz1 xl1 xi2 xf2 xz2 xl2 xi3 xf3 xz3 xl3), hB))
    (q0 : 0 ≤ form ∧ form < 3 → aLk xl3 xf3 xz3 form i = 0 → Q (some (vI (xi3 i))) ((heapC tb tz tk tks tc tt iu nm ou so pl nd pa ba de en sc rsz fp ss cu os a1 a2 a3 a4 a5 b1 b2 b3 b4 b5 le fi xi0 xf0 xz0 xl0 xi1 xf1 xz1 xl1 xi2 xf2 xz2 xl2 xi3 xf3 xz3 xl3), hB)) : RNd ro (d + 3) 80 [vR 0, vI 3, vI form, vI i] ((heapC tb tz tk tks tc tt iu nm ou so pl nd pa ba de en sc rsz fp ss cu os a1 a2 a3 a4 a5 b1 b2 b3 b4 b5 le fi xi0 xf0 xz0 xl0 xi1 xf1 xz1 xl1 xi2 xf2 xz2 xl2 xi3 xf3 xz3 xl3), hB) Q := by
  have lr := aLk_rg (xl := xl3) (xf := xf3) (xz := xz3) (form := form) (i := i)
  refine WP_run [] 40 ?_
  refine t_refI_3 hf hi hl hx hz (fun h => ?_) (fun h k => ?_) (fun h k => ?_)
  · refine f1 ?_
    exact ri (q2 h)
  · refine f1 ?_
    exact ri (q1 h k)
  · have z := aLk_0 k
    refine t1 ?_
    refine ix ?_
    refine ix ?_
    exact ri (q0 h k)
set_option maxRecDepth 100000 in
set_option maxHeartbeats 4000000 in
theorem t_sheet_3 {form n : Int} (hf : rg form) (hn : rg n)
    (q2 : ¬ ((0 ≤ form ∧ form < 3) ∧ n ≤ 60) → Q (some (vI (-2))) ((heapC tb tz tk tks tc tt iu nm ou so pl nd pa ba de en sc rsz fp ss cu os a1 a2 a3 a4 a5 b1 b2 b3 b4 b5 le fi xi0 xf0 xz0 xl0 xi1 xf1 xz1 xl1 xi2 xf2 xz2 xl2 xi3 xf3 xz3 xl3), hB))
    (q1 : (0 ≤ form ∧ form < 3) ∧ n ≤ 60 → n < 0 → Q (some (vI (-15))) ((heapC tb tz tk tks tc tt iu nm ou so pl nd pa ba de en sc rsz fp ss cu os a1 a2 a3 a4 a5 b1 b2 b3 b4 b5 le 5 xi0 xf0 xz0 xl0 xi1 xf1 xz1 xl1 xi2 xf2 xz2 xl2 xi3 xf3 xz3 xl3), hB))
    (q0 : (0 ≤ form ∧ form < 3) ∧ n ≤ 60 → 0 ≤ n → Q (some (vI n)) ((heapC tb tz tk tks tc tt iu nm ou so pl nd pa ba de en sc rsz fp ss cu os a1 a2 a3 a4 a5 b1 b2 b3 b4 b5 le fi xi0 xf0 xz0 xl0 xi1 xf1 xz1 xl1 xi2 xf2 xz2 xl2 (fz xi3 0 60 0) form n 0), hB)) : RNd ro (d + 3) 77 [vR 0, vI 3, vI form, vI n] ((heapC tb tz tk tks tc tt iu nm ou so pl nd pa ba de en sc rsz fp ss cu os a1 a2 a3 a4 a5 b1 b2 b3 b4 b5 le fi xi0 xf0 xz0 xl0 xi1 xf1 xz1 xl1 xi2 xf2 xz2 xl2 xi3 xf3 xz3 xl3), hB) Q := by
  refine WP_run [] 40 ?_
  refine t_isSh (by unfold rg; omega) (fun _ => ?_) (fun h => absurd (by omega) h)
  refine f1 ?_
  refine t_isFm hf (fun h => ?_) (fun h => ?_)
  · refine f1 ?_
    refine c2 (fun e => ?_) (fun e => ?_) hn
    · refine c1 (fun e2 => ?_) (fun e2 => ?_) hn
      · refine ix ?_
        refine t_renew_3 ?_
        exact ri (q0 ⟨h, e⟩ e2)
      · refine t_found ?_
        exact ri (q1 ⟨h, e⟩ (by omega))
    · exact ri (q2 (by omega))
  · refine t1 ?_
    exact ri (q2 (by omega))
set_option maxRecDepth 100000 in
set_option maxHeartbeats 4000000 in
theorem t_write_3 (hl : 0 ≤ xl3 ∧ xl3 ≤ 1) (hx : 0 ≤ xf3 ∧ xf3 ≤ 2) (hz : 0 ≤ xz3 ∧ xz3 ≤ 60) (hn : 0 ≤ nd ∧ nd ≤ 60)
    (q1 : xl3 ≠ 0 → Q (some (vI (-11))) ((heapC tb tz tk tks tc tt iu nm ou so pl nd pa ba de en sc rsz fp ss cu os a1 a2 a3 a4 a5 b1 b2 b3 b4 b5 le 1 xi0 xf0 xz0 xl0 xi1 xf1 xz1 xl1 xi2 xf2 xz2 xl2 xi3 xf3 xz3 xl3), hB))
    (q0 : xl3 = 0 → Q (some (vI (if nd < xz3 then nd else xz3))) ((heapC tb tz tk tks tc tt iu nm ou so pl nd pa ba de en sc rsz fp ss cu os a1 a2 a3 a4 a5 b1 b2 b3 b4 b5 le fi xi0 xf0 xz0 xl0 xi1 xf1 xz1 xl1 xi2 xf2 xz2 xl2 (fb xi3 (fun k => stZ xf3 (a3 k)) 0 (if nd < xz3 then nd else xz3)) xf3 xz3 xl3), hB)) : RNd ro (d + 2) 82 [vR 0, vI 3] ((heapC tb tz tk tks tc tt iu nm ou so pl nd pa ba de en sc rsz fp ss cu os a1 a2 a3 a4 a5 b1 b2 b3 b4 b5 le fi xi0 xf0 xz0 xl0 xi1 xf1 xz1 xl1 xi2 xf2 xz2 xl2 xi3 xf3 xz3 xl3), hB) Q := by
  have main : ∀ w : Int, 0 ≤ w → w ≤ 60 → Q (some (vI w)) ((heapC tb tz tk tks tc tt iu nm ou so pl nd pa ba de en sc rsz fp ss cu os a1 a2 a3 a4 a5 b1 b2 b3 b4 b5 le fi xi0 xf0 xz0 xl0 xi1 xf1 xz1 xl1 xi2 xf2 xz2 xl2 (fb xi3 (fun k => stZ xf3 (a3 k)) 0 w) xf3 xz3 xl3), hB) → ∀ k : Int, ∀ f : Int → Int, 0 ≤ k → k ≤ w → f = fb xi3 (fun k => stZ xf3 (a3 k)) 0 k → WPm ro (d + 1) (RNd ro (d + 1)) 82 0 0 Q 48 [vR 0, vI 3, vR 55, vI w, vI k] [] ((heapC tb tz tk tks tc tt iu nm ou so pl nd pa ba de en sc rsz fp ss cu os a1 a2 a3 a4 a5 b1 b2 b3 b4 b5 le fi xi0 xf0 xz0 xl0 xi1 xf1 xz1 xl1 xi2 xf2 xz2 xl2 f xf3 xz3 xl3), hB) 0 0 := by
    intro w w0 w1 hq
    refine loopUp w fun k ih f k0 k1 hk => ?_
    refine WP_first [48] 40 ?_
    refine c2 (fun q => ?_) (fun q => ?_)
    · rw [show k = w by omega] at hk
      rw [hk]
      exact ri hq
    · refine ix ?_
      refine t_store_3 hx (by omega) ?_
      refine ih (by omega) _ (by omega) (by omega) ?_
      rw [hk, fb_up (by omega) rfl]
  refine WP_run [48] 60 ?_
  refine t_isSh (by unfold rg; omega) (fun _ => ?_) (fun h => absurd (by omega) h)
  refine t1 ?_
  refine ix ?_
  refine c1 (fun q => ?_) (fun q => ?_)
  · refine m2 ?_
    have w2 : 0 ≤ (if nd < xz3 then nd else xz3) ∧ (if nd < xz3 then nd else xz3) ≤ 60 := by split <;> omega
    exact main _ w2.1 w2.2 (q0 q) 0 _ (by omega) w2.1 (by rw [fb_0 (by omega)])
  · refine t_found ?_
    exact ri (q1 q)
set_option maxRecDepth 100000 in
set_option maxHeartbeats 4000000 in
theorem t_read_3 {w : Int} (hw : w = if 100 - tz < frN xi3 (xz3 - 0).toNat 0 then 100 - tz else frN xi3 (xz3 - 0).toNat 0) (hl : 0 ≤ xl3 ∧ xl3 ≤ 1) (hz : 0 ≤ xz3 ∧ xz3 ≤ 60) (hr : ∀ i, rg (xi3 i)) (htz : 0 ≤ tz ∧ tz ≤ 100) (htb : rI tb 0 255) (h0 : RT0 iu nm so ou pl pa ba en) (h1 : rI a1 0 25) (h2 : rI a2 0 3) (h3 : rI a3 (-1) 59) (h5 : rI a5 (-1) 59)
    (q1 : xl3 ≠ 0 → Q (some (vI (-11))) ((heapC tb tz tk tks tc tt iu nm ou so pl nd pa ba de en sc rsz fp ss cu os a1 a2 a3 a4 a5 b1 b2 b3 b4 b5 le 1 xi0 xf0 xz0 xl0 xi1 xf1 xz1 xl1 xi2 xf2 xz2 xl2 xi3 xf3 xz3 xl3), hB))
    (q2 : xl3 = 0 → w = 0 → Q (some (vI 0)) ((heapC tb tz tk tks tc tt iu nm ou so pl nd pa ba de en sc rsz fp ss cu os a1 a2 a3 a4 a5 b1 b2 b3 b4 b5 le fi xi0 xf0 xz0 xl0 xi1 xf1 xz1 xl1 xi2 xf2 xz2 xl2 xi3 xf3 xz3 xl3), hB))
    (q0 : xl3 = 0 → 0 < w → ∀ fp' nd' sc' rsz' iu' nm' so' ou' pl' pa' ba' de' en' ss' cu' os' a1' a2' a3' a4' a5', CRd (fb tb (fun q => xi3 (q - tz)) tz (tz + w)) (tz + w) fp' nd' sc' rsz' iu' nm' so' ou' pl' pa' ba' en' a1' a2' a3' a4' a5' → Q (some (vI w)) ((heapC (fb tb (fun q => xi3 (q - tz)) tz (tz + w)) (tz + w) tk tks 0 tt iu' nm' ou' so' pl' nd' pa' ba' de' en' sc' rsz' fp' ss' cu' os' a1' a2' a3' a4' a5' b1 b2 b3 b4 b5 le fi xi0 xf0 xz0 xl0 xi1 xf1 xz1 xl1 xi2 xf2 xz2 xl2 xi3 xf3 xz3 xl3), hB)) : RNd ro (d + 9) 61 [vR 0, vI 3] ((heapC tb tz tk tks tc tt iu nm ou so pl nd pa ba de en sc rsz fp ss cu os a1 a2 a3 a4 a5 b1 b2 b3 b4 b5 le fi xi0 xf0 xz0 xl0 xi1 xf1 xz1 xl1 xi2 xf2 xz2 xl2 xi3 xf3 xz3 xl3), hB) Q := by
  obtain ⟨g1, g2, g3⟩ := fr_in xi3 (xz3 - 0).toNat 0
  have w2 : 0 ≤ w ∧ tz + w ≤ 100 ∧ w ≤ 60 ∧ w ≤ frN xi3 (xz3 - 0).toNat 0 := by rw [hw]; split <;> omega
  have main : xl3 = 0 → ∀ k : Int, ∀ (f : Int → Int) (z : Int), 0 ≤ k → k ≤ w → z = tz + k → f = fb tb (fun q => xi3 (q - tz)) tz (tz + k) → WPm ro (d + 8) (RNd ro (d + 8)) 61 0 0 Q 51 [vR 0, vI 3, vR 55, vI w, vI k] [] ((heapC f z tk tks tc tt iu nm ou so pl nd pa ba de en sc rsz fp ss cu os a1 a2 a3 a4 a5 b1 b2 b3 b4 b5 le fi xi0 xf0 xz0 xl0 xi1 xf1 xz1 xl1 xi2 xf2 xz2 xl2 xi3 xf3 xz3 xl3), hB) 0 0 := by
    intro hx
    refine loopUp w fun k ih f z k0 k1 hz hk => ?_
    refine WP_first [51] 40 ?_
    refine c2 (fun q => ?_) (fun q => ?_)
    · rw [show k = w by omega] at hk hz
      refine c1 (fun e => ?_) (fun e => ?_)
      · have e0 : w = 0 := by omega
        have hq := q2 hx e0
        rw [e0] at hz hk ⊢
        rw [fb_0 (by omega)] at hk
        rw [hz, hk, Int.add_zero]
        exact ri hq
      · have hq := q0 hx (by omega)
        have hf : rI f 0 255 := by
          rw [hk]
          exact rI_fb2 htb (fun q a b => g3 _ (by omega) (by omega))
        refine t_told (by omega) hf h0 h1 h2 h3 h5 (fun fp' nd' sc' rsz' iu' nm' so' ou' pl' pa' ba' de' en' ss' cu' os' a1' a2' a3' a4' a5' hC => ?_)
        rw [hk, hz] at hC
        have hq' := hq fp' nd' sc' rsz' iu' nm' so' ou' pl' pa' ba' de' en' ss' cu' os' a1' a2' a3' a4' a5' hC
        rw [hk, hz]
        exact ri hq'
    · refine ix ?_
      refine t_append (by omega) (fun e => by omega) (fun _ => ?_)
      refine ih (by omega) _ _ (by omega) (by omega) (by omega) ?_
      rw [hk, hz, fb_up (by omega) (by rw [show tz + k - tz = k by omega]), Int.add_assoc]
  refine WP_run [51] 60 ?_
  refine t_isSh (by unfold rg; omega) (fun _ => ?_) (fun h => absurd (by omega) h)
  refine t1 ?_
  refine ix ?_
  refine c1 (fun q => ?_) (fun q => ?_)
  · refine t_front_3 hz hr ?_
    refine m2 ?_
    rw [← hw]
    exact main q 0 tb tz (by omega) w2.1 (by omega) (by rw [fb_0 (by omega)])
  · refine t_found ?_
    exact ri (q1 q)
set_option maxRecDepth 100000 in
set_option maxHeartbeats 4000000 in
theorem t_lose_x {s : Int} (hs : rg s) (h : ¬ (0 ≤ s ∧ s < 4)) (hQ : Q (some (vI (-2))) ((heapC tb tz tk tks tc tt iu nm ou so pl nd pa ba de en sc rsz fp ss cu os a1 a2 a3 a4 a5 b1 b2 b3 b4 b5 le fi xi0 xf0 xz0 xl0 xi1 xf1 xz1 xl1 xi2 xf2 xz2 xl2 xi3 xf3 xz3 xl3), hB)) : RNd ro (d + 2) 78 [vR 0, vI s] ((heapC tb tz tk tks tc tt iu nm ou so pl nd pa ba de en sc rsz fp ss cu os a1 a2 a3 a4 a5 b1 b2 b3 b4 b5 le fi xi0 xf0 xz0 xl0 xi1 xf1 xz1 xl1 xi2 xf2 xz2 xl2 xi3 xf3 xz3 xl3), hB) Q := by
  refine WP_run [] 20 ?_
  refine t_isSh hs (fun k => absurd k h) (fun _ => ?_)
  refine f1 ?_
  exact ri hQ
set_option maxRecDepth 100000 in
set_option maxHeartbeats 4000000 in
theorem t_read_x {s : Int} (hs : rg s) (h : ¬ (0 ≤ s ∧ s < 4)) (hQ : Q (some (vI (-2))) ((heapC tb tz tk tks tc tt iu nm ou so pl nd pa ba de en sc rsz fp ss cu os a1 a2 a3 a4 a5 b1 b2 b3 b4 b5 le fi xi0 xf0 xz0 xl0 xi1 xf1 xz1 xl1 xi2 xf2 xz2 xl2 xi3 xf3 xz3 xl3), hB)) : RNd ro (d + 2) 61 [vR 0, vI s] ((heapC tb tz tk tks tc tt iu nm ou so pl nd pa ba de en sc rsz fp ss cu os a1 a2 a3 a4 a5 b1 b2 b3 b4 b5 le fi xi0 xf0 xz0 xl0 xi1 xf1 xz1 xl1 xi2 xf2 xz2 xl2 xi3 xf3 xz3 xl3), hB) Q := by
  refine WP_run [] 20 ?_
  refine t_isSh hs (fun k => absurd k h) (fun _ => ?_)
  refine f1 ?_
  exact ri hQ
set_option maxRecDepth 100000 in
set_option maxHeartbeats 4000000 in
theorem t_write_x {s : Int} (hs : rg s) (h : ¬ (0 ≤ s ∧ s < 4)) (hQ : Q (some (vI (-2))) ((heapC tb tz tk tks tc tt iu nm ou so pl nd pa ba de en sc rsz fp ss cu os a1 a2 a3 a4 a5 b1 b2 b3 b4 b5 le fi xi0 xf0 xz0 xl0 xi1 xf1 xz1 xl1 xi2 xf2 xz2 xl2 xi3 xf3 xz3 xl3), hB)) : RNd ro (d + 2) 82 [vR 0, vI s] ((heapC tb tz tk tks tc tt iu nm ou so pl nd pa ba de en sc rsz fp ss cu os a1 a2 a3 a4 a5 b1 b2 b3 b4 b5 le fi xi0 xf0 xz0 xl0 xi1 xf1 xz1 xl1 xi2 xf2 xz2 xl2 xi3 xf3 xz3 xl3), hB) Q := by
  refine WP_run [] 20 ?_
  refine t_isSh hs (fun k => absurd k h) (fun _ => ?_)
  refine f1 ?_
  exact ri hQ
set_option maxRecDepth 100000 in
set_option maxHeartbeats 4000000 in
theorem t_sheet_x {s form n : Int} (hs : rg s) (h : ¬ (0 ≤ s ∧ s < 4)) (hQ : Q (some (vI (-2))) ((heapC tb tz tk tks tc tt iu nm ou so pl nd pa ba de en sc rsz fp ss cu os a1 a2 a3 a4 a5 b1 b2 b3 b4 b5 le fi xi0 xf0 xz0 xl0 xi1 xf1 xz1 xl1 xi2 xf2 xz2 xl2 xi3 xf3 xz3 xl3), hB)) : RNd ro (d + 2) 77 [vR 0, vI s, vI form, vI n] ((heapC tb tz tk tks tc tt iu nm ou so pl nd pa ba de en sc rsz fp ss cu os a1 a2 a3 a4 a5 b1 b2 b3 b4 b5 le fi xi0 xf0 xz0 xl0 xi1 xf1 xz1 xl1 xi2 xf2 xz2 xl2 xi3 xf3 xz3 xl3), hB) Q := by
  refine WP_run [] 20 ?_
  refine t_isSh hs (fun k => absurd k h) (fun _ => ?_)
  refine t1 ?_
  exact ri hQ
set_option maxRecDepth 100000 in
set_option maxHeartbeats 4000000 in
theorem t_refI_x {s form i : Int} (hs : rg s) (h : ¬ (0 ≤ s ∧ s < 4)) (hQ : Q (some (vI (-2))) ((heapC tb tz tk tks tc tt iu nm ou so pl nd pa ba de en sc rsz fp ss cu os a1 a2 a3 a4 a5 b1 b2 b3 b4 b5 le fi xi0 xf0 xz0 xl0 xi1 xf1 xz1 xl1 xi2 xf2 xz2 xl2 xi3 xf3 xz3 xl3), hB)) : RNd ro (d + 2) 99 [vR 0, vI s, vI form, vI i] ((heapC tb tz tk tks tc tt iu nm ou so pl nd pa ba de en sc rsz fp ss cu os a1 a2 a3 a4 a5 b1 b2 b3 b4 b5 le fi xi0 xf0 xz0 xl0 xi1 xf1 xz1 xl1 xi2 xf2 xz2 xl2 xi3 xf3 xz3 xl3), hB) Q := by
  refine WP_run [] 20 ?_
  refine t_isSh hs (fun k => absurd k h) (fun _ => ?_)
  refine t1 ?_
  exact ri hQ
set_option maxRecDepth 100000 in
set_option maxHeartbeats 4000000 in
theorem t_put_x {s form i v : Int} (hs : rg s) (h : ¬ (0 ≤ s ∧ s < 4)) (hQ : Q (some (vI (-2))) ((heapC tb tz tk tks tc tt iu nm ou so pl nd pa ba de en sc rsz fp ss cu os a1 a2 a3 a4 a5 b1 b2 b3 b4 b5 le fi xi0 xf0 xz0 xl0 xi1 xf1 xz1 xl1 xi2 xf2 xz2 xl2 xi3 xf3 xz3 xl3), hB)) : RNd ro (d + 3) 79 [vR 0, vI s, vI form, vI i, vI v] ((heapC tb tz tk tks tc tt iu nm ou so pl nd pa ba de en sc rsz fp ss cu os a1 a2 a3 a4 a5 b1 b2 b3 b4 b5 le fi xi0 xf0 xz0 xl0 xi1 xf1 xz1 xl1 xi2 xf2 xz2 xl2 xi3 xf3 xz3 xl3), hB) Q := by
  refine WP_run [] 20 ?_
  refine t_refI_x hs h ?_
  refine f1 ?_
  exact ri hQ
set_option maxRecDepth 100000 in
set_option maxHeartbeats 4000000 in
theorem t_get_x {s form i : Int} (hs : rg s) (h : ¬ (0 ≤ s ∧ s < 4)) (hQ : Q (some (vI (-2147483648))) ((heapC tb tz tk tks tc tt iu nm ou so pl nd pa ba de en sc rsz fp ss cu os a1 a2 a3 a4 a5 b1 b2 b3 b4 b5 le fi xi0 xf0 xz0 xl0 xi1 xf1 xz1 xl1 xi2 xf2 xz2 xl2 xi3 xf3 xz3 xl3), hB)) : RNd ro (d + 3) 80 [vR 0, vI s, vI form, vI i] ((heapC tb tz tk tks tc tt iu nm ou so pl nd pa ba de en sc rsz fp ss cu os a1 a2 a3 a4 a5 b1 b2 b3 b4 b5 le fi xi0 xf0 xz0 xl0 xi1 xf1 xz1 xl1 xi2 xf2 xz2 xl2 xi3 xf3 xz3 xl3), hB) Q := by
  refine WP_run [] 20 ?_
  refine t_refI_x hs h ?_
  refine f1 ?_
  exact ri hQ
set_option maxRecDepth 100000 in
set_option maxHeartbeats 4000000 in
theorem t_copy_x {s i t j n : Int} (hs : rg s) (ht : rg t) (h : ¬ ((0 ≤ s ∧ s < 4) ∧ (0 ≤ t ∧ t < 4))) (hQ : Q (some (vI (-2))) ((heapC tb tz tk tks tc tt iu nm ou so pl nd pa ba de en sc rsz fp ss cu os a1 a2 a3 a4 a5 b1 b2 b3 b4 b5 le fi xi0 xf0 xz0 xl0 xi1 xf1 xz1 xl1 xi2 xf2 xz2 xl2 xi3 xf3 xz3 xl3), hB)) : RNd ro (d + 2) 81 [vR 0, vI s, vI i, vI t, vI j, vI n] ((heapC tb tz tk tks tc tt iu nm ou so pl nd pa ba de en sc rsz fp ss cu os a1 a2 a3 a4 a5 b1 b2 b3 b4 b5 le fi xi0 xf0 xz0 xl0 xi1 xf1 xz1 xl1 xi2 xf2 xz2 xl2 xi3 xf3 xz3 xl3), hB) Q := by
  refine WP_run [] 20 ?_
  refine t_isSh hs (fun k => ?_) (fun k => ?_)
  · refine f1 ?_
    refine t_isSh ht (fun k2 => absurd ⟨k, k2⟩ h) (fun _ => ?_)
    refine f1 ?_
    exact ri hQ
  · refine t1 ?_
    exact ri hQ
end SHEETS
