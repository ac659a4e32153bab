/-! ===== the class: copy ===== -/
section COPIES
variable {ro : Nat × (Int → Int)} {d : Nat} {Q : Option AV → AH → Prop} {hB : List AC} {tb : Int → Int} {tz : Int} {tk : Int → Int → Int} {tks : Int → Int} {tc tt : Int} {iu nm ou so pl : Int → Int} {nd : Int} {pa ba de en : Int → Int} {sc rsz fp ss cu os : Int} {a1 a2 a3 : Int → Int} {a4 : Int → Int64} {a5 b1 b2 b3 : Int → Int} {b4 : Int → Int64} {b5 : Int → Int} {le fi : Int} {xi0 : Int → Int} {xf0 xz0 xl0 : Int} {xi1 : Int → Int} {xf1 xz1 xl1 : Int} {xi2 : Int → Int} {xf2 xz2 xl2 : Int} {xi3 : Int → Int} {xf3 xz3 xl3 : Int}
set_option maxRecDepth 100000 in
set_option maxHeartbeats 4000000 in
theorem t_copy_0_0 {i j n : Int} (hi : rg i) (hj : rg j) (hn : rg n) (hl : 0 ≤ xl0 ∧ xl0 ≤ 1) (kl : 0 ≤ xl0 ∧ xl0 ≤ 1) (hx : 0 ≤ xf0 ∧ xf0 ≤ 2) (kx : 0 ≤ xf0 ∧ xf0 ≤ 2) (hz : 0 ≤ xz0 ∧ xz0 ≤ 60) (kz : 0 ≤ xz0 ∧ xz0 ≤ 60)
    (q1 : ¬ (xl0 = 0 ∧ xl0 = 0) → Q (some (vI (-11))) ((heapC tb tz tk tks tc tt iu nm ou so pl nd pa ba de en sc rsz fp ss cu os a1 a2 a3 a4 a5 b1 b2 b3 b4 b5 le 1 xi0 xf0 xz0 xl0 xi1 xf1 xz1 xl1 xi2 xf2 xz2 xl2 xi3 xf3 xz3 xl3), hB)) (q4 : (xl0 = 0 ∧ xl0 = 0) → xf0 ≠ xf0 → Q (some (vI (-14))) ((heapC tb tz tk tks tc tt iu nm ou so pl nd pa ba de en sc rsz fp ss cu os a1 a2 a3 a4 a5 b1 b2 b3 b4 b5 le 4 xi0 xf0 xz0 xl0 xi1 xf1 xz1 xl1 xi2 xf2 xz2 xl2 xi3 xf3 xz3 xl3), hB))
    (q2 : (xl0 = 0 ∧ xl0 = 0) → xf0 = xf0 → ¬ (0 ≤ i ∧ 0 ≤ j ∧ 0 ≤ n ∧ i + n ≤ xz0 ∧ j + n ≤ xz0) → Q (some (vI (-12))) ((heapC tb tz tk tks tc tt iu nm ou so pl nd pa ba de en sc rsz fp ss cu os a1 a2 a3 a4 a5 b1 b2 b3 b4 b5 le 2 xi0 xf0 xz0 xl0 xi1 xf1 xz1 xl1 xi2 xf2 xz2 xl2 xi3 xf3 xz3 xl3), hB))
    (q0 : (xl0 = 0 ∧ xl0 = 0) → xf0 = xf0 → (0 ≤ i ∧ 0 ≤ j ∧ 0 ≤ n ∧ i + n ≤ xz0 ∧ j + n ≤ xz0) → Q (some (vI 1)) ((heapC tb tz tk tks tc tt iu nm ou so pl nd pa ba de en sc rsz fp ss cu os a1 a2 a3 a4 a5 b1 b2 b3 b4 b5 le fi (cpZ xi0 xi0 i j n) xf0 xz0 xl0 xi1 xf1 xz1 xl1 xi2 xf2 xz2 xl2 xi3 xf3 xz3 xl3), hB)) : RNd ro (d + 2) 81 [vR 0, vI 0, vI i, vI 0, vI j, vI n] ((heapC tb tz tk tks tc tt iu nm ou so pl nd pa ba de en sc rsz fp ss cu os a1 a2 a3 a4 a5 b1 b2 b3 b4 b5 le fi xi0 xf0 xz0 xl0 xi1 xf1 xz1 xl1 xi2 xf2 xz2 xl2 xi3 xf3 xz3 xl3), hB) Q := by
  refine WP_run [] 80 ?_
  refine t_isSh (by unfold rg; omega) (fun _ => ?_) (fun h => absurd (by omega) h)
  refine f1 ?_
  refine t_isSh (by unfold rg; omega) (fun _ => ?_) (fun h => absurd (by omega) h)
  refine t1 ?_
  refine ix ?_
  refine ix ?_
  refine c1 (fun e1 => ?_) (fun e1 => ?_)
  · refine t_found ?_
    exact ri (q1 (by omega))
  · refine c1 (fun e2 => ?_) (fun e2 => ?_)
    · have hb : xl0 = 0 ∧ xl0 = 0 := by omega
      refine c2 (fun e3 => ?_) (fun e3 => ?_)
      · refine t_hasRun_0 hz hi hn (fun e4 => ?_) (fun e4 => ?_)
        · refine f1 ?_
          refine t_hasRun_0 kz hj hn (fun e5 => ?_) (fun e5 => ?_)
          · refine t1 ?_
            refine cp ?_
            exact ri (q0 hb e3 (by omega))
          · refine f1 ?_
            refine t_found ?_
            exact ri (q2 hb e3 (by omega))
        · refine t1 ?_
          refine t_found ?_
          exact ri (q2 hb e3 (by omega))
      · refine t_found ?_
        exact ri (q4 hb e3)
    · refine t_found ?_
      exact ri (q1 (by omega))
set_option maxRecDepth 100000 in
set_option maxHeartbeats 4000000 in
theorem t_copy_0_1 {i j n : Int} (hi : rg i) (hj : rg j) (hn : rg n) (hl : 0 ≤ xl0 ∧ xl0 ≤ 1) (kl : 0 ≤ xl1 ∧ xl1 ≤ 1) (hx : 0 ≤ xf0 ∧ xf0 ≤ 2) (kx : 0 ≤ xf1 ∧ xf1 ≤ 2) (hz : 0 ≤ xz0 ∧ xz0 ≤ 60) (kz : 0 ≤ xz1 ∧ xz1 ≤ 60)
    (q1 : ¬ (xl0 = 0 ∧ xl1 = 0) → Q (some (vI (-11))) ((heapC tb tz tk tks tc tt iu nm ou so pl nd pa ba de en sc rsz fp ss cu os a1 a2 a3 a4 a5 b1 b2 b3 b4 b5 le 1 xi0 xf0 xz0 xl0 xi1 xf1 xz1 xl1 xi2 xf2 xz2 xl2 xi3 xf3 xz3 xl3), hB)) (q4 : (xl0 = 0 ∧ xl1 = 0) → xf0 ≠ xf1 → Q (some (vI (-14))) ((heapC tb tz tk tks tc tt iu nm ou so pl nd pa ba de en sc rsz fp ss cu os a1 a2 a3 a4 a5 b1 b2 b3 b4 b5 le 4 xi0 xf0 xz0 xl0 xi1 xf1 xz1 xl1 xi2 xf2 xz2 xl2 xi3 xf3 xz3 xl3), hB))
    (q2 : (xl0 = 0 ∧ xl1 = 0) → xf0 = xf1 → ¬ (0 ≤ i ∧ 0 ≤ j ∧ 0 ≤ n ∧ i + n ≤ xz0 ∧ j + n ≤ xz1) → Q (some (vI (-12))) ((heapC tb tz tk tks tc tt iu nm ou so pl nd pa ba de en sc rsz fp ss cu os a1 a2 a3 a4 a5 b1 b2 b3 b4 b5 le 2 xi0 xf0 xz0 xl0 xi1 xf1 xz1 xl1 xi2 xf2 xz2 xl2 xi3 xf3 xz3 xl3), hB))
    (q0 : (xl0 = 0 ∧ xl1 = 0) → xf0 = xf1 → (0 ≤ i ∧ 0 ≤ j ∧ 0 ≤ n ∧ i + n ≤ xz0 ∧ j + n ≤ xz1) → Q (some (vI 1)) ((heapC tb tz tk tks tc tt iu nm ou so pl nd pa ba de en sc rsz fp ss cu os a1 a2 a3 a4 a5 b1 b2 b3 b4 b5 le fi xi0 xf0 xz0 xl0 (cpZ xi0 xi1 i j n) xf1 xz1 xl1 xi2 xf2 xz2 xl2 xi3 xf3 xz3 xl3), hB)) : RNd ro (d + 2) 81 [vR 0, vI 0, vI i, vI 1, vI j, vI n] ((heapC tb tz tk tks tc tt iu nm ou so pl nd pa ba de en sc rsz fp ss cu os a1 a2 a3 a4 a5 b1 b2 b3 b4 b5 le fi xi0 xf0 xz0 xl0 xi1 xf1 xz1 xl1 xi2 xf2 xz2 xl2 xi3 xf3 xz3 xl3), hB) Q := by
  refine WP_run [] 80 ?_
  refine t_isSh (by unfold rg; omega) (fun _ => ?_) (fun h => absurd (by omega) h)
  refine f1 ?_
  refine t_isSh (by unfold rg; omega) (fun _ => ?_) (fun h => absurd (by omega) h)
  refine t1 ?_
  refine ix ?_
  refine ix ?_
  refine c1 (fun e1 => ?_) (fun e1 => ?_)
  · refine t_found ?_
    exact ri (q1 (by omega))
  · refine c1 (fun e2 => ?_) (fun e2 => ?_)
    · have hb : xl0 = 0 ∧ xl1 = 0 := by omega
      refine c2 (fun e3 => ?_) (fun e3 => ?_)
      · refine t_hasRun_0 hz hi hn (fun e4 => ?_) (fun e4 => ?_)
        · refine f1 ?_
          refine t_hasRun_1 kz hj hn (fun e5 => ?_) (fun e5 => ?_)
          · refine t1 ?_
            refine cp ?_
            exact ri (q0 hb e3 (by omega))
          · refine f1 ?_
            refine t_found ?_
            exact ri (q2 hb e3 (by omega))
        · refine t1 ?_
          refine t_found ?_
          exact ri (q2 hb e3 (by omega))
      · refine t_found ?_
        exact ri (q4 hb e3)
    · refine t_found ?_
      exact ri (q1 (by omega))
set_option maxRecDepth 100000 in
set_option maxHeartbeats 4000000 in
theorem t_copy_0_2 {i j n : Int} (hi : rg i) (hj : rg j) (hn : rg n) (hl : 0 ≤ xl0 ∧ xl0 ≤ 1) (kl : 0 ≤ xl2 ∧ xl2 ≤ 1) (hx : 0 ≤ xf0 ∧ xf0 ≤ 2) (kx : 0 ≤ xf2 ∧ xf2 ≤ 2) (hz : 0 ≤ xz0 ∧ xz0 ≤ 60) (kz : 0 ≤ xz2 ∧ xz2 ≤ 60)
    (q1 : ¬ (xl0 = 0 ∧ xl2 = 0) → Q (some (vI (-11))) ((heapC tb tz tk tks tc tt iu nm ou so pl nd pa ba de en sc rsz fp ss cu os a1 a2 a3 a4 a5 b1 b2 b3 b4 b5 le 1 xi0 xf0 xz0 xl0 xi1 xf1 xz1 xl1 xi2 xf2 xz2 xl2 xi3 xf3 xz3 xl3), hB)) (q4 : (xl0 = 0 ∧ xl2 = 0) → xf0 ≠ xf2 → Q (some (vI (-14))) ((heapC tb tz tk tks tc tt iu nm ou so pl nd pa ba de en sc rsz fp ss cu os a1 a2 a3 a4 a5 b1 b2 b3 b4 b5 le 4 xi0 xf0 xz0 xl0 xi1 xf1 xz1 xl1 xi2 xf2 xz2 xl2 xi3 xf3 xz3 xl3), hB))
    (q2 : (xl0 = 0 ∧ xl2 = 0) → xf0 = xf2 → ¬ (0 ≤ i ∧ 0 ≤ j ∧ 0 ≤ n ∧ i + n ≤ xz0 ∧ j + n ≤ xz2) → Q (some (vI (-12))) ((heapC tb tz tk tks tc tt iu nm ou so pl nd pa ba de en sc rsz fp ss cu os a1 a2 a3 a4 a5 b1 b2 b3 b4 b5 le 2 xi0 xf0 xz0 xl0 xi1 xf1 xz1 xl1 xi2 xf2 xz2 xl2 xi3 xf3 xz3 xl3), hB))
    (q0 : (xl0 = 0 ∧ xl2 = 0) → xf0 = xf2 → (0 ≤ i ∧ 0 ≤ j ∧ 0 ≤ n ∧ i + n ≤ xz0 ∧ j + n ≤ xz2) → Q (some (vI 1)) ((heapC tb tz tk tks tc tt iu nm ou so pl nd pa ba de en sc rsz fp ss cu os a1 a2 a3 a4 a5 b1 b2 b3 b4 b5 le fi xi0 xf0 xz0 xl0 xi1 xf1 xz1 xl1 (cpZ xi0 xi2 i j n) xf2 xz2 xl2 xi3 xf3 xz3 xl3), hB)) : RNd ro (d + 2) 81 [vR 0, vI 0, vI i, vI 2, vI j, vI n] ((heapC tb tz tk tks tc tt iu nm ou so pl nd pa ba de en sc rsz fp ss cu os a1 a2 a3 a4 a5 b1 b2 b3 b4 b5 le fi xi0 xf0 xz0 xl0 xi1 xf1 xz1 xl1 xi2 xf2 xz2 xl2 xi3 xf3 xz3 xl3), hB) Q := by
  refine WP_run [] 80 ?_
  refine t_isSh (by unfold rg; omega) (fun _ => ?_) (fun h => absurd (by omega) h)
  refine f1 ?_
  refine t_isSh (by unfold rg; omega) (fun _ => ?_) (fun h => absurd (by omega) h)
  refine t1 ?_
  refine ix ?_
  refine ix ?_
  refine c1 (fun e1 => ?_) (fun e1 => ?_)
  · refine t_found ?_
    exact ri (q1 (by omega))
  · refine c1 (fun e2 => ?_) (fun e2 => ?_)
    · have hb : xl0 = 0 ∧ xl2 = 0 := by omega
      refine c2 (fun e3 => ?_) (fun e3 => ?_)
      · refine t_hasRun_0 hz hi hn (fun e4 => ?_) (fun e4 => ?_)
        · refine f1 ?_
          refine t_hasRun_2 kz hj hn (fun e5 => ?_) (fun e5 => ?_)
          · refine t1 ?_
            refine cp ?_
            exact ri (q0 hb e3 (by omega))
          · refine f1 ?_
            refine t_found ?_
            exact ri (q2 hb e3 (by omega))
        · refine t1 ?_
          refine t_found ?_
          exact ri (q2 hb e3 (by omega))
      · refine t_found ?_
        exact ri (q4 hb e3)
    · refine t_found ?_
      exact ri (q1 (by omega))
set_option maxRecDepth 100000 in
set_option maxHeartbeats 4000000 in
theorem t_copy_0_3 {i j n : Int} (hi : rg i) (hj : rg j) (hn : rg n) (hl : 0 ≤ xl0 ∧ xl0 ≤ 1) (kl : 0 ≤ xl3 ∧ xl3 ≤ 1) (hx : 0 ≤ xf0 ∧ xf0 ≤ 2) (kx : 0 ≤ xf3 ∧ xf3 ≤ 2) (hz : 0 ≤ xz0 ∧ xz0 ≤ 60) (kz : 0 ≤ xz3 ∧ xz3 ≤ 60)
    (q1 : ¬ (xl0 = 0 ∧ xl3 = 0) → Q (some (vI (-11))) ((heapC tb tz tk tks tc tt iu nm ou so pl nd pa ba de en sc rsz fp ss cu os a1 a2 a3 a4 a5 b1 b2 b3 b4 b5 le 1 xi0 xf0 xz0 xl0 xi1 xf1 xz1 xl1 xi2 xf2 xz2 xl2 xi3 xf3 xz3 xl3), hB)) (q4 : (xl0 = 0 ∧ xl3 = 0) → xf0 ≠ xf3 → Q (some (vI (-14))) ((heapC tb tz tk tks tc tt iu nm ou so pl nd pa ba de en sc rsz fp ss cu os a1 a2 a3 a4 a5 b1 b2 b3 b4 b5 le 4 xi0 xf0 xz0 xl0 xi1 xf1 xz1 xl1 xi2 xf2 xz2 xl2 xi3 xf3 xz3 xl3), hB))
    (q2 : (xl0 = 0 ∧ xl3 = 0) → xf0 = xf3 → ¬ (0 ≤ i ∧ 0 ≤ j ∧ 0 ≤ n ∧ i + n ≤ xz0 ∧ j + n ≤ xz3) → Q (some (vI (-12))) ((heapC tb tz tk tks tc tt iu nm ou so pl nd pa ba de en sc rsz fp ss cu os a1 a2 a3 a4 a5 b1 b2 b3 b4 b5 le 2 xi0 xf0 xz0 xl0 xi1 xf1 xz1 xl1 xi2 xf2 xz2 xl2 xi3 xf3 xz3 xl3), hB))
    (q0 : (xl0 = 0 ∧ xl3 = 0) → xf0 = xf3 → (0 ≤ i ∧ 0 ≤ j ∧ 0 ≤ n ∧ i + n ≤ xz0 ∧ j + n ≤ xz3) → Q (some (vI 1)) ((heapC tb tz tk tks tc tt iu nm ou so pl nd pa ba de en sc rsz fp ss cu os a1 a2 a3 a4 a5 b1 b2 b3 b4 b5 le fi xi0 xf0 xz0 xl0 xi1 xf1 xz1 xl1 xi2 xf2 xz2 xl2 (cpZ xi0 xi3 i j n) xf3 xz3 xl3), hB)) : RNd ro (d + 2) 81 [vR 0, vI 0, vI i, vI 3, vI j, vI n] ((heapC tb tz tk tks tc tt iu nm ou so pl nd pa ba de en sc rsz fp ss cu os a1 a2 a3 a4 a5 b1 b2 b3 b4 b5 le fi xi0 xf0 xz0 xl0 xi1 xf1 xz1 xl1 xi2 xf2 xz2 xl2 xi3 xf3 xz3 xl3), hB) Q := by
  refine WP_run [] 80 ?_
  refine t_isSh (by unfold rg; omega) (fun _ => ?_) (fun h => absurd (by omega) h)
  refine f1 ?_
  refine t_isSh (by unfold rg; omega) (fun _ => ?_) (fun h => absurd (by omega) h)
  refine t1 ?_
  refine ix ?_
  refine ix ?_
  refine c1 (fun e1 => ?_) (fun e1 => ?_)
  · refine t_found ?_
    exact ri (q1 (by omega))
  · refine c1 (fun e2 => ?_) (fun e2 => ?_)
    · have hb : xl0 = 0 ∧ xl3 = 0 := by omega
      refine c2 (fun e3 => ?_) (fun e3 => ?_)
      · refine t_hasRun_0 hz hi hn (fun e4 => ?_) (fun e4 => ?_)
        · refine f1 ?_
          refine t_hasRun_3 kz hj hn (fun e5 => ?_) (fun e5 => ?_)
          · refine t1 ?_
            refine cp ?_
            exact ri (q0 hb e3 (by omega))
          · refine f1 ?_
            refine t_found ?_
            exact ri (q2 hb e3 (by omega))
        · refine t1 ?_
          refine t_found ?_
          exact ri (q2 hb e3 (by omega))
      · refine t_found ?_
        exact ri (q4 hb e3)
    · refine t_found ?_
      exact ri (q1 (by omega))
set_option maxRecDepth 100000 in
set_option maxHeartbeats 4000000 in
theorem t_copy_1_0 {i j n : Int} (hi : rg i) (hj : rg j) (hn : rg n) (hl : 0 ≤ xl1 ∧ xl1 ≤ 1) (kl : 0 ≤ xl0 ∧ xl0 ≤ 1) (hx : 0 ≤ xf1 ∧ xf1 ≤ 2) (kx : 0 ≤ xf0 ∧ xf0 ≤ 2) (hz : 0 ≤ xz1 ∧ xz1 ≤ 60) (kz : 0 ≤ xz0 ∧ xz0 ≤ 60)
    (q1 : ¬ (xl1 = 0 ∧ xl0 = 0) → Q (some (vI (-11))) ((heapC tb tz tk tks tc tt iu nm ou so pl nd pa ba de en sc rsz fp ss cu os a1 a2 a3 a4 a5 b1 b2 b3 b4 b5 le 1 xi0 xf0 xz0 xl0 xi1 xf1 xz1 xl1 xi2 xf2 xz2 xl2 xi3 xf3 xz3 xl3), hB)) (q4 : (xl1 = 0 ∧ xl0 = 0) → xf1 ≠ xf0 → Q (some (vI (-14))) ((heapC tb tz tk tks tc tt iu nm ou so pl nd pa ba de en sc rsz fp ss cu os a1 a2 a3 a4 a5 b1 b2 b3 b4 b5 le 4 xi0 xf0 xz0 xl0 xi1 xf1 xz1 xl1 xi2 xf2 xz2 xl2 xi3 xf3 xz3 xl3), hB))
    (q2 : (xl1 = 0 ∧ xl0 = 0) → xf1 = xf0 → ¬ (0 ≤ i ∧ 0 ≤ j ∧ 0 ≤ n ∧ i + n ≤ xz1 ∧ j + n ≤ xz0) → Q (some (vI (-12))) ((heapC tb tz tk tks tc tt iu nm ou so pl nd pa ba de en sc rsz fp ss cu os a1 a2 a3 a4 a5 b1 b2 b3 b4 b5 le 2 xi0 xf0 xz0 xl0 xi1 xf1 xz1 xl1 xi2 xf2 xz2 xl2 xi3 xf3 xz3 xl3), hB))
    (q0 : (xl1 = 0 ∧ xl0 = 0) → xf1 = xf0 → (0 ≤ i ∧ 0 ≤ j ∧ 0 ≤ n ∧ i + n ≤ xz1 ∧ j + n ≤ xz0) → Q (some (vI 1)) ((heapC tb tz tk tks tc tt iu nm ou so pl nd pa ba de en sc rsz fp ss cu os a1 a2 a3 a4 a5 b1 b2 b3 b4 b5 le fi (cpZ xi1 xi0 i j n) xf0 xz0 xl0 xi1 xf1 xz1 xl1 xi2 xf2 xz2 xl2 xi3 xf3 xz3 xl3), hB)) : RNd ro (d + 2) 81 [vR 0, vI 1, vI i, vI 0, vI j, vI n] ((heapC tb tz tk tks tc tt iu nm ou so pl nd pa ba de en sc rsz fp ss cu os a1 a2 a3 a4 a5 b1 b2 b3 b4 b5 le fi xi0 xf0 xz0 xl0 xi1 xf1 xz1 xl1 xi2 xf2 xz2 xl2 xi3 xf3 xz3 xl3), hB) Q := by
  refine WP_run [] 80 ?_
  refine t_isSh (by unfold rg; omega) (fun _ => ?_) (fun h => absurd (by omega) h)
  refine f1 ?_
  refine t_isSh (by unfold rg; omega) (fun _ => ?_) (fun h => absurd (by omega) h)
  refine t1 ?_
  refine ix ?_
  refine ix ?_
  refine c1 (fun e1 => ?_) (fun e1 => ?_)
  · refine t_found ?_
    exact ri (q1 (by omega))
  · refine c1 (fun e2 => ?_) (fun e2 => ?_)
    · have hb : xl1 = 0 ∧ xl0 = 0 := by omega
      refine c2 (fun e3 => ?_) (fun e3 => ?_)
      · refine t_hasRun_1 hz hi hn (fun e4 => ?_) (fun e4 => ?_)
        · refine f1 ?_
          refine t_hasRun_0 kz hj hn (fun e5 => ?_) (fun e5 => ?_)
          · refine t1 ?_
            refine cp ?_
            exact ri (q0 hb e3 (by omega))
          · refine f1 ?_
            refine t_found ?_
            exact ri (q2 hb e3 (by omega))
        · refine t1 ?_
          refine t_found ?_
          exact ri (q2 hb e3 (by omega))
      · refine t_found ?_
        exact ri (q4 hb e3)
    · refine t_found ?_
      exact ri (q1 (by omega))
set_option maxRecDepth 100000 in
set_option maxHeartbeats 4000000 in
theorem t_copy_1_1 {i j n : Int} (hi : rg i) (hj : rg j) (hn : rg n) (hl : 0 ≤ xl1 ∧ xl1 ≤ 1) (kl : 0 ≤ xl1 ∧ xl1 ≤ 1) (hx : 0 ≤ xf1 ∧ xf1 ≤ 2) (kx : 0 ≤ xf1 ∧ xf1 ≤ 2) (hz : 0 ≤ xz1 ∧ xz1 ≤ 60) (kz : 0 ≤ xz1 ∧ xz1 ≤ 60)
    (q1 : ¬ (xl1 = 0 ∧ xl1 = 0) → Q (some (vI (-11))) ((heapC tb tz tk tks tc tt iu nm ou so pl nd pa ba de en sc rsz fp ss cu os a1 a2 a3 a4 a5 b1 b2 b3 b4 b5 le 1 xi0 xf0 xz0 xl0 xi1 xf1 xz1 xl1 xi2 xf2 xz2 xl2 xi3 xf3 xz3 xl3), hB)) (q4 : (xl1 = 0 ∧ xl1 = 0) → xf1 ≠ xf1 → Q (some (vI (-14))) ((heapC tb tz tk tks tc tt iu nm ou so pl nd pa ba de en sc rsz fp ss cu os a1 a2 a3 a4 a5 b1 b2 b3 b4 b5 le 4 xi0 xf0 xz0 xl0 xi1 xf1 xz1 xl1 xi2 xf2 xz2 xl2 xi3 xf3 xz3 xl3), hB))
    (q2 : (xl1 = 0 ∧ xl1 = 0) → xf1 = xf1 → ¬ (0 ≤ i ∧ 0 ≤ j ∧ 0 ≤ n ∧ i + n ≤ xz1 ∧ j + n ≤ xz1) → Q (some (vI (-12))) ((heapC tb tz tk tks tc tt iu nm ou so pl nd pa ba de en sc rsz fp ss cu os a1 a2 a3 a4 a5 b1 b2 b3 b4 b5 le 2 xi0 xf0 xz0 xl0 xi1 xf1 xz1 xl1 xi2 xf2 xz2 xl2 xi3 xf3 xz3 xl3), hB))
    (q0 : (xl1 = 0 ∧ xl1 = 0) → xf1 = xf1 → (0 ≤ i ∧ 0 ≤ j ∧ 0 ≤ n ∧ i + n ≤ xz1 ∧ j + n ≤ xz1) → Q (some (vI 1)) ((heapC tb tz tk tks tc tt iu nm ou so pl nd pa ba de en sc rsz fp ss cu os a1 a2 a3 a4 a5 b1 b2 b3 b4 b5 le fi xi0 xf0 xz0 xl0 (cpZ xi1 xi1 i j n) xf1 xz1 xl1 xi2 xf2 xz2 xl2 xi3 xf3 xz3 xl3), hB)) : RNd ro (d + 2) 81 [vR 0, vI 1, vI i, vI 1, vI j, vI n] ((heapC tb tz tk tks tc tt iu nm ou so pl nd pa ba de en sc rsz fp ss cu os a1 a2 a3 a4 a5 b1 b2 b3 b4 b5 le fi xi0 xf0 xz0 xl0 xi1 xf1 xz1 xl1 xi2 xf2 xz2 xl2 xi3 xf3 xz3 xl3), hB) Q := by
  refine WP_run [] 80 ?_
  refine t_isSh (by unfold rg; omega) (fun _ => ?_) (fun h => absurd (by omega) h)
  refine f1 ?_
  refine t_isSh (by unfold rg; omega) (fun _ => ?_) (fun h => absurd (by omega) h)
  refine t1 ?_
  refine ix ?_
  refine ix ?_
  refine c1 (fun e1 => ?_) (fun e1 => ?_)
  · refine t_found ?_
    exact ri (q1 (by omega))
  · refine c1 (fun e2 => ?_) (fun e2 => ?_)
    · have hb : xl1 = 0 ∧ xl1 = 0 := by omega
      refine c2 (fun e3 => ?_) (fun e3 => ?_)
      · refine t_hasRun_1 hz hi hn (fun e4 => ?_) (fun e4 => ?_)
        · refine f1 ?_
          refine t_hasRun_1 kz hj hn (fun e5 => ?_) (fun e5 => ?_)
          · refine t1 ?_
            refine cp ?_
            exact ri (q0 hb e3 (by omega))
          · refine f1 ?_
            refine t_found ?_
            exact ri (q2 hb e3 (by omega))
        · refine t1 ?_
          refine t_found ?_
          exact ri (q2 hb e3 (by omega))
      · refine t_found ?_
        exact ri (q4 hb e3)
    · refine t_found ?_
      exact ri (q1 (by omega))
set_option maxRecDepth 100000 in
set_option maxHeartbeats 4000000 in
theorem t_copy_1_2 {i j n : Int} (hi : rg i) (hj : rg j) (hn : rg n) (hl : 0 ≤ xl1 ∧ xl1 ≤ 1) (kl : 0 ≤ xl2 ∧ xl2 ≤ 1) (hx : 0 ≤ xf1 ∧ xf1 ≤ 2) (kx : 0 ≤ xf2 ∧ xf2 ≤ 2) (hz : 0 ≤ xz1 ∧ xz1 ≤ 60) (kz : 0 ≤ xz2 ∧ xz2 ≤ 60)
    (q1 : ¬ (xl1 = 0 ∧ xl2 = 0) → Q (some (vI (-11))) ((heapC tb tz tk tks tc tt iu nm ou so pl nd pa ba de en sc rsz fp ss cu os a1 a2 a3 a4 a5 b1 b2 b3 b4 b5 le 1 xi0 xf0 xz0 xl0 xi1 xf1 xz1 xl1 xi2 xf2 xz2 xl2 xi3 xf3 xz3 xl3), hB)) (q4 : (xl1 = 0 ∧ xl2 = 0) → xf1 ≠ xf2 → Q (some (vI (-14))) ((heapC tb tz tk tks tc tt iu nm ou so pl nd pa ba de en sc rsz fp ss cu os a1 a2 a3 a4 a5 b1 b2 b3 b4 b5 le 4 xi0 xf0 xz0 xl0 xi1 xf1 xz1 xl1 xi2 xf2 xz2 xl2 xi3 xf3 xz3 xl3), hB))
    (q2 : (xl1 = 0 ∧ xl2 = 0) → xf1 = xf2 → ¬ (0 ≤ i ∧ 0 ≤ j ∧ 0 ≤ n ∧ i + n ≤ xz1 ∧ j + n ≤ xz2) → Q (some (vI (-12))) ((heapC tb tz tk tks tc tt iu nm ou so pl nd pa ba de en sc rsz fp ss cu os a1 a2 a3 a4 a5 b1 b2 b3 b4 b5 le 2 xi0 xf0 xz0 xl0 xi1 xf1 xz1 xl1 xi2 xf2 xz2 xl2 xi3 xf3 xz3 xl3), hB))
    (q0 : (xl1 = 0 ∧ xl2 = 0) → xf1 = xf2 → (0 ≤ i ∧ 0 ≤ j ∧ 0 ≤ n ∧ i + n ≤ xz1 ∧ j + n ≤ xz2) → Q (some (vI 1)) ((heapC tb tz tk tks tc tt iu nm ou so pl nd pa ba de en sc rsz fp ss cu os a1 a2 a3 a4 a5 b1 b2 b3 b4 b5 le fi xi0 xf0 xz0 xl0 xi1 xf1 xz1 xl1 (cpZ xi1 xi2 i j n) xf2 xz2 xl2 xi3 xf3 xz3 xl3), hB)) : RNd ro (d + 2) 81 [vR 0, vI 1, vI i, vI 2, vI j, vI n] ((heapC tb tz tk tks tc tt iu nm ou so pl nd pa ba de en sc rsz fp ss cu os a1 a2 a3 a4 a5 b1 b2 b3 b4 b5 le fi xi0 xf0 xz0 xl0 xi1 xf1 xz1 xl1 xi2 xf2 xz2 xl2 xi3 xf3 xz3 xl3), hB) Q := by
  refine WP_run [] 80 ?_
  refine t_isSh (by unfold rg; omega) (fun _ => ?_) (fun h => absurd (by omega) h)
  refine f1 ?_
  refine t_isSh (by unfold rg; omega) (fun _ => ?_) (fun h => absurd (by omega) h)
  refine t1 ?_
  refine ix ?_
  refine ix ?_
  refine c1 (fun e1 => ?_) (fun e1 => ?_)
  · refine t_found ?_
    exact ri (q1 (by omega))
  · refine c1 (fun e2 => ?_) (fun e2 => ?_)
    · have hb : xl1 = 0 ∧ xl2 = 0 := by omega
      refine c2 (fun e3 => ?_) (fun e3 => ?_)
      · refine t_hasRun_1 hz hi hn (fun e4 => ?_) (fun e4 => ?_)
        · refine f1 ?_
          refine t_hasRun_2 kz hj hn (fun e5 => ?_) (fun e5 => ?_)
          · refine t1 ?_
            refine cp ?_
            exact ri (q0 hb e3 (by omega))
          · refine f1 ?_
            refine t_found ?_
            exact ri (q2 hb e3 (by omega))
        · refine t1 ?_
          refine t_found ?_
          exact ri (q2 hb e3 (by omega))
      · refine t_found ?_
        exact ri (q4 hb e3)
    · refine t_found ?_
      exact ri (q1 (by omega))
set_option maxRecDepth 100000 in
set_option maxHeartbeats 4000000 in
theorem t_copy_1_3 {i j n : Int} (hi : rg i) (hj : rg j) (hn : rg n) (hl : 0 ≤ xl1 ∧ xl1 ≤ 1) (kl : 0 ≤ xl3 ∧ xl3 ≤ 1) (hx : 0 ≤ xf1 ∧ xf1 ≤ 2) (kx : 0 ≤ xf3 ∧ xf3 ≤ 2) (hz : 0 ≤ xz1 ∧ xz1 ≤ 60) (kz : 0 ≤ xz3 ∧ xz3 ≤ 60)
    (q1 : ¬ (xl1 = 0 ∧ xl3 = 0) → Q (some (vI (-11))) ((heapC tb tz tk tks tc tt iu nm ou so pl nd pa ba de en sc rsz fp ss cu os a1 a2 a3 a4 a5 b1 b2 b3 b4 b5 le 1 xi0 xf0 xz0 xl0 xi1 xf1 xz1 xl1 xi2 xf2 xz2 xl2 xi3 xf3 xz3 xl3), hB)) (q4 : (xl1 = 0 ∧ xl3 = 0) → xf1 ≠ xf3 → Q (some (vI (-14))) ((heapC tb tz tk tks tc tt iu nm ou so pl nd pa ba de en sc rsz fp ss cu os a1 a2 a3 a4 a5 b1 b2 b3 b4 b5 le 4 xi0 xf0 xz0 xl0 xi1 xf1 xz1 xl1 xi2 xf2 xz2 xl2 xi3 xf3 xz3 xl3), hB))
    (q2 : (xl1 = 0 ∧ xl3 = 0) → xf1 = xf3 → ¬ (0 ≤ i ∧ 0 ≤ j ∧ 0 ≤ n ∧ i + n ≤ xz1 ∧ j + n ≤ xz3) → Q (some (vI (-12))) ((heapC tb tz tk tks tc tt iu nm ou so pl nd pa ba de en sc rsz fp ss cu os a1 a2 a3 a4 a5 b1 b2 b3 b4 b5 le 2 xi0 xf0 xz0 xl0 xi1 xf1 xz1 xl1 xi2 xf2 xz2 xl2 xi3 xf3 xz3 xl3), hB))
    (q0 : (xl1 = 0 ∧ xl3 = 0) → xf1 = xf3 → (0 ≤ i ∧ 0 ≤ j ∧ 0 ≤ n ∧ i + n ≤ xz1 ∧ j + n ≤ xz3) → Q (some (vI 1)) ((heapC tb tz tk tks tc tt iu nm ou so pl nd pa ba de en sc rsz fp ss cu os a1 a2 a3 a4 a5 b1 b2 b3 b4 b5 le fi xi0 xf0 xz0 xl0 xi1 xf1 xz1 xl1 xi2 xf2 xz2 xl2 (cpZ xi1 xi3 i j n) xf3 xz3 xl3), hB)) : RNd ro (d + 2) 81 [vR 0, vI 1, vI i, vI 3, vI j, vI n] ((heapC tb tz tk tks tc tt iu nm ou so pl nd pa ba de en sc rsz fp ss cu os a1 a2 a3 a4 a5 b1 b2 b3 b4 b5 le fi xi0 xf0 xz0 xl0 xi1 xf1 xz1 xl1 xi2 xf2 xz2 xl2 xi3 xf3 xz3 xl3), hB) Q := by
  refine WP_run [] 80 ?_
  refine t_isSh (by unfold rg; omega) (fun _ => ?_) (fun h => absurd (by omega) h)
  refine f1 ?_
  refine t_isSh (by unfold rg; omega) (fun _ => ?_) (fun h => absurd (by omega) h)
  refine t1 ?_
  refine ix ?_
  refine ix ?_
  refine c1 (fun e1 => ?_) (fun e1 => ?_)
  · refine t_found ?_
    exact ri (q1 (by omega))
  · refine c1 (fun e2 => ?_) (fun e2 => ?_)
    · have hb : xl1 = 0 ∧ xl3 = 0 := by omega
      refine c2 (fun e3 => ?_) (fun e3 => ?_)
      · refine t_hasRun_1 hz hi hn (fun e4 => ?_) (fun e4 => ?_)
        · refine f1 ?_
          refine t_hasRun_3 kz hj hn (fun e5 => ?_) (fun e5 => ?_)
          · refine t1 ?_
            refine cp ?_
            exact ri (q0 hb e3 (by omega))
          · refine f1 ?_
            refine t_found ?_
            exact ri (q2 hb e3 (by omega))
        · refine t1 ?_
          refine t_found ?_
          exact ri (q2 hb e3 (by omega))
      · refine t_found ?_
        exact ri (q4 hb e3)
    · refine t_found ?_
      exact ri (q1 (by omega))
set_option maxRecDepth 100000 in
set_option maxHeartbeats 4000000 in
theorem t_copy_2_0 {i j n : Int} (hi : rg i) (hj : rg j) (hn : rg n) (hl : 0 ≤ xl2 ∧ xl2 ≤ 1) (kl : 0 ≤ xl0 ∧ xl0 ≤ 1) (hx : 0 ≤ xf2 ∧ xf2 ≤ 2) (kx : 0 ≤ xf0 ∧ xf0 ≤ 2) (hz : 0 ≤ xz2 ∧ xz2 ≤ 60) (kz : 0 ≤ xz0 ∧ xz0 ≤ 60)
    (q1 : ¬ (xl2 = 0 ∧ xl0 = 0) → Q (some (vI (-11))) ((heapC tb tz tk tks tc tt iu nm ou so pl nd pa ba de en sc rsz fp ss cu os a1 a2 a3 a4 a5 b1 b2 b3 b4 b5 le 1 xi0 xf0 xz0 xl0 xi1 xf1 xz1 xl1 xi2 xf2 xz2 xl2 xi3 xf3 xz3 xl3), hB)) (q4 : (xl2 = 0 ∧ xl0 = 0) → xf2 ≠ xf0 → Q (some (vI (-14))) ((heapC tb tz tk tks tc tt iu nm ou so pl nd pa ba de en sc rsz fp ss cu os a1 a2 a3 a4 a5 b1 b2 b3 b4 b5 le 4 xi0 xf0 xz0 xl0 xi1 xf1 xz1 xl1 xi2 xf2 xz2 xl2 xi3 xf3 xz3 xl3), hB))
    (q2 : (xl2 = 0 ∧ xl0 = 0) → xf2 = xf0 → ¬ (0 ≤ i ∧ 0 ≤ j ∧ 0 ≤ n ∧ i + n ≤ xz2 ∧ j + n ≤ xz0) → Q (some (vI (-12))) ((heapC tb tz tk tks tc tt iu nm ou so pl nd pa ba de en sc rsz fp ss cu os a1 a2 a3 a4 a5 b1 b2 b3 b4 b5 le 2 xi0 xf0 xz0 xl0 xi1 xf1 xz1 xl1 xi2 xf2 xz2 xl2 xi3 xf3 xz3 xl3), hB))
    (q0 : (xl2 = 0 ∧ xl0 = 0) → xf2 = xf0 → (0 ≤ i ∧ 0 ≤ j ∧ 0 ≤ n ∧ i + n ≤ xz2 ∧ j + n ≤ xz0) → Q (some (vI 1)) ((heapC tb tz tk tks tc tt iu nm ou so pl nd pa ba de en sc rsz fp ss cu os a1 a2 a3 a4 a5 b1 b2 b3 b4 b5 le fi (cpZ xi2 xi0 i j n) xf0 xz0 xl0 xi1 xf1 xz1 xl1 xi2 xf2 xz2 xl2 xi3 xf3 xz3 xl3), hB)) : RNd ro (d + 2) 81 [vR 0, vI 2, vI i, vI 0, vI j, vI n] ((heapC tb tz tk tks tc tt iu nm ou so pl nd pa ba de en sc rsz fp ss cu os a1 a2 a3 a4 a5 b1 b2 b3 b4 b5 le fi xi0 xf0 xz0 xl0 xi1 xf1 xz1 xl1 xi2 xf2 xz2 xl2 xi3 xf3 xz3 xl3), hB) Q := by
  refine WP_run [] 80 ?_
  refine t_isSh (by unfold rg; omega) (fun _ => ?_) (fun h => absurd (by omega) h)
  refine f1 ?_
  refine t_isSh (by unfold rg; omega) (fun _ => ?_) (fun h => absurd (by omega) h)
  refine t1 ?_
  refine ix ?_
  refine ix ?_
  refine c1 (fun e1 => ?_) (fun e1 => ?_)
  · refine t_found ?_
    exact ri (q1 (by omega))
  · refine c1 (fun e2 => ?_) (fun e2 => ?_)
    · have hb : xl2 = 0 ∧ xl0 = 0 := by omega
      refine c2 (fun e3 => ?_) (fun e3 => ?_)
      · refine t_hasRun_2 hz hi hn (fun e4 => ?_) (fun e4 => ?_)
        · refine f1 ?_
          refine t_hasRun_0 kz hj hn (fun e5 => ?_) (fun e5 => ?_)
          · refine t1 ?_
            refine cp ?_
            exact ri (q0 hb e3 (by omega))
          · refine f1 ?_
            refine t_found ?_
            exact ri (q2 hb e3 (by omega))
        · refine t1 ?_
          refine t_found ?_
          exact ri (q2 hb e3 (by omega))
      · refine t_found ?_
        exact ri (q4 hb e3)
    · refine t_found ?_
      exact ri (q1 (by omega))
set_option maxRecDepth 100000 in
set_option maxHeartbeats 4000000 in
theorem t_copy_2_1 {i j n : Int} (hi : rg i) (hj : rg j) (hn : rg n) (hl : 0 ≤ xl2 ∧ xl2 ≤ 1) (kl : 0 ≤ xl1 ∧ xl1 ≤ 1) (hx : 0 ≤ xf2 ∧ xf2 ≤ 2) (kx : 0 ≤ xf1 ∧ xf1 ≤ 2) (hz : 0 ≤ xz2 ∧ xz2 ≤ 60) (kz : 0 ≤ xz1 ∧ xz1 ≤ 60)
    (q1 : ¬ (xl2 = 0 ∧ xl1 = 0) → Q (some (vI (-11))) ((heapC tb tz tk tks tc tt iu nm ou so pl nd pa ba de en sc rsz fp ss cu os a1 a2 a3 a4 a5 b1 b2 b3 b4 b5 le 1 xi0 xf0 xz0 xl0 xi1 xf1 xz1 xl1 xi2 xf2 xz2 xl2 xi3 xf3 xz3 xl3), hB)) (q4 : (xl2 = 0 ∧ xl1 = 0) → xf2 ≠ xf1 → Q (some (vI (-14))) ((heapC tb tz tk tks tc tt iu nm ou so pl nd pa ba de en sc rsz fp ss cu os a1 a2 a3 a4 a5 b1 b2 b3 b4 b5 le 4 xi0 xf0 xz0 xl0 xi1 xf1 xz1 xl1 xi2 xf2 xz2 xl2 xi3 xf3 xz3 xl3), hB))
    (q2 : (xl2 = 0 ∧ xl1 = 0) → xf2 = xf1 → ¬ (0 ≤ i ∧ 0 ≤ j ∧ 0 ≤ n ∧ i + n ≤ xz2 ∧ j + n ≤ xz1) → Q (some (vI (-12))) ((heapC tb tz tk tks tc tt iu nm ou so pl nd pa ba de en sc rsz fp ss cu os a1 a2 a3 a4 a5 b1 b2 b3 b4 b5 le 2 xi0 xf0 xz0 xl0 xi1 xf1 xz1 xl1 xi2 xf2 xz2 xl2 xi3 xf3 xz3 xl3), hB))
    (q0 : (xl2 = 0 ∧ xl1 = 0) → xf2 = xf1 → (0 ≤ i ∧ 0 ≤ j ∧ 0 ≤ n ∧ i + n ≤ xz2 ∧ j + n ≤ xz1) → Q (some (vI 1)) ((heapC tb tz tk tks tc tt iu nm ou so pl nd pa ba de en sc rsz fp ss cu os a1 a2 a3 a4 a5 b1 b2 b3 b4 b5 le fi xi0 xf0 xz0 xl0 (cpZ xi2 xi1 i j n) xf1 xz1 xl1 xi2 xf2 xz2 xl2 xi3 xf3 xz3 xl3), hB)) : RNd ro (d + 2) 81 [vR 0, vI 2, vI i, vI 1, vI j, vI n] ((heapC tb tz tk tks tc tt iu nm ou so pl nd pa ba de en sc rsz fp ss cu os a1 a2 a3 a4 a5 b1 b2 b3 b4 b5 le fi xi0 xf0 xz0 xl0 xi1 xf1 xz1 xl1 xi2 xf2 xz2 xl2 xi3 xf3 xz3 xl3), hB) Q := by
  refine WP_run [] 80 ?_
  refine t_isSh (by unfold rg; omega) (fun _ => ?_) (fun h => absurd (by omega) h)
  refine f1 ?_
  refine t_isSh (by unfold rg; omega) (fun _ => ?_) (fun h => absurd (by omega) h)
  refine t1 ?_
  refine ix ?_
  refine ix ?_
  refine c1 (fun e1 => ?_) (fun e1 => ?_)
  · refine t_found ?_
    exact ri (q1 (by omega))
  · refine c1 (fun e2 => ?_) (fun e2 => ?_)
    · have hb : xl2 = 0 ∧ xl1 = 0 := by omega
      refine c2 (fun e3 => ?_) (fun e3 => ?_)
      · refine t_hasRun_2 hz hi hn (fun e4 => ?_) (fun e4 => ?_)
        · refine f1 ?_
          refine t_hasRun_1 kz hj hn (fun e5 => ?_) (fun e5 => ?_)
          · refine t1 ?_
            refine cp ?_
            exact ri (q0 hb e3 (by omega))
          · refine f1 ?_
            refine t_found ?_
            exact ri (q2 hb e3 (by omega))
        · refine t1 ?_
          refine t_found ?_
          exact ri (q2 hb e3 (by omega))
      · refine t_found ?_
        exact ri (q4 hb e3)
    · refine t_found ?_
      exact ri (q1 (by omega))
set_option maxRecDepth 100000 in
set_option maxHeartbeats 4000000 in
theorem t_copy_2_2 {i j n : Int} (hi : rg i) (hj : rg j) (hn : rg n) (hl : 0 ≤ xl2 ∧ xl2 ≤ 1) (kl : 0 ≤ xl2 ∧ xl2 ≤ 1) (hx : 0 ≤ xf2 ∧ xf2 ≤ 2) (kx : 0 ≤ xf2 ∧ xf2 ≤ 2) (hz : 0 ≤ xz2 ∧ xz2 ≤ 60) (kz : 0 ≤ xz2 ∧ xz2 ≤ 60)
    (q1 : ¬ (xl2 = 0 ∧ xl2 = 0) → Q (some (vI (-11))) ((heapC tb tz tk tks tc tt iu nm ou so pl nd pa ba de en sc rsz fp ss cu os a1 a2 a3 a4 a5 b1 b2 b3 b4 b5 le 1 xi0 xf0 xz0 xl0 xi1 xf1 xz1 xl1 xi2 xf2 xz2 xl2 xi3 xf3 xz3 xl3), hB)) (q4 : (xl2 = 0 ∧ xl2 = 0) → xf2 ≠ xf2 → Q (some (vI (-14))) ((heapC tb tz tk tks tc tt iu nm ou so pl nd pa ba de en sc rsz fp ss cu os a1 a2 a3 a4 a5 b1 b2 b3 b4 b5 le 4 xi0 xf0 xz0 xl0 xi1 xf1 xz1 xl1 xi2 xf2 xz2 xl2 xi3 xf3 xz3 xl3), hB))
    (q2 : (xl2 = 0 ∧ xl2 = 0) → xf2 = xf2 → ¬ (0 ≤ i ∧ 0 ≤ j ∧ 0 ≤ n ∧ i + n ≤ xz2 ∧ j + n ≤ xz2) → Q (some (vI (-12))) ((heapC tb tz tk tks tc tt iu nm ou so pl nd pa ba de en sc rsz fp ss cu os a1 a2 a3 a4 a5 b1 b2 b3 b4 b5 le 2 xi0 xf0 xz0 xl0 xi1 xf1 xz1 xl1 xi2 xf2 xz2 xl2 xi3 xf3 xz3 xl3), hB))
    (q0 : (xl2 = 0 ∧ xl2 = 0) → xf2 = xf2 → (0 ≤ i ∧ 0 ≤ j ∧ 0 ≤ n ∧ i + n ≤ xz2 ∧ j + n ≤ xz2) → Q (some (vI 1)) ((heapC tb tz tk tks tc tt iu nm ou so pl nd pa ba de en sc rsz fp ss cu os a1 a2 a3 a4 a5 b1 b2 b3 b4 b5 le fi xi0 xf0 xz0 xl0 xi1 xf1 xz1 xl1 (cpZ xi2 xi2 i j n) xf2 xz2 xl2 xi3 xf3 xz3 xl3), hB)) : RNd ro (d + 2) 81 [vR 0, vI 2, vI i, vI 2, vI j, vI n] ((heapC tb tz tk tks tc tt iu nm ou so pl nd pa ba de en sc rsz fp ss cu os a1 a2 a3 a4 a5 b1 b2 b3 b4 b5 le fi xi0 xf0 xz0 xl0 xi1 xf1 xz1 xl1 xi2 xf2 xz2 xl2 xi3 xf3 xz3 xl3), hB) Q := by
  refine WP_run [] 80 ?_
  refine t_isSh (by unfold rg; omega) (fun _ => ?_) (fun h => absurd (by omega) h)
  refine f1 ?_
  refine t_isSh (by unfold rg; omega) (fun _ => ?_) (fun h => absurd (by omega) h)
  refine t1 ?_
  refine ix ?_
  refine ix ?_
  refine c1 (fun e1 => ?_) (fun e1 => ?_)
  · refine t_found ?_
    exact ri (q1 (by omega))
  · refine c1 (fun e2 => ?_) (fun e2 => ?_)
    · have hb : xl2 = 0 ∧ xl2 = 0 := by omega
      refine c2 (fun e3 => ?_) (fun e3 => ?_)
      · refine t_hasRun_2 hz hi hn (fun e4 => ?_) (fun e4 => ?_)
        · refine f1 ?_
          refine t_hasRun_2 kz hj hn (fun e5 => ?_) (fun e5 => ?_)
          · refine t1 ?_
            refine cp ?_
            exact ri (q0 hb e3 (by omega))
          · refine f1 ?_
            refine t_found ?_
            exact ri (q2 hb e3 (by omega))
        · refine t1 ?_
          refine t_found ?_
          exact ri (q2 hb e3 (by omega))
      · refine t_found ?_
        exact ri (q4 hb e3)
    · refine t_found ?_
      exact ri (q1 (by omega))
set_option maxRecDepth 100000 in
set_option maxHeartbeats 4000000 in
theorem t_copy_2_3 {i j n : Int} (hi : rg i) (hj : rg j) (hn : rg n) (hl : 0 ≤ xl2 ∧ xl2 ≤ 1) (kl : 0 ≤ xl3 ∧ xl3 ≤ 1) (hx : 0 ≤ xf2 ∧ xf2 ≤ 2) (kx : 0 ≤ xf3 ∧ xf3 ≤ 2) (hz : 0 ≤ xz2 ∧ xz2 ≤ 60) (kz : 0 ≤ xz3 ∧ xz3 ≤ 60)
    (q1 : ¬ (xl2 = 0 ∧ xl3 = 0) → Q (some (vI (-11))) ((heapC tb tz tk tks tc tt iu nm ou so pl nd pa ba de en sc rsz fp ss cu os a1 a2 a3 a4 a5 b1 b2 b3 b4 b5 le 1 xi0 xf0 xz0 xl0 xi1 xf1 xz1 xl1 xi2 xf2 xz2 xl2 xi3 xf3 xz3 xl3), hB)) (q4 : (xl2 = 0 ∧ xl3 = 0) → xf2 ≠ xf3 → Q (some (vI (-14))) ((heapC tb tz tk tks tc tt iu nm ou so pl nd pa ba de en sc rsz fp ss cu os a1 a2 a3 a4 a5 b1 b2 b3 b4 b5 le 4 xi0 xf0 xz0 xl0 xi1 xf1 xz1 xl1 xi2 xf2 xz2 xl2 xi3 xf3 xz3 xl3), hB))
    (q2 : (xl2 = 0 ∧ xl3 = 0) → xf2 = xf3 → ¬ (0 ≤ i ∧ 0 ≤ j ∧ 0 ≤ n ∧ i + n ≤ xz2 ∧ j + n ≤ xz3) → Q (some (vI (-12))) ((heapC tb tz tk tks tc tt iu nm ou so pl nd pa ba de en sc rsz fp ss cu os a1 a2 a3 a4 a5 b1 b2 b3 b4 b5 le 2 xi0 xf0 xz0 xl0 xi1 xf1 xz1 xl1 xi2 xf2 xz2 xl2 xi3 xf3 xz3 xl3), hB))
    (q0 : (xl2 = 0 ∧ xl3 = 0) → xf2 = xf3 → (0 ≤ i ∧ 0 ≤ j ∧ 0 ≤ n ∧ i + n ≤ xz2 ∧ j + n ≤ xz3) → Q (some (vI 1)) ((heapC tb tz tk tks tc tt iu nm ou so pl nd pa ba de en sc rsz fp ss cu os a1 a2 a3 a4 a5 b1 b2 b3 b4 b5 le fi xi0 xf0 xz0 xl0 xi1 xf1 xz1 xl1 xi2 xf2 xz2 xl2 (cpZ xi2 xi3 i j n) xf3 xz3 xl3), hB)) : RNd ro (d + 2) 81 [vR 0, vI 2, vI i, vI 3, vI j, vI n] ((heapC tb tz tk tks tc tt iu nm ou so pl nd pa ba de en sc rsz fp ss cu os a1 a2 a3 a4 a5 b1 b2 b3 b4 b5 le fi xi0 xf0 xz0 xl0 xi1 xf1 xz1 xl1 xi2 xf2 xz2 xl2 xi3 xf3 xz3 xl3), hB) Q := by
  refine WP_run [] 80 ?_
  refine t_isSh (by unfold rg; omega) (fun _ => ?_) (fun h => absurd (by omega) h)
  refine f1 ?_
  refine t_isSh (by unfold rg; omega) (fun _ => ?_) (fun h => absurd (by omega) h)
  refine t1 ?_
  refine ix ?_
  refine ix ?_
  refine c1 (fun e1 => ?_) (fun e1 => ?_)
  · refine t_found ?_
    exact ri (q1 (by omega))
  · refine c1 (fun e2 => ?_) (fun e2 => ?_)
    · have hb : xl2 = 0 ∧ xl3 = 0 := by omega
      refine c2 (fun e3 => ?_) (fun e3 => ?_)
      · refine t_hasRun_2 hz hi hn (fun e4 => ?_) (fun e4 => ?_)
        · refine f1 ?_
          refine t_hasRun_3 kz hj hn (fun e5 => ?_) (fun e5 => ?_)
          · refine t1 ?_
            refine cp ?_
            exact ri (q0 hb e3 (by omega))
          · refine f1 ?_
            refine t_found ?_
            exact ri (q2 hb e3 (by omega))
        · refine t1 ?_
          refine t_found ?_
          exact ri (q2 hb e3 (by omega))
      · refine t_found ?_
        exact ri (q4 hb e3)
    · refine t_found ?_
      exact ri (q1 (by omega))
set_option maxRecDepth 100000 in
set_option maxHeartbeats 4000000 in
theorem t_copy_3_0 {i j n : Int} (hi : rg i) (hj : rg j) (hn : rg n) (hl : 0 ≤ xl3 ∧ xl3 ≤ 1) (kl : 0 ≤ xl0 ∧ xl0 ≤ 1) (hx : 0 ≤ xf3 ∧ xf3 ≤ 2) (kx : 0 ≤ xf0 ∧ xf0 ≤ 2) (hz : 0 ≤ xz3 ∧ xz3 ≤ 60) (kz : 0 ≤ xz0 ∧ xz0 ≤ 60)
    (q1 : ¬ (xl3 = 0 ∧ xl0 = 0) → Q (some (vI (-11))) ((heapC tb tz tk tks tc tt iu nm ou so pl nd pa ba de en sc rsz fp ss cu os a1 a2 a3 a4 a5 b1 b2 b3 b4 b5 le 1 xi0 xf0 xz0 xl0 xi1 xf1 xz1 xl1 xi2 xf2 xz2 xl2 xi3 xf3 xz3 xl3), hB)) (q4 : (xl3 = 0 ∧ xl0 = 0) → xf3 ≠ xf0 → Q (some (vI (-14))) ((heapC tb tz tk tks tc tt iu nm ou so pl nd pa ba de en sc rsz fp ss cu os a1 a2 a3 a4 a5 b1 b2 b3 b4 b5 le 4 xi0 xf0 xz0 xl0 xi1 xf1 xz1 xl1 xi2 xf2 xz2 xl2 xi3 xf3 xz3 xl3), hB))
    (q2 : (xl3 = 0 ∧ xl0 = 0) → xf3 = xf0 → ¬ (0 ≤ i ∧ 0 ≤ j ∧ 0 ≤ n ∧ i + n ≤ xz3 ∧ j + n ≤ xz0) → Q (some (vI (-12))) ((heapC tb tz tk tks tc tt iu nm ou so pl nd pa ba de en sc rsz fp ss cu os a1 a2 a3 a4 a5 b1 b2 b3 b4 b5 le 2 xi0 xf0 xz0 xl0 xi1 xf1 xz1 xl1 xi2 xf2 xz2 xl2 xi3 xf3 xz3 xl3), hB))
    (q0 : (xl3 = 0 ∧ xl0 = 0) → xf3 = xf0 → (0 ≤ i ∧ 0 ≤ j ∧ 0 ≤ n ∧ i + n ≤ xz3 ∧ j + n ≤ xz0) → Q (some (vI 1)) ((heapC tb tz tk tks tc tt iu nm ou so pl nd pa ba de en sc rsz fp ss cu os a1 a2 a3 a4 a5 b1 b2 b3 b4 b5 le fi (cpZ xi3 xi0 i j n) xf0 xz0 xl0 xi1 xf1 xz1 xl1 xi2 xf2 xz2 xl2 xi3 xf3 xz3 xl3), hB)) : RNd ro (d + 2) 81 [vR 0, vI 3, vI i, vI 0, vI j, vI n] ((heapC tb tz tk tks tc tt iu nm ou so pl nd pa ba de en sc rsz fp ss cu os a1 a2 a3 a4 a5 b1 b2 b3 b4 b5 le fi xi0 xf0 xz0 xl0 xi1 xf1 xz1 xl1 xi2 xf2 xz2 xl2 xi3 xf3 xz3 xl3), hB) Q := by
  refine WP_run [] 80 ?_
  refine t_isSh (by unfold rg; omega) (fun _ => ?_) (fun h => absurd (by omega) h)
  refine f1 ?_
  refine t_isSh (by unfold rg; omega) (fun _ => ?_) (fun h => absurd (by omega) h)
  refine t1 ?_
  refine ix ?_
  refine ix ?_
  refine c1 (fun e1 => ?_) (fun e1 => ?_)
  · refine t_found ?_
    exact ri (q1 (by omega))
  · refine c1 (fun e2 => ?_) (fun e2 => ?_)
    · have hb : xl3 = 0 ∧ xl0 = 0 := by omega
      refine c2 (fun e3 => ?_) (fun e3 => ?_)
      · refine t_hasRun_3 hz hi hn (fun e4 => ?_) (fun e4 => ?_)
        · refine f1 ?_
          refine t_hasRun_0 kz hj hn (fun e5 => ?_) (fun e5 => ?_)
          · refine t1 ?_
            refine cp ?_
            exact ri (q0 hb e3 (by omega))
          · refine f1 ?_
            refine t_found ?_
            exact ri (q2 hb e3 (by omega))
        · refine t1 ?_
          refine t_found ?_
          exact ri (q2 hb e3 (by omega))
      · refine t_found ?_
        exact ri (q4 hb e3)
    · refine t_found ?_
      exact ri (q1 (by omega))
set_option maxRecDepth 100000 in
set_option maxHeartbeats 4000000 in
theorem t_copy_3_1 {i j n : Int} (hi : rg i) (hj : rg j) (hn : rg n) (hl : 0 ≤ xl3 ∧ xl3 ≤ 1) (kl : 0 ≤ xl1 ∧ xl1 ≤ 1) (hx : 0 ≤ xf3 ∧ xf3 ≤ 2) (kx : 0 ≤ xf1 ∧ xf1 ≤ 2) (hz : 0 ≤ xz3 ∧ xz3 ≤ 60) (kz : 0 ≤ xz1 ∧ xz1 ≤ 60)
    (q1 : ¬ (xl3 = 0 ∧ xl1 = 0) → Q (some (vI (-11))) ((heapC tb tz tk tks tc tt iu nm ou so pl nd pa ba de en sc rsz fp ss cu os a1 a2 a3 a4 a5 b1 b2 b3 b4 b5 le 1 xi0 xf0 xz0 xl0 xi1 xf1 xz1 xl1 xi2 xf2 xz2 xl2 xi3 xf3 xz3 xl3), hB)) (q4 : (xl3 = 0 ∧ xl1 = 0) → xf3 ≠ xf1 → Q (some (vI (-14))) ((heapC tb tz tk tks tc tt iu nm ou so pl nd pa ba de en sc rsz fp ss cu os a1 a2 a3 a4 a5 b1 b2 b3 b4 b5 le 4 xi0 xf0 xz0 xl0 xi1 xf1 xz1 xl1 xi2 xf2 xz2 xl2 xi3 xf3 xz3 xl3), hB))
    (q2 : (xl3 = 0 ∧ xl1 = 0) → xf3 = xf1 → ¬ (0 ≤ i ∧ 0 ≤ j ∧ 0 ≤ n ∧ i + n ≤ xz3 ∧ j + n ≤ xz1) → Q (some (vI (-12))) ((heapC tb tz tk tks tc tt iu nm ou so pl nd pa ba de en sc rsz fp ss cu os a1 a2 a3 a4 a5 b1 b2 b3 b4 b5 le 2 xi0 xf0 xz0 xl0 xi1 xf1 xz1 xl1 xi2 xf2 xz2 xl2 xi3 xf3 xz3 xl3), hB))
    (q0 : (xl3 = 0 ∧ xl1 = 0) → xf3 = xf1 → (0 ≤ i ∧ 0 ≤ j ∧ 0 ≤ n ∧ i + n ≤ xz3 ∧ j + n ≤ xz1) → Q (some (vI 1)) ((heapC tb tz tk tks tc tt iu nm ou so pl nd pa ba de en sc rsz fp ss cu os a1 a2 a3 a4 a5 b1 b2 b3 b4 b5 le fi xi0 xf0 xz0 xl0 (cpZ xi3 xi1 i j n) xf1 xz1 xl1 xi2 xf2 xz2 xl2 xi3 xf3 xz3 xl3), hB)) : RNd ro (d + 2) 81 [vR 0, vI 3, vI i, vI 1, vI j, vI n] ((heapC tb tz tk tks tc tt iu nm ou so pl nd pa ba de en sc rsz fp ss cu os a1 a2 a3 a4 a5 b1 b2 b3 b4 b5 le fi xi0 xf0 xz0 xl0 xi1 xf1 xz1 xl1 xi2 xf2 xz2 xl2 xi3 xf3 xz3 xl3), hB) Q := by
  refine WP_run [] 80 ?_
  refine t_isSh (by unfold rg; omega) (fun _ => ?_) (fun h => absurd (by omega) h)
  refine f1 ?_
  refine t_isSh (by unfold rg; omega) (fun _ => ?_) (fun h => absurd (by omega) h)
  refine t1 ?_
  refine ix ?_
  refine ix ?_
  refine c1 (fun e1 => ?_) (fun e1 => ?_)
  · refine t_found ?_
    exact ri (q1 (by omega))
  · refine c1 (fun e2 => ?_) (fun e2 => ?_)
    · have hb : xl3 = 0 ∧ xl1 = 0 := by omega
      refine c2 (fun e3 => ?_) (fun e3 => ?_)
      · refine t_hasRun_3 hz hi hn (fun e4 => ?_) (fun e4 => ?_)
        · refine f1 ?_
          refine t_hasRun_1 kz hj hn (fun e5 => ?_) (fun e5 => ?_)
          · refine t1 ?_
            refine cp ?_
            exact ri (q0 hb e3 (by omega))
          · refine f1 ?_
            refine t_found ?_
            exact ri (q2 hb e3 (by omega))
        · refine t1 ?_
          refine t_found ?_
          exact ri (q2 hb e3 (by omega))
      · refine t_found ?_
        exact ri (q4 hb e3)
    · refine t_found ?_
      exact ri (q1 (by omega))
set_option maxRecDepth 100000 in
set_option maxHeartbeats 4000000 in
theorem t_copy_3_2 {i j n : Int} (hi : rg i) (hj : rg j) (hn : rg n) (hl : 0 ≤ xl3 ∧ xl3 ≤ 1) (kl : 0 ≤ xl2 ∧ xl2 ≤ 1) (hx : 0 ≤ xf3 ∧ xf3 ≤ 2) (kx : 0 ≤ xf2 ∧ xf2 ≤ 2) (hz : 0 ≤ xz3 ∧ xz3 ≤ 60) (kz : 0 ≤ xz2 ∧ xz2 ≤ 60)
    (q1 : ¬ (xl3 = 0 ∧ xl2 = 0) → Q (some (vI (-11))) ((heapC tb tz tk tks tc tt iu nm ou so pl nd pa ba de en sc rsz fp ss cu os a1 a2 a3 a4 a5 b1 b2 b3 b4 b5 le 1 xi0 xf0 xz0 xl0 xi1 xf1 xz1 xl1 xi2 xf2 xz2 xl2 xi3 xf3 xz3 xl3), hB)) (q4 : (xl3 = 0 ∧ xl2 = 0) → xf3 ≠ xf2 → Q (some (vI (-14))) ((heapC tb tz tk tks tc tt iu nm ou so pl nd pa ba de en sc rsz fp ss cu os a1 a2 a3 a4 a5 b1 b2 b3 b4 b5 le 4 xi0 xf0 xz0 xl0 xi1 xf1 xz1 xl1 xi2 xf2 xz2 xl2 xi3 xf3 xz3 xl3), hB))
    (q2 : (xl3 = 0 ∧ xl2 = 0) → xf3 = xf2 → ¬ (0 ≤ i ∧ 0 ≤ j ∧ 0 ≤ n ∧ i + n ≤ xz3 ∧ j + n ≤ xz2) → Q (some (vI (-12))) ((heapC tb tz tk tks tc tt iu nm ou so pl nd pa ba de en sc rsz fp ss cu os a1 a2 a3 a4 a5 b1 b2 b3 b4 b5 le 2 xi0 xf0 xz0 xl0 xi1 xf1 xz1 xl1 xi2 xf2 xz2 xl2 xi3 xf3 xz3 xl3), hB))
    (q0 : (xl3 = 0 ∧ xl2 = 0) → xf3 = xf2 → (0 ≤ i ∧ 0 ≤ j ∧ 0 ≤ n ∧ i + n ≤ xz3 ∧ j + n ≤ xz2) → Q (some (vI 1)) ((heapC tb tz tk tks tc tt iu nm ou so pl nd pa ba de en sc rsz fp ss cu os a1 a2 a3 a4 a5 b1 b2 b3 b4 b5 le fi xi0 xf0 xz0 xl0 xi1 xf1 xz1 xl1 (cpZ xi3 xi2 i j n) xf2 xz2 xl2 xi3 xf3 xz3 xl3), hB)) : RNd ro (d + 2) 81 [vR 0, vI 3, vI i, vI 2, vI j, vI n] ((heapC tb tz tk tks tc tt iu nm ou so pl nd pa ba de en sc rsz fp ss cu os a1 a2 a3 a4 a5 b1 b2 b3 b4 b5 le fi xi0 xf0 xz0 xl0 xi1 xf1 xz1 xl1 xi2 xf2 xz2 xl2 xi3 xf3 xz3 xl3), hB) Q := by
  refine WP_run [] 80 ?_
  refine t_isSh (by unfold rg; omega) (fun _ => ?_) (fun h => absurd (by omega) h)
  refine f1 ?_
  refine t_isSh (by unfold rg; omega) (fun _ => ?_) (fun h => absurd (by omega) h)
  refine t1 ?_
  refine ix ?_
  refine ix ?_
  refine c1 (fun e1 => ?_) (fun e1 => ?_)
  · refine t_found ?_
    exact ri (q1 (by omega))
  · refine c1 (fun e2 => ?_) (fun e2 => ?_)
    · have hb : xl3 = 0 ∧ xl2 = 0 := by omega
      refine c2 (fun e3 => ?_) (fun e3 => ?_)
      · refine t_hasRun_3 hz hi hn (fun e4 => ?_) (fun e4 => ?_)
        · refine f1 ?_
          refine t_hasRun_2 kz hj hn (fun e5 => ?_) (fun e5 => ?_)
          · refine t1 ?_
            refine cp ?_
            exact ri (q0 hb e3 (by omega))
          · refine f1 ?_
            refine t_found ?_
            exact ri (q2 hb e3 (by omega))
        · refine t1 ?_
          refine t_found ?_
          exact ri (q2 hb e3 (by omega))
      · refine t_found ?_
        exact ri (q4 hb e3)
    · refine t_found ?_
      exact ri (q1 (by omega))
set_option maxRecDepth 100000 in
set_option maxHeartbeats 4000000 in
theorem t_copy_3_3 {i j n : Int} (hi : rg i) (hj : rg j) (hn : rg n) (hl : 0 ≤ xl3 ∧ xl3 ≤ 1) (kl : 0 ≤ xl3 ∧ xl3 ≤ 1) (hx : 0 ≤ xf3 ∧ xf3 ≤ 2) (kx : 0 ≤ xf3 ∧ xf3 ≤ 2) (hz : 0 ≤ xz3 ∧ xz3 ≤ 60) (kz : 0 ≤ xz3 ∧ xz3 ≤ 60)
    (q1 : ¬ (xl3 = 0 ∧ xl3 = 0) → Q (some (vI (-11))) ((heapC tb tz tk tks tc tt iu nm ou so pl nd pa ba de en sc rsz fp ss cu os a1 a2 a3 a4 a5 b1 b2 b3 b4 b5 le 1 xi0 xf0 xz0 xl0 xi1 xf1 xz1 xl1 xi2 xf2 xz2 xl2 xi3 xf3 xz3 xl3), hB)) (q4 : (xl3 = 0 ∧ xl3 = 0) → xf3 ≠ xf3 → Q (some (vI (-14))) ((heapC tb tz tk tks tc tt iu nm ou so pl nd pa ba de en sc rsz fp ss cu os a1 a2 a3 a4 a5 b1 b2 b3 b4 b5 le 4 xi0 xf0 xz0 xl0 xi1 xf1 xz1 xl1 xi2 xf2 xz2 xl2 xi3 xf3 xz3 xl3), hB))
    (q2 : (xl3 = 0 ∧ xl3 = 0) → xf3 = xf3 → ¬ (0 ≤ i ∧ 0 ≤ j ∧ 0 ≤ n ∧ i + n ≤ xz3 ∧ j + n ≤ xz3) → Q (some (vI (-12))) ((heapC tb tz tk tks tc tt iu nm ou so pl nd pa ba de en sc rsz fp ss cu os a1 a2 a3 a4 a5 b1 b2 b3 b4 b5 le 2 xi0 xf0 xz0 xl0 xi1 xf1 xz1 xl1 xi2 xf2 xz2 xl2 xi3 xf3 xz3 xl3), hB))
    (q0 : (xl3 = 0 ∧ xl3 = 0) → xf3 = xf3 → (0 ≤ i ∧ 0 ≤ j ∧ 0 ≤ n ∧ i + n ≤ xz3 ∧ j + n ≤ xz3) → Q (some (vI 1)) ((heapC tb tz tk tks tc tt iu nm ou so pl nd pa ba de en sc rsz fp ss cu os a1 a2 a3 a4 a5 b1 b2 b3 b4 b5 le fi xi0 xf0 xz0 xl0 xi1 xf1 xz1 xl1 xi2 xf2 xz2 xl2 (cpZ xi3 xi3 i j n) xf3 xz3 xl3), hB)) : RNd ro (d + 2) 81 [vR 0, vI 3, vI i, vI 3, vI j, vI n] ((heapC tb tz tk tks tc tt iu nm ou so pl nd pa ba de en sc rsz fp ss cu os a1 a2 a3 a4 a5 b1 b2 b3 b4 b5 le fi xi0 xf0 xz0 xl0 xi1 xf1 xz1 xl1 xi2 xf2 xz2 xl2 xi3 xf3 xz3 xl3), hB) Q := by
  refine WP_run [] 80 ?_
  refine t_isSh (by unfold rg; omega) (fun _ => ?_) (fun h => absurd (by omega) h)
  refine f1 ?_
  refine t_isSh (by unfold rg; omega) (fun _ => ?_) (fun h => absurd (by omega) h)
  refine t1 ?_
  refine ix ?_
  refine ix ?_
  refine c1 (fun e1 => ?_) (fun e1 => ?_)
  · refine t_found ?_
    exact ri (q1 (by omega))
  · refine c1 (fun e2 => ?_) (fun e2 => ?_)
    · have hb : xl3 = 0 ∧ xl3 = 0 := by omega
      refine c2 (fun e3 => ?_) (fun e3 => ?_)
      · refine t_hasRun_3 hz hi hn (fun e4 => ?_) (fun e4 => ?_)
        · refine f1 ?_
          refine t_hasRun_3 kz hj hn (fun e5 => ?_) (fun e5 => ?_)
          · refine t1 ?_
            refine cp ?_
            exact ri (q0 hb e3 (by omega))
          · refine f1 ?_
            refine t_found ?_
            exact ri (q2 hb e3 (by omega))
        · refine t1 ?_
          refine t_found ?_
          exact ri (q2 hb e3 (by omega))
      · refine t_found ?_
        exact ri (q4 hb e3)
    · refine t_found ?_
      exact ri (q1 (by omega))
end COPIES
