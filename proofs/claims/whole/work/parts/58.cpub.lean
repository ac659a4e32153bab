/-! ===== the class: type, wipe, undo, back, plans asked, counts ===== -/
def aRefC (tx : Int → Int) (n i w what bd : Int) : Int := if (97 ≤ w ∧ w ≤ 122) ∧ 0 ≤ what ∧ what < bd then aRef tx n i else -2
noncomputable def aPlan (tx : Int → Int) (n i w what : Int) : Int := if aRefC tx n i w what 2 ≠ 0 then aRefC tx n i w what 2 else if what = 0 then cBest tx n i (w - 97) else cLst tx n i (w - 97)
noncomputable def aEdits (tx : Int → Int) (n i w what : Int) : Int := if aRefC tx n i w what 3 ≠ 0 then aRefC tx n i w what 3 else cED tx n i (w - 97) what
noncomputable def aCaught (tx : Int → Int) (n i w what : Int) : Int := if aRefC tx n i w what 2 ≠ 0 then aRefC tx n i w what 2 else if what = 0 then cCa tx n i (w - 97) else cCb tx n i (w - 97)
noncomputable def aEasy (tx : Int → Int) (n i : Int) : Int := if aRef tx n i ≠ 0 then aRef tx n i else esy (fun w => cED tx n i w 0) (26 : Int).toNat
def aCount (tx : Int → Int) (n kn fi what : Int) : Int := if what = 0 then n else if 1 ≤ what ∧ what ≤ 6 then telF (cND tx n) (cSC tx n) (cIU tx n) (cBT tx n) (cFM tx n (cNM tx n)) what else if what = 7 then kn else if what = 8 then fi else -2
set_option maxRecDepth 100000 in
set_option maxHeartbeats 4000000 in
theorem aRef_rg {tx : Int → Int} {n i : Int} : -3 ≤ aRef tx n i ∧ aRef tx n i ≤ 0 := by
  unfold aRef
  split
  · split <;> omega
  · omega
set_option maxRecDepth 100000 in
set_option maxHeartbeats 4000000 in
theorem aRef_0 {tx : Int → Int} {n i : Int} (h : aRef tx n i = 0) : (0 ≤ i ∧ i < cND tx n) ∧ cIU tx n i = 0 := by
  unfold aRef at h
  split at h
  · split at h
    · rename_i a b
      exact ⟨a, b⟩
    · omega
  · omega
set_option maxRecDepth 100000 in
set_option maxHeartbeats 4000000 in
theorem aRefC_rg {tx : Int → Int} {n i w what bd : Int} : -3 ≤ aRefC tx n i w what bd ∧ aRefC tx n i w what bd ≤ 0 := by
  unfold aRefC
  split
  · exact aRef_rg
  · omega
set_option maxRecDepth 100000 in
set_option maxHeartbeats 4000000 in
theorem aRefC_0 {tx : Int → Int} {n i w what bd : Int} (h : aRefC tx n i w what bd = 0) : ((0 ≤ i ∧ i < cND tx n) ∧ cIU tx n i = 0) ∧ (97 ≤ w ∧ w ≤ 122) ∧ 0 ≤ what ∧ what < bd := by
  unfold aRefC at h
  split at h
  · rename_i a
    exact ⟨aRef_0 h, a⟩
  · omega
section CPUB
variable {ro : Nat × (Int → Int)} {d : Nat} {Q : Option AV → AH → Prop} {hB : List AC} {tb : Int → Int} {tz : Int} {tk : Int → Int → Int} {tks : Int → Int} {tc tt : Int} {iu nm ou so pl : Int → Int} {nd : Int} {pa ba de en : Int → Int} {sc rsz fp ss cu os : Int} {a1 a2 a3 : Int → Int} {a4 : Int → Int64} {a5 b1 b2 b3 : Int → Int} {b4 : Int → Int64} {b5 : Int → Int} {le fi : Int} {xi0 : Int → Int} {xf0 xz0 xl0 : Int} {xi1 : Int → Int} {xf1 xz1 xl1 : Int} {xi2 : Int → Int} {xf2 xz2 xl2 : Int} {xi3 : Int → Int} {xf3 xz3 xl3 : Int}
set_option maxRecDepth 100000 in
set_option maxHeartbeats 4000000 in
theorem t_type {b : Int} (hb : rg b) (htz : 0 ≤ tz ∧ tz ≤ 100) (htb : rI tb 0 255) (h0 : RT0 iu nm so ou pl pa ba en) (h1 : rI a1 0 25) (h2 : rI a2 0 3) (h3 : rI a3 (-1) 59) (h5 : rI a5 (-1) 59)
    (q2 : ¬ (0 ≤ b ∧ b ≤ 255) → Q (some (vI (-2))) ((heapC tb tz tk tks tc tt iu nm ou so pl nd pa ba de en sc rsz fp ss cu os a1 a2 a3 a4 a5 b1 b2 b3 b4 b5 le fi xi0 xf0 xz0 xl0 xi1 xf1 xz1 xl1 xi2 xf2 xz2 xl2 xi3 xf3 xz3 xl3), hB)) (q4 : 0 ≤ b ∧ b ≤ 255 → tz = 100 → Q (some (vI (-4))) ((heapC tb tz tk tks tc tt iu nm ou so pl nd pa ba de en sc rsz fp ss cu os a1 a2 a3 a4 a5 b1 b2 b3 b4 b5 le fi xi0 xf0 xz0 xl0 xi1 xf1 xz1 xl1 xi2 xf2 xz2 xl2 xi3 xf3 xz3 xl3), hB)) (q0 : 0 ≤ b ∧ b ≤ 255 → tz < 100 → ∀ fp' nd' sc' rsz' iu' nm' so' ou' pl' pa' ba' de' en' ss' cu' os' a1' a2' a3' a4' a5', CRd (upZ tb tz b) (tz + 1) fp' nd' sc' rsz' iu' nm' so' ou' pl' pa' ba' en' a1' a2' a3' a4' a5' → Q (some (vI (tz + 1))) ((heapC (upZ tb tz b) (tz + 1) tk tks 0 tt iu' nm' ou' so' pl' nd' pa' ba' de' en' sc' rsz' fp' ss' cu' os' a1' a2' a3' a4' a5' b1 b2 b3 b4 b5 le fi xi0 xf0 xz0 xl0 xi1 xf1 xz1 xl1 xi2 xf2 xz2 xl2 xi3 xf3 xz3 xl3), hB)) : RNd ro (d + 9) 57 [vR 0, vI b] ((heapC tb tz tk tks tc tt iu nm ou so pl nd pa ba de en sc rsz fp ss cu os a1 a2 a3 a4 a5 b1 b2 b3 b4 b5 le fi xi0 xf0 xz0 xl0 xi1 xf1 xz1 xl1 xi2 xf2 xz2 xl2 xi3 xf3 xz3 xl3), hB) Q := by
  refine WP_run [] 40 ?_
  refine t_isBy hb (fun h => ?_) (fun h => ?_)
  · refine t1 ?_
    refine c2 (fun e => ?_) (fun e => ?_)
    · have hq := q0 h e
      refine t_append htz (fun e2 => by omega) (fun _ => ?_)
      refine t_told (by omega) (rI_up htb (by omega) (by omega)) h0 h1 h2 h3 h5 (fun fp' nd' sc' rsz' iu' nm' so' ou' pl' pa' ba' de' en' ss' cu' os' a1' a2' a3' a4' a5' hC => ?_)
      exact ri (hq fp' nd' sc' rsz' iu' nm' so' ou' pl' pa' ba' de' en' ss' cu' os' a1' a2' a3' a4' a5' hC)
    · exact ri (q4 h (by omega))
  · refine f1 ?_
    exact ri (q2 h)
set_option maxRecDepth 100000 in
set_option maxHeartbeats 4000000 in
theorem t_wipe (htz : 0 ≤ tz ∧ tz ≤ 100) (htb : rI tb 0 255) (h0 : RT0 iu nm so ou pl pa ba en) (h1 : rI a1 0 25) (h2 : rI a2 0 3) (h3 : rI a3 (-1) 59) (h5 : rI a5 (-1) 59) (q0 : ∀ fp' nd' sc' rsz' iu' nm' so' ou' pl' pa' ba' de' en' ss' cu' os' a1' a2' a3' a4' a5', CRd tb 0 fp' nd' sc' rsz' iu' nm' so' ou' pl' pa' ba' en' a1' a2' a3' a4' a5' → Q (some (vI tz)) ((heapC tb 0 tk tks 0 tt iu' nm' ou' so' pl' nd' pa' ba' de' en' sc' rsz' fp' ss' cu' os' a1' a2' a3' a4' a5' b1 b2 b3 b4 b5 le fi xi0 xf0 xz0 xl0 xi1 xf1 xz1 xl1 xi2 xf2 xz2 xl2 xi3 xf3 xz3 xl3), hB)) : RNd ro (d + 9) 58 [vR 0] ((heapC tb tz tk tks tc tt iu nm ou so pl nd pa ba de en sc rsz fp ss cu os a1 a2 a3 a4 a5 b1 b2 b3 b4 b5 le fi xi0 xf0 xz0 xl0 xi1 xf1 xz1 xl1 xi2 xf2 xz2 xl2 xi3 xf3 xz3 xl3), hB) Q := by
  refine WP_run [] 40 ?_
  refine t_told (by omega) htb h0 h1 h2 h3 h5 (fun fp' nd' sc' rsz' iu' nm' so' ou' pl' pa' ba' de' en' ss' cu' os' a1' a2' a3' a4' a5' hC => ?_)
  exact ri (q0 fp' nd' sc' rsz' iu' nm' so' ou' pl' pa' ba' de' en' ss' cu' os' a1' a2' a3' a4' a5' hC)
set_option maxRecDepth 100000 in
set_option maxHeartbeats 4000000 in
theorem t_undo (htz : 0 ≤ tz ∧ tz ≤ 100) (htb : rI tb 0 255) (h0 : RT0 iu nm so ou pl pa ba en) (h1 : rI a1 0 25) (h2 : rI a2 0 3) (h3 : rI a3 (-1) 59) (h5 : rI a5 (-1) 59) (q3 : tz = 0 → Q (some (vI (-3))) ((heapC tb tz tk tks tc tt iu nm ou so pl nd pa ba de en sc rsz fp ss cu os a1 a2 a3 a4 a5 b1 b2 b3 b4 b5 le fi xi0 xf0 xz0 xl0 xi1 xf1 xz1 xl1 xi2 xf2 xz2 xl2 xi3 xf3 xz3 xl3), hB)) (q0 : 0 < tz → ∀ fp' nd' sc' rsz' iu' nm' so' ou' pl' pa' ba' de' en' ss' cu' os' a1' a2' a3' a4' a5', CRd tb (tz - 1) fp' nd' sc' rsz' iu' nm' so' ou' pl' pa' ba' en' a1' a2' a3' a4' a5' → Q (some (vI (tz - 1))) ((heapC tb (tz - 1) tk tks 0 tt iu' nm' ou' so' pl' nd' pa' ba' de' en' sc' rsz' fp' ss' cu' os' a1' a2' a3' a4' a5' b1 b2 b3 b4 b5 le fi xi0 xf0 xz0 xl0 xi1 xf1 xz1 xl1 xi2 xf2 xz2 xl2 xi3 xf3 xz3 xl3), hB)) : RNd ro (d + 9) 59 [vR 0] ((heapC tb tz tk tks tc tt iu nm ou so pl nd pa ba de en sc rsz fp ss cu os a1 a2 a3 a4 a5 b1 b2 b3 b4 b5 le fi xi0 xf0 xz0 xl0 xi1 xf1 xz1 xl1 xi2 xf2 xz2 xl2 xi3 xf3 xz3 xl3), hB) Q := by
  refine WP_run [] 40 ?_
  refine c1 (fun e => ?_) (fun e => ?_)
  · have hq := q0 e
    refine t_told (by omega) htb h0 h1 h2 h3 h5 (fun fp' nd' sc' rsz' iu' nm' so' ou' pl' pa' ba' de' en' ss' cu' os' a1' a2' a3' a4' a5' hC => ?_)
    exact ri (hq fp' nd' sc' rsz' iu' nm' so' ou' pl' pa' ba' de' en' ss' cu' os' a1' a2' a3' a4' a5' hC)
  · exact ri (q3 (by omega))
set_option maxRecDepth 100000 in
set_option maxHeartbeats 4000000 in
theorem t_back (htt : 0 ≤ tt ∧ tt < 20) (htc : 0 ≤ tc ∧ tc ≤ 20) (htb : rI tb 0 255) (h0 : RT0 iu nm so ou pl pa ba en) (h1 : rI a1 0 25) (h2 : rI a2 0 3) (h3 : rI a3 (-1) 59) (h5 : rI a5 (-1) 59) (hk : 0 < tc → 0 ≤ tks (if 0 < tt then tt - 1 else 19) ∧ tks (if 0 < tt then tt - 1 else 19) ≤ 100) (hr : 0 < tc → rI (tk (if 0 < tt then tt - 1 else 19)) 0 255)
    (q3 : tc = 0 → Q (some (vI (-3))) ((heapC tb tz tk tks tc tt iu nm ou so pl nd pa ba de en sc rsz fp ss cu os a1 a2 a3 a4 a5 b1 b2 b3 b4 b5 le fi xi0 xf0 xz0 xl0 xi1 xf1 xz1 xl1 xi2 xf2 xz2 xl2 xi3 xf3 xz3 xl3), hB)) (q0 : 0 < tc → ∀ fp' nd' sc' rsz' iu' nm' so' ou' pl' pa' ba' de' en' ss' cu' os' a1' a2' a3' a4' a5', CRd (cpZ (tk (if 0 < tt then tt - 1 else 19)) tb 0 0 (tks (if 0 < tt then tt - 1 else 19))) (tks (if 0 < tt then tt - 1 else 19)) fp' nd' sc' rsz' iu' nm' so' ou' pl' pa' ba' en' a1' a2' a3' a4' a5' → Q (some (vI (tc - 1))) ((heapC (cpZ (tk (if 0 < tt then tt - 1 else 19)) tb 0 0 (tks (if 0 < tt then tt - 1 else 19))) (tks (if 0 < tt then tt - 1 else 19)) tk tks (tc - 1) ((if 0 < tt then tt - 1 else 19)) iu' nm' ou' so' pl' nd' pa' ba' de' en' sc' rsz' fp' ss' cu' os' a1' a2' a3' a4' a5' b1 b2 b3 b4 b5 le fi xi0 xf0 xz0 xl0 xi1 xf1 xz1 xl1 xi2 xf2 xz2 xl2 xi3 xf3 xz3 xl3), hB)) : RNd ro (d + 8) 76 [vR 0] ((heapC tb tz tk tks tc tt iu nm ou so pl nd pa ba de en sc rsz fp ss cu os a1 a2 a3 a4 a5 b1 b2 b3 b4 b5 le fi xi0 xf0 xz0 xl0 xi1 xf1 xz1 xl1 xi2 xf2 xz2 xl2 xi3 xf3 xz3 xl3), hB) Q := by
  refine WP_run [] 40 ?_
  refine c1 (fun e => ?_) (fun e => ?_)
  · have hq := q0 e
    refine t_takeBack htt (by omega) (hk e) ?_
    refine t_reread (hk e) (rI_cp (hr e) htb) h0 h1 h2 h3 h5 (fun fp' nd' sc' rsz' iu' nm' so' ou' pl' pa' ba' de' en' ss' cu' os' a1' a2' a3' a4' a5' hC => ?_)
    exact ri (hq fp' nd' sc' rsz' iu' nm' so' ou' pl' pa' ba' de' en' ss' cu' os' a1' a2' a3' a4' a5' hC)
  · exact ri (q3 (by omega))
set_option maxRecDepth 100000 in
set_option maxHeartbeats 4000000 in
theorem t_refC {i w what bd : Int} (hi : rg i) (hw : rg w) (hwh : rg what) (hbd : rg bd) (hC : CRd tb tz fp nd sc rsz iu nm so ou pl pa ba en a1 a2 a3 a4 a5) (hQ : Q (some (vI (aRefC tb tz i w what bd))) ((heapC tb tz tk tks tc tt iu nm ou so pl nd pa ba de en sc rsz fp ss cu os a1 a2 a3 a4 a5 b1 b2 b3 b4 b5 le fi xi0 xf0 xz0 xl0 xi1 xf1 xz1 xl1 xi2 xf2 xz2 xl2 xi3 xf3 xz3 xl3), hB)) : RNd ro (d + 3) 98 [vR 0, vI i, vI w, vI what, vI bd] ((heapC tb tz tk tks tc tt iu nm ou so pl nd pa ba de en sc rsz fp ss cu os a1 a2 a3 a4 a5 b1 b2 b3 b4 b5 le fi xi0 xf0 xz0 xl0 xi1 xf1 xz1 xl1 xi2 xf2 xz2 xl2 xi3 xf3 xz3 xl3), hB) Q := by
  unfold aRefC at hQ
  refine WP_run [] 40 ?_
  refine t_isLet hw (fun h => ?_) (fun h => ?_)
  · refine f1 ?_
    refine c1 (fun e => ?_) (fun e => ?_) hwh
    · rw [if_neg (by omega)] at hQ
      exact ri hQ
    · refine c2 (fun e2 => ?_) (fun e2 => ?_) hwh hbd
      · rw [if_pos (by omega)] at hQ
        refine t_refD hi hC ?_
        exact ri hQ
      · rw [if_neg (by omega)] at hQ
        exact ri hQ
  · rw [if_neg (by omega)] at hQ
    refine t1 ?_
    exact ri hQ
set_option maxRecDepth 100000 in
set_option maxHeartbeats 4000000 in
theorem t_plan {i w what : Int} (hi : rg i) (hw : rg w) (hwh : rg what) (hC : CRd tb tz fp nd sc rsz iu nm so ou pl pa ba en a1 a2 a3 a4 a5) (htz : 0 ≤ tz ∧ tz ≤ 100) (g1 : rI b1 0 25) (g2 : rI b2 0 3) (g3 : rI b3 (-1) 59) (g5 : rI b5 (-1) 59)
    (hQ : ∀ b1' b2' b3' b4' b5' le', rI b1' 0 25 → rI b2' 0 3 → rI b3' (-1) 59 → rI b5' (-1) 59 → Q (some (vI (aPlan tb tz i w what))) ((heapC tb tz tk tks tc tt iu nm ou so pl nd pa ba de en sc rsz fp ss cu os a1 a2 a3 a4 a5 b1' b2' b3' b4' b5' le' fi xi0 xf0 xz0 xl0 xi1 xf1 xz1 xl1 xi2 xf2 xz2 xl2 xi3 xf3 xz3 xl3), hB)) : RNd ro (d + 6) 71 [vR 0, vI i, vI w, vI what] ((heapC tb tz tk tks tc tt iu nm ou so pl nd pa ba de en sc rsz fp ss cu os a1 a2 a3 a4 a5 b1 b2 b3 b4 b5 le fi xi0 xf0 xz0 xl0 xi1 xf1 xz1 xl1 xi2 xf2 xz2 xl2 xi3 xf3 xz3 xl3), hB) Q := by
  have rr := aRefC_rg (tx := tb) (n := tz) (i := i) (w := w) (what := what) (bd := 2)
  unfold aPlan at hQ
  refine WP_run [] 40 ?_
  refine t_refC hi hw hwh (by unfold rg; omega) hC ?_
  refine c1 (fun e => ?_) (fun e => ?_)
  · obtain ⟨⟨z1, z2⟩, z3, z4⟩ := aRefC_0 e
    rw [if_neg (by omega)] at hQ
    refine t_bestPlan hC htz g1 g2 g3 g5 (by rw [hC.1.2.1]; exact z1) z2 (by omega) (fun b1' b2' b3' b4' b5' k1 k2 k3 k5 => ?_)
    have hq := hQ b1' b2' b3' b4' b5' (cLst tb tz i (w - 97)) k1 k2 k3 k5
    refine c1 (fun e2 => ?_) (fun e2 => ?_)
    · rw [if_neg e2] at hq
      exact ri hq
    · rw [if_pos e2] at hq
      exact ri hq
  · rw [if_pos e] at hQ
    exact ri (hQ b1 b2 b3 b4 b5 le g1 g2 g3 g5)
set_option maxRecDepth 100000 in
set_option maxHeartbeats 4000000 in
theorem t_edits {i w what : Int} (hi : rg i) (hw : rg w) (hwh : rg what) (hC : CRd tb tz fp nd sc rsz iu nm so ou pl pa ba en a1 a2 a3 a4 a5) (htz : 0 ≤ tz ∧ tz ≤ 100) (g1 : rI b1 0 25) (g2 : rI b2 0 3) (g3 : rI b3 (-1) 59) (g5 : rI b5 (-1) 59)
    (hQ : ∀ b1' b2' b3' b4' b5', rI b1' 0 25 → rI b2' 0 3 → rI b3' (-1) 59 → rI b5' (-1) 59 → Q (some (vI (aEdits tb tz i w what))) ((heapC tb tz tk tks tc tt iu nm ou so pl nd pa ba de en sc rsz fp ss cu os a1 a2 a3 a4 a5 b1' b2' b3' b4' b5' le fi xi0 xf0 xz0 xl0 xi1 xf1 xz1 xl1 xi2 xf2 xz2 xl2 xi3 xf3 xz3 xl3), hB)) : RNd ro (d + 6) 72 [vR 0, vI i, vI w, vI what] ((heapC tb tz tk tks tc tt iu nm ou so pl nd pa ba de en sc rsz fp ss cu os a1 a2 a3 a4 a5 b1 b2 b3 b4 b5 le fi xi0 xf0 xz0 xl0 xi1 xf1 xz1 xl1 xi2 xf2 xz2 xl2 xi3 xf3 xz3 xl3), hB) Q := by
  have rr := aRefC_rg (tx := tb) (n := tz) (i := i) (w := w) (what := what) (bd := 3)
  unfold aEdits at hQ
  refine WP_run [] 40 ?_
  refine t_refC hi hw hwh (by unfold rg; omega) hC ?_
  refine c1 (fun e => ?_) (fun e => ?_)
  · obtain ⟨⟨z1, z2⟩, z3, z4⟩ := aRefC_0 e
    rw [if_neg (by omega)] at hQ
    refine t_attempt hC htz g1 g2 g3 g5 (by rw [hC.1.2.1]; exact z1) z2 (by omega) (by omega) (fun b1' b2' b3' b4' b5' k1 k2 k3 k5 _ => ?_)
    exact ri (hQ b1' b2' b3' b4' b5' k1 k2 k3 k5)
  · rw [if_pos e] at hQ
    exact ri (hQ b1 b2 b3 b4 b5 g1 g2 g3 g5)
set_option maxRecDepth 100000 in
set_option maxHeartbeats 4000000 in
theorem t_caught {i w what : Int} (hi : rg i) (hw : rg w) (hwh : rg what) (hC : CRd tb tz fp nd sc rsz iu nm so ou pl pa ba en a1 a2 a3 a4 a5) (g1 : rI b1 0 25) (g2 : rI b2 0 3) (g3 : rI b3 (-1) 59) (g5 : rI b5 (-1) 59)
    (hQ : ∀ b1' b2' b3' b4' b5', rI b1' 0 25 → rI b2' 0 3 → rI b3' (-1) 59 → rI b5' (-1) 59 → Q (some (vI (aCaught tb tz i w what))) ((heapC tb tz tk tks tc tt iu nm ou so pl nd pa ba de en sc rsz fp ss cu os a1 a2 a3 a4 a5 b1' b2' b3' b4' b5' le fi xi0 xf0 xz0 xl0 xi1 xf1 xz1 xl1 xi2 xf2 xz2 xl2 xi3 xf3 xz3 xl3), hB)) : RNd ro (d + 6) 73 [vR 0, vI i, vI w, vI what] ((heapC tb tz tk tks tc tt iu nm ou so pl nd pa ba de en sc rsz fp ss cu os a1 a2 a3 a4 a5 b1 b2 b3 b4 b5 le fi xi0 xf0 xz0 xl0 xi1 xf1 xz1 xl1 xi2 xf2 xz2 xl2 xi3 xf3 xz3 xl3), hB) Q := by
  have rr := aRefC_rg (tx := tb) (n := tz) (i := i) (w := w) (what := what) (bd := 2)
  unfold aCaught at hQ
  refine WP_run [] 40 ?_
  refine t_refC hi hw hwh (by unfold rg; omega) hC ?_
  refine c1 (fun e => ?_) (fun e => ?_)
  · obtain ⟨⟨z1, z2⟩, z3, z4⟩ := aRefC_0 e
    have S1 := hC.2.1.1
    have hca : cCa tb tz i (w - 97) = -1 ∨ (0 ≤ cCa tb tz i (w - 97) ∧ cCa tb tz i (w - 97) < 60) := by
      rcases lkN_in (fun k => decide (cIU tb tz k = 1 ∧ cBo tb tz (cNN tb tz i (w - 97) 0) k (cOU tb tz k) ≠ cBT tb tz k)) (cND tb tz - 0).toNat 0 with ⟨y1, -⟩ | ⟨y1, y2, -, -⟩
      · exact Or.inl y1
      · have hnd := hC.1.2.1
        refine Or.inr ⟨y1, ?_⟩
        have y2' : cCa tb tz i (w - 97) < 0 + ((cND tb tz - 0).toNat : Int) := y2
        omega
    rw [if_neg (by omega)] at hQ
    refine t_firstCaught hC g1 g2 g3 g5 (by rw [hC.1.2.1]; exact z1) z2 (by omega) (fun b1' b2' b3' b4' b5' k1 k2 k3 k5 kc => ?_)
    have hq := hQ b1' b2' b3' b4' b5' k1 k2 k3 k5
    refine c1 (fun e2 => ?_) (fun e2 => ?_)
    · rw [if_pos e2] at hq
      exact ri hq
    · rw [if_neg e2] at hq
      refine c2 (fun e3 => ?_) (fun e3 => ?_)
      · refine ix ?_
        rw [kc e3]
        exact ri hq
      · unfold cCb at hq
        rw [if_pos e3] at hq
        rw [e3]
        exact ri hq
  · rw [if_pos e] at hQ
    exact ri (hQ b1 b2 b3 b4 b5 g1 g2 g3 g5)
set_option maxRecDepth 100000 in
set_option maxHeartbeats 4000000 in
theorem t_easy {i : Int} (hi : rg i) (hC : CRd tb tz fp nd sc rsz iu nm so ou pl pa ba en a1 a2 a3 a4 a5) (htz : 0 ≤ tz ∧ tz ≤ 100) (g1 : rI b1 0 25) (g2 : rI b2 0 3) (g3 : rI b3 (-1) 59) (g5 : rI b5 (-1) 59)
    (hQ : ∀ b1' b2' b3' b4' b5', rI b1' 0 25 → rI b2' 0 3 → rI b3' (-1) 59 → rI b5' (-1) 59 → Q (some (vI (aEasy tb tz i))) ((heapC tb tz tk tks tc tt iu nm ou so pl nd pa ba de en sc rsz fp ss cu os a1 a2 a3 a4 a5 b1' b2' b3' b4' b5' le fi xi0 xf0 xz0 xl0 xi1 xf1 xz1 xl1 xi2 xf2 xz2 xl2 xi3 xf3 xz3 xl3), hB)) : RNd ro (d + 6) 74 [vR 0, vI i] ((heapC tb tz tk tks tc tt iu nm ou so pl nd pa ba de en sc rsz fp ss cu os a1 a2 a3 a4 a5 b1 b2 b3 b4 b5 le fi xi0 xf0 xz0 xl0 xi1 xf1 xz1 xl1 xi2 xf2 xz2 xl2 xi3 xf3 xz3 xl3), hB) Q := by
  have rr := aRef_rg (tx := tb) (n := tz) (i := i)
  unfold aEasy at hQ
  refine WP_run [] 40 ?_
  refine t_refD hi hC ?_
  refine c1 (fun e => ?_) (fun e => ?_)
  · obtain ⟨z1, z2⟩ := aRef_0 e
    rw [if_neg (by omega)] at hQ
    refine t_easyLetters hC htz g1 g2 g3 g5 (by rw [hC.1.2.1]; exact z1) z2 (fun b1' b2' b3' b4' b5' k1 k2 k3 k5 => ?_)
    exact ri (hQ b1' b2' b3' b4' b5' k1 k2 k3 k5)
  · rw [if_pos e] at hQ
    exact ri (hQ b1 b2 b3 b4 b5 g1 g2 g3 g5)
set_option maxRecDepth 100000 in
set_option maxHeartbeats 4000000 in
theorem t_count {what : Int} (hwh : rg what) (hC : CRd tb tz fp nd sc rsz iu nm so ou pl pa ba en a1 a2 a3 a4 a5) (hQ : Q (some (vI (aCount tb tz tc fi what))) ((heapC tb tz tk tks tc tt iu nm ou so pl nd pa ba de en sc rsz fp ss cu os a1 a2 a3 a4 a5 b1 b2 b3 b4 b5 le fi xi0 xf0 xz0 xl0 xi1 xf1 xz1 xl1 xi2 xf2 xz2 xl2 xi3 xf3 xz3 xl3), hB)) : RNd ro (d + 3) 83 [vR 0, vI what] ((heapC tb tz tk tks tc tt iu nm ou so pl nd pa ba de en sc rsz fp ss cu os a1 a2 a3 a4 a5 b1 b2 b3 b4 b5 le fi xi0 xf0 xz0 xl0 xi1 xf1 xz1 xl1 xi2 xf2 xz2 xl2 xi3 xf3 xz3 xl3), hB) Q := by
  obtain ⟨⟨hfp, hnd, hsc, hrs⟩, hS, hA, hN, hW, hTa, hK, hR0, h1, h2, h3, h5⟩ := id hC
  have S1 := hS.1
  have hSc : TS (cND tb tz) (cSC tb tz) (cIU tb tz) (cSO tb tz) (cAR tb tz) (cEX tb tz) := by rw [← hnd, ← hsc]; exact hS
  unfold aCount telF at hQ
  refine WP_run [] 40 ?_
  refine m1 ?_ hwh
  by_cases e0 : what = 0
  · rw [if_pos e0] at hQ
    refine st ?_
    exact ri hQ
  · rw [if_neg e0] at hQ
    refine sf ?_
    by_cases e1 : what = 1
    · rw [if_pos (by omega), if_pos e1, ← hnd] at hQ
      refine st ?_
      exact ri hQ
    · refine sf ?_
      by_cases e2 : what = 2
      · rw [if_pos (by omega), if_neg e1, if_pos e2, ← hsc] at hQ
        refine st ?_
        exact ri hQ
      · refine sf ?_
        by_cases e3 : what = 3
        · rw [if_pos (by omega), if_neg e1, if_neg e2, if_pos e3, ← hnd] at hQ
          refine st ?_
          refine t_declarations (IU := cIU tb tz) S1 (fun k a b => (hA.1 k a b).1) hR0.1 ?_
          exact ri hQ
        · refine sf ?_
          by_cases e4 : what = 4
          · rw [if_pos (by omega), if_neg e1, if_neg e2, if_neg e3, if_pos e4, ← hnd] at hQ
            refine st ?_
            refine t_unboundUses (IU := cIU tb tz) (BT := cBT tb tz) S1 (fun k a b => ⟨(hA.1 k a b).1, (hW k a b).2.2⟩) hR0.1 h3 ?_
            rw [cntF_ext (p := fun k => decide (cIU tb tz k = 1 ∧ cBT tb tz k = -1)) (p' := fun k => decide (cBT tb tz k = -1)) nd.toNat (fun k a b => ?_)]
            · exact ri hQ
            · have u := (hS.2.2.1 k a (by omega)).1
              have ebt : ¬ cIU tb tz k = 1 → cBT tb tz k = k := fun z => by unfold cBT; rw [if_neg z]
              by_cases z : cIU tb tz k = 1
              · simp [z]
              · have := ebt z
                simp [z]
                omega
          · refine sf ?_
            by_cases e5 : what = 5
            · rw [if_pos (by omega), if_neg e1, if_neg e2, if_neg e3, if_neg e4, if_pos e5, ← hnd] at hQ
              refine st ?_
              refine t_families (IU := cIU tb tz) (F := cFM tb tz (cNM tb tz)) S1 (fun k a b => (hA.1 k a b).1) hR0.1 (by rw [hnd]; exact cFM_ok hSc) hK ?_
              exact ri hQ
            · refine sf ?_
              by_cases e6 : what = 6
              · rw [if_pos (by omega), if_neg e1, if_neg e2, if_neg e3, if_neg e4, if_neg e5, ← hnd] at hQ
                refine st ?_
                refine t_idleOnes (IU := cIU tb tz) (BT := cBT tb tz) S1 (fun k a b => ⟨(hA.1 k a b).1, (hW k a b).2.2⟩) hR0.1 h3 ?_
                refine t_bitCount ?_
                rw [show cntF (B (idleB nd (cIU tb tz) (cBT tb tz))) 64 = cntF (idleP nd (cIU tb tz) (cBT tb tz)) nd.toNat from ?_]
                · exact ri hQ
                · have := cnt_bits (p := idleP nd (cIU tb tz) (cBT tb tz)) (n := nd.toNat) (by omega) 64 (by omega)
                  rw [show min 64 nd.toNat = nd.toNat by omega] at this
                  exact this
              · refine sf ?_
                rw [if_neg (by omega)] at hQ
                by_cases e7 : what = 7
                · rw [if_pos e7] at hQ
                  refine st ?_
                  exact ri hQ
                · rw [if_neg e7] at hQ
                  refine sf ?_
                  by_cases e8 : what = 8
                  · rw [if_pos e8] at hQ
                    refine st ?_
                    exact ri hQ
                  · rw [if_neg e8] at hQ
                    refine sf ?_
                    exact ri hQ
end CPUB
