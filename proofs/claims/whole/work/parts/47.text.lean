/-! ===== class Text ===== -/
section TEXTC
variable {ro : Nat × (Int → Int)} {d : Nat} {Q : Option AV → AH → Prop} {hB : List AC} {tb : Int → Int} {tz : Int} {tk : Int → Int → Int} {tks : Int → Int} {tc tt : Int} {iu nm ou so pl : Int → Int} {nd : Int} {pa ba de en : Int → Int} {sc rsz fp ss cu os : Int} {a1 a2 a3 : Int → Int} {a4 : Int → Int64} {a5 b1 b2 b3 : Int → Int} {b4 : Int → Int64} {b5 : Int → Int} {le fi : Int} {xi0 : Int → Int} {xf0 xz0 xl0 : Int} {xi1 : Int → Int} {xf1 xz1 xl1 : Int} {xi2 : Int → Int} {xf2 xz2 xl2 : Int} {xi3 : Int → Int} {xf3 xz3 xl3 : Int}
set_option maxRecDepth 100000 in
set_option maxHeartbeats 4000000 in
theorem t_append {b : Int} (htz : 0 ≤ tz ∧ tz ≤ 100) (hQ0 : 100 ≤ tz → Q none ((heapC tb tz tk tks tc tt iu nm ou so pl nd pa ba de en sc rsz fp ss cu os a1 a2 a3 a4 a5 b1 b2 b3 b4 b5 le fi xi0 xf0 xz0 xl0 xi1 xf1 xz1 xl1 xi2 xf2 xz2 xl2 xi3 xf3 xz3 xl3), hB)) (hQ1 : tz < 100 → Q none ((heapC (upZ tb tz b) (tz + 1) tk tks tc tt iu nm ou so pl nd pa ba de en sc rsz fp ss cu os a1 a2 a3 a4 a5 b1 b2 b3 b4 b5 le fi xi0 xf0 xz0 xl0 xi1 xf1 xz1 xl1 xi2 xf2 xz2 xl2 xi3 xf3 xz3 xl3), hB)) : RNd ro (d + 1) 34 [vR 1, vI b] ((heapC tb tz tk tks tc tt iu nm ou so pl nd pa ba de en sc rsz fp ss cu os a1 a2 a3 a4 a5 b1 b2 b3 b4 b5 le fi xi0 xf0 xz0 xl0 xi1 xf1 xz1 xl1 xi2 xf2 xz2 xl2 xi3 xf3 xz3 xl3), hB) Q := by
  refine WP_run [] 30 ?_
  refine c2 (fun q => ?_) (fun q => ?_)
  · exact hQ0 q
  · refine ix ?_
    exact hQ1 (by omega)
set_option maxRecDepth 100000 in
set_option maxHeartbeats 4000000 in
theorem t_spell {o w : Int} (htz : 0 ≤ tz) (ho : 0 ≤ o ∧ o ≤ 3) (hroom : tz + o + 1 ≤ 100) (hQ : Q none ((heapC (upZ (fz tb tz (tz + o) 94) (tz + o) (97 + w)) (tz + o + 1) tk tks tc tt iu nm ou so pl nd pa ba de en sc rsz fp ss cu os a1 a2 a3 a4 a5 b1 b2 b3 b4 b5 le fi xi0 xf0 xz0 xl0 xi1 xf1 xz1 xl1 xi2 xf2 xz2 xl2 xi3 xf3 xz3 xl3), hB)) : RNd ro (d + 2) 36 [vR 1, vI o, vI w] ((heapC tb tz tk tks tc tt iu nm ou so pl nd pa ba de en sc rsz fp ss cu os a1 a2 a3 a4 a5 b1 b2 b3 b4 b5 le fi xi0 xf0 xz0 xl0 xi1 xf1 xz1 xl1 xi2 xf2 xz2 xl2 xi3 xf3 xz3 xl3), hB) Q := by
  have main : ∀ k : Int, ∀ (f : Int → Int) (z : Int), 0 ≤ k → k ≤ o → z = tz + k → Q none ((heapC (upZ (fz f z (tz + o) 94) (tz + o) (97 + w)) (tz + o + 1) tk tks tc tt iu nm ou so pl nd pa ba de en sc rsz fp ss cu os a1 a2 a3 a4 a5 b1 b2 b3 b4 b5 le fi xi0 xf0 xz0 xl0 xi1 xf1 xz1 xl1 xi2 xf2 xz2 xl2 xi3 xf3 xz3 xl3), hB) → WPm ro (d + 1) (RNd ro (d + 1)) 36 0 0 Q 2 [vR 1, vI o, vI w, vI k] [] ((heapC f z tk tks tc tt iu nm ou so pl nd pa ba de en sc rsz fp ss cu os a1 a2 a3 a4 a5 b1 b2 b3 b4 b5 le fi xi0 xf0 xz0 xl0 xi1 xf1 xz1 xl1 xi2 xf2 xz2 xl2 xi3 xf3 xz3 xl3), hB) 0 0 := by
    refine loopUp o fun k ih f z k0 k1 hz hq => ?_
    refine WP_first [2] 30 ?_
    refine c2 (fun q => ?_) (fun q => ?_)
    · have e : z = tz + o := by omega
      refine t_append (by omega) (fun q2 => by omega) (fun _ => ?_)
      rw [fz_end _ _ _ _ (by omega)] at hq
      rw [e]
      exact hq
    · refine t_append (by omega) (fun q2 => by omega) (fun _ => ?_)
      rw [← fz_step f z (tz + o) 94 (by omega)] at hq
      exact ih (by omega) _ _ (by omega) (by omega) (by omega) hq
  exact WP_run [2] 20 (main 0 tb tz (by omega) (by omega) (by omega) hQ)
end TEXTC
