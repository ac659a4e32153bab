/-! ===== class Text: keep, respell, takeBack ===== -/
section TEXT2
variable {ro : Nat × (Int → Int)} {d : Nat} {Q : Option AV → AH → Prop} {hB : List AC} {tb : Int → Int} {tz : Int} {tk : Int → Int → Int} {tks : Int → Int} {tc tt : Int} {iu nm ou so pl : Int → Int} {nd : Int} {pa ba de en : Int → Int} {sc rsz fp ss cu os : Int} {a1 a2 a3 : Int → Int} {a4 : Int → Int64} {a5 b1 b2 b3 : Int → Int} {b4 : Int → Int64} {b5 : Int → Int} {le fi : Int} {xi0 : Int → Int} {xf0 xz0 xl0 : Int} {xi1 : Int → Int} {xf1 xz1 xl1 : Int} {xi2 : Int → Int} {xf2 xz2 xl2 : Int} {xi3 : Int → Int} {xf3 xz3 xl3 : Int}
/-! a known text's cell -/
set_option maxRecDepth 100000 in
set_option maxHeartbeats 4000000 in
theorem tkG {f : AC → Prop} {j : Int} (h : f (cI 100 (tk j))) (h0 : 0 ≤ j := by omega) (h1 : j < 20 := by omega) : hG f ((heapC tb tz tk tks tc tt iu nm ou so pl nd pa ba de en sc rsz fp ss cu os a1 a2 a3 a4 a5 b1 b2 b3 b4 b5 le fi xi0 xf0 xz0 xl0 xi1 xf1 xz1 xl1 xi2 xf2 xz2 xl2 xi3 xf3 xz3 xl3), hB) (4 + j.toNat) := by
  have q : j = 0 ∨ j = 1 ∨ j = 2 ∨ j = 3 ∨ j = 4 ∨ j = 5 ∨ j = 6 ∨ j = 7 ∨ j = 8 ∨ j = 9 ∨ j = 10 ∨ j = 11 ∨ j = 12 ∨ j = 13 ∨ j = 14 ∨ j = 15 ∨ j = 16 ∨ j = 17 ∨ j = 18 ∨ j = 19 := by omega
  rcases q with rfl | rfl | rfl | rfl | rfl | rfl | rfl | rfl | rfl | rfl | rfl | rfl | rfl | rfl | rfl | rfl | rfl | rfl | rfl | rfl <;> exact h
set_option maxRecDepth 100000 in
set_option maxHeartbeats 4000000 in
theorem tkS {f : AH → Prop} {j : Int} {g : Int → Int} (h : f ((heapC tb tz (upZ tk j g) tks tc tt iu nm ou so pl nd pa ba de en sc rsz fp ss cu os a1 a2 a3 a4 a5 b1 b2 b3 b4 b5 le fi xi0 xf0 xz0 xl0 xi1 xf1 xz1 xl1 xi2 xf2 xz2 xl2 xi3 xf3 xz3 xl3), hB)) (h0 : 0 ≤ j := by omega) (h1 : j < 20 := by omega) : hS (cI 100 g) f ((heapC tb tz tk tks tc tt iu nm ou so pl nd pa ba de en sc rsz fp ss cu os a1 a2 a3 a4 a5 b1 b2 b3 b4 b5 le fi xi0 xf0 xz0 xl0 xi1 xf1 xz1 xl1 xi2 xf2 xz2 xl2 xi3 xf3 xz3 xl3), hB) (4 + j.toNat) := by
  have q : j = 0 ∨ j = 1 ∨ j = 2 ∨ j = 3 ∨ j = 4 ∨ j = 5 ∨ j = 6 ∨ j = 7 ∨ j = 8 ∨ j = 9 ∨ j = 10 ∨ j = 11 ∨ j = 12 ∨ j = 13 ∨ j = 14 ∨ j = 15 ∨ j = 16 ∨ j = 17 ∨ j = 18 ∨ j = 19 := by omega
  rcases q with rfl | rfl | rfl | rfl | rfl | rfl | rfl | rfl | rfl | rfl | rfl | rfl | rfl | rfl | rfl | rfl | rfl | rfl | rfl | rfl <;> exact h
set_option maxRecDepth 100000 in
set_option maxHeartbeats 4000000 in
theorem ldK {a : Nat} {A B : Prop} (h : A) (h1 : Nat.blt a 900 = true) : cond (Nat.blt a 900) A B := by rw [h1]; exact h
set_option maxRecDepth 100000 in
set_option maxHeartbeats 4000000 in
theorem blt9 {j : Int} (h0 : 0 ≤ j) (h1 : j < 20) : Nat.blt (4 + j.toNat) 900 = true := by
  rw [Nat.blt_eq]
  omega
set_option maxRecDepth 100000 in
set_option maxHeartbeats 4000000 in
theorem t_keep (htz : 0 ≤ tz ∧ tz ≤ 100) (htt : 0 ≤ tt ∧ tt < 20) (htc : 0 ≤ tc ∧ tc ≤ 20)
    (hQ : Q (some (vI tt)) ((heapC tb tz (upZ tk tt (cpZ tb (tk tt) 0 0 tz)) (upZ tks tt tz) (if 20 < tc + 1 then 20 else tc + 1) (if tt + 1 < 20 then tt + 1 else 0) iu nm ou so pl nd pa ba de en sc rsz fp ss cu os a1 a2 a3 a4 a5 b1 b2 b3 b4 b5 le fi xi0 xf0 xz0 xl0 xi1 xf1 xz1 xl1 xi2 xf2 xz2 xl2 xi3 xf3 xz3 xl3), hB)) : RNd ro (d + 2) 37 [vR 1] ((heapC tb tz tk tks tc tt iu nm ou so pl nd pa ba de en sc rsz fp ss cu os a1 a2 a3 a4 a5 b1 b2 b3 b4 b5 le fi xi0 xf0 xz0 xl0 xi1 xf1 xz1 xl1 xi2 xf2 xz2 xl2 xi3 xf3 xz3 xl3), hB) Q := by
  refine WP_run [21] 40 ?_
  refine ix ?_
  refine WP_first [] 40 ?_
  refine tkG ?_
  refine cp ?_
  refine tkS ?_
  refine ix ?_
  refine c2 (fun q => ?_) (fun q => ?_)
  · rw [if_neg (show ¬ tt + 1 < 20 by omega)] at hQ
    refine m2 ?_
    exact ri hQ
  · rw [if_pos (show tt + 1 < 20 by omega)] at hQ
    refine m2 ?_
    exact ri hQ
set_option maxRecDepth 100000 in
set_option maxHeartbeats 4000000 in
theorem t_takeBack (htt : 0 ≤ tt ∧ tt < 20) (htc : 0 < tc ∧ tc ≤ 20) (hk : 0 ≤ tks (if 0 < tt then tt - 1 else 19) ∧ tks (if 0 < tt then tt - 1 else 19) ≤ 100)
    (hQ : Q none ((heapC (cpZ (tk (if 0 < tt then tt - 1 else 19)) tb 0 0 (tks (if 0 < tt then tt - 1 else 19))) (tks (if 0 < tt then tt - 1 else 19)) tk tks (tc - 1) (if 0 < tt then tt - 1 else 19) iu nm ou so pl nd pa ba de en sc rsz fp ss cu os a1 a2 a3 a4 a5 b1 b2 b3 b4 b5 le fi xi0 xf0 xz0 xl0 xi1 xf1 xz1 xl1 xi2 xf2 xz2 xl2 xi3 xf3 xz3 xl3), hB)) : RNd ro (d + 2) 38 [vR 1] ((heapC tb tz tk tks tc tt iu nm ou so pl nd pa ba de en sc rsz fp ss cu os a1 a2 a3 a4 a5 b1 b2 b3 b4 b5 le fi xi0 xf0 xz0 xl0 xi1 xf1 xz1 xl1 xi2 xf2 xz2 xl2 xi3 xf3 xz3 xl3), hB) Q := by
  refine WP_run [72] 60 ?_
  refine t1 ?_
  refine c1 (fun q => ?_) (fun q => ?_)
  · rw [if_neg (show ¬ 0 < tt by omega)] at hQ hk
    refine ix ?_
    refine ix ?_
    refine WP_first [] 40 ?_
    refine cp ?_
    exact hQ
  · rw [if_pos (show 0 < tt by omega)] at hQ hk
    refine ix ?_
    refine ix ?_
    refine WP_first [] 40 ?_
    refine tkG ?_
    refine cp ?_
    exact hQ
set_option maxRecDepth 100000 in
set_option maxHeartbeats 4000000 in
theorem t_rsl {tx nn oo f0 PL : Int → Int} {n m r : Int} (htt : 0 ≤ r ∧ r < 20) (hn : 0 ≤ n ∧ n ≤ 100) (htx : rI tx 0 255) (hk : tks r = n) (hrow : ∀ q, 0 ≤ q → q < n → tk r q = tx q) (hm : m ≤ 60) (hb : ∀ k, 0 ≤ k → k < m → b1 k = nn k ∧ b2 k = oo k) (hO : ∀ k, 0 ≤ k → 0 ≤ oo k ∧ oo k ≤ 3)
    (hW : ∀ q, 0 ≤ q → q < n → ((97 ≤ tx q ∧ tx q ≤ 122) ↔ ((wrN tx nn oo f0 q.toNat).2.2 < m ∧ PL (wrN tx nn oo f0 q.toNat).2.2 = q))) (hz : (wrN tx nn oo f0 n.toNat).2.1 ≤ 100)
    (hQ : Q none ((heapC ((wrN tx nn oo f0 n.toNat).1) ((wrN tx nn oo f0 n.toNat).2.1) tk tks tc tt iu nm ou so pl nd pa ba de en sc rsz fp ss cu os a1 a2 a3 a4 a5 b1 b2 b3 b4 b5 le fi xi0 xf0 xz0 xl0 xi1 xf1 xz1 xl1 xi2 xf2 xz2 xl2 xi3 xf3 xz3 xl3), hB)) : ∀ p : Int, ∀ j6 : AV, 0 ≤ p → p ≤ n → WPm ro (d + 2) (RNd ro (d + 2)) 35 0 0 Q 23 [vR 1, vR 42, vI r, vR (4 + r.toNat), vI (wrN tx nn oo f0 p.toNat).2.2, vI p, j6] [] ((heapC ((wrN tx nn oo f0 p.toNat).1) ((wrN tx nn oo f0 p.toNat).2.1) tk tks tc tt iu nm ou so pl nd pa ba de en sc rsz fp ss cu os a1 a2 a3 a4 a5 b1 b2 b3 b4 b5 le fi xi0 xf0 xz0 xl0 xi1 xf1 xz1 xl1 xi2 xf2 xz2 xl2 xi3 xf3 xz3 xl3), hB) 0 0 := by
  refine loopUp n fun p ih j6 p0 p1 => ?_
  have hO' : ∀ k, 0 ≤ k → 0 ≤ oo k := fun k a => (hO k a).1
  obtain ⟨z0, j0, -⟩ := wr_0 (tx := tx) (nn := nn) (f0 := f0) hO' p.toNat
  refine WP_first [23, 37] 40 ?_
  refine ix ?_
  refine c2 (fun q => ?_) (fun q => ?_)
  · rw [show p = n by omega]
    exact hQ
  · have e := hrow p p0 (by omega)
    have rr := htx p
    have w := hW p p0 (by omega)
    have zz := wr_le (tx := tx) (nn := nn) (f0 := f0) hO' n.toNat (p + 1).toNat (by omega)
    have hh := fun j => ih (by omega) j (by omega) (by omega)
    refine WP_first [23] 60 ?_
    refine ldK ?_ (blt9 htt.1 htt.2)
    refine tkG ?_
    refine ix ?_
    refine t_isLet (by unfold rg; omega) (fun h => ?_) (fun h => ?_)
    · obtain ⟨w1, w2⟩ := w.mp (by omega)
      obtain ⟨e1, e2⟩ := hb _ j0 w1
      have ho := hO _ j0
      rw [wr_y p0 (by omega)] at hh zz
      have zz' : (wrN tx nn oo f0 p.toNat).2.1 + oo (wrN tx nn oo f0 p.toNat).2.2 + 1 ≤ (wrN tx nn oo f0 n.toNat).2.1 := zz
      refine f1 ?_
      refine f2 ?_
      refine ix ?_
      refine ix ?_
      refine t_spell z0 (by omega) (by omega) ?_
      rw [e1, e2]
      exact hh _
    · refine t1 ?_
      refine c2 (fun q2 => ?_) (fun q2 => ?_)
      · rw [wr_c p0 (by omega)] at hh
        exact hh _
      · rw [wr_o p0 (by omega) (by omega)] at hh zz
        have zz' : (wrN tx nn oo f0 p.toNat).2.1 + 1 ≤ (wrN tx nn oo f0 n.toNat).2.1 := zz
        refine t_append (by omega) (fun q3 => by omega) (fun _ => ?_)
        rw [e]
        exact hh _
set_option maxRecDepth 100000 in
set_option maxHeartbeats 4000000 in
theorem t_respell {nn oo PL : Int → Int} {m : Int} (htz : 0 ≤ tz ∧ tz ≤ 100) (htb : rI tb 0 255) (htt : 0 ≤ tt ∧ tt < 20) (htc : 0 ≤ tc ∧ tc ≤ 20) (hm : m ≤ 60) (hb : ∀ k, 0 ≤ k → k < m → b1 k = nn k ∧ b2 k = oo k) (hO : ∀ k, 0 ≤ k → 0 ≤ oo k ∧ oo k ≤ 3)
    (hW : ∀ q, 0 ≤ q → q < tz → ((97 ≤ tb q ∧ tb q ≤ 122) ↔ ((wrN tb nn oo tb q.toNat).2.2 < m ∧ PL (wrN tb nn oo tb q.toNat).2.2 = q))) (hz : (wrN tb nn oo tb tz.toNat).2.1 ≤ 100)
    (hQ : Q none ((heapC ((wrN tb nn oo tb tz.toNat).1) ((wrN tb nn oo tb tz.toNat).2.1) (upZ tk tt (cpZ tb (tk tt) 0 0 tz)) (upZ tks tt tz) (if 20 < tc + 1 then 20 else tc + 1) (if tt + 1 < 20 then tt + 1 else 0) iu nm ou so pl nd pa ba de en sc rsz fp ss cu os a1 a2 a3 a4 a5 b1 b2 b3 b4 b5 le fi xi0 xf0 xz0 xl0 xi1 xf1 xz1 xl1 xi2 xf2 xz2 xl2 xi3 xf3 xz3 xl3), hB)) : RNd ro (d + 3) 35 [vR 1, vR 42] ((heapC tb tz tk tks tc tt iu nm ou so pl nd pa ba de en sc rsz fp ss cu os a1 a2 a3 a4 a5 b1 b2 b3 b4 b5 le fi xi0 xf0 xz0 xl0 xi1 xf1 xz1 xl1 xi2 xf2 xz2 xl2 xi3 xf3 xz3 xl3), hB) Q := by
  refine WP_run [23] 40 ?_
  refine t_keep htz htt htc ?_
  refine ix ?_
  exact t_rsl (r := tt) (tx := tb) (f0 := tb) (n := tz) htt htz htb upZ_s (fun q a b => by rw [upZ_s]; unfold cpZ; rw [if_pos (by omega), show 0 + (q - 0) = q by omega]) hm hb hO hW hz hQ 0 _ (by omega) htz.1
end TEXT2
