/-! ===== the cells of the class and of the reference ===== -/
def tkR (tk : Int → Int → Int) (n : Int) : AC := cI 100 (tk n)
def shR : Int → Option Nat := upZ (upZ (upZ (upZ (fun _ => none) 0 (some 49)) 1 (some 51)) 2 (some 53)) 3 (some 55)
def heapC (tb : Int → Int) (tz : Int) (tk : Int → Int → Int) (tks : Int → Int) (tc tt : Int) (iu nm ou so pl : Int → Int) (nd : Int) (pa ba de en : Int → Int) (sc rsz fp ss cu os : Int) (a1 a2 a3 : Int → Int) (a4 : Int → Int64) (a5 b1 b2 b3 : Int → Int) (b4 : Int → Int64) (b5 : Int → Int) (le fi : Int) (xi0 : Int → Int) (xf0 xz0 xl0 : Int) (xi1 : Int → Int) (xf1 xz1 xl1 : Int) (xi2 : Int → Int) (xf2 xz2 xl2 : Int) (xi3 : Int → Int) (xf3 xz3 xl3 : Int) : List AC :=
  [cO 5 [vR 1, vR 25, vR 35, vR 41, vR 48, vI fi],
   cO 3 [vR 2, vI tz, vR 3, vR 24, vI tc, vI tt], cI 100 tb, cII 20 (fun j => some (4 + j.toNat)),
   cI 100 (tk 0), cI 100 (tk 1), cI 100 (tk 2), cI 100 (tk 3), cI 100 (tk 4), cI 100 (tk 5), cI 100 (tk 6), cI 100 (tk 7), cI 100 (tk 8), cI 100 (tk 9), cI 100 (tk 10), cI 100 (tk 11), cI 100 (tk 12), cI 100 (tk 13), cI 100 (tk 14), cI 100 (tk 15), cI 100 (tk 16), cI 100 (tk 17), cI 100 (tk 18), cI 100 (tk 19),
   cI 20 tks,
   cO 4 [vR 26, vR 27, vR 28, vR 29, vR 30, vI nd, vR 31, vR 32, vR 33, vR 34, vI sc, vI rsz, vI fp, vI ss, vI cu, vI os],
   cZ 60 iu, cI 60 nm, cI 60 ou, cI 60 so, cI 60 pl, cI 10 pa, cI 10 ba, cI 10 de, cZ 10 en,
   cO 0 [vR 25, vR 36, vR 37, vR 38, vR 39, vR 40], cI 60 a1, cI 60 a2, cI 60 a3, cJ 60 a4, cI 260 a5,
   cO 1 [vR 25, vR 35, vR 42, vI le],
   cO 0 [vR 25, vR 43, vR 44, vR 45, vR 46, vR 47], cI 60 b1, cI 60 b2, cI 60 b3, cJ 60 b4, cI 260 b5,
   cS 4 shR,
   cO 2 [vR 50, vI xf0, vI xz0, vI xl0], cI 60 xi0, cO 2 [vR 52, vI xf1, vI xz1, vI xl1], cI 60 xi1, cO 2 [vR 54, vI xf2, vI xz2, vI xl2], cI 60 xi2, cO 2 [vR 56, vI xf3, vI xz3, vI xl3], cI 60 xi3]
def heapM (mtz : Int) (mt : Int → Int) (mk mkf : Int) (mot mox : Int → Int) (mfa mnd : Int) (miu mnm mso mou mpl : Int → Int) (msc : Int) (mar mex men mnn mon mde mbt mfo mfn mma mit mfm msz mim mmo : Int → Int) (mfi : Int) : List AC :=
  [cO 6 [vI mtz, vR 201, vI mk, vI mkf, vR 202, vR 203, vI mfa, vI mnd, vR 204, vR 205, vR 206, vR 207, vR 208, vI msc, vR 209, vR 210, vR 211, vR 212, vR 213, vR 214, vR 215, vR 216, vR 217, vR 218, vR 219, vR 220, vR 221, vR 222, vR 223, vI mfi],
   cI 100 mt, cI 20 mot, cI 2000 mox, cI 60 miu, cI 60 mnm, cI 60 mso, cI 60 mou, cI 60 mpl, cI 10 mar, cI 10 mex, cI 10 men, cI 60 mnn, cI 60 mon, cI 260 mde, cI 60 mbt, cI 60 mfo, cI 60 mfn, cI 400 mma, cZ 4 mit, cI 4 mfm, cI 4 msz, cI 240 mim, cI 60 mmo]
/-! the paths outwards -/
def goOut (pa : Int → Int) : Nat → Int → Int
  | 0, s => s
  | n + 1, s => if s < 0 then s else goOut pa n (pa s)
def lookF (pa tab : Int → Int) (w : Int) : Nat → Int → Int
  | 0, _ => -1
  | n + 1, s => if s < 0 then -1 else if tab (s * 26 + w) = -1 then lookF pa tab w n (pa s) else tab (s * 26 + w)
theorem lu_now_2 {ro : Nat × (Int → Int)} {d : Nat} {Q : Option AV → AH → Prop} {hB : List AC} {tb : Int → Int} {tz : Int} {tk : Int → Int → Int} {tks : Int → Int} {tc tt : Int} {iu nm ou so pl : Int → Int} {nd : Int} {pa ba de en : Int → Int} {sc rsz fp ss cu os : Int} {a1 a2 a3 : Int → Int} {a4 : Int → Int64} {a5 b1 b2 b3 : Int → Int} {b4 : Int → Int64} {b5 : Int → Int} {le fi : Int} {xi0 : Int → Int} {xf0 xz0 xl0 : Int} {xi1 : Int → Int} {xf1 xz1 xl1 : Int} {xi2 : Int → Int} {xf2 xz2 xl2 : Int} {xi3 : Int → Int} {xf3 xz3 xl3 : Int} {w sc0 o0 : Int}
    (hpa : ∀ s, 0 ≤ s → s < 10 → -1 ≤ pa s ∧ pa s < 10) (hw : 0 ≤ w ∧ w < 26) (htab : ∀ i, 0 ≤ i → i < 260 → rg (a5 i)) :
    ∀ (n : Nat) (k s : Int) (j6 : AV), k = 10 - (n : Int) → n ≤ 10 → -1 ≤ s → s < 10 → Q (some (vI (lookF pa a5 w n s))) ((heapC tb tz tk tks tc tt iu nm ou so pl nd pa ba de en sc rsz fp ss cu os a1 a2 a3 a4 a5 b1 b2 b3 b4 b5 le fi xi0 xf0 xz0 xl0 xi1 xf1 xz1 xl1 xi2 xf2 xz2 xl2 xi3 xf3 xz3 xl3), hB) →
      WPm ro d (RNd ro d) 6 0 0 Q 38 [vR 35, vI sc0, vI o0, vI w, vI s, vI k, j6] [] ((heapC tb tz tk tks tc tt iu nm ou so pl nd pa ba de en sc rsz fp ss cu os a1 a2 a3 a4 a5 b1 b2 b3 b4 b5 le fi xi0 xf0 xz0 xl0 xi1 xf1 xz1 xl1 xi2 xf2 xz2 xl2 xi3 xf3 xz3 xl3), hB) 0 0 := by
  intro n
  induction n with
  | zero =>
    intro k s j6 hk hn hs1 hs2 hQ
    refine WP_first [38] 60 ?_
    refine And.intro (by unfold rg; omega) (And.intro (by unfold rg; omega) (And.intro (fun h => ?_) (fun h => ?_)))
    · exact And.intro (Or.inl rfl) hQ
    · omega
  | succ n ih =>
    intro k s j6 hk hn hs1 hs2 hQ
    refine WP_first [38] 60 ?_
    refine And.intro (by unfold rg; omega) (And.intro (by unfold rg; omega) (And.intro (fun h => ?_) (fun h => ?_)))
    · omega
    · refine And.intro (by unfold rg; omega) (And.intro (fun h2 => ?_) (fun h2 => ?_))
      · refine And.intro (Or.inl rfl) ?_
        have e : lookF pa a5 w (n + 1) s = -1 := by rw [lookF, if_pos h2]
        rw [e] at hQ
        exact hQ
      · have hi : 0 ≤ s * 26 + w ∧ s * 26 + w < 260 := by omega
        refine And.intro hi ?_
        refine And.intro (htab _ hi.1 hi.2) (And.intro (by unfold rg; omega) (And.intro (fun h3 => ?_) (fun h3 => ?_)))
        · refine And.intro (And.intro (by omega) (by omega)) ?_
          have hp := hpa s (by omega) hs2
          refine ih (k + 1) (pa s) _ (by omega) (by omega) hp.1 hp.2 ?_
          have e : lookF pa a5 w (n + 1) s = lookF pa a5 w n (pa s) := by rw [lookF, if_neg h2]; simp [h3]
          rw [e] at hQ
          exact hQ
        · refine And.intro (Or.inl rfl) ?_
          have e : lookF pa a5 w (n + 1) s = a5 (s * 26 + w) := by rw [lookF, if_neg h2]; simp [h3]
          rw [e] at hQ
          exact hQ
