/-! ===== the law: its loop, its start ===== -/
set_option maxRecDepth 100000 in
set_option maxHeartbeats 4000000 in
theorem loop6 {P : Int → Prop} (e : Int) (step : ∀ k, (k ≤ e → P (k + 6)) → P k) : ∀ k, P k := by
  have key : ∀ (n : Nat) (k : Int), e - k < (n : Int) → P k := by
    intro n
    induction n with
    | zero => exact fun k h => step k (fun q => absurd q (by omega))
    | succ n ih => exact fun k h => step k (fun _ => ih (k + 6) (by omega))
  exact fun k => key (e - k + 1).toNat k (by omega)
section LAW
variable {ro : Nat × (Int → Int)} {d mc ms c s : Nat} {Q : Option AV → AH → Prop}
set_option maxRecDepth 100000 in
set_option maxHeartbeats 4000000 in
theorem lx_loop (hro : ∀ j, rg (ro.2 j)) (hlen : ro.1 ≤ 3072) (hQ : ∀ h, Q (some (vI 1)) h) : ∀ p : Int, ∀ a b, SRh a b → 0 ≤ p → p ≤ (ro.1 : Int) → WPm ro (d + 12) (RNd ro (d + 12)) 189 mc ms Q 18 [vR 900, vR 0, vR 200, vI p] [] (a, b) c s := by
  refine loop6 ((ro.1 : Int) - 6) fun p ih a b hS p0 p1 => ?_
  obtain ⟨tb, tz, tk, tks, tc, tt, iu, nm, ou, so, pl, nd, pa, ba, de, en, sc, rsz, fp, ss, cu, os, a1, a2, a3, a4, a5, b1, b2, b3, b4, b5, le, fi, xi0, xf0, xz0, xl0, xi1, xf1, xz1, xl1, xi2, xf2, xz2, xl2, xi3, xf3, xz3, xl3, mtz, mt, mk, mkf, mot, mox, mfa, mnd, miu, mnm, mso, mou, mpl, msc, mar, mex, men, mnn, mon, mde, mbt, mfo, mfn, mma, mit, mfm, msz, mim, mmo, mfi, rfl, rfl, h1, h2, h3, h4, h5, h6, h7, h8, h9, h10⟩ := hS
  refine WP_first [18, 160, 183, 196, 209, 222, 245, 268, 301, 334, 357, 390, 414, 438, 461, 475, 518, 561, 604, 627, 660, 673, 716, 739, 792, 835, 898, 921, 944] 60 ?_
  refine c2 (fun q => ?_) (fun q => ?_)
  · exact rz (hQ _)
  · have hp : 0 ≤ p ∧ p + 6 ≤ (ro.1 : Int) := by omega
    have hn := fun a' b' (hS : SRh a' b') => ih (by omega) a' b' hS (by omega) (by omega)
    refine ix ?_
    refine m1 ?_ (rg_andZ _ _)
    by_cases e0 : andZ (ro.2 p) 31 = 0
    · refine st ?_ e0
      exact lx_type hro hp h1 h2 h3 h4 h5 h6 h7 h8 h9 h10 hn
    refine sf ?_ e0
    by_cases e1 : andZ (ro.2 p) 31 = 1
    · refine st ?_ e1
      exact lx_wipe hro hp h1 h2 h3 h4 h5 h6 h7 h8 h9 h10 hn
    refine sf ?_ e1
    by_cases e2 : andZ (ro.2 p) 31 = 2
    · refine st ?_ e2
      exact lx_undo hro hp h1 h2 h3 h4 h5 h6 h7 h8 h9 h10 hn
    refine sf ?_ e2
    by_cases e3 : andZ (ro.2 p) 31 = 3
    · refine st ?_ e3
      exact lx_fault hro hp h1 h2 h3 h4 h5 h6 h7 h8 h9 h10 hn
    refine sf ?_ e3
    by_cases e4 : andZ (ro.2 p) 31 = 4
    · refine st ?_ e4
      exact lx_read hro hp h1 h2 h3 h4 h5 h6 h7 h8 h9 h10 hn
    refine sf ?_ e4
    by_cases e5 : andZ (ro.2 p) 31 = 5
    · refine st ?_ e5
      exact lx_shown hro hp h1 h2 h3 h4 h5 h6 h7 h8 h9 h10 hn
    refine sf ?_ e5
    by_cases e6 : andZ (ro.2 p) 31 = 6
    · refine st ?_ e6
      exact lx_node hro hp h1 h2 h3 h4 h5 h6 h7 h8 h9 h10 hn
    refine sf ?_ e6
    by_cases e7 : andZ (ro.2 p) 31 = 7
    · refine st ?_ e7
      exact lx_scope hro hp h1 h2 h3 h4 h5 h6 h7 h8 h9 h10 hn
    refine sf ?_ e7
    by_cases e8 : andZ (ro.2 p) 31 = 8
    · refine st ?_ e8
      exact lx_bound hro hp h1 h2 h3 h4 h5 h6 h7 h8 h9 h10 hn
    refine sf ?_ e8
    by_cases e9 : andZ (ro.2 p) 31 = 9
    · refine st ?_ e9
      exact lx_own hro hp h1 h2 h3 h4 h5 h6 h7 h8 h9 h10 hn
    refine sf ?_ e9
    by_cases e10 : andZ (ro.2 p) 31 = 10
    · refine st ?_ e10
      exact lx_family hro hp h1 h2 h3 h4 h5 h6 h7 h8 h9 h10 hn
    refine sf ?_ e10
    by_cases e11 : andZ (ro.2 p) 31 = 11
    · refine st ?_ e11
      exact lx_uses hro hp h1 h2 h3 h4 h5 h6 h7 h8 h9 h10 hn
    refine sf ?_ e11
    by_cases e12 : andZ (ro.2 p) 31 = 12
    · refine st ?_ e12
      exact lx_hides hro hp h1 h2 h3 h4 h5 h6 h7 h8 h9 h10 hn
    refine sf ?_ e12
    by_cases e13 : andZ (ro.2 p) 31 = 13
    · refine st ?_ e13
      exact lx_idle hro hp h1 h2 h3 h4 h5 h6 h7 h8 h9 h10 hn
    refine sf ?_ e13
    by_cases e14 : andZ (ro.2 p) 31 = 14
    · refine st ?_ e14
      exact lx_plan hro hp h1 h2 h3 h4 h5 h6 h7 h8 h9 h10 hn
    refine sf ?_ e14
    by_cases e15 : andZ (ro.2 p) 31 = 15
    · refine st ?_ e15
      exact lx_edits hro hp h1 h2 h3 h4 h5 h6 h7 h8 h9 h10 hn
    refine sf ?_ e15
    by_cases e16 : andZ (ro.2 p) 31 = 16
    · refine st ?_ e16
      exact lx_caught hro hp h1 h2 h3 h4 h5 h6 h7 h8 h9 h10 hn
    refine sf ?_ e16
    by_cases e17 : andZ (ro.2 p) 31 = 17
    · refine st ?_ e17
      exact lx_easy hro hp h1 h2 h3 h4 h5 h6 h7 h8 h9 h10 hn
    refine sf ?_ e17
    by_cases e18 : andZ (ro.2 p) 31 = 18
    · refine st ?_ e18
      exact lx_rename hro hp h1 h2 h3 h4 h5 h6 h7 h8 h9 h10 hn
    refine sf ?_ e18
    by_cases e19 : andZ (ro.2 p) 31 = 19
    · refine st ?_ e19
      exact lx_back hro hp h1 h2 h3 h4 h5 h6 h7 h8 h9 h10 hn
    refine sf ?_ e19
    by_cases e20 : andZ (ro.2 p) 31 = 20
    · refine st ?_ e20
      exact lx_sheet hro hp h1 h2 h3 h4 h5 h6 h7 h8 h9 h10 hn
    refine sf ?_ e20
    by_cases e21 : andZ (ro.2 p) 31 = 21
    · refine st ?_ e21
      exact lx_lose hro hp h1 h2 h3 h4 h5 h6 h7 h8 h9 h10 hn
    refine sf ?_ e21
    by_cases e22 : andZ (ro.2 p) 31 = 22
    · refine st ?_ e22
      exact lx_put hro hp h1 h2 h3 h4 h5 h6 h7 h8 h9 h10 hn
    refine sf ?_ e22
    by_cases e23 : andZ (ro.2 p) 31 = 23
    · refine st ?_ e23
      exact lx_get hro hp h1 h2 h3 h4 h5 h6 h7 h8 h9 h10 hn
    refine sf ?_ e23
    by_cases e24 : andZ (ro.2 p) 31 = 24
    · refine st ?_ e24
      exact lx_copy hro hp h1 h2 h3 h4 h5 h6 h7 h8 h9 h10 hn
    refine sf ?_ e24
    by_cases e25 : andZ (ro.2 p) 31 = 25
    · refine st ?_ e25
      exact lx_write hro hp h1 h2 h3 h4 h5 h6 h7 h8 h9 h10 hn
    refine sf ?_ e25
    by_cases e26 : andZ (ro.2 p) 31 = 26
    · refine st ?_ e26
      exact lx_count hro hp h1 h2 h3 h4 h5 h6 h7 h8 h9 h10 hn
    refine sf ?_ e26
    by_cases e27 : andZ (ro.2 p) 31 = 27
    · refine st ?_ e27
      exact lx_digest hro hp h1 h2 h3 h4 h5 h6 h7 h8 h9 h10 hn
    refine sf ?_ e27
    exact hn _ _ (mkSR h1 h2 h3 h4 h5 h6 h7 h8 h9 h10)
end LAW
