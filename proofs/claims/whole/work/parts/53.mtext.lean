/-! ===== the reference: remembers, writesText, back ===== -/
set_option maxRecDepth 100000 in
set_option maxHeartbeats 4000000 in
theorem rem20 {x : Int} (h0 : 0 ≤ x) (h1 : x < 64) : remZ x 20 = x % 20 := by
  have h : ∀ y : Fin 64, remZ ((y.val : Nat) : Int) 20 = ((y.val : Nat) : Int) % 20 := by decide +kernel
  have e : ((x.toNat : Nat) : Int) = x := by omega
  have := h ⟨x.toNat, by omega⟩
  rw [e] at this
  exact this
set_option maxRecDepth 100000 in
set_option maxHeartbeats 4000000 in
theorem fb_up {f g : Int → Int} {i n x : Int} (h : i ≤ n) (hx : x = g n) : upZ (fb f g i n) n x = fb f g i (n + 1) := by
  funext q
  unfold upZ fb
  by_cases e : q = n
  · rw [if_pos e, if_pos (by omega), hx, e]
  · rw [if_neg e]
    by_cases e2 : i ≤ q ∧ q < n
    · rw [if_pos e2, if_pos (by omega)]
    · rw [if_neg e2, if_neg (by omega)]
set_option maxRecDepth 100000 in
set_option maxHeartbeats 4000000 in
theorem fb_0 {f g : Int → Int} {i n : Int} (h : n ≤ i) : fb f g i n = f := by
  funext q
  unfold fb
  rw [if_neg (by omega)]
set_option maxRecDepth 100000 in
set_option maxHeartbeats 4000000 in
theorem rI_fb2 {f g : Int → Int} {i n lo hi : Int} (h : rI f lo hi) (hg : ∀ q, i ≤ q → q < n → lo ≤ g q ∧ g q ≤ hi) : rI (fb f g i n) lo hi := by
  intro q
  unfold fb
  split
  · rename_i e
    exact hg q e.1 e.2
  · exact h q
set_option maxRecDepth 100000 in
set_option maxHeartbeats 4000000 in
theorem wr_j {tx nn oo f0 : Int → Int} : ∀ n : Nat, (wrN tx nn oo f0 n).2.2 ≤ n
  | 0 => Int.le_refl _
  | n + 1 => by
    have ih := wr_j (tx := tx) (nn := nn) (oo := oo) (f0 := f0) n
    show (wrS tx nn oo (n : Int) (wrN tx nn oo f0 n)).2.2 ≤ _
    unfold wrS
    split
    · show (wrN tx nn oo f0 n).2.2 + 1 ≤ _
      omega
    · split
      · omega
      · show (wrN tx nn oo f0 n).2.2 ≤ _
        omega
section TEXTM
variable {ro : Nat × (Int → Int)} {d : Nat} {Q : Option AV → AH → Prop} {hA : List AC} {mtz : Int} {mt : Int → Int} {mk mkf : Int} {mot mox : Int → Int} {mfa mnd : Int} {miu mnm mso mou mpl : Int → Int} {msc : Int} {mar mex men mnn mon mde mbt mfo mfn mma mit mfm msz mim mmo : Int → Int} {mfi : Int}
set_option maxRecDepth 100000 in
set_option maxHeartbeats 4000000 in
theorem r_remembers {at_ : Int} (htz : 0 ≤ mtz ∧ mtz ≤ 100) (hkf : 0 ≤ mkf ∧ mkf < 20) (hk : 0 ≤ mk ∧ mk ≤ 20) (hat : at_ = (mkf + mk) % 20)
    (hQ : Q none (hA, (heapM mtz mt (if mk = 20 then 20 else mk + 1) (if mk = 20 then (mkf + 1) % 20 else mkf) (upZ mot at_ mtz) (fb mox (fun q => mt (q - 100 * at_)) (100 * at_) (100 * at_ + mtz)) mfa mnd miu mnm mso mou mpl msc mar mex men mnn mon mde mbt mfo mfn mma mit mfm msz mim mmo mfi))) : RNd ro (d + 1) 164 [vR 200] (hA, (heapM mtz mt mk mkf mot mox mfa mnd miu mnm mso mou mpl msc mar mex men mnn mon mde mbt mfo mfn mma mit mfm msz mim mmo mfi)) Q := by
  have main : ∀ k : Int, ∀ f : Int → Int, 0 ≤ k → k ≤ mtz → f = fb mox (fun q => mt (q - 100 * at_)) (100 * at_) (100 * at_ + k) → WPm ro d (RNd ro d) 164 0 0 Q 25 [vR 200, vI at_, vI k] [] (hA, (heapM mtz mt mk mkf (upZ mot at_ mtz) f mfa mnd miu mnm mso mou mpl msc mar mex men mnn mon mde mbt mfo mfn mma mit mfm msz mim mmo mfi)) 0 0 := by
    refine loopUp mtz fun k ih f k0 k1 hf => ?_
    refine WP_first [25] 60 ?_
    refine c2 (fun q => ?_) (fun q => ?_)
    · have e : k = mtz := by omega
      rw [e] at hf
      rw [hf]
      refine c2 (fun q2 => ?_) (fun q2 => ?_)
      · rw [if_neg q2, if_neg q2] at hQ
        refine t2 ?_
        exact hQ
      · rw [if_pos q2, if_pos q2] at hQ
        refine And.intro (And.intro (by unfold rg; omega) (by omega)) ?_
        rw [rem20 (by omega) (by omega)]
        refine f2 ?_
        exact hQ
    · refine ix ?_
      refine ix ?_
      refine ih (by omega) _ (by omega) (by omega) ?_
      rw [hf, fb_up (by omega) (by rw [show 100 * at_ + k - 100 * at_ = k by omega]), show 100 * at_ + (k + 1) = 100 * at_ + k + 1 by omega]
  refine WP_run [25] 30 ?_
  refine And.intro (And.intro (by unfold rg; omega) (by omega)) ?_
  rw [rem20 (by omega) (by omega), ← hat]
  refine ix ?_
  exact main 0 mox (by omega) (by omega) (by rw [fb_0 (by omega)])
set_option maxRecDepth 100000 in
set_option maxHeartbeats 4000000 in
theorem r_back {at_ : Int} (hk : 0 ≤ mk ∧ mk ≤ 20) (hkf : 0 ≤ mkf ∧ mkf < 20) (hat : at_ = (mkf + (mk - 1)) % 20) (hs : 0 < mk → 0 ≤ mot at_ ∧ mot at_ ≤ 100)
    (hQ0 : mk = 0 → Q (some (vI (-3))) (hA, (heapM mtz mt mk mkf mot mox mfa mnd miu mnm mso mou mpl msc mar mex men mnn mon mde mbt mfo mfn mma mit mfm msz mim mmo mfi))) (hQ : 0 < mk → Q (some (vI (mk - 1))) (hA, (heapM (mot at_) (fb mt (fun k => mox (100 * at_ + k)) 0 (mot at_)) (mk - 1) mkf mot mox mfa mnd miu mnm mso mou mpl msc mar mex men mnn mon mde mbt mfo mfn mma mit mfm msz mim mmo mfi))) : RNd ro (d + 1) 168 [vR 200] (hA, (heapM mtz mt mk mkf mot mox mfa mnd miu mnm mso mou mpl msc mar mex men mnn mon mde mbt mfo mfn mma mit mfm msz mim mmo mfi)) Q := by
  refine WP_run [45] 60 ?_
  refine c1 (fun q => ?_) (fun q => ?_)
  · have q0 : 0 < mk := by omega
    have hs' := hs q0
    have hq := hQ q0
    refine And.intro (And.intro (by unfold rg; omega) (by omega)) ?_
    rw [rem20 (by omega) (by omega), ← hat]
    refine ix ?_
    have main : ∀ k : Int, ∀ f : Int → Int, 0 ≤ k → k ≤ mot at_ → f = fb mt (fun k => mox (100 * at_ + k)) 0 k → WPm ro d (RNd ro d) 168 0 0 Q 45 [vR 200, vI at_, vI k] [] (hA, (heapM (mot at_) f (mk - 1) mkf mot mox mfa mnd miu mnm mso mou mpl msc mar mex men mnn mon mde mbt mfo mfn mma mit mfm msz mim mmo mfi)) 0 0 := by
      refine loopUp (mot at_) fun k ih f k0 k1 hf => ?_
      refine WP_first [45] 60 ?_
      refine c2 (fun q => ?_) (fun q => ?_)
      · have e : k = mot at_ := by omega
        rw [e] at hf
        rw [hf]
        exact ri hq
      · refine ix ?_
        refine ix ?_
        refine ih (by omega) _ (by omega) (by omega) ?_
        rw [hf, fb_up (by omega) rfl]
    exact main 0 mt (by omega) (by omega) (by rw [fb_0 (by omega)])
  · exact ri (hQ0 (by omega))
set_option maxRecDepth 100000 in
set_option maxHeartbeats 4000000 in
theorem r_wrIn {z j k : Int} {F : Int → Int} (hj : 0 ≤ j ∧ j < 60) (hz0 : 0 ≤ z) (hz : z + mon j + 1 ≤ 400) (ho : 0 ≤ mon j ∧ mon j ≤ 3) {j4 : AV}
    (hQ : ∀ o : AV, WPm ro d (RNd ro d) 165 0 0 Q 6 [vR 200, vI (z + mon j + 1), vI (j + 1), vI (k + 1), j4, o] [] (hA, (heapM mtz mt mk mkf mot mox mfa mnd miu mnm mso mou mpl msc mar mex men mnn mon mde mbt mfo mfn (upZ (fz F z (z + mon j) 94) (z + mon j) (mnn j + 97)) mit mfm msz mim mmo mfi)) 0 0) :
    ∀ o : Int, ∀ (f : Int → Int) (y : Int), 0 ≤ o → o ≤ mon j → y = z + o → fz f y (z + mon j) 94 = fz F z (z + mon j) 94 → WPm ro d (RNd ro d) 165 0 0 Q 47 [vR 200, vI y, vI j, vI k, j4, vI o] [] (hA, (heapM mtz mt mk mkf mot mox mfa mnd miu mnm mso mou mpl msc mar mex men mnn mon mde mbt mfo mfn f mit mfm msz mim mmo mfi)) 0 0 := by
  refine loopUp (mon j) fun o ih f y o0 o1 hy hf => ?_
  refine WP_first [6, 47] 60 ?_
  refine ix ?_
  refine c2 (fun q => ?_) (fun q => ?_)
  · have e : y = z + mon j := by omega
    rw [fz_end _ _ _ _ (by omega)] at hf
    rw [e, hf]
    refine ix ?_
    refine ix ?_
    exact hQ _
  · refine ix ?_
    refine ih (by omega) _ _ (by omega) (by omega) (by omega) ?_
    rw [fz_step f y (z + mon j) 94 (by omega)]
    exact hf
set_option maxRecDepth 100000 in
set_option maxHeartbeats 4000000 in
theorem r_wrCp {f : Int → Int} {z : Int} (hz : 0 ≤ z ∧ z ≤ 100) {j2 j4 j5 : AV} (hQ : Q none (hA, (heapM mtz (fb mt f 0 z) mk mkf mot mox mfa mnd miu mnm mso mou mpl msc mar mex men mnn mon mde mbt mfo mfn f mit mfm msz mim mmo mfi))) :
    ∀ k : Int, ∀ g : Int → Int, 0 ≤ k → k ≤ z → g = fb mt f 0 k → WPm ro d (RNd ro d) 165 0 0 Q 138 [vR 200, vI z, j2, vI k, j4, j5] [] (hA, (heapM mtz g mk mkf mot mox mfa mnd miu mnm mso mou mpl msc mar mex men mnn mon mde mbt mfo mfn f mit mfm msz mim mmo mfi)) 0 0 := by
  refine loopUp z fun k ih g k0 k1 hg => ?_
  refine WP_first [138] 60 ?_
  refine c2 (fun q => ?_) (fun q => ?_)
  · have e : k = z := by omega
    rw [e] at hg
    rw [hg]
    exact hQ
  · refine ix ?_
    refine ix ?_
    refine ih (by omega) _ (by omega) (by omega) ?_
    rw [hg, fb_up (by omega) rfl]
set_option maxRecDepth 100000 in
set_option maxHeartbeats 4000000 in
theorem r_writesText {nn oo : Int → Int} (htz : 0 ≤ mtz ∧ mtz ≤ 100) (hn : 0 ≤ mnd ∧ mnd ≤ 60) (htx : rI mt 0 255) (hpl : rI mpl 0 99) (hb : ∀ k, 0 ≤ k → k < mnd → mnn k = nn k ∧ mon k = oo k) (hO : ∀ k, 0 ≤ k → 0 ≤ oo k ∧ oo k ≤ 3)
    (hW : ∀ q, 0 ≤ q → q < mtz → ((97 ≤ mt q ∧ mt q ≤ 122) ↔ ((wrN mt nn oo mma q.toNat).2.2 < mnd ∧ mpl (wrN mt nn oo mma q.toNat).2.2 = q))) (hz : (wrN mt nn oo mma mtz.toNat).2.1 ≤ 100)
    (hQ : Q none (hA, (heapM ((wrN mt nn oo mma mtz.toNat).2.1) (fb mt (wrN mt nn oo mma mtz.toNat).1 0 (wrN mt nn oo mma mtz.toNat).2.1) mk mkf mot mox mfa mnd miu mnm mso mou mpl msc mar mex men mnn mon mde mbt mfo mfn ((wrN mt nn oo mma mtz.toNat).1) mit mfm msz mim mmo mfi))) : RNd ro (d + 1) 165 [vR 200] (hA, (heapM mtz mt mk mkf mot mox mfa mnd miu mnm mso mou mpl msc mar mex men mnn mon mde mbt mfo mfn mma mit mfm msz mim mmo mfi)) Q := by
  have hO' : ∀ k, 0 ≤ k → 0 ≤ oo k := fun k a => (hO k a).1
  have main : ∀ p : Int, ∀ j4 j5 : AV, 0 ≤ p → p ≤ mtz → WPm ro d (RNd ro d) 165 0 0 Q 6 [vR 200, vI (wrN mt nn oo mma p.toNat).2.1, vI (wrN mt nn oo mma p.toNat).2.2, vI p, j4, j5] [] (hA, (heapM mtz mt mk mkf mot mox mfa mnd miu mnm mso mou mpl msc mar mex men mnn mon mde mbt mfo mfn ((wrN mt nn oo mma p.toNat).1) mit mfm msz mim mmo mfi)) 0 0 := by
    refine loopUp mtz fun p ih j4 j5 p0 p1 => ?_
    obtain ⟨z0, j0, -⟩ := wr_0 (tx := mt) (nn := nn) (f0 := mma) hO' p.toNat
    have jn := wr_j (tx := mt) (nn := nn) (oo := oo) (f0 := mma) p.toNat
    have zn := wr_le (tx := mt) (nn := nn) (f0 := mma) hO' mtz.toNat p.toNat (by omega)
    refine WP_first [6, 39, 138] 60 ?_
    refine c2 (fun q => ?_) (fun q => ?_)
    · have e : p = mtz := by omega
      rw [e]
      rw [e] at z0
      exact r_wrCp ⟨z0, hz⟩ hQ 0 mt (by omega) z0 (by rw [fb_0 (by omega)])
    · have r := htx p
      have w := hW p p0 (by omega)
      have zz := wr_le (tx := mt) (nn := nn) (f0 := mma) hO' mtz.toNat (p + 1).toNat (by omega)
      have hh := fun j4 j5 => ih (by omega) j4 j5 (by omega) (by omega)
      have tail0 : ¬ ((wrN mt nn oo mma p.toNat).2.2 < mnd ∧ mpl (wrN mt nn oo mma p.toNat).2.2 = p) → WPm ro d (RNd ro d) 165 0 0 Q 39 [vR 200, vI (wrN mt nn oo mma p.toNat).2.1, vI (wrN mt nn oo mma p.toNat).2.2, vI p, vI 0, j5] [] (hA, (heapM mtz mt mk mkf mot mox mfa mnd miu mnm mso mou mpl msc mar mex men mnn mon mde mbt mfo mfn ((wrN mt nn oo mma p.toNat).1) mit mfm msz mim mmo mfi)) 0 0 := by
        intro hx
        have nl : ¬ (97 ≤ mt p ∧ mt p ≤ 122) := fun z => hx (w.mp z)
        refine WP_first [6] 60 ?_
        refine t1 ?_
        refine ix ?_
        refine c2 (fun q2 => ?_) (fun q2 => ?_)
        · rw [wr_c p0 q2] at hh
          exact hh _ _
        · rw [wr_o p0 nl q2] at hh zz
          have zz' : (wrN mt nn oo mma p.toNat).2.1 + 1 ≤ (wrN mt nn oo mma mtz.toNat).2.1 := zz
          refine ix ?_
          refine ix ?_
          exact hh _ _
      refine c2 (fun q1 => ?_) (fun q1 => ?_)
      · exact tail0 (by omega)
      · have rp := hpl (wrN mt nn oo mma p.toNat).2.2
        refine ix ?_
        refine c2 (fun q2 => ?_) (fun q2 => ?_)
        · exact tail0 (by omega)
        · have hl := w.mpr ⟨by omega, q2⟩
          obtain ⟨e1, e2⟩ := hb _ j0 (by omega)
          have ho := hO _ j0
          rw [wr_y p0 hl] at hh zz
          have zz' : (wrN mt nn oo mma p.toNat).2.1 + oo (wrN mt nn oo mma p.toNat).2.2 + 1 ≤ (wrN mt nn oo mma mtz.toNat).2.1 := zz
          refine WP_first [6, 47] 60 ?_
          refine f1 ?_
          refine r_wrIn (F := (wrN mt nn oo mma p.toNat).1) (z := (wrN mt nn oo mma p.toNat).2.1) (by omega) z0 (by omega) (by omega) (fun o => ?_) 0 _ _ (by omega) (by omega) (by omega) rfl
          rw [e1, e2, Int.add_comm (nn _) 97]
          exact hh _ _
  refine WP_run [6] 30 ?_
  exact main 0 _ _ (by omega) (by omega)
end TEXTM
