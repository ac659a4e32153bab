/-! ===== class Names ===== -/
section NAMES
variable {ro : Nat × (Int → Int)} {d : Nat} {Q : Option AV → AH → Prop} {hB : List AC} {tb : Int → Int} {tz : Int} {tk : Int → Int → Int} {tks : Int → Int} {tc tt : Int} {iu nm ou so pl : Int → Int} {nd : Int} {pa ba de en : Int → Int} {sc rsz fp ss cu os : Int} {a1 a2 a3 : Int → Int} {a4 : Int → Int64} {a5 b1 b2 b3 : Int → Int} {b4 : Int → Int64} {b5 : Int → Int} {le fi : Int} {xi0 : Int → Int} {xf0 xz0 xl0 : Int} {xi1 : Int → Int} {xf1 xz1 xl1 : Int} {xi2 : Int → Int} {xf2 xz2 xl2 : Int} {xi3 : Int → Int} {xf3 xz3 xl3 : Int} {IU SO PA BA : Int → Int}
set_option maxRecDepth 100000 in
set_option maxHeartbeats 4000000 in
theorem t_lookUp_now {s o w : Int} {T : Int → Int → Int} (hS : TS nd sc IU SO PA BA) (hA : TAg nd sc iu so pa ba IU SO PA BA) (hs : -1 ≤ s ∧ s < sc) (ho : 0 ≤ o ∧ o ≤ 3) (hw : 0 ≤ w ∧ w < 26) (hT : ∀ s w, 0 ≤ s → s < sc → 0 ≤ w → w < 26 → a5 (s * 26 + w) = T s w) (hr : rI a5 (-1) 59)
    (hQ : Q (some (vI (lkp PA T w 10 (goOut PA o.toNat s)))) ((heapC tb tz tk tks tc tt iu nm ou so pl nd pa ba de en sc rsz fp ss cu os a1 a2 a3 a4 a5 b1 b2 b3 b4 b5 le fi xi0 xf0 xz0 xl0 xi1 xf1 xz1 xl1 xi2 xf2 xz2 xl2 xi3 xf3 xz3 xl3), hB)) : RNd ro (d + 1) 6 [vR 35, vI s, vI o, vI w] ((heapC tb tz tk tks tc tt iu nm ou so pl nd pa ba de en sc rsz fp ss cu os a1 a2 a3 a4 a5 b1 b2 b3 b4 b5 le fi xi0 xf0 xz0 xl0 xi1 xf1 xz1 xl1 xi2 xf2 xz2 xl2 xi3 xf3 xz3 xl3), hB) Q := by
  obtain ⟨S1, S2, S3, S4⟩ := hS
  obtain ⟨s9, hs9⟩ : ∃ z, z = s := ⟨_, rfl⟩
  have l2 : ∀ (n : Nat) (k s : Int) (j6 : AV), k = 10 - (n : Int) → n ≤ 10 → -1 ≤ s → s < sc → Q (some (vI (lkp PA T w n s))) ((heapC tb tz tk tks tc tt iu nm ou so pl nd pa ba de en sc rsz fp ss cu os a1 a2 a3 a4 a5 b1 b2 b3 b4 b5 le fi xi0 xf0 xz0 xl0 xi1 xf1 xz1 xl1 xi2 xf2 xz2 xl2 xi3 xf3 xz3 xl3), hB) → WPm ro d (RNd ro d) 6 0 0 Q 38 [vR 35, vI s9, vI o, vI w, vI s, vI k, j6] [] ((heapC tb tz tk tks tc tt iu nm ou so pl nd pa ba de en sc rsz fp ss cu os a1 a2 a3 a4 a5 b1 b2 b3 b4 b5 le fi xi0 xf0 xz0 xl0 xi1 xf1 xz1 xl1 xi2 xf2 xz2 xl2 xi3 xf3 xz3 xl3), hB) 0 0 := by
    intro n
    induction n with
    | zero =>
      intro k s j6 hk hn hs1 hs2 hq
      refine WP_first [38] 60 ?_
      refine t2 ?_
      exact ri hq
    | succ n ih =>
      intro k s j6 hk hn hs1 hs2 hq
      refine WP_first [38] 60 ?_
      refine f2 ?_
      refine c1 (fun q => ?_) (fun q => ?_)
      · rw [lkp_neg q] at hq
        exact ri hq
      · refine ix ?_
        have e := hT s w (by omega) hs2 hw.1 hw.2
        have e2 := hr (s * 26 + w)
        rw [lkp, if_neg q] at hq
        refine c2 (fun q2 => ?_) (fun q2 => ?_)
        · refine ix ?_
          have e3 := (hA.2 s (by omega) hs2).1
          have e4 := (S4 s (by omega) hs2).1
          rw [if_pos (by omega)] at hq
          rw [← e3] at hq
          exact ih (k + 1) (pa s) _ (by omega) (by omega) (by omega) (by omega) hq
        · rw [if_neg (by omega), ← e] at hq
          exact ri hq
  have l1 : ∀ (n : Nat) (k s : Int) (j6 : AV), k + (n : Int) = o → 0 ≤ k → -1 ≤ s → s < sc → Q (some (vI (lkp PA T w 10 (goOut PA n s)))) ((heapC tb tz tk tks tc tt iu nm ou so pl nd pa ba de en sc rsz fp ss cu os a1 a2 a3 a4 a5 b1 b2 b3 b4 b5 le fi xi0 xf0 xz0 xl0 xi1 xf1 xz1 xl1 xi2 xf2 xz2 xl2 xi3 xf3 xz3 xl3), hB) → WPm ro d (RNd ro d) 6 0 0 Q 6 [vR 35, vI s9, vI o, vI w, vI s, vI k, j6] [] ((heapC tb tz tk tks tc tt iu nm ou so pl nd pa ba de en sc rsz fp ss cu os a1 a2 a3 a4 a5 b1 b2 b3 b4 b5 le fi xi0 xf0 xz0 xl0 xi1 xf1 xz1 xl1 xi2 xf2 xz2 xl2 xi3 xf3 xz3 xl3), hB) 0 0 := by
    intro n
    induction n with
    | zero =>
      intro k s j6 hk hk0 hs1 hs2 hq
      refine WP_first [6, 38] 60 ?_
      refine t2 ?_
      exact l2 10 0 s _ (by omega) (by omega) hs1 hs2 hq
    | succ n ih =>
      intro k s j6 hk hk0 hs1 hs2 hq
      refine WP_first [6, 38] 60 ?_
      refine f2 ?_
      rw [goOut] at hq
      refine c1 (fun q => ?_) (fun q => ?_)
      · rw [if_pos q] at hq
        exact l2 10 0 s _ (by omega) (by omega) hs1 hs2 hq
      · rw [if_neg q] at hq
        refine ix ?_
        have e3 := (hA.2 s (by omega) hs2).1
        have e4 := (S4 s (by omega) hs2).1
        rw [← e3] at hq
        exact ih (k + 1) (pa s) _ (by omega) (by omega) (by omega) (by omega) hq
  subst hs9
  exact WP_run [6] 60 (l1 o.toNat 0 s9 _ (by omega) (by omega) hs.1 hs.2 hQ)
set_option maxRecDepth 100000 in
set_option maxHeartbeats 4000000 in
theorem t_inherit_now (hS : TS nd sc IU SO PA BA) (hA : TAg nd sc iu so pa ba IU SO PA BA) (hr : rI a5 (-1) 59) (hT : ∀ s w, 0 ≤ s → s < sc → 0 ≤ w → w < 26 → a5 (s * 26 + w) = TBd nd IU SO a1 s w)
    (hQ : ∀ t, rI t (-1) 59 → (∀ s w, 0 ≤ s → s < sc → 0 ≤ w → w < 26 → t (s * 26 + w) = OW nd IU SO BA a1 s w) → Q none ((heapC tb tz tk tks tc tt iu nm ou so pl nd pa ba de en sc rsz fp ss cu os a1 a2 a3 a4 t b1 b2 b3 b4 b5 le fi xi0 xf0 xz0 xl0 xi1 xf1 xz1 xl1 xi2 xf2 xz2 xl2 xi3 xf3 xz3 xl3), hB)) : RNd ro (d + 1) 4 [vR 35] ((heapC tb tz tk tks tc tt iu nm ou so pl nd pa ba de en sc rsz fp ss cu os a1 a2 a3 a4 a5 b1 b2 b3 b4 b5 le fi xi0 xf0 xz0 xl0 xi1 xf1 xz1 xl1 xi2 xf2 xz2 xl2 xi3 xf3 xz3 xl3), hB) Q := by
  obtain ⟨S1, S2, S3, S4⟩ := id hS
  have outer : ∀ s : Int, ∀ (t : Int → Int) (j2 j3 : AV), 0 ≤ s → s ≤ sc → rI t (-1) 59 → (∀ s' w, 0 ≤ s' → s' < s → 0 ≤ w → w < 26 → t (s' * 26 + w) = OW nd IU SO BA a1 s' w) → (∀ s' w, s ≤ s' → s' < sc → 0 ≤ w → w < 26 → t (s' * 26 + w) = TBd nd IU SO a1 s' w) → WPm ro d (RNd ro d) 4 0 0 Q 2 [vR 35, vI s, j2, j3] [] ((heapC tb tz tk tks tc tt iu nm ou so pl nd pa ba de en sc rsz fp ss cu os a1 a2 a3 a4 t b1 b2 b3 b4 b5 le fi xi0 xf0 xz0 xl0 xi1 xf1 xz1 xl1 xi2 xf2 xz2 xl2 xi3 xf3 xz3 xl3), hB) 0 0 := by
    refine loopUp sc fun s ih t j2 j3 s0 s1 ht h1 h2 => ?_
    refine WP_first [2, 25] 60 ?_
    refine c2 (fun q => ?_) (fun q => ?_)
    · exact hQ t ht (fun s' w a b => h1 s' w a (by omega))
    · refine ix ?_
      have eb := (hA.2 s s0 (by omega)).2
      have eb2 := (S4 s s0 (by omega)).2
      have done : ∀ (l : Int) (t : Int → Int), 0 ≤ l → l ≤ 26 → rI t (-1) 59 → (∀ s' w, 0 ≤ s' → s' < s → 0 ≤ w → w < 26 → t (s' * 26 + w) = OW nd IU SO BA a1 s' w) → (∀ w, 0 ≤ w → w < l → t (s * 26 + w) = OW nd IU SO BA a1 s w) → (∀ w, l ≤ w → w < 26 → t (s * 26 + w) = TBd nd IU SO a1 s w) → (∀ s' w, s < s' → s' < sc → 0 ≤ w → w < 26 → t (s' * 26 + w) = TBd nd IU SO a1 s' w) → WPm ro d (RNd ro d) 4 0 0 Q 25 [vR 35, vI s, vI (ba s), vI l] [] ((heapC tb tz tk tks tc tt iu nm ou so pl nd pa ba de en sc rsz fp ss cu os a1 a2 a3 a4 t b1 b2 b3 b4 b5 le fi xi0 xf0 xz0 xl0 xi1 xf1 xz1 xl1 xi2 xf2 xz2 xl2 xi3 xf3 xz3 xl3), hB) 0 0 := by
        refine loopUp 26 fun l ihl t l0 l1 ht g1 g2 g3 g4 => ?_
        have fin : (∀ w, 0 ≤ w → w < 26 → t (s * 26 + w) = OW nd IU SO BA a1 s w) → WPm ro d (RNd ro d) 4 0 0 Q 2 [vR 35, vI (s + 1), vI (ba s), vI l] [] ((heapC tb tz tk tks tc tt iu nm ou so pl nd pa ba de en sc rsz fp ss cu os a1 a2 a3 a4 t b1 b2 b3 b4 b5 le fi xi0 xf0 xz0 xl0 xi1 xf1 xz1 xl1 xi2 xf2 xz2 xl2 xi3 xf3 xz3 xl3), hB) 0 0 := by
          intro gg
          refine ih (by omega) t _ _ (by omega) (by omega) ht (fun s' w a b c e => ?_) (fun s' w a b c e => g4 s' w (by omega) b c e)
          by_cases e1 : s' = s
          · rw [e1]; exact gg w c e
          · exact g1 s' w a (by omega) c e
        refine WP_first [2, 25] 60 ?_
        refine c2 (fun q2 => ?_) (fun q2 => ?_)
        · exact fin (fun w a b => g2 w a (by omega))
        · refine c1 (fun q3 => ?_) (fun q3 => ?_)
          · refine fin (fun w a b => ?_)
            by_cases e1 : w < l
            · exact g2 w a e1
            · rw [g3 w (by omega) b, OW_10 hS s0 (by omega)]
              split
              · rename_i h9
                rw [h9]
                exact (lkp_neg (by omega) _).symm
              · rfl
          · refine ix ?_
            have e5 := ht (s * 26 + l)
            have e6 := g3 l (by omega) (by omega)
            have e7 := OW_10 (nn := a1) (w := l) hS s0 (by omega)
            refine c2 (fun q4 => ?_) (fun q4 => ?_)
            · refine ihl (by omega) t (by omega) (by omega) ht g1 (fun w a b => ?_) (fun w a b => g3 w (by omega) b) g4
              by_cases e1 : w = l
              · rw [e1, e7, if_neg (by omega), e6]
              · exact g2 w a (by omega)
            · refine ix ?_
              refine ix ?_
              have e8 := g1 (ba s) l (by omega) (by omega) (by omega) (by omega)
              refine ihl (by omega) _ (by omega) (by omega) (rI_up ht (ht _).1 (ht _).2) (fun s' w a b c e => ?_) (fun w a b => ?_) (fun w a b => ?_) (fun s' w a b c e => ?_)
              · rw [upZ_n (by omega)]; exact g1 s' w a b c e
              · by_cases e1 : w = l
                · rw [e1, upZ_s, e8, e7, if_pos (by omega), eb]
                · rw [upZ_n (by omega)]; exact g2 w a (by omega)
              · rw [upZ_n (by omega)]; exact g3 w (by omega) b
              · rw [upZ_n (by omega)]; exact g4 s' w a b c e
      exact done 0 t (by omega) (by omega) ht h1 (fun w a b => by omega) (fun w a b => h2 s w (by omega) (by omega) a b) (fun s' w a b c e => h2 s' w (by omega) b c e)
  exact WP_run [2] 60 (outer 0 a5 _ _ (by omega) (by omega) hr (fun s' w a b => by omega) (fun s' w a b c e => hT s' w (by omega) b c e))
set_option maxRecDepth 100000 in
set_option maxHeartbeats 4000000 in
theorem t_fillTable_now (hS : TS nd sc IU SO PA BA) (hA : TAg nd sc iu so pa ba IU SO PA BA) (hn : rI a1 0 25) (hr : rI a5 (-1) 59)
    (hQ : ∀ t, rI t (-1) 59 → (∀ s w, 0 ≤ s → s < sc → 0 ≤ w → w < 26 → t (s * 26 + w) = OW nd IU SO BA a1 s w) → (Once nd IU SO a1 → Q (some (vI 1)) ((heapC tb tz tk tks tc tt iu nm ou so pl nd pa ba de en sc rsz fp ss cu os a1 a2 a3 a4 t b1 b2 b3 b4 b5 le fi xi0 xf0 xz0 xl0 xi1 xf1 xz1 xl1 xi2 xf2 xz2 xl2 xi3 xf3 xz3 xl3), hB)) ∧ (¬ Once nd IU SO a1 → Q (some (vI 0)) ((heapC tb tz tk tks tc tt iu nm ou so pl nd pa ba de en sc rsz fp ss cu os a1 a2 a3 a4 t b1 b2 b3 b4 b5 le fi xi0 xf0 xz0 xl0 xi1 xf1 xz1 xl1 xi2 xf2 xz2 xl2 xi3 xf3 xz3 xl3), hB))) : RNd ro (d + 2) 3 [vR 35] ((heapC tb tz tk tks tc tt iu nm ou so pl nd pa ba de en sc rsz fp ss cu os a1 a2 a3 a4 a5 b1 b2 b3 b4 b5 le fi xi0 xf0 xz0 xl0 xi1 xf1 xz1 xl1 xi2 xf2 xz2 xl2 xi3 xf3 xz3 xl3), hB) Q := by
  obtain ⟨S1, S2, S3, S4⟩ := id hS
  have main : ∀ k : Int, ∀ (t : Int → Int) (sg : Int) (j3 : AV), -1 ≤ k → k < nd → rI t (-1) 59 → (∀ s w, 0 ≤ s → s < sc → 0 ≤ w → w < 26 → t (s * 26 + w) = TBk nd IU SO a1 (k + 1) s w) → ((sg = 1 ∧ OnceK nd IU SO a1 (k + 1)) ∨ (sg = 0 ∧ ¬ OnceK nd IU SO a1 (k + 1))) → WPm ro (d + 1) (RNd ro (d + 1)) 3 0 0 Q 20 [vR 35, vI sg, vI k, j3] [] ((heapC tb tz tk tks tc tt iu nm ou so pl nd pa ba de en sc rsz fp ss cu os a1 a2 a3 a4 t b1 b2 b3 b4 b5 le fi xi0 xf0 xz0 xl0 xi1 xf1 xz1 xl1 xi2 xf2 xz2 xl2 xi3 xf3 xz3 xl3), hB) 0 0 := by
    refine loopDn 0 fun k ih t sg j3 k0 k1 ht hT hsg => ?_
    refine WP_first [20, 83, 75] 60 ?_
    refine c1 (fun q => ?_) (fun q => ?_)
    · have e : k = -1 := by omega
      subst e
      refine t_inherit_now hS hA ht hT (fun t2 ht2 hT2 => ?_)
      have hq := hQ t2 ht2 hT2
      rcases hsg with ⟨rfl, h⟩ | ⟨rfl, h⟩
      · exact rz (hq.1 h)
      · exact rz (hq.2 h)
    · obtain ⟨e1, e2⟩ := hA.1 k (by omega) k1
      obtain ⟨S31, S32⟩ := S3 k (by omega) k1
      have hnk := hn k
      have hst := OnceK_st (nd := nd) (IU := IU) (SO := SO) (nn := a1) (k := k) (by omega)
      refine ix ?_
      have kk : k - 1 + 1 = k := by omega
      refine c1 (fun q2 => ?_) (fun q2 => ?_)
      · refine WP_run [20] 60 ?_
        refine ih (by omega) t sg _ (by omega) (by omega) ht (fun s w a b c e => ?_) ?_
        · rw [kk, TBk_st k1, if_neg (fun z => by have := mat_iff.mp z; omega)]
          exact hT s w a b c e
        · rw [kk]
          have : OnceK nd IU SO a1 k ↔ OnceK nd IU SO a1 (k + 1) := ⟨fun z => (hst.mp z).1, fun z => hst.mpr ⟨z, fun y => by omega⟩⟩
          rw [this]
          exact hsg
      · refine ix ?_
        refine ix ?_
        have et := hT (SO k) (a1 k) S32.1 S32.2 hnk.1 (by omega)
        have et2 := ht (so k * 26 + a1 k)
        rw [e2] at et2
        have nxt : ∀ (sg' : Int), ((sg' = 1 ∧ OnceK nd IU SO a1 k) ∨ (sg' = 0 ∧ ¬ OnceK nd IU SO a1 k)) → WPm ro (d + 1) (RNd ro (d + 1)) 3 0 0 Q 75 [vR 35, vI sg, vI k, vI (so k * 26 + a1 k)] [vI sg'] ((heapC tb tz tk tks tc tt iu nm ou so pl nd pa ba de en sc rsz fp ss cu os a1 a2 a3 a4 t b1 b2 b3 b4 b5 le fi xi0 xf0 xz0 xl0 xi1 xf1 xz1 xl1 xi2 xf2 xz2 xl2 xi3 xf3 xz3 xl3), hB) 0 0 := by
          intro sg' hsg'
          refine WP_run [20] 60 ?_
          refine ix ?_
          refine ih (by omega) _ sg' _ (by omega) (by omega) (rI_up ht (by omega) (by omega)) (fun s w a b c e => ?_) (by rw [kk]; exact hsg')
          rw [kk, TBk_st k1]
          by_cases hm : mat IU SO a1 s w k = true
          · obtain ⟨m1, m2, m3⟩ := mat_iff.mp hm
            rw [if_pos hm, e2, m2, m3, upZ_s]
          · rw [if_neg hm, upZ_n (fun z => hm (mat_iff.mpr ⟨by omega, by omega, by omega⟩))]
            exact hT s w a b c e
        rcases hsg with ⟨rfl, h⟩ | ⟨rfl, h⟩
        · refine f1 ?_
          refine ix ?_
          rw [e2]
          refine c2 (fun q3 => ?_) (fun q3 => ?_)
          · rw [← e2]
            refine nxt 0 (Or.inr ⟨rfl, fun z => q3 ?_⟩)
            rw [et]
            exact (hst.mp z).2 (by omega)
          · rw [← e2]
            exact nxt 1 (Or.inl ⟨rfl, hst.mpr ⟨h, fun _ => by omega⟩⟩)
        · refine t1 ?_
          exact nxt 0 (Or.inr ⟨rfl, fun z => h (hst.mp z).1⟩)
  refine WP_run [20] 60 ?_
  refine fill_40 ?_
  refine main (nd - 1) _ 1 _ (by omega) (by omega) (fun q => ?_) (fun s w a b c e => ?_) (Or.inl ⟨rfl, fun i j i1 i2 i3 => by omega⟩)
  · have := hr q
    unfold fz
    split <;> omega
  · rw [show nd - 1 + 1 = nd by omega, TBk_end (by omega)]
    unfold fz
    rw [if_pos (by omega)]
set_option maxRecDepth 100000 in
set_option maxHeartbeats 4000000 in
theorem t_bindAll_now {T : Int → Int → Int} (hS : TS nd sc IU SO PA BA) (hA : TAg nd sc iu so pa ba IU SO PA BA) (hn : rI a1 0 25) (ho : rI a2 0 3) (hT : ∀ s w, 0 ≤ s → s < sc → 0 ≤ w → w < 26 → a5 (s * 26 + w) = T s w) (hr : rI a5 (-1) 59)
    (hQ : Q none ((heapC tb tz tk tks tc tt iu nm ou so pl nd pa ba de en sc rsz fp ss cu os a1 a2 (fb a3 (fun k => if IU k = 1 then lkp PA T (a1 k) 10 (goOut PA (a2 k).toNat (SO k)) else k) 0 nd) a4 a5 b1 b2 b3 b4 b5 le fi xi0 xf0 xz0 xl0 xi1 xf1 xz1 xl1 xi2 xf2 xz2 xl2 xi3 xf3 xz3 xl3), hB)) : RNd ro (d + 2) 5 [vR 35] ((heapC tb tz tk tks tc tt iu nm ou so pl nd pa ba de en sc rsz fp ss cu os a1 a2 a3 a4 a5 b1 b2 b3 b4 b5 le fi xi0 xf0 xz0 xl0 xi1 xf1 xz1 xl1 xi2 xf2 xz2 xl2 xi3 xf3 xz3 xl3), hB) Q := by
  obtain ⟨S1, S2, S3, S4⟩ := id hS
  have main : ∀ k : Int, ∀ (t : Int → Int), 0 ≤ k → k ≤ nd → Q none ((heapC tb tz tk tks tc tt iu nm ou so pl nd pa ba de en sc rsz fp ss cu os a1 a2 (fb t (fun k => if IU k = 1 then lkp PA T (a1 k) 10 (goOut PA (a2 k).toNat (SO k)) else k) k nd) a4 a5 b1 b2 b3 b4 b5 le fi xi0 xf0 xz0 xl0 xi1 xf1 xz1 xl1 xi2 xf2 xz2 xl2 xi3 xf3 xz3 xl3), hB) → WPm ro (d + 1) (RNd ro (d + 1)) 5 0 0 Q 2 [vR 35, vI k] [] ((heapC tb tz tk tks tc tt iu nm ou so pl nd pa ba de en sc rsz fp ss cu os a1 a2 t a4 a5 b1 b2 b3 b4 b5 le fi xi0 xf0 xz0 xl0 xi1 xf1 xz1 xl1 xi2 xf2 xz2 xl2 xi3 xf3 xz3 xl3), hB) 0 0 := by
    refine loopUp nd fun k ih t k0 k1 hq => ?_
    refine WP_first [2] 60 ?_
    refine c2 (fun q => ?_) (fun q => ?_)
    · rw [fb_end q] at hq
      exact hq
    · obtain ⟨e1, e2⟩ := hA.1 k k0 (by omega)
      obtain ⟨S31, S32⟩ := S3 k k0 (by omega)
      have hnk := hn k
      have hok := ho k
      rw [← fb_st (by omega)] at hq
      refine ix ?_
      refine c1 (fun q2 => ?_) (fun q2 => ?_)
      · refine ix ?_
        rw [if_neg (by omega)] at hq
        exact ih (by omega) _ (by omega) (by omega) hq
      · refine ix ?_
        refine ix ?_
        refine ix ?_
        refine t_lookUp_now hS hA (by omega) (by omega) (by omega) hT hr ?_
        refine ix ?_
        rw [if_pos (by omega), ← e2] at hq
        exact ih (by omega) _ (by omega) (by omega) hq
  exact WP_run [2] 60 (main 0 a3 (by omega) (by omega) hQ)
set_option maxRecDepth 100000 in
set_option maxHeartbeats 4000000 in
theorem t_lookUp_then {s o w : Int} {T : Int → Int → Int} (hS : TS nd sc IU SO PA BA) (hA : TAg nd sc iu so pa ba IU SO PA BA) (hs : -1 ≤ s ∧ s < sc) (ho : 0 ≤ o ∧ o ≤ 3) (hw : 0 ≤ w ∧ w < 26) (hT : ∀ s w, 0 ≤ s → s < sc → 0 ≤ w → w < 26 → b5 (s * 26 + w) = T s w) (hr : rI b5 (-1) 59)
    (hQ : Q (some (vI (lkp PA T w 10 (goOut PA o.toNat s)))) ((heapC tb tz tk tks tc tt iu nm ou so pl nd pa ba de en sc rsz fp ss cu os a1 a2 a3 a4 a5 b1 b2 b3 b4 b5 le fi xi0 xf0 xz0 xl0 xi1 xf1 xz1 xl1 xi2 xf2 xz2 xl2 xi3 xf3 xz3 xl3), hB)) : RNd ro (d + 1) 6 [vR 42, vI s, vI o, vI w] ((heapC tb tz tk tks tc tt iu nm ou so pl nd pa ba de en sc rsz fp ss cu os a1 a2 a3 a4 a5 b1 b2 b3 b4 b5 le fi xi0 xf0 xz0 xl0 xi1 xf1 xz1 xl1 xi2 xf2 xz2 xl2 xi3 xf3 xz3 xl3), hB) Q := by
  obtain ⟨S1, S2, S3, S4⟩ := hS
  obtain ⟨s9, hs9⟩ : ∃ z, z = s := ⟨_, rfl⟩
  have l2 : ∀ (n : Nat) (k s : Int) (j6 : AV), k = 10 - (n : Int) → n ≤ 10 → -1 ≤ s → s < sc → Q (some (vI (lkp PA T w n s))) ((heapC tb tz tk tks tc tt iu nm ou so pl nd pa ba de en sc rsz fp ss cu os a1 a2 a3 a4 a5 b1 b2 b3 b4 b5 le fi xi0 xf0 xz0 xl0 xi1 xf1 xz1 xl1 xi2 xf2 xz2 xl2 xi3 xf3 xz3 xl3), hB) → WPm ro d (RNd ro d) 6 0 0 Q 38 [vR 42, vI s9, vI o, vI w, vI s, vI k, j6] [] ((heapC tb tz tk tks tc tt iu nm ou so pl nd pa ba de en sc rsz fp ss cu os a1 a2 a3 a4 a5 b1 b2 b3 b4 b5 le fi xi0 xf0 xz0 xl0 xi1 xf1 xz1 xl1 xi2 xf2 xz2 xl2 xi3 xf3 xz3 xl3), hB) 0 0 := by
    intro n
    induction n with
    | zero =>
      intro k s j6 hk hn hs1 hs2 hq
      refine WP_first [38] 60 ?_
      refine t2 ?_
      exact ri hq
    | succ n ih =>
      intro k s j6 hk hn hs1 hs2 hq
      refine WP_first [38] 60 ?_
      refine f2 ?_
      refine c1 (fun q => ?_) (fun q => ?_)
      · rw [lkp_neg q] at hq
        exact ri hq
      · refine ix ?_
        have e := hT s w (by omega) hs2 hw.1 hw.2
        have e2 := hr (s * 26 + w)
        rw [lkp, if_neg q] at hq
        refine c2 (fun q2 => ?_) (fun q2 => ?_)
        · refine ix ?_
          have e3 := (hA.2 s (by omega) hs2).1
          have e4 := (S4 s (by omega) hs2).1
          rw [if_pos (by omega)] at hq
          rw [← e3] at hq
          exact ih (k + 1) (pa s) _ (by omega) (by omega) (by omega) (by omega) hq
        · rw [if_neg (by omega), ← e] at hq
          exact ri hq
  have l1 : ∀ (n : Nat) (k s : Int) (j6 : AV), k + (n : Int) = o → 0 ≤ k → -1 ≤ s → s < sc → Q (some (vI (lkp PA T w 10 (goOut PA n s)))) ((heapC tb tz tk tks tc tt iu nm ou so pl nd pa ba de en sc rsz fp ss cu os a1 a2 a3 a4 a5 b1 b2 b3 b4 b5 le fi xi0 xf0 xz0 xl0 xi1 xf1 xz1 xl1 xi2 xf2 xz2 xl2 xi3 xf3 xz3 xl3), hB) → WPm ro d (RNd ro d) 6 0 0 Q 6 [vR 42, vI s9, vI o, vI w, vI s, vI k, j6] [] ((heapC tb tz tk tks tc tt iu nm ou so pl nd pa ba de en sc rsz fp ss cu os a1 a2 a3 a4 a5 b1 b2 b3 b4 b5 le fi xi0 xf0 xz0 xl0 xi1 xf1 xz1 xl1 xi2 xf2 xz2 xl2 xi3 xf3 xz3 xl3), hB) 0 0 := by
    intro n
    induction n with
    | zero =>
      intro k s j6 hk hk0 hs1 hs2 hq
      refine WP_first [6, 38] 60 ?_
      refine t2 ?_
      exact l2 10 0 s _ (by omega) (by omega) hs1 hs2 hq
    | succ n ih =>
      intro k s j6 hk hk0 hs1 hs2 hq
      refine WP_first [6, 38] 60 ?_
      refine f2 ?_
      rw [goOut] at hq
      refine c1 (fun q => ?_) (fun q => ?_)
      · rw [if_pos q] at hq
        exact l2 10 0 s _ (by omega) (by omega) hs1 hs2 hq
      · rw [if_neg q] at hq
        refine ix ?_
        have e3 := (hA.2 s (by omega) hs2).1
        have e4 := (S4 s (by omega) hs2).1
        rw [← e3] at hq
        exact ih (k + 1) (pa s) _ (by omega) (by omega) (by omega) (by omega) hq
  subst hs9
  exact WP_run [6] 60 (l1 o.toNat 0 s9 _ (by omega) (by omega) hs.1 hs.2 hQ)
set_option maxRecDepth 100000 in
set_option maxHeartbeats 4000000 in
theorem t_inherit_then (hS : TS nd sc IU SO PA BA) (hA : TAg nd sc iu so pa ba IU SO PA BA) (hr : rI b5 (-1) 59) (hT : ∀ s w, 0 ≤ s → s < sc → 0 ≤ w → w < 26 → b5 (s * 26 + w) = TBd nd IU SO b1 s w)
    (hQ : ∀ t, rI t (-1) 59 → (∀ s w, 0 ≤ s → s < sc → 0 ≤ w → w < 26 → t (s * 26 + w) = OW nd IU SO BA b1 s w) → Q none ((heapC tb tz tk tks tc tt iu nm ou so pl nd pa ba de en sc rsz fp ss cu os a1 a2 a3 a4 a5 b1 b2 b3 b4 t le fi xi0 xf0 xz0 xl0 xi1 xf1 xz1 xl1 xi2 xf2 xz2 xl2 xi3 xf3 xz3 xl3), hB)) : RNd ro (d + 1) 4 [vR 42] ((heapC tb tz tk tks tc tt iu nm ou so pl nd pa ba de en sc rsz fp ss cu os a1 a2 a3 a4 a5 b1 b2 b3 b4 b5 le fi xi0 xf0 xz0 xl0 xi1 xf1 xz1 xl1 xi2 xf2 xz2 xl2 xi3 xf3 xz3 xl3), hB) Q := by
  obtain ⟨S1, S2, S3, S4⟩ := id hS
  have outer : ∀ s : Int, ∀ (t : Int → Int) (j2 j3 : AV), 0 ≤ s → s ≤ sc → rI t (-1) 59 → (∀ s' w, 0 ≤ s' → s' < s → 0 ≤ w → w < 26 → t (s' * 26 + w) = OW nd IU SO BA b1 s' w) → (∀ s' w, s ≤ s' → s' < sc → 0 ≤ w → w < 26 → t (s' * 26 + w) = TBd nd IU SO b1 s' w) → WPm ro d (RNd ro d) 4 0 0 Q 2 [vR 42, vI s, j2, j3] [] ((heapC tb tz tk tks tc tt iu nm ou so pl nd pa ba de en sc rsz fp ss cu os a1 a2 a3 a4 a5 b1 b2 b3 b4 t le fi xi0 xf0 xz0 xl0 xi1 xf1 xz1 xl1 xi2 xf2 xz2 xl2 xi3 xf3 xz3 xl3), hB) 0 0 := by
    refine loopUp sc fun s ih t j2 j3 s0 s1 ht h1 h2 => ?_
    refine WP_first [2, 25] 60 ?_
    refine c2 (fun q => ?_) (fun q => ?_)
    · exact hQ t ht (fun s' w a b => h1 s' w a (by omega))
    · refine ix ?_
      have eb := (hA.2 s s0 (by omega)).2
      have eb2 := (S4 s s0 (by omega)).2
      have done : ∀ (l : Int) (t : Int → Int), 0 ≤ l → l ≤ 26 → rI t (-1) 59 → (∀ s' w, 0 ≤ s' → s' < s → 0 ≤ w → w < 26 → t (s' * 26 + w) = OW nd IU SO BA b1 s' w) → (∀ w, 0 ≤ w → w < l → t (s * 26 + w) = OW nd IU SO BA b1 s w) → (∀ w, l ≤ w → w < 26 → t (s * 26 + w) = TBd nd IU SO b1 s w) → (∀ s' w, s < s' → s' < sc → 0 ≤ w → w < 26 → t (s' * 26 + w) = TBd nd IU SO b1 s' w) → WPm ro d (RNd ro d) 4 0 0 Q 25 [vR 42, vI s, vI (ba s), vI l] [] ((heapC tb tz tk tks tc tt iu nm ou so pl nd pa ba de en sc rsz fp ss cu os a1 a2 a3 a4 a5 b1 b2 b3 b4 t le fi xi0 xf0 xz0 xl0 xi1 xf1 xz1 xl1 xi2 xf2 xz2 xl2 xi3 xf3 xz3 xl3), hB) 0 0 := by
        refine loopUp 26 fun l ihl t l0 l1 ht g1 g2 g3 g4 => ?_
        have fin : (∀ w, 0 ≤ w → w < 26 → t (s * 26 + w) = OW nd IU SO BA b1 s w) → WPm ro d (RNd ro d) 4 0 0 Q 2 [vR 42, vI (s + 1), vI (ba s), vI l] [] ((heapC tb tz tk tks tc tt iu nm ou so pl nd pa ba de en sc rsz fp ss cu os a1 a2 a3 a4 a5 b1 b2 b3 b4 t le fi xi0 xf0 xz0 xl0 xi1 xf1 xz1 xl1 xi2 xf2 xz2 xl2 xi3 xf3 xz3 xl3), hB) 0 0 := by
          intro gg
          refine ih (by omega) t _ _ (by omega) (by omega) ht (fun s' w a b c e => ?_) (fun s' w a b c e => g4 s' w (by omega) b c e)
          by_cases e1 : s' = s
          · rw [e1]; exact gg w c e
          · exact g1 s' w a (by omega) c e
        refine WP_first [2, 25] 60 ?_
        refine c2 (fun q2 => ?_) (fun q2 => ?_)
        · exact fin (fun w a b => g2 w a (by omega))
        · refine c1 (fun q3 => ?_) (fun q3 => ?_)
          · refine fin (fun w a b => ?_)
            by_cases e1 : w < l
            · exact g2 w a e1
            · rw [g3 w (by omega) b, OW_10 hS s0 (by omega)]
              split
              · rename_i h9
                rw [h9]
                exact (lkp_neg (by omega) _).symm
              · rfl
          · refine ix ?_
            have e5 := ht (s * 26 + l)
            have e6 := g3 l (by omega) (by omega)
            have e7 := OW_10 (nn := b1) (w := l) hS s0 (by omega)
            refine c2 (fun q4 => ?_) (fun q4 => ?_)
            · refine ihl (by omega) t (by omega) (by omega) ht g1 (fun w a b => ?_) (fun w a b => g3 w (by omega) b) g4
              by_cases e1 : w = l
              · rw [e1, e7, if_neg (by omega), e6]
              · exact g2 w a (by omega)
            · refine ix ?_
              refine ix ?_
              have e8 := g1 (ba s) l (by omega) (by omega) (by omega) (by omega)
              refine ihl (by omega) _ (by omega) (by omega) (rI_up ht (ht _).1 (ht _).2) (fun s' w a b c e => ?_) (fun w a b => ?_) (fun w a b => ?_) (fun s' w a b c e => ?_)
              · rw [upZ_n (by omega)]; exact g1 s' w a b c e
              · by_cases e1 : w = l
                · rw [e1, upZ_s, e8, e7, if_pos (by omega), eb]
                · rw [upZ_n (by omega)]; exact g2 w a (by omega)
              · rw [upZ_n (by omega)]; exact g3 w (by omega) b
              · rw [upZ_n (by omega)]; exact g4 s' w a b c e
      exact done 0 t (by omega) (by omega) ht h1 (fun w a b => by omega) (fun w a b => h2 s w (by omega) (by omega) a b) (fun s' w a b c e => h2 s' w (by omega) b c e)
  exact WP_run [2] 60 (outer 0 b5 _ _ (by omega) (by omega) hr (fun s' w a b => by omega) (fun s' w a b c e => hT s' w (by omega) b c e))
set_option maxRecDepth 100000 in
set_option maxHeartbeats 4000000 in
theorem t_fillTable_then (hS : TS nd sc IU SO PA BA) (hA : TAg nd sc iu so pa ba IU SO PA BA) (hn : rI b1 0 25) (hr : rI b5 (-1) 59)
    (hQ : ∀ t, rI t (-1) 59 → (∀ s w, 0 ≤ s → s < sc → 0 ≤ w → w < 26 → t (s * 26 + w) = OW nd IU SO BA b1 s w) → (Once nd IU SO b1 → Q (some (vI 1)) ((heapC tb tz tk tks tc tt iu nm ou so pl nd pa ba de en sc rsz fp ss cu os a1 a2 a3 a4 a5 b1 b2 b3 b4 t le fi xi0 xf0 xz0 xl0 xi1 xf1 xz1 xl1 xi2 xf2 xz2 xl2 xi3 xf3 xz3 xl3), hB)) ∧ (¬ Once nd IU SO b1 → Q (some (vI 0)) ((heapC tb tz tk tks tc tt iu nm ou so pl nd pa ba de en sc rsz fp ss cu os a1 a2 a3 a4 a5 b1 b2 b3 b4 t le fi xi0 xf0 xz0 xl0 xi1 xf1 xz1 xl1 xi2 xf2 xz2 xl2 xi3 xf3 xz3 xl3), hB))) : RNd ro (d + 2) 3 [vR 42] ((heapC tb tz tk tks tc tt iu nm ou so pl nd pa ba de en sc rsz fp ss cu os a1 a2 a3 a4 a5 b1 b2 b3 b4 b5 le fi xi0 xf0 xz0 xl0 xi1 xf1 xz1 xl1 xi2 xf2 xz2 xl2 xi3 xf3 xz3 xl3), hB) Q := by
  obtain ⟨S1, S2, S3, S4⟩ := id hS
  have main : ∀ k : Int, ∀ (t : Int → Int) (sg : Int) (j3 : AV), -1 ≤ k → k < nd → rI t (-1) 59 → (∀ s w, 0 ≤ s → s < sc → 0 ≤ w → w < 26 → t (s * 26 + w) = TBk nd IU SO b1 (k + 1) s w) → ((sg = 1 ∧ OnceK nd IU SO b1 (k + 1)) ∨ (sg = 0 ∧ ¬ OnceK nd IU SO b1 (k + 1))) → WPm ro (d + 1) (RNd ro (d + 1)) 3 0 0 Q 20 [vR 42, vI sg, vI k, j3] [] ((heapC tb tz tk tks tc tt iu nm ou so pl nd pa ba de en sc rsz fp ss cu os a1 a2 a3 a4 a5 b1 b2 b3 b4 t le fi xi0 xf0 xz0 xl0 xi1 xf1 xz1 xl1 xi2 xf2 xz2 xl2 xi3 xf3 xz3 xl3), hB) 0 0 := by
    refine loopDn 0 fun k ih t sg j3 k0 k1 ht hT hsg => ?_
    refine WP_first [20, 83, 75] 60 ?_
    refine c1 (fun q => ?_) (fun q => ?_)
    · have e : k = -1 := by omega
      subst e
      refine t_inherit_then hS hA ht hT (fun t2 ht2 hT2 => ?_)
      have hq := hQ t2 ht2 hT2
      rcases hsg with ⟨rfl, h⟩ | ⟨rfl, h⟩
      · exact rz (hq.1 h)
      · exact rz (hq.2 h)
    · obtain ⟨e1, e2⟩ := hA.1 k (by omega) k1
      obtain ⟨S31, S32⟩ := S3 k (by omega) k1
      have hnk := hn k
      have hst := OnceK_st (nd := nd) (IU := IU) (SO := SO) (nn := b1) (k := k) (by omega)
      refine ix ?_
      have kk : k - 1 + 1 = k := by omega
      refine c1 (fun q2 => ?_) (fun q2 => ?_)
      · refine WP_run [20] 60 ?_
        refine ih (by omega) t sg _ (by omega) (by omega) ht (fun s w a b c e => ?_) ?_
        · rw [kk, TBk_st k1, if_neg (fun z => by have := mat_iff.mp z; omega)]
          exact hT s w a b c e
        · rw [kk]
          have : OnceK nd IU SO b1 k ↔ OnceK nd IU SO b1 (k + 1) := ⟨fun z => (hst.mp z).1, fun z => hst.mpr ⟨z, fun y => by omega⟩⟩
          rw [this]
          exact hsg
      · refine ix ?_
        refine ix ?_
        have et := hT (SO k) (b1 k) S32.1 S32.2 hnk.1 (by omega)
        have et2 := ht (so k * 26 + b1 k)
        rw [e2] at et2
        have nxt : ∀ (sg' : Int), ((sg' = 1 ∧ OnceK nd IU SO b1 k) ∨ (sg' = 0 ∧ ¬ OnceK nd IU SO b1 k)) → WPm ro (d + 1) (RNd ro (d + 1)) 3 0 0 Q 75 [vR 42, vI sg, vI k, vI (so k * 26 + b1 k)] [vI sg'] ((heapC tb tz tk tks tc tt iu nm ou so pl nd pa ba de en sc rsz fp ss cu os a1 a2 a3 a4 a5 b1 b2 b3 b4 t le fi xi0 xf0 xz0 xl0 xi1 xf1 xz1 xl1 xi2 xf2 xz2 xl2 xi3 xf3 xz3 xl3), hB) 0 0 := by
          intro sg' hsg'
          refine WP_run [20] 60 ?_
          refine ix ?_
          refine ih (by omega) _ sg' _ (by omega) (by omega) (rI_up ht (by omega) (by omega)) (fun s w a b c e => ?_) (by rw [kk]; exact hsg')
          rw [kk, TBk_st k1]
          by_cases hm : mat IU SO b1 s w k = true
          · obtain ⟨m1, m2, m3⟩ := mat_iff.mp hm
            rw [if_pos hm, e2, m2, m3, upZ_s]
          · rw [if_neg hm, upZ_n (fun z => hm (mat_iff.mpr ⟨by omega, by omega, by omega⟩))]
            exact hT s w a b c e
        rcases hsg with ⟨rfl, h⟩ | ⟨rfl, h⟩
        · refine f1 ?_
          refine ix ?_
          rw [e2]
          refine c2 (fun q3 => ?_) (fun q3 => ?_)
          · rw [← e2]
            refine nxt 0 (Or.inr ⟨rfl, fun z => q3 ?_⟩)
            rw [et]
            exact (hst.mp z).2 (by omega)
          · rw [← e2]
            exact nxt 1 (Or.inl ⟨rfl, hst.mpr ⟨h, fun _ => by omega⟩⟩)
        · refine t1 ?_
          exact nxt 0 (Or.inr ⟨rfl, fun z => h (hst.mp z).1⟩)
  refine WP_run [20] 60 ?_
  refine fill_47 ?_
  refine main (nd - 1) _ 1 _ (by omega) (by omega) (fun q => ?_) (fun s w a b c e => ?_) (Or.inl ⟨rfl, fun i j i1 i2 i3 => by omega⟩)
  · have := hr q
    unfold fz
    split <;> omega
  · rw [show nd - 1 + 1 = nd by omega, TBk_end (by omega)]
    unfold fz
    rw [if_pos (by omega)]
set_option maxRecDepth 100000 in
set_option maxHeartbeats 4000000 in
theorem t_bindAll_then {T : Int → Int → Int} (hS : TS nd sc IU SO PA BA) (hA : TAg nd sc iu so pa ba IU SO PA BA) (hn : rI b1 0 25) (ho : rI b2 0 3) (hT : ∀ s w, 0 ≤ s → s < sc → 0 ≤ w → w < 26 → b5 (s * 26 + w) = T s w) (hr : rI b5 (-1) 59)
    (hQ : Q none ((heapC tb tz tk tks tc tt iu nm ou so pl nd pa ba de en sc rsz fp ss cu os a1 a2 a3 a4 a5 b1 b2 (fb b3 (fun k => if IU k = 1 then lkp PA T (b1 k) 10 (goOut PA (b2 k).toNat (SO k)) else k) 0 nd) b4 b5 le fi xi0 xf0 xz0 xl0 xi1 xf1 xz1 xl1 xi2 xf2 xz2 xl2 xi3 xf3 xz3 xl3), hB)) : RNd ro (d + 2) 5 [vR 42] ((heapC tb tz tk tks tc tt iu nm ou so pl nd pa ba de en sc rsz fp ss cu os a1 a2 a3 a4 a5 b1 b2 b3 b4 b5 le fi xi0 xf0 xz0 xl0 xi1 xf1 xz1 xl1 xi2 xf2 xz2 xl2 xi3 xf3 xz3 xl3), hB) Q := by
  obtain ⟨S1, S2, S3, S4⟩ := id hS
  have main : ∀ k : Int, ∀ (t : Int → Int), 0 ≤ k → k ≤ nd → Q none ((heapC tb tz tk tks tc tt iu nm ou so pl nd pa ba de en sc rsz fp ss cu os a1 a2 a3 a4 a5 b1 b2 (fb t (fun k => if IU k = 1 then lkp PA T (b1 k) 10 (goOut PA (b2 k).toNat (SO k)) else k) k nd) b4 b5 le fi xi0 xf0 xz0 xl0 xi1 xf1 xz1 xl1 xi2 xf2 xz2 xl2 xi3 xf3 xz3 xl3), hB) → WPm ro (d + 1) (RNd ro (d + 1)) 5 0 0 Q 2 [vR 42, vI k] [] ((heapC tb tz tk tks tc tt iu nm ou so pl nd pa ba de en sc rsz fp ss cu os a1 a2 a3 a4 a5 b1 b2 t b4 b5 le fi xi0 xf0 xz0 xl0 xi1 xf1 xz1 xl1 xi2 xf2 xz2 xl2 xi3 xf3 xz3 xl3), hB) 0 0 := by
    refine loopUp nd fun k ih t k0 k1 hq => ?_
    refine WP_first [2] 60 ?_
    refine c2 (fun q => ?_) (fun q => ?_)
    · rw [fb_end q] at hq
      exact hq
    · obtain ⟨e1, e2⟩ := hA.1 k k0 (by omega)
      obtain ⟨S31, S32⟩ := S3 k k0 (by omega)
      have hnk := hn k
      have hok := ho k
      rw [← fb_st (by omega)] at hq
      refine ix ?_
      refine c1 (fun q2 => ?_) (fun q2 => ?_)
      · refine ix ?_
        rw [if_neg (by omega)] at hq
        exact ih (by omega) _ (by omega) (by omega) hq
      · refine ix ?_
        refine ix ?_
        refine ix ?_
        refine t_lookUp_then hS hA (by omega) (by omega) (by omega) hT hr ?_
        refine ix ?_
        rw [if_pos (by omega), ← e2] at hq
        exact ih (by omega) _ (by omega) (by omega) hq
  exact WP_run [2] 60 (main 0 b3 (by omega) (by omega) hQ)
end NAMES
