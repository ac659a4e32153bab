/-! ===== class Renamer: its parts ===== -/
set_option maxRecDepth 100000 in
set_option maxHeartbeats 4000000 in
theorem lkN_in (p : Int → Bool) : ∀ (m : Nat) (k : Int), (lkN p m k = -1 ∧ ∀ j, k ≤ j → j < k + m → p j = false) ∨ (k ≤ lkN p m k ∧ lkN p m k < k + m ∧ p (lkN p m k) = true ∧ ∀ j, k ≤ j → j < lkN p m k → p j = false)
  | 0, k => Or.inl ⟨rfl, fun j a b => by omega⟩
  | m + 1, k => by
    show (_ ∧ _) ∨ _
    by_cases h : p k = true
    · have e : lkN p (m + 1) k = k := if_pos h
      rw [e]
      exact Or.inr ⟨by omega, by omega, h, fun j a b => by omega⟩
    · have e : lkN p (m + 1) k = lkN p m (k + 1) := if_neg h
      have hf : p k = false := by simpa using h
      rw [e]
      rcases lkN_in p m (k + 1) with ⟨a1, a2⟩ | ⟨a1, a2, a3, a4⟩
      · refine Or.inl ⟨a1, fun j a b => ?_⟩
        by_cases e2 : j = k
        · rw [e2]; exact hf
        · exact a2 j (by omega) (by omega)
      · refine Or.inr ⟨by omega, by omega, a3, fun j a b => ?_⟩
        by_cases e2 : j = k
        · rw [e2]; exact hf
        · exact a4 j (by omega) (by omega)
set_option maxRecDepth 100000 in
set_option maxHeartbeats 4000000 in
theorem lkN_ext {p p' : Int → Bool} : ∀ (m : Nat) (k : Int), (∀ j, k ≤ j → j < k + m → p j = p' j) → lkN p m k = lkN p' m k
  | 0, k, _ => rfl
  | m + 1, k, h => by
    show (if p k = true then k else lkN p m (k + 1)) = (if p' k = true then k else lkN p' m (k + 1))
    rw [lkN_ext m (k + 1) (fun j a b => h j (by omega) (by omega)), h k (by omega) (by omega)]
set_option maxRecDepth 100000 in
set_option maxHeartbeats 4000000 in
theorem lkN_st {p : Int → Bool} {e k : Int} (h : k < e) : lkN p (e - k).toNat k = if p k = true then k else lkN p (e - (k + 1)).toNat (k + 1) := by
  rw [show (e - k).toNat = (e - (k + 1)).toNat + 1 by omega]
  rfl
set_option maxRecDepth 100000 in
set_option maxHeartbeats 4000000 in
theorem lkN_end {p : Int → Bool} {e k : Int} (h : e ≤ k) : lkN p (e - k).toNat k = -1 := by
  rw [show (e - k).toNat = 0 by omega]
  rfl
/-- a letter that some node bears -/
def tkn (NM : Int → Int) (w : Int) : Nat → Bool
  | 0 => false
  | n + 1 => tkn NM w n || decide (NM n = w)
set_option maxRecDepth 100000 in
set_option maxHeartbeats 4000000 in
theorem tkn_st {NM : Int → Int} {w k : Int} (h : 0 ≤ k) : tkn NM w (k + 1).toNat = (tkn NM w k.toNat || decide (NM k = w)) := by
  rw [show (k + 1).toNat = k.toNat + 1 by omega]
  show (tkn NM w k.toNat || decide (NM ((k.toNat : Nat) : Int) = w)) = _
  rw [show ((k.toNat : Nat) : Int) = k by omega]
/-- the least letter that no node bears -/
def spr (nd : Int) (NM : Int → Int) : Int := lkN (fun w => !tkn NM w nd.toNat) (26 - 0 : Int).toNat 0
set_option maxRecDepth 100000 in
set_option maxHeartbeats 4000000 in
theorem spr_rg (nd : Int) (NM : Int → Int) : -1 ≤ spr nd NM ∧ spr nd NM ≤ 25 := by
  rcases lkN_in (fun w => !tkn NM w nd.toNat) (26 - 0 : Int).toNat 0 with ⟨a1, -⟩ | ⟨a1, a2, -⟩
  · unfold spr; omega
  · unfold spr; omega
def loF (f : Int → Int) (t : Int) : Int := lkN (fun o => decide (f o = t)) (4 - 0 : Int).toNat 0
set_option maxRecDepth 100000 in
set_option maxHeartbeats 4000000 in
theorem loF_rg (f : Int → Int) (t : Int) : -1 ≤ loF f t ∧ loF f t ≤ 3 := by
  rcases lkN_in (fun o => decide (f o = t)) (4 - 0 : Int).toNat 0 with ⟨a1, -⟩ | ⟨a1, a2, -⟩
  · unfold loF; omega
  · unfold loF; omega
def sumF (f : Int → Int) : Nat → Int
  | 0 => 0
  | n + 1 => sumF f n + f n
set_option maxRecDepth 100000 in
set_option maxHeartbeats 4000000 in
theorem sumF_st {f : Int → Int} {k : Int} (h : 0 ≤ k) : sumF f (k + 1).toNat = sumF f k.toNat + f k := by
  rw [show (k + 1).toNat = k.toNat + 1 by omega]
  show sumF f k.toNat + f ((k.toNat : Nat) : Int) = _
  rw [show ((k.toNat : Nat) : Int) = k by omega]
set_option maxRecDepth 100000 in
set_option maxHeartbeats 4000000 in
theorem sumF_ext {f g : Int → Int} : ∀ n : Nat, (∀ k : Int, 0 ≤ k → k < n → f k = g k) → sumF f n = sumF g n
  | 0, _ => rfl
  | n + 1, h => by
    show sumF f n + f n = sumF g n + g n
    rw [sumF_ext n (fun k a b => h k a (by omega)), h n (by omega) (by omega)]
set_option maxRecDepth 100000 in
set_option maxHeartbeats 4000000 in
theorem sumF_rg {f : Int → Int} {lo hi : Int} : ∀ n : Nat, (∀ k : Int, 0 ≤ k → k < n → lo ≤ f k ∧ f k ≤ hi) → lo * n ≤ sumF f n ∧ sumF f n ≤ hi * n
  | 0, _ => by
    show lo * ((0 : Nat) : Int) ≤ 0 ∧ 0 ≤ hi * ((0 : Nat) : Int)
    simp
  | n + 1, h => by
    have a := sumF_rg n (fun k a b => h k a (by omega))
    have b := h n (by omega) (by omega)
    show lo * ((n + 1 : Nat) : Int) ≤ sumF f n + f n ∧ sumF f n + f n ≤ hi * ((n + 1 : Nat) : Int)
    have e : ((n + 1 : Nat) : Int) = (n : Int) + 1 := by omega
    rw [e, Int.mul_add, Int.mul_add, Int.mul_one, Int.mul_one]
    omega
section RENAMER
variable {ro : Nat × (Int → Int)} {d : Nat} {Q : Option AV → AH → Prop} {hB : List AC} {tb : Int → Int} {tz : Int} {tk : Int → Int → Int} {tks : Int → Int} {tc tt : Int} {iu nm ou so pl : Int → Int} {nd : Int} {pa ba de en : Int → Int} {sc rsz fp ss cu os : Int} {a1 a2 a3 : Int → Int} {a4 : Int → Int64} {a5 b1 b2 b3 : Int → Int} {b4 : Int → Int64} {b5 : Int → Int} {le fi : Int} {xi0 : Int → Int} {xf0 xz0 xl0 : Int} {xi1 : Int → Int} {xf1 xz1 xl1 : Int} {xi2 : Int → Int} {xf2 xz2 xl2 : Int} {xi3 : Int → Int} {xf3 xz3 xl3 : Int} {IU SO PA BA NM BT F : Int → Int}
set_option maxRecDepth 100000 in
set_option maxHeartbeats 4000000 in
theorem t_takeSpelling (hQ : Q none ((heapC tb tz tk tks tc tt iu nm ou so pl nd pa ba de en sc rsz fp ss cu os a1 a2 a3 a4 a5 (cpZ a1 b1 0 0 60) (cpZ a2 b2 0 0 60) b3 b4 b5 le fi xi0 xf0 xz0 xl0 xi1 xf1 xz1 xl1 xi2 xf2 xz2 xl2 xi3 xf3 xz3 xl3), hB)) : RNd ro (d + 2) 2 [vR 42, vR 35] ((heapC tb tz tk tks tc tt iu nm ou so pl nd pa ba de en sc rsz fp ss cu os a1 a2 a3 a4 a5 b1 b2 b3 b4 b5 le fi xi0 xf0 xz0 xl0 xi1 xf1 xz1 xl1 xi2 xf2 xz2 xl2 xi3 xf3 xz3 xl3), hB) Q := by
  refine WP_run [] 40 ?_
  refine cp ?_
  refine cp ?_
  exact hQ
set_option maxRecDepth 100000 in
set_option maxHeartbeats 4000000 in
theorem t_firstRebound (hn : 0 ≤ nd ∧ nd ≤ 60) (h3 : rI a3 (-1) 59) (g3 : rI b3 (-1) 59) (hQ : Q (some (vI (lkN (fun k => decide (b3 k ≠ a3 k)) (nd - 0).toNat 0))) ((heapC tb tz tk tks tc tt iu nm ou so pl nd pa ba de en sc rsz fp ss cu os a1 a2 a3 a4 a5 b1 b2 b3 b4 b5 le fi xi0 xf0 xz0 xl0 xi1 xf1 xz1 xl1 xi2 xf2 xz2 xl2 xi3 xf3 xz3 xl3), hB)) : RNd ro (d + 1) 18 [vR 41] ((heapC tb tz tk tks tc tt iu nm ou so pl nd pa ba de en sc rsz fp ss cu os a1 a2 a3 a4 a5 b1 b2 b3 b4 b5 le fi xi0 xf0 xz0 xl0 xi1 xf1 xz1 xl1 xi2 xf2 xz2 xl2 xi3 xf3 xz3 xl3), hB) Q := by
  have main : ∀ k : Int, 0 ≤ k → k ≤ nd → Q (some (vI (lkN (fun k => decide (b3 k ≠ a3 k)) (nd - k).toNat k))) ((heapC tb tz tk tks tc tt iu nm ou so pl nd pa ba de en sc rsz fp ss cu os a1 a2 a3 a4 a5 b1 b2 b3 b4 b5 le fi xi0 xf0 xz0 xl0 xi1 xf1 xz1 xl1 xi2 xf2 xz2 xl2 xi3 xf3 xz3 xl3), hB) → WPm ro d (RNd ro d) 18 0 0 Q 2 [vR 41, vI k] [] ((heapC tb tz tk tks tc tt iu nm ou so pl nd pa ba de en sc rsz fp ss cu os a1 a2 a3 a4 a5 b1 b2 b3 b4 b5 le fi xi0 xf0 xz0 xl0 xi1 xf1 xz1 xl1 xi2 xf2 xz2 xl2 xi3 xf3 xz3 xl3), hB) 0 0 := by
    refine loopUp nd fun k ih k0 k1 hq => ?_
    refine WP_first [2] 60 ?_
    refine c2 (fun q => ?_) (fun q => ?_)
    · rw [lkN_end q] at hq
      exact ri hq
    · have r1 := h3 k
      have r2 := g3 k
      rw [lkN_st (by omega)] at hq
      refine ix ?_
      refine ix ?_
      refine c2 (fun q2 => ?_) (fun q2 => ?_)
      · rw [if_neg (by simp; exact q2)] at hq
        exact ih (by omega) (by omega) (by omega) hq
      · rw [if_pos (by simp; exact q2)] at hq
        exact ri hq
  exact WP_run [2] 20 (main 0 (by omega) (by omega) hQ)
set_option maxRecDepth 100000 in
set_option maxHeartbeats 4000000 in
theorem t_giveName {i w : Int} (hn : 0 ≤ nd ∧ nd ≤ 60) (hi : 0 ≤ i ∧ i < nd) (hd : IU i = 0) (h3 : ∀ k, 0 ≤ k → k < nd → a3 k = BT k) (hBT : ∀ k, 0 ≤ k → k < nd → BT k = -1 ∨ (0 ≤ BT k ∧ BT k < nd ∧ IU (BT k) = 0)) (hK : KinOK nd IU F a4)
    (hQ : Q none ((heapC tb tz tk tks tc tt iu nm ou so pl nd pa ba de en sc rsz fp ss cu os a1 a2 a3 a4 a5 (fb b1 (fun k => if BT k ≠ -1 ∧ F (BT k) = F i then w else b1 k) 0 nd) b2 b3 b4 b5 le fi xi0 xf0 xz0 xl0 xi1 xf1 xz1 xl1 xi2 xf2 xz2 xl2 xi3 xf3 xz3 xl3), hB)) : RNd ro (d + 1) 19 [vR 41, vI i, vI w] ((heapC tb tz tk tks tc tt iu nm ou so pl nd pa ba de en sc rsz fp ss cu os a1 a2 a3 a4 a5 b1 b2 b3 b4 b5 le fi xi0 xf0 xz0 xl0 xi1 xf1 xz1 xl1 xi2 xf2 xz2 xl2 xi3 xf3 xz3 xl3), hB) Q := by
  have main : ∀ k : Int, ∀ (f : Int → Int) (j : AV), 0 ≤ k → k ≤ nd → (∀ q, k ≤ q → f q = b1 q) → Q none ((heapC tb tz tk tks tc tt iu nm ou so pl nd pa ba de en sc rsz fp ss cu os a1 a2 a3 a4 a5 (fb f (fun k => if BT k ≠ -1 ∧ F (BT k) = F i then w else b1 k) k nd) b2 b3 b4 b5 le fi xi0 xf0 xz0 xl0 xi1 xf1 xz1 xl1 xi2 xf2 xz2 xl2 xi3 xf3 xz3 xl3), hB) → WPm ro d (RNd ro d) 19 0 0 Q 13 [vR 41, vI i, vI w, vL (a4 i), vN, vI k, j] [] ((heapC tb tz tk tks tc tt iu nm ou so pl nd pa ba de en sc rsz fp ss cu os a1 a2 a3 a4 a5 f b2 b3 b4 b5 le fi xi0 xf0 xz0 xl0 xi1 xf1 xz1 xl1 xi2 xf2 xz2 xl2 xi3 xf3 xz3 xl3), hB) 0 0 := by
    refine loopUp nd fun k ih f j k0 k1 hf hq => ?_
    refine WP_first [13] 60 ?_
    refine c2 (fun q => ?_) (fun q => ?_)
    · rw [fb_end q] at hq
      exact hq
    · have e3 := h3 k k0 (by omega)
      have hb := hBT k k0 (by omega)
      have skip : ¬ (BT k ≠ -1 ∧ F (BT k) = F i) → Q none ((heapC tb tz tk tks tc tt iu nm ou so pl nd pa ba de en sc rsz fp ss cu os a1 a2 a3 a4 a5 (fb f (fun k => if BT k ≠ -1 ∧ F (BT k) = F i then w else b1 k) (k + 1) nd) b2 b3 b4 b5 le fi xi0 xf0 xz0 xl0 xi1 xf1 xz1 xl1 xi2 xf2 xz2 xl2 xi3 xf3 xz3 xl3), hB) := by
        intro z
        rw [fb_same (by omega) (by show f k = if BT k ≠ -1 ∧ F (BT k) = F i then w else b1 k; rw [if_neg z]; exact hf k (by omega))]
        exact hq
      refine ix ?_
      rw [e3]
      refine c2 (fun q2 => ?_) (fun q2 => ?_)
      · exact ih (by omega) f _ (by omega) (by omega) (fun q a => hf q (by omega)) (skip (by omega))
      · have hb2 : 0 ≤ BT k ∧ BT k < nd ∧ IU (BT k) = 0 := by omega
        have hl := lc_bit (x := a4 i) (k := BT k) (by omega) (by omega)
        have hk := hK i (BT k) hi.1 hi.2 (by omega) (by omega)
        refine cl (fun q3 => ?_) (fun q3 => ?_)
        · refine ih (by omega) f _ (by omega) (by omega) (fun q a => hf q (by omega)) (skip (fun z => ?_))
          have z1 := hl.mp q3
          rw [hk.mpr ⟨hb2.2.1, Or.inr ⟨hd, hb2.2.2, z.2⟩⟩] at z1
          cases z1
        · refine ix ?_
          have z1 : B (a4 i) (BT k) = true := by
            cases h : B (a4 i) (BT k)
            · exact absurd (hl.mpr h) q3
            · rfl
          have z2 : F (BT k) = F i := by
            rcases hk.mp z1 with ⟨-, z | z⟩
            · rw [z]
            · exact z.2.2
          rw [← fb_st (by omega), if_pos ⟨q2, z2⟩] at hq
          exact ih (by omega) _ _ (by omega) (by omega) (fun q a => by rw [upZ_n (by omega)]; exact hf q (by omega)) hq
  refine WP_run [13] 20 ?_
  refine ix ?_
  exact main 0 b1 _ (by omega) (by omega) (fun q _ => rfl) hQ
set_option maxRecDepth 100000 in
set_option maxHeartbeats 4000000 in
theorem t_spareLetter (hn : 0 ≤ nd ∧ nd ≤ 60) (h1 : ∀ k, 0 ≤ k → k < nd → a1 k = NM k) (hr : rI a1 0 25) (hQ : Q (some (vI (spr nd NM))) ((heapC tb tz tk tks tc tt iu nm ou so pl nd pa ba de en sc rsz fp ss cu os a1 a2 a3 a4 a5 b1 b2 b3 b4 b5 le fi xi0 xf0 xz0 xl0 xi1 xf1 xz1 xl1 xi2 xf2 xz2 xl2 xi3 xf3 xz3 xl3), hB)) : RNd ro (d + 1) 21 [vR 41] ((heapC tb tz tk tks tc tt iu nm ou so pl nd pa ba de en sc rsz fp ss cu os a1 a2 a3 a4 a5 b1 b2 b3 b4 b5 le fi xi0 xf0 xz0 xl0 xi1 xf1 xz1 xl1 xi2 xf2 xz2 xl2 xi3 xf3 xz3 xl3), hB) Q := by
  have l2 : ∀ x : Int, (∀ w : Int, 0 ≤ w → w < 26 → bt x w.toNat = tkn NM w nd.toNat) → ∀ w : Int, 0 ≤ w → w ≤ 26 → Q (some (vI (lkN (fun w => !tkn NM w nd.toNat) (26 - w).toNat w))) ((heapC tb tz tk tks tc tt iu nm ou so pl nd pa ba de en sc rsz fp ss cu os a1 a2 a3 a4 a5 b1 b2 b3 b4 b5 le fi xi0 xf0 xz0 xl0 xi1 xf1 xz1 xl1 xi2 xf2 xz2 xl2 xi3 xf3 xz3 xl3), hB) → WPm ro d (RNd ro d) 21 0 0 Q 37 [vR 41, vI x, vI w] [] ((heapC tb tz tk tks tc tt iu nm ou so pl nd pa ba de en sc rsz fp ss cu os a1 a2 a3 a4 a5 b1 b2 b3 b4 b5 le fi xi0 xf0 xz0 xl0 xi1 xf1 xz1 xl1 xi2 xf2 xz2 xl2 xi3 xf3 xz3 xl3), hB) 0 0 := by
    intro x hx
    refine loopUp 26 fun w ih w0 w1 hq => ?_
    refine WP_first [37] 60 ?_
    refine c2 (fun q => ?_) (fun q => ?_)
    · rw [lkN_end q] at hq
      exact ri hq
    · have hb := bt_and x w.toNat (by omega)
      rw [show ((w.toNat : Nat) : Int) = w by omega, hx w w0 (by omega)] at hb
      rw [lkN_st (by omega)] at hq
      refine c1 (fun q2 => ?_) (fun q2 => ?_) (rg_andZ _ _)
      · have : tkn NM w nd.toNat = true := by
          cases h : tkn NM w nd.toNat
          · exact absurd (hb.mpr h) q2
          · rfl
        rw [if_neg (by simp [this])] at hq
        exact ih (by omega) (by omega) (by omega) hq
      · rw [if_pos (by simp [hb.mp q2])] at hq
        exact ri hq
  have l1 : ∀ k : Int, ∀ x : Int, 0 ≤ k → k ≤ nd → (∀ w : Int, 0 ≤ w → w < 26 → bt x w.toNat = tkn NM w k.toNat) → WPm ro d (RNd ro d) 21 0 0 Q 4 [vR 41, vI x, vI k] [] ((heapC tb tz tk tks tc tt iu nm ou so pl nd pa ba de en sc rsz fp ss cu os a1 a2 a3 a4 a5 b1 b2 b3 b4 b5 le fi xi0 xf0 xz0 xl0 xi1 xf1 xz1 xl1 xi2 xf2 xz2 xl2 xi3 xf3 xz3 xl3), hB) 0 0 := by
    refine loopUp nd fun k ih x k0 k1 hx => ?_
    refine WP_first [4, 37] 60 ?_
    refine c2 (fun q => ?_) (fun q => ?_)
    · have e : k = nd := by omega
      subst e
      exact l2 x hx 0 (by omega) (by omega) hQ
    · have e1 := h1 k k0 (by omega)
      have r1 := hr k
      refine ix ?_
      refine ih (by omega) _ (by omega) (by omega) (fun w w0 w1 => ?_)
      have hb := bt_or x (a1 k).toNat w.toNat (by omega)
      rw [show (((a1 k).toNat : Nat) : Int) = a1 k by omega] at hb
      rw [hb, hx w w0 w1, tkn_st k0]
      congr 1
      by_cases e : NM k = w
      · rw [decide_eq_true e, decide_eq_true (by omega)]
      · rw [decide_eq_false e, decide_eq_false (by omega)]
  exact WP_run [4] 20 (l1 0 0 (by omega) (by omega) (fun w _ _ => bt_0 _))
set_option maxRecDepth 100000 in
set_option maxHeartbeats 4000000 in
theorem t_pushAway {w : Int} (hn : 0 ≤ nd ∧ nd ≤ 60) (hw : 0 ≤ w ∧ w < 26) (h1 : ∀ k, 0 ≤ k → k < nd → a1 k = NM k ∧ a3 k = BT k) (hr : rI a1 0 25) (h3 : rI a3 (-1) 59)
    (hQ0 : spr nd NM = -1 → Q (some (vI 0)) ((heapC tb tz tk tks tc tt iu nm ou so pl nd pa ba de en sc rsz fp ss cu os a1 a2 a3 a4 a5 b1 b2 b3 b4 b5 le fi xi0 xf0 xz0 xl0 xi1 xf1 xz1 xl1 xi2 xf2 xz2 xl2 xi3 xf3 xz3 xl3), hB)) (hQ1 : spr nd NM ≠ -1 → Q (some (vI 1)) ((heapC tb tz tk tks tc tt iu nm ou so pl nd pa ba de en sc rsz fp ss cu os a1 a2 a3 a4 a5 (fb b1 (fun k => if BT k ≠ -1 ∧ NM k = w then spr nd NM else b1 k) 0 nd) b2 b3 b4 b5 le fi xi0 xf0 xz0 xl0 xi1 xf1 xz1 xl1 xi2 xf2 xz2 xl2 xi3 xf3 xz3 xl3), hB)) : RNd ro (d + 2) 20 [vR 41, vI w] ((heapC tb tz tk tks tc tt iu nm ou so pl nd pa ba de en sc rsz fp ss cu os a1 a2 a3 a4 a5 b1 b2 b3 b4 b5 le fi xi0 xf0 xz0 xl0 xi1 xf1 xz1 xl1 xi2 xf2 xz2 xl2 xi3 xf3 xz3 xl3), hB) Q := by
  have hsr := spr_rg nd NM
  have main : spr nd NM ≠ -1 → ∀ k : Int, ∀ (f : Int → Int), 0 ≤ k → k ≤ nd → (∀ q, k ≤ q → f q = b1 q) → Q (some (vI 1)) ((heapC tb tz tk tks tc tt iu nm ou so pl nd pa ba de en sc rsz fp ss cu os a1 a2 a3 a4 a5 (fb f (fun k => if BT k ≠ -1 ∧ NM k = w then spr nd NM else b1 k) k nd) b2 b3 b4 b5 le fi xi0 xf0 xz0 xl0 xi1 xf1 xz1 xl1 xi2 xf2 xz2 xl2 xi3 xf3 xz3 xl3), hB) → WPm ro (d + 1) (RNd ro (d + 1)) 20 0 0 Q 14 [vR 41, vI w, vI (spr nd NM), vI k] [] ((heapC tb tz tk tks tc tt iu nm ou so pl nd pa ba de en sc rsz fp ss cu os a1 a2 a3 a4 a5 f b2 b3 b4 b5 le fi xi0 xf0 xz0 xl0 xi1 xf1 xz1 xl1 xi2 xf2 xz2 xl2 xi3 xf3 xz3 xl3), hB) 0 0 := by
    intro hsp
    refine loopUp nd fun k ih f k0 k1 hf hq => ?_
    refine WP_first [14] 60 ?_
    refine c2 (fun q => ?_) (fun q => ?_)
    · rw [fb_end q] at hq
      exact rz hq
    · obtain ⟨e1, e3⟩ := h1 k k0 (by omega)
      have r1 := hr k
      have r3 := h3 k
      have skip : ¬ (BT k ≠ -1 ∧ NM k = w) → Q (some (vI 1)) ((heapC tb tz tk tks tc tt iu nm ou so pl nd pa ba de en sc rsz fp ss cu os a1 a2 a3 a4 a5 (fb f (fun k => if BT k ≠ -1 ∧ NM k = w then spr nd NM else b1 k) (k + 1) nd) b2 b3 b4 b5 le fi xi0 xf0 xz0 xl0 xi1 xf1 xz1 xl1 xi2 xf2 xz2 xl2 xi3 xf3 xz3 xl3), hB) := by
        intro z
        rw [fb_same (by omega) (by show f k = if BT k ≠ -1 ∧ NM k = w then spr nd NM else b1 k; rw [if_neg z]; exact hf k (by omega))]
        exact hq
      refine ix ?_
      refine c2 (fun q2 => ?_) (fun q2 => ?_)
      · exact ih (by omega) f (by omega) (by omega) (fun q a => hf q (by omega)) (skip (by omega))
      · refine ix ?_
        refine c2 (fun q3 => ?_) (fun q3 => ?_)
        · exact ih (by omega) f (by omega) (by omega) (fun q a => hf q (by omega)) (skip (by omega))
        · refine ix ?_
          rw [← fb_st (by omega), if_pos (by omega)] at hq
          exact ih (by omega) _ (by omega) (by omega) (fun q a => by rw [upZ_n (by omega)]; exact hf q (by omega)) hq
  refine WP_run [14] 20 ?_
  refine t_spareLetter hn (fun k a b => (h1 k a b).1) hr ?_
  refine c2 (fun q => ?_) (fun q => ?_)
  · exact main q 0 b1 (by omega) (by omega) (fun q _ => rfl) (hQ1 q)
  · exact rz (hQ0 q)
set_option maxRecDepth 100000 in
set_option maxHeartbeats 4000000 in
theorem t_leastOuts {T : Int → Int → Int} {k : Int} (hS : TS nd sc IU SO PA BA) (hA : TAg nd sc iu so pa ba IU SO PA BA) (hk : 0 ≤ k ∧ k < nd) (hn : rI b1 0 25) (h3 : rI a3 (-1) 59) (hT : ∀ s w, 0 ≤ s → s < sc → 0 ≤ w → w < 26 → b5 (s * 26 + w) = T s w) (hT2 : ∀ s w, 0 ≤ s → s < sc → -1 ≤ T s w ∧ T s w ≤ 59) (hr : rI b5 (-1) 59)
    (hQ : Q (some (vI (loF (fun o => lkp PA T (b1 k) 10 (goOut PA o.toNat (SO k))) (a3 k)))) ((heapC tb tz tk tks tc tt iu nm ou so pl nd pa ba de en sc rsz fp ss cu os a1 a2 a3 a4 a5 b1 b2 b3 b4 b5 le fi xi0 xf0 xz0 xl0 xi1 xf1 xz1 xl1 xi2 xf2 xz2 xl2 xi3 xf3 xz3 xl3), hB)) : RNd ro (d + 2) 23 [vR 41, vI k] ((heapC tb tz tk tks tc tt iu nm ou so pl nd pa ba de en sc rsz fp ss cu os a1 a2 a3 a4 a5 b1 b2 b3 b4 b5 le fi xi0 xf0 xz0 xl0 xi1 xf1 xz1 xl1 xi2 xf2 xz2 xl2 xi3 xf3 xz3 xl3), hB) Q := by
  obtain ⟨S1, S2, S3, S4⟩ := id hS
  obtain ⟨e1, e2⟩ := hA.1 k hk.1 hk.2
  obtain ⟨S31, S32⟩ := S3 k hk.1 hk.2
  have hnk := hn k
  have r3 := h3 k
  have main : ∀ o : Int, 0 ≤ o → o ≤ 4 → Q (some (vI (lkN (fun o => decide (lkp PA T (b1 k) 10 (goOut PA o.toNat (SO k)) = a3 k)) (4 - o).toNat o))) ((heapC tb tz tk tks tc tt iu nm ou so pl nd pa ba de en sc rsz fp ss cu os a1 a2 a3 a4 a5 b1 b2 b3 b4 b5 le fi xi0 xf0 xz0 xl0 xi1 xf1 xz1 xl1 xi2 xf2 xz2 xl2 xi3 xf3 xz3 xl3), hB) → WPm ro (d + 1) (RNd ro (d + 1)) 23 0 0 Q 2 [vR 41, vI k, vI o] [] ((heapC tb tz tk tks tc tt iu nm ou so pl nd pa ba de en sc rsz fp ss cu os a1 a2 a3 a4 a5 b1 b2 b3 b4 b5 le fi xi0 xf0 xz0 xl0 xi1 xf1 xz1 xl1 xi2 xf2 xz2 xl2 xi3 xf3 xz3 xl3), hB) 0 0 := by
    refine loopUp 4 fun o ih o0 o1 hq => ?_
    refine WP_first [2] 60 ?_
    refine c2 (fun q => ?_) (fun q => ?_)
    · rw [lkN_end (by omega)] at hq
      exact ri hq
    · rw [lkN_st (by omega)] at hq
      refine ix ?_
      refine ix ?_
      refine t_lookUp_then hS hA (by omega) (by omega) (by omega) hT hr ?_
      have hg := lkp_rg (nx := PA) (T := T) (w := b1 k) (m := sc) (lo := -1) (hi := 59) (by omega) (by omega) (fun s s0 s1 => (S4 s s0 s1).1.2) (fun s s0 s1 => hT2 s _ s0 s1) 10 _ (goOut_lt (fun s s0 s1 => (S4 s s0 s1).1.2) o.toNat (SO k) S32.2)
      rw [e2]
      refine ix ?_
      refine c2 (fun q2 => ?_) (fun q2 => ?_)
      · rw [if_neg (by simp; exact q2)] at hq
        exact ih (by omega) (by omega) (by omega) hq
      · rw [if_pos (by simp; exact q2)] at hq
        exact ri hq
  exact WP_run [2] 20 (main 0 (by omega) (by omega) hQ)
set_option maxRecDepth 100000 in
set_option maxHeartbeats 4000000 in
theorem t_repairOuts {T : Int → Int → Int} (hS : TS nd sc IU SO PA BA) (hA : TAg nd sc iu so pa ba IU SO PA BA) (hn : rI b1 0 25) (h3 : rI a3 (-1) 59) (g3 : rI b3 (-1) 59) (hT : ∀ s w, 0 ≤ s → s < sc → 0 ≤ w → w < 26 → b5 (s * 26 + w) = T s w) (hT2 : ∀ s w, 0 ≤ s → s < sc → -1 ≤ T s w ∧ T s w ≤ 59) (hr : rI b5 (-1) 59)
    (hQ : Q none ((heapC tb tz tk tks tc tt iu nm ou so pl nd pa ba de en sc rsz fp ss cu os a1 a2 a3 a4 a5 b1 (fb b2 (fun k => if b3 k = a3 k ∨ loF (fun o => lkp PA T (b1 k) 10 (goOut PA o.toNat (SO k))) (a3 k) = -1 then b2 k else loF (fun o => lkp PA T (b1 k) 10 (goOut PA o.toNat (SO k))) (a3 k)) 0 nd) (fb b3 (fun k => if b3 k = a3 k ∨ loF (fun o => lkp PA T (b1 k) 10 (goOut PA o.toNat (SO k))) (a3 k) = -1 then b3 k else a3 k) 0 nd) b4 b5 le fi xi0 xf0 xz0 xl0 xi1 xf1 xz1 xl1 xi2 xf2 xz2 xl2 xi3 xf3 xz3 xl3), hB)) : RNd ro (d + 3) 22 [vR 41] ((heapC tb tz tk tks tc tt iu nm ou so pl nd pa ba de en sc rsz fp ss cu os a1 a2 a3 a4 a5 b1 b2 b3 b4 b5 le fi xi0 xf0 xz0 xl0 xi1 xf1 xz1 xl1 xi2 xf2 xz2 xl2 xi3 xf3 xz3 xl3), hB) Q := by
  obtain ⟨S1, S2, S3, S4⟩ := id hS
  have main : ∀ k : Int, ∀ (f g : Int → Int) (j : AV), 0 ≤ k → k ≤ nd → (∀ q, k ≤ q → f q = b2 q) → (∀ q, k ≤ q → g q = b3 q) → rI g (-1) 59 →
      Q none ((heapC tb tz tk tks tc tt iu nm ou so pl nd pa ba de en sc rsz fp ss cu os a1 a2 a3 a4 a5 b1 (fb f (fun k => if b3 k = a3 k ∨ loF (fun o => lkp PA T (b1 k) 10 (goOut PA o.toNat (SO k))) (a3 k) = -1 then b2 k else loF (fun o => lkp PA T (b1 k) 10 (goOut PA o.toNat (SO k))) (a3 k)) k nd) (fb g (fun k => if b3 k = a3 k ∨ loF (fun o => lkp PA T (b1 k) 10 (goOut PA o.toNat (SO k))) (a3 k) = -1 then b3 k else a3 k) k nd) b4 b5 le fi xi0 xf0 xz0 xl0 xi1 xf1 xz1 xl1 xi2 xf2 xz2 xl2 xi3 xf3 xz3 xl3), hB) →
      WPm ro (d + 2) (RNd ro (d + 2)) 22 0 0 Q 2 [vR 41, vI k, j] [] ((heapC tb tz tk tks tc tt iu nm ou so pl nd pa ba de en sc rsz fp ss cu os a1 a2 a3 a4 a5 b1 f g b4 b5 le fi xi0 xf0 xz0 xl0 xi1 xf1 xz1 xl1 xi2 xf2 xz2 xl2 xi3 xf3 xz3 xl3), hB) 0 0 := by
    refine loopUp nd fun k ih f g j k0 k1 hf hg hgr hq => ?_
    refine WP_first [2] 60 ?_
    refine c2 (fun q => ?_) (fun q => ?_)
    · rw [fb_end q, fb_end q] at hq
      exact hq
    · have r1 := h3 k
      have r2 := hgr k
      have ef := hf k (by omega)
      have eg := hg k (by omega)
      refine ix ?_
      refine ix ?_
      refine c2 (fun q2 => ?_) (fun q2 => ?_)
      · rw [← fb_same (f := f) (by omega) (by show f k = if _ then _ else _; rw [if_pos (Or.inl (by omega))]; exact ef), ← fb_same (f := g) (by omega) (by show g k = if _ then _ else _; rw [if_pos (Or.inl (by omega))]; exact eg)] at hq
        exact ih (by omega) f g _ (by omega) (by omega) (fun q a => hf q (by omega)) (fun q a => hg q (by omega)) hgr hq
      · refine t_leastOuts hS hA ⟨k0, by omega⟩ hn h3 hT hT2 hr ?_
        have lr := loF_rg (fun o => lkp PA T (b1 k) 10 (goOut PA o.toNat (SO k))) (a3 k)
        refine c2 (fun q3 => ?_) (fun q3 => ?_)
        · rw [← fb_same (f := f) (by omega) (by show f k = if _ then _ else _; rw [if_pos (Or.inr q3)]; exact ef), ← fb_same (f := g) (by omega) (by show g k = if _ then _ else _; rw [if_pos (Or.inr q3)]; exact eg)] at hq
          exact ih (by omega) f g _ (by omega) (by omega) (fun q a => hf q (by omega)) (fun q a => hg q (by omega)) hgr hq
        · refine ix ?_
          refine ix ?_
          refine ix ?_
          have hno : ¬ (b3 k = a3 k ∨ loF (fun o => lkp PA T (b1 k) 10 (goOut PA o.toNat (SO k))) (a3 k) = -1) := fun z => z.elim (fun z => q2 (by omega)) q3
          rw [← fb_st (f := f) (by omega), ← fb_st (f := g) (by omega), if_neg hno, if_neg hno] at hq
          exact ih (by omega) _ _ _ (by omega) (by omega) (fun q a => by rw [upZ_n (by omega)]; exact hf q (by omega)) (fun q a => by rw [upZ_n (by omega)]; exact hg q (by omega)) (rI_up hgr r1.1 r1.2) hq
  exact WP_run [2] 20 (main 0 b2 b3 _ (by omega) (by omega) (fun q _ => rfl) (fun q _ => rfl) g3 hQ)
set_option maxRecDepth 100000 in
set_option maxHeartbeats 4000000 in
theorem t_sameFamilies (hn : 0 ≤ nd ∧ nd ≤ 60) (hQ1 : (∀ k, 0 ≤ k → k < nd → b4 k = a4 k) → Q (some (vI 1)) ((heapC tb tz tk tks tc tt iu nm ou so pl nd pa ba de en sc rsz fp ss cu os a1 a2 a3 a4 a5 b1 b2 b3 b4 b5 le fi xi0 xf0 xz0 xl0 xi1 xf1 xz1 xl1 xi2 xf2 xz2 xl2 xi3 xf3 xz3 xl3), hB)) (hQ0 : ¬ (∀ k, 0 ≤ k → k < nd → b4 k = a4 k) → Q (some (vI 0)) ((heapC tb tz tk tks tc tt iu nm ou so pl nd pa ba de en sc rsz fp ss cu os a1 a2 a3 a4 a5 b1 b2 b3 b4 b5 le fi xi0 xf0 xz0 xl0 xi1 xf1 xz1 xl1 xi2 xf2 xz2 xl2 xi3 xf3 xz3 xl3), hB)) : RNd ro (d + 1) 25 [vR 41] ((heapC tb tz tk tks tc tt iu nm ou so pl nd pa ba de en sc rsz fp ss cu os a1 a2 a3 a4 a5 b1 b2 b3 b4 b5 le fi xi0 xf0 xz0 xl0 xi1 xf1 xz1 xl1 xi2 xf2 xz2 xl2 xi3 xf3 xz3 xl3), hB) Q := by
  have main : ∀ k : Int, 0 ≤ k → k ≤ nd → (∀ q, 0 ≤ q → q < k → b4 q = a4 q) → WPm ro d (RNd ro d) 25 0 0 Q 2 [vR 41, vI k] [] ((heapC tb tz tk tks tc tt iu nm ou so pl nd pa ba de en sc rsz fp ss cu os a1 a2 a3 a4 a5 b1 b2 b3 b4 b5 le fi xi0 xf0 xz0 xl0 xi1 xf1 xz1 xl1 xi2 xf2 xz2 xl2 xi3 xf3 xz3 xl3), hB) 0 0 := by
    refine loopUp nd fun k ih k0 k1 hq => ?_
    refine WP_first [2] 60 ?_
    refine c2 (fun q => ?_) (fun q => ?_)
    · exact rz (hQ1 (fun k a b => hq k a (by omega)))
    · refine ix ?_
      refine ix ?_
      refine cl (fun q2 => ?_) (fun q2 => ?_)
      · refine ih (by omega) (by omega) (by omega) (fun q a b => ?_)
        by_cases e : q = k
        · rw [e]; exact lcZ_eq.mp q2
        · exact hq q a (by omega)
      · exact rz (hQ0 (fun z => q2 (lcZ_eq.mpr (z k k0 (by omega)))))
  exact WP_run [2] 20 (main 0 (by omega) (by omega) (fun q a b => by omega))
set_option maxRecDepth 100000 in
set_option maxHeartbeats 4000000 in
theorem t_outsAdded (hn : 0 ≤ nd ∧ nd ≤ 60) (hQ : Q (some (vI (sumF (fun k => b2 k - a2 k) nd.toNat))) ((heapC tb tz tk tks tc tt iu nm ou so pl nd pa ba de en sc rsz fp ss cu os a1 a2 a3 a4 a5 b1 b2 b3 b4 b5 le fi xi0 xf0 xz0 xl0 xi1 xf1 xz1 xl1 xi2 xf2 xz2 xl2 xi3 xf3 xz3 xl3), hB)) : RNd ro (d + 1) 26 [vR 41] ((heapC tb tz tk tks tc tt iu nm ou so pl nd pa ba de en sc rsz fp ss cu os a1 a2 a3 a4 a5 b1 b2 b3 b4 b5 le fi xi0 xf0 xz0 xl0 xi1 xf1 xz1 xl1 xi2 xf2 xz2 xl2 xi3 xf3 xz3 xl3), hB) Q := by
  have main : ∀ k : Int, ∀ x : Int, 0 ≤ k → k ≤ nd → x = sumF (fun k => b2 k - a2 k) k.toNat → WPm ro d (RNd ro d) 26 0 0 Q 4 [vR 41, vI x, vI k] [] ((heapC tb tz tk tks tc tt iu nm ou so pl nd pa ba de en sc rsz fp ss cu os a1 a2 a3 a4 a5 b1 b2 b3 b4 b5 le fi xi0 xf0 xz0 xl0 xi1 xf1 xz1 xl1 xi2 xf2 xz2 xl2 xi3 xf3 xz3 xl3), hB) 0 0 := by
    refine loopUp nd fun k ih x k0 k1 hx => ?_
    refine WP_first [4] 60 ?_
    refine c2 (fun q => ?_) (fun q => ?_)
    · have e : k = nd := by omega
      subst e
      rw [hx]
      exact ri hQ
    · refine ix ?_
      refine ix ?_
      refine ih (by omega) _ (by omega) (by omega) ?_
      rw [sumF_st k0, hx]
  exact WP_run [4] 20 (main 0 0 (by omega) (by omega) rfl)
set_option maxRecDepth 100000 in
set_option maxHeartbeats 4000000 in
theorem t_editsMade (hn : 0 ≤ nd ∧ nd ≤ 60) (h1 : rI a1 0 25) (g1 : rI b1 0 25) (h2 : rI a2 0 3) (g2 : rI b2 0 3) (hQ : Q (some (vI (sumF (fun k => (if b1 k ≠ a1 k then 1 else 0) + (if 0 ≤ b2 k - a2 k then b2 k - a2 k else -(b2 k - a2 k))) nd.toNat))) ((heapC tb tz tk tks tc tt iu nm ou so pl nd pa ba de en sc rsz fp ss cu os a1 a2 a3 a4 a5 b1 b2 b3 b4 b5 le fi xi0 xf0 xz0 xl0 xi1 xf1 xz1 xl1 xi2 xf2 xz2 xl2 xi3 xf3 xz3 xl3), hB)) : RNd ro (d + 2) 27 [vR 41] ((heapC tb tz tk tks tc tt iu nm ou so pl nd pa ba de en sc rsz fp ss cu os a1 a2 a3 a4 a5 b1 b2 b3 b4 b5 le fi xi0 xf0 xz0 xl0 xi1 xf1 xz1 xl1 xi2 xf2 xz2 xl2 xi3 xf3 xz3 xl3), hB) Q := by
  have main : ∀ k : Int, ∀ x : Int, 0 ≤ k → k ≤ nd → x = sumF (fun k => (if b1 k ≠ a1 k then 1 else 0) + (if 0 ≤ b2 k - a2 k then b2 k - a2 k else -(b2 k - a2 k))) k.toNat → WPm ro (d + 1) (RNd ro (d + 1)) 27 0 0 Q 4 [vR 41, vI x, vI k] [] ((heapC tb tz tk tks tc tt iu nm ou so pl nd pa ba de en sc rsz fp ss cu os a1 a2 a3 a4 a5 b1 b2 b3 b4 b5 le fi xi0 xf0 xz0 xl0 xi1 xf1 xz1 xl1 xi2 xf2 xz2 xl2 xi3 xf3 xz3 xl3), hB) 0 0 := by
    refine loopUp nd fun k ih x k0 k1 hx => ?_
    have r1 := h1 k
    have r2 := h2 k
    have r3 := g1 k
    have r4 := g2 k
    refine WP_first [4] 60 ?_
    refine c2 (fun q => ?_) (fun q => ?_)
    · have e : k = nd := by omega
      subst e
      rw [hx]
      exact ri hQ
    · have hst := sumF_st (f := fun k => (if b1 k ≠ a1 k then 1 else 0) + (if 0 ≤ b2 k - a2 k then b2 k - a2 k else -(b2 k - a2 k))) k0
      refine ix ?_
      refine ix ?_
      refine c2 (fun q2 => ?_) (fun q2 => ?_)
      · refine ix ?_
        refine ix ?_
        refine m1 ?_
        refine ih (by omega) _ (by omega) (by omega) ?_
        rw [hst, if_neg (show ¬ (b1 k ≠ a1 k) by omega), hx]
        omega
      · refine ix ?_
        refine ix ?_
        refine m1 ?_
        refine ih (by omega) _ (by omega) (by omega) ?_
        rw [hst, if_pos (show b1 k ≠ a1 k by omega), hx]
        omega
  exact WP_run [4] 20 (main 0 0 (by omega) (by omega) rfl)
end RENAMER
