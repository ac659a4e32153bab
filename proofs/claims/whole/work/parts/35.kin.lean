/-! ===== families as bits ===== -/
def bitsF (p : Int → Bool) : Nat → Int64
  | 0 => 0
  | n + 1 => if p n = true then bitsF p n ||| shlL 1 n else bitsF p n
set_option maxRecDepth 100000 in
set_option maxHeartbeats 4000000 in
theorem B_bitsF {p : Int → Bool} {j : Int} (j0 : 0 ≤ j) (j1 : j < 64) : ∀ n : Nat, n ≤ 64 → B (bitsF p n) j = (decide (j < n) && p j)
  | 0, _ => by
    rw [decide_eq_false (by omega)]
    exact B_zero
  | n + 1, h => by
    have ih := B_bitsF (p := p) j0 j1 n (by omega)
    have e0 : ((n + 1 : Nat) : Int) = (n : Int) + 1 := by omega
    rw [e0]
    show B (if p n = true then bitsF p n ||| shlL 1 n else bitsF p n) j = _
    by_cases e : j = n
    · rw [decide_eq_true (by omega), Bool.true_and, e]
      rw [e] at ih
      by_cases hp : p n = true
      · rw [if_pos hp, B_or, B_shl1 (by omega) (by omega) (by omega), hp]
        simp
      · rw [if_neg hp, ih, decide_eq_false (by omega)]
        simpa using hp
    · have e2 : decide (j < (n : Int) + 1) = decide (j < (n : Int)) := by
        by_cases q : j < (n : Int)
        · rw [decide_eq_true q, decide_eq_true (by omega)]
        · rw [decide_eq_false q, decide_eq_false (by omega)]
      rw [e2, ← ih]
      split
      · rw [B_or, B_shl1 (by omega) (by omega) j0, decide_eq_false e, Bool.or_false]
      · rfl
set_option maxRecDepth 100000 in
set_option maxHeartbeats 4000000 in
theorem bitsF_st {p : Int → Bool} {k : Int} (h : 0 ≤ k) : bitsF p (k + 1).toNat = if p k = true then bitsF p k.toNat ||| shlL 1 k else bitsF p k.toNat := by
  rw [show (k + 1).toNat = k.toNat + 1 by omega]
  show (if p ((k.toNat : Nat) : Int) = true then bitsF p k.toNat ||| shlL 1 ((k.toNat : Nat) : Int) else bitsF p k.toNat) = _
  rw [show ((k.toNat : Nat) : Int) = k by omega]
set_option maxRecDepth 100000 in
set_option maxHeartbeats 4000000 in
theorem bitsF_ext {p p' : Int → Bool} : ∀ n : Nat, (∀ k : Int, 0 ≤ k → k < n → p k = p' k) → bitsF p n = bitsF p' n
  | 0, _ => rfl
  | n + 1, h => by
    show (if p n = true then bitsF p n ||| shlL 1 n else bitsF p n) = (if p' n = true then bitsF p' n ||| shlL 1 n else bitsF p' n)
    rw [bitsF_ext n (fun k a b => h k a (by omega)), h n (by omega) (by omega)]
set_option maxRecDepth 100000 in
set_option maxHeartbeats 4000000 in
theorem or_zero {x : Int64} : x ||| 0 = x := B_ext fun k a b => by rw [B_or, B_zero, Bool.or_false]
set_option maxRecDepth 100000 in
set_option maxHeartbeats 4000000 in
theorem fb_same {α : Type} {f g : Int → α} {i n : Int} (h : i < n) (e : f i = g i) : fb f g (i + 1) n = fb f g i n := by
  funext q
  unfold fb
  by_cases h1 : i + 1 ≤ q ∧ q < n
  · rw [if_pos h1, if_pos (by omega)]
  · rw [if_neg h1]
    by_cases h2 : q = i
    · rw [if_pos (by omega), h2, e]
    · rw [if_neg (by omega)]
/-- a family's number is its least declaration -/
def FamOK (nd : Int) (IU F : Int → Int) : Prop := ∀ k, 0 ≤ k → k < nd → (IU k = 1 → F k = -1) ∧ (IU k = 0 → 0 ≤ F k ∧ F k ≤ k ∧ IU (F k) = 0 ∧ F (F k) = F k)
def SFok (nd : Int) (IU SF : Int → Int) : Prop := ∀ k, 0 ≤ k → k < nd → -1 ≤ SF k ∧ SF k < nd ∧ (SF k ≠ -1 → IU k = 0 ∧ IU (SF k) = 0)
def KinOK (nd : Int) (IU F : Int → Int) (kin : Int → Int64) : Prop := ∀ j i, 0 ≤ j → j < nd → 0 ≤ i → i < 64 → (B (kin j) i = true ↔ i < nd ∧ (i = j ∨ (IU j = 0 ∧ IU i = 0 ∧ F i = F j)))
def U01 (nd : Int) (IU : Int → Int) : Prop := ∀ k, 0 ≤ k → k < nd → 0 ≤ IU k ∧ IU k ≤ 1
set_option maxRecDepth 100000 in
set_option maxHeartbeats 4000000 in
theorem famS_eq {F : Int → Int} {o k j : Int} (h : o = -1 ∨ F o = F k) : famS F o k j = F j := by
  unfold famS
  rw [if_pos h]
set_option maxRecDepth 100000 in
set_option maxHeartbeats 4000000 in
theorem famS_cs {F : Int → Int} {o k : Int} (h : ¬ (o = -1 ∨ F o = F k)) : ∃ one two, ((one = F o ∧ two = F k) ∨ (one = F k ∧ two = F o)) ∧ one < two ∧ ∀ j, (F j = two ∧ famS F o k j = one) ∨ (F j ≠ two ∧ famS F o k j = F j) := by
  by_cases hl : F o < F k
  · refine ⟨F o, F k, Or.inl ⟨rfl, rfl⟩, hl, fun j => ?_⟩
    rw [famS_ne h, if_pos hl, if_pos hl]
    by_cases e : F j = F k
    · exact Or.inl ⟨e, if_pos e⟩
    · exact Or.inr ⟨e, if_neg e⟩
  · refine ⟨F k, F o, Or.inr ⟨rfl, rfl⟩, by omega, fun j => ?_⟩
    rw [famS_ne h, if_neg hl, if_neg hl]
    by_cases e : F j = F o
    · exact Or.inl ⟨e, if_pos e⟩
    · exact Or.inr ⟨e, if_neg e⟩
set_option maxRecDepth 100000 in
set_option maxHeartbeats 4000000 in
theorem famS_ok {nd : Int} {IU F : Int → Int} {o k : Int} (hF : FamOK nd IU F) (hk : 0 ≤ k ∧ k < nd) (ho : -1 ≤ o ∧ o < nd) (hd : o ≠ -1 → IU k = 0 ∧ IU o = 0) : FamOK nd IU (famS F o k) := by
  intro j j0 j1
  by_cases h : o = -1 ∨ F o = F k
  · have e : ∀ q, famS F o k q = F q := fun q => famS_eq h
    rw [e, e]
    exact hF j j0 j1
  · obtain ⟨one, two, hc, hlt, hj⟩ := famS_cs h
    obtain ⟨d1, d2⟩ := hd (by omega)
    obtain ⟨a1, a2, a3, a4⟩ := (hF k hk.1 hk.2).2 d1
    obtain ⟨b1, b2, b3, b4⟩ := (hF o (by omega) ho.2).2 d2
    obtain ⟨c1, c2⟩ := hF j j0 j1
    have h1 : F one = one := by rcases hc with ⟨e, _⟩ | ⟨e, _⟩ <;> rw [e] <;> assumption
    have h2 : IU one = 0 := by rcases hc with ⟨e, _⟩ | ⟨e, _⟩ <;> rw [e] <;> assumption
    refine ⟨fun u => ?_, fun u => ?_⟩
    · have := c1 u
      rcases hj j with ⟨z1, z2⟩ | ⟨z1, z2⟩ <;> omega
    · obtain ⟨e1, e2, e3, e4⟩ := c2 u
      rcases hj j with ⟨z1, z2⟩ | ⟨z1, z2⟩
      · rw [z2]
        refine ⟨by omega, by omega, h2, ?_⟩
        rcases hj one with ⟨y1, y2⟩ | ⟨y1, y2⟩ <;> omega
      · rw [z2]
        refine ⟨e1, e2, e3, ?_⟩
        rcases hj (F j) with ⟨y1, y2⟩ | ⟨y1, y2⟩ <;> omega
set_option maxRecDepth 100000 in
set_option maxHeartbeats 4000000 in
theorem famN_ok {nd : Int} {IU SF : Int → Int} (hU : U01 nd IU) (hS : SFok nd IU SF) : ∀ m : Nat, (m : Int) ≤ nd → FamOK nd IU (famN IU SF m)
  | 0, _ => by
    intro k k0 k1
    have := hU k k0 k1
    refine ⟨fun u => if_pos u, fun u => ?_⟩
    have e : famN IU SF 0 k = k := if_neg (by omega)
    rw [e]
    exact ⟨k0, Int.le_refl _, u, e⟩
  | m + 1, hm => by
    obtain ⟨s1, s2, s3⟩ := hS m (by omega) (by omega)
    exact famS_ok (famN_ok hU hS m (by omega)) (by omega) ⟨s1, s2⟩ s3
set_option maxRecDepth 100000 in
set_option maxHeartbeats 4000000 in
theorem kin_all {nd : Int} {IU F : Int → Int} {kin : Int → Int64} {o k i : Int} (hK : KinOK nd IU F kin) (hk : 0 ≤ k ∧ k < nd) (ho : 0 ≤ o ∧ o < nd) (hd : IU k = 0 ∧ IU o = 0) (hi : 0 ≤ i ∧ i < 64) : B (kin k ||| kin o) i = true ↔ i < nd ∧ IU i = 0 ∧ (F i = F k ∨ F i = F o) := by
  rw [B_or, Bool.or_eq_true, hK k i hk.1 hk.2 hi.1 hi.2, hK o i ho.1 ho.2 hi.1 hi.2]
  constructor
  · rintro (⟨h1, h2 | h2⟩ | ⟨h1, h2 | h2⟩)
    · subst h2; exact ⟨h1, hd.1, Or.inl rfl⟩
    · exact ⟨h1, h2.2.1, Or.inl h2.2.2⟩
    · subst h2; exact ⟨h1, hd.2, Or.inr rfl⟩
    · exact ⟨h1, h2.2.1, Or.inr h2.2.2⟩
  · rintro ⟨h1, h2, h3 | h3⟩
    · exact Or.inl ⟨h1, Or.inr ⟨hd.1, h2, h3⟩⟩
    · exact Or.inr ⟨h1, Or.inr ⟨hd.2, h2, h3⟩⟩
set_option maxRecDepth 100000 in
set_option maxHeartbeats 4000000 in
theorem kin_step {nd : Int} {IU F : Int → Int} {kin : Int → Int64} {o k : Int} (hn : nd ≤ 60) (hK : KinOK nd IU F kin) (hk : 0 ≤ k ∧ k < nd) (ho : 0 ≤ o ∧ o < nd) (hd : IU k = 0 ∧ IU o = 0) :
    KinOK nd IU (famS F o k) (fb kin (fun j => if B (kin k ||| kin o) j = true then (kin k ||| kin o) else kin j) 0 nd) := by
  intro j i j0 j1 i0 i1
  rw [fb_in j0 j1]
  have aj := kin_all (i := j) hK hk ho hd (by omega)
  have ai := kin_all (i := i) hK hk ho hd (by omega)
  have kj := hK j i j0 j1 i0 i1
  by_cases h : o = -1 ∨ F o = F k
  · have e : ∀ q, famS F o k q = F q := fun q => famS_eq h
    rw [e, e]
    split
    · rename_i hb
      obtain ⟨b1, b2, b3⟩ := aj.mp hb
      rw [ai]
      have hfo : F o = F k := by omega
      constructor
      · rintro ⟨x1, x2, x3⟩
        exact ⟨x1, Or.inr ⟨b2, x2, by omega⟩⟩
      · rintro ⟨x1, x2 | ⟨x2, x3, x4⟩⟩
        · subst x2; exact ⟨x1, b2, b3⟩
        · exact ⟨x1, x3, by omega⟩
    · exact kj
  · obtain ⟨one, two, hc, hlt, hj⟩ := famS_cs h
    have fj := hj j
    have fi := hj i
    split
    · rename_i hb
      obtain ⟨b1, b2, b3⟩ := aj.mp hb
      rw [ai]
      constructor
      · rintro ⟨x1, x2, x3⟩
        exact ⟨x1, Or.inr ⟨b2, x2, by omega⟩⟩
      · rintro ⟨x1, x2 | ⟨x2, x3, x4⟩⟩
        · subst x2; exact ⟨x1, b2, b3⟩
        · exact ⟨x1, x3, by omega⟩
    · rename_i hb
      rw [kj]
      have hb' : ¬ (j < nd ∧ IU j = 0 ∧ (F j = F k ∨ F j = F o)) := fun z => hb (aj.mpr z)
      constructor
      · rintro ⟨x1, x2 | ⟨x2, x3, x4⟩⟩
        · exact ⟨x1, Or.inl x2⟩
        · exact ⟨x1, Or.inr ⟨x2, x3, by omega⟩⟩
      · rintro ⟨x1, x2 | ⟨x2, x3, x4⟩⟩
        · exact ⟨x1, Or.inl x2⟩
        · exact ⟨x1, Or.inr ⟨x2, x3, by omega⟩⟩
section KIN
variable {ro : Nat × (Int → Int)} {d : Nat} {Q : Option AV → AH → Prop} {hB : List AC} {tb : Int → Int} {tz : Int} {tk : Int → Int → Int} {tks : Int → Int} {tc tt : Int} {iu nm ou so pl : Int → Int} {nd : Int} {pa ba de en : Int → Int} {sc rsz fp ss cu os : Int} {a1 a2 a3 : Int → Int} {a4 : Int → Int64} {a5 b1 b2 b3 : Int → Int} {b4 : Int → Int64} {b5 : Int → Int} {le fi : Int} {xi0 : Int → Int} {xf0 xz0 xl0 : Int} {xi1 : Int → Int} {xf1 xz1 xl1 : Int} {xi2 : Int → Int} {xf2 xz2 xl2 : Int} {xi3 : Int → Int} {xf3 xz3 xl3 : Int} {IU SO PA BA : Int → Int}
set_option maxRecDepth 100000 in
set_option maxHeartbeats 4000000 in
theorem t_join_now {all : Int64} (hn : 0 ≤ nd ∧ nd ≤ 60) (hQ : Q none ((heapC tb tz tk tks tc tt iu nm ou so pl nd pa ba de en sc rsz fp ss cu os a1 a2 a3 (fb a4 (fun j => if B all j = true then all else a4 j) 0 nd) a5 b1 b2 b3 b4 b5 le fi xi0 xf0 xz0 xl0 xi1 xf1 xz1 xl1 xi2 xf2 xz2 xl2 xi3 xf3 xz3 xl3), hB)) : RNd ro (d + 1) 8 [vR 35, vL all] ((heapC tb tz tk tks tc tt iu nm ou so pl nd pa ba de en sc rsz fp ss cu os a1 a2 a3 a4 a5 b1 b2 b3 b4 b5 le fi xi0 xf0 xz0 xl0 xi1 xf1 xz1 xl1 xi2 xf2 xz2 xl2 xi3 xf3 xz3 xl3), hB) Q := by
  have main : ∀ k : Int, ∀ f : Int → Int64, 0 ≤ k → k ≤ nd → (∀ q, k ≤ q → f q = a4 q) → Q none ((heapC tb tz tk tks tc tt iu nm ou so pl nd pa ba de en sc rsz fp ss cu os a1 a2 a3 (fb f (fun j => if B all j = true then all else a4 j) k nd) a5 b1 b2 b3 b4 b5 le fi xi0 xf0 xz0 xl0 xi1 xf1 xz1 xl1 xi2 xf2 xz2 xl2 xi3 xf3 xz3 xl3), hB) → WPm ro d (RNd ro d) 8 0 0 Q 2 [vR 35, vL all, vN, vI k] [] ((heapC tb tz tk tks tc tt iu nm ou so pl nd pa ba de en sc rsz fp ss cu os a1 a2 a3 f a5 b1 b2 b3 b4 b5 le fi xi0 xf0 xz0 xl0 xi1 xf1 xz1 xl1 xi2 xf2 xz2 xl2 xi3 xf3 xz3 xl3), hB) 0 0 := by
    refine loopUp nd fun k ih f k0 k1 hf hq => ?_
    refine WP_first [2] 60 ?_
    refine c2 (fun q => ?_) (fun q => ?_)
    · rw [fb_end q] at hq
      exact hq
    · have hb := lc_bit (x := all) (k := k) k0 (by omega)
      refine cl (fun q2 => ?_) (fun q2 => ?_)
      · have e := hb.mp q2
        rw [← fb_same (by omega) (by show f k = if B all k = true then all else a4 k; rw [if_neg (by rw [e]; decide)]; exact hf k (by omega))] at hq
        exact ih (by omega) f (by omega) (by omega) (fun q a => hf q (by omega)) hq
      · refine ix ?_
        have e : B all k = true := by
          cases h : B all k
          · exact absurd (hb.mpr h) q2
          · rfl
        rw [← fb_st (by omega)] at hq
        rw [if_pos e] at hq
        exact ih (by omega) _ (by omega) (by omega) (fun q a => by rw [upZ_n (by omega)]; exact hf q (by omega)) hq
  exact WP_run [2] 20 (main 0 a4 (by omega) (by omega) (fun q _ => rfl) hQ)
set_option maxRecDepth 100000 in
set_option maxHeartbeats 4000000 in
theorem t_joinFamilies_now {T : Int → Int → Int} (hS : TS nd sc IU SO PA BA) (hA : TAg nd sc iu so pa ba IU SO PA BA) (hn : rI a1 0 25) (hr : rI a5 (-1) 59) (hT : ∀ s w, 0 ≤ s → s < sc → 0 ≤ w → w < 26 → a5 (s * 26 + w) = T s w) (hSF : SFok nd IU (SFv IU SO BA a1 T))
    (hQ : ∀ kin, KinOK nd IU (famN IU (SFv IU SO BA a1 T) nd.toNat) kin → Q none ((heapC tb tz tk tks tc tt iu nm ou so pl nd pa ba de en sc rsz fp ss cu os a1 a2 a3 kin a5 b1 b2 b3 b4 b5 le fi xi0 xf0 xz0 xl0 xi1 xf1 xz1 xl1 xi2 xf2 xz2 xl2 xi3 xf3 xz3 xl3), hB)) : RNd ro (d + 2) 7 [vR 35] ((heapC tb tz tk tks tc tt iu nm ou so pl nd pa ba de en sc rsz fp ss cu os a1 a2 a3 a4 a5 b1 b2 b3 b4 b5 le fi xi0 xf0 xz0 xl0 xi1 xf1 xz1 xl1 xi2 xf2 xz2 xl2 xi3 xf3 xz3 xl3), hB) Q := by
  obtain ⟨S1, S2, S3, S4⟩ := id hS
  have l2 : ∀ k : Int, ∀ (kin : Int → Int64) (j2 j3 : AV), 0 ≤ k → k ≤ nd → KinOK nd IU (famN IU (SFv IU SO BA a1 T) k.toNat) kin → WPm ro (d + 1) (RNd ro (d + 1)) 7 0 0 Q 30 [vR 35, vI k, j2, j3] [] ((heapC tb tz tk tks tc tt iu nm ou so pl nd pa ba de en sc rsz fp ss cu os a1 a2 a3 kin a5 b1 b2 b3 b4 b5 le fi xi0 xf0 xz0 xl0 xi1 xf1 xz1 xl1 xi2 xf2 xz2 xl2 xi3 xf3 xz3 xl3), hB) 0 0 := by
    refine loopUp nd fun k ih kin j2 j3 k0 k1 hK => ?_
    refine WP_first [30, 83] 60 ?_
    refine c2 (fun q => ?_) (fun q => ?_)
    · have e : k = nd := by omega
      rw [e] at hK
      exact hQ kin hK
    · obtain ⟨e1, e2⟩ := hA.1 k k0 (by omega)
      obtain ⟨S31, S32⟩ := S3 k k0 (by omega)
      have e3 := (hA.2 (SO k) S32.1 S32.2).2
      have e4 := (S4 (SO k) S32.1 S32.2).2
      have hnk := hn k
      obtain ⟨f1', f2', f3'⟩ := hSF k k0 (by omega)
      have hstep : famN IU (SFv IU SO BA a1 T) (k + 1).toNat = famS (famN IU (SFv IU SO BA a1 T) k.toNat) (SFv IU SO BA a1 T k) k := by
        rw [show (k + 1).toNat = k.toNat + 1 by omega]
        show famS _ (SFv IU SO BA a1 T ((k.toNat : Nat) : Int)) ((k.toNat : Nat) : Int) = _
        rw [show ((k.toNat : Nat) : Int) = k by omega]
      have skip : SFv IU SO BA a1 T k = -1 → KinOK nd IU (famN IU (SFv IU SO BA a1 T) (k + 1).toNat) kin := by
        intro e
        rw [hstep]
        unfold famS
        rw [if_pos (Or.inl e)]
        exact hK
      have go : ∀ ot : Int, (-1 ≤ ot ∧ ot ≤ 59) → (IU k = 0 → ot = SFv IU SO BA a1 T k) → WPm ro (d + 1) (RNd ro (d + 1)) 7 0 0 Q 83 [vR 35, vI k, vI (BA (SO k)), j3] [vI ot] ((heapC tb tz tk tks tc tt iu nm ou so pl nd pa ba de en sc rsz fp ss cu os a1 a2 a3 kin a5 b1 b2 b3 b4 b5 le fi xi0 xf0 xz0 xl0 xi1 xf1 xz1 xl1 xi2 xf2 xz2 xl2 xi3 xf3 xz3 xl3), hB) 0 0 := by
        intro ot hot heq
        refine WP_first [30] 60 ?_
        refine ix ?_
        refine c1 (fun p1 => ?_) (fun p1 => ?_)
        · refine ih (by omega) kin _ _ (by omega) (by omega) (skip ?_)
          unfold SFv
          rw [if_pos (Or.inl (by omega))]
        · have e5 := heq (by omega)
          refine c2 (fun p2 => ?_) (fun p2 => ?_)
          · exact ih (by omega) kin _ _ (by omega) (by omega) (skip (by omega))
          · refine ix ?_
            refine ix ?_
            refine t_join_now S1 ?_
            refine ih (by omega) _ _ _ (by omega) (by omega) ?_
            rw [hstep, ← e5]
            obtain ⟨g1, g2⟩ := f3' (by omega)
            exact kin_step S1.2 hK ⟨k0, by omega⟩ (by omega) ⟨g1, by rw [e5]; exact g2⟩
      refine ix ?_
      refine ix ?_
      rw [e2, e3]
      refine c1 (fun q2 => ?_) (fun q2 => ?_)
      · refine go (-1) (by omega) (fun u => ?_)
        unfold SFv
        rw [if_pos (Or.inr (by omega))]
      · refine ix ?_
        refine ix ?_
        have e6 := hT (BA (SO k)) (a1 k) (by omega) (by omega) hnk.1 (by omega)
        have e7 := hr (BA (SO k) * 26 + a1 k)
        refine go _ e7 (fun u => ?_)
        rw [e6]
        unfold SFv
        rw [if_neg (by omega)]
  have l1 : ∀ k : Int, ∀ (kin : Int → Int64) (j2 j3 : AV), 0 ≤ k → k ≤ nd → (∀ q, 0 ≤ q → q < k → kin q = shlL 1 q) → WPm ro (d + 1) (RNd ro (d + 1)) 7 0 0 Q 2 [vR 35, vI k, j2, j3] [] ((heapC tb tz tk tks tc tt iu nm ou so pl nd pa ba de en sc rsz fp ss cu os a1 a2 a3 kin a5 b1 b2 b3 b4 b5 le fi xi0 xf0 xz0 xl0 xi1 xf1 xz1 xl1 xi2 xf2 xz2 xl2 xi3 xf3 xz3 xl3), hB) 0 0 := by
    refine loopUp nd fun k ih kin j2 j3 k0 k1 hk => ?_
    refine WP_first [2, 30] 60 ?_
    refine c2 (fun q => ?_) (fun q => ?_)
    · refine l2 0 kin _ _ (by omega) (by omega) (fun j i j0 j1 i0 i1 => ?_)
      rw [hk j j0 (by omega), B_shl1 j0 (by omega) i0]
      have u1 := S3 j j0 j1
      show decide (i = j) = true ↔ i < nd ∧ (i = j ∨ (IU j = 0 ∧ IU i = 0 ∧ (if IU i = 1 then -1 else i) = (if IU j = 1 then -1 else j)))
      rw [decide_eq_true_iff]
      constructor
      · intro z
        exact ⟨by omega, Or.inl z⟩
      · rintro ⟨x1, x2 | ⟨x2, x3, x4⟩⟩
        · exact x2
        · rw [if_neg (by omega), if_neg (by omega)] at x4
          exact x4
    · refine ix ?_
      refine ih (by omega) _ _ _ (by omega) (by omega) (fun q a b => ?_)
      by_cases e : q = k
      · rw [e, upZ_s]
        rfl
      · rw [upZ_n e]; exact hk q a (by omega)
  exact WP_run [2] 20 (l1 0 a4 _ _ (by omega) (by omega) (fun q a b => by omega))
set_option maxRecDepth 100000 in
set_option maxHeartbeats 4000000 in
theorem t_join_then {all : Int64} (hn : 0 ≤ nd ∧ nd ≤ 60) (hQ : Q none ((heapC tb tz tk tks tc tt iu nm ou so pl nd pa ba de en sc rsz fp ss cu os a1 a2 a3 a4 a5 b1 b2 b3 (fb b4 (fun j => if B all j = true then all else b4 j) 0 nd) b5 le fi xi0 xf0 xz0 xl0 xi1 xf1 xz1 xl1 xi2 xf2 xz2 xl2 xi3 xf3 xz3 xl3), hB)) : RNd ro (d + 1) 8 [vR 42, vL all] ((heapC tb tz tk tks tc tt iu nm ou so pl nd pa ba de en sc rsz fp ss cu os a1 a2 a3 a4 a5 b1 b2 b3 b4 b5 le fi xi0 xf0 xz0 xl0 xi1 xf1 xz1 xl1 xi2 xf2 xz2 xl2 xi3 xf3 xz3 xl3), hB) Q := by
  have main : ∀ k : Int, ∀ f : Int → Int64, 0 ≤ k → k ≤ nd → (∀ q, k ≤ q → f q = b4 q) → Q none ((heapC tb tz tk tks tc tt iu nm ou so pl nd pa ba de en sc rsz fp ss cu os a1 a2 a3 a4 a5 b1 b2 b3 (fb f (fun j => if B all j = true then all else b4 j) k nd) b5 le fi xi0 xf0 xz0 xl0 xi1 xf1 xz1 xl1 xi2 xf2 xz2 xl2 xi3 xf3 xz3 xl3), hB) → WPm ro d (RNd ro d) 8 0 0 Q 2 [vR 42, vL all, vN, vI k] [] ((heapC tb tz tk tks tc tt iu nm ou so pl nd pa ba de en sc rsz fp ss cu os a1 a2 a3 a4 a5 b1 b2 b3 f b5 le fi xi0 xf0 xz0 xl0 xi1 xf1 xz1 xl1 xi2 xf2 xz2 xl2 xi3 xf3 xz3 xl3), hB) 0 0 := by
    refine loopUp nd fun k ih f k0 k1 hf hq => ?_
    refine WP_first [2] 60 ?_
    refine c2 (fun q => ?_) (fun q => ?_)
    · rw [fb_end q] at hq
      exact hq
    · have hb := lc_bit (x := all) (k := k) k0 (by omega)
      refine cl (fun q2 => ?_) (fun q2 => ?_)
      · have e := hb.mp q2
        rw [← fb_same (by omega) (by show f k = if B all k = true then all else b4 k; rw [if_neg (by rw [e]; decide)]; exact hf k (by omega))] at hq
        exact ih (by omega) f (by omega) (by omega) (fun q a => hf q (by omega)) hq
      · refine ix ?_
        have e : B all k = true := by
          cases h : B all k
          · exact absurd (hb.mpr h) q2
          · rfl
        rw [← fb_st (by omega)] at hq
        rw [if_pos e] at hq
        exact ih (by omega) _ (by omega) (by omega) (fun q a => by rw [upZ_n (by omega)]; exact hf q (by omega)) hq
  exact WP_run [2] 20 (main 0 b4 (by omega) (by omega) (fun q _ => rfl) hQ)
set_option maxRecDepth 100000 in
set_option maxHeartbeats 4000000 in
theorem t_joinFamilies_then {T : Int → Int → Int} (hS : TS nd sc IU SO PA BA) (hA : TAg nd sc iu so pa ba IU SO PA BA) (hn : rI b1 0 25) (hr : rI b5 (-1) 59) (hT : ∀ s w, 0 ≤ s → s < sc → 0 ≤ w → w < 26 → b5 (s * 26 + w) = T s w) (hSF : SFok nd IU (SFv IU SO BA b1 T))
    (hQ : ∀ kin, KinOK nd IU (famN IU (SFv IU SO BA b1 T) nd.toNat) kin → Q none ((heapC tb tz tk tks tc tt iu nm ou so pl nd pa ba de en sc rsz fp ss cu os a1 a2 a3 a4 a5 b1 b2 b3 kin b5 le fi xi0 xf0 xz0 xl0 xi1 xf1 xz1 xl1 xi2 xf2 xz2 xl2 xi3 xf3 xz3 xl3), hB)) : RNd ro (d + 2) 7 [vR 42] ((heapC tb tz tk tks tc tt iu nm ou so pl nd pa ba de en sc rsz fp ss cu os a1 a2 a3 a4 a5 b1 b2 b3 b4 b5 le fi xi0 xf0 xz0 xl0 xi1 xf1 xz1 xl1 xi2 xf2 xz2 xl2 xi3 xf3 xz3 xl3), hB) Q := by
  obtain ⟨S1, S2, S3, S4⟩ := id hS
  have l2 : ∀ k : Int, ∀ (kin : Int → Int64) (j2 j3 : AV), 0 ≤ k → k ≤ nd → KinOK nd IU (famN IU (SFv IU SO BA b1 T) k.toNat) kin → WPm ro (d + 1) (RNd ro (d + 1)) 7 0 0 Q 30 [vR 42, vI k, j2, j3] [] ((heapC tb tz tk tks tc tt iu nm ou so pl nd pa ba de en sc rsz fp ss cu os a1 a2 a3 a4 a5 b1 b2 b3 kin b5 le fi xi0 xf0 xz0 xl0 xi1 xf1 xz1 xl1 xi2 xf2 xz2 xl2 xi3 xf3 xz3 xl3), hB) 0 0 := by
    refine loopUp nd fun k ih kin j2 j3 k0 k1 hK => ?_
    refine WP_first [30, 83] 60 ?_
    refine c2 (fun q => ?_) (fun q => ?_)
    · have e : k = nd := by omega
      rw [e] at hK
      exact hQ kin hK
    · obtain ⟨e1, e2⟩ := hA.1 k k0 (by omega)
      obtain ⟨S31, S32⟩ := S3 k k0 (by omega)
      have e3 := (hA.2 (SO k) S32.1 S32.2).2
      have e4 := (S4 (SO k) S32.1 S32.2).2
      have hnk := hn k
      obtain ⟨f1', f2', f3'⟩ := hSF k k0 (by omega)
      have hstep : famN IU (SFv IU SO BA b1 T) (k + 1).toNat = famS (famN IU (SFv IU SO BA b1 T) k.toNat) (SFv IU SO BA b1 T k) k := by
        rw [show (k + 1).toNat = k.toNat + 1 by omega]
        show famS _ (SFv IU SO BA b1 T ((k.toNat : Nat) : Int)) ((k.toNat : Nat) : Int) = _
        rw [show ((k.toNat : Nat) : Int) = k by omega]
      have skip : SFv IU SO BA b1 T k = -1 → KinOK nd IU (famN IU (SFv IU SO BA b1 T) (k + 1).toNat) kin := by
        intro e
        rw [hstep]
        unfold famS
        rw [if_pos (Or.inl e)]
        exact hK
      have go : ∀ ot : Int, (-1 ≤ ot ∧ ot ≤ 59) → (IU k = 0 → ot = SFv IU SO BA b1 T k) → WPm ro (d + 1) (RNd ro (d + 1)) 7 0 0 Q 83 [vR 42, vI k, vI (BA (SO k)), j3] [vI ot] ((heapC tb tz tk tks tc tt iu nm ou so pl nd pa ba de en sc rsz fp ss cu os a1 a2 a3 a4 a5 b1 b2 b3 kin b5 le fi xi0 xf0 xz0 xl0 xi1 xf1 xz1 xl1 xi2 xf2 xz2 xl2 xi3 xf3 xz3 xl3), hB) 0 0 := by
        intro ot hot heq
        refine WP_first [30] 60 ?_
        refine ix ?_
        refine c1 (fun p1 => ?_) (fun p1 => ?_)
        · refine ih (by omega) kin _ _ (by omega) (by omega) (skip ?_)
          unfold SFv
          rw [if_pos (Or.inl (by omega))]
        · have e5 := heq (by omega)
          refine c2 (fun p2 => ?_) (fun p2 => ?_)
          · exact ih (by omega) kin _ _ (by omega) (by omega) (skip (by omega))
          · refine ix ?_
            refine ix ?_
            refine t_join_then S1 ?_
            refine ih (by omega) _ _ _ (by omega) (by omega) ?_
            rw [hstep, ← e5]
            obtain ⟨g1, g2⟩ := f3' (by omega)
            exact kin_step S1.2 hK ⟨k0, by omega⟩ (by omega) ⟨g1, by rw [e5]; exact g2⟩
      refine ix ?_
      refine ix ?_
      rw [e2, e3]
      refine c1 (fun q2 => ?_) (fun q2 => ?_)
      · refine go (-1) (by omega) (fun u => ?_)
        unfold SFv
        rw [if_pos (Or.inr (by omega))]
      · refine ix ?_
        refine ix ?_
        have e6 := hT (BA (SO k)) (b1 k) (by omega) (by omega) hnk.1 (by omega)
        have e7 := hr (BA (SO k) * 26 + b1 k)
        refine go _ e7 (fun u => ?_)
        rw [e6]
        unfold SFv
        rw [if_neg (by omega)]
  have l1 : ∀ k : Int, ∀ (kin : Int → Int64) (j2 j3 : AV), 0 ≤ k → k ≤ nd → (∀ q, 0 ≤ q → q < k → kin q = shlL 1 q) → WPm ro (d + 1) (RNd ro (d + 1)) 7 0 0 Q 2 [vR 42, vI k, j2, j3] [] ((heapC tb tz tk tks tc tt iu nm ou so pl nd pa ba de en sc rsz fp ss cu os a1 a2 a3 a4 a5 b1 b2 b3 kin b5 le fi xi0 xf0 xz0 xl0 xi1 xf1 xz1 xl1 xi2 xf2 xz2 xl2 xi3 xf3 xz3 xl3), hB) 0 0 := by
    refine loopUp nd fun k ih kin j2 j3 k0 k1 hk => ?_
    refine WP_first [2, 30] 60 ?_
    refine c2 (fun q => ?_) (fun q => ?_)
    · refine l2 0 kin _ _ (by omega) (by omega) (fun j i j0 j1 i0 i1 => ?_)
      rw [hk j j0 (by omega), B_shl1 j0 (by omega) i0]
      have u1 := S3 j j0 j1
      show decide (i = j) = true ↔ i < nd ∧ (i = j ∨ (IU j = 0 ∧ IU i = 0 ∧ (if IU i = 1 then -1 else i) = (if IU j = 1 then -1 else j)))
      rw [decide_eq_true_iff]
      constructor
      · intro z
        exact ⟨by omega, Or.inl z⟩
      · rintro ⟨x1, x2 | ⟨x2, x3, x4⟩⟩
        · exact x2
        · rw [if_neg (by omega), if_neg (by omega)] at x4
          exact x4
    · refine ix ?_
      refine ih (by omega) _ _ _ (by omega) (by omega) (fun q a b => ?_)
      by_cases e : q = k
      · rw [e, upZ_s]
        rfl
      · rw [upZ_n e]; exact hk q a (by omega)
  exact WP_run [2] 20 (l1 0 b4 _ _ (by omega) (by omega) (fun q a b => by omega))
end KIN
