/-! ===== names, scopes: what is declared, own, bound ===== -/
def TS (nd sc : Int) (IU SO PA BA : Int → Int) : Prop := (0 ≤ nd ∧ nd ≤ 60) ∧ (1 ≤ sc ∧ sc ≤ 10) ∧ (∀ k, 0 ≤ k → k < nd → (0 ≤ IU k ∧ IU k ≤ 1) ∧ 0 ≤ SO k ∧ SO k < sc) ∧ (∀ s, 0 ≤ s → s < sc → (-1 ≤ PA s ∧ PA s < s) ∧ (-1 ≤ BA s ∧ BA s < s))
def TAg (nd sc : Int) (iu so pa ba IU SO PA BA : Int → Int) : Prop := (∀ k, 0 ≤ k → k < nd → iu k = IU k ∧ so k = SO k) ∧ (∀ s, 0 ≤ s → s < sc → pa s = PA s ∧ ba s = BA s)
def lkp (nx : Int → Int) (T : Int → Int → Int) (w : Int) : Nat → Int → Int
  | 0, _ => -1
  | f + 1, s => if s < 0 then -1 else if T s w = -1 then lkp nx T w f (nx s) else T s w
theorem lkp_neg {nx : Int → Int} {T : Int → Int → Int} {w s : Int} (h : s < 0) : ∀ f : Nat, lkp nx T w f s = -1
  | 0 => rfl
  | f + 1 => by rw [lkp, if_pos h]
theorem lkp_s {nx : Int → Int} {T : Int → Int → Int} {w m : Int} (hnx : ∀ s, 0 ≤ s → s < m → nx s < s) : ∀ (f : Nat) (s : Int), s < f → s < m → lkp nx T w (f + 1) s = lkp nx T w f s
  | 0, s, h1, h2 => by rw [lkp_neg (by omega), lkp_neg (by omega)]
  | f + 1, s, h1, h2 => by
    by_cases h0 : s < 0
    · rw [lkp_neg h0, lkp_neg h0]
    · have h3 := hnx s (by omega) h2
      show (if s < 0 then -1 else if T s w = -1 then lkp nx T w (f + 1) (nx s) else T s w) = (if s < 0 then -1 else if T s w = -1 then lkp nx T w f (nx s) else T s w)
      rw [lkp_s hnx f (nx s) (by omega) (by omega)]
theorem lkp_10 {nx : Int → Int} {T : Int → Int → Int} {w m s : Int} (hnx : ∀ s, 0 ≤ s → s < m → nx s < s) (hm : m ≤ 10) (h0 : 0 ≤ s) (h1 : s < m) : lkp nx T w 10 s = if T s w = -1 then lkp nx T w 10 (nx s) else T s w := by
  have h3 := hnx s h0 h1
  show (if s < 0 then -1 else if T s w = -1 then lkp nx T w 9 (nx s) else T s w) = _
  rw [if_neg (by omega), ← lkp_s hnx 9 (nx s) (by omega) (by omega)]
theorem lkp_ext {nx nx' : Int → Int} {T T' : Int → Int → Int} {w m : Int} (hnx : ∀ s, 0 ≤ s → s < m → nx s = nx' s ∧ nx s < s) (hT : ∀ s, 0 ≤ s → s < m → T s w = T' s w) : ∀ (f : Nat) (s : Int), s < m → lkp nx T w f s = lkp nx' T' w f s
  | 0, s, _ => rfl
  | f + 1, s, h => by
    by_cases h0 : s < 0
    · rw [lkp_neg h0, lkp_neg h0]
    · obtain ⟨e1, e2⟩ := hnx s (by omega) h
      rw [lkp, lkp, if_neg h0, if_neg h0, hT s (by omega) h, e1, lkp_ext hnx hT f (nx' s) (by omega)]
theorem lkp_rg {nx : Int → Int} {T : Int → Int → Int} {w m lo hi : Int} (hlo : lo ≤ -1) (hhi : -1 ≤ hi) (hnx : ∀ s, 0 ≤ s → s < m → nx s < s) (hT : ∀ s, 0 ≤ s → s < m → lo ≤ T s w ∧ T s w ≤ hi) : ∀ (f : Nat) (s : Int), s < m → lo ≤ lkp nx T w f s ∧ lkp nx T w f s ≤ hi
  | 0, s, _ => ⟨hlo, hhi⟩
  | f + 1, s, h => by
    by_cases h0 : s < 0
    · rw [lkp_neg h0]; exact ⟨hlo, hhi⟩
    · rw [lkp, if_neg h0]
      split
      · exact lkp_rg hlo hhi hnx hT f (nx s) (by have := hnx s (by omega) h; omega)
      · exact hT s (by omega) h
def lkN (p : Int → Bool) : Nat → Int → Int
  | 0, _ => -1
  | m + 1, k => if p k = true then k else lkN p m (k + 1)
def mat (IU SO nn : Int → Int) (s w k : Int) : Bool := decide (IU k = 0) && decide (SO k = s) && decide (nn k = w)
theorem mat_iff {IU SO nn : Int → Int} {s w k : Int} : mat IU SO nn s w k = true ↔ IU k = 0 ∧ SO k = s ∧ nn k = w := by
  unfold mat
  simp [and_assoc]
/-- the least declaration from k on of that name in that scope -/
def TBk (nd : Int) (IU SO nn : Int → Int) (k s w : Int) : Int := lkN (mat IU SO nn s w) (nd - k).toNat k
def TBd (nd : Int) (IU SO nn : Int → Int) (s w : Int) : Int := TBk nd IU SO nn 0 s w
theorem TBk_end {nd : Int} {IU SO nn : Int → Int} {k s w : Int} (h : nd ≤ k) : TBk nd IU SO nn k s w = -1 := by
  unfold TBk
  rw [show (nd - k).toNat = 0 by omega]
  rfl
theorem TBk_st {nd : Int} {IU SO nn : Int → Int} {k s w : Int} (h : k < nd) : TBk nd IU SO nn k s w = if mat IU SO nn s w k = true then k else TBk nd IU SO nn (k + 1) s w := by
  unfold TBk
  rw [show (nd - k).toNat = (nd - (k + 1)).toNat + 1 by omega]
  rfl
theorem TBk_in (nd : Int) (IU SO nn : Int → Int) (s w : Int) : ∀ k : Int, TBk nd IU SO nn k s w = -1 ∧ (∀ j, k ≤ j → j < nd → mat IU SO nn s w j = false) ∨ (k ≤ TBk nd IU SO nn k s w ∧ TBk nd IU SO nn k s w < nd ∧ mat IU SO nn s w (TBk nd IU SO nn k s w) = true ∧ ∀ j, k ≤ j → j < TBk nd IU SO nn k s w → mat IU SO nn s w j = false) := by
  refine loopUp nd fun k ih => ?_
  by_cases h : k < nd
  · rw [TBk_st h]
    by_cases hm : mat IU SO nn s w k = true
    · rw [if_pos hm]
      exact Or.inr ⟨Int.le_refl _, h, hm, fun j j1 j2 => by omega⟩
    · rw [if_neg hm]
      have hm2 : mat IU SO nn s w k = false := by simpa using hm
      rcases ih h with ⟨a1, a2⟩ | ⟨a1, a2, a3, a4⟩
      · refine Or.inl ⟨a1, fun j j1 j2 => ?_⟩
        by_cases e : j = k
        · rw [e]; exact hm2
        · exact a2 j (by omega) j2
      · refine Or.inr ⟨by omega, a2, a3, fun j j1 j2 => ?_⟩
        by_cases e : j = k
        · rw [e]; exact hm2
        · exact a4 j (by omega) j2
  · rw [TBk_end (by omega)]
    exact Or.inl ⟨rfl, fun j j1 j2 => by omega⟩
theorem TBk_rg {nd : Int} {IU SO nn : Int → Int} {k s w : Int} (hk : 0 ≤ k) (hn : nd ≤ 60) : -1 ≤ TBk nd IU SO nn k s w ∧ TBk nd IU SO nn k s w ≤ 59 := by
  rcases TBk_in nd IU SO nn s w k with ⟨a1, -⟩ | ⟨a1, a2, -⟩
  · rw [a1]; omega
  · omega
theorem TBk_ext {nd : Int} {IU SO nn nn' : Int → Int} {s w : Int} (h : ∀ k, 0 ≤ k → k < nd → nn k = nn' k) : ∀ k, 0 ≤ k → TBk nd IU SO nn k s w = TBk nd IU SO nn' k s w := by
  refine loopUp nd fun k ih k0 => ?_
  by_cases hk : k < nd
  · rw [TBk_st hk, TBk_st hk, ih hk (by omega)]
    unfold mat
    rw [h k k0 hk]
  · rw [TBk_end (by omega), TBk_end (by omega)]
/-- own of a scope and a name -/
def OW (nd : Int) (IU SO BA nn : Int → Int) (s w : Int) : Int := lkp BA (TBd nd IU SO nn) w 10 s
/-- what a use is bound to -/
def BN (nd : Int) (IU SO PA BA nn : Int → Int) (s : Int) (out : Int) (w : Int) : Int := lkp PA (OW nd IU SO BA nn) w 10 (goOut PA out.toNat s)
theorem OW_rg {nd sc : Int} {IU SO PA BA nn : Int → Int} {s w : Int} (h : TS nd sc IU SO PA BA) (hs : s < sc) : -1 ≤ OW nd IU SO BA nn s w ∧ OW nd IU SO BA nn s w ≤ 59 :=
  lkp_rg (m := sc) (by omega) (by omega) (fun s s0 s1 => (h.2.2.2 s s0 s1).2.2) (fun s _ _ => TBk_rg (by omega) h.1.2) 10 s hs
theorem OW_10 {nd sc : Int} {IU SO PA BA nn : Int → Int} {s w : Int} (h : TS nd sc IU SO PA BA) (hs : 0 ≤ s) (hs1 : s < sc) : OW nd IU SO BA nn s w = if TBd nd IU SO nn s w = -1 then OW nd IU SO BA nn (BA s) w else TBd nd IU SO nn s w :=
  lkp_10 (m := sc) (fun s s0 s1 => (h.2.2.2 s s0 s1).2.2) h.2.1.2 hs hs1
theorem goOut_lt {PA : Int → Int} {sc : Int} (h : ∀ s, 0 ≤ s → s < sc → PA s < s) : ∀ (n : Nat) (s : Int), s < sc → goOut PA n s < sc
  | 0, s, hs => hs
  | n + 1, s, hs => by
    rw [goOut]
    split
    · exact hs
    · exact goOut_lt h n (PA s) (by have := h s (by omega) hs; omega)
/-- no two declarations of one name in a scope, from k on -/
def OnceK (nd : Int) (IU SO nn : Int → Int) (k : Int) : Prop := ∀ i j, k ≤ i → i < j → j < nd → IU i = 0 → IU j = 0 → SO i = SO j → nn i = nn j → False
theorem OnceK_st {nd : Int} {IU SO nn : Int → Int} {k : Int} (hk0 : 0 ≤ k) : OnceK nd IU SO nn k ↔ OnceK nd IU SO nn (k + 1) ∧ (IU k = 0 → TBk nd IU SO nn (k + 1) (SO k) (nn k) = -1) := by
  constructor
  · intro h
    refine ⟨fun i j i1 => h i j (by omega), fun hk => ?_⟩
    rcases TBk_in nd IU SO nn (SO k) (nn k) (k + 1) with ⟨a1, -⟩ | ⟨a1, a2, a3, -⟩
    · exact a1
    · obtain ⟨m1, m2, m3⟩ := mat_iff.mp a3
      exact (h k _ (Int.le_refl _) (by omega) a2 hk m1 m2.symm m3.symm).elim
  · intro ⟨h1, h2⟩ i j i1 i2 i3 u1 u2 s1 n1
    by_cases e : i = k
    · subst e
      rcases TBk_in nd IU SO nn (SO i) (nn i) (i + 1) with ⟨a1, a2⟩ | ⟨a1, a2, a3, -⟩
      · have := a2 j (by omega) i3
        rw [mat_iff.mpr ⟨u2, s1.symm, n1.symm⟩] at this
        cases this
      · have := h2 u1
        omega
    · exact h1 i j (by omega) i2 i3 u1 u2 s1 n1
def Once (nd : Int) (IU SO nn : Int → Int) : Prop := OnceK nd IU SO nn 0
/-- a row overwritten from i to n -/
def fb {α : Type} (f g : Int → α) (i n : Int) : Int → α := fun q => if i ≤ q ∧ q < n then g q else f q
theorem fb_end {α : Type} {f g : Int → α} {i n : Int} (h : n ≤ i) : fb f g i n = f := by
  funext q
  unfold fb
  rw [if_neg (by omega)]
theorem fb_st {α : Type} {f g : Int → α} {i n : Int} (h : i < n) : fb (upZ f i (g i)) g (i + 1) n = fb f g i n := by
  funext q
  unfold fb upZ
  by_cases h1 : i + 1 ≤ q ∧ q < n
  · rw [if_pos h1, if_pos (by omega)]
  · rw [if_neg h1]
    by_cases h2 : q = i
    · rw [if_pos h2, if_pos (by omega), h2]
    · rw [if_neg h2, if_neg (by omega)]
theorem fb_in {α : Type} {f g : Int → α} {i n q : Int} (h1 : i ≤ q) (h2 : q < n) : fb f g i n q = g q := if_pos ⟨h1, h2⟩
theorem rI_fb {f g : Int → Int} {lo hi i n : Int} (hf : rI f lo hi) (hg : ∀ q, i ≤ q → q < n → lo ≤ g q ∧ g q ≤ hi) : rI (fb f g i n) lo hi := by
  intro q
  unfold fb
  split
  · rename_i h
    exact hg q h.1 h.2
  · exact hf q
