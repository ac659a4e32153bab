/-! ===== the text written anew, as a function ===== -/
def wrS (tx nn oo : Int → Int) (k : Int) (s : (Int → Int) × Int × Int) : (Int → Int) × Int × Int :=
  if 97 ≤ tx k ∧ tx k ≤ 122 then (upZ (fz s.1 s.2.1 (s.2.1 + oo s.2.2) 94) (s.2.1 + oo s.2.2) (97 + nn s.2.2), s.2.1 + oo s.2.2 + 1, s.2.2 + 1)
  else if tx k = 94 then s else (upZ s.1 s.2.1 (tx k), s.2.1 + 1, s.2.2)
def wrN (tx nn oo f0 : Int → Int) : Nat → (Int → Int) × Int × Int
  | 0 => (f0, 0, 0)
  | k + 1 => wrS tx nn oo (k : Int) (wrN tx nn oo f0 k)
section WR
variable {tx nn oo f0 : Int → Int}
set_option maxRecDepth 100000 in
set_option maxHeartbeats 4000000 in
theorem wr_st {k : Int} (h : 0 ≤ k) : wrN tx nn oo f0 (k + 1).toNat = wrS tx nn oo k (wrN tx nn oo f0 k.toNat) := by
  have e : (k + 1).toNat = k.toNat + 1 := by omega
  have e2 : ((k.toNat : Nat) : Int) = k := by omega
  rw [e]
  show wrS tx nn oo ((k.toNat : Nat) : Int) (wrN tx nn oo f0 k.toNat) = _
  rw [e2]
set_option maxRecDepth 100000 in
set_option maxHeartbeats 4000000 in
theorem wr_y {k : Int} (h : 0 ≤ k) (hl : 97 ≤ tx k ∧ tx k ≤ 122) : wrN tx nn oo f0 (k + 1).toNat = (upZ (fz (wrN tx nn oo f0 k.toNat).1 (wrN tx nn oo f0 k.toNat).2.1 ((wrN tx nn oo f0 k.toNat).2.1 + oo (wrN tx nn oo f0 k.toNat).2.2) 94) ((wrN tx nn oo f0 k.toNat).2.1 + oo (wrN tx nn oo f0 k.toNat).2.2) (97 + nn (wrN tx nn oo f0 k.toNat).2.2), (wrN tx nn oo f0 k.toNat).2.1 + oo (wrN tx nn oo f0 k.toNat).2.2 + 1, (wrN tx nn oo f0 k.toNat).2.2 + 1) := by
  rw [wr_st h, wrS, if_pos hl]
set_option maxRecDepth 100000 in
set_option maxHeartbeats 4000000 in
theorem wr_c {k : Int} (h : 0 ≤ k) (hc : tx k = 94) : wrN tx nn oo f0 (k + 1).toNat = wrN tx nn oo f0 k.toNat := by
  rw [wr_st h, wrS, if_neg (by omega), if_pos hc]
set_option maxRecDepth 100000 in
set_option maxHeartbeats 4000000 in
theorem wr_o {k : Int} (h : 0 ≤ k) (hl : ¬ (97 ≤ tx k ∧ tx k ≤ 122)) (hc : ¬ tx k = 94) : wrN tx nn oo f0 (k + 1).toNat = (upZ (wrN tx nn oo f0 k.toNat).1 (wrN tx nn oo f0 k.toNat).2.1 (tx k), (wrN tx nn oo f0 k.toNat).2.1 + 1, (wrN tx nn oo f0 k.toNat).2.2) := by
  rw [wr_st h, wrS, if_neg hl, if_neg hc]
/-- what is known of a text that is read to its end, of the bytes from i on -/
def WQ (tx nn oo f0 : Int → Int) (n i nd : Int) (pl : Int → Int) (R : PR) : Prop :=
  nd ≤ R.2.1 ∧ (∀ j, 0 ≤ j → j < nd → R.2.2.2.2.2.2.2.1 j = pl j) ∧ (∀ c, nd ≤ c → c < R.2.1 → i ≤ R.2.2.2.2.2.2.2.1 c) ∧
  (∀ q, i ≤ q → q < n → ((97 ≤ tx q ∧ tx q ≤ 122) ↔ ((wrN tx nn oo f0 q.toNat).2.2 < R.2.1 ∧ R.2.2.2.2.2.2.2.1 (wrN tx nn oo f0 q.toNat).2.2 = q))) ∧
  (wrN tx nn oo f0 n.toNat).2.1 = n + sumF (fun k => oo k - R.2.2.2.2.2.2.1 k) R.2.1.toNat ∧ (wrN tx nn oo f0 n.toNat).2.2 = R.2.1
set_option maxRecDepth 100000 in
set_option maxHeartbeats 4000000 in
theorem WQ_no {n i nd : Int} {pl : Int → Int} {R : PR} (h : WQ tx nn oo f0 n (i + 1) nd pl R) (hl : ¬ (97 ≤ tx i ∧ tx i ≤ 122)) (hj : (wrN tx nn oo f0 i.toNat).2.2 = nd) : WQ tx nn oo f0 n i nd pl R := by
  obtain ⟨h1, h2, h3, h4, h5⟩ := h
  refine ⟨h1, h2, fun c a b => ?_, fun q a b => ?_, h5⟩
  · have := h3 c a b
    omega
  · by_cases e : q = i
    · subst e
      rw [hj]
      refine ⟨fun z => absurd z hl, fun z => ?_⟩
      have := h3 nd (by omega) z.1
      omega
    · exact h4 q (by omega) b
set_option maxRecDepth 100000 in
set_option maxHeartbeats 4000000 in
theorem WQ_yes {n i nd : Int} {pl : Int → Int} {R : PR} (h0 : 0 ≤ nd) (h : WQ tx nn oo f0 n (i + 1) (nd + 1) (upZ pl nd i) R) (hl : 97 ≤ tx i ∧ tx i ≤ 122) (hj : (wrN tx nn oo f0 i.toNat).2.2 = nd) : WQ tx nn oo f0 n i nd pl R := by
  obtain ⟨h1, h2, h3, h4, h5⟩ := h
  have e2 : R.2.2.2.2.2.2.2.1 nd = i := by rw [h2 nd h0 (by omega), upZ_s]
  refine ⟨by omega, fun j a b => ?_, fun c a b => ?_, fun q a b => ?_, h5⟩
  · rw [h2 j a (by omega), upZ_n (by omega)]
  · by_cases e : c = nd
    · rw [e, e2]
      omega
    · have := h3 c (by omega) b
      omega
  · by_cases e : q = i
    · subst e
      rw [hj]
      exact ⟨fun _ => ⟨by omega, e2⟩, fun _ => hl⟩
    · exact h4 q (by omega) b
set_option maxRecDepth 100000 in
set_option maxHeartbeats 4000000 in
theorem wr_parse {n : Int} : ∀ (f : Nat) (i he at_ out nd sc : Int) (iu nm so ou pl ar ex en : Int → Int), i + f = n → 0 ≤ i → 0 ≤ nd → (he ≠ 2 → out = 0) → (wrN tx nn oo f0 i.toNat).2.2 = nd → (wrN tx nn oo f0 i.toNat).2.1 = i + sumF (fun k => oo k - ou k) nd.toNat - out →
    (parse tx n mkPR f i he at_ out nd sc iu nm so ou pl ar ex en).1 = -1 → WQ tx nn oo f0 n i nd pl (parse tx n mkPR f i he at_ out nd sc iu nm so ou pl ar ex en) := by
  intro f
  induction f with
  | zero =>
    intro i he at_ out nd sc iu nm so ou pl ar ex en hf hi h0 ho hj hz h
    have h' : (if at_ ≠ 0 ∨ he = 1 ∨ he = 2 then n else -1) = -1 := h
    have e : i = n := by omega
    have hc : ¬ (at_ ≠ 0 ∨ he = 1 ∨ he = 2) := by
      intro z
      rw [if_pos z] at h'
      omega
    have eo := ho (by omega)
    refine ⟨Int.le_refl _, fun j a b => rfl, fun c a b => absurd b (Int.not_lt.mpr a), fun q a b => by omega, ?_, by rw [← e]; exact hj⟩
    show (wrN tx nn oo f0 n.toNat).2.1 = n + sumF (fun k => oo k - ou k) nd.toNat
    rw [← e, hz, eo]
    omega
  | succ f ih =>
    intro i he at_ out nd sc iu nm so ou pl ar ex en hf hi h0 ho hj hz h
    have unf : parse tx n mkPR (f + 1) i he at_ out nd sc iu nm so ou pl ar ex en = pstep (tx i) i he at_ out nd sc iu nm so ou pl ar ex en (mkPR i nd sc iu nm so ou pl ar ex en) (fun he at_ out nd sc iu nm so ou pl ar ex en => parse tx n mkPR f (i + 1) he at_ out nd sc iu nm so ou pl ar ex en) := rfl
    rw [unf] at h ⊢
    have oth : ¬ (97 ≤ tx i ∧ tx i ≤ 122) → ¬ tx i = 94 → (wrN tx nn oo f0 (i + 1).toNat).2.2 = nd ∧ (wrN tx nn oo f0 (i + 1).toNat).2.1 = i + 1 + sumF (fun k => oo k - ou k) nd.toNat - out := by
      intro a b
      rw [wr_o hi a b]
      refine ⟨hj, ?_⟩
      show (wrN tx nn oo f0 i.toNat).2.1 + 1 = _
      omega
    by_cases hL : (97 ≤ tx i ∧ tx i ≤ 122) ∧ he ≠ 4
    · by_cases hf2 : nd = 60 ∨ (he = 1 ∧ twB iu so nm at_ (tx i - 97) nd.toNat = true)
      · rw [e_LF hL.1 hL.2 hf2] at h
        have : i = -1 := h
        omega
      · rw [e_L hL.1 hL.2 hf2] at h ⊢
        have w := wr_y (nn := nn) (oo := oo) (f0 := f0) hi hL.1
        refine WQ_yes h0 (ih _ _ _ _ _ _ _ _ _ _ _ _ _ _ (by omega) (by omega) (by omega) (fun _ => rfl) ?_ ?_ h) hL.1 hj
        · rw [w]
          show (wrN tx nn oo f0 i.toNat).2.2 + 1 = _
          omega
        · rw [w]
          show (wrN tx nn oo f0 i.toNat).2.1 + oo (wrN tx nn oo f0 i.toNat).2.2 + 1 = _
          rw [sumF_st h0, upZ_s, sumF_ext (f := fun k => oo k - upZ ou nd out k) (g := fun k => oo k - ou k) nd.toNat (fun k a b => by rw [upZ_n (by omega)]), hj, hz]
          omega
    · by_cases h43 : tx i = 43 ∧ (he = 0 ∨ he = 3)
      · rw [e_43 h43] at h ⊢
        obtain ⟨o1, o2⟩ := oth (by omega) (by omega)
        exact WQ_no (ih _ _ _ _ _ _ _ _ _ _ _ _ _ _ (by omega) (by omega) h0 (fun _ => ho (by omega)) o1 o2 h) (by omega) hj
      · by_cases h94 : tx i = 94 ∧ ((he = 0 ∨ he = 3) ∨ he = 2) ∧ out < 3
        · rw [e_94 h94] at h ⊢
          have w := wr_c (nn := nn) (oo := oo) (f0 := f0) hi h94.1
          exact WQ_no (ih _ _ _ _ _ _ _ _ _ _ _ _ _ _ (by omega) (by omega) h0 (fun z => absurd rfl z) (by rw [w]; exact hj) (by rw [w]; omega) h) (by omega) hj
        · by_cases h123 : tx i = 123 ∧ (he = 0 ∨ he = 3) ∧ sc < 10
          · rw [e_123 h123] at h ⊢
            obtain ⟨o1, o2⟩ := oth (by omega) (by omega)
            exact WQ_no (ih _ _ _ _ _ _ _ _ _ _ _ _ _ _ (by omega) (by omega) h0 (fun _ => ho (by omega)) o1 o2 h) (by omega) hj
          · by_cases h125 : tx i = 125 ∧ (he = 0 ∨ he = 3) ∧ at_ ≠ 0
            · rw [e_125 h125] at h ⊢
              obtain ⟨o1, o2⟩ := oth (by omega) (by omega)
              exact WQ_no (ih _ _ _ _ _ _ _ _ _ _ _ _ _ _ (by omega) (by omega) h0 (fun _ => ho (by omega)) o1 o2 h) (by omega) hj
            · by_cases h60 : tx i = 60 ∧ he = 3
              · rw [e_60 h60] at h ⊢
                obtain ⟨o1, o2⟩ := oth (by omega) (by omega)
                exact WQ_no (ih _ _ _ _ _ _ _ _ _ _ _ _ _ _ (by omega) (by omega) h0 (fun _ => ho (by omega)) o1 o2 h) (by omega) hj
              · by_cases hfig : he = 4 ∧ (49 ≤ tx i ∧ tx i ≤ 57) ∧ tx i - 48 < at_ ∧ en (tx i - 48) = 1
                · rw [e_fig hfig] at h ⊢
                  obtain ⟨o1, o2⟩ := oth (by omega) (by omega)
                  exact WQ_no (ih _ _ _ _ _ _ _ _ _ _ _ _ _ _ (by omega) (by omega) h0 (fun _ => ho (by omega)) o1 o2 h) (by omega) hj
                · rw [e_F hL h43 h94 h123 h125 h60 hfig] at h
                  have : i = -1 := h
                  omega
set_option maxRecDepth 100000 in
set_option maxHeartbeats 4000000 in
theorem wr_text {n : Int} (hn : 0 ≤ n) (h : cFA tx n = -1) : (∀ q, 0 ≤ q → q < n → ((97 ≤ tx q ∧ tx q ≤ 122) ↔ ((wrN tx nn oo f0 q.toNat).2.2 < cND tx n ∧ cPL tx n (wrN tx nn oo f0 q.toNat).2.2 = q))) ∧ (wrN tx nn oo f0 n.toNat).2.1 = cBy tx n oo ∧ (wrN tx nn oo f0 n.toNat).2.2 = cND tx n := by
  have w := wr_parse (tx := tx) (nn := nn) (oo := oo) (f0 := f0) (n := n) n.toNat 0 0 0 0 0 1 Z0 Z0 Z0 Z0 Z0 (upZ Z0 0 (-1)) (upZ Z0 0 (-1)) (upZ Z0 0 0) (by omega) (by omega) (by omega) (fun _ => rfl) rfl rfl h
  have en : cND tx n = (pr0 tx n).2.1 := by unfold cND; rw [if_pos h]
  obtain ⟨w1, w2, w3, w4, w5⟩ := w
  unfold cBy
  rw [en]
  exact ⟨fun q a b => w4 q a b, w5⟩
set_option maxRecDepth 100000 in
set_option maxHeartbeats 4000000 in
theorem wr_0 (hO : ∀ k, 0 ≤ k → 0 ≤ oo k) : ∀ n : Nat, 0 ≤ (wrN tx nn oo f0 n).2.1 ∧ 0 ≤ (wrN tx nn oo f0 n).2.2 ∧ (wrN tx nn oo f0 n).2.1 ≤ (wrN tx nn oo f0 (n + 1)).2.1
  | 0 => by
    refine ⟨Int.le_refl _, Int.le_refl _, ?_⟩
    show (0 : Int) ≤ (wrS tx nn oo 0 (f0, 0, 0)).2.1
    unfold wrS
    have := hO 0 (by omega)
    split
    · show (0 : Int) ≤ 0 + oo 0 + 1
      omega
    · split
      · exact Int.le_refl _
      · show (0 : Int) ≤ 0 + 1
        omega
  | n + 1 => by
    obtain ⟨i1, i2, i3⟩ := wr_0 hO n
    have j2 : 0 ≤ (wrN tx nn oo f0 (n + 1)).2.2 := by
      show 0 ≤ (wrS tx nn oo (n : Int) (wrN tx nn oo f0 n)).2.2
      unfold wrS
      split
      · show 0 ≤ (wrN tx nn oo f0 n).2.2 + 1
        omega
      · split
        · exact i2
        · exact i2
    refine ⟨by omega, j2, ?_⟩
    show _ ≤ (wrS tx nn oo ((n + 1 : Nat) : Int) (wrN tx nn oo f0 (n + 1))).2.1
    unfold wrS
    have := hO _ j2
    split
    · show _ ≤ (wrN tx nn oo f0 (n + 1)).2.1 + oo (wrN tx nn oo f0 (n + 1)).2.2 + 1
      omega
    · split
      · exact Int.le_refl _
      · show _ ≤ (wrN tx nn oo f0 (n + 1)).2.1 + 1
        omega
set_option maxRecDepth 100000 in
set_option maxHeartbeats 4000000 in
theorem wr_jz (hO : ∀ k, 0 ≤ k → 0 ≤ oo k) : ∀ n : Nat, (wrN tx nn oo f0 n).2.2 ≤ (wrN tx nn oo f0 n).2.1
  | 0 => Int.le_refl _
  | n + 1 => by
    have ih := wr_jz hO n
    have j0 := (wr_0 (tx := tx) (nn := nn) (f0 := f0) hO n).2.1
    have ho := hO _ j0
    show (wrS tx nn oo (n : Int) (wrN tx nn oo f0 n)).2.2 ≤ (wrS tx nn oo (n : Int) (wrN tx nn oo f0 n)).2.1
    unfold wrS
    split
    · show (wrN tx nn oo f0 n).2.2 + 1 ≤ (wrN tx nn oo f0 n).2.1 + oo (wrN tx nn oo f0 n).2.2 + 1
      omega
    · split
      · exact ih
      · show (wrN tx nn oo f0 n).2.2 ≤ (wrN tx nn oo f0 n).2.1 + 1
        omega
set_option maxRecDepth 100000 in
set_option maxHeartbeats 4000000 in
theorem wr_le (hO : ∀ k, 0 ≤ k → 0 ≤ oo k) (m : Nat) : ∀ n : Nat, n ≤ m → (wrN tx nn oo f0 n).2.1 ≤ (wrN tx nn oo f0 m).2.1 := by
  induction m with
  | zero =>
    intro n h
    rw [show n = 0 by omega]
    exact Int.le_refl _
  | succ m ih =>
    intro n h
    by_cases e : n = m + 1
    · rw [e]
      exact Int.le_refl _
    · have := ih n (by omega)
      have := (wr_0 (tx := tx) (nn := nn) (f0 := f0) hO m).2.2
      omega
set_option maxRecDepth 100000 in
set_option maxHeartbeats 4000000 in
theorem wr_two {g0 : Int → Int} (hO : ∀ k, 0 ≤ k → 0 ≤ oo k) : ∀ n : Nat, (wrN tx nn oo g0 n).2 = (wrN tx nn oo f0 n).2 ∧ (∀ q, 0 ≤ q → q < (wrN tx nn oo f0 n).2.1 → (wrN tx nn oo g0 n).1 q = (wrN tx nn oo f0 n).1 q) ∧ (∀ q, ¬ (0 ≤ q ∧ q < (wrN tx nn oo f0 n).2.1) → (wrN tx nn oo f0 n).1 q = f0 q)
  | 0 => ⟨rfl, fun q a b => absurd b (Int.not_lt.mpr a), fun q _ => rfl⟩
  | n + 1 => by
    obtain ⟨i1, i2, i3⟩ := wr_two hO n
    obtain ⟨z0, j0, -⟩ := wr_0 (tx := tx) (nn := nn) (f0 := f0) hO n
    have ho := hO _ j0
    show (wrS tx nn oo (n : Int) (wrN tx nn oo g0 n)).2 = (wrS tx nn oo (n : Int) (wrN tx nn oo f0 n)).2 ∧ (∀ q, 0 ≤ q → q < (wrS tx nn oo (n : Int) (wrN tx nn oo f0 n)).2.1 → (wrS tx nn oo (n : Int) (wrN tx nn oo g0 n)).1 q = (wrS tx nn oo (n : Int) (wrN tx nn oo f0 n)).1 q) ∧ (∀ q, ¬ (0 ≤ q ∧ q < (wrS tx nn oo (n : Int) (wrN tx nn oo f0 n)).2.1) → (wrS tx nn oo (n : Int) (wrN tx nn oo f0 n)).1 q = f0 q)
    unfold wrS
    rw [i1]
    by_cases hl : 97 ≤ tx n ∧ tx n ≤ 122
    · rw [if_pos hl, if_pos hl]
      refine ⟨rfl, fun q a b => ?_, fun q a => ?_⟩
      · have b' : q < (wrN tx nn oo f0 n).2.1 + oo (wrN tx nn oo f0 n).2.2 + 1 := b
        show upZ (fz _ _ _ 94) _ _ q = upZ (fz _ _ _ 94) _ _ q
        by_cases e : q = (wrN tx nn oo f0 n).2.1 + oo (wrN tx nn oo f0 n).2.2
        · rw [e, upZ_s, upZ_s]
        · rw [upZ_n e, upZ_n e]
          unfold fz
          by_cases e2 : (wrN tx nn oo f0 n).2.1 ≤ q ∧ q < (wrN tx nn oo f0 n).2.1 + oo (wrN tx nn oo f0 n).2.2
          · rw [if_pos e2, if_pos e2]
          · rw [if_neg e2, if_neg e2]
            exact i2 q a (by omega)
      · have a' : ¬ (0 ≤ q ∧ q < (wrN tx nn oo f0 n).2.1 + oo (wrN tx nn oo f0 n).2.2 + 1) := a
        show upZ (fz _ _ _ 94) _ _ q = f0 q
        rw [upZ_n (by omega)]
        unfold fz
        rw [if_neg (by omega)]
        exact i3 q (by omega)
    · rw [if_neg hl, if_neg hl]
      by_cases hc : tx n = 94
      · rw [if_pos hc, if_pos hc]
        exact ⟨i1, i2, i3⟩
      · rw [if_neg hc, if_neg hc]
        refine ⟨rfl, fun q a b => ?_, fun q a => ?_⟩
        · have b' : q < (wrN tx nn oo f0 n).2.1 + 1 := b
          show upZ _ _ _ q = upZ _ _ _ q
          by_cases e : q = (wrN tx nn oo f0 n).2.1
          · rw [e, upZ_s, upZ_s]
          · rw [upZ_n e, upZ_n e]
            exact i2 q a (by omega)
        · have a' : ¬ (0 ≤ q ∧ q < (wrN tx nn oo f0 n).2.1 + 1) := a
          show upZ _ _ _ q = f0 q
          rw [upZ_n (by omega)]
          exact i3 q (by omega)
set_option maxRecDepth 100000 in
set_option maxHeartbeats 4000000 in
theorem wr_byte (hO : ∀ k, 0 ≤ k → 0 ≤ oo k) (ht : rI tx 0 255) (hf : rI f0 0 255) (hN : ∀ k, 0 ≤ k → 0 ≤ nn k ∧ nn k ≤ 25) : ∀ n : Nat, rI (wrN tx nn oo f0 n).1 0 255
  | 0 => hf
  | n + 1 => by
    have ih := wr_byte hO ht hf hN n
    obtain ⟨z0, j0, -⟩ := wr_0 (tx := tx) (nn := nn) (f0 := f0) hO n
    have hn := hN _ j0
    have htn := ht n
    show rI (wrS tx nn oo (n : Int) (wrN tx nn oo f0 n)).1 0 255
    unfold wrS
    split
    · refine rI_up (fun q => ?_) (by omega) (by omega)
      unfold fz
      split
      · omega
      · exact ih q
    · split
      · exact ih
      · exact rI_up ih (by omega) (by omega)
end WR
