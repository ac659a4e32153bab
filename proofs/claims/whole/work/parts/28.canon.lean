/-! ===== the text read: what stood in the rows before doesn't matter ===== -/
theorem e_L {α : Type} {b p he at_ out nd sc : Int} {iu nm so ou pl ar ex en : Int → Int} {F : α} {K : Int → Int → Int → Int → Int → (Int → Int) → (Int → Int) → (Int → Int) → (Int → Int) → (Int → Int) → (Int → Int) → (Int → Int) → (Int → Int) → α} (h : 97 ≤ b ∧ b ≤ 122) (h4 : he ≠ 4) (hf : ¬ (nd = 60 ∨ (he = 1 ∧ twB iu so nm at_ (b - 97) nd.toNat = true))) : pstep b p he at_ out nd sc iu nm so ou pl ar ex en F K = K 0 at_ 0 (nd + 1) sc (upZ iu nd (if he = 1 then 0 else 1)) (upZ nm nd (b - 97)) (upZ so nd at_) (upZ ou nd out) (upZ pl nd p) ar ex en := by
  unfold pstep
  rw [if_pos ⟨h, h4⟩, if_neg hf]
theorem e_LF {α : Type} {b p he at_ out nd sc : Int} {iu nm so ou pl ar ex en : Int → Int} {F : α} {K : Int → Int → Int → Int → Int → (Int → Int) → (Int → Int) → (Int → Int) → (Int → Int) → (Int → Int) → (Int → Int) → (Int → Int) → (Int → Int) → α} (h : 97 ≤ b ∧ b ≤ 122) (h4 : he ≠ 4) (hf : (nd = 60 ∨ (he = 1 ∧ twB iu so nm at_ (b - 97) nd.toNat = true))) : pstep b p he at_ out nd sc iu nm so ou pl ar ex en F K = F := by
  unfold pstep
  rw [if_pos ⟨h, h4⟩, if_pos hf]
theorem e_43 {α : Type} {b p he at_ out nd sc : Int} {iu nm so ou pl ar ex en : Int → Int} {F : α} {K : Int → Int → Int → Int → Int → (Int → Int) → (Int → Int) → (Int → Int) → (Int → Int) → (Int → Int) → (Int → Int) → (Int → Int) → (Int → Int) → α} (h : b = 43 ∧ (he = 0 ∨ he = 3)) : pstep b p he at_ out nd sc iu nm so ou pl ar ex en F K = K 1 at_ out nd sc iu nm so ou pl ar ex en := by
  unfold pstep
  rw [if_neg (by omega), if_pos h]
theorem e_94 {α : Type} {b p he at_ out nd sc : Int} {iu nm so ou pl ar ex en : Int → Int} {F : α} {K : Int → Int → Int → Int → Int → (Int → Int) → (Int → Int) → (Int → Int) → (Int → Int) → (Int → Int) → (Int → Int) → (Int → Int) → (Int → Int) → α} (h : b = 94 ∧ ((he = 0 ∨ he = 3) ∨ he = 2) ∧ out < 3) : pstep b p he at_ out nd sc iu nm so ou pl ar ex en F K = K 2 at_ (out + 1) nd sc iu nm so ou pl ar ex en := by
  unfold pstep
  rw [if_neg (by omega), if_neg (by omega), if_pos h]
theorem e_123 {α : Type} {b p he at_ out nd sc : Int} {iu nm so ou pl ar ex en : Int → Int} {F : α} {K : Int → Int → Int → Int → Int → (Int → Int) → (Int → Int) → (Int → Int) → (Int → Int) → (Int → Int) → (Int → Int) → (Int → Int) → (Int → Int) → α} (h : b = 123 ∧ (he = 0 ∨ he = 3) ∧ sc < 10) : pstep b p he at_ out nd sc iu nm so ou pl ar ex en F K = K 3 sc out nd (sc + 1) iu nm so ou pl (upZ ar sc at_) (upZ ex sc (-1)) (upZ en sc 0) := by
  unfold pstep
  rw [if_neg (by omega), if_neg (by omega), if_neg (by omega), if_pos h]
theorem e_125 {α : Type} {b p he at_ out nd sc : Int} {iu nm so ou pl ar ex en : Int → Int} {F : α} {K : Int → Int → Int → Int → Int → (Int → Int) → (Int → Int) → (Int → Int) → (Int → Int) → (Int → Int) → (Int → Int) → (Int → Int) → (Int → Int) → α} (h : b = 125 ∧ (he = 0 ∨ he = 3) ∧ at_ ≠ 0) : pstep b p he at_ out nd sc iu nm so ou pl ar ex en F K = K 0 (ar at_) out nd sc iu nm so ou pl ar ex (upZ en at_ 1) := by
  unfold pstep
  rw [if_neg (by omega), if_neg (by omega), if_neg (by omega), if_neg (by omega), if_pos h]
theorem e_60 {α : Type} {b p he at_ out nd sc : Int} {iu nm so ou pl ar ex en : Int → Int} {F : α} {K : Int → Int → Int → Int → Int → (Int → Int) → (Int → Int) → (Int → Int) → (Int → Int) → (Int → Int) → (Int → Int) → (Int → Int) → (Int → Int) → α} (h : b = 60 ∧ he = 3) : pstep b p he at_ out nd sc iu nm so ou pl ar ex en F K = K 4 at_ out nd sc iu nm so ou pl ar ex en := by
  unfold pstep
  rw [if_neg (by omega), if_neg (by omega), if_neg (by omega), if_neg (by omega), if_neg (by omega), if_pos h]
theorem e_fig {α : Type} {b p he at_ out nd sc : Int} {iu nm so ou pl ar ex en : Int → Int} {F : α} {K : Int → Int → Int → Int → Int → (Int → Int) → (Int → Int) → (Int → Int) → (Int → Int) → (Int → Int) → (Int → Int) → (Int → Int) → (Int → Int) → α} (h : he = 4 ∧ (49 ≤ b ∧ b ≤ 57) ∧ b - 48 < at_ ∧ en (b - 48) = 1) : pstep b p he at_ out nd sc iu nm so ou pl ar ex en F K = K 0 at_ out nd sc iu nm so ou pl ar (upZ ex at_ (b - 48)) en := by
  unfold pstep
  rw [if_neg (by omega), if_neg (by omega), if_neg (by omega), if_neg (by omega), if_neg (by omega), if_neg (by omega), if_pos h]
theorem e_F {α : Type} {b p he at_ out nd sc : Int} {iu nm so ou pl ar ex en : Int → Int} {F : α} {K : Int → Int → Int → Int → Int → (Int → Int) → (Int → Int) → (Int → Int) → (Int → Int) → (Int → Int) → (Int → Int) → (Int → Int) → (Int → Int) → α} (h1 : ¬ ((97 ≤ b ∧ b ≤ 122) ∧ he ≠ 4)) (h2 : ¬ (b = 43 ∧ (he = 0 ∨ he = 3))) (h3 : ¬ (b = 94 ∧ ((he = 0 ∨ he = 3) ∨ he = 2) ∧ out < 3)) (h4 : ¬ (b = 123 ∧ (he = 0 ∨ he = 3) ∧ sc < 10)) (h5 : ¬ (b = 125 ∧ (he = 0 ∨ he = 3) ∧ at_ ≠ 0)) (h6 : ¬ (b = 60 ∧ he = 3)) (h7 : ¬ (he = 4 ∧ (49 ≤ b ∧ b ≤ 57) ∧ b - 48 < at_ ∧ en (b - 48) = 1)) : pstep b p he at_ out nd sc iu nm so ou pl ar ex en F K = F := by
  unfold pstep
  rw [if_neg h1, if_neg h2, if_neg h3, if_neg h4, if_neg h5, if_neg h6, if_neg h7]
abbrev PR : Type := Int × Int × Int × (Int → Int) × (Int → Int) × (Int → Int) × (Int → Int) × (Int → Int) × (Int → Int) × (Int → Int) × (Int → Int)
def mkPR (fa nd sc : Int) (iu nm so ou pl ar ex en : Int → Int) : PR := (fa, nd, sc, iu, nm, so, ou, pl, ar, ex, en)
def Z0 : Int → Int := fun _ => 0
/-- the text read, from rows of 0 -/
def pr0 (tx : Int → Int) (n : Int) : PR := parse tx n mkPR n.toNat 0 0 0 0 0 1 Z0 Z0 Z0 Z0 Z0 (upZ Z0 0 (-1)) (upZ Z0 0 (-1)) (upZ Z0 0 0)
def Ag (nd sc : Int) (iu nm so ou pl ar ex en iu' nm' so' ou' pl' ar' ex' en' : Int → Int) : Prop :=
  (∀ k, 0 ≤ k → k < nd → iu k = iu' k ∧ nm k = nm' k ∧ so k = so' k ∧ ou k = ou' k ∧ pl k = pl' k) ∧ (∀ s, 0 ≤ s → s < sc → ar s = ar' s ∧ ex s = ex' s ∧ en s = en' s)
def AgP (t : PR) (iu nm so ou pl ar ex en : Int → Int) : Prop := Ag t.2.1 t.2.2.1 t.2.2.2.1 t.2.2.2.2.1 t.2.2.2.2.2.1 t.2.2.2.2.2.2.1 t.2.2.2.2.2.2.2.1 t.2.2.2.2.2.2.2.2.1 t.2.2.2.2.2.2.2.2.2.1 t.2.2.2.2.2.2.2.2.2.2 iu nm so ou pl ar ex en
theorem ag1 {f g : Int → Int} {n x : Int} (h : ∀ k, 0 ≤ k → k < n → f k = g k) : ∀ k, 0 ≤ k → k < n + 1 → upZ f n x k = upZ g n x k := by
  intro k h1 h2
  by_cases e : k = n
  · rw [e, upZ_s, upZ_s]
  · rw [upZ_n e, upZ_n e]
    exact h k h1 (by omega)
theorem ag2 {f g : Int → Int} {n j x : Int} (h : ∀ k, 0 ≤ k → k < n → f k = g k) : ∀ k, 0 ≤ k → k < n → upZ f j x k = upZ g j x k := by
  intro k h1 h2
  by_cases e : k = j
  · rw [e, upZ_s, upZ_s]
  · rw [upZ_n e, upZ_n e]
    exact h k h1 h2
theorem parse_rel (tx : Int → Int) (n : Int) (E : Int → Int → Int → (Int → Int) → (Int → Int) → (Int → Int) → (Int → Int) → (Int → Int) → (Int → Int) → (Int → Int) → (Int → Int) → Prop) :
    ∀ (f : Nat) (i he at_ out nd sc : Int) (iu nm so ou pl ar ex en iu' nm' so' ou' pl' ar' ex' en' : Int → Int), 0 ≤ nd → 0 ≤ at_ → at_ < sc → (∀ s, 1 ≤ s → s < sc → 0 ≤ ar s ∧ ar s < s) → Ag nd sc iu nm so ou pl ar ex en iu' nm' so' ou' pl' ar' ex' en' →
      (∀ iu1 nm1 so1 ou1 pl1 ar1 ex1 en1, AgP (parse tx n mkPR f i he at_ out nd sc iu nm so ou pl ar ex en) iu1 nm1 so1 ou1 pl1 ar1 ex1 en1 → E (parse tx n mkPR f i he at_ out nd sc iu nm so ou pl ar ex en).1 (parse tx n mkPR f i he at_ out nd sc iu nm so ou pl ar ex en).2.1 (parse tx n mkPR f i he at_ out nd sc iu nm so ou pl ar ex en).2.2.1 iu1 nm1 so1 ou1 pl1 ar1 ex1 en1) →
      parse tx n E f i he at_ out nd sc iu' nm' so' ou' pl' ar' ex' en' := by
  intro f
  induction f with
  | zero =>
    intro i he at_ out nd sc iu nm so ou pl ar ex en iu' nm' so' ou' pl' ar' ex' en' h0 ha0 ha1 har hA hE
    exact hE _ _ _ _ _ _ _ _ hA
  | succ f ih =>
    intro i he at_ out nd sc iu nm so ou pl ar ex en iu' nm' so' ou' pl' ar' ex' en' h0 ha0 ha1 har hA hE
    obtain ⟨hA1, hA2⟩ := id hA
    have htw : ∀ w, twB iu' so' nm' at_ w nd.toNat = twB iu so nm at_ w nd.toNat := fun w => twB_ext nd.toNat (fun k k1 k2 => by
      obtain ⟨z1, z2, z3, z4, z5⟩ := hA1 k k1 (by omega)
      exact ⟨z1.symm, z3.symm, z2.symm⟩)
    have unf : ∀ {α : Type} (E : Int → Int → Int → (Int → Int) → (Int → Int) → (Int → Int) → (Int → Int) → (Int → Int) → (Int → Int) → (Int → Int) → (Int → Int) → α) (iu nm so ou pl ar ex en : Int → Int), parse tx n E (f + 1) i he at_ out nd sc iu nm so ou pl ar ex en = pstep (tx i) i he at_ out nd sc iu nm so ou pl ar ex en (E i nd sc iu nm so ou pl ar ex en) (fun he at_ out nd sc iu nm so ou pl ar ex en => parse tx n E f (i + 1) he at_ out nd sc iu nm so ou pl ar ex en) := fun _ _ _ _ _ _ _ _ _ => rfl
    rw [unf] at hE ⊢
    by_cases hL : (97 ≤ tx i ∧ tx i ≤ 122) ∧ he ≠ 4
    · by_cases hf : nd = 60 ∨ (he = 1 ∧ twB iu so nm at_ (tx i - 97) nd.toNat = true)
      · rw [e_LF hL.1 hL.2 hf] at hE
        rw [e_LF hL.1 hL.2 (by rw [htw]; exact hf)]
        exact hE _ _ _ _ _ _ _ _ hA
      · rw [e_L hL.1 hL.2 hf] at hE
        rw [e_L hL.1 hL.2 (by rw [htw]; exact hf)]
        refine ih _ _ _ _ _ _ _ _ _ _ _ _ _ _ _ _ _ _ _ _ _ _ (by omega) ha0 ha1 har ⟨fun k k1 k2 => ⟨ag1 (fun k k1 k2 => (hA1 k k1 k2).1) k k1 k2, ag1 (fun k k1 k2 => (hA1 k k1 k2).2.1) k k1 k2, ag1 (fun k k1 k2 => (hA1 k k1 k2).2.2.1) k k1 k2, ag1 (fun k k1 k2 => (hA1 k k1 k2).2.2.2.1) k k1 k2, ag1 (fun k k1 k2 => (hA1 k k1 k2).2.2.2.2) k k1 k2⟩, hA2⟩ hE
    · by_cases h43 : tx i = 43 ∧ (he = 0 ∨ he = 3)
      · rw [e_43 h43] at hE ⊢
        exact ih _ _ _ _ _ _ _ _ _ _ _ _ _ _ _ _ _ _ _ _ _ _ h0 ha0 ha1 har hA hE
      · by_cases h94 : tx i = 94 ∧ ((he = 0 ∨ he = 3) ∨ he = 2) ∧ out < 3
        · rw [e_94 h94] at hE ⊢
          exact ih _ _ _ _ _ _ _ _ _ _ _ _ _ _ _ _ _ _ _ _ _ _ h0 ha0 ha1 har hA hE
        · by_cases h123 : tx i = 123 ∧ (he = 0 ∨ he = 3) ∧ sc < 10
          · rw [e_123 h123] at hE ⊢
            refine ih _ _ _ _ _ _ _ _ _ _ _ _ _ _ _ _ _ _ _ _ _ _ h0 (by omega) (by omega) (fun s s1 s2 => ?_) ⟨hA1, fun s s1 s2 => ⟨ag1 (fun k k1 k2 => (hA2 k k1 k2).1) s s1 s2, ag1 (fun k k1 k2 => (hA2 k k1 k2).2.1) s s1 s2, ag1 (fun k k1 k2 => (hA2 k k1 k2).2.2) s s1 s2⟩⟩ hE
            by_cases e : s = sc
            · rw [e, upZ_s]; omega
            · rw [upZ_n e]; exact har s s1 (by omega)
          · by_cases h125 : tx i = 125 ∧ (he = 0 ∨ he = 3) ∧ at_ ≠ 0
            · rw [e_125 h125] at hE ⊢
              have a1 := har at_ (by omega) ha1
              rw [← (hA2 at_ ha0 ha1).1]
              exact ih _ _ _ _ _ _ _ _ _ _ _ _ _ _ _ _ _ _ _ _ _ _ h0 (by omega) (by omega) har ⟨hA1, fun s s1 s2 => ⟨(hA2 s s1 s2).1, (hA2 s s1 s2).2.1, ag2 (fun k k1 k2 => (hA2 k k1 k2).2.2) s s1 s2⟩⟩ hE
            · by_cases h60 : tx i = 60 ∧ he = 3
              · rw [e_60 h60] at hE ⊢
                exact ih _ _ _ _ _ _ _ _ _ _ _ _ _ _ _ _ _ _ _ _ _ _ h0 ha0 ha1 har hA hE
              · by_cases hfig : he = 4 ∧ (49 ≤ tx i ∧ tx i ≤ 57) ∧ tx i - 48 < at_ ∧ en (tx i - 48) = 1
                · rw [e_fig hfig] at hE
                  rw [e_fig ⟨hfig.1, hfig.2.1, hfig.2.2.1, by rw [← (hA2 (tx i - 48) (by omega) (by omega)).2.2]; exact hfig.2.2.2⟩]
                  exact ih _ _ _ _ _ _ _ _ _ _ _ _ _ _ _ _ _ _ _ _ _ _ h0 ha0 ha1 har ⟨hA1, fun s s1 s2 => ⟨(hA2 s s1 s2).1, ag2 (fun k k1 k2 => (hA2 k k1 k2).2.1) s s1 s2, (hA2 s s1 s2).2.2⟩⟩ hE
                · rw [e_F hL h43 h94 h123 h125 h60 hfig] at hE
                  rw [e_F hL h43 h94 h123 h125 h60 (fun z => hfig ⟨z.1, z.2.1, z.2.2.1, by rw [(hA2 (tx i - 48) (by omega) (by omega)).2.2]; exact z.2.2.2⟩)]
                  exact hE _ _ _ _ _ _ _ _ hA
theorem parse_canon {tx : Int → Int} {n : Int} {E : Int → Int → Int → (Int → Int) → (Int → Int) → (Int → Int) → (Int → Int) → (Int → Int) → (Int → Int) → (Int → Int) → (Int → Int) → Prop} {iu nm so ou pl ar ex en : Int → Int}
    (hE : ∀ iu1 nm1 so1 ou1 pl1 ar1 ex1 en1, AgP (pr0 tx n) iu1 nm1 so1 ou1 pl1 ar1 ex1 en1 → E (pr0 tx n).1 (pr0 tx n).2.1 (pr0 tx n).2.2.1 iu1 nm1 so1 ou1 pl1 ar1 ex1 en1) :
    parse tx n E n.toNat 0 0 0 0 0 1 iu nm so ou pl (upZ ar 0 (-1)) (upZ ex 0 (-1)) (upZ en 0 0) := by
  refine parse_rel tx n E n.toNat 0 0 0 0 0 1 Z0 Z0 Z0 Z0 Z0 (upZ Z0 0 (-1)) (upZ Z0 0 (-1)) (upZ Z0 0 0) _ _ _ _ _ _ _ _ (by omega) (by omega) (by omega) (fun s s1 s2 => by omega) ⟨fun k k1 k2 => by omega, fun s s1 s2 => ?_⟩ hE
  have e : s = 0 := by omega
  subst e
  exact ⟨by rw [upZ_s, upZ_s], by rw [upZ_s, upZ_s], by rw [upZ_s, upZ_s]⟩
