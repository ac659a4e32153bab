/-! ===== class Tree: a byte, the text ===== -/
def hr (ss : Int) : Int := if ss = 0 then 0 else if ss = 3 then 1 else if ss = 4 then 2 else if ss = 1 then 3 else 4
def DB (nd sc : Int) (iu nm so de : Int → Int) : Prop := ∀ (s : Int) (w : Nat), 0 ≤ s → s < sc → w < 26 → (bt (de s) w = true ↔ twB iu so nm s (w : Int) nd.toNat = true)
/-- ranges of the rows of a tree -/
def RTr (iu nm so ou pl pa ba : Int → Int) : Prop := rI iu 0 1 ∧ rI nm 0 25 ∧ rI so 0 9 ∧ rI ou 0 3 ∧ rI pl 0 99 ∧ rI pa (-1) 9 ∧ rI ba (-1) 9 ∧ (∀ s, 0 ≤ s → pa s < s) ∧ (∀ s, 0 ≤ s → ba s < s)
def TI (ss cu os nd sc : Int) (iu nm so ou pl pa ba de en : Int → Int) : Prop :=
  (0 ≤ ss ∧ ss ≤ 4) ∧ (0 ≤ cu ∧ cu < sc) ∧ sc ≤ 10 ∧ (0 ≤ os ∧ os ≤ 3) ∧ (0 ≤ nd ∧ nd ≤ 60) ∧ ((ss = 1 ∨ ss = 2) → cu = sc - 1 ∧ 0 < cu ∧ en cu = 0) ∧ en 0 = 0 ∧ (∀ s, 1 ≤ s → s < sc → 0 ≤ pa s) ∧ rI en 0 1 ∧ DB nd sc iu nm so de ∧ (∀ k, 0 ≤ k → k < nd → so k < sc) ∧ RTr iu nm so ou pl pa ba
set_option maxRecDepth 100000 in
set_option maxHeartbeats 4000000 in
theorem twB_ext {iu so nm iu' so' nm' : Int → Int} {a w : Int} : ∀ n : Nat, (∀ k : Int, 0 ≤ k → k < n → iu k = iu' k ∧ so k = so' k ∧ nm k = nm' k) → twB iu so nm a w n = twB iu' so' nm' a w n
  | 0, _ => rfl
  | n + 1, h => by
    unfold twB
    rw [twB_ext n (fun k h1 h2 => h k h1 (by omega))]
    obtain ⟨e1, e2, e3⟩ := h n (by omega) (by omega)
    rw [e1, e2, e3]
set_option maxRecDepth 100000 in
set_option maxHeartbeats 4000000 in
theorem twB_add {iu so nm : Int → Int} {nd u x w a v : Int} (h0 : 0 ≤ nd) : twB (upZ iu nd u) (upZ so nd x) (upZ nm nd w) a v (nd + 1).toNat = (twB iu so nm a v nd.toNat || (decide (u = 0) && decide (x = a) && decide (w = v))) := by
  rw [show (nd + 1).toNat = nd.toNat + 1 by omega]
  show (twB (upZ iu nd u) (upZ so nd x) (upZ nm nd w) a v nd.toNat || (decide (upZ iu nd u (nd.toNat : Nat) = 0) && decide (upZ so nd x (nd.toNat : Nat) = a) && decide (upZ nm nd w (nd.toNat : Nat) = v))) = _
  rw [twB_ext (iu' := iu) (so' := so) (nm' := nm) nd.toNat (fun k h1 h2 => ⟨upZ_n (by omega), upZ_n (by omega), upZ_n (by omega)⟩)]
  rw [show ((nd.toNat : Nat) : Int) = nd by omega, upZ_s, upZ_s, upZ_s]
set_option maxRecDepth 100000 in
set_option maxHeartbeats 4000000 in
theorem DB_use {nd sc cu w : Int} {iu nm so de : Int → Int} (h : DB nd sc iu nm so de) (h0 : 0 ≤ nd) : DB (nd + 1) sc (upZ iu nd 1) (upZ nm nd w) (upZ so nd cu) de := by
  intro s v h1 h2 h3
  rw [twB_add h0, h s v h1 h2 h3]
  simp
set_option maxRecDepth 100000 in
set_option maxHeartbeats 4000000 in
theorem DB_decl {nd sc cu : Int} {w : Nat} {iu nm so de : Int → Int} (h : DB nd sc iu nm so de) (h0 : 0 ≤ nd) (hw : w < 26) : DB (nd + 1) sc (upZ iu nd 0) (upZ nm nd (w : Int)) (upZ so nd cu) (upZ de cu (orZ (de cu) (shlZ 1 (w : Int)))) := by
  intro s v h1 h2 h3
  rw [twB_add h0]
  by_cases e : s = cu
  · subst e
    rw [upZ_s, bt_or _ _ _ (by omega), Bool.or_eq_true, Bool.or_eq_true, h s v h1 h2 h3, show decide ((w : Int) = (v : Int)) = decide (w = v) from decide_eq_decide.mpr (by omega)]
    simp
  · rw [upZ_n e, h s v h1 h2 h3]
    simp
    intro q
    exact absurd q.symm e
set_option maxRecDepth 100000 in
set_option maxHeartbeats 4000000 in
theorem DB_open {nd sc : Int} {iu nm so de : Int → Int} (h : DB nd sc iu nm so de) (hso : ∀ k, 0 ≤ k → k < nd → so k < sc) (h0 : 0 ≤ nd) : DB nd (sc + 1) iu nm so (upZ de sc 0) := by
  intro s v h1 h2 h3
  by_cases e : s = sc
  · subst e
    rw [upZ_s, bt_0, twB_iff]
    simp
    intro k g1 g2 _ g4
    have := hso k g1 (by omega)
    omega
  · rw [upZ_n e]
    exact h s v h1 (by omega) h3
set_option maxRecDepth 100000 in
set_option maxHeartbeats 4000000 in
theorem ite_mono {c : Prop} [Decidable c] {A A' B B' : Prop} (ha : A → A') (hb : B → B') (h : if c then A else B) : if c then A' else B' := by
  by_cases hc : c
  · rw [if_pos hc] at h ⊢
    exact ha h
  · rw [if_neg hc] at h ⊢
    exact hb h
set_option maxRecDepth 100000 in
set_option maxHeartbeats 4000000 in
theorem pstep_mono {b p he at_ out nd sc : Int} {iu nm so ou pl ar ex en : Int → Int} {F F' : Prop} {K K' : Int → Int → Int → Int → Int → (Int → Int) → (Int → Int) → (Int → Int) → (Int → Int) → (Int → Int) → (Int → Int) → (Int → Int) → (Int → Int) → Prop} (hF : F → F') (hK : ∀ a1 a2 a3 a4 a5 b1 b2 b3 b4 b5 b6 b7 b8, K a1 a2 a3 a4 a5 b1 b2 b3 b4 b5 b6 b7 b8 → K' a1 a2 a3 a4 a5 b1 b2 b3 b4 b5 b6 b7 b8) (hq : pstep b p he at_ out nd sc iu nm so ou pl ar ex en F K) : pstep b p he at_ out nd sc iu nm so ou pl ar ex en F' K' := by
  exact ite_mono (ite_mono hF (hK _ _ _ _ _ _ _ _ _ _ _ _ _)) (ite_mono (hK _ _ _ _ _ _ _ _ _ _ _ _ _) (ite_mono (hK _ _ _ _ _ _ _ _ _ _ _ _ _) (ite_mono (hK _ _ _ _ _ _ _ _ _ _ _ _ _) (ite_mono (hK _ _ _ _ _ _ _ _ _ _ _ _ _) (ite_mono (hK _ _ _ _ _ _ _ _ _ _ _ _ _) (ite_mono (hK _ _ _ _ _ _ _ _ _ _ _ _ _) hF)))))) hq
set_option maxRecDepth 100000 in
set_option maxHeartbeats 4000000 in
theorem p_L {b p he at_ out nd sc : Int} {iu nm so ou pl ar ex en : Int → Int} {F : Prop} {K : Int → Int → Int → Int → Int → (Int → Int) → (Int → Int) → (Int → Int) → (Int → Int) → (Int → Int) → (Int → Int) → (Int → Int) → (Int → Int) → Prop} (hq : pstep b p he at_ out nd sc iu nm so ou pl ar ex en F K) (h : 97 ≤ b ∧ b ≤ 122) (h4 : he ≠ 4) (hf : ¬ (nd = 60 ∨ (he = 1 ∧ twB iu so nm at_ (b - 97) nd.toNat = true))) : K 0 at_ 0 (nd + 1) sc (upZ iu nd (if he = 1 then 0 else 1)) (upZ nm nd (b - 97)) (upZ so nd at_) (upZ ou nd out) (upZ pl nd p) ar ex en := by
  unfold pstep at hq
  rw [if_pos ⟨h, h4⟩, if_neg hf] at hq
  exact hq
set_option maxRecDepth 100000 in
set_option maxHeartbeats 4000000 in
theorem p_LF {b p he at_ out nd sc : Int} {iu nm so ou pl ar ex en : Int → Int} {F : Prop} {K : Int → Int → Int → Int → Int → (Int → Int) → (Int → Int) → (Int → Int) → (Int → Int) → (Int → Int) → (Int → Int) → (Int → Int) → (Int → Int) → Prop} (hq : pstep b p he at_ out nd sc iu nm so ou pl ar ex en F K) (h : 97 ≤ b ∧ b ≤ 122) (h4 : he ≠ 4) (hf : nd = 60 ∨ (he = 1 ∧ twB iu so nm at_ (b - 97) nd.toNat = true)) : F := by
  unfold pstep at hq
  rw [if_pos ⟨h, h4⟩, if_pos hf] at hq
  exact hq
set_option maxRecDepth 100000 in
set_option maxHeartbeats 4000000 in
theorem p_43 {b p he at_ out nd sc : Int} {iu nm so ou pl ar ex en : Int → Int} {F : Prop} {K : Int → Int → Int → Int → Int → (Int → Int) → (Int → Int) → (Int → Int) → (Int → Int) → (Int → Int) → (Int → Int) → (Int → Int) → (Int → Int) → Prop} (hq : pstep b p he at_ out nd sc iu nm so ou pl ar ex en F K) (h : b = 43) (h4 : he = 0 ∨ he = 3) : K 1 at_ out nd sc iu nm so ou pl ar ex en := by
  unfold pstep at hq
  rw [if_neg (by omega), if_pos ⟨h, h4⟩] at hq
  exact hq
set_option maxRecDepth 100000 in
set_option maxHeartbeats 4000000 in
theorem p_94 {b p he at_ out nd sc : Int} {iu nm so ou pl ar ex en : Int → Int} {F : Prop} {K : Int → Int → Int → Int → Int → (Int → Int) → (Int → Int) → (Int → Int) → (Int → Int) → (Int → Int) → (Int → Int) → (Int → Int) → (Int → Int) → Prop} (hq : pstep b p he at_ out nd sc iu nm so ou pl ar ex en F K) (h : b = 94) (h4 : (he = 0 ∨ he = 3) ∨ he = 2) (ho : out < 3) : K 2 at_ (out + 1) nd sc iu nm so ou pl ar ex en := by
  unfold pstep at hq
  rw [if_neg (by omega), if_neg (by omega), if_pos ⟨h, h4, ho⟩] at hq
  exact hq
set_option maxRecDepth 100000 in
set_option maxHeartbeats 4000000 in
theorem p_123 {b p he at_ out nd sc : Int} {iu nm so ou pl ar ex en : Int → Int} {F : Prop} {K : Int → Int → Int → Int → Int → (Int → Int) → (Int → Int) → (Int → Int) → (Int → Int) → (Int → Int) → (Int → Int) → (Int → Int) → (Int → Int) → Prop} (hq : pstep b p he at_ out nd sc iu nm so ou pl ar ex en F K) (h : b = 123) (h4 : he = 0 ∨ he = 3) (ho : sc < 10) : K 3 sc out nd (sc + 1) iu nm so ou pl (upZ ar sc at_) (upZ ex sc (-1)) (upZ en sc 0) := by
  unfold pstep at hq
  rw [if_neg (by omega), if_neg (by omega), if_neg (by omega), if_pos ⟨h, h4, ho⟩] at hq
  exact hq
set_option maxRecDepth 100000 in
set_option maxHeartbeats 4000000 in
theorem p_125 {b p he at_ out nd sc : Int} {iu nm so ou pl ar ex en : Int → Int} {F : Prop} {K : Int → Int → Int → Int → Int → (Int → Int) → (Int → Int) → (Int → Int) → (Int → Int) → (Int → Int) → (Int → Int) → (Int → Int) → (Int → Int) → Prop} (hq : pstep b p he at_ out nd sc iu nm so ou pl ar ex en F K) (h : b = 125) (h4 : he = 0 ∨ he = 3) (ho : at_ ≠ 0) : K 0 (ar at_) out nd sc iu nm so ou pl ar ex (upZ en at_ 1) := by
  unfold pstep at hq
  rw [if_neg (by omega), if_neg (by omega), if_neg (by omega), if_neg (by omega), if_pos ⟨h, h4, ho⟩] at hq
  exact hq
set_option maxRecDepth 100000 in
set_option maxHeartbeats 4000000 in
theorem p_60 {b p he at_ out nd sc : Int} {iu nm so ou pl ar ex en : Int → Int} {F : Prop} {K : Int → Int → Int → Int → Int → (Int → Int) → (Int → Int) → (Int → Int) → (Int → Int) → (Int → Int) → (Int → Int) → (Int → Int) → (Int → Int) → Prop} (hq : pstep b p he at_ out nd sc iu nm so ou pl ar ex en F K) (h : b = 60) (h4 : he = 3) : K 4 at_ out nd sc iu nm so ou pl ar ex en := by
  unfold pstep at hq
  rw [if_neg (by omega), if_neg (by omega), if_neg (by omega), if_neg (by omega), if_neg (by omega), if_pos ⟨h, h4⟩] at hq
  exact hq
set_option maxRecDepth 100000 in
set_option maxHeartbeats 4000000 in
theorem p_fig {b p he at_ out nd sc : Int} {iu nm so ou pl ar ex en : Int → Int} {F : Prop} {K : Int → Int → Int → Int → Int → (Int → Int) → (Int → Int) → (Int → Int) → (Int → Int) → (Int → Int) → (Int → Int) → (Int → Int) → (Int → Int) → Prop} (hq : pstep b p he at_ out nd sc iu nm so ou pl ar ex en F K) (h4 : he = 4) (h : 49 ≤ b ∧ b ≤ 57) (ho : b - 48 < at_) (hen : en (b - 48) = 1) : K 0 at_ out nd sc iu nm so ou pl ar (upZ ex at_ (b - 48)) en := by
  unfold pstep at hq
  rw [if_neg (by omega), if_neg (by omega), if_neg (by omega), if_neg (by omega), if_neg (by omega), if_neg (by omega), if_pos ⟨h4, h, ho, hen⟩] at hq
  exact hq
set_option maxRecDepth 100000 in
set_option maxHeartbeats 4000000 in
theorem p_F {b p he at_ out nd sc : Int} {iu nm so ou pl ar ex en : Int → Int} {F : Prop} {K : Int → Int → Int → Int → Int → (Int → Int) → (Int → Int) → (Int → Int) → (Int → Int) → (Int → Int) → (Int → Int) → (Int → Int) → (Int → Int) → Prop} (hq : pstep b p he at_ out nd sc iu nm so ou pl ar ex en F K) (h1 : ¬ ((97 ≤ b ∧ b ≤ 122) ∧ he ≠ 4)) (h2 : ¬ (b = 43 ∧ (he = 0 ∨ he = 3))) (h3 : ¬ (b = 94 ∧ ((he = 0 ∨ he = 3) ∨ he = 2) ∧ out < 3)) (h4 : ¬ (b = 123 ∧ (he = 0 ∨ he = 3) ∧ sc < 10)) (h5 : ¬ (b = 125 ∧ (he = 0 ∨ he = 3) ∧ at_ ≠ 0)) (h6 : ¬ (b = 60 ∧ he = 3)) (h7 : ¬ (he = 4 ∧ (49 ≤ b ∧ b ≤ 57) ∧ b - 48 < at_ ∧ en (b - 48) = 1)) : F := by
  unfold pstep at hq
  rw [if_neg h1, if_neg h2, if_neg h3, if_neg h4, if_neg h5, if_neg h6, if_neg h7] at hq
  exact hq
set_option maxRecDepth 100000 in
set_option maxHeartbeats 4000000 in
theorem TI_st {ss ss' cu os os' nd sc : Int} {iu nm so ou pl pa ba de en : Int → Int} (h : TI ss cu os nd sc iu nm so ou pl pa ba de en) (h1 : 0 ≤ ss' ∧ ss' ≤ 4) (h2 : 0 ≤ os' ∧ os' ≤ 3) (h3 : ss' = 1 ∨ ss' = 2 → ss = 1 ∨ ss = 2) : TI ss' cu os' nd sc iu nm so ou pl pa ba de en := by
  obtain ⟨g1, g2, g3, g4, g5, g6, g7⟩ := h
  exact ⟨h1, g2, g3, h2, g5, fun q => g6 (h3 q), g7⟩
set_option maxRecDepth 100000 in
set_option maxHeartbeats 4000000 in
theorem TI_open {ss cu os nd sc : Int} {iu nm so ou pl pa ba de en : Int → Int} (h : TI ss cu os nd sc iu nm so ou pl pa ba de en) (h1 : sc < 10) : TI 1 sc os nd (sc + 1) iu nm so ou pl (upZ pa sc cu) (upZ ba sc (-1)) (upZ de sc 0) (upZ en sc 0) := by
  obtain ⟨g1, g2, g3, g4, g5, g6, g7, g8, g9, g10, g11, r1, r2, r3, r4, r5, r6, r7, r8, r9⟩ := h
  refine ⟨by omega, by omega, by omega, g4, g5, fun _ => ⟨by omega, by omega, upZ_s⟩, ?_, fun s s1 s2 => ?_, rI_up g9 (by omega) (by omega), DB_open g10 g11 g5.1, fun k k1 k2 => by have := g11 k k1 k2; omega, r1, r2, r3, r4, r5, rI_up r6 (by omega) (by omega), rI_up r7 (by omega) (by omega), fun s s1 => ?_, fun s s1 => ?_⟩
  · rw [upZ_n (by omega)]; exact g7
  · by_cases e : s = sc
    · rw [e, upZ_s]; exact g2.1
    · rw [upZ_n e]; exact g8 s s1 (by omega)
  · by_cases e : s = sc
    · rw [e, upZ_s]; exact g2.2
    · rw [upZ_n e]; exact r8 s s1
  · by_cases e : s = sc
    · rw [e, upZ_s]; omega
    · rw [upZ_n e]; exact r9 s s1
set_option maxRecDepth 100000 in
set_option maxHeartbeats 4000000 in
theorem TI_close {ss cu os nd sc : Int} {iu nm so ou pl pa ba de en : Int → Int} (h : TI ss cu os nd sc iu nm so ou pl pa ba de en) (h1 : 0 < cu) : TI 0 (pa cu) os nd sc iu nm so ou pl pa ba de (upZ en cu 1) := by
  obtain ⟨g1, g2, g3, g4, g5, g6, g7, g8, g9, g10, g11, r1, r2, r3, r4, r5, r6, r7, r8, r9⟩ := h
  have a1 := g8 cu (by omega) g2.2
  have a2 := r8 cu (by omega)
  refine ⟨by omega, by omega, g3, g4, g5, fun q => by omega, ?_, g8, rI_up g9 (by omega) (by omega), g10, g11, r1, r2, r3, r4, r5, r6, r7, r8, r9⟩
  rw [upZ_n (by omega)]; exact g7
set_option maxRecDepth 100000 in
set_option maxHeartbeats 4000000 in
theorem TI_use {ss cu os os' nd sc w x p : Int} {iu nm so ou pl pa ba de en : Int → Int} (h : TI ss cu os nd sc iu nm so ou pl pa ba de en) (h1 : nd < 60) (hw : 0 ≤ w ∧ w ≤ 25) (hx : 0 ≤ x ∧ x ≤ 3) (hp : 0 ≤ p ∧ p ≤ 99) (ho : 0 ≤ os' ∧ os' ≤ 3) : TI 0 cu os' (nd + 1) sc (upZ iu nd 1) (upZ nm nd w) (upZ so nd cu) (upZ ou nd x) (upZ pl nd p) pa ba de en := by
  obtain ⟨g1, g2, g3, g4, g5, g6, g7, g8, g9, g10, g11, r1, r2, r3, r4, r5, r6, r7, r8, r9⟩ := h
  refine ⟨by omega, g2, g3, ho, by omega, fun q => by omega, g7, g8, g9, DB_use g10 g5.1, fun k k1 k2 => ?_, rI_up r1 (by omega) (by omega), rI_up r2 hw.1 hw.2, rI_up r3 (by omega) (by omega), rI_up r4 hx.1 hx.2, rI_up r5 hp.1 hp.2, r6, r7, r8, r9⟩
  by_cases e : k = nd
  · rw [e, upZ_s]; exact g2.2
  · rw [upZ_n e]; exact g11 k k1 (by omega)
set_option maxRecDepth 100000 in
set_option maxHeartbeats 4000000 in
theorem TI_decl {ss cu os nd sc p : Int} {w : Nat} {iu nm so ou pl pa ba de en : Int → Int} (h : TI ss cu os nd sc iu nm so ou pl pa ba de en) (h1 : nd < 60) (hw : w < 26) (hp : 0 ≤ p ∧ p ≤ 99) : TI 0 cu os (nd + 1) sc (upZ iu nd 0) (upZ nm nd (w : Int)) (upZ so nd cu) (upZ ou nd 0) (upZ pl nd p) pa ba (upZ de cu (orZ (de cu) (shlZ 1 (w : Int)))) en := by
  obtain ⟨g1, g2, g3, g4, g5, g6, g7, g8, g9, g10, g11, r1, r2, r3, r4, r5, r6, r7, r8, r9⟩ := h
  refine ⟨by omega, g2, g3, g4, by omega, fun q => by omega, g7, g8, g9, DB_decl g10 g5.1 hw, fun k k1 k2 => ?_, rI_up r1 (by omega) (by omega), rI_up r2 (by omega) (by omega), rI_up r3 (by omega) (by omega), rI_up r4 (by omega) (by omega), rI_up r5 hp.1 hp.2, r6, r7, r8, r9⟩
  by_cases e : k = nd
  · rw [e, upZ_s]; exact g2.2
  · rw [upZ_n e]; exact g11 k k1 (by omega)
set_option maxRecDepth 100000 in
set_option maxHeartbeats 4000000 in
theorem TI_fig {ss cu os nd sc f : Int} {iu nm so ou pl pa ba de en : Int → Int} (h : TI ss cu os nd sc iu nm so ou pl pa ba de en) (h1 : 0 ≤ f ∧ f < cu) : TI 0 cu os nd sc iu nm so ou pl pa (upZ ba cu f) de en := by
  obtain ⟨g1, g2, g3, g4, g5, g6, g7, g8, g9, g10, g11, r1, r2, r3, r4, r5, r6, r7, r8, r9⟩ := h
  refine ⟨by omega, g2, g3, g4, g5, fun q => by omega, g7, g8, g9, g10, g11, r1, r2, r3, r4, r5, r6, rI_up r7 (by omega) (by omega), r8, fun s s1 => ?_⟩
  by_cases e : s = cu
  · rw [e, upZ_s]; exact h1.2
  · rw [upZ_n e]; exact r9 s s1
section TREE2
variable {ro : Nat × (Int → Int)} {d : Nat} {Q : Option AV → AH → Prop} {hB : List AC} {tb : Int → Int} {tz : Int} {tk : Int → Int → Int} {tks : Int → Int} {tc tt : Int} {iu nm ou so pl : Int → Int} {nd : Int} {pa ba de en : Int → Int} {sc rsz fp ss cu os : Int} {a1 a2 a3 : Int → Int} {a4 : Int → Int64} {a5 b1 b2 b3 : Int → Int} {b4 : Int → Int64} {b5 : Int → Int} {le fi : Int} {xi0 : Int → Int} {xf0 xz0 xl0 : Int} {xi1 : Int → Int} {xf1 xz1 xl1 : Int} {xi2 : Int → Int} {xf2 xz2 xl2 : Int} {xi3 : Int → Int} {xf3 xz3 xl3 : Int}
set_option maxRecDepth 100000 in
set_option maxHeartbeats 4000000 in
theorem t_beginsItem {b p : Int} (hb : rg b) (hsc : 0 ≤ sc ∧ sc ≤ 10) (hcu : 0 ≤ cu ∧ cu < 10) (hn : 0 ≤ nd ∧ nd ≤ 60)
    (g43 : b = 43 → Q (some (vI 1)) ((heapC tb tz tk tks tc tt iu nm ou so pl nd pa ba de en sc rsz fp 3 cu os a1 a2 a3 a4 a5 b1 b2 b3 b4 b5 le fi xi0 xf0 xz0 xl0 xi1 xf1 xz1 xl1 xi2 xf2 xz2 xl2 xi3 xf3 xz3 xl3), hB)) (g94 : b = 94 → Q (some (vI 1)) ((heapC tb tz tk tks tc tt iu nm ou so pl nd pa ba de en sc rsz fp 4 cu 1 a1 a2 a3 a4 a5 b1 b2 b3 b4 b5 le fi xi0 xf0 xz0 xl0 xi1 xf1 xz1 xl1 xi2 xf2 xz2 xl2 xi3 xf3 xz3 xl3), hB))
    (g123 : b = 123 ∧ sc < 10 → Q (some (vI 1)) ((heapC tb tz tk tks tc tt iu nm ou so pl nd (upZ pa sc cu) (upZ ba sc (-1)) (upZ de sc 0) (upZ en sc 0) (sc + 1) rsz fp 1 sc os a1 a2 a3 a4 a5 b1 b2 b3 b4 b5 le fi xi0 xf0 xz0 xl0 xi1 xf1 xz1 xl1 xi2 xf2 xz2 xl2 xi3 xf3 xz3 xl3), hB))
    (g125 : b = 125 ∧ 0 < cu → Q (some (vI 1)) ((heapC tb tz tk tks tc tt iu nm ou so pl nd pa ba de (upZ en cu 1) sc rsz fp 0 (pa cu) os a1 a2 a3 a4 a5 b1 b2 b3 b4 b5 le fi xi0 xf0 xz0 xl0 xi1 xf1 xz1 xl1 xi2 xf2 xz2 xl2 xi3 xf3 xz3 xl3), hB))
    (gL : (97 ≤ b ∧ b ≤ 122) ∧ nd < 60 → Q (some (vI 1)) ((heapC tb tz tk tks tc tt (upZ iu nd 1) (upZ nm nd (b - 97)) (upZ ou nd 0) (upZ so nd cu) (upZ pl nd p) (nd + 1) pa ba de en sc rsz fp 0 cu 0 a1 a2 a3 a4 a5 b1 b2 b3 b4 b5 le fi xi0 xf0 xz0 xl0 xi1 xf1 xz1 xl1 xi2 xf2 xz2 xl2 xi3 xf3 xz3 xl3), hB))
    (g0 : ∀ os', ¬ b = 43 → ¬ b = 94 → ¬ (b = 123 ∧ sc < 10) → ¬ (b = 125 ∧ 0 < cu) → ¬ ((97 ≤ b ∧ b ≤ 122) ∧ nd < 60) → Q (some (vI 0)) ((heapC tb tz tk tks tc tt iu nm ou so pl nd pa ba de en sc rsz fp ss cu os' a1 a2 a3 a4 a5 b1 b2 b3 b4 b5 le fi xi0 xf0 xz0 xl0 xi1 xf1 xz1 xl1 xi2 xf2 xz2 xl2 xi3 xf3 xz3 xl3), hB)) : RNd ro (d + 3) 46 [vR 25, vI b, vI p] ((heapC tb tz tk tks tc tt iu nm ou so pl nd pa ba de en sc rsz fp ss cu os a1 a2 a3 a4 a5 b1 b2 b3 b4 b5 le fi xi0 xf0 xz0 xl0 xi1 xf1 xz1 xl1 xi2 xf2 xz2 xl2 xi3 xf3 xz3 xl3), hB) Q := by
  refine WP_run [] 90 ?_
  refine m1 (And.intro (fun e => ?_) (fun e1 => And.intro (fun e => ?_) (fun e2 => And.intro (fun e => ?_) (fun e3 => And.intro (fun e => ?_) (fun e4 => ?_))))) hb
  · exact rz (g43 e)
  · exact rz (g94 e)
  · refine t_open hsc (fun q => ?_) (fun q => ?_)
    · exact rz (g0 os e1 e2 (by omega) (by omega) (by omega))
    · exact rz (g123 ⟨e, q⟩)
  · refine t_close hcu (fun q => ?_) (fun q => ?_)
    · exact rz (g0 os e1 e2 (by omega) (by omega) (by omega))
    · exact rz (g125 ⟨e, q⟩)
  · refine t_endsUse hb hn (fun q => ?_) (fun q => ?_)
    · exact rz (g0 0 e1 e2 (by omega) (by omega) q)
    · exact rz (gL q)
set_option maxRecDepth 100000 in
set_option maxHeartbeats 4000000 in
theorem t_goesOn {b p : Int} (hb : 0 ≤ b ∧ b ≤ 255) (hp : 0 ≤ p ∧ p ≤ 99) (hT : TI ss cu os nd sc iu nm so ou pl pa ba de en)
    (hq : pstep b p (hr ss) cu (if ss = 4 then os else 0) nd sc iu nm so ou pl pa ba en (∀ os' de', Q (some (vI 0)) ((heapC tb tz tk tks tc tt iu nm ou so pl nd pa ba de' en sc rsz fp ss cu os' a1 a2 a3 a4 a5 b1 b2 b3 b4 b5 le fi xi0 xf0 xz0 xl0 xi1 xf1 xz1 xl1 xi2 xf2 xz2 xl2 xi3 xf3 xz3 xl3), hB)) (fun he' at' out' nd' sc' iu' nm' so' ou' pl' ar' ex' en' => ∀ ss' os' de', hr ss' = he' → out' = (if ss' = 4 then os' else 0) → TI ss' at' os' nd' sc' iu' nm' so' ou' pl' ar' ex' de' en' → Q (some (vI 1)) ((heapC tb tz tk tks tc tt iu' nm' ou' so' pl' nd' ar' ex' de' en' sc' rsz fp ss' at' os' a1 a2 a3 a4 a5 b1 b2 b3 b4 b5 le fi xi0 xf0 xz0 xl0 xi1 xf1 xz1 xl1 xi2 xf2 xz2 xl2 xi3 xf3 xz3 xl3), hB))) : RNd ro (d + 4) 44 [vR 25, vI b, vI p] ((heapC tb tz tk tks tc tt iu nm ou so pl nd pa ba de en sc rsz fp ss cu os a1 a2 a3 a4 a5 b1 b2 b3 b4 b5 le fi xi0 xf0 xz0 xl0 xi1 xf1 xz1 xl1 xi2 xf2 xz2 xl2 xi3 xf3 xz3 xl3), hB) Q := by
  obtain ⟨g1, g2, g3, g4, g5, g6, g7, g8, g9, g10, g11, g12⟩ := id hT
  have hrb : rg b := by unfold rg; omega
  have item : ∀ {d : Nat} {Q' : Option AV → AH → Prop}, (∀ h', Q (some (vI 1)) h' → Q' (some (vI 1)) h') → (∀ h', Q (some (vI 0)) h' → Q' (some (vI 0)) h') → (ss = 0 ∨ ss = 1) → ¬ (b = 60 ∧ ss = 1) → RNd ro (d + 3) 46 [vR 25, vI b, vI p] ((heapC tb tz tk tks tc tt iu nm ou so pl nd pa ba de en sc rsz fp ss cu os a1 a2 a3 a4 a5 b1 b2 b3 b4 b5 le fi xi0 xf0 xz0 xl0 xi1 xf1 xz1 xl1 xi2 xf2 xz2 xl2 xi3 xf3 xz3 xl3), hB) Q' := by
    intro d Q' q1 q0 hs h60
    have hhe : hr ss = 0 ∨ hr ss = 3 := by rcases hs with rfl | rfl <;> decide
    have ho : (if ss = 4 then os else 0) = 0 := if_neg (by omega)
    rw [ho] at hq
    have hh4 : hr ss ≠ 4 := by omega
    refine t_beginsItem hrb (by omega) (by omega) g5 (fun e => ?_) (fun e => ?_) (fun e => ?_) (fun e => ?_) (fun e => ?_) (fun os' e1 e2 e3 e4 e5 => ?_)
    · exact q1 _ (p_43 hq e hhe 3 os de rfl rfl (TI_st hT (by omega) g4 (by omega)))
    · exact q1 _ (p_94 hq e (Or.inl hhe) (by omega) 4 1 de rfl rfl (TI_st hT (by omega) (by omega) (by omega)))
    · exact q1 _ (p_123 hq e.1 hhe e.2 1 os _ rfl rfl (TI_open hT e.2))
    · exact q1 _ (p_125 hq e.1 hhe (by omega) 0 os de rfl rfl (TI_close hT e.2))
    · have r := p_L hq e.1 hh4 (by omega) 0 0 de rfl rfl
      rw [if_neg (by omega)] at r
      exact q1 _ (r (TI_use hT e.2 (by omega) (by omega) hp (by omega)))
    · by_cases hL : 97 ≤ b ∧ b ≤ 122
      · exact q0 _ (p_LF hq hL hh4 (by omega) os' de)
      · refine q0 _ (p_F hq (by omega) (by omega) (by omega) (by omega) (by omega) (fun q => ?_) (by omega) os' de)
        rcases hs with rfl | rfl
        · exact absurd q.2 (by decide)
        · exact h60 ⟨q.1, rfl⟩
  refine WP_run [] 90 ?_
  refine m1 (And.intro (fun e => ?_) (fun e1 => And.intro (fun e => ?_) (fun e2 => And.intro (fun e => ?_) (fun e3 => And.intro (fun e => ?_) (fun e4 => ?_)))))
  · -- opened
    refine t_beginsExtension hrb (fun q => ?_) (fun q => ?_)
    · refine t1 ?_
      refine rz ?_
      subst e
      exact p_60 hq q rfl 2 os de rfl rfl (TI_st hT (by omega) g4 (by omega))
    · refine f1 ?_
      refine item (fun h' z => ?_) (fun h' z => ?_) (by omega) (by omega)
      · refine f1 ?_
        exact rz z
      · refine t1 ?_
        exact rz z
  · -- a figure
    subst e
    have g6 := g6 (by omega)
    refine t_extend (by unfold rg; omega) (by omega) (by omega) g9 (fun q => ?_) (fun q => ?_)
    · refine rz (p_F hq (by have : hr 2 = 4 := rfl; omega) (by have : hr 2 = 4 := rfl; omega) (by have : hr 2 = 4 := rfl; omega) (by have : hr 2 = 4 := rfl; omega) (by have : hr 2 = 4 := rfl; omega) (by have : hr 2 = 4 := rfl; omega) (fun z => ?_) os de)
      exact q ⟨by omega, by omega, z.2.2.2⟩
    · have a1 : b - 48 ≠ 0 := fun z => by
        have := q.2.2
        rw [z, g7] at this
        omega
      have a2 : b - 48 ≠ cu := fun z => by
        have := q.2.2
        rw [z, g6.2.2] at this
        omega
      exact rz (p_fig hq rfl (by omega) (by omega) q.2.2 0 os de rfl rfl (TI_fig hT (by omega)))
  · -- a name
    subst e
    refine t_isLetter hrb (fun q => ?_) (fun q => ?_)
    · refine f1 ?_
      have hw : (((b - 97).toNat : Nat) : Int) = b - 97 := by omega
      have hdb := g10 cu (b - 97).toNat g2.1 g2.2 (by omega)
      rw [hw] at hdb
      refine t_declare (by omega) (by omega) g5 (fun de' z => ?_) (fun z => ?_)
      · refine t1 ?_
        refine rz (p_LF hq q (by decide) ?_ os de')
        by_cases hn : nd < 60
        · refine Or.inr ⟨rfl, hdb.mp ?_⟩
          cases hbt : bt (de cu) (b - 97).toNat with
          | true => rfl
          | false => exact absurd ⟨hbt, hn⟩ z
        · exact Or.inl (by omega)
      · refine f1 ?_
        refine rz ?_
        have r := p_L hq q (by decide) (fun y => by
          rcases y with y | y
          · omega
          · rw [hdb.mpr y.2] at z
            exact absurd z.1 (by decide)) 0 os (upZ de cu (orZ (de cu) (shlZ 1 (b - 97)))) rfl rfl
        refine r ?_
        have t := TI_decl (w := (b - 97).toNat) hT z.2 (by omega) hp
        rw [hw] at t
        exact t
    · refine t1 ?_
      exact rz (p_F hq (by omega) (by have : hr 3 = 1 := rfl; omega) (by have : hr 3 = 1 := rfl; omega) (by have : hr 3 = 1 := rfl; omega) (by have : hr 3 = 1 := rfl; omega) (by have : hr 3 = 1 := rfl; omega) (by have : hr 3 = 1 := rfl; omega) os de)
  · -- outs
    subst e
    refine t_goesFartherOut hrb g4 (fun q => ?_) (fun q => ?_)
    · refine f1 ?_
      refine t_endsUse hrb g5 (fun z => ?_) (fun z => ?_)
      · refine t1 ?_
        by_cases hL : 97 ≤ b ∧ b ≤ 122
        · exact rz (p_LF hq hL (by decide) (by omega) os de)
        · exact rz (p_F hq (by omega) (by have : hr 4 = 2 := rfl; omega) (fun y => q ⟨y.1, y.2.2⟩) (by have : hr 4 = 2 := rfl; omega) (by have : hr 4 = 2 := rfl; omega) (by have : hr 4 = 2 := rfl; omega) (by have : hr 4 = 2 := rfl; omega) os de)
      · refine f1 ?_
        refine rz ?_
        have r := p_L hq z.1 (by decide) (by have : hr 4 = 2 := rfl; omega) 0 os de rfl rfl
        exact r (TI_use hT z.2 (by omega) g4 hp g4)
    · refine t1 ?_
      exact rz (p_94 hq q.1 (Or.inr rfl) q.2 4 (os + 1) de rfl rfl (TI_st hT (by omega) (by omega) (by omega)))
  · refine item (fun h' z => ?_) (fun h' z => ?_) (by omega) (by omega)
    · exact rz z
    · exact rz z
end TREE2
