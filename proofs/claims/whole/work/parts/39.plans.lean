/-! ===== plans ===== -/
/-- all of a family, and what is bound to it, by another name -/
def cRn (tx : Int → Int) (n i w : Int) (nn : Int → Int) : Int → Int := fun k => if cBT tx n k ≠ -1 ∧ cFM tx n (cNM tx n) (cBT tx n k) = cFM tx n (cNM tx n) i then w else nn k
/-- all that bear a name, by the spare one -/
def cPs (tx : Int → Int) (n w : Int) (nn : Int → Int) : Int → Int := fun k => if cBT tx n k ≠ -1 ∧ cNM tx n k = w then spr (cND tx n) (cNM tx n) else nn k
/-- the names by a plan -/
def cNN (tx : Int → Int) (n i w p : Int) : Int → Int := cRn tx n i w (if p = 2 then cPs tx n w (cNM tx n) else cNM tx n)
def cBo (tx : Int → Int) (n : Int) (nn : Int → Int) (k o : Int) : Int := BN (cND tx n) (cIU tx n) (cSO tx n) (cAR tx n) (cEX tx n) nn (cSO tx n k) o (nn k)
def cLo (tx : Int → Int) (n : Int) (nn : Int → Int) (k : Int) : Int := loF (cBo tx n nn k) (cBT tx n k)
/-- the outs by a plan -/
def cOO (tx : Int → Int) (n p : Int) (nn : Int → Int) (k : Int) : Int := if p = 0 ∨ cIU tx n k = 0 ∨ cBo tx n nn k (cOU tx n k) = cBT tx n k ∨ cLo tx n nn k = -1 then cOU tx n k else cLo tx n nn k
def cWE (tx : Int → Int) (n : Int) (nn oo : Int → Int) : Prop := Once (cND tx n) (cIU tx n) (cSO tx n) nn ∧ (∀ k, 0 ≤ k → k < cND tx n → cFM tx n nn k = cFM tx n (cNM tx n) k) ∧ (∀ k, 0 ≤ k → k < cND tx n → cIU tx n k = 1 → cBo tx n nn k (oo k) = cBT tx n k)
def cBy (tx : Int → Int) (n : Int) (oo : Int → Int) : Int := n + sumF (fun k => oo k - cOU tx n k) (cND tx n).toNat
def cEt (tx : Int → Int) (n : Int) (nn oo : Int → Int) : Int := sumF (fun k => (if nn k ≠ cNM tx n k then 1 else 0) + (if 0 ≤ oo k - cOU tx n k then oo k - cOU tx n k else -(oo k - cOU tx n k))) (cND tx n).toNat
/-- the edits of a plan; none -/
noncomputable def cED (tx : Int → Int) (n i w p : Int) : Int := @ite Int ((¬ (p = 2 ∧ spr (cND tx n) (cNM tx n) = -1)) ∧ cWE tx n (cNN tx n i w p) (cOO tx n p (cNN tx n i w p)) ∧ cBy tx n (cOO tx n p (cNN tx n i w p)) ≤ 100) (Classical.propDecidable _) (cEt tx n (cNN tx n i w p) (cOO tx n p (cNN tx n i w p))) (-1)
set_option maxRecDepth 100000 in
set_option maxHeartbeats 4000000 in
theorem cED_y {tx : Int → Int} {n i w p : Int} (h : (¬ (p = 2 ∧ spr (cND tx n) (cNM tx n) = -1)) ∧ cWE tx n (cNN tx n i w p) (cOO tx n p (cNN tx n i w p)) ∧ cBy tx n (cOO tx n p (cNN tx n i w p)) ≤ 100) : cED tx n i w p = cEt tx n (cNN tx n i w p) (cOO tx n p (cNN tx n i w p)) := @if_pos _ (Classical.propDecidable _) h _ _ _
set_option maxRecDepth 100000 in
set_option maxHeartbeats 4000000 in
theorem cED_n {tx : Int → Int} {n i w p : Int} (h : ¬ ((¬ (p = 2 ∧ spr (cND tx n) (cNM tx n) = -1)) ∧ cWE tx n (cNN tx n i w p) (cOO tx n p (cNN tx n i w p)) ∧ cBy tx n (cOO tx n p (cNN tx n i w p)) ≤ 100)) : cED tx n i w p = -1 := @if_neg _ (Classical.propDecidable _) h _ _ _
set_option maxRecDepth 100000 in
set_option maxHeartbeats 4000000 in
theorem kin_same {nd : Int} {IU F F' : Int → Int} {kin kin' : Int → Int64} (hn : nd ≤ 60) (hU : U01 nd IU) (hF : FamOK nd IU F) (hF' : FamOK nd IU F') (hK : KinOK nd IU F kin) (hK' : KinOK nd IU F' kin') : (∀ k, 0 ≤ k → k < nd → kin' k = kin k) ↔ (∀ k, 0 ≤ k → k < nd → F' k = F k) := by
  constructor
  · intro h k a b
    have u := hU k a b
    by_cases hk : IU k = 1
    · rw [(hF k a b).1 hk, (hF' k a b).1 hk]
    · obtain ⟨x1, x2, x3, x4⟩ := (hF k a b).2 (by omega)
      obtain ⟨y1, y2, y3, y4⟩ := (hF' k a b).2 (by omega)
      have m1 := (hK k (F k) a b x1 (by omega)).mpr ⟨by omega, Or.inr ⟨by omega, x3, x4⟩⟩
      have m2 := (hK' k (F' k) a b y1 (by omega)).mpr ⟨by omega, Or.inr ⟨by omega, y3, y4⟩⟩
      rw [← h k a b] at m1
      rw [h k a b] at m2
      have z1 := (hK' k (F k) a b x1 (by omega)).mp m1
      have z2 := (hK k (F' k) a b y1 (by omega)).mp m2
      have w1 : F' k ≤ F k := by
        rcases z1.2 with z | z
        · omega
        · have := ((hF' (F k) x1 (by omega)).2 x3).2.1
          omega
      have w2 : F k ≤ F' k := by
        rcases z2.2 with z | z
        · omega
        · have := ((hF (F' k) y1 (by omega)).2 y3).2.1
          omega
      omega
  · intro h k a b
    refine B_ext fun j j0 j1 => ?_
    have e1 := hK k j a b j0 j1
    have e2 := hK' k j a b j0 j1
    have e3 : B (kin' k) j = true ↔ B (kin k) j = true := by
      rw [e1, e2]
      constructor
      · rintro ⟨x1, x2 | ⟨x2, x3, x4⟩⟩
        · exact ⟨x1, Or.inl x2⟩
        · exact ⟨x1, Or.inr ⟨x2, x3, by rw [← h j j0 x1, ← h k a b]; exact x4⟩⟩
      · rintro ⟨x1, x2 | ⟨x2, x3, x4⟩⟩
        · exact ⟨x1, Or.inl x2⟩
        · exact ⟨x1, Or.inr ⟨x2, x3, by rw [h j j0 x1, h k a b]; exact x4⟩⟩
    cases hb : B (kin' k) j <;> cases hb2 : B (kin k) j
    · rfl
    · exact absurd (e3.mpr hb2) (by rw [hb]; decide)
    · exact absurd (e3.mp hb) (by rw [hb2]; decide)
    · rfl
set_option maxRecDepth 100000 in
set_option maxHeartbeats 4000000 in
theorem rebound_none {nd : Int} {f g : Int → Int} : lkN (fun k => decide (f k ≠ g k)) (nd - 0).toNat 0 = -1 ↔ ∀ k, 0 ≤ k → k < nd → f k = g k := by
  rcases lkN_in (fun k => decide (f k ≠ g k)) (nd - 0).toNat 0 with ⟨a1, a2⟩ | ⟨a1, a2, a3, a4⟩
  · refine ⟨fun _ k a b => ?_, fun _ => a1⟩
    have := a2 k a (by omega)
    simpa using this
  · refine ⟨fun z => by omega, fun z => ?_⟩
    have := z _ a1 (by omega)
    exact absurd this (of_decide_eq_true a3)
set_option maxRecDepth 100000 in
set_option maxHeartbeats 4000000 in
theorem ite_rg {c : Prop} [Decidable c] {x y lo hi : Int} (hx : lo ≤ x ∧ x ≤ hi) (hy : lo ≤ y ∧ y ≤ hi) : lo ≤ (if c then x else y) ∧ (if c then x else y) ≤ hi := by
  split
  · exact hx
  · exact hy
set_option maxRecDepth 100000 in
set_option maxHeartbeats 4000000 in
theorem loF_at {f : Int → Int} {t : Int} (h : loF f t ≠ -1) : f (loF f t) = t := by
  rcases lkN_in (fun o => decide (f o = t)) (4 - 0 : Int).toNat 0 with ⟨a1, -⟩ | ⟨a1, a2, a3, -⟩
  · exact absurd a1 h
  · exact of_decide_eq_true a3
section PLANS
variable {ro : Nat × (Int → Int)} {d : Nat} {Q : Option AV → AH → Prop} {hB : List AC} {tb : Int → Int} {tz : Int} {tk : Int → Int → Int} {tks : Int → Int} {tc tt : Int} {iu nm ou so pl : Int → Int} {nd : Int} {pa ba de en : Int → Int} {sc rsz fp ss cu os : Int} {a1 a2 a3 : Int → Int} {a4 : Int → Int64} {a5 b1 b2 b3 : Int → Int} {b4 : Int → Int64} {b5 : Int → Int} {le fi : Int} {xi0 : Int → Int} {xf0 xz0 xl0 : Int} {xi1 : Int → Int} {xf1 xz1 xl1 : Int} {xi2 : Int → Int} {xf2 xz2 xl2 : Int} {xi3 : Int → Int} {xf3 xz3 xl3 : Int} {IU SO PA BA F : Int → Int}
set_option maxRecDepth 100000 in
set_option maxHeartbeats 4000000 in
theorem t_isWell (hS : TS nd sc IU SO PA BA) (hA : TAg nd sc iu so pa ba IU SO PA BA) (hn : rI b1 0 25) (h3 : rI a3 (-1) 59) (g3 : rI b3 (-1) 59) (hr : rI b5 (-1) 59) (hT : ∀ s w, 0 ≤ s → s < sc → 0 ≤ w → w < 26 → b5 (s * 26 + w) = OW nd IU SO BA b1 s w) (hF : FamOK nd IU F) (hK : KinOK nd IU F a4)
    (hQ1 : ∀ kin, (∀ k, 0 ≤ k → k < nd → b3 k = a3 k) ∧ (∀ k, 0 ≤ k → k < nd → famN IU (SFv IU SO BA b1 (OW nd IU SO BA b1)) nd.toNat k = F k) → Q (some (vI 1)) ((heapC tb tz tk tks tc tt iu nm ou so pl nd pa ba de en sc rsz fp ss cu os a1 a2 a3 a4 a5 b1 b2 b3 kin b5 le fi xi0 xf0 xz0 xl0 xi1 xf1 xz1 xl1 xi2 xf2 xz2 xl2 xi3 xf3 xz3 xl3), hB))
    (hQ0 : ∀ kin, ¬ ((∀ k, 0 ≤ k → k < nd → b3 k = a3 k) ∧ (∀ k, 0 ≤ k → k < nd → famN IU (SFv IU SO BA b1 (OW nd IU SO BA b1)) nd.toNat k = F k)) → Q (some (vI 0)) ((heapC tb tz tk tks tc tt iu nm ou so pl nd pa ba de en sc rsz fp ss cu os a1 a2 a3 a4 a5 b1 b2 b3 kin b5 le fi xi0 xf0 xz0 xl0 xi1 xf1 xz1 xl1 xi2 xf2 xz2 xl2 xi3 xf3 xz3 xl3), hB)) : RNd ro (d + 3) 24 [vR 41] ((heapC tb tz tk tks tc tt iu nm ou so pl nd pa ba de en sc rsz fp ss cu os a1 a2 a3 a4 a5 b1 b2 b3 b4 b5 le fi xi0 xf0 xz0 xl0 xi1 xf1 xz1 xl1 xi2 xf2 xz2 xl2 xi3 xf3 xz3 xl3), hB) Q := by
  obtain ⟨S1, S2, S3, S4⟩ := id hS
  refine WP_run [] 20 ?_
  refine t_firstRebound S1 h3 g3 ?_
  have hl := rebound_none (nd := nd) (f := b3) (g := a3)
  have hr2 : -1 ≤ lkN (fun k => decide (b3 k ≠ a3 k)) (nd - 0).toNat 0 ∧ lkN (fun k => decide (b3 k ≠ a3 k)) (nd - 0).toNat 0 ≤ 60 := by
    rcases lkN_in (fun k => decide (b3 k ≠ a3 k)) (nd - 0).toNat 0 with ⟨a1, a2⟩ | ⟨a1, a2, -⟩ <;> omega
  refine c2 (fun q => ?_) (fun q => ?_)
  · have h9 := hl.mp q
    refine t_joinFamilies_then hS hA hn hr hT (SFok_OW hS) (fun kin hK' => ?_)
    have hks := kin_same S1.2 (TS_U01 hS) hF (famN_ok (TS_U01 hS) (SFok_OW (nn := b1) hS) nd.toNat (by omega)) hK hK'
    refine t_sameFamilies S1 (fun hy => ?_) (fun hno => ?_)
    · exact rz (hQ1 kin ⟨h9, hks.mp hy⟩)
    · exact rz (hQ0 kin (fun z => hno (hks.mpr z.2)))
  · exact rz (hQ0 b4 (fun z => q (hl.mpr z.1)))
set_option maxRecDepth 100000 in
set_option maxHeartbeats 4000000 in
theorem t_att59 {i w p : Int} (hnd : nd = cND tb tz) (hrs : rsz = tz) (htz : 0 ≤ tz ∧ tz ≤ 100) (hS : TS nd sc (cIU tb tz) (cSO tb tz) (cAR tb tz) (cEX tb tz)) (hA : TAg nd sc iu so pa ba (cIU tb tz) (cSO tb tz) (cAR tb tz) (cEX tb tz)) (hW : ∀ k, 0 ≤ k → k < nd → a1 k = cNM tb tz k ∧ a2 k = cOU tb tz k ∧ a3 k = cBT tb tz k) (hK : KinOK nd (cIU tb tz) (cFM tb tz (cNM tb tz)) a4)
    (h1 : rI a1 0 25) (h2 : rI a2 0 3) (h3 : rI a3 (-1) 59) (g1 : rI b1 0 25) (g2 : rI b2 0 3) (g3 : rI b3 (-1) 59) (g5 : rI b5 (-1) 59) (hT : ∀ s w, 0 ≤ s → s < sc → 0 ≤ w → w < 26 → b5 (s * 26 + w) = OW nd (cIU tb tz) (cSO tb tz) (cEX tb tz) b1 s w)
    (hF : FamOK nd (cIU tb tz) (cFM tb tz (cNM tb tz))) (hsp : ¬ (p = 2 ∧ spr (cND tb tz) (cNM tb tz) = -1)) (hb : ∀ k, 0 ≤ k → k < nd → b1 k = cNN tb tz i w p k ∧ b2 k = cOO tb tz p (cNN tb tz i w p) k ∧ (b3 k = a3 k ↔ (cIU tb tz k = 1 → cBo tb tz (cNN tb tz i w p) k (cOO tb tz p (cNN tb tz i w p) k) = cBT tb tz k)))
    (hOn : Once nd (cIU tb tz) (cSO tb tz) (cNN tb tz i w p)) (hQ : ∀ kin, Q (some (vI (cED tb tz i w p))) ((heapC tb tz tk tks tc tt iu nm ou so pl nd pa ba de en sc rsz fp ss cu os a1 a2 a3 a4 a5 b1 b2 b3 kin b5 le fi xi0 xf0 xz0 xl0 xi1 xf1 xz1 xl1 xi2 xf2 xz2 xl2 xi3 xf3 xz3 xl3), hB)) : WPm ro (d + 3) (RNd ro (d + 3)) 15 0 0 Q 59 [vR 41, vI i, vI w, vI p] [] ((heapC tb tz tk tks tc tt iu nm ou so pl nd pa ba de en sc rsz fp ss cu os a1 a2 a3 a4 a5 b1 b2 b3 b4 b5 le fi xi0 xf0 xz0 xl0 xi1 xf1 xz1 xl1 xi2 xf2 xz2 xl2 xi3 xf3 xz3 xl3), hB) 0 0 := by
  obtain ⟨S1, S2, S3, S4⟩ := id hS
  have eF : ∀ k, 0 ≤ k → k < nd → famN (cIU tb tz) (SFv (cIU tb tz) (cSO tb tz) (cEX tb tz) b1 (OW nd (cIU tb tz) (cSO tb tz) (cEX tb tz) b1)) nd.toNat k = cFM tb tz (cNN tb tz i w p) k := by
    intro k a b
    unfold cFM
    rw [← hnd]
    refine famN_ext (fun k a b => ?_) nd.toNat (by omega) k a b
    obtain ⟨x1, x2, x3⟩ := SFok_OW (nn := b1) hS k a b
    refine ⟨?_, x1, x2⟩
    unfold cSF
    refine SFv_ext hS a b (fun k a b => ⟨(hb k a b).1, by have := g1 k; omega, by have := g1 k; omega⟩) (fun s w a b c e => ?_)
    unfold cOW
    rw [← hnd]
    exact OW_ext hS (fun k a b => (hb k a b).1) b
  have eS : sumF (fun k => b2 k - a2 k) nd.toNat = sumF (fun k => cOO tb tz p (cNN tb tz i w p) k - cOU tb tz k) (cND tb tz).toNat := by
    rw [← hnd]
    exact sumF_ext _ (fun k a b => by show b2 k - a2 k = _; rw [(hb k a (by omega)).2.1, (hW k a (by omega)).2.1])
  have hsr : -3 * (nd.toNat : Int) ≤ sumF (fun k => b2 k - a2 k) nd.toNat ∧ sumF (fun k => b2 k - a2 k) nd.toNat ≤ 3 * (nd.toNat : Int) := sumF_rg _ (fun k a b => by have r1 := g2 k; have r2 := h2 k; show -3 ≤ b2 k - a2 k ∧ b2 k - a2 k ≤ 3; omega)
  refine WP_run [] 40 ?_
  refine t_isWell hS hA g1 h3 g3 g5 hT hF hK (fun kin hy => ?_) (fun kin hno => ?_)
  · refine f1 ?_
    refine t_outsAdded S1 ?_
    refine c2 (fun q => ?_) (fun q => ?_)
    · refine t_editsMade S1 h1 g1 h2 g2 ?_
      have e : cED tb tz i w p = sumF (fun k => (if b1 k ≠ a1 k then 1 else 0) + (if 0 ≤ b2 k - a2 k then b2 k - a2 k else -(b2 k - a2 k))) nd.toNat := by
        have k1 : Once (cND tb tz) (cIU tb tz) (cSO tb tz) (cNN tb tz i w p) := by rw [← hnd]; exact hOn
        have k2 : ∀ k, 0 ≤ k → k < cND tb tz → cFM tb tz (cNN tb tz i w p) k = cFM tb tz (cNM tb tz) k := fun k a b => by
          rw [← eF k a (by omega)]
          exact hy.2 k a (by omega)
        have k3 : ∀ k, 0 ≤ k → k < cND tb tz → cIU tb tz k = 1 → cBo tb tz (cNN tb tz i w p) k (cOO tb tz p (cNN tb tz i w p) k) = cBT tb tz k := fun k a b => (hb k a (by omega)).2.2.mp (hy.1 k a (by omega))
        have k4 : cBy tb tz (cOO tb tz p (cNN tb tz i w p)) ≤ 100 := by
          unfold cBy
          rw [← eS]
          omega
        rw [cED_y ⟨hsp, ⟨k1, k2, k3⟩, k4⟩]
        unfold cEt
        rw [← hnd]
        exact sumF_ext _ (fun k a b => by rw [(hb k a (by omega)).1, (hb k a (by omega)).2.1, (hW k a (by omega)).1, (hW k a (by omega)).2.1])
      have hq := hQ kin
      rw [e] at hq
      exact ri hq
    · have hq := hQ kin
      rw [cED_n (fun z => ?_)] at hq
      · exact ri hq
      · have z3 := z.2.2
        unfold cBy at z3
        rw [← eS] at z3
        omega
  · refine t1 ?_
    have hq := hQ kin
    rw [cED_n (fun z => hno ⟨fun k a b => ?_, fun k a b => ?_⟩)] at hq
    · exact ri hq
    · exact (hb k a b).2.2.mpr (z.2.1.2.2 k a (by omega))
    · rw [eF k a b]
      exact z.2.1.2.1 k a (by omega)
set_option maxRecDepth 100000 in
set_option maxHeartbeats 4000000 in
theorem cBT_dl {tx : Int → Int} {n k : Int} (hS : TS (cND tx n) (cSC tx n) (cIU tx n) (cSO tx n) (cAR tx n) (cEX tx n)) (a : 0 ≤ k) (b : k < cND tx n) : cBT tx n k = -1 ∨ (0 ≤ cBT tx n k ∧ cBT tx n k < cND tx n ∧ cIU tx n (cBT tx n k) = 0 ∧ cNM tx n (cBT tx n k) = cNM tx n k) := by
  unfold cBT
  have hu := (hS.2.2.1 k a b).1
  split
  · unfold cBN
    rcases BN_dl (nn := cNM tx n) (o := cOU tx n k) (w := cNM tx n k) hS (hS.2.2.1 k a b).2.2 with e | e
    · exact Or.inl e
    · exact Or.inr e
  · exact Or.inr ⟨a, b, by omega, rfl⟩
set_option maxRecDepth 100000 in
set_option maxHeartbeats 4000000 in
theorem cFM_ok {tx : Int → Int} {n : Int} (hS : TS (cND tx n) (cSC tx n) (cIU tx n) (cSO tx n) (cAR tx n) (cEX tx n)) : FamOK (cND tx n) (cIU tx n) (cFM tx n (cNM tx n)) :=
  famN_ok (SF := cSF tx n (cNM tx n)) (TS_U01 hS) (SFok_OW hS) (cND tx n).toNat (by have := hS.1; omega)
set_option maxRecDepth 100000 in
set_option maxHeartbeats 4000000 in
theorem t_att26 {i w p : Int} {nn0 : Int → Int} (hC : CRd tb tz fp nd sc rsz iu nm so ou pl pa ba en a1 a2 a3 a4 a5) (htz : 0 ≤ tz ∧ tz ≤ 100) (g1 : rI b1 0 25) (g2 : rI b2 0 3) (g3 : rI b3 (-1) 59) (g5 : rI b5 (-1) 59) (hi : 0 ≤ i ∧ i < nd) (hd : cIU tb tz i = 0) (hw : 0 ≤ w ∧ w < 26) (hp : 0 ≤ p ∧ p ≤ 2) (hsp : ¬ (p = 2 ∧ spr (cND tb tz) (cNM tb tz) = -1))
    (hb : ∀ k, 0 ≤ k → k < nd → b1 k = nn0 k ∧ b2 k = cOU tb tz k) (hnn : cNN tb tz i w p = cRn tb tz i w nn0)
    (hQ : ∀ b1' b2' b3' b4' b5', rI b1' 0 25 → rI b2' 0 3 → rI b3' (-1) 59 → rI b5' (-1) 59 → (cED tb tz i w p ≠ -1 → ∀ k, 0 ≤ k → k < nd → b1' k = cNN tb tz i w p k ∧ b2' k = cOO tb tz p (cNN tb tz i w p) k) → Q (some (vI (cED tb tz i w p))) ((heapC tb tz tk tks tc tt iu nm ou so pl nd pa ba de en sc rsz fp ss cu os a1 a2 a3 a4 a5 b1' b2' b3' b4' b5' le fi xi0 xf0 xz0 xl0 xi1 xf1 xz1 xl1 xi2 xf2 xz2 xl2 xi3 xf3 xz3 xl3), hB)) : WPm ro (d + 3) (RNd ro (d + 3)) 15 0 0 Q 26 [vR 41, vI i, vI w, vI p] [] ((heapC tb tz tk tks tc tt iu nm ou so pl nd pa ba de en sc rsz fp ss cu os a1 a2 a3 a4 a5 b1 b2 b3 b4 b5 le fi xi0 xf0 xz0 xl0 xi1 xf1 xz1 xl1 xi2 xf2 xz2 xl2 xi3 xf3 xz3 xl3), hB) 0 0 := by
  obtain ⟨⟨hfp, hnd, hsc, hrs⟩, hS, hA, hN, hW, hTa, hK, hR0, h1, h2, h3, h5⟩ := id hC
  obtain ⟨S1, S2, S3, S4⟩ := id hS
  have hSc : TS (cND tb tz) (cSC tb tz) (cIU tb tz) (cSO tb tz) (cAR tb tz) (cEX tb tz) := by rw [← hnd, ← hsc]; exact hS
  have hF : FamOK nd (cIU tb tz) (cFM tb tz (cNM tb tz)) := by rw [hnd]; exact cFM_ok hSc
  have hBT : ∀ k, 0 ≤ k → k < nd → cBT tb tz k = -1 ∨ (0 ≤ cBT tb tz k ∧ cBT tb tz k < nd ∧ cIU tb tz (cBT tb tz k) = 0) := fun k a b => by
    rcases cBT_dl hSc a (by omega) with e | ⟨e1, e2, e3, -⟩
    · exact Or.inl e
    · exact Or.inr ⟨e1, by omega, e3⟩
  refine WP_run [59] 40 ?_
  refine t_giveName (IU := cIU tb tz) (F := cFM tb tz (cNM tb tz)) (BT := cBT tb tz) S1 hi hd (fun k a b => (hW k a b).2.2) hBT hK ?_
  have gf : rI (fb b1 (fun k => if cBT tb tz k ≠ -1 ∧ cFM tb tz (cNM tb tz) (cBT tb tz k) = cFM tb tz (cNM tb tz) i then w else b1 k) 0 nd) 0 25 := by
    exact rI_fb g1 (fun k a b => ite_rg (by omega) (g1 k))
  have ef : ∀ k, 0 ≤ k → k < nd → fb b1 (fun k => if cBT tb tz k ≠ -1 ∧ cFM tb tz (cNM tb tz) (cBT tb tz k) = cFM tb tz (cNM tb tz) i then w else b1 k) 0 nd k = cNN tb tz i w p k := by
    intro k a b
    rw [fb_in a b, hnn]
    unfold cRn
    rw [(hb k a b).1]
  generalize fb b1 (fun k => if cBT tb tz k ≠ -1 ∧ cFM tb tz (cNM tb tz) (cBT tb tz k) = cFM tb tz (cNM tb tz) i then w else b1 k) 0 nd = f at gf ef ⊢
  have hOe : Once nd (cIU tb tz) (cSO tb tz) f ↔ Once nd (cIU tb tz) (cSO tb tz) (cNN tb tz i w p) := by
    constructor
    · intro h x y x0 xy y1 u1 u2 s1 n1
      exact h x y x0 xy y1 u1 u2 s1 (by rw [ef x x0 (by omega), ef y (by omega) y1]; exact n1)
    · intro h x y x0 xy y1 u1 u2 s1 n1
      exact h x y x0 xy y1 u1 u2 s1 (by rw [← ef x x0 (by omega), ← ef y (by omega) y1]; exact n1)
  refine t_fillTable_then hS hA gf g5 (fun t ht hT => ⟨fun hon => ?_, fun hon => ?_⟩)
  · refine t1 ?_
    refine t_bindAll_then hS hA gf g2 hT ht ?_
    have eB : ∀ k o, 0 ≤ k → k < nd → lkp (cAR tb tz) (OW nd (cIU tb tz) (cSO tb tz) (cEX tb tz) f) (f k) 10 (goOut (cAR tb tz) o.toNat (cSO tb tz k)) = cBo tb tz (cNN tb tz i w p) k o := by
      intro k o a b
      have e := BN_ext (o := o) (w := f k) hS ef (S3 k a b).2.2
      unfold cBo
      rw [← hnd, ← ef k a b, ← e]
      rfl
    have e3 : ∀ k, 0 ≤ k → k < nd → fb b3 (fun k => if cIU tb tz k = 1 then lkp (cAR tb tz) (OW nd (cIU tb tz) (cSO tb tz) (cEX tb tz) f) (f k) 10 (goOut (cAR tb tz) (b2 k).toNat (cSO tb tz k)) else k) 0 nd k = if cIU tb tz k = 1 then cBo tb tz (cNN tb tz i w p) k (cOU tb tz k) else k := by
      intro k a b
      rw [fb_in a b, eB k _ a b, (hb k a b).2]
    have g3' : rI (fb b3 (fun k => if cIU tb tz k = 1 then lkp (cAR tb tz) (OW nd (cIU tb tz) (cSO tb tz) (cEX tb tz) f) (f k) 10 (goOut (cAR tb tz) (b2 k).toNat (cSO tb tz k)) else k) 0 nd) (-1) 59 := by
      refine rI_fb g3 (fun k a b => ite_rg ?_ (by omega))
      rcases BN_dl (nn := f) (o := b2 k) (w := f k) hS (S3 k a b).2.2 with e | ⟨z1, z2, -⟩
      · exact (show -1 ≤ BN nd (cIU tb tz) (cSO tb tz) (cAR tb tz) (cEX tb tz) f (cSO tb tz k) (b2 k) (f k) ∧ BN nd (cIU tb tz) (cSO tb tz) (cAR tb tz) (cEX tb tz) f (cSO tb tz k) (b2 k) (f k) ≤ 59 by rw [e]; omega)
      · exact (show -1 ≤ BN nd (cIU tb tz) (cSO tb tz) (cAR tb tz) (cEX tb tz) f (cSO tb tz k) (b2 k) (f k) ∧ BN nd (cIU tb tz) (cSO tb tz) (cAR tb tz) (cEX tb tz) f (cSO tb tz k) (b2 k) (f k) ≤ 59 by omega)
    generalize fb b3 (fun k => if cIU tb tz k = 1 then lkp (cAR tb tz) (OW nd (cIU tb tz) (cSO tb tz) (cEX tb tz) f) (f k) 10 (goOut (cAR tb tz) (b2 k).toNat (cSO tb tz k)) else k) 0 nd = g at e3 g3' ⊢
    have eBT : ∀ k, 0 ≤ k → k < nd → cIU tb tz k ≠ 1 → cBT tb tz k = k := fun k a b z => by unfold cBT; rw [if_neg z]
    refine c1 (fun q => ?_) (fun q => ?_)
    · refine t_att59 hnd hrs htz hS hA hW hK h1 h2 h3 gf g2 g3' ht hT hF hsp (fun k a b => ?_) (hOe.mp hon) (fun kin => ?_)
      · have eo : cOO tb tz p (cNN tb tz i w p) k = cOU tb tz k := by unfold cOO; rw [if_pos (Or.inl q)]
        refine ⟨ef k a b, by rw [eo]; exact (hb k a b).2, ?_⟩
        rw [eo, e3 k a b, (hW k a b).2.2]
        by_cases u : cIU tb tz k = 1
        · rw [if_pos u]
          exact ⟨fun z _ => z, fun z => z u⟩
        · rw [if_neg u, eBT k a b u]
          exact ⟨fun _ z => absurd z u, fun _ => rfl⟩
      · refine hQ f b2 g kin t gf g2 g3' ht (fun _ k a b => ⟨ef k a b, ?_⟩)
        unfold cOO
        rw [if_pos (Or.inl q)]
        exact (hb k a b).2
    · have hT2 : ∀ s w, 0 ≤ s → s < sc → -1 ≤ OW nd (cIU tb tz) (cSO tb tz) (cEX tb tz) f s w ∧ OW nd (cIU tb tz) (cSO tb tz) (cEX tb tz) f s w ≤ 59 := fun s w a b => OW_rg hS b
      refine t_repairOuts hS hA gf h3 g3' hT hT2 ht ?_
      have eL : ∀ k, 0 ≤ k → k < nd → loF (fun o => lkp (cAR tb tz) (OW nd (cIU tb tz) (cSO tb tz) (cEX tb tz) f) (f k) 10 (goOut (cAR tb tz) o.toNat (cSO tb tz k))) (a3 k) = cLo tb tz (cNN tb tz i w p) k := by
        intro k a b
        unfold cLo
        rw [(hW k a b).2.2]
        congr 1
        funext o
        exact eB k o a b
      have eo : ∀ k, 0 ≤ k → k < nd → fb b2 (fun k => if g k = a3 k ∨ loF (fun o => lkp (cAR tb tz) (OW nd (cIU tb tz) (cSO tb tz) (cEX tb tz) f) (f k) 10 (goOut (cAR tb tz) o.toNat (cSO tb tz k))) (a3 k) = -1 then b2 k else loF (fun o => lkp (cAR tb tz) (OW nd (cIU tb tz) (cSO tb tz) (cEX tb tz) f) (f k) 10 (goOut (cAR tb tz) o.toNat (cSO tb tz k))) (a3 k)) 0 nd k = cOO tb tz p (cNN tb tz i w p) k := by
        intro k a b
        have hu := (S3 k a b).1
        rw [fb_in a b, eL k a b, (hb k a b).2, e3 k a b, (hW k a b).2.2]
        unfold cOO
        by_cases u : cIU tb tz k = 1
        · rw [if_pos u]
          by_cases hc : cBo tb tz (cNN tb tz i w p) k (cOU tb tz k) = cBT tb tz k ∨ cLo tb tz (cNN tb tz i w p) k = -1
          · rw [if_pos hc, if_pos (Or.inr (Or.inr hc))]
          · rw [if_neg hc, if_neg (fun z => z.elim q (fun z => z.elim (fun z => by omega) hc))]
        · rw [if_neg u, if_pos (Or.inl (eBT k a b u).symm), if_pos (Or.inr (Or.inl (by omega)))]
      have ek : ∀ k, 0 ≤ k → k < nd → fb g (fun k => if g k = a3 k ∨ loF (fun o => lkp (cAR tb tz) (OW nd (cIU tb tz) (cSO tb tz) (cEX tb tz) f) (f k) 10 (goOut (cAR tb tz) o.toNat (cSO tb tz k))) (a3 k) = -1 then g k else a3 k) 0 nd k = if g k = a3 k ∨ cLo tb tz (cNN tb tz i w p) k = -1 then g k else a3 k := by
        intro k a b
        rw [fb_in a b, eL k a b]
      have gr2 : rI (fb b2 (fun k => if g k = a3 k ∨ loF (fun o => lkp (cAR tb tz) (OW nd (cIU tb tz) (cSO tb tz) (cEX tb tz) f) (f k) 10 (goOut (cAR tb tz) o.toNat (cSO tb tz k))) (a3 k) = -1 then b2 k else loF (fun o => lkp (cAR tb tz) (OW nd (cIU tb tz) (cSO tb tz) (cEX tb tz) f) (f k) 10 (goOut (cAR tb tz) o.toNat (cSO tb tz k))) (a3 k)) 0 nd) 0 3 := by
        refine rI_fb g2 (fun k a b => ?_)
        have lr := loF_rg (fun o => lkp (cAR tb tz) (OW nd (cIU tb tz) (cSO tb tz) (cEX tb tz) f) (f k) 10 (goOut (cAR tb tz) o.toNat (cSO tb tz k))) (a3 k)
        split
        · exact g2 k
        · rename_i hh
          have : loF (fun o => lkp (cAR tb tz) (OW nd (cIU tb tz) (cSO tb tz) (cEX tb tz) f) (f k) 10 (goOut (cAR tb tz) o.toNat (cSO tb tz k))) (a3 k) ≠ -1 := fun z => hh (Or.inr z)
          omega
      have gr3 : rI (fb g (fun k => if g k = a3 k ∨ loF (fun o => lkp (cAR tb tz) (OW nd (cIU tb tz) (cSO tb tz) (cEX tb tz) f) (f k) 10 (goOut (cAR tb tz) o.toNat (cSO tb tz k))) (a3 k) = -1 then g k else a3 k) 0 nd) (-1) 59 := rI_fb g3' (fun k a b => ite_rg (g3' k) (h3 k))
      generalize fb b2 (fun k => if g k = a3 k ∨ loF (fun o => lkp (cAR tb tz) (OW nd (cIU tb tz) (cSO tb tz) (cEX tb tz) f) (f k) 10 (goOut (cAR tb tz) o.toNat (cSO tb tz k))) (a3 k) = -1 then b2 k else loF (fun o => lkp (cAR tb tz) (OW nd (cIU tb tz) (cSO tb tz) (cEX tb tz) f) (f k) 10 (goOut (cAR tb tz) o.toNat (cSO tb tz k))) (a3 k)) 0 nd = y2 at eo gr2 ⊢
      generalize fb g (fun k => if g k = a3 k ∨ loF (fun o => lkp (cAR tb tz) (OW nd (cIU tb tz) (cSO tb tz) (cEX tb tz) f) (f k) 10 (goOut (cAR tb tz) o.toNat (cSO tb tz k))) (a3 k) = -1 then g k else a3 k) 0 nd = y3 at ek gr3 ⊢
      refine t_att59 hnd hrs htz hS hA hW hK h1 h2 h3 gf gr2 gr3 ht hT hF hsp (fun k a b => ⟨ef k a b, eo k a b, ?_⟩) (hOe.mp hon) (fun kin => ?_)
      · have hu := (S3 k a b).1
        rw [ek k a b, e3 k a b, (hW k a b).2.2]
        by_cases u : cIU tb tz k = 1
        · rw [if_pos u]
          unfold cOO
          by_cases hc : cBo tb tz (cNN tb tz i w p) k (cOU tb tz k) = cBT tb tz k ∨ cLo tb tz (cNN tb tz i w p) k = -1
          · rw [if_pos hc, if_pos (Or.inr (Or.inr hc))]
            exact ⟨fun z _ => z, fun z => z u⟩
          · rw [if_neg hc, if_neg (fun z => z.elim q (fun z => z.elim (fun z => by omega) hc))]
            exact ⟨fun _ _ => loF_at (fun z => hc (Or.inr z)), fun _ => rfl⟩
        · rw [if_neg u, if_pos (Or.inl (eBT k a b u).symm)]
          exact ⟨fun _ z => absurd z u, fun _ => (eBT k a b u).symm⟩
      · exact hQ f y2 y3 kin t gf gr2 gr3 ht (fun _ k a b => ⟨ef k a b, eo k a b⟩)
  · refine f1 ?_
    have hq := hQ f b2 b3 b4 t gf g2 g3 ht (fun z => absurd (cED_n (fun y => hon (hOe.mpr (by rw [hnd]; exact y.2.1.1)))) z)
    rw [cED_n (fun y => hon (hOe.mpr (by rw [hnd]; exact y.2.1.1)))] at hq
    exact ri hq
set_option maxRecDepth 100000 in
set_option maxHeartbeats 4000000 in
theorem t_attempt {i w p : Int} (hC : CRd tb tz fp nd sc rsz iu nm so ou pl pa ba en a1 a2 a3 a4 a5) (htz : 0 ≤ tz ∧ tz ≤ 100) (g1 : rI b1 0 25) (g2 : rI b2 0 3) (g3 : rI b3 (-1) 59) (g5 : rI b5 (-1) 59) (hi : 0 ≤ i ∧ i < nd) (hd : cIU tb tz i = 0) (hw : 0 ≤ w ∧ w < 26) (hp : 0 ≤ p ∧ p ≤ 2)
    (hQ : ∀ b1' b2' b3' b4' b5', rI b1' 0 25 → rI b2' 0 3 → rI b3' (-1) 59 → rI b5' (-1) 59 → (cED tb tz i w p ≠ -1 → ∀ k, 0 ≤ k → k < nd → b1' k = cNN tb tz i w p k ∧ b2' k = cOO tb tz p (cNN tb tz i w p) k) → Q (some (vI (cED tb tz i w p))) ((heapC tb tz tk tks tc tt iu nm ou so pl nd pa ba de en sc rsz fp ss cu os a1 a2 a3 a4 a5 b1' b2' b3' b4' b5' le fi xi0 xf0 xz0 xl0 xi1 xf1 xz1 xl1 xi2 xf2 xz2 xl2 xi3 xf3 xz3 xl3), hB)) : RNd ro (d + 4) 15 [vR 41, vI i, vI w, vI p] ((heapC tb tz tk tks tc tt iu nm ou so pl nd pa ba de en sc rsz fp ss cu os a1 a2 a3 a4 a5 b1 b2 b3 b4 b5 le fi xi0 xf0 xz0 xl0 xi1 xf1 xz1 xl1 xi2 xf2 xz2 xl2 xi3 xf3 xz3 xl3), hB) Q := by
  obtain ⟨⟨hfp, hnd, hsc, hrs⟩, hS, hA, hN, hW, hTa, hK, hR0, h1, h2, h3, h5⟩ := id hC
  obtain ⟨S1, S2, S3, S4⟩ := id hS
  have k1 : rI (cpZ a1 b1 0 0 60) 0 25 := rI_cp h1 g1
  have k2 : rI (cpZ a2 b2 0 0 60) 0 3 := rI_cp h2 g2
  have m1' : ∀ k, 0 ≤ k → k < nd → cpZ a1 b1 0 0 60 k = cNM tb tz k := fun k a b => by rw [cpZ_60 a (by omega)]; exact (hW k a b).1
  have m2' : ∀ k, 0 ≤ k → k < nd → cpZ a2 b2 0 0 60 k = cOU tb tz k := fun k a b => by rw [cpZ_60 a (by omega)]; exact (hW k a b).2.1
  refine WP_run [26] 40 ?_
  refine t_takeSpelling ?_
  refine c2 (fun q => ?_) (fun q => ?_)
  · exact t_att26 hC htz k1 k2 g3 g5 hi hd hw hp (fun z => q z.1) (fun k a b => ⟨m1' k a b, m2' k a b⟩) (by unfold cNN; rw [if_neg q]) hQ
  · have sr := spr_rg nd (cNM tb tz)
    refine t_pushAway (NM := cNM tb tz) (BT := cBT tb tz) S1 hw (fun k a b => ⟨(hW k a b).1, (hW k a b).2.2⟩) h1 h3 (fun h0 => ?_) (fun h0 => ?_)
    · refine f1 ?_
      have hq := hQ _ _ b3 b4 b5 k1 k2 g3 g5 (fun z => absurd (cED_n (fun y => y.1 ⟨q, by rw [← hnd]; exact h0⟩)) z)
      rw [cED_n (fun y => y.1 ⟨q, by rw [← hnd]; exact h0⟩)] at hq
      exact ri hq
    · refine t1 ?_
      refine t_att26 (nn0 := cPs tb tz w (cNM tb tz)) hC htz (rI_fb k1 (fun k a b => ite_rg (by omega) (k1 k))) k2 g3 g5 hi hd hw hp (fun z => h0 (by rw [hnd]; exact z.2)) (fun k a b => ⟨?_, m2' k a b⟩) (by unfold cNN; rw [if_pos q]) hQ
      rw [fb_in a b]
      unfold cPs
      rw [m1' k a b, ← hnd]
end PLANS
