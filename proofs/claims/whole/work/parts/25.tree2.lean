/-! ===== class Tree: a byte, the text ===== -/
def hr (ss : Int) : Int := if ss = 0 then 0 else if ss = 3 then 1 else if ss = 4 then 2 else if ss = 1 then 3 else 4
def DB (nd sc : Int) (iu nm so de : Int → Int) : Prop := ∀ (s : Int) (w : Nat), 0 ≤ s → s < sc → w < 26 → (bt (de s) w = true ↔ twB iu so nm s (w : Int) nd.toNat = true)
/-- ranges of the rows of a tree -/
def RTr (iu nm so ou pl pa ba : Int → Int) : Prop := rI iu 0 1 ∧ rI nm 0 25 ∧ rI so 0 9 ∧ rI ou 0 3 ∧ rI pl 0 99 ∧ rI pa (-1) 9 ∧ rI ba (-1) 9 ∧ (∀ s, 0 ≤ s → pa s < s) ∧ (∀ s, 0 ≤ s → ba s < s)
def TI (ss cu os nd sc : Int) (iu nm so ou pl pa ba de en : Int → Int) : Prop :=
  (0 ≤ ss ∧ ss ≤ 4) ∧ (0 ≤ cu ∧ cu < sc) ∧ sc ≤ 10 ∧ (0 ≤ os ∧ os ≤ 3) ∧ (0 ≤ nd ∧ nd ≤ 60) ∧ ((ss = 1 ∨ ss = 2) → cu = sc - 1 ∧ 0 < cu ∧ en cu = 0) ∧ en 0 = 0 ∧ (∀ s, 1 ≤ s → s < sc → 0 ≤ pa s) ∧ rI en 0 1 ∧ DB nd sc iu nm so de ∧ RTr iu nm so ou pl pa ba
set_option maxRecDepth 100000 in
set_option maxHeartbeats 4000000 in
theorem twB_ext {iu so nm iu' so' nm' : Int → Int} {a w : Int} : ∀ n : Nat, (∀ k : Int, 0 ≤ k → k < n → iu k = iu' k ∧ so k = so' k ∧ nm k = nm' k) → twB iu so nm a w n = twB iu' so' nm' a w n
  | 0, _ => rfl
  | n + 1, h => by
    unfold twB
    rw [twB_ext n (fun k h1 h2 => h k h1 (by omega))]
    obtain ⟨e1, e2, e3⟩ := h n (by omega) (by omega)
    rw [e1, e2, e3]
set_option maxRecDepth 100000 in
set_option maxHeartbeats 4000000 in
theorem twB_add {iu so nm : Int → Int} {nd u x w a v : Int} (h0 : 0 ≤ nd) : twB (upZ iu nd u) (upZ so nd x) (upZ nm nd w) a v (nd + 1).toNat = (twB iu so nm a v nd.toNat || (decide (u = 0) && decide (x = a) && decide (w = v))) := by
  rw [show (nd + 1).toNat = nd.toNat + 1 by omega]
  show (twB (upZ iu nd u) (upZ so nd x) (upZ nm nd w) a v nd.toNat || (decide (upZ iu nd u (nd.toNat : Nat) = 0) && decide (upZ so nd x (nd.toNat : Nat) = a) && decide (upZ nm nd w (nd.toNat : Nat) = v))) = _
  rw [twB_ext (iu' := iu) (so' := so) (nm' := nm) nd.toNat (fun k h1 h2 => ⟨upZ_n (by omega), upZ_n (by omega), upZ_n (by omega)⟩)]
  rw [show ((nd.toNat : Nat) : Int) = nd by omega, upZ_s, upZ_s, upZ_s]
set_option maxRecDepth 100000 in
set_option maxHeartbeats 4000000 in
theorem DB_use {nd sc cu w : Int} {iu nm so de : Int → Int} (h : DB nd sc iu nm so de) (h0 : 0 ≤ nd) : DB (nd + 1) sc (upZ iu nd 1) (upZ nm nd w) (upZ so nd cu) de := by
  intro s v h1 h2 h3
  rw [twB_add h0, h s v h1 h2 h3]
  simp
set_option maxRecDepth 100000 in
set_option maxHeartbeats 4000000 in
theorem DB_decl {nd sc cu : Int} {w : Nat} {iu nm so de : Int → Int} (h : DB nd sc iu nm so de) (h0 : 0 ≤ nd) (hw : w < 26) : DB (nd + 1) sc (upZ iu nd 0) (upZ nm nd (w : Int)) (upZ so nd cu) (upZ de cu (orZ (de cu) (shlZ 1 (w : Int)))) := by
  intro s v h1 h2 h3
  rw [twB_add h0]
  by_cases e : s = cu
  · subst e
    rw [upZ_s, bt_or _ _ _ (by omega), Bool.or_eq_true, Bool.or_eq_true, h s v h1 h2 h3, show decide ((w : Int) = (v : Int)) = decide (w = v) from decide_eq_decide.mpr (by omega)]
    simp
  · rw [upZ_n e, h s v h1 h2 h3]
    simp
    intro q
    exact absurd q.symm e
set_option maxRecDepth 100000 in
set_option maxHeartbeats 4000000 in
theorem DB_open {nd sc : Int} {iu nm so de : Int → Int} (h : DB nd sc iu nm so de) (hso : ∀ k, 0 ≤ k → k < nd → so k < sc) (h0 : 0 ≤ nd) : DB nd (sc + 1) iu nm so (upZ de sc 0) := by
  intro s v h1 h2 h3
  by_cases e : s = sc
  · subst e
    rw [upZ_s, bt_0, twB_iff]
    simp
    intro k g1 g2 _ g4
    have := hso k g1 (by omega)
    omega
  · rw [upZ_n e]
    exact h s v h1 (by omega) h3
section TREE2
variable {ro : Nat × (Int → Int)} {d : Nat} {Q : Option AV → AH → Prop} {hB : List AC} {tb : Int → Int} {tz : Int} {tk : Int → Int → Int} {tks : Int → Int} {tc tt : Int} {iu nm ou so pl : Int → Int} {nd : Int} {pa ba de en : Int → Int} {sc rsz fp ss cu os : Int} {a1 a2 a3 : Int → Int} {a4 : Int → Int64} {a5 b1 b2 b3 : Int → Int} {b4 : Int → Int64} {b5 : Int → Int} {le fi : Int} {xi0 : Int → Int} {xf0 xz0 xl0 : Int} {xi1 : Int → Int} {xf1 xz1 xl1 : Int} {xi2 : Int → Int} {xf2 xz2 xl2 : Int} {xi3 : Int → Int} {xf3 xz3 xl3 : Int}
set_option maxRecDepth 100000 in
set_option maxHeartbeats 4000000 in
theorem t_beginsItem {b p : Int} (hb : rg b) (hsc : 0 ≤ sc ∧ sc ≤ 10) (hcu : 0 ≤ cu ∧ cu < 10) (hn : 0 ≤ nd ∧ nd ≤ 60)
    (g43 : b = 43 → Q (some (vI 1)) ((heapC tb tz tk tks tc tt iu nm ou so pl nd pa ba de en sc rsz fp 3 cu os a1 a2 a3 a4 a5 b1 b2 b3 b4 b5 le fi xi0 xf0 xz0 xl0 xi1 xf1 xz1 xl1 xi2 xf2 xz2 xl2 xi3 xf3 xz3 xl3), hB)) (g94 : b = 94 → Q (some (vI 1)) ((heapC tb tz tk tks tc tt iu nm ou so pl nd pa ba de en sc rsz fp 4 cu 1 a1 a2 a3 a4 a5 b1 b2 b3 b4 b5 le fi xi0 xf0 xz0 xl0 xi1 xf1 xz1 xl1 xi2 xf2 xz2 xl2 xi3 xf3 xz3 xl3), hB))
    (g123 : b = 123 ∧ sc < 10 → Q (some (vI 1)) ((heapC tb tz tk tks tc tt iu nm ou so pl nd (upZ pa sc cu) (upZ ba sc (-1)) (upZ de sc 0) (upZ en sc 0) (sc + 1) rsz fp 1 sc os a1 a2 a3 a4 a5 b1 b2 b3 b4 b5 le fi xi0 xf0 xz0 xl0 xi1 xf1 xz1 xl1 xi2 xf2 xz2 xl2 xi3 xf3 xz3 xl3), hB))
    (g125 : b = 125 ∧ 0 < cu → Q (some (vI 1)) ((heapC tb tz tk tks tc tt iu nm ou so pl nd pa ba de (upZ en cu 1) sc rsz fp 0 (pa cu) os a1 a2 a3 a4 a5 b1 b2 b3 b4 b5 le fi xi0 xf0 xz0 xl0 xi1 xf1 xz1 xl1 xi2 xf2 xz2 xl2 xi3 xf3 xz3 xl3), hB))
    (gL : (97 ≤ b ∧ b ≤ 122) ∧ nd < 60 → Q (some (vI 1)) ((heapC tb tz tk tks tc tt (upZ iu nd 1) (upZ nm nd (b - 97)) (upZ ou nd 0) (upZ so nd cu) (upZ pl nd p) (nd + 1) pa ba de en sc rsz fp 0 cu 0 a1 a2 a3 a4 a5 b1 b2 b3 b4 b5 le fi xi0 xf0 xz0 xl0 xi1 xf1 xz1 xl1 xi2 xf2 xz2 xl2 xi3 xf3 xz3 xl3), hB))
    (g0 : ∀ os', ¬ b = 43 → ¬ b = 94 → ¬ (b = 123 ∧ sc < 10) → ¬ (b = 125 ∧ 0 < cu) → ¬ ((97 ≤ b ∧ b ≤ 122) ∧ nd < 60) → Q (some (vI 0)) ((heapC tb tz tk tks tc tt iu nm ou so pl nd pa ba de en sc rsz fp ss cu os' a1 a2 a3 a4 a5 b1 b2 b3 b4 b5 le fi xi0 xf0 xz0 xl0 xi1 xf1 xz1 xl1 xi2 xf2 xz2 xl2 xi3 xf3 xz3 xl3), hB)) : RNd ro (d + 3) 46 [vR 25, vI b, vI p] ((heapC tb tz tk tks tc tt iu nm ou so pl nd pa ba de en sc rsz fp ss cu os a1 a2 a3 a4 a5 b1 b2 b3 b4 b5 le fi xi0 xf0 xz0 xl0 xi1 xf1 xz1 xl1 xi2 xf2 xz2 xl2 xi3 xf3 xz3 xl3), hB) Q := by
  refine WP_run [] 90 ?_
  refine m1 (And.intro (fun e => ?_) (fun e1 => And.intro (fun e => ?_) (fun e2 => And.intro (fun e => ?_) (fun e3 => And.intro (fun e => ?_) (fun e4 => ?_))))) hb
  · exact rz (g43 e)
  · exact rz (g94 e)
  · refine t_open hsc (fun q => ?_) (fun q => ?_)
    · exact rz (g0 os e1 e2 (by omega) (by omega) (by omega))
    · exact rz (g123 ⟨e, q⟩)
  · refine t_close hcu (fun q => ?_) (fun q => ?_)
    · exact rz (g0 os e1 e2 (by omega) (by omega) (by omega))
    · exact rz (g125 ⟨e, q⟩)
  · refine t_endsUse hb hn (fun q => ?_) (fun q => ?_)
    · exact rz (g0 0 e1 e2 (by omega) (by omega) q)
    · exact rz (gL q)
end TREE2
