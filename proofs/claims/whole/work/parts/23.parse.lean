/-! ===== the text read, as a function; bits of an int ===== -/
theorem t1 {x : Int} {A B C D : Prop} (hb : B) (hn : ¬ C := by omega) (hx : rg x := by (unfold rg; omega)) : rg x ∧ (A → B) ∧ (C → D) := ⟨hx, fun _ => hb, fun q => absurd q hn⟩
theorem f1 {x : Int} {A B C D : Prop} (hd : D) (hn : ¬ A := by omega) (hx : rg x := by (unfold rg; omega)) : rg x ∧ (A → B) ∧ (C → D) := ⟨hx, fun q => absurd q hn, fun _ => hd⟩
theorem t2 {x y : Int} {A B C D : Prop} (hb : B) (hn : ¬ C := by omega) (hx : rg x := by (unfold rg; omega)) (hy : rg y := by (unfold rg; omega)) : rg x ∧ rg y ∧ (A → B) ∧ (C → D) := ⟨hx, hy, fun _ => hb, fun q => absurd q hn⟩
theorem f2 {x y : Int} {A B C D : Prop} (hd : D) (hn : ¬ A := by omega) (hx : rg x := by (unfold rg; omega)) (hy : rg y := by (unfold rg; omega)) : rg x ∧ rg y ∧ (A → B) ∧ (C → D) := ⟨hx, hy, fun q => absurd q hn, fun _ => hd⟩
/-- a case of a switch taken, or passed -/
theorem st {x v : Int} {A B : Prop} (ha : A) (h : x = v := by omega) : (x = v → A) ∧ (¬ x = v → B) := ⟨fun _ => ha, fun q => absurd h q⟩
theorem sf {x v : Int} {A B : Prop} (hb : B) (h : ¬ x = v := by omega) : (x = v → A) ∧ (¬ x = v → B) := ⟨fun q => absurd q h, fun _ => hb⟩
def bt (x : Int) (w : Nat) : Bool := (iI x).toBitVec.getLsbD w
theorem iw31 (w : Nat) (h : w < 32) : iI (w : Int) &&& 31 = iI (w : Int) := by
  have : ∀ w : Fin 32, iI ((w : Nat) : Int) &&& 31 = iI ((w : Nat) : Int) := by decide +kernel
  exact this ⟨w, h⟩
theorem shl_pow (w : Nat) (h : w < 32) : (iI 1 <<< (iI (w : Int) &&& 31)).toBitVec = BitVec.twoPow 32 w := by
  have : ∀ w : Fin 32, (iI 1 <<< (iI ((w : Nat) : Int) &&& 31)).toBitVec = BitVec.twoPow 32 w := by decide +kernel
  exact this ⟨w, h⟩
theorem iI_shlZ (w : Nat) (h : w < 32) : (iI (shlZ 1 (w : Int))).toBitVec = BitVec.twoPow 32 w := by
  unfold shlZ
  rw [iI_back, shl_pow w h]
theorem bt_and (x : Int) (w : Nat) (h : w < 32) : andZ x (shlZ 1 (w : Int)) = 0 ↔ bt x w = false := by
  unfold andZ bt
  have e : (iI x &&& iI (shlZ 1 (w : Int))).toBitVec = (iI x).toBitVec &&& BitVec.twoPow 32 w := by
    show (iI x).toBitVec &&& (iI (shlZ 1 (w : Int))).toBitVec = _
    rw [iI_shlZ w h]
  rw [show (0 : Int) = (0 : Int32).toInt from rfl, Int32.toInt_inj, ← Int32.toBitVec_inj, e, BitVec.and_twoPow]
  cases hb : (iI x).toBitVec.getLsbD w with
  | false => simp
  | true =>
    simp only [if_true, Bool.true_eq_false, iff_false]
    intro q
    have := congrArg (fun z : BitVec 32 => z.getLsbD w) q
    simp [BitVec.getLsbD_twoPow, h] at this
theorem bt_or (x : Int) (w v : Nat) (h : w < 32) : bt (orZ x (shlZ 1 (w : Int))) v = (bt x v || decide (w = v)) := by
  unfold orZ bt
  rw [iI_back]
  show ((iI x).toBitVec ||| (iI (shlZ 1 (w : Int))).toBitVec).getLsbD v = _
  rw [iI_shlZ w h, BitVec.getLsbD_or, BitVec.getLsbD_twoPow]
  simp [h]
theorem bt_0 (v : Nat) : bt 0 v = false := by
  unfold bt
  rw [iI_0]
  show (0#32).getLsbD v = false
  simp
theorem rg_andZ (x y : Int) : rg (andZ x y) := rg_toInt _
theorem rg_orZ (x y : Int) : rg (orZ x y) := rg_toInt _
theorem rg_shlZ (x y : Int) : rg (shlZ x y) := rg_toInt _
/-- whether a declaration of that name stands in that scope among the first n nodes -/
def twB (iu so nm : Int → Int) (a w : Int) : Nat → Bool
  | 0 => false
  | n + 1 => twB iu so nm a w n || (decide (iu n = 0) && decide (so n = a) && decide (nm n = w))
theorem twB_iff (iu so nm : Int → Int) (a w : Int) : ∀ n : Nat, twB iu so nm a w n = true ↔ ∃ k : Int, 0 ≤ k ∧ k < n ∧ iu k = 0 ∧ so k = a ∧ nm k = w
  | 0 => ⟨fun h => (by cases h), fun ⟨k, h1, h2, _⟩ => absurd h2 (by omega)⟩
  | n + 1 => by
    unfold twB
    rw [Bool.or_eq_true, twB_iff iu so nm a w n]
    simp only [Bool.and_eq_true, decide_eq_true_eq]
    constructor
    · rintro (⟨k, h1, h2, h3⟩ | ⟨⟨h1, h2⟩, h3⟩)
      · exact ⟨k, h1, by omega, h3⟩
      · exact ⟨n, by omega, by omega, h1, h2, h3⟩
    · rintro ⟨k, h1, h2, h3, h4, h5⟩
      by_cases e : k = n
      · subst e
        exact Or.inr ⟨⟨h3, h4⟩, h5⟩
      · exact Or.inl ⟨k, h1, by omega, h3, h4, h5⟩
/-- one byte: it cannot go on (F), or the state behind it (K). here: 0 ahead of an item, 1 behind +, 2 behind ^, 3 behind {, 4 behind {< -/
def pstep {α : Type} (b p he at_ out nd sc : Int) (iu nm so ou pl ar ex en : Int → Int) (F : α)
    (K : Int → Int → Int → Int → Int → (Int → Int) → (Int → Int) → (Int → Int) → (Int → Int) → (Int → Int) → (Int → Int) → (Int → Int) → (Int → Int) → α) : α :=
  if (97 ≤ b ∧ b ≤ 122) ∧ he ≠ 4 then
    if nd = 60 ∨ (he = 1 ∧ twB iu so nm at_ (b - 97) nd.toNat = true) then F
    else K 0 at_ 0 (nd + 1) sc (upZ iu nd (if he = 1 then 0 else 1)) (upZ nm nd (b - 97)) (upZ so nd at_) (upZ ou nd out) (upZ pl nd p) ar ex en
  else if b = 43 ∧ (he = 0 ∨ he = 3) then K 1 at_ out nd sc iu nm so ou pl ar ex en
  else if b = 94 ∧ ((he = 0 ∨ he = 3) ∨ he = 2) ∧ out < 3 then K 2 at_ (out + 1) nd sc iu nm so ou pl ar ex en
  else if b = 123 ∧ (he = 0 ∨ he = 3) ∧ sc < 10 then K 3 sc out nd (sc + 1) iu nm so ou pl (upZ ar sc at_) (upZ ex sc (-1)) (upZ en sc 0)
  else if b = 125 ∧ (he = 0 ∨ he = 3) ∧ at_ ≠ 0 then K 0 (ar at_) out nd sc iu nm so ou pl ar ex (upZ en at_ 1)
  else if b = 60 ∧ he = 3 then K 4 at_ out nd sc iu nm so ou pl ar ex en
  else if he = 4 ∧ (49 ≤ b ∧ b ≤ 57) ∧ b - 48 < at_ ∧ en (b - 48) = 1 then K 0 at_ out nd sc iu nm so ou pl ar (upZ ex at_ (b - 48)) en
  else F
/-- the bytes from i on; the end: the fault (-1: none), nodes, scopes -/
def parse {α : Type} (tx : Int → Int) (n : Int) (E : Int → Int → Int → (Int → Int) → (Int → Int) → (Int → Int) → (Int → Int) → (Int → Int) → (Int → Int) → (Int → Int) → (Int → Int) → α) :
    Nat → Int → Int → Int → Int → Int → Int → (Int → Int) → (Int → Int) → (Int → Int) → (Int → Int) → (Int → Int) → (Int → Int) → (Int → Int) → (Int → Int) → α
  | 0, _, he, at_, _, nd, sc, iu, nm, so, ou, pl, ar, ex, en => E (if at_ ≠ 0 ∨ he = 1 ∨ he = 2 then n else -1) nd sc iu nm so ou pl ar ex en
  | f + 1, i, he, at_, out, nd, sc, iu, nm, so, ou, pl, ar, ex, en =>
    pstep (tx i) i he at_ out nd sc iu nm so ou pl ar ex en (E i nd sc iu nm so ou pl ar ex en)
      (fun he at_ out nd sc iu nm so ou pl ar ex en => parse tx n E f (i + 1) he at_ out nd sc iu nm so ou pl ar ex en)
