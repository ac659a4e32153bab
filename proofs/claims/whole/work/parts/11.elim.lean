/-! ===== rows on the numbers, and on what the conditions of the abstract machine say ===== -/
theorem iI_add (a b : Int) : iI (a + b) = iI a + iI b := Int32.ofInt_add a b
theorem iI_sub (a b : Int) : iI (a - b) = iI a - iI b := Int32.ofInt_sub a b
theorem iI_mul (a b : Int) : iI (a * b) = iI a * iI b := Int32.ofInt_mul a b
theorem iI_neg (a : Int) : iI (-a) = - iI a := Int32.ofInt_neg a
theorem iI_back (x : Int32) : iI x.toInt = x := Int32.ofInt_toInt x
theorem iI_toInt {z : Int} (h : rg z) : (iI z).toInt = z := Int32.toInt_ofInt_of_le (by have := h.1; omega) (by have := h.2; omega)
theorem iI_inj {x y : Int} (hx : rg x) (hy : rg y) : iI x = iI y ↔ x = y := by
  rw [← Int32.toInt_inj, iI_toInt hx, iI_toInt hy]
theorem iI_lt {x y : Int} (hx : rg x) (hy : rg y) : iI x < iI y ↔ x < y := by
  rw [Int32.lt_iff_toInt_lt, iI_toInt hx, iI_toInt hy]
theorem iI_le {x y : Int} (hx : rg x) (hy : rg y) : iI x ≤ iI y ↔ x ≤ y := by
  rw [Int32.le_iff_toInt_le, iI_toInt hx, iI_toInt hy]
theorem iI_0 : iI 0 = 0 := by decide +kernel
theorem iI_1 : iI 1 = 1 := by decide +kernel
theorem rg_0 : rg 0 := by unfold rg; omega
theorem rg_toInt (x : Int32) : rg x.toInt := by
  have h1 := Int32.toInt_lt x
  have h2 := Int32.le_toInt x
  unfold rg
  omega
theorem iI_clamp {z : Int} (h0 : 0 ≤ z) (h : z ≤ 2147483647) : (iI z).toNatClampNeg = z.toNat := Int32.toNatClampNeg_ofInt_of_le (by omega) (by omega)
theorem ix_in {j : Int} {n : Nat} (h : IxOK j n) (hn : n ≤ 2147483647) : vp_in (iI j) n ∧ (iI j).toNatClampNeg = j.toNat ∧ ((j.toNat : Nat) : Int) = j ∧ j.toNat < n := by
  obtain ⟨h0, h1⟩ := h
  have hc : (iI j).toNatClampNeg = j.toNat := iI_clamp h0 (by omega)
  refine ⟨?_, hc, Int.toNat_of_nonneg h0, by omega⟩
  rintro (h2 | h2)
  · have : iI j < iI 0 := by rw [iI_0]; exact h2
    rw [iI_lt (by unfold rg; omega) rg_0] at this
    omega
  · rw [hc] at h2
    omega
theorem gtK_e {α : Type} {f : α → Prop} : ∀ {l : List α} {i : Nat}, gtK f l i → ∃ a, l[i]? = some a ∧ f a
  | [], _, h => h.elim
  | a :: _, 0, h => ⟨a, rfl, h⟩
  | _ :: l, n + 1, h => by
    obtain ⟨a, h1, h2⟩ := gtK_e (l := l) (i := n) h
    exact ⟨a, by rw [List.getElem?_cons_succ]; exact h1, h2⟩
theorem stK_e {α : Type} {v : α} : ∀ {l : List α} {i : Nat} {k : List α → Prop}, stK v l i k → i < l.length ∧ k (l.set i v)
  | [], _, _, h => h.elim
  | a :: l, 0, k, h => ⟨Nat.zero_lt_succ _, h⟩
  | a :: l, n + 1, k, h => by
    obtain ⟨h1, h2⟩ := stK_e (l := l) (i := n) (k := fun l' => k (a :: l')) h
    exact ⟨Nat.succ_lt_succ h1, h2⟩
theorem apK_e {α : Type} {c : α} : ∀ {l : List α} {k : List α → Prop}, apK c l k → k (l ++ [c])
  | [], _, h => h
  | x :: l, k, h => apK_e (l := l) (k := fun l' => k (x :: l')) h
theorem cond_t {b : Bool} {P : Prop} (h : cond b P False) : b = true ∧ P := by
  cases b with
  | true => exact ⟨rfl, h⟩
  | false => exact h.elim
theorem cond_c {b : Bool} {P Q : Prop} (h : cond b P Q) : (b = true ∧ P) ∨ (b = false ∧ Q) := by
  cases b with
  | true => exact Or.inl ⟨rfl, h⟩
  | false => exact Or.inr ⟨rfl, h⟩
theorem blt_t {a b : Nat} (h : Nat.blt a b = true) : a < b := Nat.le_of_ble_eq_true h
theorem blt_f {a b : Nat} (h : Nat.blt a b = false) : b ≤ a := by
  rcases Nat.lt_or_ge a b with q | q
  · have : Nat.blt a b = true := Nat.ble_eq_true_of_le q
    rw [h] at this
    cases this
  · exact q
/-- a cell of the two rows, by its number -/
def hAt (h : AH) (k : Nat) (c : AC) : Prop := (k < 200 ∧ h.1[k]? = some c) ∨ (200 ≤ k ∧ h.2[k - 200]? = some c)
def hSet (h : AH) (k : Nat) (c : AC) : AH := if k < 200 then (h.1.set k c, h.2) else (h.1, h.2.set (k - 200) c)
theorem hG_e {f : AC → Prop} {h : AH} {k : Nat} (q : hG f h k) : ∃ c, hAt h k c ∧ f c := by
  obtain ⟨a, b⟩ := h
  rcases cond_c q with ⟨h1, h2⟩ | ⟨h1, h2⟩
  · obtain ⟨c, h3, h4⟩ := gtK_e h2
    exact ⟨c, Or.inl ⟨blt_t h1, h3⟩, h4⟩
  · obtain ⟨c, h3, h4⟩ := gtK_e h2
    exact ⟨c, Or.inr ⟨blt_f h1, h3⟩, h4⟩
theorem hS_e {c : AC} {f : AH → Prop} {h : AH} {k : Nat} (q : hS c f h k) : f (hSet h k c) := by
  obtain ⟨a, b⟩ := h
  rcases cond_c q with ⟨h1, h2⟩ | ⟨h1, h2⟩
  · have := (stK_e h2).2
    unfold hSet
    rw [if_pos (blt_t h1)]
    exact this
  · have := (stK_e h2).2
    unfold hSet
    rw [if_neg (Nat.not_lt.mpr (blt_f h1))]
    exact this
theorem hN_e {c : AC} {f : Nat → AH → Prop} {h : AH} {g : Nat} (q : hN c f h g) : (g = 0 ∧ h.2 = [] ∧ h.1.length < 200 ∧ f h.1.length (h.1 ++ [c], [])) ∨ (g ≠ 0 ∧ (h.2 = [] → h.1.length = nA) ∧ (h.2 = [] ∨ h.2.length < 600) ∧ f (200 + h.2.length) (h.1, h.2 ++ [c])) := by
  obtain ⟨a, b⟩ := h
  cases g with
  | zero =>
    cases b with
    | nil =>
      obtain ⟨k, rfl, h2, h3⟩ := q
      exact Or.inl ⟨rfl, rfl, h2, apK_e h3⟩
    | cons y b => exact q.elim
  | succ g =>
    cases b with
    | nil => exact Or.inr ⟨by omega, fun _ => q.1, Or.inl rfl, q.2⟩
    | cons y b =>
      obtain ⟨k, rfl, h2, h3⟩ := q
      exact Or.inr ⟨by omega, fun z => by (cases z), Or.inr (by show b.length + 1 < 600; omega), apK_e h3⟩
theorem pI_e {st : List AV} {f : Int → List AV → Prop} (h : pI st f) : ∃ x r, st = vI x :: r ∧ f x r := by
  match st, h with
  | .inl x :: r, h => exact ⟨x, r, rfl, h⟩
theorem pL_e {st : List AV} {f : Int64 → List AV → Prop} (h : pL st f) : ∃ x r, st = vL x :: r ∧ f x r := by
  match st, h with
  | .inr (.inl x) :: r, h => exact ⟨x, r, rfl, h⟩
theorem pR_e {st : List AV} {f : Nat → List AV → Prop} (h : pR st f) : ∃ x r, st = vR x :: r ∧ f x r := by
  match st, h with
  | .inr (.inr (some x)) :: r, h => exact ⟨x, r, rfl, h⟩
theorem pV_e {st : List AV} {f : AV → List AV → Prop} (h : pV st f) : ∃ x r, st = x :: r ∧ f x r := by
  match st, h with
  | x :: r, h => exact ⟨x, r, rfl, h⟩
theorem pN_e {f : List AV → List AV → Prop} : ∀ {n : Nat} {acc st : List AV}, pN n acc st f → ∃ as r, st = as.reverse ++ r ∧ as.length = n ∧ f (as ++ acc) r
  | 0, acc, st, h => ⟨[], st, rfl, rfl, h⟩
  | n + 1, acc, v :: st, h => by
    obtain ⟨as, r, h1, h2, h3⟩ := pN_e (n := n) (acc := v :: acc) (st := st) h
    refine ⟨as ++ [v], r, ?_, ?_, ?_⟩
    · rw [List.reverse_append, h1]
      rfl
    · rw [List.length_append, h2]
      rfl
    · rw [List.append_assoc]
      exact h3
  | n + 1, acc, [], h => h.elim
theorem isI_e {v : AV} {f : Int → Prop} (h : isI v f) : ∃ x, v = vI x ∧ f x := by
  match v, h with
  | .inl x, h => exact ⟨x, rfl, h⟩
theorem isL_e {v : AV} {f : Int64 → Prop} (h : isL v f) : ∃ x, v = vL x ∧ f x := by
  match v, h with
  | .inr (.inl x), h => exact ⟨x, rfl, h⟩
theorem isR_e {v : AV} {f : Nat → Prop} (h : isR v f) : ∃ x, v = vR x ∧ f x := by
  match v, h with
  | .inr (.inr (some x)), h => exact ⟨x, rfl, h⟩
theorem isO_e {ci : Nat} {f : List AV → Prop} {c : AC} (h : isO ci f c) : ∃ fs, c = cO ci fs ∧ f fs := by
  match c, h with
  | .inr (c', fs), h =>
    obtain ⟨h1, h2⟩ := cond_t h
    obtain rfl := Nat.eq_of_beq_eq_true h1
    exact ⟨fs, rfl, h2⟩
theorem isA_e {t : Nat} {f : Nat → (Int → Int) → Prop} {c : AC} (h : isA t f c) : ∃ n g, c = .inl (t, n, .inl g) ∧ n < 100000 ∧ f n g := by
  match c, h with
  | .inl (t', n, .inl g), h =>
    obtain ⟨h1, h2⟩ := cond_t h
    obtain ⟨h3, h4⟩ := cond_t h2
    obtain rfl := Nat.eq_of_beq_eq_true h1
    exact ⟨n, g, rfl, blt_t h3, h4⟩
theorem isAL_e {f : Nat → (Int → Int64) → Prop} {c : AC} (h : isAL f c) : ∃ n g, c = cJ n g ∧ n < 100000 ∧ f n g := by
  match c, h with
  | .inl (1, n, .inr (.inl g)), h =>
    obtain ⟨h3, h4⟩ := cond_t h
    exact ⟨n, g, rfl, blt_t h3, h4⟩
theorem isAR_e {f : Nat → Nat → (Int → Option Nat) → Prop} {c : AC} (h : isAR f c) : ∃ t n g, (t = 3 ∨ t = 4) ∧ c = .inl (t, n, .inr (.inr g)) ∧ n < 100000 ∧ f t n g := by
  match c, h with
  | .inl (3, n, .inr (.inr g)), h =>
    obtain ⟨h3, h4⟩ := cond_t h
    exact ⟨3, n, g, Or.inl rfl, rfl, blt_t h3, h4⟩
  | .inl (4, n, .inr (.inr g)), h =>
    obtain ⟨h3, h4⟩ := cond_t h
    exact ⟨4, n, g, Or.inr rfl, rfl, blt_t h3, h4⟩
theorem isAny_e {f : Nat → Prop} {c : AC} (h : isAny f c) : ∃ t n g, c = .inl (t, n, g) ∧ t < 3 ∧ f n := by
  match c, h with
  | .inl (0, n, .inl g), h => exact ⟨0, n, .inl g, rfl, by omega, h⟩
  | .inl (1, n, .inr (.inl g)), h => exact ⟨1, n, .inr (.inl g), rfl, by omega, h⟩
  | .inl (2, n, .inl g), h => exact ⟨2, n, .inl g, rfl, by omega, h⟩
