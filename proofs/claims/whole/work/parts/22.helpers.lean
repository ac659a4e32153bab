/-! ===== rows for walks of the abstract machine ===== -/
theorem c2 {x y : Int} {A B C D : Prop} (ha : A → B) (hb : C → D) (hx : rg x := by (unfold rg; omega)) (hy : rg y := by (unfold rg; omega)) : rg x ∧ rg y ∧ (A → B) ∧ (C → D) := ⟨hx, hy, ha, hb⟩
theorem c1 {x : Int} {A B C D : Prop} (ha : A → B) (hb : C → D) (hx : rg x := by (unfold rg; omega)) : rg x ∧ (A → B) ∧ (C → D) := ⟨hx, ha, hb⟩
theorem ix {j : Int} {n : Nat} {P : Prop} (h : P) (h0 : 0 ≤ j := by omega) (h1 : j < (n : Int) := by omega) : IxOK j n ∧ P := ⟨⟨h0, h1⟩, h⟩
theorem ri {a : Nat} {x : Int} {P : Prop} (h : P) (e : a = 0 := by rfl) : (a = 0 ∨ x = 0 ∨ x = 1) ∧ P := ⟨Or.inl e, h⟩
theorem rz {a : Nat} {x : Int} {P : Prop} (h : P) (e : x = 0 ∨ x = 1 := by (first | exact Or.inl rfl | exact Or.inr rfl | omega)) : (a = 0 ∨ x = 0 ∨ x = 1) ∧ P := ⟨Or.inr e, h⟩
theorem bz {x : Int} {P : Prop} (h : P) (e : x = 0 ∨ x = 1 := by (first | exact Or.inl rfl | exact Or.inr rfl | omega)) : (x = 0 ∨ x = 1) ∧ P := ⟨e, h⟩
theorem m2 {x y : Int} {P : Prop} (h : P) (hx : rg x := by (unfold rg; omega)) (hy : rg y := by (unfold rg; omega)) : rg x ∧ rg y ∧ P := ⟨hx, hy, h⟩
theorem m1 {x : Int} {P : Prop} (h : P) (hx : rg x := by (unfold rg; omega)) : rg x ∧ P := ⟨hx, h⟩
theorem cp {sp dp n : Int} {n0 n1 : Nat} {P : Prop} (h : P) (h1 : 0 ≤ sp := by omega) (h2 : 0 ≤ dp := by omega) (h3 : 0 ≤ n := by omega) (h4 : sp + n ≤ (n0 : Int) := by omega) (h5 : dp + n ≤ (n1 : Int) := by omega) : (0 ≤ sp ∧ 0 ≤ dp ∧ 0 ≤ n ∧ sp + n ≤ (n0 : Int) ∧ dp + n ≤ (n1 : Int)) ∧ P := ⟨⟨h1, h2, h3, h4, h5⟩, h⟩
theorem loopUp {P : Int → Prop} (e : Int) (step : ∀ k, (k < e → P (k + 1)) → P k) : ∀ k, P k := by
  have key : ∀ (n : Nat) (k : Int), e - k ≤ (n : Int) → P k := by
    intro n
    induction n with
    | zero => exact fun k h => step k (fun q => absurd q (by omega))
    | succ n ih => exact fun k h => step k (fun _ => ih (k + 1) (by omega))
  exact fun k => key (e - k).toNat k (by omega)
theorem loopDn {P : Int → Prop} (e : Int) (step : ∀ k, (e ≤ k → P (k - 1)) → P k) : ∀ k, P k := by
  have key : ∀ (n : Nat) (k : Int), k - e + 1 ≤ (n : Int) → P k := by
    intro n
    induction n with
    | zero => exact fun k h => step k (fun q => absurd q (by omega))
    | succ n ih => exact fun k h => step k (fun _ => ih (k - 1) (by omega))
  exact fun k => key (k - e + 1).toNat k (by omega)
/-- all values of a row lie between two numbers -/
def rI (f : Int → Int) (lo hi : Int) : Prop := ∀ i, lo ≤ f i ∧ f i ≤ hi
theorem rI_up {f : Int → Int} {lo hi j x : Int} (h : rI f lo hi) (h1 : lo ≤ x) (h2 : x ≤ hi) : rI (upZ f j x) lo hi := by
  intro i
  unfold upZ
  split
  · exact ⟨h1, h2⟩
  · exact h i
theorem rI_cp {f g : Int → Int} {lo hi sp dp n : Int} (hf : rI f lo hi) (hg : rI g lo hi) : rI (cpZ f g sp dp n) lo hi := by
  intro i
  unfold cpZ
  split
  · exact hf _
  · exact hg i
theorem upZ_s {α : Type} {f : Int → α} {j : Int} {x : α} : upZ f j x j = x := if_pos rfl
theorem upZ_n {α : Type} {f : Int → α} {j q : Int} {x : α} (h : q ≠ j) : upZ f j x q = f q := if_neg h
/-- a row filled from i to n -/
def fz (f : Int → Int) (i n v : Int) : Int → Int := fun q => if i ≤ q ∧ q < n then v else f q
theorem fz_end (f : Int → Int) (i n v : Int) (h : n ≤ i) : fz f i n v = f := by
  funext q
  unfold fz
  rw [if_neg (by omega)]
theorem fz_step (f : Int → Int) (i n v : Int) (h : i < n) : fz (upZ f i v) (i + 1) n v = fz f i n v := by
  funext q
  unfold fz upZ
  by_cases h1 : i + 1 ≤ q ∧ q < n
  · rw [if_pos h1, if_pos (by omega)]
  · rw [if_neg h1]
    by_cases h2 : q = i
    · rw [if_pos h2, if_pos (by omega)]
    · rw [if_neg h2, if_neg (by omega)]
/-! Arrays.fill, for each row that it is called with -/
theorem fill_40 {ro : Nat × (Int → Int)} {d : Nat} {Q : Option AV → AH → Prop} {hB : List AC} {tb : Int → Int} {tz : Int} {tk : Int → Int → Int} {tks : Int → Int} {tc tt : Int} {iu nm ou so pl : Int → Int} {nd : Int} {pa ba de en : Int → Int} {sc rsz fp ss cu os : Int} {a1 a2 a3 : Int → Int} {a4 : Int → Int64} {a5 b1 b2 b3 : Int → Int} {b4 : Int → Int64} {b5 : Int → Int} {le fi : Int} {xi0 : Int → Int} {xf0 xz0 xl0 : Int} {xi1 : Int → Int} {xf1 xz1 xl1 : Int} {xi2 : Int → Int} {xf2 xz2 xl2 : Int} {xi3 : Int → Int} {xf3 xz3 xl3 : Int} {v : Int} (hQ : Q none ((heapC tb tz tk tks tc tt iu nm ou so pl nd pa ba de en sc rsz fp ss cu os a1 a2 a3 a4 (fz a5 0 260 v) b1 b2 b3 b4 b5 le fi xi0 xf0 xz0 xl0 xi1 xf1 xz1 xl1 xi2 xf2 xz2 xl2 xi3 xf3 xz3 xl3), hB)) : RNd ro (d + 1) 188 [vR 40, vI v] ((heapC tb tz tk tks tc tt iu nm ou so pl nd pa ba de en sc rsz fp ss cu os a1 a2 a3 a4 a5 b1 b2 b3 b4 b5 le fi xi0 xf0 xz0 xl0 xi1 xf1 xz1 xl1 xi2 xf2 xz2 xl2 xi3 xf3 xz3 xl3), hB) Q := by
  have main : ∀ i : Int, ∀ f : Int → Int, 0 ≤ i → i ≤ 260 → Q none ((heapC tb tz tk tks tc tt iu nm ou so pl nd pa ba de en sc rsz fp ss cu os a1 a2 a3 a4 (fz f i 260 v) b1 b2 b3 b4 b5 le fi xi0 xf0 xz0 xl0 xi1 xf1 xz1 xl1 xi2 xf2 xz2 xl2 xi3 xf3 xz3 xl3), hB) → WPm ro d (RNd ro d) 188 0 0 Q 5 [vR 40, vI v, vI i, vI 260] [] ((heapC tb tz tk tks tc tt iu nm ou so pl nd pa ba de en sc rsz fp ss cu os a1 a2 a3 a4 f b1 b2 b3 b4 b5 le fi xi0 xf0 xz0 xl0 xi1 xf1 xz1 xl1 xi2 xf2 xz2 xl2 xi3 xf3 xz3 xl3), hB) 0 0 := by
    refine loopUp 260 fun i ih f h0 h1 hq => ?_
    refine WP_first [5] 20 ?_
    refine c2 (fun h => ?_) (fun h => ?_)
    · rw [fz_end f i 260 v h] at hq
      exact hq
    · refine ix ?_
      refine ih (by omega) _ (by omega) (by omega) ?_
      rw [fz_step f i 260 v (by omega)]
      exact hq
  exact WP_run [5] 10 (main 0 a5 (by omega) (by omega) hQ)
theorem fill_47 {ro : Nat × (Int → Int)} {d : Nat} {Q : Option AV → AH → Prop} {hB : List AC} {tb : Int → Int} {tz : Int} {tk : Int → Int → Int} {tks : Int → Int} {tc tt : Int} {iu nm ou so pl : Int → Int} {nd : Int} {pa ba de en : Int → Int} {sc rsz fp ss cu os : Int} {a1 a2 a3 : Int → Int} {a4 : Int → Int64} {a5 b1 b2 b3 : Int → Int} {b4 : Int → Int64} {b5 : Int → Int} {le fi : Int} {xi0 : Int → Int} {xf0 xz0 xl0 : Int} {xi1 : Int → Int} {xf1 xz1 xl1 : Int} {xi2 : Int → Int} {xf2 xz2 xl2 : Int} {xi3 : Int → Int} {xf3 xz3 xl3 : Int} {v : Int} (hQ : Q none ((heapC tb tz tk tks tc tt iu nm ou so pl nd pa ba de en sc rsz fp ss cu os a1 a2 a3 a4 a5 b1 b2 b3 b4 (fz b5 0 260 v) le fi xi0 xf0 xz0 xl0 xi1 xf1 xz1 xl1 xi2 xf2 xz2 xl2 xi3 xf3 xz3 xl3), hB)) : RNd ro (d + 1) 188 [vR 47, vI v] ((heapC tb tz tk tks tc tt iu nm ou so pl nd pa ba de en sc rsz fp ss cu os a1 a2 a3 a4 a5 b1 b2 b3 b4 b5 le fi xi0 xf0 xz0 xl0 xi1 xf1 xz1 xl1 xi2 xf2 xz2 xl2 xi3 xf3 xz3 xl3), hB) Q := by
  have main : ∀ i : Int, ∀ f : Int → Int, 0 ≤ i → i ≤ 260 → Q none ((heapC tb tz tk tks tc tt iu nm ou so pl nd pa ba de en sc rsz fp ss cu os a1 a2 a3 a4 a5 b1 b2 b3 b4 (fz f i 260 v) le fi xi0 xf0 xz0 xl0 xi1 xf1 xz1 xl1 xi2 xf2 xz2 xl2 xi3 xf3 xz3 xl3), hB) → WPm ro d (RNd ro d) 188 0 0 Q 5 [vR 47, vI v, vI i, vI 260] [] ((heapC tb tz tk tks tc tt iu nm ou so pl nd pa ba de en sc rsz fp ss cu os a1 a2 a3 a4 a5 b1 b2 b3 b4 f le fi xi0 xf0 xz0 xl0 xi1 xf1 xz1 xl1 xi2 xf2 xz2 xl2 xi3 xf3 xz3 xl3), hB) 0 0 := by
    refine loopUp 260 fun i ih f h0 h1 hq => ?_
    refine WP_first [5] 20 ?_
    refine c2 (fun h => ?_) (fun h => ?_)
    · rw [fz_end f i 260 v h] at hq
      exact hq
    · refine ix ?_
      refine ih (by omega) _ (by omega) (by omega) ?_
      rw [fz_step f i 260 v (by omega)]
      exact hq
  exact WP_run [5] 10 (main 0 b5 (by omega) (by omega) hQ)
theorem fill_50 {ro : Nat × (Int → Int)} {d : Nat} {Q : Option AV → AH → Prop} {hB : List AC} {tb : Int → Int} {tz : Int} {tk : Int → Int → Int} {tks : Int → Int} {tc tt : Int} {iu nm ou so pl : Int → Int} {nd : Int} {pa ba de en : Int → Int} {sc rsz fp ss cu os : Int} {a1 a2 a3 : Int → Int} {a4 : Int → Int64} {a5 b1 b2 b3 : Int → Int} {b4 : Int → Int64} {b5 : Int → Int} {le fi : Int} {xi0 : Int → Int} {xf0 xz0 xl0 : Int} {xi1 : Int → Int} {xf1 xz1 xl1 : Int} {xi2 : Int → Int} {xf2 xz2 xl2 : Int} {xi3 : Int → Int} {xf3 xz3 xl3 : Int} {v : Int} (hQ : Q none ((heapC tb tz tk tks tc tt iu nm ou so pl nd pa ba de en sc rsz fp ss cu os a1 a2 a3 a4 a5 b1 b2 b3 b4 b5 le fi (fz xi0 0 60 v) xf0 xz0 xl0 xi1 xf1 xz1 xl1 xi2 xf2 xz2 xl2 xi3 xf3 xz3 xl3), hB)) : RNd ro (d + 1) 188 [vR 50, vI v] ((heapC tb tz tk tks tc tt iu nm ou so pl nd pa ba de en sc rsz fp ss cu os a1 a2 a3 a4 a5 b1 b2 b3 b4 b5 le fi xi0 xf0 xz0 xl0 xi1 xf1 xz1 xl1 xi2 xf2 xz2 xl2 xi3 xf3 xz3 xl3), hB) Q := by
  have main : ∀ i : Int, ∀ f : Int → Int, 0 ≤ i → i ≤ 60 → Q none ((heapC tb tz tk tks tc tt iu nm ou so pl nd pa ba de en sc rsz fp ss cu os a1 a2 a3 a4 a5 b1 b2 b3 b4 b5 le fi (fz f i 60 v) xf0 xz0 xl0 xi1 xf1 xz1 xl1 xi2 xf2 xz2 xl2 xi3 xf3 xz3 xl3), hB) → WPm ro d (RNd ro d) 188 0 0 Q 5 [vR 50, vI v, vI i, vI 60] [] ((heapC tb tz tk tks tc tt iu nm ou so pl nd pa ba de en sc rsz fp ss cu os a1 a2 a3 a4 a5 b1 b2 b3 b4 b5 le fi f xf0 xz0 xl0 xi1 xf1 xz1 xl1 xi2 xf2 xz2 xl2 xi3 xf3 xz3 xl3), hB) 0 0 := by
    refine loopUp 60 fun i ih f h0 h1 hq => ?_
    refine WP_first [5] 20 ?_
    refine c2 (fun h => ?_) (fun h => ?_)
    · rw [fz_end f i 60 v h] at hq
      exact hq
    · refine ix ?_
      refine ih (by omega) _ (by omega) (by omega) ?_
      rw [fz_step f i 60 v (by omega)]
      exact hq
  exact WP_run [5] 10 (main 0 xi0 (by omega) (by omega) hQ)
theorem fill_52 {ro : Nat × (Int → Int)} {d : Nat} {Q : Option AV → AH → Prop} {hB : List AC} {tb : Int → Int} {tz : Int} {tk : Int → Int → Int} {tks : Int → Int} {tc tt : Int} {iu nm ou so pl : Int → Int} {nd : Int} {pa ba de en : Int → Int} {sc rsz fp ss cu os : Int} {a1 a2 a3 : Int → Int} {a4 : Int → Int64} {a5 b1 b2 b3 : Int → Int} {b4 : Int → Int64} {b5 : Int → Int} {le fi : Int} {xi0 : Int → Int} {xf0 xz0 xl0 : Int} {xi1 : Int → Int} {xf1 xz1 xl1 : Int} {xi2 : Int → Int} {xf2 xz2 xl2 : Int} {xi3 : Int → Int} {xf3 xz3 xl3 : Int} {v : Int} (hQ : Q none ((heapC tb tz tk tks tc tt iu nm ou so pl nd pa ba de en sc rsz fp ss cu os a1 a2 a3 a4 a5 b1 b2 b3 b4 b5 le fi xi0 xf0 xz0 xl0 (fz xi1 0 60 v) xf1 xz1 xl1 xi2 xf2 xz2 xl2 xi3 xf3 xz3 xl3), hB)) : RNd ro (d + 1) 188 [vR 52, vI v] ((heapC tb tz tk tks tc tt iu nm ou so pl nd pa ba de en sc rsz fp ss cu os a1 a2 a3 a4 a5 b1 b2 b3 b4 b5 le fi xi0 xf0 xz0 xl0 xi1 xf1 xz1 xl1 xi2 xf2 xz2 xl2 xi3 xf3 xz3 xl3), hB) Q := by
  have main : ∀ i : Int, ∀ f : Int → Int, 0 ≤ i → i ≤ 60 → Q none ((heapC tb tz tk tks tc tt iu nm ou so pl nd pa ba de en sc rsz fp ss cu os a1 a2 a3 a4 a5 b1 b2 b3 b4 b5 le fi xi0 xf0 xz0 xl0 (fz f i 60 v) xf1 xz1 xl1 xi2 xf2 xz2 xl2 xi3 xf3 xz3 xl3), hB) → WPm ro d (RNd ro d) 188 0 0 Q 5 [vR 52, vI v, vI i, vI 60] [] ((heapC tb tz tk tks tc tt iu nm ou so pl nd pa ba de en sc rsz fp ss cu os a1 a2 a3 a4 a5 b1 b2 b3 b4 b5 le fi xi0 xf0 xz0 xl0 f xf1 xz1 xl1 xi2 xf2 xz2 xl2 xi3 xf3 xz3 xl3), hB) 0 0 := by
    refine loopUp 60 fun i ih f h0 h1 hq => ?_
    refine WP_first [5] 20 ?_
    refine c2 (fun h => ?_) (fun h => ?_)
    · rw [fz_end f i 60 v h] at hq
      exact hq
    · refine ix ?_
      refine ih (by omega) _ (by omega) (by omega) ?_
      rw [fz_step f i 60 v (by omega)]
      exact hq
  exact WP_run [5] 10 (main 0 xi1 (by omega) (by omega) hQ)
theorem fill_54 {ro : Nat × (Int → Int)} {d : Nat} {Q : Option AV → AH → Prop} {hB : List AC} {tb : Int → Int} {tz : Int} {tk : Int → Int → Int} {tks : Int → Int} {tc tt : Int} {iu nm ou so pl : Int → Int} {nd : Int} {pa ba de en : Int → Int} {sc rsz fp ss cu os : Int} {a1 a2 a3 : Int → Int} {a4 : Int → Int64} {a5 b1 b2 b3 : Int → Int} {b4 : Int → Int64} {b5 : Int → Int} {le fi : Int} {xi0 : Int → Int} {xf0 xz0 xl0 : Int} {xi1 : Int → Int} {xf1 xz1 xl1 : Int} {xi2 : Int → Int} {xf2 xz2 xl2 : Int} {xi3 : Int → Int} {xf3 xz3 xl3 : Int} {v : Int} (hQ : Q none ((heapC tb tz tk tks tc tt iu nm ou so pl nd pa ba de en sc rsz fp ss cu os a1 a2 a3 a4 a5 b1 b2 b3 b4 b5 le fi xi0 xf0 xz0 xl0 xi1 xf1 xz1 xl1 (fz xi2 0 60 v) xf2 xz2 xl2 xi3 xf3 xz3 xl3), hB)) : RNd ro (d + 1) 188 [vR 54, vI v] ((heapC tb tz tk tks tc tt iu nm ou so pl nd pa ba de en sc rsz fp ss cu os a1 a2 a3 a4 a5 b1 b2 b3 b4 b5 le fi xi0 xf0 xz0 xl0 xi1 xf1 xz1 xl1 xi2 xf2 xz2 xl2 xi3 xf3 xz3 xl3), hB) Q := by
  have main : ∀ i : Int, ∀ f : Int → Int, 0 ≤ i → i ≤ 60 → Q none ((heapC tb tz tk tks tc tt iu nm ou so pl nd pa ba de en sc rsz fp ss cu os a1 a2 a3 a4 a5 b1 b2 b3 b4 b5 le fi xi0 xf0 xz0 xl0 xi1 xf1 xz1 xl1 (fz f i 60 v) xf2 xz2 xl2 xi3 xf3 xz3 xl3), hB) → WPm ro d (RNd ro d) 188 0 0 Q 5 [vR 54, vI v, vI i, vI 60] [] ((heapC tb tz tk tks tc tt iu nm ou so pl nd pa ba de en sc rsz fp ss cu os a1 a2 a3 a4 a5 b1 b2 b3 b4 b5 le fi xi0 xf0 xz0 xl0 xi1 xf1 xz1 xl1 f xf2 xz2 xl2 xi3 xf3 xz3 xl3), hB) 0 0 := by
    refine loopUp 60 fun i ih f h0 h1 hq => ?_
    refine WP_first [5] 20 ?_
    refine c2 (fun h => ?_) (fun h => ?_)
    · rw [fz_end f i 60 v h] at hq
      exact hq
    · refine ix ?_
      refine ih (by omega) _ (by omega) (by omega) ?_
      rw [fz_step f i 60 v (by omega)]
      exact hq
  exact WP_run [5] 10 (main 0 xi2 (by omega) (by omega) hQ)
theorem fill_56 {ro : Nat × (Int → Int)} {d : Nat} {Q : Option AV → AH → Prop} {hB : List AC} {tb : Int → Int} {tz : Int} {tk : Int → Int → Int} {tks : Int → Int} {tc tt : Int} {iu nm ou so pl : Int → Int} {nd : Int} {pa ba de en : Int → Int} {sc rsz fp ss cu os : Int} {a1 a2 a3 : Int → Int} {a4 : Int → Int64} {a5 b1 b2 b3 : Int → Int} {b4 : Int → Int64} {b5 : Int → Int} {le fi : Int} {xi0 : Int → Int} {xf0 xz0 xl0 : Int} {xi1 : Int → Int} {xf1 xz1 xl1 : Int} {xi2 : Int → Int} {xf2 xz2 xl2 : Int} {xi3 : Int → Int} {xf3 xz3 xl3 : Int} {v : Int} (hQ : Q none ((heapC tb tz tk tks tc tt iu nm ou so pl nd pa ba de en sc rsz fp ss cu os a1 a2 a3 a4 a5 b1 b2 b3 b4 b5 le fi xi0 xf0 xz0 xl0 xi1 xf1 xz1 xl1 xi2 xf2 xz2 xl2 (fz xi3 0 60 v) xf3 xz3 xl3), hB)) : RNd ro (d + 1) 188 [vR 56, vI v] ((heapC tb tz tk tks tc tt iu nm ou so pl nd pa ba de en sc rsz fp ss cu os a1 a2 a3 a4 a5 b1 b2 b3 b4 b5 le fi xi0 xf0 xz0 xl0 xi1 xf1 xz1 xl1 xi2 xf2 xz2 xl2 xi3 xf3 xz3 xl3), hB) Q := by
  have main : ∀ i : Int, ∀ f : Int → Int, 0 ≤ i → i ≤ 60 → Q none ((heapC tb tz tk tks tc tt iu nm ou so pl nd pa ba de en sc rsz fp ss cu os a1 a2 a3 a4 a5 b1 b2 b3 b4 b5 le fi xi0 xf0 xz0 xl0 xi1 xf1 xz1 xl1 xi2 xf2 xz2 xl2 (fz f i 60 v) xf3 xz3 xl3), hB) → WPm ro d (RNd ro d) 188 0 0 Q 5 [vR 56, vI v, vI i, vI 60] [] ((heapC tb tz tk tks tc tt iu nm ou so pl nd pa ba de en sc rsz fp ss cu os a1 a2 a3 a4 a5 b1 b2 b3 b4 b5 le fi xi0 xf0 xz0 xl0 xi1 xf1 xz1 xl1 xi2 xf2 xz2 xl2 f xf3 xz3 xl3), hB) 0 0 := by
    refine loopUp 60 fun i ih f h0 h1 hq => ?_
    refine WP_first [5] 20 ?_
    refine c2 (fun h => ?_) (fun h => ?_)
    · rw [fz_end f i 60 v h] at hq
      exact hq
    · refine ix ?_
      refine ih (by omega) _ (by omega) (by omega) ?_
      rw [fz_step f i 60 v (by omega)]
      exact hq
  exact WP_run [5] 10 (main 0 xi3 (by omega) (by omega) hQ)
