/-! ===== rows on the world ===== -/
theorem cWl_get (G : GT) : ∀ (l : List AC) (o k : Nat), (cWl G o l)[k]? = (l[k]?).map (fun c => (o + k, cC G c))
  | [], _, _ => rfl
  | c :: l, o, 0 => rfl
  | c :: l, o, k + 1 => by
    show (cWl G (o + 1) l)[k]? = (l[k]?).map _
    rw [cWl_get G l (o + 1) k]
    congr 1
    funext c
    rw [show o + 1 + k = o + (k + 1) by omega]
theorem cWl_len (G : GT) : ∀ (l : List AC) (o : Nat), (cWl G o l).length = l.length
  | [], _ => rfl
  | c :: l, o => by
    show (cWl G (o + 1) l).length + 1 = l.length + 1
    rw [cWl_len G l]
theorem cWl_set (G : GT) (c' : AC) : ∀ (l : List AC) (o k : Nat), cWl G o (l.set k c') = (cWl G o l).set k (o + k, cC G c')
  | [], _, _ => rfl
  | c :: l, o, 0 => rfl
  | c :: l, o, k + 1 => by
    show (o, cC G c) :: cWl G (o + 1) (l.set k c') = (o, cC G c) :: (cWl G (o + 1) l).set k (o + (k + 1), cC G c')
    rw [cWl_set G c' l (o + 1) k, show o + 1 + k = o + (k + 1) by omega]
theorem cWl_app (G : GT) (c : AC) : ∀ (l : List AC) (o : Nat), cWl G o (l ++ [c]) = cWl G o l ++ [(o + l.length, cC G c)]
  | [], _ => rfl
  | x :: l, o => by
    show (o, cC G x) :: cWl G (o + 1) (l ++ [c]) = (o, cC G x) :: (cWl G (o + 1) l ++ [(o + (l.length + 1), cC G c)])
    rw [cWl_app G c l (o + 1), show o + 1 + l.length = o + (l.length + 1) by omega]
def loc (h : AH) (k : Nat) : Nat := if k < 200 then k else h.1.length + (k - 200)
theorem hAt_lt {G : GT} {h : AH} {H : Heap} {k : Nat} {c : AC} (hW : hOK G h H) (ha : hAt h k c) : k < 800 := by
  rcases ha with ⟨h1, -⟩ | ⟨h1, h2⟩
  · omega
  · have := (List.getElem?_eq_some_iff.mp h2).1
    have := hW.2.2.2
    omega
theorem cW_addr {G : GT} {h : AH} {H : Heap} (hW : hOK G h H) {i : Nat} {q : Nat × va_E} (hi : (cW G h)[i]? = some q) : q.1 = G.1 + i := by
  unfold cW at hi
  by_cases hl : i < (cWl G G.1 h.1).length
  · rw [List.getElem?_append_left hl, cWl_get] at hi
    cases hc : h.1[i]? with
    | none => rw [hc] at hi; cases hi
    | some c => rw [hc] at hi; cases hi; rfl
  · rw [List.getElem?_append_right (by omega), cWl_get, cWl_len] at hi
    rw [cWl_len] at hl
    cases hc : h.2[i - h.1.length]? with
    | none => rw [hc] at hi; cases hi
    | some c =>
      rw [hc] at hi
      cases hi
      rcases hW.2.1 with h0 | h0
      · rw [h0] at hc
        simp at hc
      · show G.1 + nA + (i - h.1.length) = G.1 + i
        omega
theorem cW_D {G : GT} {h : AH} {H : Heap} (hW : hOK G h H) : va_D (AA G) (cW G h) := by
  refine ⟨fun i j p q hi hj e => ?_, fun k q hk => ?_⟩
  · have h1 := cW_addr hW hi
    have h2 := cW_addr hW hj
    omega
  · have h1 := cW_addr hW hk
    show G.1 ≤ q.1
    omega
theorem ad_A {G : GT} {k : Nat} (h : k < 200) : ad G k = G.1 + k := by
  unfold ad
  rw [show Nat.blt k 200 = true from Nat.ble_eq_true_of_le h]
  rfl
theorem ad_B {G : GT} {k : Nat} (h : 200 ≤ k) (h2 : k < 900) : ad G k = G.1 + nA + (k - 200) := by
  unfold ad
  rw [show Nat.blt k 200 = false from by
    cases hb : Nat.blt k 200 with
    | false => rfl
    | true => exact absurd (blt_t hb) (by omega), show Nat.blt k 900 = true from Nat.ble_eq_true_of_le h2]
  rfl
theorem cW_at {G : GT} {h : AH} {H : Heap} {k : Nat} {c : AC} (hW : hOK G h H) (ha : hAt h k c) : (cW G h)[loc h k]? = some (ad G k, cC G c) := by
  have hk := hAt_lt hW ha
  unfold cW loc
  rcases ha with ⟨h1, h2⟩ | ⟨h1, h2⟩
  · have hl := (List.getElem?_eq_some_iff.mp h2).1
    rw [if_pos h1, List.getElem?_append_left (by rw [cWl_len]; exact hl), cWl_get, h2, ad_A h1]
    rfl
  · rw [if_neg (by omega), List.getElem?_append_right (by rw [cWl_len]; omega), cWl_get, cWl_len, show h.1.length + (k - 200) - h.1.length = k - 200 by omega, h2, ad_B h1 (by omega)]
    rfl
theorem cW_set {G : GT} {h : AH} {H : Heap} {k : Nat} {c : AC} (c' : AC) (hW : hOK G h H) (ha : hAt h k c) : (cW G h).set (loc h k) (ad G k, cC G c') = cW G (hSet h k c') := by
  have hk := hAt_lt hW ha
  unfold cW loc hSet
  rcases ha with ⟨h1, h2⟩ | ⟨h1, h2⟩
  · have hl := (List.getElem?_eq_some_iff.mp h2).1
    rw [if_pos h1, if_pos h1, List.set_append_left _ _ (by rw [cWl_len]; exact hl), ad_A h1, cWl_set]
  · rw [if_neg (by omega), if_neg (by omega), List.set_append_right _ _ (by rw [cWl_len]; omega), cWl_len, show h.1.length + (k - 200) - h.1.length = k - 200 by omega, ad_B h1 (by omega), cWl_set]
theorem hOK_set {G : GT} {h : AH} {H H1 : Heap} {k : Nat} {c' : AC} (hW : hOK G h H) (hz : H1.size = H.size) : hOK G (hSet h k c') H1 := by
  obtain ⟨h1, h2, h3, h4⟩ := hW
  unfold hSet
  split
  · exact ⟨by rw [hz, h1]; simp, by simpa using h2, by simpa using h3, h4⟩
  · refine ⟨by rw [hz, h1]; simp, ?_, h3, by simpa using h4⟩
    rcases h2 with h2 | h2
    · exact Or.inl (by show h.2.set _ _ = []; rw [h2]; rfl)
    · exact Or.inr h2
/-- the words that go with a method into every call -/
def glw : List Cond := lw_tbl.filter goodWord
theorem in_glw {w : Cond} (h : w ∈ lw_tbl) (hg : goodWord w = true) : w ∈ glw := List.mem_filter.mpr ⟨h, hg⟩
theorem glw_good : ∀ w ∈ glw, goodWord w = true := fun w h => (List.mem_filter.mp h).2
theorem cl_at (ci : Nat) (h : ci < 7) : vwCl[ci]? = some (ON ci, TT ci, nF ci) := by
  rcases (show ci = 0 ∨ ci = 1 ∨ ci = 2 ∨ ci = 3 ∨ ci = 4 ∨ ci = 5 ∨ ci = 6 by omega) with rfl | rfl | rfl | rfl | rfl | rfl | rfl <;> rfl
theorem uw0 : (u_ws RX0 TX0 6).all (fun w => decide (w ∈ lw_tbl) && goodWord w) = true := by decide +kernel
theorem uw1 : (u_ws RX1 TX1 4).all (fun w => decide (w ∈ lw_tbl) && goodWord w) = true := by decide +kernel
theorem uw2 : (u_ws RX2 TX2 4).all (fun w => decide (w ∈ lw_tbl) && goodWord w) = true := by decide +kernel
theorem uw3 : (u_ws RX3 TX3 6).all (fun w => decide (w ∈ lw_tbl) && goodWord w) = true := by decide +kernel
theorem uw4 : (u_ws RX4 TX4 16).all (fun w => decide (w ∈ lw_tbl) && goodWord w) = true := by decide +kernel
theorem uw5 : (u_ws RX5 TX5 6).all (fun w => decide (w ∈ lw_tbl) && goodWord w) = true := by decide +kernel
theorem uw6 : (u_ws RX6 TX6 30).all (fun w => decide (w ∈ lw_tbl) && goodWord w) = true := by decide +kernel
theorem uw_in {C : String} {T : u_T} {N : Nat} (h : (u_ws C T N).all (fun w => decide (w ∈ lw_tbl) && goodWord w) = true) : ∀ w ∈ u_ws C T N, w ∈ glw := fun w hw => by
  have h1 := List.all_eq_true.mp h w hw
  simp only [Bool.and_eq_true, decide_eq_true_eq] at h1
  exact in_glw h1.1 h1.2
theorem u_in (ci : Nat) (h : ci < 7) : ∀ w ∈ u_ws (ON ci) (TT ci) (nF ci), w ∈ glw := by
  rcases (show ci = 0 ∨ ci = 1 ∨ ci = 2 ∨ ci = 3 ∨ ci = 4 ∨ ci = 5 ∨ ci = 6 by omega) with rfl | rfl | rfl | rfl | rfl | rfl | rfl
  · exact uw_in uw0
  · exact uw_in uw1
  · exact uw_in uw2
  · exact uw_in uw3
  · exact uw_in uw4
  · exact uw_in uw5
  · exact uw_in uw6
theorem u_nm (ci : Nat) (h : ci < 7) : ∀ a, a < nF ci → ∀ b, b < nF ci → a ≠ b → (TT ci a).2.1 ≠ (TT ci b).2.1 := by
  rcases (show ci = 0 ∨ ci = 1 ∨ ci = 2 ∨ ci = 3 ∨ ci = 4 ∨ ci = 5 ∨ ci = 6 by omega) with rfl | rfl | rfl | rfl | rfl | rfl | rfl
  · exact nmX0
  · exact nmX1
  · exact nmX2
  · exact nmX3
  · exact nmX4
  · exact nmX5
  · exact nmX6
theorem u_ty (ci : Nat) (h : ci < 7) : ∀ k, k < nF ci → parseFieldDescriptor (TT ci k).2.2.1 = some (tyT ci k) := by
  rcases (show ci = 0 ∨ ci = 1 ∨ ci = 2 ∨ ci = 3 ∨ ci = 4 ∨ ci = 5 ∨ ci = 6 by omega) with rfl | rfl | rfl | rfl | rfl | rfl | rfl
  · exact tyX0_ok
  · exact tyX1_ok
  · exact tyX2_ok
  · exact tyX3_ok
  · exact tyX4_ok
  · exact tyX5_ok
  · exact tyX6_ok
theorem u_own (ci : Nat) (h : ci < 7) (k : Nat) : (TT ci k).1 = ON ci := by
  rcases (show ci = 0 ∨ ci = 1 ∨ ci = 2 ∨ ci = 3 ∨ ci = 4 ∨ ci = 5 ∨ ci = 6 by omega) with rfl | rfl | rfl | rfl | rfl | rfl | rfl
  · show (TX0 k).1 = RX0; unfold TX0; split <;> rfl
  · show (TX1 k).1 = RX1; unfold TX1; split <;> rfl
  · show (TX2 k).1 = RX2; unfold TX2; split <;> rfl
  · show (TX3 k).1 = RX3; unfold TX3; split <;> rfl
  · show (TX4 k).1 = RX4; unfold TX4; split <;> rfl
  · show (TX5 k).1 = RX5; unfold TX5; split <;> rfl
  · show (TX6 k).1 = RX6; unfold TX6; split <;> rfl
theorem FT_in {o n x y : Nat} (h : in5 FT o n x y = true) : Cond.fieldLink (ON o) n (ON x) (TT x y).2.1 (TT x y).2.2.1 ∈ lw_tbl := by
  obtain ⟨r, h1, h2⟩ := List.any_eq_true.mp h
  simp only [Bool.and_eq_true] at h2
  have h3 := List.all_eq_true.mp FT_ok r h1
  rw [← Nat.eq_of_beq_eq_true h2.1.1.1, ← Nat.eq_of_beq_eq_true h2.1.1.2, ← Nat.eq_of_beq_eq_true h2.1.2, ← Nat.eq_of_beq_eq_true h2.2]
  exact List.mem_of_getElem? (of_decide_eq_true h3)
theorem FTN_in {o n x y : Nat} (h : in5 FTN o n x y = true) : Cond.fieldLinkNest (ON o) n (ON x) (TT x y).2.1 (TT x y).2.2.1 RX5 ∈ lw_tbl := by
  obtain ⟨r, h1, h2⟩ := List.any_eq_true.mp h
  simp only [Bool.and_eq_true] at h2
  have h3 := List.all_eq_true.mp FTN_ok r h1
  rw [← Nat.eq_of_beq_eq_true h2.1.1.1, ← Nat.eq_of_beq_eq_true h2.1.1.2, ← Nat.eq_of_beq_eq_true h2.1.2, ← Nat.eq_of_beq_eq_true h2.2]
  exact List.mem_of_getElem? (of_decide_eq_true h3)
theorem MT_in {o n x : Nat} (h : in4 MT o n x = true) : Cond.methodLink (ON o) n (My x) ∈ lw_tbl := by
  obtain ⟨r, h1, h2⟩ := List.any_eq_true.mp h
  simp only [Bool.and_eq_true] at h2
  have h3 := List.all_eq_true.mp MT_ok r h1
  rw [← Nat.eq_of_beq_eq_true h2.1.1, ← Nat.eq_of_beq_eq_true h2.1.2, ← Nat.eq_of_beq_eq_true h2.2]
  exact List.mem_of_getElem? (of_decide_eq_true h3)
theorem MTN_in {o n x : Nat} (h : in4 MTN o n x = true) : Cond.methodLinkNest (ON o) n (My x) RX5 ∈ lw_tbl := by
  obtain ⟨r, h1, h2⟩ := List.any_eq_true.mp h
  simp only [Bool.and_eq_true] at h2
  have h3 := List.all_eq_true.mp MTN_ok r h1
  rw [← Nat.eq_of_beq_eq_true h2.1.1, ← Nat.eq_of_beq_eq_true h2.1.2, ← Nat.eq_of_beq_eq_true h2.2]
  exact List.mem_of_getElem? (of_decide_eq_true h3)
theorem MTO_in {o n : Nat} (h : in3 MTO o n = true) : Cond.methodLink (ON o) n objectInit ∈ lw_tbl := by
  obtain ⟨r, h1, h2⟩ := List.any_eq_true.mp h
  simp only [Bool.and_eq_true] at h2
  have h3 := List.all_eq_true.mp MTO_ok r h1
  rw [← Nat.eq_of_beq_eq_true h2.1, ← Nat.eq_of_beq_eq_true h2.2]
  exact List.mem_of_getElem? (of_decide_eq_true h3)
theorem MTmin_in {o n : Nat} (h : in3 MTmin o n = true) : Cond.methodLink (ON o) n Lib.Math.min.name ∈ lw_tbl := by
  obtain ⟨r, h1, h2⟩ := List.any_eq_true.mp h
  simp only [Bool.and_eq_true] at h2
  have h3 := List.all_eq_true.mp MTmin_ok r h1
  rw [← Nat.eq_of_beq_eq_true h2.1, ← Nat.eq_of_beq_eq_true h2.2]
  exact List.mem_of_getElem? (of_decide_eq_true h3)
theorem MTabs_in {o n : Nat} (h : in3 MTabs o n = true) : Cond.methodLink (ON o) n Lib.Math.abs.name ∈ lw_tbl := by
  obtain ⟨r, h1, h2⟩ := List.any_eq_true.mp h
  simp only [Bool.and_eq_true] at h2
  have h3 := List.all_eq_true.mp MTabs_ok r h1
  rw [← Nat.eq_of_beq_eq_true h2.1, ← Nat.eq_of_beq_eq_true h2.2]
  exact List.mem_of_getElem? (of_decide_eq_true h3)
theorem MTcpy_in {o n : Nat} (h : in3 MTcpy o n = true) : Cond.methodLink (ON o) n arraycopyName ∈ lw_tbl := by
  obtain ⟨r, h1, h2⟩ := List.any_eq_true.mp h
  simp only [Bool.and_eq_true] at h2
  have h3 := List.all_eq_true.mp MTcpy_ok r h1
  rw [← Nat.eq_of_beq_eq_true h2.1, ← Nat.eq_of_beq_eq_true h2.2]
  exact List.mem_of_getElem? (of_decide_eq_true h3)
theorem CLT_in {o n x : Nat} (h : in4 CLT o n x = true) : Cond.classLink (ON o) n (ON x) ∈ lw_tbl := by
  obtain ⟨r, h1, h2⟩ := List.any_eq_true.mp h
  simp only [Bool.and_eq_true] at h2
  have h3 := List.all_eq_true.mp CLT_ok r h1
  rw [← Nat.eq_of_beq_eq_true h2.1.1, ← Nat.eq_of_beq_eq_true h2.1.2, ← Nat.eq_of_beq_eq_true h2.2]
  exact List.mem_of_getElem? (of_decide_eq_true h3)
theorem KLT_in {o n x : Nat} (h : in4 KLT o n x = true) : Cond.constantLong (ON o) n (Int64.ofNat x) ∈ lw_tbl := by
  obtain ⟨r, h1, h2⟩ := List.any_eq_true.mp h
  simp only [Bool.and_eq_true] at h2
  have h3 := List.all_eq_true.mp KLT_ok r h1
  rw [← Nat.eq_of_beq_eq_true h2.1.1, ← Nat.eq_of_beq_eq_true h2.1.2, ← Nat.eq_of_beq_eq_true h2.2]
  exact List.mem_of_getElem? (of_decide_eq_true h3)
theorem KCT_in {o n : Nat} (h : in3 KCT o n = true) : Cond.constant (ON o) n (-2147483648) ∈ lw_tbl := by
  obtain ⟨r, h1, h2⟩ := List.any_eq_true.mp h
  simp only [Bool.and_eq_true] at h2
  have h3 := List.all_eq_true.mp KCT_ok r h1
  rw [← Nat.eq_of_beq_eq_true h2.1, ← Nat.eq_of_beq_eq_true h2.2]
  exact List.mem_of_getElem? (of_decide_eq_true h3)
