theorem ckL0 : (List.range' 0 60).all (okb 189) = true := by decide +kernel
theorem ckL60 : (List.range' 60 60).all (okb 189) = true := by decide +kernel
theorem ckL120 : (List.range' 120 60).all (okb 189) = true := by decide +kernel
theorem ckL180 : (List.range' 180 60).all (okb 189) = true := by decide +kernel
theorem ckL240 : (List.range' 240 60).all (okb 189) = true := by decide +kernel
theorem ckL300 : (List.range' 300 60).all (okb 189) = true := by decide +kernel
theorem ckL360 : (List.range' 360 60).all (okb 189) = true := by decide +kernel
theorem ckL420 : (List.range' 420 60).all (okb 189) = true := by decide +kernel
theorem ckL480 : (List.range' 480 60).all (okb 189) = true := by decide +kernel
theorem ckL540 : (List.range' 540 60).all (okb 189) = true := by decide +kernel
theorem ckL600 : (List.range' 600 60).all (okb 189) = true := by decide +kernel
theorem ckL660 : (List.range' 660 60).all (okb 189) = true := by decide +kernel
theorem ckL720 : (List.range' 720 60).all (okb 189) = true := by decide +kernel
theorem ckL780 : (List.range' 780 60).all (okb 189) = true := by decide +kernel
theorem ckL840 : (List.range' 840 60).all (okb 189) = true := by decide +kernel
theorem ckL900 : (List.range' 900 60).all (okb 189) = true := by decide +kernel
theorem ckL960 : (List.range' 960 60).all (okb 189) = true := by decide +kernel
theorem ckLaw (pc : Nat) (h : pc < 966) : okb 189 pc = true := by
  by_cases h0 : pc < 60
  · exact all_range ckL0 (by omega) (by omega)
  by_cases h60 : pc < 120
  · exact all_range ckL60 (by omega) (by omega)
  by_cases h120 : pc < 180
  · exact all_range ckL120 (by omega) (by omega)
  by_cases h180 : pc < 240
  · exact all_range ckL180 (by omega) (by omega)
  by_cases h240 : pc < 300
  · exact all_range ckL240 (by omega) (by omega)
  by_cases h300 : pc < 360
  · exact all_range ckL300 (by omega) (by omega)
  by_cases h360 : pc < 420
  · exact all_range ckL360 (by omega) (by omega)
  by_cases h420 : pc < 480
  · exact all_range ckL420 (by omega) (by omega)
  by_cases h480 : pc < 540
  · exact all_range ckL480 (by omega) (by omega)
  by_cases h540 : pc < 600
  · exact all_range ckL540 (by omega) (by omega)
  by_cases h600 : pc < 660
  · exact all_range ckL600 (by omega) (by omega)
  by_cases h660 : pc < 720
  · exact all_range ckL660 (by omega) (by omega)
  by_cases h720 : pc < 780
  · exact all_range ckL720 (by omega) (by omega)
  by_cases h780 : pc < 840
  · exact all_range ckL780 (by omega) (by omega)
  by_cases h840 : pc < 900
  · exact all_range ckL840 (by omega) (by omega)
  by_cases h900 : pc < 960
  · exact all_range ckL900 (by omega) (by omega)
  exact all_range ckL960 (by omega) (by omega)
theorem ck_all (m : Nat) (h : m < 189) : chk m = true := by
  by_cases h0 : m < 10
  · exact all_range ck0 (by omega) (by omega)
  by_cases h10 : m < 20
  · exact all_range ck10 (by omega) (by omega)
  by_cases h20 : m < 30
  · exact all_range ck20 (by omega) (by omega)
  by_cases h30 : m < 40
  · exact all_range ck30 (by omega) (by omega)
  by_cases h40 : m < 50
  · exact all_range ck40 (by omega) (by omega)
  by_cases h50 : m < 60
  · exact all_range ck50 (by omega) (by omega)
  by_cases h60 : m < 70
  · exact all_range ck60 (by omega) (by omega)
  by_cases h70 : m < 80
  · exact all_range ck70 (by omega) (by omega)
  by_cases h80 : m < 90
  · exact all_range ck80 (by omega) (by omega)
  by_cases h90 : m < 100
  · exact all_range ck90 (by omega) (by omega)
  by_cases h100 : m < 110
  · exact all_range ck100 (by omega) (by omega)
  by_cases h110 : m < 120
  · exact all_range ck110 (by omega) (by omega)
  by_cases h120 : m < 130
  · exact all_range ck120 (by omega) (by omega)
  by_cases h130 : m < 140
  · exact all_range ck130 (by omega) (by omega)
  by_cases h140 : m < 150
  · exact all_range ck140 (by omega) (by omega)
  by_cases h150 : m < 160
  · exact all_range ck150 (by omega) (by omega)
  by_cases h160 : m < 170
  · exact all_range ck160 (by omega) (by omega)
  by_cases h170 : m < 180
  · exact all_range ck170 (by omega) (by omega)
  exact all_range ck180 (by omega) (by omega)
theorem okb_all (m pc : Nat) (h : m < 190) (h2 : pc < MN m) : okb m pc = true := by
  by_cases h3 : m < 189
  · exact List.all_eq_true.mp (ck_all m h3) pc (List.mem_range.mpr h2)
  · have : m = 189 := by omega
    subst this
    exact ckLaw pc h2
theorem Mc_ok {m pc : Nat} {i : Instr} {nx x1 x2 : Nat} (hm : m < 190) (h : Mc m pc = some (i, nx, x1, x2)) : ∃ ln : Nat, decode (Mb m) pc = .ok (i, ln) ∧ nx = pc + ln ∧ lenOK i ln = true ∧ okX m pc i x1 x2 = true := by
  unfold Mc at h
  cases hb : Nat.blt pc (MN m) with
  | false => rw [hb] at h; cases h
  | true =>
    rw [hb] at h
    have h2 : pc < MN m := Nat.le_of_ble_eq_true hb
    have h3 := okb_all m pc hm h2
    have h4 : Mcd m pc = some (i, nx, x1, x2) := h
    unfold okb at h3
    rw [h4] at h3
    cases hd : decode (Mb m) pc with
    | error e => rw [hd] at h3; cases h3
    | ok q =>
      obtain ⟨i', ln⟩ := q
      rw [hd] at h3
      simp only [Bool.and_eq_true, decide_eq_true_eq] at h3
      exact ⟨ln, by rw [h3.1.1.1], Nat.eq_of_beq_eq_true h3.1.1.2, h3.1.2, h3.2⟩
