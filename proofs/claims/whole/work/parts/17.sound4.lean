/-! ===== calls, ends ===== -/
theorem jw_obj : Cond.instanceMethod objectInit ∈ lw_tbl ∧ Cond.code objectInit ⟨#[0xb1]⟩ 1 none ∈ lw_tbl := ⟨List.mem_of_getElem? (i := 106) (by decide +kernel), List.mem_of_getElem? (i := 107) (by decide +kernel)⟩
theorem jw_min : Cond.static Lib.Math.min.name ∈ lw_tbl ∧ Cond.initialized "java/lang/Math" ∈ lw_tbl ∧ Cond.code Lib.Math.min.name Lib.Math.min.code 2 (some .int) ∈ lw_tbl := ⟨List.mem_of_getElem? (i := 460) (by decide +kernel), List.mem_of_getElem? (i := 98) (by decide +kernel), List.mem_of_getElem? (i := 461) (by decide +kernel)⟩
theorem jw_abs : Cond.static Lib.Math.abs.name ∈ lw_tbl ∧ Cond.code Lib.Math.abs.name Lib.Math.abs.code 1 (some .int) ∈ lw_tbl := ⟨List.mem_of_getElem? (i := 594) (by decide +kernel), List.mem_of_getElem? (i := 595) (by decide +kernel)⟩
theorem jw_cpy : Cond.static arraycopyName ∈ lw_tbl ∧ Cond.native arraycopyName ∈ lw_tbl ∧ Cond.initialized "java/lang/System" ∈ lw_tbl := ⟨List.mem_of_getElem? (i := 368) (by decide +kernel), List.mem_of_getElem? (i := 369) (by decide +kernel), List.mem_of_getElem? (i := 95) (by decide +kernel)⟩
/-- what a call's own contract is -/
def CallOK (l : Launch) (dep : Nat) (RN : RT) (G : GT) : Prop := ∀ (m' : Nat) (as : List AV) (h : AH) (Q0 : Option AV → AH → Prop), m' < 189 → Mo m' ≠ 9 → RN m' as h Q0 → ∃ d, dep = d + 1 ∧ Met l (My m') (mw m') (rmd d m') (PcG G as h) (QcG G Q0) (Mmc m') (Mms m') (AA G)
theorem pushV_map (G : GT) (v : Option AV) (r : List AV) : (pushV v r).map (cV G) = (v.map (cV G)).toList ++ r.map (cV G) := by
  cases v <;> rfl
theorem cpy_room {a dep L : Nat} (h8 : a ≤ 8) (hd : 1 ≤ dep) (hL : 41 * dep ≤ L) : 2 * 0 + a + (nativeFrameWords "java/lang/System" "arraycopy" 5 + 11) ≤ L := by
  have h1 : nativeFrameWords "java/lang/System" "arraycopy" 5 + 11 ≤ 33 := by decide +kernel
  omega
section SND4
variable {p : Program} {l : Launch} {e : Env} {R : Room} {s : State} {mid : MethodId} {args : Array Value} {below : List Frame} {meth : Method} {cd : Code} {QQ : State → Prop}
variable {G : GT} {mm dep mc ms : Nat} {Q : Option AV → AH → Prop} {pc : Nat} {al st : List AV} {h : AH} {c' s' : Nat} {k0 : KT} {ln nx x1 x2 : Nat}
variable {RN : RT}

theorem s_aastore (C : CX p l e R s mid args below meth cd G mm dep mc ms) (hk : ∀ a1 a2 a3 a4 a5 a6, k0 a1 a2 a3 a4 a5 a6 → XX p l e R s mid args below meth cd G mm mc ms QQ a1 a2 a3 a4 a5 a6) (hd : decode (Mb mm) pc = .ok (.aastore, ln)) (hln : lenOK (.aastore) ln = true) (hX : okX mm pc (.aastore) x1 x2 = true) (hs : pR st fun v r => pI r fun j r => pR r fun a r => hG (isO 2 fun _ => hG (isAR fun t n f => t = 3 ∧ IxOK j n ∧ hS (cS n (upZ f j (some v))) (fun h' => k0 (pc + ln) al r h' c' s') h a) h a) h v) : XX p l e R s mid args below meth cd G mm mc ms QQ pc al st h c' s' := by
  obtain ⟨hx, hb, hml, hown, hts, hT, hin, hsz, hfr, hlo, hmc, hms, hmm⟩ := C
  obtain rfl := Nat.eq_of_beq_eq_true hln
  obtain ⟨v, r, rfl, hp0⟩ := pR_e hs
  obtain ⟨j, r, rfl, hp1⟩ := pI_e hp0
  obtain ⟨a, r, rfl, hp2⟩ := pR_e hp1
  intro ls H locs hl hW hS hc1 hs1
  obtain ⟨cl, hatv, hp3⟩ := hG_e hp2
  obtain ⟨fs, rfl, hp4⟩ := isO_e hp3
  obtain ⟨cl, hat, hp5⟩ := hG_e hp4
  obtain ⟨t, n, f, -, rfl, hn, rfl, hix, hp6⟩ := isAR_e hp5
  obtain ⟨b1, b2, b3, b4⟩ := ix_in hix (by omega)
  have hp6 := hS_e hp6
  have hat2 := cW_at hW.2 hat
  have hatv2 := cW_at hW.2 hatv
  have hcell : H[ad G a]? = some (arrV (G.2.1 3) n (fun j => va_rf ((f (j : Int)).map (ad G)))) := hW.1 _ _ hat2
  obtain ⟨r', hr', cellV, g1, g2, g3, -⟩ := hW.1 _ _ hatv2
  have hcls := (hT.1.1 2 _ (cl_at 2 (by omega))).2
  obtain ⟨kA, comp, k1, k2, k3, -⟩ := (hT.1.2 3 _ rfl).2
  have hcomp : comp = G.2.2.2.2.1.1 2 := Option.some.inj (k3.symm.trans hcls.1)
  subst hcomp
  obtain ⟨kC, hkC, -⟩ := id hcls.2
  have h0 : ¬ iI j < 0 := fun q => b1 (Or.inl q)
  refine W.aast hx hb hcell (fun q h => by cases h) (fun h => by cases h) k1 k2 rfl hkC ⟨h0, by rw [arrV_size, b2]; exact b4⟩ g1 (fun q h => by rw [g3] at h; cases h) (by rw [g2]; exact hkC) (by rw [g2]; exact va_assign hcls) rfl rfl hd fun H1 e1 e2 e3 => ?_
  refine hk _ _ _ _ _ _ hp6 ls H1 _ hl (WH_put hW hat e2 (hW.1.set (cW_D hW.2) hat2 ?_ e3)) (hS.put e2 e3 ((cW_D hW.2).2 _ _ hat2)) hc1 hs1
  show H1[ad G a]? = some (arrV (G.2.1 3) n (fun jq => va_rf ((upZ f j (some v) (jq : Int)).map (ad G))))
  rw [e1, arrV_store, b2]
  congr 2
  funext q
  unfold updV upZ
  by_cases e : q = j.toNat
  · rw [if_pos e, if_pos (by omega)]
    rfl
  · rw [if_neg e, if_neg (by omega)]

theorem s_min {n : Nat} (C : CX p l e R s mid args below meth cd G mm dep mc ms) (hk : ∀ a1 a2 a3 a4 a5 a6, k0 a1 a2 a3 a4 a5 a6 → XX p l e R s mid args below meth cd G mm mc ms QQ a1 a2 a3 a4 a5 a6) (hd : decode (Mb mm) pc = .ok (.invokestatic n, ln)) (hln : lenOK (.invokestatic n) ln = true) (hX : in3 MTmin (Mo mm) n = true) (hs : pI st fun y r => pI r fun x r => cond (Nat.ble (cats r) 8 && Nat.ble 1 dep) (rg x ∧ rg y ∧ k0 (pc + ln) al (vI (if y < x then y else x) :: r) h c' s') False) : XX p l e R s mid args below meth cd G mm mc ms QQ pc al st h c' s' := by
  obtain ⟨hx, hb, hml, hown, hts, hT, hin, hsz, hfr, hlo, hmc, hms, hmm⟩ := C
  obtain rfl := Nat.eq_of_beq_eq_true hln
  obtain ⟨y, r, rfl, hp0⟩ := pI_e hs
  obtain ⟨x, r, rfl, hp1⟩ := pI_e hp0
  obtain ⟨hbu, hrx, hry, hp2⟩ := cond_t hp1
  rw [Bool.and_eq_true] at hbu
  have hb8 := Nat.le_of_ble_eq_true hbu.1
  have hd1 := Nat.le_of_ble_eq_true hbu.2
  intro ls H locs hl hW hS hc1 hs1
  have q := hk _ _ _ _ _ _ hp2 ls H locs hl hW hS hc1 hs1
  have e9 : (if iI y < iI x then iI y else iI x) = iI (if y < x then y else x) := by
    by_cases hh : y < x
    · rw [if_pos hh, if_pos ((iI_lt hry hrx).mpr hh)]
    · rw [if_neg hh, if_neg (fun z => hh ((iI_lt hry hrx).mp z))]
  have q : W p l e R s mid args below meth cd H locs c' s' QQ (F0 mid (pc + 3) ls (.int (iI (if y < x then y else x)) :: r.map (cV G))) := q
  rw [← e9] at q
  exact va_mmin hx hb (by rw [hl.size]; exact hml) hown (hts _ (in_glw (MTmin_in hX) rfl)) (hts _ (in_glw jw_min.1 rfl)) (hts _ (in_glw jw_min.2.1 rfl)) (hts _ (in_glw jw_min.2.2 rfl)) (by omega) (by rw [cats_ok]; omega) (by omega) (by omega) hd q

theorem s_abs {n : Nat} (C : CX p l e R s mid args below meth cd G mm dep mc ms) (hk : ∀ a1 a2 a3 a4 a5 a6, k0 a1 a2 a3 a4 a5 a6 → XX p l e R s mid args below meth cd G mm mc ms QQ a1 a2 a3 a4 a5 a6) (hd : decode (Mb mm) pc = .ok (.invokestatic n, ln)) (hln : lenOK (.invokestatic n) ln = true) (hX : in3 MTabs (Mo mm) n = true) (hs : pI st fun x r => cond (Nat.ble (cats r) 8 && Nat.ble 1 dep) (rg x ∧ k0 (pc + ln) al (vI (if 0 ≤ x then x else -x) :: r) h c' s') False) : XX p l e R s mid args below meth cd G mm mc ms QQ pc al st h c' s' := by
  obtain ⟨hx, hb, hml, hown, hts, hT, hin, hsz, hfr, hlo, hmc, hms, hmm⟩ := C
  obtain rfl := Nat.eq_of_beq_eq_true hln
  obtain ⟨x, r, rfl, hp1⟩ := pI_e hs
  obtain ⟨hbu, hrx, hp2⟩ := cond_t hp1
  rw [Bool.and_eq_true] at hbu
  have hb8 := Nat.le_of_ble_eq_true hbu.1
  have hd1 := Nat.le_of_ble_eq_true hbu.2
  intro ls H locs hl hW hS hc1 hs1
  have q := hk _ _ _ _ _ _ hp2 ls H locs hl hW hS hc1 hs1
  have e9 : (if 0 ≤ iI x then iI x else 0 - iI x) = iI (if 0 ≤ x then x else -x) := by
    by_cases hh : 0 ≤ x
    · rw [if_pos hh, if_pos (by rw [← iI_0]; exact (iI_le rg_0 hrx).mpr hh)]
    · rw [if_neg hh, if_neg (fun z => hh ((iI_le rg_0 hrx).mp (by rw [iI_0]; exact z))), iI_neg]
      exact Int32.zero_sub _
  have q : W p l e R s mid args below meth cd H locs c' s' QQ (F0 mid (pc + 3) ls (.int (iI (if 0 ≤ x then x else -x)) :: r.map (cV G))) := q
  rw [← e9] at q
  exact va_mabs hx hb (by rw [hl.size]; exact hml) hown (hts _ (in_glw (MTabs_in hX) rfl)) (hts _ (in_glw jw_abs.1 rfl)) (hts _ (in_glw jw_min.2.1 rfl)) (hts _ (in_glw jw_abs.2 rfl)) (by omega) (by rw [cats_ok]; omega) (by omega) (by omega) hd q

theorem s_cpy {i : Nat} (C : CX p l e R s mid args below meth cd G mm dep mc ms) (hk : ∀ a1 a2 a3 a4 a5 a6, k0 a1 a2 a3 a4 a5 a6 → XX p l e R s mid args below meth cd G mm mc ms QQ a1 a2 a3 a4 a5 a6) (hd : decode (Mb mm) pc = .ok (.invokestatic i, ln)) (hln : lenOK (.invokestatic i) ln = true) (hX : in3 MTcpy (Mo mm) i = true) (hs : pI st fun n r => pI r fun dp r => pR r fun b r => pI r fun sp r => pR r fun a r => cond (Nat.ble (cats r) 8 && Nat.ble 1 dep) (hG (isA 0 fun n0 f => hG (isA 0 fun n1 g => (0 ≤ sp ∧ 0 ≤ dp ∧ 0 ≤ n ∧ sp + n ≤ (n0 : Int) ∧ dp + n ≤ (n1 : Int)) ∧ hS (cI n1 (cpZ f g sp dp n)) (fun h' => k0 (pc + ln) al r h' c' s') h b) h b) h a) False) : XX p l e R s mid args below meth cd G mm mc ms QQ pc al st h c' s' := by
  obtain ⟨hx, hb, hml, hown, hts, hT, hin, hsz, hfr, hlo, hmc, hms, hmm⟩ := C
  obtain rfl := Nat.eq_of_beq_eq_true hln
  obtain ⟨n, r, rfl, hpa⟩ := pI_e hs
  obtain ⟨dp, r, rfl, hpb⟩ := pI_e hpa
  obtain ⟨b, r, rfl, hpc⟩ := pR_e hpb
  obtain ⟨sp, r, rfl, hpd⟩ := pI_e hpc
  obtain ⟨a, r, rfl, hp1⟩ := pR_e hpd
  obtain ⟨hbu, hp2⟩ := cond_t hp1
  rw [Bool.and_eq_true] at hbu
  have hb8 := Nat.le_of_ble_eq_true hbu.1
  have hd1 := Nat.le_of_ble_eq_true hbu.2
  obtain ⟨cl, hata, hp3⟩ := hG_e hp2
  obtain ⟨n0, f, rfl, hn0, hp4⟩ := isA_e hp3
  obtain ⟨cl, hatb, hp5⟩ := hG_e hp4
  obtain ⟨n1, gg, rfl, hn1, ⟨c1, c2, c3, c4, c5⟩, hp6⟩ := isA_e hp5
  have hp6 := hS_e hp6
  intro ls H locs hl hW hS hc1 hs1
  have hata2 := cW_at hW.2 hata
  have hatb2 := cW_at hW.2 hatb
  have nn : ∀ z : Int, 0 ≤ z → z ≤ 100000 → ¬ iI z < 0 := fun z h0 h1 q => by
    rw [← iI_0, iI_lt (by unfold rg; omega) rg_0] at q
    omega
  have k1 : (iI sp).toNatClampNeg = sp.toNat := iI_clamp c1 (by omega)
  have k2 : (iI dp).toNatClampNeg = dp.toNat := iI_clamp c2 (by omega)
  have k3 : (iI n).toNatClampNeg = n.toNat := iI_clamp c3 (by omega)
  have hca : H[ad G a]? = some (vp_cell (G.2.1 0) (n0, .inl (fun j => iI (f (j : Int))))) := hW.1 _ _ hata2
  have hcb : H[ad G b]? = some (vp_cell (G.2.1 0) (n1, .inl (fun j => iI (gg (j : Int))))) := hW.1 _ _ hatb2
  intro T hTH X
  obtain ⟨-, ka, hka, cma, hkka⟩ := (hT.1.2 0 _ rfl).1 n0 (fun j => .int (iI (f (j : Int))))
  obtain ⟨-, kb, hkb, cmb, hkkb⟩ := (hT.1.2 0 _ rfl).1 n1 (fun j => .int (iI (gg (j : Int))))
  have hkka : ka.kind = .array cma .int := hkka
  have hkkb : kb.kind = .array cmb .int := hkkb
  obtain ⟨vm', X', step⟩ := X.arraycopy (cs := vp_cell (G.2.1 0) (n0, .inl (fun j => iI (f (j : Int))))) (cd := vp_cell (G.2.1 0) (n1, .inl (fun j => iI (gg (j : Int))))) hx hown (hts _ (in_glw (MTcpy_in hX) rfl)) (hts _ (in_glw jw_cpy.2.1 rfl)) (hts _ (in_glw jw_cpy.1 rfl)) (hts _ (in_glw jw_cpy.2.2 rfl)) (src := ad G a) (dst := ad G b) (srcPos := iI sp) (destPos := iI dp) (n := iI n) (by rw [hTH]; exact hca) (by rw [hTH]; exact hcb)
    (fun _ z => by cases z) (fun _ z => by cases z) (fun z => by cases z) (fun z => by cases z) hka hkb hkka hkkb (by decide) (nn sp c1 (by omega)) (nn dp c2 (by omega)) (nn n c3 (by omega))
    (by rw [iI_toInt (by unfold rg; omega), iI_toInt (by unfold rg; omega)]; show ¬ _ > ((arrV _ n0 _).slots.size : Int); rw [arrV_size]; omega)
    (by rw [iI_toInt (by unfold rg; omega), iI_toInt (by unfold rg; omega)]; show ¬ _ > ((arrV _ n1 _).slots.size : Int); rw [arrV_size]; omega)
    (fun vm₁ _ i hi => by
      rw [k3] at hi
      have e : (vp_cell (G.2.1 0) (n0, .inl (fun j => iI (f (j : Int))))).slots.getD ((iI sp).toNatClampNeg + i) .null = .int (iI (f ((sp.toNat + i : Nat) : Int))) := by
        show (arrV (G.2.1 0) n0 (fun j => .int (iI (f (j : Int))))).slots.getD _ _ = _
        rw [k1, Array.getD_eq_getD_getElem?, arrV_read _ _ (by omega)]
        rfl
      exact ⟨by rw [e]; rfl, by rw [e]; exact trivial⟩)
    (g := F0 mid pc ls (.int (iI n) :: .int (iI dp) :: .ref (ad G b) :: .int (iI sp) :: .ref (ad G a) :: r.map (cV G))) rfl (by rw [hml]; exact hl.size) (rest := r.map (cV G)) rfl (by rw [hb]; exact hd) (by omega) (by show 2 * 0 + _ + _ ≤ _; rw [cats_ok]; exact cpy_room hb8 hd1 hlo)
  have e1 : copied (vp_cell (G.2.1 0) (n0, .inl (fun j => iI (f (j : Int))))) (vp_cell (G.2.1 0) (n1, .inl (fun j => iI (gg (j : Int))))) (iI sp) (iI dp) (iI n) = vp_cell (G.2.1 0) (n1, .inl (fun jq => iI (cpZ f gg sp dp n (jq : Int)))) := by
    have e0 := va_copied (fun z => Value.int z) (G.2.1 0) (G.2.1 0) (n0 := n0) (n1 := n1) (sp := (iI sp).toNatClampNeg) (dp := (iI dp).toNatClampNeg) (n := (iI n).toNatClampNeg) (fun j : Nat => iI (f (j : Int))) (fun j : Nat => iI (gg (j : Int))) (by rw [k1, k3]; omega)
    rw [k1, k2, k3, cp_Z f gg c1 c2 c3] at e0
    exact (by rw [← k1, ← k2, ← k3] at e0; exact e0)
  rw [e1] at X' step
  have hlb : ad G b < H.size := (Array.getElem?_eq_some_iff.mp hcb).1
  have hheap : ((T.setVm vm').setCell (ad G b) (vp_cell (G.2.1 0) (n1, .inl (fun jq => iI (cpZ f gg sp dp n (jq : Int)))))).heap = H.setIfInBounds (ad G b) (vp_cell (G.2.1 0) (n1, .inl (fun jq => iI (cpZ f gg sp dp n (jq : Int))))) := by rw [← hTH]; rfl
  have oq : ∀ q : Nat, q ≠ ad G b → (H.setIfInBounds (ad G b) (vp_cell (G.2.1 0) (n1, .inl (fun jq => iI (cpZ f gg sp dp n (jq : Int))))))[q]? = H[q]? := fun q hq => by simp [Array.getElem?_setIfInBounds, Ne.symm hq]
  have hAb : AA G (ad G b) := (cW_D hW.2).2 _ _ hatb2
  obtain ⟨t, a1, b1⟩ := hk _ _ _ _ _ _ hp6 ls (H.setIfInBounds (ad G b) (vp_cell (G.2.1 0) (n1, .inl (fun jq => iI (cpZ f gg sp dp n (jq : Int)))))) _ hl (WH_put hW hatb (by simp) (hW.1.set (cW_D hW.2) hatb2 (show (H.setIfInBounds (ad G b) _)[ad G b]? = some _ by simp [Array.getElem?_setIfInBounds, hlb]) oq)) ⟨by simp; exact hS.1, fun q g1 g2 => by
      rw [oq q (fun e => g2 (by rw [e]; exact hAb))]
      exact hS.2.1 q g1 g2, fun q hq => by
      rcases List.mem_append.mp hq with h | h
      · exact hS.2.2 q h
      · obtain ⟨z, -, hz⟩ := List.mem_map.mp h
        rw [← hz]
        exact hAb⟩ hc1 hs1 _ hheap X'
  exact ⟨t, step t a1, b1⟩

theorem s_objinit {n : Nat} (C : CX p l e R s mid args below meth cd G mm dep mc ms) (hk : ∀ a1 a2 a3 a4 a5 a6, k0 a1 a2 a3 a4 a5 a6 → XX p l e R s mid args below meth cd G mm mc ms QQ a1 a2 a3 a4 a5 a6) (hd : decode (Mb mm) pc = .ok (.invokespecial n, ln)) (hln : lenOK (.invokespecial n) ln = true) (hX : in3 MTO (Mo mm) n = true) (hs : pR st fun _ r => cond (Nat.ble (cats r) 8 && Nat.ble 1 dep) (k0 (pc + ln) al r h c' s') False) : XX p l e R s mid args below meth cd G mm mc ms QQ pc al st h c' s' := by
  obtain ⟨hx, hb, hml, hown, hts, hT, hin, hsz, hfr, hlo, hmc, hms, hmm⟩ := C
  obtain rfl := Nat.eq_of_beq_eq_true hln
  obtain ⟨a, r, rfl, hp1⟩ := pR_e hs
  obtain ⟨hbu, hp2⟩ := cond_t hp1
  rw [Bool.and_eq_true] at hbu
  have hb8 := Nat.le_of_ble_eq_true hbu.1
  have hd1 := Nat.le_of_ble_eq_true hbu.2
  intro ls H locs hl hW hS hc1 hs1
  exact W.objInit hx hb hown (hts _ (in_glw (MTO_in hX) rfl)) (hts _ (in_glw jw_obj.1 rfl)) (hts _ (in_glw jw_obj.2 rfl)) rfl (by rw [hml]; exact hl.size) rfl hd (by omega) (by show 2 * 0 + _ + 12 ≤ _; rw [cats_ok]; omega) (hk _ _ _ _ _ _ hp2 ls H locs hl hW hS hc1 hs1)

theorem s_virt {n : Nat} (hC : CallOK l dep RN G) (C : CX p l e R s mid args below meth cd G mm dep mc ms) (hk : ∀ a1 a2 a3 a4 a5 a6, k0 a1 a2 a3 a4 a5 a6 → XX p l e R s mid args below meth cd G mm mc ms QQ a1 a2 a3 a4 a5 a6) (hd : decode (Mb mm) pc = .ok (.invokevirtual n, ln)) (hln : lenOK (.invokevirtual n) ln = true) (hX : okX mm pc (.invokevirtual n) x1 x2 = true) (hs : pN x2 [] st fun as r => pR r fun a r => cond (Nat.ble (cats r) 8) (hG (isO (Mo x1) fun _ => RN x1 (vR a :: as) h (fun v h' => k0 (pc + ln) al (pushV v r) h' c' s')) h a) False) : XX p l e R s mid args below meth cd G mm mc ms QQ pc al st h c' s' := by
  obtain ⟨hx, hb, hml, hown, hts, hT, hin, hsz, hfr, hlo, hmc, hms, hmm⟩ := C
  obtain rfl := Nat.eq_of_beq_eq_true hln
  have hX2 : (in4 MT (Mo mm) n x1 && Nat.beq x2 (Mas x1) && !(Mst x1) && !(Mini x1) && Nat.blt x1 189) = true := hX
  simp only [Bool.and_eq_true, Bool.not_eq_true'] at hX2
  obtain ⟨⟨⟨⟨m1, m2⟩, m3⟩, m4⟩, m5⟩ := hX2
  have m5 := blt_t m5
  have m2 := Nat.eq_of_beq_eq_true m2
  obtain ⟨⟨f1, f2, f3, f4, f5⟩, f6, f7, f8, f9⟩ := mf_get x1 m5
  obtain ⟨w1, w2, w3, w4⟩ := mw_all x1 m5
  have h7 := f9 m3
  obtain ⟨as, r, rfl, hlen, hp1⟩ := pN_e hs
  rw [List.append_nil] at hp1
  obtain ⟨a, r, rfl, hp2⟩ := pR_e hp1
  obtain ⟨hb8, hp3⟩ := cond_t hp2
  have hb8 := Nat.le_of_ble_eq_true hb8
  obtain ⟨cl, hat, hp4⟩ := hG_e hp3
  obtain ⟨fs, rfl, hp5⟩ := isO_e hp4
  obtain ⟨d, hdep, hM⟩ := hC x1 _ h _ m5 (by omega) hp5
  intro ls H locs hl hW hS hc1 hs1
  have hWT : ∀ U : State, U.heap = H → s.WarmedH U.vm → WT G U := fun U hU hWm => hT.mv hWm.alike (fun q hq => by rw [hU]; exact hS.2.1 q (Nat.lt_of_lt_of_le hq hsz) (Nat.not_le.mpr hq)) (fun w _ hi hn => nest_warm hi hWm hn)
  have hst : (as.reverse ++ vR a :: r).map (cV G) = (as.map (cV G)).reverse ++ .ref (ad G a) :: r.map (cV G) := by
    rw [List.map_append, List.map_reverse]
    rfl
  rw [hst]
  have hG : GoodIn glw (wsV (ON (Mo mm)) n (ON (Mo x1)) (My x1) (mw x1)) := by
    intro w hw
    rcases List.mem_append.mp hw with hw | hw
    · rcases List.mem_cons.mp hw with rfl | hw
      · exact ⟨in_glw (MT_in m1) rfl, good_of_word rfl⟩
      rcases List.mem_cons.mp hw with rfl | hw
      · exact ⟨in_glw (w2 m3) rfl, good_of_word rfl⟩
      rcases List.mem_cons.mp hw with rfl | hw
      · have := w4 m3 m4
        rw [f2] at this
        exact ⟨in_glw this rfl, good_of_word rfl⟩
      rcases List.mem_cons.mp hw with rfl | hw
      · rw [f2] at w3
        exact ⟨in_glw w3 rfl, good_of_word rfl⟩
      · cases hw
    · exact mw_good m5 w hw
  have hrun := va_runV (l := l) (below := below) (meth := meth) (locs := locs) (cells := c') (slots := s') (rest := r.map (cV G)) (As := as.map (cV G)) (b := ad G a) (g := F0 mid pc ls ((as.map (cV G)).reverse ++ .ref (ad G a) :: r.map (cV G))) (e := e) ⟨hx, hb, hml, hown, hts⟩ hM (cwV (R := R) (Mas x1) hts hG rfl rfl rfl ⟨f2, f4, f5, f1⟩ ⟨by show d + 1 ≤ _; omega, by show 8 + (ML x1 + 11) + 41 * d ≤ _; omega⟩)
    ⟨PcG_blind _ _ _, va_recv hT.1 hW.1 (cl_at (Mo x1) h7) (cW_at hW.2 hat), fun U hU hWm => ⟨rfl, by rw [hU]; exact hW, hWT U hU hWm⟩⟩ rfl (by rw [List.length_map, hlen, m2]) hl.size rfl (lv_room (by rw [cats_ok]; exact hb8)) hd (by rw [(f8 m4).1, (f8 m4).2]; omega)
  refine my_call hrun hS fun v h' H1 locs1 hq hW1 hS1 => ?_
  rw [(f8 m4).1, (f8 m4).2]
  have r2 := hk _ _ _ _ _ _ hq ls H1 locs1 hl hW1 hS1 hc1 hs1
  rw [pushV_map] at r2
  exact r2

theorem s_stat {n : Nat} (hC : CallOK l dep RN G) (h9 : Mo x1 ≠ 9) (C : CX p l e R s mid args below meth cd G mm dep mc ms) (hk : ∀ a1 a2 a3 a4 a5 a6, k0 a1 a2 a3 a4 a5 a6 → XX p l e R s mid args below meth cd G mm mc ms QQ a1 a2 a3 a4 a5 a6) (hd : decode (Mb mm) pc = .ok (.invokestatic n, ln)) (hln : lenOK (.invokestatic n) ln = true) (hX : (in4 MT (Mo mm) n x1 && Nat.beq x2 (Mas x1) && Mst x1 && Nat.blt x1 189 && Nat.beq (Mmc x1) 0 && Nat.beq (Mms x1) 0) = true) (hs : pN x2 [] st fun as r => cond (Nat.ble (cats r) 8) (RN x1 as h (fun v h' => k0 (pc + ln) al (pushV v r) h' c' s')) False) : XX p l e R s mid args below meth cd G mm mc ms QQ pc al st h c' s' := by
  obtain ⟨hx, hb, hml, hown, hts, hT, hin, hsz, hfr, hlo, hmc, hms, hmm⟩ := C
  obtain rfl := Nat.eq_of_beq_eq_true hln
  simp only [Bool.and_eq_true] at hX
  obtain ⟨⟨⟨⟨⟨m1, m2⟩, m3⟩, m5⟩, m6⟩, m7⟩ := hX
  have m5 := blt_t m5
  have m2 := Nat.eq_of_beq_eq_true m2
  have m6 := Nat.eq_of_beq_eq_true m6
  have m7 := Nat.eq_of_beq_eq_true m7
  obtain ⟨⟨f1, f2, f3, f4, f5⟩, f6, f7, f8, f9⟩ := mf_get x1 m5
  obtain ⟨w1, w2, w3, w4⟩ := mw_all x1 m5
  obtain ⟨as, r, rfl, hlen, hp1⟩ := pN_e hs
  rw [List.append_nil] at hp1
  obtain ⟨hb8, hp3⟩ := cond_t hp1
  have hb8 := Nat.le_of_ble_eq_true hb8
  obtain ⟨d, hdep, hM⟩ := hC x1 _ h _ m5 h9 hp3
  intro ls H locs hl hW hS hc1 hs1
  have hWT : ∀ U : State, U.heap = H → s.WarmedH U.vm → WT G U := fun U hU hWm => hT.mv hWm.alike (fun q hq => by rw [hU]; exact hS.2.1 q (Nat.lt_of_lt_of_le hq hsz) (Nat.not_le.mpr hq)) (fun w _ hi hn => nest_warm hi hWm hn)
  have hst : (as.reverse ++ r).map (cV G) = (as.map (cV G)).reverse ++ r.map (cV G) := by
    rw [List.map_append, List.map_reverse]
  rw [hst]
  have hG : GoodIn glw (va_wsS (ON (Mo mm)) n (My x1) (mw x1)) := by
    intro w hw
    rcases List.mem_append.mp hw with hw | hw
    · rcases List.mem_cons.mp hw with rfl | hw
      · exact ⟨in_glw (MT_in m1) rfl, good_of_word rfl⟩
      rcases List.mem_cons.mp hw with rfl | hw
      · exact ⟨in_glw (w1 m3) rfl, good_of_word rfl⟩
      rcases List.mem_cons.mp hw with rfl | hw
      · exact ⟨in_glw w3 rfl, good_of_word rfl⟩
      · cases hw
    · exact mw_good m5 w hw
  have hrun := va_runS (l := l) (below := below) (meth := meth) (locs := locs) (cells := c') (slots := s') (rest := r.map (cV G)) (As := as.map (cV G)) (g := F0 mid pc ls ((as.map (cV G)).reverse ++ r.map (cV G))) (e := e) ⟨hx, hb, hml, hown, hts⟩ hM (va_cwS (R := R) (Mas x1) hts hG rfl rfl rfl ⟨f4, f5, f1⟩ ⟨by show d + 1 ≤ _; omega, by show 8 + (ML x1 + 11) + 41 * d ≤ _; omega⟩)
    ⟨PcG_blind _ _ _, fun U hU hWm => ⟨rfl, by rw [hU]; exact hW, hWT U hU hWm⟩⟩ rfl (by rw [List.length_map, hlen, m2]) hl.size rfl (lv_room (by rw [cats_ok]; exact hb8)) hd (by rw [m6, m7]; omega)
  refine my_call hrun hS fun v h' H1 locs1 hq hW1 hS1 => ?_
  rw [m6, m7]
  have r2 := hk _ _ _ _ _ _ hq ls H1 locs1 hl hW1 hS1 hc1 hs1
  rw [pushV_map] at r2
  exact r2

theorem s_statN {n : Nat} (hC : CallOK l dep RN G) (h9 : Mo x1 ≠ 9) (C : CX p l e R s mid args below meth cd G mm dep mc ms) (hk : ∀ a1 a2 a3 a4 a5 a6, k0 a1 a2 a3 a4 a5 a6 → XX p l e R s mid args below meth cd G mm mc ms QQ a1 a2 a3 a4 a5 a6) (hd : decode (Mb mm) pc = .ok (.invokestatic n, ln)) (hln : lenOK (.invokestatic n) ln = true) (hX : (in4 MTN (Mo mm) n x1 && Nat.beq x2 (Mas x1) && Mst x1 && Nat.blt x1 189 && Nat.beq (Mmc x1) 0 && Nat.beq (Mms x1) 0) = true) (hs : pN x2 [] st fun as r => cond (Nat.ble (cats r) 8) (RN x1 as h (fun v h' => k0 (pc + ln) al (pushV v r) h' c' s')) False) : XX p l e R s mid args below meth cd G mm mc ms QQ pc al st h c' s' := by
  obtain ⟨hx, hb, hml, hown, hts, hT, hin, hsz, hfr, hlo, hmc, hms, hmm⟩ := C
  obtain rfl := Nat.eq_of_beq_eq_true hln
  simp only [Bool.and_eq_true] at hX
  obtain ⟨⟨⟨⟨⟨m1, m2⟩, m3⟩, m5⟩, m6⟩, m7⟩ := hX
  have m5 := blt_t m5
  have m2 := Nat.eq_of_beq_eq_true m2
  have m6 := Nat.eq_of_beq_eq_true m6
  have m7 := Nat.eq_of_beq_eq_true m7
  obtain ⟨⟨f1, f2, f3, f4, f5⟩, f6, f7, f8, f9⟩ := mf_get x1 m5
  obtain ⟨w1, w2, w3, w4⟩ := mw_all x1 m5
  obtain ⟨as, r, rfl, hlen, hp1⟩ := pN_e hs
  rw [List.append_nil] at hp1
  obtain ⟨hb8, hp3⟩ := cond_t hp1
  have hb8 := Nat.le_of_ble_eq_true hb8
  obtain ⟨d, hdep, hM⟩ := hC x1 _ h _ m5 h9 hp3
  intro ls H locs hl hW hS hc1 hs1
  have hWT : ∀ U : State, U.heap = H → s.WarmedH U.vm → WT G U := fun U hU hWm => hT.mv hWm.alike (fun q hq => by rw [hU]; exact hS.2.1 q (Nat.lt_of_lt_of_le hq hsz) (Nat.not_le.mpr hq)) (fun w _ hi hn => nest_warm hi hWm hn)
  have hst : (as.reverse ++ r).map (cV G) = (as.map (cV G)).reverse ++ r.map (cV G) := by
    rw [List.map_append, List.map_reverse]
  rw [hst]
  have hrun := va_runSN (l := l) (below := below) (meth := meth) (locs := locs) (cells := c') (slots := s') (rest := r.map (cV G)) (As := as.map (cV G)) (g := F0 mid pc ls ((as.map (cV G)).reverse ++ r.map (cV G))) (e := e) ⟨hx, hb, hml, hown, hts⟩ hM ⟨va_cnB (R := R) (Mas x1) hts (mw_good m5) rfl rfl rfl (hT.2.2.2.2.1 _ (MTN_in m1) rfl) (hts _ (in_glw w3 rfl)) ⟨f4, f5, f1⟩ ⟨by show d + 1 ≤ _; omega, by show 8 + (ML x1 + 11) + 41 * d ≤ _; omega⟩, hts _ (in_glw (w1 m3) rfl), trivial⟩
    ⟨PcG_blind _ _ _, fun U hU hWm => ⟨rfl, by rw [hU]; exact hW, hWT U hU hWm⟩⟩ rfl (by rw [List.length_map, hlen, m2]) hl.size rfl (lv_room (by rw [cats_ok]; exact hb8)) hd (by rw [m6, m7]; omega)
  refine my_call hrun hS fun v h' H1 locs1 hq hW1 hS1 => ?_
  rw [m6, m7]
  have r2 := hk _ _ _ _ _ _ hq ls H1 locs1 hl hW1 hS1 hc1 hs1
  rw [pushV_map] at r2
  exact r2

theorem s_spec {n : Nat} (hC : CallOK l dep RN G) (C : CX p l e R s mid args below meth cd G mm dep mc ms) (hk : ∀ a1 a2 a3 a4 a5 a6, k0 a1 a2 a3 a4 a5 a6 → XX p l e R s mid args below meth cd G mm mc ms QQ a1 a2 a3 a4 a5 a6) (hd : decode (Mb mm) pc = .ok (.invokespecial n, ln)) (hln : lenOK (.invokespecial n) ln = true) (hX : (in4 MT (Mo mm) n x1 && Nat.beq x2 (Mas x1) && !(Mst x1) && Mini x1 && Nat.blt x1 189) = true) (hs : pN x2 [] st fun as r => pR r fun a r => cond (Nat.ble (cats r) 8 && Nat.ble (c' + Mmc x1) mc && Nat.ble (s' + Mms x1) ms) (RN x1 (vR a :: as) h (fun v h' => k0 (pc + ln) al (pushV v r) h' (c' + Mmc x1) (s' + Mms x1))) False) : XX p l e R s mid args below meth cd G mm mc ms QQ pc al st h c' s' := by
  obtain ⟨hx, hb, hml, hown, hts, hT, hin, hsz, hfr, hlo, hmc, hms, hmm⟩ := C
  obtain rfl := Nat.eq_of_beq_eq_true hln
  simp only [Bool.and_eq_true, Bool.not_eq_true'] at hX
  obtain ⟨⟨⟨⟨m1, m2⟩, m3⟩, m4⟩, m5⟩ := hX
  have m5 := blt_t m5
  have m2 := Nat.eq_of_beq_eq_true m2
  obtain ⟨⟨f1, f2, f3, f4, f5⟩, f6, f7, f8, f9⟩ := mf_get x1 m5
  obtain ⟨w1, w2, w3, w4⟩ := mw_all x1 m5
  have h7 := f9 m3
  obtain ⟨f7, f7r⟩ := f7 m4
  have hmw : mw x1 = Cond.code (My x1) (Mb x1) (ML x1) none :: glw := by unfold mw; rw [f7r]
  obtain ⟨as, r, rfl, hlen, hp1⟩ := pN_e hs
  rw [List.append_nil] at hp1
  obtain ⟨a, r, rfl, hp2⟩ := pR_e hp1
  obtain ⟨hbu, hp3⟩ := cond_t hp2
  rw [Bool.and_eq_true, Bool.and_eq_true] at hbu
  have hb8 := Nat.le_of_ble_eq_true hbu.1.1
  have hb1 := Nat.le_of_ble_eq_true hbu.1.2
  have hb2 := Nat.le_of_ble_eq_true hbu.2
  obtain ⟨d, hdep, hM⟩ := hC x1 _ h _ m5 (by omega) hp3
  intro ls H locs hl hW hS hc1 hs1
  have hWT : ∀ U : State, U.heap = H → s.WarmedH U.vm → WT G U := fun U hU hWm => hT.mv hWm.alike (fun q hq => by rw [hU]; exact hS.2.1 q (Nat.lt_of_lt_of_le hq hsz) (Nat.not_le.mpr hq)) (fun w _ hi hn => nest_warm hi hWm hn)
  have hst : (as.reverse ++ vR a :: r).map (cV G) = (as.map (cV G)).reverse ++ .ref (ad G a) :: r.map (cV G) := by
    rw [List.map_append, List.map_reverse]
    rfl
  rw [hst]
  have hrun := va_runI (l := l) (below := below) (meth := meth) (locs := locs) (cells := c') (slots := s') (rest := r.map (cV G)) (As := as.map (cV G)) (b := ad G a) (g := F0 mid pc ls ((as.map (cV G)).reverse ++ .ref (ad G a) :: r.map (cV G))) (e := e) ⟨hx, hb, hml, hown, hts⟩ hM (cwI (R := R) (Mas x1) hts (mw_good m5) hmw rfl rfl (hts _ (in_glw w3 rfl)) (hts _ (in_glw (MT_in m1) rfl)) (hts _ (in_glw (w2 m3) rfl)) f7 ⟨f4, f5, f1⟩ ⟨by show d + 1 ≤ _; omega, by show 8 + (ML x1 + 11) + 41 * d ≤ _; omega⟩)
    ⟨PcG_blind _ _ _, fun U hU hWm => ⟨rfl, by rw [hU]; exact hW, hWT U hU hWm⟩⟩ rfl (by rw [List.length_map, hlen, m2]) hl.size rfl (lv_room (by rw [cats_ok]; exact hb8)) hd ⟨by omega, by omega⟩
  refine my_call hrun hS fun v h' H1 locs1 hq hW1 hS1 => ?_
  have r2 := hk _ _ _ _ _ _ hq ls H1 locs1 hl hW1 hS1 hb1 hb2
  rw [pushV_map] at r2
  exact r2

theorem s_specN {n : Nat} (hC : CallOK l dep RN G) (C : CX p l e R s mid args below meth cd G mm dep mc ms) (hk : ∀ a1 a2 a3 a4 a5 a6, k0 a1 a2 a3 a4 a5 a6 → XX p l e R s mid args below meth cd G mm mc ms QQ a1 a2 a3 a4 a5 a6) (hd : decode (Mb mm) pc = .ok (.invokespecial n, ln)) (hln : lenOK (.invokespecial n) ln = true) (hX : (in4 MTN (Mo mm) n x1 && Nat.beq x2 (Mas x1) && !(Mst x1) && Mini x1 && Nat.blt x1 189) = true) (hs : pN x2 [] st fun as r => pR r fun a r => cond (Nat.ble (cats r) 8 && Nat.ble (c' + Mmc x1) mc && Nat.ble (s' + Mms x1) ms) (RN x1 (vR a :: as) h (fun v h' => k0 (pc + ln) al (pushV v r) h' (c' + Mmc x1) (s' + Mms x1))) False) : XX p l e R s mid args below meth cd G mm mc ms QQ pc al st h c' s' := by
  obtain ⟨hx, hb, hml, hown, hts, hT, hin, hsz, hfr, hlo, hmc, hms, hmm⟩ := C
  obtain rfl := Nat.eq_of_beq_eq_true hln
  simp only [Bool.and_eq_true, Bool.not_eq_true'] at hX
  obtain ⟨⟨⟨⟨m1, m2⟩, m3⟩, m4⟩, m5⟩ := hX
  have m5 := blt_t m5
  have m2 := Nat.eq_of_beq_eq_true m2
  obtain ⟨⟨f1, f2, f3, f4, f5⟩, f6, f7, f8, f9⟩ := mf_get x1 m5
  obtain ⟨w1, w2, w3, w4⟩ := mw_all x1 m5
  have h7 := f9 m3
  obtain ⟨f7, f7r⟩ := f7 m4
  have hmw : mw x1 = Cond.code (My x1) (Mb x1) (ML x1) none :: glw := by unfold mw; rw [f7r]
  obtain ⟨as, r, rfl, hlen, hp1⟩ := pN_e hs
  rw [List.append_nil] at hp1
  obtain ⟨a, r, rfl, hp2⟩ := pR_e hp1
  obtain ⟨hbu, hp3⟩ := cond_t hp2
  rw [Bool.and_eq_true, Bool.and_eq_true] at hbu
  have hb8 := Nat.le_of_ble_eq_true hbu.1.1
  have hb1 := Nat.le_of_ble_eq_true hbu.1.2
  have hb2 := Nat.le_of_ble_eq_true hbu.2
  obtain ⟨d, hdep, hM⟩ := hC x1 _ h _ m5 (by omega) hp3
  intro ls H locs hl hW hS hc1 hs1
  have hWT : ∀ U : State, U.heap = H → s.WarmedH U.vm → WT G U := fun U hU hWm => hT.mv hWm.alike (fun q hq => by rw [hU]; exact hS.2.1 q (Nat.lt_of_lt_of_le hq hsz) (Nat.not_le.mpr hq)) (fun w _ hi hn => nest_warm hi hWm hn)
  have hst : (as.reverse ++ vR a :: r).map (cV G) = (as.map (cV G)).reverse ++ .ref (ad G a) :: r.map (cV G) := by
    rw [List.map_append, List.map_reverse]
    rfl
  rw [hst]
  have hrun := va_runIN (l := l) (below := below) (meth := meth) (locs := locs) (cells := c') (slots := s') (rest := r.map (cV G)) (As := as.map (cV G)) (b := ad G a) (g := F0 mid pc ls ((as.map (cV G)).reverse ++ .ref (ad G a) :: r.map (cV G))) (e := e) ⟨hx, hb, hml, hown, hts⟩ hM ⟨va_cnB (R := R) (Mas x1) hts (mw_good m5) hmw rfl rfl (hT.2.2.2.2.1 _ (MTN_in m1) rfl) (hts _ (in_glw w3 rfl)) ⟨f4, f5, f1⟩ ⟨by show d + 1 ≤ _; omega, by show 8 + (ML x1 + 11) + 41 * d ≤ _; omega⟩, f7, hts _ (in_glw (w2 m3) rfl)⟩
    ⟨PcG_blind _ _ _, fun U hU hWm => ⟨rfl, by rw [hU]; exact hW, hWT U hU hWm⟩⟩ rfl (by rw [List.length_map, hlen, m2]) hl.size rfl (lv_room (by rw [cats_ok]; exact hb8)) hd ⟨by omega, by omega⟩
  refine my_call hrun hS fun v h' H1 locs1 hq hW1 hS1 => ?_
  have r2 := hk _ _ _ _ _ _ hq ls H1 locs1 hl hW1 hS1 hb1 hb2
  rw [pushV_map] at r2
  exact r2

end SND4
