/-! ===== arrays, new cells ===== -/
theorem tyl_at (cA : Nat → ClassId) : (tyl cA)[0]? = some (cA 0, .int) ∧ (tyl cA)[1]? = some (cA 1, .long) ∧ (tyl cA)[2]? = some (cA 2, .boolean) ∧ (tyl cA)[3]? = some (cA 3, .object "RenameGraph$Sheet") ∧ (tyl cA)[4]? = some (cA 4, .array .int) := ⟨rfl, rfl, rfl, rfl, rfl⟩
theorem arr0_0 (cA : ClassId) (n : Nat) : arrV cA n (fun _ => defaultValue .int) = vp_cell cA (n, .inl (fun _ => iI 0)) := by
  rw [vp_cell_i, iI_0]
  rfl
theorem arr0_1 (cA : ClassId) (n : Nat) : arrV cA n (fun _ => defaultValue .long) = vp_cell cA (n, .inr (.inl (fun _ => 0))) := rfl
theorem arr0_2 (cA : ClassId) (n : Nat) : arrV cA n (fun _ => defaultValue .boolean) = vp_cell cA (n, .inl (fun _ => iI 0)) := by
  rw [vp_cell_i, iI_0]
  rfl
theorem arrcl_0 : Cond.arrayClass .int ∈ lw_tbl := List.mem_of_getElem? (i := 140) (by decide +kernel)
theorem arrcl_1 : Cond.arrayClass .long ∈ lw_tbl := List.mem_of_getElem? (i := 252) (by decide +kernel)
theorem arrcl_2 : Cond.arrayClass .boolean ∈ lw_tbl := List.mem_of_getElem? (i := 217) (by decide +kernel)
section SND3
variable {p : Program} {l : Launch} {e : Env} {R : Room} {s : State} {mid : MethodId} {args : Array Value} {below : List Frame} {meth : Method} {cd : Code} {QQ : State → Prop}
variable {G : GT} {mm dep mc ms : Nat} {Q : Option AV → AH → Prop} {pc : Nat} {al st : List AV} {h : AH} {c' s' : Nat} {k0 : KT} {ln nx x1 x2 : Nat}

theorem s_iaload (C : CX p l e R s mid args below meth cd G mm dep mc ms) (hk : ∀ a1 a2 a3 a4 a5 a6, k0 a1 a2 a3 a4 a5 a6 → XX p l e R s mid args below meth cd G mm mc ms QQ a1 a2 a3 a4 a5 a6) (hd : decode (Mb mm) pc = .ok (.iaload, ln)) (hln : lenOK (.iaload) ln = true) (hX : okX mm pc (.iaload) x1 x2 = true) (hs : pI st fun j r => pR r fun a r => cond (Nat.blt a 900) (hG (isA 0 fun n f => IxOK j n ∧ k0 (pc + ln) al (vI (f j) :: r) h c' s') h a) (cond (Nat.beq a 900) (IxOK j G.2.2.2.2.2.1 ∧ k0 (pc + ln) al (vI (G.2.2.2.2.2.2 j) :: r) h c' s') (cond (Nat.beq a 901) (IxOK j 3 ∧ k0 (pc + ln) al (vI (dgF j) :: r) h c' s') False))) : XX p l e R s mid args below meth cd G mm mc ms QQ pc al st h c' s' := by
  obtain ⟨hx, hb, hml, hown, hts, hT, hin, hsz, hfr, hlo, hmc, hms, hmm⟩ := C
  obtain rfl := Nat.eq_of_beq_eq_true hln
  obtain ⟨j, r, rfl, hp1⟩ := pI_e hs
  obtain ⟨a, r, rfl, hp2⟩ := pR_e hp1
  intro ls H locs hl hW hS hc1 hs1
  rcases cond_c hp2 with ⟨-, hp3⟩ | ⟨-, hp3⟩
  · obtain ⟨cl, hat, hp4⟩ := hG_e hp3
    obtain ⟨n, f, rfl, hn, hix, hp5⟩ := isA_e hp4
    obtain ⟨b1, b2, b3, b4⟩ := ix_in hix (by omega)
    have q := hk _ _ _ _ _ _ hp5 ls H locs hl hW hS hc1 hs1
    refine va_iald hx hb hT.1 hW.1 (loc h a) 0 (cW_at hW.2 hat) rfl b1 hd ?_
    rw [b2]
    show W p l e R s mid args below meth cd H locs c' s' QQ (F0 mid (pc + 1) ls (.int (iI (f ((j.toNat : Nat) : Int))) :: r.map (cV G)))
    rw [b3]
    exact q
  · rcases cond_c hp3 with ⟨e9, hix, hp4⟩ | ⟨-, hp3⟩
    · obtain rfl := Nat.eq_of_beq_eq_true e9
      have hL := hT.2.2.2.2.2.2.2.2.2
      obtain ⟨b1, b2, b3, b4⟩ := ix_in hix (by omega)
      have q := hk _ _ _ _ _ _ hp4 ls H locs hl hW hS hc1 hs1
      refine va_sld (A := AA G) hx hb hT.2.1 (Nat.lt_of_lt_of_le hT.2.2.2.2.2.2.2.1 hsz) (Nat.not_le.mpr hT.2.2.2.2.2.2.2.1) hS b1 hd ?_
      rw [b2]
      show W p l e R s mid args below meth cd H locs c' s' QQ (F0 mid (pc + 1) ls (.int (iI (G.2.2.2.2.2.2 ((j.toNat : Nat) : Int))) :: r.map (cV G)))
      rw [b3]
      exact q
    · obtain ⟨e9, hix, hp4⟩ := cond_t hp3
      obtain rfl := Nat.eq_of_beq_eq_true e9
      obtain ⟨b1, b2, b3, b4⟩ := ix_in hix (by omega)
      have q := hk _ _ _ _ _ _ hp4 ls H locs hl hW hS hc1 hs1
      refine va_sld (A := AA G) hx hb hT.2.2.1 (Nat.lt_of_lt_of_le hT.2.2.2.2.2.2.2.2.1 hsz) (Nat.not_le.mpr hT.2.2.2.2.2.2.2.2.1) hS b1 hd ?_
      rw [b2]
      show W p l e R s mid args below meth cd H locs c' s' QQ (F0 mid (pc + 1) ls (.int (iI (dgF ((j.toNat : Nat) : Int))) :: r.map (cV G)))
      rw [b3]
      exact q

theorem s_baload (C : CX p l e R s mid args below meth cd G mm dep mc ms) (hk : ∀ a1 a2 a3 a4 a5 a6, k0 a1 a2 a3 a4 a5 a6 → XX p l e R s mid args below meth cd G mm mc ms QQ a1 a2 a3 a4 a5 a6) (hd : decode (Mb mm) pc = .ok (.baload, ln)) (hln : lenOK (.baload) ln = true) (hX : okX mm pc (.baload) x1 x2 = true) (hs : pI st fun j r => pR r fun a r => hG (isA 2 fun n f => IxOK j n ∧ k0 (pc + ln) al (vI (f j) :: r) h c' s') h a) : XX p l e R s mid args below meth cd G mm mc ms QQ pc al st h c' s' := by
  obtain ⟨hx, hb, hml, hown, hts, hT, hin, hsz, hfr, hlo, hmc, hms, hmm⟩ := C
  obtain rfl := Nat.eq_of_beq_eq_true hln
  obtain ⟨j, r, rfl, hp1⟩ := pI_e hs
  obtain ⟨a, r, rfl, hp2⟩ := pR_e hp1
  intro ls H locs hl hW hS hc1 hs1
  obtain ⟨cl, hat, hp4⟩ := hG_e hp2
  obtain ⟨n, f, rfl, hn, hix, hp5⟩ := isA_e hp4
  obtain ⟨b1, b2, b3, b4⟩ := ix_in hix (by omega)
  have q := hk _ _ _ _ _ _ hp5 ls H locs hl hW hS hc1 hs1
  refine va_zald hx hb hT.1 hW.1 (loc h a) 2 (cW_at hW.2 hat) rfl b1 hd ?_
  rw [b2]
  show W p l e R s mid args below meth cd H locs c' s' QQ (F0 mid (pc + 1) ls (.int (iI (f ((j.toNat : Nat) : Int))) :: r.map (cV G)))
  rw [b3]
  exact q

theorem s_laload (C : CX p l e R s mid args below meth cd G mm dep mc ms) (hk : ∀ a1 a2 a3 a4 a5 a6, k0 a1 a2 a3 a4 a5 a6 → XX p l e R s mid args below meth cd G mm mc ms QQ a1 a2 a3 a4 a5 a6) (hd : decode (Mb mm) pc = .ok (.laload, ln)) (hln : lenOK (.laload) ln = true) (hX : okX mm pc (.laload) x1 x2 = true) (hs : pI st fun j r => pR r fun a r => hG (isAL fun n f => IxOK j n ∧ k0 (pc + ln) al (vL (f j) :: r) h c' s') h a) : XX p l e R s mid args below meth cd G mm mc ms QQ pc al st h c' s' := by
  obtain ⟨hx, hb, hml, hown, hts, hT, hin, hsz, hfr, hlo, hmc, hms, hmm⟩ := C
  obtain rfl := Nat.eq_of_beq_eq_true hln
  obtain ⟨j, r, rfl, hp1⟩ := pI_e hs
  obtain ⟨a, r, rfl, hp2⟩ := pR_e hp1
  intro ls H locs hl hW hS hc1 hs1
  obtain ⟨cl, hat, hp4⟩ := hG_e hp2
  obtain ⟨n, f, rfl, hn, hix, hp5⟩ := isAL_e hp4
  obtain ⟨b1, b2, b3, b4⟩ := ix_in hix (by omega)
  have q := hk _ _ _ _ _ _ hp5 ls H locs hl hW hS hc1 hs1
  refine va_lald hx hb hT.1 hW.1 (loc h a) 1 (cW_at hW.2 hat) rfl b1 hd ?_
  rw [b2]
  show W p l e R s mid args below meth cd H locs c' s' QQ (F0 mid (pc + 1) ls (.long (f ((j.toNat : Nat) : Int)) :: r.map (cV G)))
  rw [b3]
  exact q

theorem s_aaload (C : CX p l e R s mid args below meth cd G mm dep mc ms) (hk : ∀ a1 a2 a3 a4 a5 a6, k0 a1 a2 a3 a4 a5 a6 → XX p l e R s mid args below meth cd G mm mc ms QQ a1 a2 a3 a4 a5 a6) (hd : decode (Mb mm) pc = .ok (.aaload, ln)) (hln : lenOK (.aaload) ln = true) (hX : okX mm pc (.aaload) x1 x2 = true) (hs : pI st fun j r => pR r fun a r => hG (isAR fun _ n f => IxOK j n ∧ k0 (pc + ln) al (.inr (.inr (f j)) :: r) h c' s') h a) : XX p l e R s mid args below meth cd G mm mc ms QQ pc al st h c' s' := by
  obtain ⟨hx, hb, hml, hown, hts, hT, hin, hsz, hfr, hlo, hmc, hms, hmm⟩ := C
  obtain rfl := Nat.eq_of_beq_eq_true hln
  obtain ⟨j, r, rfl, hp1⟩ := pI_e hs
  obtain ⟨a, r, rfl, hp2⟩ := pR_e hp1
  intro ls H locs hl hW hS hc1 hs1
  obtain ⟨cl, hat, hp4⟩ := hG_e hp2
  obtain ⟨t, n, f, ht, rfl, hn, hix, hp5⟩ := isAR_e hp4
  obtain ⟨b1, b2, b3, b4⟩ := ix_in hix (by omega)
  have q := hk _ _ _ _ _ _ hp5 ls H locs hl hW hS hc1 hs1
  have hcell : H[ad G a]? = some (arrV (G.2.1 t) n (fun j => va_rf ((f (j : Int)).map (ad G)))) := hW.1 _ _ (cW_at hW.2 hat)
  have hval : cV G (.inr (.inr (f j))) = va_rf ((f ((j.toNat : Nat) : Int)).map (ad G)) := by
    rw [b3]
    cases f j <;> rfl
  have q : W p l e R s mid args below meth cd H locs c' s' QQ (F0 mid (pc + 1) ls (cV G (.inr (.inr (f j))) :: r.map (cV G))) := q
  rw [hval] at q
  have hb2 : ¬ (iI j < 0 ∨ (arrV (G.2.1 t) n (fun j => va_rf ((f (j : Int)).map (ad G)))).slots.size ≤ (iI j).toNatClampNeg) := by rw [arrV_size]; exact b1
  have hb3 : (arrV (G.2.1 t) n (fun j => va_rf ((f (j : Int)).map (ad G)))).slots[(iI j).toNatClampNeg]? = some (va_rf ((f ((j.toNat : Nat) : Int)).map (ad G))) := by rw [b2, arrV_read _ _ b4]
  rcases ht with rfl | rfl
  · exact W.aald (ty := .object "RenameGraph$Sheet") hx hb hcell ((hT.1.2 3 _ rfl).1 n _) rfl (fun z => by cases z) hb2 hb3 rfl rfl hd q
  · exact W.aald (ty := .array .int) hx hb hcell ((hT.1.2 4 _ rfl).1 n _) rfl (fun z => by cases z) hb2 hb3 rfl rfl hd q

theorem s_iastore (C : CX p l e R s mid args below meth cd G mm dep mc ms) (hk : ∀ a1 a2 a3 a4 a5 a6, k0 a1 a2 a3 a4 a5 a6 → XX p l e R s mid args below meth cd G mm mc ms QQ a1 a2 a3 a4 a5 a6) (hd : decode (Mb mm) pc = .ok (.iastore, ln)) (hln : lenOK (.iastore) ln = true) (hX : okX mm pc (.iastore) x1 x2 = true) (hs : pI st fun x r => pI r fun j r => pR r fun a r => hG (isA 0 fun n f => IxOK j n ∧ hS (cI n (upZ f j x)) (fun h' => k0 (pc + ln) al r h' c' s') h a) h a) : XX p l e R s mid args below meth cd G mm mc ms QQ pc al st h c' s' := by
  obtain ⟨hx, hb, hml, hown, hts, hT, hin, hsz, hfr, hlo, hmc, hms, hmm⟩ := C
  obtain rfl := Nat.eq_of_beq_eq_true hln
  obtain ⟨x, r, rfl, hp0⟩ := pI_e hs
  obtain ⟨j, r, rfl, hp1⟩ := pI_e hp0
  obtain ⟨a, r, rfl, hp2⟩ := pR_e hp1
  intro ls H locs hl hW hS hc1 hs1
  obtain ⟨cl, hat, hp4⟩ := hG_e hp2
  obtain ⟨n, f, rfl, hn, hix, hp5⟩ := isA_e hp4
  obtain ⟨b1, b2, b3, b4⟩ := ix_in hix (by omega)
  have hp5 := hS_e hp5
  have hat2 := cW_at hW.2 hat
  have hcell : H[ad G a]? = some (arrV (G.2.1 0) n (fun j => .int (iI (f (j : Int))))) := hW.1 _ _ hat2
  refine W.iast hx hb hcell ((hT.1.2 0 _ rfl).1 n _) (fun z => by cases z) (by rw [arrV_size]; exact b1) rfl rfl hd fun H1 e1 e2 e3 => ?_
  refine hk _ _ _ _ _ _ hp5 ls H1 _ hl (WH_put hW hat e2 (hW.1.set (cW_D hW.2) hat2 ?_ e3)) (hS.put e2 e3 ((cW_D hW.2).2 _ _ hat2)) hc1 hs1
  show H1[ad G a]? = some (arrV (G.2.1 0) n (fun jq => .int (iI (upZ f j x (jq : Int)))))
  rw [e1, arrV_store, b2]
  congr 2
  funext q
  unfold updV upZ
  by_cases e : q = j.toNat
  · rw [if_pos e, if_pos (by omega)]
  · rw [if_neg e, if_neg (by omega)]

theorem s_bastore (C : CX p l e R s mid args below meth cd G mm dep mc ms) (hk : ∀ a1 a2 a3 a4 a5 a6, k0 a1 a2 a3 a4 a5 a6 → XX p l e R s mid args below meth cd G mm mc ms QQ a1 a2 a3 a4 a5 a6) (hd : decode (Mb mm) pc = .ok (.bastore, ln)) (hln : lenOK (.bastore) ln = true) (hX : okX mm pc (.bastore) x1 x2 = true) (hs : pI st fun x r => pI r fun j r => pR r fun a r => hG (isA 2 fun n f => (x = 0 ∨ x = 1) ∧ IxOK j n ∧ hS (cZ n (upZ f j x)) (fun h' => k0 (pc + ln) al r h' c' s') h a) h a) : XX p l e R s mid args below meth cd G mm mc ms QQ pc al st h c' s' := by
  obtain ⟨hx, hb, hml, hown, hts, hT, hin, hsz, hfr, hlo, hmc, hms, hmm⟩ := C
  obtain rfl := Nat.eq_of_beq_eq_true hln
  obtain ⟨x, r, rfl, hp0⟩ := pI_e hs
  obtain ⟨j, r, rfl, hp1⟩ := pI_e hp0
  obtain ⟨a, r, rfl, hp2⟩ := pR_e hp1
  intro ls H locs hl hW hS hc1 hs1
  obtain ⟨cl, hat, hp4⟩ := hG_e hp2
  obtain ⟨n, f, rfl, hn, hx01, hix, hp5⟩ := isA_e hp4
  obtain ⟨b1, b2, b3, b4⟩ := ix_in hix (by omega)
  have hp5 := hS_e hp5
  have hat2 := cW_at hW.2 hat
  have hcell : H[ad G a]? = some (arrV (G.2.1 2) n (fun j => .int (iI (f (j : Int))))) := hW.1 _ _ hat2
  refine W.zast hx hb hcell ((hT.1.2 2 _ rfl).1 n _) (fun z => by cases z) (by rw [arrV_size]; exact b1) rfl rfl hd fun H1 e1 e2 e3 => ?_
  refine hk _ _ _ _ _ _ hp5 ls H1 _ hl (WH_put hW hat e2 (hW.1.set (cW_D hW.2) hat2 ?_ e3)) (hS.put e2 e3 ((cW_D hW.2).2 _ _ hat2)) hc1 hs1
  show H1[ad G a]? = some (arrV (G.2.1 2) n (fun jq => .int (iI (upZ f j x (jq : Int)))))
  rw [e1, arrV_store, b2]
  congr 2
  funext q
  unfold updV upZ
  by_cases e : q = j.toNat
  · rw [if_pos e, if_pos (by omega)]
    rcases hx01 with rfl | rfl
    · rw [iI_0]; rfl
    · rw [iI_1]; rfl
  · rw [if_neg e, if_neg (by omega)]

theorem s_lastore (C : CX p l e R s mid args below meth cd G mm dep mc ms) (hk : ∀ a1 a2 a3 a4 a5 a6, k0 a1 a2 a3 a4 a5 a6 → XX p l e R s mid args below meth cd G mm mc ms QQ a1 a2 a3 a4 a5 a6) (hd : decode (Mb mm) pc = .ok (.lastore, ln)) (hln : lenOK (.lastore) ln = true) (hX : okX mm pc (.lastore) x1 x2 = true) (hs : pL st fun x r => pI r fun j r => pR r fun a r => hG (isAL fun n f => IxOK j n ∧ hS (cJ n (upZ f j x)) (fun h' => k0 (pc + ln) al r h' c' s') h a) h a) : XX p l e R s mid args below meth cd G mm mc ms QQ pc al st h c' s' := by
  obtain ⟨hx, hb, hml, hown, hts, hT, hin, hsz, hfr, hlo, hmc, hms, hmm⟩ := C
  obtain rfl := Nat.eq_of_beq_eq_true hln
  obtain ⟨x, r, rfl, hp0⟩ := pL_e hs
  obtain ⟨j, r, rfl, hp1⟩ := pI_e hp0
  obtain ⟨a, r, rfl, hp2⟩ := pR_e hp1
  intro ls H locs hl hW hS hc1 hs1
  obtain ⟨cl, hat, hp4⟩ := hG_e hp2
  obtain ⟨n, f, rfl, hn, hix, hp5⟩ := isAL_e hp4
  obtain ⟨b1, b2, b3, b4⟩ := ix_in hix (by omega)
  have hp5 := hS_e hp5
  have hat2 := cW_at hW.2 hat
  have hcell : H[ad G a]? = some (arrV (G.2.1 1) n (fun j => .long (f (j : Int)))) := hW.1 _ _ hat2
  refine W.last hx hb hcell ((hT.1.2 1 _ rfl).1 n _) (fun z => by cases z) (by rw [arrV_size]; exact b1) rfl rfl hd fun H1 e1 e2 e3 => ?_
  refine hk _ _ _ _ _ _ hp5 ls H1 _ hl (WH_put hW hat e2 (hW.1.set (cW_D hW.2) hat2 ?_ e3)) (hS.put e2 e3 ((cW_D hW.2).2 _ _ hat2)) hc1 hs1
  show H1[ad G a]? = some (arrV (G.2.1 1) n (fun jq => .long (upZ f j x (jq : Int))))
  rw [e1, arrV_store, b2]
  congr 2
  funext q
  unfold updV upZ
  by_cases e : q = j.toNat
  · rw [if_pos e, if_pos (by omega)]
  · rw [if_neg e, if_neg (by omega)]

theorem s_arraylength (C : CX p l e R s mid args below meth cd G mm dep mc ms) (hk : ∀ a1 a2 a3 a4 a5 a6, k0 a1 a2 a3 a4 a5 a6 → XX p l e R s mid args below meth cd G mm mc ms QQ a1 a2 a3 a4 a5 a6) (hd : decode (Mb mm) pc = .ok (.arraylength, ln)) (hln : lenOK (.arraylength) ln = true) (hX : okX mm pc (.arraylength) x1 x2 = true) (hs : pR st fun a r => cond (Nat.blt a 900) (hG (isAny fun n => k0 (pc + ln) al (vI n :: r) h c' s') h a) (cond (Nat.beq a 900) (k0 (pc + ln) al (vI G.2.2.2.2.2.1 :: r) h c' s') (cond (Nat.beq a 901) (k0 (pc + ln) al (vI 3 :: r) h c' s') False))) : XX p l e R s mid args below meth cd G mm mc ms QQ pc al st h c' s' := by
  obtain ⟨hx, hb, hml, hown, hts, hT, hin, hsz, hfr, hlo, hmc, hms, hmm⟩ := C
  obtain rfl := Nat.eq_of_beq_eq_true hln
  obtain ⟨a, r, rfl, hp2⟩ := pR_e hs
  intro ls H locs hl hW hS hc1 hs1
  have hof : ∀ n : Nat, Int32.ofNat n = iI (n : Int) := fun n => (Int32.ofInt_eq_ofNat (n := n)).symm
  rcases cond_c hp2 with ⟨-, hp3⟩ | ⟨-, hp3⟩
  · obtain ⟨cl, hat, hp4⟩ := hG_e hp3
    obtain ⟨t, n, f, rfl, ht, hp5⟩ := isAny_e hp4
    have q := hk _ _ _ _ _ _ hp5 ls H locs hl hW hS hc1 hs1
    have hat2 := cW_at hW.2 hat
    rcases (show t = 0 ∨ t = 1 ∨ t = 2 by omega) with rfl | rfl | rfl
    · rcases f with f | f | f
      · exact va_alen hx hb hT.1 hW.1 (loc h a) 0 hat2 rfl (hof n) hd q
      · exact va_alen hx hb hT.1 hW.1 (loc h a) 0 hat2 rfl (hof n) hd q
      · exact va_alen hx hb hT.1 hW.1 (loc h a) 0 hat2 rfl (hof n) hd q
    · rcases f with f | f | f
      · exact va_alen hx hb hT.1 hW.1 (loc h a) 1 hat2 rfl (hof n) hd q
      · exact va_alen hx hb hT.1 hW.1 (loc h a) 1 hat2 rfl (hof n) hd q
      · exact va_alen hx hb hT.1 hW.1 (loc h a) 1 hat2 rfl (hof n) hd q
    · rcases f with f | f | f
      · exact va_alen hx hb hT.1 hW.1 (loc h a) 2 hat2 rfl (hof n) hd q
      · exact va_alen hx hb hT.1 hW.1 (loc h a) 2 hat2 rfl (hof n) hd q
      · exact va_alen hx hb hT.1 hW.1 (loc h a) 2 hat2 rfl (hof n) hd q
  · rcases cond_c hp3 with ⟨e9, hp4⟩ | ⟨-, hp3⟩
    · obtain rfl := Nat.eq_of_beq_eq_true e9
      have q : W p l e R s mid args below meth cd H locs c' s' QQ (F0 mid (pc + 1) ls (.int (iI (G.2.2.2.2.2.1 : Int)) :: r.map (cV G))) := hk _ _ _ _ _ _ hp4 ls H locs hl hW hS hc1 hs1
      rw [← hof] at q
      exact va_slen (A := AA G) hx hb hT.2.1 (Nat.lt_of_lt_of_le hT.2.2.2.2.2.2.2.1 hsz) (Nat.not_le.mpr hT.2.2.2.2.2.2.2.1) hS hd q
    · obtain ⟨e9, hp4⟩ := cond_t hp3
      obtain rfl := Nat.eq_of_beq_eq_true e9
      exact va_slen (A := AA G) hx hb hT.2.2.1 (Nat.lt_of_lt_of_le hT.2.2.2.2.2.2.2.2.1 hsz) (Nat.not_le.mpr hT.2.2.2.2.2.2.2.2.1) hS hd (hk _ _ _ _ _ _ hp4 ls H locs hl hW hS hc1 hs1)

theorem s_getstatic {n : Nat} (C : CX p l e R s mid args below meth cd G mm dep mc ms) (hk : ∀ a1 a2 a3 a4 a5 a6, k0 a1 a2 a3 a4 a5 a6 → XX p l e R s mid args below meth cd G mm mc ms QQ a1 a2 a3 a4 a5 a6) (hd : decode (Mb mm) pc = .ok (.getstatic n, ln)) (hln : lenOK (.getstatic n) ln = true) (hX : okX mm pc (.getstatic n) x1 x2 = true) (hs : k0 (pc + ln) al (vR 901 :: st) h c' s') : XX p l e R s mid args below meth cd G mm mc ms QQ pc al st h c' s' := by
  obtain ⟨hx, hb, hml, hown, hts, hT, hin, hsz, hfr, hlo, hmc, hms, hmm⟩ := C
  obtain rfl := Nat.eq_of_beq_eq_true hln
  have hX2 : (Nat.beq (Mo mm) 5 && Nat.beq n 285) = true := hX
  rw [Bool.and_eq_true] at hX2
  have e5 := Nat.eq_of_beq_eq_true hX2.1
  have e6 := Nat.eq_of_beq_eq_true hX2.2
  subst e6
  rw [e5] at hown
  intro ls H locs hl hW hS hc1 hs1
  exact va_gets (ref := "RenameGraph") hx hb hT.2.2.2.1 hS hown (hts _ (in_glw (List.mem_of_getElem? (i := 734) (by decide +kernel) : Cond.fieldLink "RenameGraph" 285 "RenameGraph" "DIGEST_NAMES" "[I" ∈ lw_tbl) rfl)) (fun _ z => z) hd (hk _ _ _ _ _ _ hs ls H locs hl hW hS hc1 hs1)

theorem s_new {n : Nat} (C : CX p l e R s mid args below meth cd G mm dep mc ms) (hk : ∀ a1 a2 a3 a4 a5 a6, k0 a1 a2 a3 a4 a5 a6 → XX p l e R s mid args below meth cd G mm mc ms QQ a1 a2 a3 a4 a5 a6) (hd : decode (Mb mm) pc = .ok (.new n, ln)) (hln : lenOK (.new n) ln = true) (hX : okX mm pc (.new n) x1 x2 = true) (hs : cond (Nat.ble (c' + 1) mc && Nat.ble (s' + nF x1) ms) (hN (cO x1 (dfs x1 (nF x1))) (fun q h' => k0 (pc + ln) al (vR q :: st) h' (c' + 1) (s' + nF x1)) h (segs x1)) False) : XX p l e R s mid args below meth cd G mm mc ms QQ pc al st h c' s' := by
  obtain ⟨hx, hb, hml, hown, hts, hT, hin, hsz, hfr, hlo, hmc, hms, hmm⟩ := C
  obtain rfl := Nat.eq_of_beq_eq_true hln
  have hX2 : (in4 CLT (Mo mm) n x1 && Nat.blt x1 7) = true := hX
  rw [Bool.and_eq_true] at hX2
  have hx7 := blt_t hX2.2
  obtain ⟨hbud, hp1⟩ := cond_t hs
  rw [Bool.and_eq_true] at hbud
  have hb1 := Nat.le_of_ble_eq_true hbud.1
  have hb2 := Nat.le_of_ble_eq_true hbud.2
  obtain ⟨q, h', hp2, hn⟩ := hN_i hp1
  intro ls H locs hl hW hS hc1 hs1
  have hKn := hT.1.1 x1 _ (cl_at x1 hx7)
  refine W.newcK hx hb hown (hts _ (in_glw (CLT_in hX2.1) rfl)) (hts _ (in_glw (inst_in x1 hx7).1 rfl)) (hts _ (in_glw (inst_in x1 hx7).2 rfl)) rfl hd (by omega) (by omega) hKn.2.1 rfl fun H1 kC hkC e1 z1 o1 => ?_
  obtain ⟨w1, w2⟩ := WH_push (c := cO x1 (dfs x1 (nF x1))) hW z1 o1 ⟨_, cl_at x1 hx7, (u_born (tyT x1) hts (u_in x1 hx7) hKn hkC e1 (u_ty x1 hx7)).to (dfs_ok G x1 hx7)⟩ hn
  have r := hk _ _ _ _ _ _ hp2 ls H1 locs hl w1 (hS.push z1 o1) hb1 hb2
  have r : W p l e R s mid args below meth cd H1 locs (c' + 1) (s' + nF x1) QQ (F0 mid (pc + 3) ls (.ref (ad G q) :: st.map (cV G))) := r
  rw [w2] at r
  exact r

theorem s_newarray_int (C : CX p l e R s mid args below meth cd G mm dep mc ms) (hk : ∀ a1 a2 a3 a4 a5 a6, k0 a1 a2 a3 a4 a5 a6 → XX p l e R s mid args below meth cd G mm mc ms QQ a1 a2 a3 a4 a5 a6) (hd : decode (Mb mm) pc = .ok (.newarray .int, ln)) (hln : lenOK (.newarray .int) ln = true) (hX : okX mm pc (.newarray .int) x1 x2 = true) (hs : pI st fun n r => cond (Nat.ble (c' + 1) mc && Nat.ble (s' + n.toNat) ms && Nat.blt n.toNat 100000) (0 ≤ n ∧ hN (cI n.toNat (fun _ => 0)) (fun q h' => k0 (pc + ln) al (vR q :: r) h' (c' + 1) (s' + n.toNat)) h x2) False) : XX p l e R s mid args below meth cd G mm mc ms QQ pc al st h c' s' := by
  obtain ⟨hx, hb, hml, hown, hts, hT, hin, hsz, hfr, hlo, hmc, hms, hmm⟩ := C
  obtain rfl := Nat.eq_of_beq_eq_true hln
  obtain ⟨x, r, rfl, hp0⟩ := pI_e hs
  obtain ⟨hbud, hx0, hp1⟩ := cond_t hp0
  rw [Bool.and_eq_true, Bool.and_eq_true] at hbud
  have hb1 := Nat.le_of_ble_eq_true hbud.1.1
  have hb2 := Nat.le_of_ble_eq_true hbud.1.2
  have hb3 := blt_t hbud.2
  obtain ⟨q, h', hp2, hn⟩ := hN_i hp1
  intro ls H locs hl hW hS hc1 hs1
  have hnn : ¬ iI x < 0 := fun z => by
    rw [← iI_0, iI_lt (by unfold rg; omega) rg_0] at z
    omega
  have hcl : (iI x).toNatClampNeg = x.toNat := iI_clamp hx0 (by omega)
  have hby : x.toNat * componentBytes (newarray.typeOf .int) ≤ 536870912 := by
    have h8 : componentBytes (newarray.typeOf .int) ≤ 8 := by decide
    exact Nat.le_trans (Nat.mul_le_mul_left _ h8) (by omega)
  refine va_newaK (atype := .int) hx hb (hts _ (in_glw arrcl_0 rfl)) rfl hd rfl hnn hcl hby (by omega) (by omega) rfl fun H1 cA e1 z1 o1 _ hNm => ?_
  have hcA : cA = G.2.1 0 := Option.some.inj (hNm.symm.trans (hT.1.2 0 _ rfl).2)
  subst hcA
  obtain ⟨w1, w2⟩ := WH_push (c := cI x.toNat (fun _ => 0)) hW z1 o1 (by show H1[H.size]? = some _; rw [e1]; exact congrArg some (arr0_0 _ _)) hn
  have r := hk _ _ _ _ _ _ hp2 ls H1 locs hl w1 (hS.push z1 o1) hb1 hb2
  have r : W p l e R s mid args below meth cd H1 locs (c' + 1) (s' + x.toNat) QQ (F0 mid (pc + 2) ls (.ref (ad G q) :: _)) := r
  rw [w2] at r
  exact r

theorem s_newarray_long (C : CX p l e R s mid args below meth cd G mm dep mc ms) (hk : ∀ a1 a2 a3 a4 a5 a6, k0 a1 a2 a3 a4 a5 a6 → XX p l e R s mid args below meth cd G mm mc ms QQ a1 a2 a3 a4 a5 a6) (hd : decode (Mb mm) pc = .ok (.newarray .long, ln)) (hln : lenOK (.newarray .long) ln = true) (hX : okX mm pc (.newarray .long) x1 x2 = true) (hs : pI st fun n r => cond (Nat.ble (c' + 1) mc && Nat.ble (s' + n.toNat) ms && Nat.blt n.toNat 100000) (0 ≤ n ∧ hN (cJ n.toNat (fun _ => 0)) (fun q h' => k0 (pc + ln) al (vR q :: r) h' (c' + 1) (s' + n.toNat)) h x2) False) : XX p l e R s mid args below meth cd G mm mc ms QQ pc al st h c' s' := by
  obtain ⟨hx, hb, hml, hown, hts, hT, hin, hsz, hfr, hlo, hmc, hms, hmm⟩ := C
  obtain rfl := Nat.eq_of_beq_eq_true hln
  obtain ⟨x, r, rfl, hp0⟩ := pI_e hs
  obtain ⟨hbud, hx0, hp1⟩ := cond_t hp0
  rw [Bool.and_eq_true, Bool.and_eq_true] at hbud
  have hb1 := Nat.le_of_ble_eq_true hbud.1.1
  have hb2 := Nat.le_of_ble_eq_true hbud.1.2
  have hb3 := blt_t hbud.2
  obtain ⟨q, h', hp2, hn⟩ := hN_i hp1
  intro ls H locs hl hW hS hc1 hs1
  have hnn : ¬ iI x < 0 := fun z => by
    rw [← iI_0, iI_lt (by unfold rg; omega) rg_0] at z
    omega
  have hcl : (iI x).toNatClampNeg = x.toNat := iI_clamp hx0 (by omega)
  have hby : x.toNat * componentBytes (newarray.typeOf .long) ≤ 536870912 := by
    have h8 : componentBytes (newarray.typeOf .long) ≤ 8 := by decide
    exact Nat.le_trans (Nat.mul_le_mul_left _ h8) (by omega)
  refine va_newaK (atype := .long) hx hb (hts _ (in_glw arrcl_1 rfl)) rfl hd rfl hnn hcl hby (by omega) (by omega) rfl fun H1 cA e1 z1 o1 _ hNm => ?_
  have hcA : cA = G.2.1 1 := Option.some.inj (hNm.symm.trans (hT.1.2 1 _ rfl).2)
  subst hcA
  obtain ⟨w1, w2⟩ := WH_push (c := cJ x.toNat (fun _ => 0)) hW z1 o1 (by show H1[H.size]? = some _; rw [e1]; exact congrArg some (arr0_1 _ _)) hn
  have r := hk _ _ _ _ _ _ hp2 ls H1 locs hl w1 (hS.push z1 o1) hb1 hb2
  have r : W p l e R s mid args below meth cd H1 locs (c' + 1) (s' + x.toNat) QQ (F0 mid (pc + 2) ls (.ref (ad G q) :: _)) := r
  rw [w2] at r
  exact r

theorem s_newarray_boolean (C : CX p l e R s mid args below meth cd G mm dep mc ms) (hk : ∀ a1 a2 a3 a4 a5 a6, k0 a1 a2 a3 a4 a5 a6 → XX p l e R s mid args below meth cd G mm mc ms QQ a1 a2 a3 a4 a5 a6) (hd : decode (Mb mm) pc = .ok (.newarray .boolean, ln)) (hln : lenOK (.newarray .boolean) ln = true) (hX : okX mm pc (.newarray .boolean) x1 x2 = true) (hs : pI st fun n r => cond (Nat.ble (c' + 1) mc && Nat.ble (s' + n.toNat) ms && Nat.blt n.toNat 100000) (0 ≤ n ∧ hN (cZ n.toNat (fun _ => 0)) (fun q h' => k0 (pc + ln) al (vR q :: r) h' (c' + 1) (s' + n.toNat)) h x2) False) : XX p l e R s mid args below meth cd G mm mc ms QQ pc al st h c' s' := by
  obtain ⟨hx, hb, hml, hown, hts, hT, hin, hsz, hfr, hlo, hmc, hms, hmm⟩ := C
  obtain rfl := Nat.eq_of_beq_eq_true hln
  obtain ⟨x, r, rfl, hp0⟩ := pI_e hs
  obtain ⟨hbud, hx0, hp1⟩ := cond_t hp0
  rw [Bool.and_eq_true, Bool.and_eq_true] at hbud
  have hb1 := Nat.le_of_ble_eq_true hbud.1.1
  have hb2 := Nat.le_of_ble_eq_true hbud.1.2
  have hb3 := blt_t hbud.2
  obtain ⟨q, h', hp2, hn⟩ := hN_i hp1
  intro ls H locs hl hW hS hc1 hs1
  have hnn : ¬ iI x < 0 := fun z => by
    rw [← iI_0, iI_lt (by unfold rg; omega) rg_0] at z
    omega
  have hcl : (iI x).toNatClampNeg = x.toNat := iI_clamp hx0 (by omega)
  have hby : x.toNat * componentBytes (newarray.typeOf .boolean) ≤ 536870912 := by
    have h8 : componentBytes (newarray.typeOf .boolean) ≤ 8 := by decide
    exact Nat.le_trans (Nat.mul_le_mul_left _ h8) (by omega)
  refine va_newaK (atype := .boolean) hx hb (hts _ (in_glw arrcl_2 rfl)) rfl hd rfl hnn hcl hby (by omega) (by omega) rfl fun H1 cA e1 z1 o1 _ hNm => ?_
  have hcA : cA = G.2.1 2 := Option.some.inj (hNm.symm.trans (hT.1.2 2 _ rfl).2)
  subst hcA
  obtain ⟨w1, w2⟩ := WH_push (c := cZ x.toNat (fun _ => 0)) hW z1 o1 (by show H1[H.size]? = some _; rw [e1]; exact congrArg some (arr0_2 _ _)) hn
  have r := hk _ _ _ _ _ _ hp2 ls H1 locs hl w1 (hS.push z1 o1) hb1 hb2
  have r : W p l e R s mid args below meth cd H1 locs (c' + 1) (s' + x.toNat) QQ (F0 mid (pc + 2) ls (.ref (ad G q) :: _)) := r
  rw [w2] at r
  exact r

theorem s_anewarray {i : Nat} (C : CX p l e R s mid args below meth cd G mm dep mc ms) (hk : ∀ a1 a2 a3 a4 a5 a6, k0 a1 a2 a3 a4 a5 a6 → XX p l e R s mid args below meth cd G mm mc ms QQ a1 a2 a3 a4 a5 a6) (hd : decode (Mb mm) pc = .ok (.anewarray i, ln)) (hln : lenOK (.anewarray i) ln = true) (hX : okX mm pc (.anewarray i) x1 x2 = true) (hs : pI st fun n r => cond (Nat.ble (c' + 1) mc && Nat.ble (s' + n.toNat) ms && Nat.blt n.toNat 100000) (0 ≤ n ∧ hN (cS n.toNat (fun _ => none)) (fun q h' => k0 (pc + ln) al (vR q :: r) h' (c' + 1) (s' + n.toNat)) h x2) False) : XX p l e R s mid args below meth cd G mm mc ms QQ pc al st h c' s' := by
  obtain ⟨hx, hb, hml, hown, hts, hT, hin, hsz, hfr, hlo, hmc, hms, hmm⟩ := C
  obtain rfl := Nat.eq_of_beq_eq_true hln
  obtain ⟨x, r, rfl, hp0⟩ := pI_e hs
  obtain ⟨hbud, hx0, hp1⟩ := cond_t hp0
  rw [Bool.and_eq_true, Bool.and_eq_true] at hbud
  have hb1 := Nat.le_of_ble_eq_true hbud.1.1
  have hb2 := Nat.le_of_ble_eq_true hbud.1.2
  have hb3 := blt_t hbud.2
  obtain ⟨q, h', hp2, hn⟩ := hN_i hp1
  have hX2 : (Nat.beq (Mo mm) 5 && Nat.beq i 41 && Nat.beq x2 0) = true := hX
  rw [Bool.and_eq_true, Bool.and_eq_true] at hX2
  have e5 := Nat.eq_of_beq_eq_true hX2.1.1
  have e6 := Nat.eq_of_beq_eq_true hX2.1.2
  subst e6
  rw [e5] at hown
  intro ls H locs hl hW hS hc1 hs1
  have hnn : ¬ iI x < 0 := fun z => by
    rw [← iI_0, iI_lt (by unfold rg; omega) rg_0] at z
    omega
  have hcl : (iI x).toNatClampNeg = x.toNat := iI_clamp hx0 (by omega)
  refine W.anew (own := RX5) (C := "RenameGraph$Sheet") hx hb hown (hts _ (in_glw (List.mem_of_getElem? (i := 276) (by decide +kernel) : Cond.classLink RX5 41 "RenameGraph$Sheet" ∈ lw_tbl) rfl)) (va_AO.use hT.2.2.2.2.2.1) rfl hd rfl hnn (by rw [hcl]; omega) (by omega) (by rw [hcl]; omega) fun cA kA comp f1 f2 f3 f4 => ?_
  rw [hcl]
  obtain ⟨kA', comp', g1, g2, g3, g4⟩ := (hT.1.2 3 _ rfl).2
  have hcA : cA = G.2.1 3 := Option.some.inj (f1.symm.trans g4)
  subst hcA
  have z1 : (H.push ({ cls := G.2.1 3, slots := Array.replicate x.toNat .null, vm := .none } : Cell)).size = H.size + 1 := by simp
  have o1 : ∀ q : Nat, q < H.size → (H.push ({ cls := G.2.1 3, slots := Array.replicate x.toNat .null, vm := .none } : Cell))[q]? = H[q]? := fun q hq => by rw [Array.getElem?_push, if_neg (Nat.ne_of_lt hq)]
  obtain ⟨w1, w2⟩ := WH_push hW z1 o1 (by
    show (H.push ({ cls := G.2.1 3, slots := Array.replicate x.toNat .null, vm := .none } : Cell))[H.size]? = some _
    rw [Array.getElem?_push, if_pos rfl, arrV_new]
    rfl) hn
  have r := hk _ _ _ _ _ _ hp2 ls _ locs hl w1 (hS.push z1 o1) hb1 hb2
  have r : W p l e R s mid args below meth cd _ locs (c' + 1) (s' + x.toNat) QQ (F0 mid (pc + 3) ls (.ref (ad G q) :: _)) := r
  rw [w2] at r
  exact r

end SND3
