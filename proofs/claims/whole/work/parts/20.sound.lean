/-! ===== every step is sound; every method meets its contract ===== -/
/-- what is taken until the part that proves it: new int[n][m] -/
def MultiOK : Prop := ∀ {p : Program} {l : Launch} {e : Env} {R : Room} {s : State} {mid : MethodId} {args : Array Value} {below : List Frame} {meth : Method} {cd : Code} {QQ : State → Prop} {G : GT} {mm dep mc ms : Nat} {pc : Nat} {al st : List AV} {h : AH} {c' s' : Nat} {k0 : KT} {ln x1 x2 : Nat} {i d : Nat} (C : CX p l e R s mid args below meth cd G mm dep mc ms) (hk : ∀ a1 a2 a3 a4 a5 a6, k0 a1 a2 a3 a4 a5 a6 → XX p l e R s mid args below meth cd G mm mc ms QQ a1 a2 a3 a4 a5 a6) (hd : decode (Mb mm) pc = .ok (.multianewarray i d, ln)) (hln : lenOK (.multianewarray i d) ln = true) (hX : okX mm pc (.multianewarray i d) x1 x2 = true) (hs : pI st fun n r => pI r fun o r => cond (Nat.ble (c' + 1 + o.toNat) mc && Nat.ble (s' + o.toNat + o.toNat * n.toNat) ms && Nat.blt n.toNat 1000 && Nat.blt o.toNat 1000) (0 ≤ n ∧ 0 ≤ o ∧ hN (cII o.toNat (fun j => some (h.1.length + 1 + j.toNat))) (fun q h' => hNs (cI n.toNat (fun _ => 0)) o.toNat h' (fun h'' => k0 (pc + ln) al (vR q :: r) h'' (c' + 1 + o.toNat) (s' + o.toNat + o.toNat * n.toNat))) h 0) False), XX p l e R s mid args below meth cd G mm mc ms QQ pc al st h c' s'

section STEP
variable {p : Program} {l : Launch} {e : Env} {R : Room} {s : State} {mid : MethodId} {args : Array Value} {below : List Frame} {meth : Method} {cd : Code} {QQ : State → Prop}
variable {G : GT} {mm dep mc ms : Nat} {Q : Option AV → AH → Prop} {pc : Nat} {al st : List AV} {h : AH} {c' s' : Nat} {k0 : KT} {ln nx x1 x2 : Nat}
variable {RN : RT}
set_option maxHeartbeats 4000000 in
theorem snd_step (hMu : MultiOK) (C : CX p l e R s mid args below meth cd G mm dep mc ms) (hC : CallOK l dep RN G) (hR : RetOK p l e R s mid args below meth cd G mm mc ms Q QQ) (hk : ∀ a1 a2 a3 a4 a5 a6, k0 a1 a2 a3 a4 a5 a6 → XX p l e R s mid args below meth cd G mm mc ms QQ a1 a2 a3 a4 a5 a6) (hs : stepAt G.2.2.2.2.2 dep RN mm mc ms Q pc al st h c' s' k0) : XX p l e R s mid args below meth cd G mm mc ms QQ pc al st h c' s' := by
  have hmm : mm < 190 := C.2.2.2.2.2.2.2.2.2.2.2.2
  unfold stepAt at hs
  cases hM : Mc mm pc with
  | none => rw [hM] at hs; exact hs.elim
  | some en =>
    rw [hM] at hs
    obtain ⟨i, nx, x1, x2⟩ := en
    obtain ⟨ln, hd, rfl, hln, hX⟩ := Mc_ok hmm hM
    cases i with
    | aload_n n => exact s_aload_n C hk hd hln hX hs
    | aload n => exact s_aload C hk hd hln hX hs
    | iload_n n => exact s_iload_n C hk hd hln hX hs
    | iload n => exact s_iload C hk hd hln hX hs
    | lload_n n => exact s_lload_n C hk hd hln hX hs
    | lload n => exact s_lload C hk hd hln hX hs
    | astore_n n => exact s_astore_n C hk hd hln hX hs
    | astore n => exact s_astore C hk hd hln hX hs
    | istore_n n => exact s_istore_n C hk hd hln hX hs
    | istore n => exact s_istore C hk hd hln hX hs
    | lstore_n n => exact s_lstore_n C hk hd hln hX hs
    | lstore n => exact s_lstore C hk hd hln hX hs
    | iinc i n => exact s_iinc C hk hd hln hX hs
    | iconst n => exact s_iconst C hk hd hln hX hs
    | bipush n => exact s_bipush C hk hd hln hX hs
    | sipush n => exact s_sipush C hk hd hln hX hs
    | lconst n => exact s_lconst C hk hd hln hX hs
    | ldc n => exact s_ldc C hk hd hln hX hs
    | ldc_w n => exact s_ldc_w C hk hd hln hX hs
    | ldc2_w n => exact s_ldc2_w C hk hd hln hX hs
    | goto n => exact s_goto C hk hd hln hX hs
    | getfield n => exact s_getfield C hk hd hln hX hs
    | putfield n => exact s_putfield C hk hd hln hX hs
    | getstatic n => exact s_getstatic C hk hd hln hX hs
    | new n => exact s_new C hk hd hln hX hs
    | anewarray n => exact s_anewarray C hk hd hln hX hs
    | iadd => exact s_iadd C hk hd hln hX hs
    | isub => exact s_isub C hk hd hln hX hs
    | imul => exact s_imul C hk hd hln hX hs
    | irem => exact s_irem C hk hd hln hX hs
    | iand => exact s_iand C hk hd hln hX hs
    | ior => exact s_ior C hk hd hln hX hs
    | ishl => exact s_ishl C hk hd hln hX hs
    | ineg => exact s_ineg C hk hd hln hX hs
    | i2b => exact s_i2b C hk hd hln hX hs
    | i2s => exact s_i2s C hk hd hln hX hs
    | i2l => exact s_i2l C hk hd hln hX hs
    | l2i => exact s_l2i C hk hd hln hX hs
    | ladd => exact s_ladd C hk hd hln hX hs
    | lsub => exact s_lsub C hk hd hln hX hs
    | lmul => exact s_lmul C hk hd hln hX hs
    | land => exact s_land C hk hd hln hX hs
    | lor => exact s_lor C hk hd hln hX hs
    | lxor => exact s_lxor C hk hd hln hX hs
    | lshl => exact s_lshl C hk hd hln hX hs
    | lshr => exact s_lshr C hk hd hln hX hs
    | lushr => exact s_lushr C hk hd hln hX hs
    | lcmp => exact s_lcmp C hk hd hln hX hs
    | dup => exact s_dup C hk hd hln hX hs
    | dup2 => exact s_dup2 C hk hd hln hX hs
    | pop => exact s_pop C hk hd hln hX hs
    | iaload => exact s_iaload C hk hd hln hX hs
    | baload => exact s_baload C hk hd hln hX hs
    | laload => exact s_laload C hk hd hln hX hs
    | aaload => exact s_aaload C hk hd hln hX hs
    | iastore => exact s_iastore C hk hd hln hX hs
    | bastore => exact s_bastore C hk hd hln hX hs
    | lastore => exact s_lastore C hk hd hln hX hs
    | aastore => exact s_aastore C hk hd hln hX hs
    | arraylength => exact s_arraylength C hk hd hln hX hs
    | if_icmp cn n => exact s_if_icmp C hk hd hln hX hs
    | ifCond cn n => exact s_ifCond C hk hd hln hX hs
    | tableswitch a b c d => exact s_tableswitch C hk hd hX hs
    | lookupswitch a b => exact s_lookupswitch C hk hd hX hs
    | multianewarray a b => exact hMu C hk hd hln hX hs
    | newarray t =>
      cases t with
      | int => exact s_newarray_int C hk hd hln hX hs
      | long => exact s_newarray_long C hk hd hln hX hs
      | boolean => exact s_newarray_boolean C hk hd hln hX hs
      | _ => cases hX
    | invokevirtual n => exact s_virt hC C hk hd hln hX hs
    | invokespecial n =>
      have hX2 : cond (Nat.beq x1 999) (in3 MTO (Mo mm) n) ((in4 MT (Mo mm) n x1 || in4 MTN (Mo mm) n x1) && Nat.beq x2 (Mas x1) && !(Mst x1) && Mini x1 && Nat.blt x1 189) = true := hX
      have hs2 : cond (Nat.beq x1 999) (pR st fun _ r => cond (Nat.ble (cats r) 8 && Nat.ble 1 dep) (k0 (pc + ln) al r h c' s') False) (pN x2 [] st fun as r => pR r fun a r => cond (Nat.ble (cats r) 8 && Nat.ble (c' + Mmc x1) mc && Nat.ble (s' + Mms x1) ms) (RN x1 (vR a :: as) h (fun v h' => k0 (pc + ln) al (pushV v r) h' (c' + Mmc x1) (s' + Mms x1))) False) := hs
      cases hb9 : Nat.beq x1 999 with
      | true =>
        rw [hb9] at hX2 hs2
        exact s_objinit C hk hd hln hX2 hs2
      | false =>
        rw [hb9] at hX2 hs2
        have hX3 : ((in4 MT (Mo mm) n x1 || in4 MTN (Mo mm) n x1) && Nat.beq x2 (Mas x1) && !(Mst x1) && Mini x1 && Nat.blt x1 189) = true := hX2
        cases hm : in4 MT (Mo mm) n x1 with
        | true => exact s_spec hC C hk hd hln (by rw [hm] at hX3 ⊢; exact hX3) hs2
        | false => exact s_specN hC C hk hd hln (by rw [hm] at hX3; exact hX3) hs2
    | invokestatic n =>
      have hX2 : cond (Nat.blt x1 900) ((in4 MT (Mo mm) n x1 || in4 MTN (Mo mm) n x1) && Nat.beq x2 (Mas x1) && Mst x1 && Nat.blt x1 189 && Nat.beq (Mmc x1) 0 && Nat.beq (Mms x1) 0) (cond (Nat.beq x1 996) (in3 MTmin (Mo mm) n) (cond (Nat.beq x1 997) (in3 MTabs (Mo mm) n) (in3 MTcpy (Mo mm) n))) = true := hX
      cases hb9 : Nat.blt x1 900 with
      | true =>
        rw [hb9] at hX2
        have hs2 : cond (Nat.blt x1 900) (pN x2 [] st fun as r => cond (Nat.ble (cats r) 8) (RN x1 as h (fun v h' => k0 (pc + ln) al (pushV v r) h' c' s')) False) _ := hs
        rw [hb9] at hs2
        have h9 : Mo x1 ≠ 9 := nm_get hmm hM (blt_t hb9)
        have hX3 : ((in4 MT (Mo mm) n x1 || in4 MTN (Mo mm) n x1) && Nat.beq x2 (Mas x1) && Mst x1 && Nat.blt x1 189 && Nat.beq (Mmc x1) 0 && Nat.beq (Mms x1) 0) = true := hX2
        cases hm : in4 MT (Mo mm) n x1 with
        | true => exact s_stat hC h9 C hk hd hln (by rw [hm] at hX3 ⊢; exact hX3) hs2
        | false => exact s_statN hC h9 C hk hd hln (by rw [hm] at hX3; exact hX3) hs2
      | false =>
        rw [hb9] at hX2
        have hs2 : cond (Nat.blt x1 900) _ (cond (Nat.beq x1 996) _ (cond (Nat.beq x1 997) _ (cond (Nat.beq x1 998) _ False))) := hs
        rw [hb9] at hs2
        cases hb6 : Nat.beq x1 996 with
        | true =>
          rw [hb6] at hX2 hs2
          exact s_min C hk hd hln hX2 hs2
        | false =>
          rw [hb6] at hX2 hs2
          cases hb7 : Nat.beq x1 997 with
          | true =>
            rw [hb7] at hX2 hs2
            exact s_abs C hk hd hln hX2 hs2
          | false =>
            rw [hb7] at hX2 hs2
            exact s_cpy C hk hd hln hX2 (cond_t hs2).2
    | ireturn =>
      obtain rfl := Nat.eq_of_beq_eq_true hln
      have hX2 : ((decide (Mr mm = some .int) && Nat.beq x2 0) || (decide (Mr mm = some .boolean) && Nat.beq x2 1)) = true := hX
      obtain ⟨x, r, rfl, hp⟩ := pI_e hs
      match r, hp with
      | [], hp =>
        obtain ⟨hb, hq⟩ := hp
        intro ls H locs hl hW hS hc1 hs1
        refine hR.1 pc x h H locs ls c' s' hq hW hS hc1 hs1 hd ?_
        simp only [Bool.or_eq_true, Bool.and_eq_true, decide_eq_true_eq] at hX2
        rcases hX2 with ⟨z1, z2⟩ | ⟨z1, z2⟩
        · exact Or.inl z1
        · have := Nat.eq_of_beq_eq_true z2
          rcases hb with hb | hb
          · omega
          · exact Or.inr ⟨z1, hb⟩
    | lreturn =>
      obtain rfl := Nat.eq_of_beq_eq_true hln
      obtain ⟨x, r, rfl, hp⟩ := pL_e hs
      match r, hp with
      | [], hp =>
        intro ls H locs hl hW hS hc1 hs1
        exact hR.2.1 pc x h H locs ls c' s' hp hW hS hc1 hs1 hd (of_decide_eq_true hX)
    | return_ =>
      obtain rfl := Nat.eq_of_beq_eq_true hln
      match st, hs with
      | [], hs =>
        intro ls H locs hl hW hS hc1 hs1
        exact hR.2.2 pc h H locs ls c' s' hs hW hS hc1 hs1 hd (of_decide_eq_true hX)
    | _ => exact hs.elim
theorem snd_run (hMu : MultiOK) (C : CX p l e R s mid args below meth cd G mm dep mc ms) (hC : CallOK l dep RN G) (hR : RetOK p l e R s mid args below meth cd G mm mc ms Q QQ) (hs : WPm G.2.2.2.2.2 dep RN mm mc ms Q pc al st h c' s') : XX p l e R s mid args below meth cd G mm mc ms QQ pc al st h c' s' :=
  hs _ (fun _ _ _ _ _ _ hq => by
    obtain ⟨k1, h1, h2⟩ := hq
    exact snd_step hMu C hC hR h1 h2)
end STEP
theorem ents (hMu : MultiOK) (l : Launch) (d : Nat) (hC : ∀ (G : GT), CallOK l d (RNd G.2.2.2.2.2 d) G) : CT l d := by
  intro m G as h Q hm h9 hr
  obtain ⟨al, h1, h2, h3⟩ := lay_e hr
  obtain ⟨hL, hwp⟩ := cond_t h1
  obtain ⟨g1, g2⟩ := h3 G
  obtain ⟨o1, o2⟩ := okL_e hL
  obtain ⟨⟨f1, f2, f3, f4, f5⟩, f6, f7, f8, f9⟩ := mf_get m hm
  have hplain : plainName (My m).cls = true := by
    rcases f3 with f3 | f3
    · exact absurd f3 h9
    · exact f3
  refine Met.ofW (cc := Mb m) (maxL := ML m) (ret := Mr m) (ws' := glw) hplain rfl ?_
  intro p e s mid args below meth c s₁ B hml hv
  obtain ⟨rfl, hW, hT⟩ := hv
  have hx := B.exec
  have hb := B.bytes
  have hr := B.returns
  have hlocks := B.notSynchronized
  have hts : ∀ w ∈ glw, w.before ((as.map (cV G)).toArray) s = true := fun w hw => atoms_spec (ws := mw m) B.pre w (List.mem_cons_of_mem _ hw)
  have hown : s.vm.findClass (ON (Mo m)) = some mid.cls := by
    rw [← f2]
    exact findClass_of_methodNamed B.named
  have hS : va_S (AA G) s.heap s.heap [] := va_S.rf
  have hsz : G.1 ≤ s.heap.size := by rw [hW.2.1]; omega
  have hl := lv_entry (as.map (cV G)) (n := ML m) g1
  rw [lg_entry_eq]
  generalize (lg_sl (as.map (cV G)) ++ List.replicate (ML m - (lg_sl (as.map (cV G))).length) Slot.unset).toArray = ls at hl ⊢
  have hLs : LsOK G (MLq m) ls (ML m) al := by
    refine ⟨_, hl, fun i v hi hv => ?_, fun i x hi => ?_, fun i v hL2 hi => ?_, h2, fun i hi => MLL_lt (by omega) hi⟩
    · have := g2 0 i v hi hv
      rw [Nat.zero_add] at this
      exact this
    · have := o1 i x hi
      rw [Nat.zero_add] at this
      exact this
    · have hlt : i + 1 < al.length := (List.getElem?_eq_some_iff.mp hi).1
      exact o2 i v (by omega) (by rw [Nat.zero_add]; exact hL2) hi
  have hCX : CX p l e (rmd d m) s mid (as.map (cV G)).toArray below meth c G m d (Mmc m) (Mms m) := ⟨hx, hb, hml, hown, hts, hT, fun hi => by rw [(name_of_methodNamed B.named B.method).1]; exact (f7 hi).1, hsz, Nat.le_refl _, Nat.le_refl _, Nat.le_refl _, Nat.le_refl _, by omega⟩
  have hRet : RetOK p l e (rmd d m) s mid (as.map (cV G)).toArray below meth c G m (Mmc m) (Mms m) Q (MQ below (QcG G Q) (as.map (cV G)).toArray s (Mmc m) (Mms m) (AA G)) := by
    refine ⟨fun pc x h H locs ls c' s' hq hW hS hc1 hs1 hd hrt => ?_, fun pc x h H locs ls c' s' hq hW hS hc1 hs1 hd hrt => ?_, fun pc h H locs ls c' s' hq hW hS hc1 hs1 hd hrt => ?_⟩
    · refine W.widen (k := Mmc m) (n := Mms m) hc1 hs1 ?_
      rcases hrt with hrt | ⟨hrt, h01⟩
      · exact W.iret hx hb (hr.trans hrt) (fun t ht _ => ⟨⟨some (vI x), h, rfl, hq, by rw [ht]; exact hW⟩, hS.F ht⟩) hS.2.2 hd
      · exact W.zret hx hb (hr.trans hrt) (by rcases h01 with rfl | rfl <;> decide +kernel) (fun t ht _ => ⟨⟨some (vI x), h, rfl, hq, by rw [ht]; exact hW⟩, hS.F ht⟩) hS.2.2 hd
    · refine W.widen (k := Mmc m) (n := Mms m) hc1 hs1 ?_
      exact W.lret hx hb (hr.trans hrt) (fun t ht _ => ⟨⟨some (vL x), h, rfl, hq, by rw [ht]; exact hW⟩, hS.F ht⟩) hS.2.2 hd
    · refine W.widen (k := Mmc m) (n := Mms m) hc1 hs1 ?_
      exact W.vret hx hb (hr.trans hrt) (fun t ht _ => ⟨⟨none, h, rfl, hq, by rw [ht]; exact hW⟩, hS.F ht⟩) hS.2.2 hd
  exact snd_run hMu hCX (hC G) hRet hwp ls s.heap [] hLs hW hS (Nat.zero_le _) (Nat.zero_le _)
theorem ct_all (hMu : MultiOK) (l : Launch) : ∀ d : Nat, CT l d
  | 0 => ents hMu l 0 (fun G m' as h Q0 _ _ hr => hr.elim)
  | d + 1 => ents hMu l (d + 1) (fun G m' as h Q0 hm h9 hr => ⟨d, rfl, ct_all hMu l d m' G as h Q0 hm h9 hr⟩)
theorem call_all (hMu : MultiOK) (l : Launch) (d : Nat) (G : GT) : CallOK l (d + 1) (RNd G.2.2.2.2.2 (d + 1)) G := fun m' as h Q0 hm h9 hr => ⟨d, rfl, ct_all hMu l d m' G as h Q0 hm h9 hr⟩
