/-! ===== new int[n][m] ===== -/
theorem cWl_append (G : GT) : ∀ (l1 l2 : List AC) (o : Nat), cWl G o (l1 ++ l2) = cWl G o l1 ++ cWl G (o + l1.length) l2
  | [], l2, o => rfl
  | c :: l1, l2, o => by
    show (o, cC G c) :: cWl G (o + 1) (l1 ++ l2) = (o, cC G c) :: (cWl G (o + 1) l1 ++ cWl G (o + (l1.length + 1)) l2)
    rw [cWl_append G l1 l2 (o + 1), show o + 1 + l1.length = o + (l1.length + 1) by omega]
theorem WH_app {G : GT} {h : AH} {H H1 : Heap} {l : List AC} (hW : WH G h H) (h2 : h.2 = []) (hlen : h.1.length + l.length ≤ 200) (hz : H1.size = H.size + l.length) (ho : ∀ q : Nat, q < H.size → H1[q]? = H[q]?) (hc : ∀ (k : Nat) (c : AC), l[k]? = some c → va_at G.2.2.2.2.1 vwCl (H.size + k, cC G c) H1) : WH G (h.1 ++ l, []) H1 := by
  obtain ⟨hP, h1, -, h3, h4⟩ := hW
  have e1 : H.size = G.1 + h.1.length := by rw [h1, h2]; rfl
  refine ⟨?_, ?_, Or.inl rfl, ?_, Nat.zero_le _⟩
  · have hP1 : va_P G.2.2.2.2.1 vwCl (cW G h) H1 := hP.kept (fun k x hx => ho x.1 (hP k x hx).lt)
    have : cW G (h.1 ++ l, []) = cW G h ++ cWl G H.size l := by
      unfold cW
      rw [h2]
      show cWl G G.1 (h.1 ++ l) ++ [] = cWl G G.1 h.1 ++ [] ++ _
      rw [List.append_nil, List.append_nil, cWl_append, e1]
    rw [this]
    refine hP1.app (fun k x hx => ?_)
    rw [cWl_get] at hx
    cases hl : l[k]? with
    | none => rw [hl] at hx; cases hx
    | some c => rw [hl] at hx; cases hx; exact hc k c hl
  · rw [hz, e1]; simp only [List.length_append, List.length_nil]; omega
  · simp only [List.length_append]; omega
theorem hNs_e {c : AC} {f : AH → Prop} : ∀ {n : Nat} {h : AH}, h.2 = [] → h.1.length ≤ 200 → hNs c n h f → f (h.1 ++ List.replicate n c, []) ∧ h.1.length + n ≤ 200
  | 0, (a, b), h2, h3, q => by
    have h2 : b = [] := h2
    subst h2
    show f (a ++ [], []) ∧ _
    rw [List.append_nil]
    exact ⟨q, h3⟩
  | n + 1, (a, b), h2, h3, q => by
    have h2 : b = [] := h2
    subst h2
    rcases hN_e q with ⟨-, -, g3, g4⟩ | ⟨g1, -⟩
    · have g3 : a.length < 200 := g3
      obtain ⟨w1, w2⟩ := hNs_e (n := n) (h := (a ++ [c], [])) rfl (by simp only [List.length_append, List.length_cons, List.length_nil]; omega) g4
      refine ⟨?_, by simp only [List.length_append, List.length_cons, List.length_nil] at w2; show a.length + (n + 1) ≤ 200; omega⟩
      have e : a ++ List.replicate (n + 1) c = a ++ [c] ++ List.replicate n c := by rw [List.replicate_succ, List.append_assoc]; rfl
      show f (a ++ List.replicate (n + 1) c, [])
      rw [e]
      exact w1
    · exact absurd rfl g1
theorem arrV_eq {c : ClassId} {N : Nat} {f g : Nat → Value} (h : ∀ j, j < N → f j = g j) : arrV c N f = arrV c N g := by
  unfold arrV
  congr 1
  congr 1
  funext j
  exact h j.val j.isLt
theorem outer_at (c : ClassId) (N h0 : Nat) : ∀ i : Nat, Jvm.Free.Multi.outerC c N h0 i = arrV c N (fun j => va_rf (if j < i then some (h0 + 1 + j) else none))
  | 0 => by
    show ({ cls := c, slots := Array.replicate N .null, vm := .none } : Cell) = _
    rw [arrV_new]
    refine congrArg (arrV c N) (funext fun j => ?_)
    simp [va_rf]
  | i + 1 => by
    show (Jvm.Free.Multi.outerC c N h0 i).setSlot i (.ref (h0 + 1 + i)) = _
    rw [outer_at c N h0 i, arrV_store]
    refine congrArg (arrV c N) (funext fun j => ?_)
    by_cases e : j = i
    · subst e
      simp [updV, va_rf]
    · by_cases h : j < i
      · simp [updV, e, h, Nat.lt_succ_of_lt h]
      · simp [updV, e, h, show ¬ j < i + 1 by omega]
section SND5
variable {p : Program} {l : Launch} {e : Env} {R : Room} {s : State} {mid : MethodId} {args : Array Value} {below : List Frame} {meth : Method} {cd : Code} {QQ : State → Prop}
variable {G : GT} {mm dep mc ms : Nat} {Q : Option AV → AH → Prop} {pc : Nat} {al st : List AV} {h : AH} {c' s' : Nat} {k0 : KT} {ln nx x1 x2 : Nat}

theorem s_multi {i d : Nat} (C : CX p l e R s mid args below meth cd G mm dep mc ms) (hk : ∀ a1 a2 a3 a4 a5 a6, k0 a1 a2 a3 a4 a5 a6 → XX p l e R s mid args below meth cd G mm mc ms QQ a1 a2 a3 a4 a5 a6) (hd : decode (Mb mm) pc = .ok (.multianewarray i d, ln)) (hln : lenOK (.multianewarray i d) ln = true) (hX : okX mm pc (.multianewarray i d) x1 x2 = true) (hs : pI st fun n r => pI r fun o r => cond (Nat.ble (c' + 1 + o.toNat) mc && Nat.ble (s' + o.toNat + o.toNat * n.toNat) ms && Nat.blt n.toNat 1000 && Nat.blt o.toNat 1000) (0 ≤ n ∧ 0 ≤ o ∧ hN (cII o.toNat (fun j => some (h.1.length + 1 + j.toNat))) (fun q h' => hNs (cI n.toNat (fun _ => 0)) o.toNat h' (fun h'' => k0 (pc + ln) al (vR q :: r) h'' (c' + 1 + o.toNat) (s' + o.toNat + o.toNat * n.toNat))) h 0) False) : XX p l e R s mid args below meth cd G mm mc ms QQ pc al st h c' s' := by
  obtain ⟨hx, hb, hml, hown, hts, hT, hin, hsz, hfr, hlo, hmc, hms, hmm⟩ := C
  obtain rfl := Nat.eq_of_beq_eq_true hln
  have hX2 : (Nat.beq (Mo mm) 3 && Nat.beq i 19 && Nat.beq d 2) = true := hX
  rw [Bool.and_eq_true, Bool.and_eq_true] at hX2
  have e5 := Nat.eq_of_beq_eq_true hX2.1.1
  have e6 := Nat.eq_of_beq_eq_true hX2.1.2
  have e7 := Nat.eq_of_beq_eq_true hX2.2
  subst e6
  subst e7
  rw [e5] at hown
  obtain ⟨n, r, rfl, hp0⟩ := pI_e hs
  obtain ⟨o, r, rfl, hp1⟩ := pI_e hp0
  obtain ⟨hbud, hn0, ho0, hp2⟩ := cond_t hp1
  rw [Bool.and_eq_true, Bool.and_eq_true, Bool.and_eq_true] at hbud
  have hb1 := Nat.le_of_ble_eq_true hbud.1.1.1
  have hb2 := Nat.le_of_ble_eq_true hbud.1.1.2
  have hb3 := blt_t hbud.1.2
  have hb4 := blt_t hbud.2
  obtain ⟨g2, g3, hp3⟩ : h.2 = [] ∧ h.1.length < 200 ∧ hNs (cI n.toNat (fun _ => 0)) o.toNat (h.1 ++ [cII o.toNat (fun j => some (h.1.length + 1 + j.toNat))], []) (fun h'' => k0 (pc + 4) al (vR h.1.length :: r) h'' (c' + 1 + o.toNat) (s' + o.toNat + o.toNat * n.toNat)) := by
    rcases hN_e hp2 with ⟨-, z2, z3, z4⟩ | ⟨z1, -⟩
    · exact ⟨z2, z3, z4⟩
    · exact absurd rfl z1
  obtain ⟨hp4, hlen⟩ := hNs_e rfl (by simp only [List.length_append, List.length_cons, List.length_nil]; omega) hp3
  have hlen : h.1.length + 1 + o.toNat ≤ 200 := by simp only [List.length_append, List.length_cons, List.length_nil] at hlen; omega
  intro ls H locs hl hW hS hc1 hs1
  have hnn : ¬ iI n < 0 := fun z => by
    rw [← iI_0, iI_lt (by unfold rg; omega) rg_0] at z
    omega
  have hno : ¬ iI o < 0 := fun z => by
    rw [← iI_0, iI_lt (by unfold rg; omega) rg_0] at z
    omega
  have k1 : (iI n).toNatClampNeg = n.toNat := iI_clamp hn0 (by omega)
  have k2 : (iI o).toNatClampNeg = o.toNat := iI_clamp ho0 (by omega)
  have hH : H.size = G.1 + h.1.length := by rw [hW.2.1, g2]; rfl
  have e8 : (FieldType.array FieldType.int).toString = "[" ++ FieldType.int.toString := by decide +kernel
  intro T hTH X
  obtain ⟨vm₁, cA, comp, -, fA, fC, hO, -, X', step⟩ := X.multianewarray2F (ty := .int) (own := RX3) (index := 19) hx hown (hts _ (in_glw (List.mem_of_getElem? (i := 114) (by decide +kernel) : Cond.classLink RX3 19 ("[" ++ (FieldType.array FieldType.int).toString) ∈ lw_tbl) rfl)) hT.2.2.2.2.2.2.1 (hts _ (in_glw arrcl_0 rfl)) (g := F0 mid pc ls (.int (iI n) :: .int (iI o) :: r.map (cV G))) rfl (by rw [hb]; exact hd) rfl hno hnn (by rw [k2]; omega) (by rw [k1]; have h8 : componentBytes FieldType.int ≤ 8 := (by decide); exact Nat.le_trans (Nat.mul_le_mul_left _ h8) (by omega)) (by rw [k1]; omega) rfl rfl (by rw [k2]; omega) (by rw [k1, k2]; omega)
  have hcA : cA = G.2.1 4 := Option.some.inj (fA.symm.trans (hT.1.2 4 _ rfl).2)
  have hcomp : comp = G.2.1 0 := by
    rw [e8] at fC
    exact Option.some.inj (fC.symm.trans (hT.1.2 0 _ rfl).2)
  subst hcA
  subst hcomp
  rw [k1, k2] at X' step
  generalize hF : Jvm.Free.Multi.fill (T.setVm vm₁) (G.2.1 4) (G.2.1 0) o.toNat n.toNat (defaultValue FieldType.int) o.toNat = F at X' step
  have hTh : (T.setVm vm₁).heap = H := hTH
  obtain ⟨f1, f2, -, -⟩ := Jvm.Free.Multi.fill_facts (T.setVm vm₁) (G.2.1 4) (G.2.1 0) o.toNat n.toNat (defaultValue FieldType.int) o.toNat
  rw [hF, hTh] at f1 f2
  have hold : ∀ x : Nat, x < H.size → F.heap[x]? = H[x]? := fun x hx => by
    have q := Jvm.Free.Multi.fill_old (T.setVm vm₁) (G.2.1 4) (G.2.1 0) o.toNat n.toNat (defaultValue FieldType.int) (a := x) (by rw [hTh]; exact hx) o.toNat
    rw [hF, hTh] at q
    exact q
  have hrow : ∀ j : Nat, j < o.toNat → F.heap[H.size + 1 + j]? = some (arrV (G.2.1 0) n.toNat (fun _ => defaultValue FieldType.int)) := fun j hj => by
    have q := Jvm.Free.Multi.fill_inner (T.setVm vm₁) (G.2.1 4) (G.2.1 0) o.toNat n.toNat (defaultValue FieldType.int) o.toNat j hj
    rw [hF, hTh] at q
    rw [q]
    exact congrArg some (arrV_new _ _ _)
  rw [outer_at] at f2
  have hW2 : WH G (h.1 ++ (cII o.toNat (fun j => some (h.1.length + 1 + j.toNat)) :: List.replicate o.toNat (cI n.toNat (fun _ => 0))), []) F.heap := by
    refine WH_app hW g2 (by simp only [List.length_cons, List.length_replicate]; omega) (by rw [f1]; simp only [List.length_cons, List.length_replicate]; omega) hold (fun k c hk9 => ?_)
    cases k with
    | zero =>
      cases hk9
      show F.heap[H.size]? = some (arrV (G.2.1 4) o.toNat (fun j => va_rf ((some (h.1.length + 1 + ((j : Nat) : Int).toNat)).map (ad G))))
      rw [f2]
      refine congrArg some (arrV_eq fun j hj => ?_)
      rw [if_pos hj, Int.toNat_natCast]
      show va_rf _ = va_rf (some (ad G (h.1.length + 1 + j)))
      rw [ad_A (by omega), hH]
      refine congrArg (fun z => va_rf (some z)) ?_
      omega
    | succ k =>
      have hk8 : (List.replicate o.toNat (cI n.toNat (fun _ => 0)))[k]? = some c := by simpa using hk9
      obtain ⟨hlt, hv⟩ := List.getElem?_eq_some_iff.mp hk8
      rw [List.length_replicate] at hlt
      have hc : cI n.toNat (fun _ => 0) = c := by rw [← hv]; simp
      subst hc
      show F.heap[H.size + (k + 1)]? = some (vp_cell (G.2.1 0) (n.toNat, .inl (fun _ => iI 0)))
      rw [show H.size + (k + 1) = H.size + 1 + k by omega, hrow k hlt, arr0_0]
  have hS2 : va_S (AA G) s.heap F.heap locs := ⟨Nat.le_trans hS.1 (by rw [f1]; omega), fun x h1 h2 => (hold x (Nat.lt_of_lt_of_le h1 hS.1)).trans (hS.2.1 x h1 h2), hS.2.2⟩
  have e9 : h.1 ++ [cII o.toNat (fun j => some (h.1.length + 1 + j.toNat))] ++ List.replicate o.toNat (cI n.toNat (fun _ => 0)) = h.1 ++ (cII o.toNat (fun j => some (h.1.length + 1 + j.toNat)) :: List.replicate o.toNat (cI n.toNat (fun _ => 0))) := by rw [List.append_assoc]; rfl
  rw [← e9] at hW2
  have kk := hk _ _ _ _ _ _ hp4 ls F.heap locs hl hW2 hS2 hb1 hb2
  have kk : W p l e R s mid args below meth cd F.heap locs (c' + 1 + o.toNat) (s' + o.toNat + o.toNat * n.toNat) QQ (F0 mid (pc + 4) ls (.ref (ad G h.1.length) :: r.map (cV G))) := kk
  rw [ad_A g3, ← hH] at kk
  obtain ⟨t, a1, b1⟩ := kk F rfl X'
  rw [hTH] at step
  exact ⟨t, step t a1, b1⟩
end SND5
theorem multi_ok : MultiOK := s_multi
