/-! THE CLAIM OUT OF ONE WALK OF THE LAW'S BODY. Your part is whole_start (and what it stands on); all else here is the same for every law, but numbers. -/
def R_law : String := "RenameGraphLaw"
def lw_P (b : Addr) (xs : List Int32) (args : Array Value) (s : State) : Prop := args = #[.ref b] ∧ s.IntsAt b xs ∧ xs.length ≤ 3072 ∧ (Jvm.Cond.and given_1 narrow_1).before args s = true
def lw_Q (_ : Array Value) (s : State) (o : Outcome) (t : State) : Prop := o = .returned (some (.int 1)) ∧ Framed s o t [] 600000 7302250
def lw_Z (below : List Frame) (a : Array Value) (s : State) : State → Prop := fun t => ∃ o, t.status = .running ∧ Ended t below o ∧ lw_Q a s o t
/-- the law's own end, with 1 on the stack, nothing written that was there before, its room as the claim has it -/
theorem lw_ret {p : Program} {l : Launch} {e : Env} {s : State} {m : MethodId} {below : List Frame} {meth : Method} {c : Code} {b : Nat} (hx : p.tables.exec = Jvm.exec) (hb : c.code = code) (hr : meth.sig.returnType = ret) (hlocks : meth.locks = false) {pc : Nat} {H : Heap} {ls : Array Slot} (hdg : decode code pc = .ok (.ireturn, 1)) : W p l e room_1 s m #[Value.ref b] below meth c H [] 600000 7302250 (lw_Z below #[Value.ref b] s) (F0 m pc ls [.int 1]) := by
  intro T hT X
  obtain ⟨fs, hret, hrun, hended, hW, hframe⟩ := X.leave (v := some (.int 1)) (hlocks := hlocks) (fun h => by rw [hr] at h; cases h)
  have hmeth' : T.vm.method? m = some meth := X.method'
  refine ⟨T.setFrames fs, ?_, .returned (some (.int 1)), hrun, hended, rfl, ⟨_, rfl⟩, hW, hframe⟩
  jvm_step X.here [X.here.top, hx, hb, hdg, hmeth', hr, ret, narrow_b1]
  (try refine ⟨rfl, ?_⟩); (try refine ⟨rfl, ?_⟩)
  first | (intro acts; rw [hret _ acts rfl rfl rfl]) | rw [hret _ _ rfl rfl rfl]
  exact Steps.refl _
/-- what holds at the law's entry: the machine, the code, the tables' words (any of lw_tbl by 'hts w (by decide +kernel)'), the script of L ints xs at the cell b, what the Statement gives of the start (any of its parts by flat_of_before) -/
def lw_At (p : Program) (s : State) (m : MethodId) (meth : Method) (c : Code) (b L : Nat) (xs : Nat → Int32) : Prop :=
  p.tables.exec = Jvm.exec ∧ c.code = code ∧ meth.sig.returnType = ret ∧ c.maxLocals = 4 ∧ s.vm.findClass R_law = some m.cls ∧ (∀ w ∈ lw_tbl, w.before #[Value.ref b] s = true) ∧ va_X b L xs s s.heap ∧ b < s.heap.size ∧ meth.locks = false ∧ (Jvm.Cond.and given_1 narrow_1).before #[Value.ref b] s = true
/-! ===== the world at the law's entry ===== -/
set_option maxRecDepth 100000 in
set_option maxHeartbeats 4000000 in
theorem my_len {args : Array Value} {first s : State} {o : Option Outcome} {idx : List Nat} {t : Term} {v : Value} (h : (Term.length t).eval args first o idx s = some v) :
    ∃ b cell, t.eval args first o idx s = some (.ref b) ∧ s.arrayAt? b = some cell ∧ cell.slots.size < 2 ^ 31 ∧ v = .int cell.slots.size.toInt32 := by
  simp only [Term.eval, Option.bind_eq_bind] at h
  cases ht : t.eval args first o idx s with
  | none => simp [ht] at h
  | some x =>
    cases x <;> simp only [ht, Option.bind_some] at h <;> try cases h
    rename_i b
    cases ha : s.arrayAt? b with
    | none => simp [ha] at h
    | some cell =>
      simp only [ha, Option.bind_some] at h
      by_cases hs : cell.slots.size < 2 ^ 31
      · rw [if_pos hs] at h; cases h; exact ⟨b, cell, rfl, ha, hs, rfl⟩
      · rw [if_neg hs] at h; cases h
set_option maxRecDepth 100000 in
set_option maxHeartbeats 4000000 in
theorem arr_K {args : Array Value} {s : State} {ty : FieldType} (h : (Cond.arrayClass ty).before args s = true) : ∃ cA, ArrOfT s cA ty ∧ s.vm.findClass ("[" ++ ty.toString) = some cA := by
  obtain ⟨c, k, comp, h1, h2, h3⟩ := Cond.arrayClass_spec h
  exact ⟨c, fun n z => ⟨fun k h => (by cases h), k, h2, comp, h3⟩, h1⟩
set_option maxRecDepth 100000 in
set_option maxHeartbeats 4000000 in
theorem in_0 : Cond.instantiable RX0 6 ∈ lw_tbl ∧ Cond.instantiable RX1 4 ∈ lw_tbl ∧ Cond.instantiable RX2 4 ∈ lw_tbl ∧ Cond.instantiable RX3 6 ∈ lw_tbl ∧ Cond.instantiable RX4 16 ∈ lw_tbl ∧ Cond.instantiable RX5 6 ∈ lw_tbl ∧ Cond.instantiable RX6 30 ∈ lw_tbl := by decide +kernel
set_option maxRecDepth 100000 in
set_option maxHeartbeats 4000000 in
theorem in_1 : Cond.arrayClass .int ∈ lw_tbl ∧ Cond.arrayClass .long ∈ lw_tbl ∧ Cond.arrayClass .boolean ∈ lw_tbl ∧ Cond.arrayOver (.object "RenameGraph$Sheet") ∈ lw_tbl ∧ Cond.arrayOver (.array .int) ∈ lw_tbl ∧ Cond.laysStatic "RenameGraph" "DIGEST_NAMES" "[I" ∈ lw_tbl ∧ Cond.initialized "RenameGraph" ∈ lw_tbl := by decide +kernel
abbrev dgT : Term := .static "RenameGraph" "DIGEST_NAMES" "[I"
set_option maxRecDepth 100000 in
set_option maxHeartbeats 4000000 in
theorem in_2 : Cond.eq (.length dgT) (.int 3) ∈ flatC (Jvm.Cond.and given_1 narrow_1) ∧ Cond.arrayOf dgT .int ∈ flatC (Jvm.Cond.and given_1 narrow_1) ∧ Cond.eq (.elem dgT (.int 0)) (.int 97) ∈ flatC (Jvm.Cond.and given_1 narrow_1) ∧ Cond.eq (.elem dgT (.int 1)) (.int 99) ∈ flatC (Jvm.Cond.and given_1 narrow_1) ∧ Cond.eq (.elem dgT (.int 2)) (.int 120) ∈ flatC (Jvm.Cond.and given_1 narrow_1) := by decide +kernel
set_option maxRecDepth 100000 in
set_option maxHeartbeats 4000000 in
theorem el_at {args : Array Value} {s : State} {t : Addr} {cell : Cell} {z v : Int32} {n : Nat} (ht : dgT.eval args s none [] s = some (.ref t)) (ha : s.arrayAt? t = some cell) (h : (Cond.eq (.elem dgT (.int z)) (.int v)).before args s = true) (hz : z.toNatClampNeg = n) : cell.slots[n]? = some (.int v) := by
  obtain ⟨a, j, cell', h1, h2, h3, -, h5⟩ := Term.elem_spec (va_eqt h)
  cases ht.symm.trans h1
  cases ha.symm.trans h3
  have e : (Term.int z).eval args s none [] s = some (.int z) := rfl
  cases h2.symm.trans e
  rw [hz] at h5
  exact h5
set_option maxRecDepth 100000 in
set_option maxHeartbeats 4000000 in
theorem dg_X {args : Array Value} {s : State} (hgv : (Jvm.Cond.and given_1 narrow_1).before args s = true) : ∃ t : Nat, dgT.eval args s none [] s = some (.ref t) ∧ va_X t 3 (fun j => iI (dgF (j : Int))) s s.heap ∧ t < s.heap.size := by
  have hs := flat_of_before _ hgv
  obtain ⟨i1, i2, i3, i4, i5⟩ := in_2
  obtain ⟨t, cell, ht, ha, hlt, hv⟩ := my_len (va_eqt (hs _ i1))
  obtain ⟨hcell, hkn, -, -⟩ := State.arrayAt?_spec ha
  obtain ⟨hof, -⟩ := Cond.arrayOf_spec (hs _ i2) ht hcell
  have e0 := el_at (n := 0) ht ha (hs _ i3) (by decide +kernel)
  have e1 := el_at (n := 1) ht ha (hs _ i4) (by decide +kernel)
  have e2 := el_at (n := 2) ht ha (hs _ i5) (by decide +kernel)
  have hsz : cell.slots.size = 3 := by
    have h1 : (Int32.ofNat cell.slots.size).toInt = cell.slots.size := Int32.toInt_ofNat_of_lt hlt
    have h2 : Int32.ofNat cell.slots.size = 3 := (Value.int.inj hv).symm
    rw [h2] at h1
    have h3 : (3 : Int32).toInt = 3 := by decide +kernel
    rw [h3] at h1
    omega
  have d0 : iI (dgF ((0 : Nat) : Int)) = 97 := by decide +kernel
  have d1 : iI (dgF ((1 : Nat) : Int)) = 99 := by decide +kernel
  have d2 : iI (dgF ((2 : Nat) : Int)) = 120 := by decide +kernel
  refine ⟨t, ht, ⟨cell, hcell, hof, hkn, hsz, fun j hj => ?_⟩, (Array.getElem?_eq_some_iff.mp hcell).1⟩
  have q : j = 0 ∨ j = 1 ∨ j = 2 := by omega
  rcases q with rfl | rfl | rfl
  · rw [e0]
    exact congrArg (fun z : Int32 => some (Value.int z)) d0.symm
  · rw [e1]
    exact congrArg (fun z : Int32 => some (Value.int z)) d1.symm
  · rw [e2]
    exact congrArg (fun z : Int32 => some (Value.int z)) d2.symm
set_option maxRecDepth 100000 in
set_option maxHeartbeats 4000000 in
theorem nest_of {w : Cond} {args : Array Value} {s : State} (hi : isNest w = true) (h : w.before args s = true) : va_Nw w s := by
  cases w <;> first | exact h | cases hi
set_option maxRecDepth 100000 in
set_option maxHeartbeats 4000000 in
theorem world_0 {s : State} {b L : Nat} {xs : Nat → Int32} (hL : L ≤ 3072) (hts : ∀ w ∈ lw_tbl, w.before #[Value.ref b] s = true) (hX : va_X b L xs s s.heap) (hbl : b < s.heap.size) (hgv : (Jvm.Cond.and given_1 narrow_1).before #[Value.ref b] s = true) :
    ∃ G : GT, G.1 = s.heap.size ∧ G.2.2.1 = b ∧ G.2.2.2.2.2 = (L, fun j : Int => (xs j.toNat).toInt) ∧ WT G s := by
  obtain ⟨j0, j1, j2, j3, j4, j5, j6⟩ := in_0
  obtain ⟨a0, a1, a2, a3, a4, a5, a6⟩ := in_1
  have hgl : ∀ w ∈ glw, w.before #[Value.ref b] s = true := fun w hw => hts w (List.mem_filter.mp hw).1
  obtain ⟨c0, i0, k0⟩ := u_known (C := ON 0) (T := TT 0) (N := nF 0) (n := 6) hgl (u_in 0 (by omega)) (hts _ j0)
  obtain ⟨c1, i1, k1⟩ := u_known (C := ON 1) (T := TT 1) (N := nF 1) (n := 4) hgl (u_in 1 (by omega)) (hts _ j1)
  obtain ⟨c2, i2, k2⟩ := u_known (C := ON 2) (T := TT 2) (N := nF 2) (n := 4) hgl (u_in 2 (by omega)) (hts _ j2)
  obtain ⟨c3, i3, k3⟩ := u_known (C := ON 3) (T := TT 3) (N := nF 3) (n := 6) hgl (u_in 3 (by omega)) (hts _ j3)
  obtain ⟨c4, i4, k4⟩ := u_known (C := ON 4) (T := TT 4) (N := nF 4) (n := 16) hgl (u_in 4 (by omega)) (hts _ j4)
  obtain ⟨c5, i5, k5⟩ := u_known (C := ON 5) (T := TT 5) (N := nF 5) (n := 6) hgl (u_in 5 (by omega)) (hts _ j5)
  obtain ⟨c6, i6, k6⟩ := u_known (C := ON 6) (T := TT 6) (N := nF 6) (n := 30) hgl (u_in 6 (by omega)) (hts _ j6)
  obtain ⟨dC, dI, hKc⟩ : ∃ (dC : Nat → ClassId) (dI : Nat → Nat → Nat), ∀ (k : Nat) (q : vw_C), vwCl[k]? = some q → u_Kn s q.1 q.2.1 q.2.2 (dC k) (dI k) := by
    refine ⟨fun k => if k = 0 then c0 else if k = 1 then c1 else if k = 2 then c2 else if k = 3 then c3 else if k = 4 then c4 else if k = 5 then c5 else c6, fun k => if k = 0 then i0 else if k = 1 then i1 else if k = 2 then i2 else if k = 3 then i3 else if k = 4 then i4 else if k = 5 then i5 else i6, ?_⟩
    intro k q hq
    match k, hq with
    | 0, hq => cases hq; exact k0
    | 1, hq => cases hq; exact k1
    | 2, hq => cases hq; exact k2
    | 3, hq => cases hq; exact k3
    | 4, hq => cases hq; exact k4
    | 5, hq => cases hq; exact k5
    | 6, hq => cases hq; exact k6
    | k + 7, hq => simp [vwCl] at hq
  obtain ⟨A0, r0, s0⟩ := arr_K (hts _ a0)
  obtain ⟨A1, r1, s1⟩ := arr_K (hts _ a1)
  obtain ⟨A2, r2, s2⟩ := arr_K (hts _ a2)
  obtain ⟨m3, A3, kA3, f1, f2, f3, f4, f5⟩ := Cond.arrayOver_spec (hts _ a3)
  obtain ⟨m4, A4, kA4, g1, g2, g3, g4, g5⟩ := arrayOverA_spec (hts _ a4)
  obtain ⟨t, ht, hXt, htl⟩ := dg_X hgv
  have eX : (fun j : Nat => iI (xs ((j : Int).toNat)).toInt) = xs := by
    funext j
    rw [iI_back, Int.toNat_natCast]
  refine ⟨(s.heap.size, (fun k => if k = 0 then A0 else if k = 1 then A1 else if k = 2 then A2 else if k = 3 then A3 else A4), b, t, (dC, dI), (L, fun j : Int => (xs j.toNat).toInt)), rfl, rfl, rfl, ⟨hKc, fun k q hq => ?_⟩, ?_, hXt, ?_, fun w hw hi => nest_of hi (hts w hw), va_AO.of (hts _ a3), hts _ a4, hbl, htl, hL⟩
  · match k, hq with
    | 0, hq => cases hq; exact ⟨r0, s0⟩
    | 1, hq => cases hq; exact ⟨r1, s1⟩
    | 2, hq => cases hq; exact ⟨r2, s2⟩
    | 3, hq => cases hq; exact ⟨fun n z => ⟨fun k h => (by cases h), kA3, f3, m3, f4⟩, kA3, m3, f3, f4, f1, f5⟩
    | 4, hq => cases hq; exact ⟨fun n z => ⟨fun k h => (by cases h), kA4, g3, m4, g4⟩, g5⟩
    | k + 5, hq => simp [tyl] at hq
  · show va_X b L (fun j : Nat => iI (xs ((j : Int).toNat)).toInt) s s.heap
    rw [eX]
    exact hX
  · exact va_Zref (hts _ a5) (hts _ a6) ht (fun a h => Nat.not_le.mpr h)
set_option maxRecDepth 100000 in
set_option maxHeartbeats 4000000 in
theorem whole_go (hMu : MultiOK) {p : Program} {e : Env} {s : State} {m : MethodId} {below : List Frame} {meth : Method} {c : Code} (l : Launch) (hflags : l.flags = flags0) {b L : Nat} {xs : Nat → Int32} (hL : L ≤ 3072) (C0 : lw_At p s m meth c b L xs) : W p l e room_1 s m #[Value.ref b] below meth c s.heap [] 0 0 (lw_Z below #[Value.ref b] s) (entryFrame m ([Value.ref b] : List Value).toArray 4) := by
  obtain ⟨hx, hb, hr, hml, hown, hts, hX, hbl, hlocks, hgv⟩ := id C0
  obtain ⟨G, e1, e2, e3, hT⟩ := world_0 hL hts hX hbl hgv
  have hgl : ∀ w ∈ glw, w.before #[Value.ref b] s = true := fun w hw => hts w (List.mem_filter.mp hw).1
  have hl := lv_entry ([.ref b]) (n := 4) (Nat.le_of_ble_eq_true rfl)
  rw [lg_entry_eq]
  generalize (lg_sl ([.ref b]) ++ List.replicate (4 - (lg_sl ([.ref b])).length) Slot.unset).toArray = ls at hl ⊢
  have hl : lv_has ls 4 [(0, .ref b)] := hl
  have hwp : WPm G.2.2.2.2.2 12 (RNd G.2.2.2.2.2 12) 189 600000 7302250 (fun v _ => v = some (vI 1)) 0 [vR 900, vN, vN, vN] [] ([], []) 0 0 := by
    rw [e3]
    exact lx_start (d := 0) (fun j => rg_toInt _) hL (fun _ => rfl)
  have hCX : CX p l e room_1 s m #[Value.ref b] below meth c G 189 12 600000 7302250 := ⟨hx, hb, hml, hown, hgl, hT, fun h => (by cases h), by rw [e1]; exact Nat.le_refl _, Nat.le_of_ble_eq_true rfl, Nat.le_of_ble_eq_true rfl, Nat.le_of_ble_eq_true rfl, Nat.le_of_ble_eq_true rfl, Nat.le_of_ble_eq_true rfl⟩
  have hRet : RetOK p l e room_1 s m #[Value.ref b] below meth c G 189 600000 7302250 (fun v _ => v = some (vI 1)) (lw_Z below #[Value.ref b] s) := by
    refine ⟨fun pc x h H locs ls c' s' hq hW hS hc1 hs1 hd hrt => ?_, fun pc x h H locs ls c' s' hq hW hS hc1 hs1 hd hrt => (by cases hq), fun pc h H locs ls c' s' hq hW hS hc1 hs1 hd hrt => (by cases hq)⟩
    cases hq
    refine va_forget (fun q hq => by have := hS.2.2 q hq; unfold AA at this; rw [e1] at this; exact this) ?_
    refine W.widen (k := 600000) (n := 7302250) hc1 hs1 ?_
    rw [iI_1]
    exact lw_ret hx hb hr hlocks hd
  refine snd_run hMu hCX (call_all hMu l 11 G) hRet hwp ls s.heap [] ?_ ?_ va_S.rf (Nat.zero_le _) (Nat.zero_le _)
  · refine ⟨_, hl, fun i v hi hv => ?_, fun i x hi => ?_, fun i v h hi => ?_, rfl, fun i h => ?_⟩
    · match i, hi with
      | 0, hi =>
        cases hi
        have : cV G (vR 900) = .ref b := by rw [← e2]; rfl
        rw [this]
        exact List.mem_singleton.mpr rfl
      | 1, hi => cases hi; exact absurd rfl hv
      | 2, hi => cases hi; exact absurd rfl hv
      | 3, hi => cases hi; exact absurd rfl hv
      | i + 4, hi => simp at hi
    · match i, hi with
      | 0, hi => cases hi
      | 1, hi => cases hi
      | 2, hi => cases hi
      | 3, hi => cases hi
      | i + 4, hi => simp at hi
    · have : MLq 189 i = false := by
        unfold MLq
        cases Nat.blt i 6 <;> rfl
      rw [this] at h
      cases h
    · have : MLq 189 i = false := by
        unfold MLq
        cases Nat.blt i 6 <;> rfl
      rw [this] at h
      cases h
  · refine ⟨fun k q h => by simp [cW, cWl] at h, ?_, Or.inl rfl, Nat.zero_le _, Nat.zero_le _⟩
    show s.heap.size = G.1 + 0 + 0
    rw [e1]
    rfl
