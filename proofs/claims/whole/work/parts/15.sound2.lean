/-! ===== cells, switches ===== -/
theorem inst_in (ci : Nat) (h : ci < 7) : Cond.instantiable (ON ci) (nF ci) ∈ lw_tbl ∧ Cond.initialized (ON ci) ∈ lw_tbl := by
  rcases (show ci = 0 ∨ ci = 1 ∨ ci = 2 ∨ ci = 3 ∨ ci = 4 ∨ ci = 5 ∨ ci = 6 by omega) with rfl | rfl | rfl | rfl | rfl | rfl | rfl
  · exact ⟨List.mem_of_getElem? (i := 219) (by decide +kernel), List.mem_of_getElem? (i := 92) (by decide +kernel)⟩
  · exact ⟨List.mem_of_getElem? (i := 254) (by decide +kernel), List.mem_of_getElem? (i := 93) (by decide +kernel)⟩
  · exact ⟨List.mem_of_getElem? (i := 278) (by decide +kernel), List.mem_of_getElem? (i := 94) (by decide +kernel)⟩
  · exact ⟨List.mem_of_getElem? (i := 109) (by decide +kernel), List.mem_of_getElem? (i := 90) (by decide +kernel)⟩
  · exact ⟨List.mem_of_getElem? (i := 142) (by decide +kernel), List.mem_of_getElem? (i := 91) (by decide +kernel)⟩
  · exact ⟨List.mem_of_getElem? (i := 101) (by decide +kernel), List.mem_of_getElem? (i := 89) (by decide +kernel)⟩
  · exact ⟨List.mem_of_getElem? (i := 746) (by decide +kernel), List.mem_of_getElem? (i := 97) (by decide +kernel)⟩
theorem upd_Z (g : Int → Int) {z x : Int} (h0 : 0 ≤ z) : upd (fun j => iI (g (j : Int))) z.toNat (iI x) = fun j : Nat => iI (upZ g z x (j : Int)) := by
  funext j
  unfold upd upZ
  by_cases e : j = z.toNat
  · rw [if_pos e, if_pos (by omega)]
  · rw [if_neg e, if_neg (by omega)]
theorem updL_Z (g : Int → Int64) {z : Int} {x : Int64} (h0 : 0 ≤ z) : vp_updL (fun j => g (j : Int)) z.toNat x = fun j : Nat => upZ g z x (j : Int) := by
  funext j
  unfold vp_updL upZ
  by_cases e : j = z.toNat
  · rw [if_pos e, if_pos (by omega)]
  · rw [if_neg e, if_neg (by omega)]
theorem upR_Z (G : GT) (g : Int → Option Nat) {z : Int} {v : Nat} (h0 : 0 ≤ z) : va_up (fun j => (g (j : Int)).map (ad G)) z.toNat (some (ad G v)) = fun j : Nat => (upZ g z (some v) (j : Int)).map (ad G) := by
  funext j
  unfold va_up upZ
  by_cases e : j = z.toNat
  · rw [if_pos e, if_pos (by omega)]
    rfl
  · rw [if_neg e, if_neg (by omega)]
theorem cp_Z (f g : Int → Int) {sp dp n : Int} (h1 : 0 ≤ sp) (h2 : 0 ≤ dp) (h3 : 0 ≤ n) : va_cpy (fun j => iI (f (j : Int))) (fun j => iI (g (j : Int))) sp.toNat dp.toNat n.toNat = fun j : Nat => iI (cpZ f g sp dp n (j : Int)) := by
  funext j
  unfold va_cpy cpZ
  by_cases e : dp.toNat ≤ j ∧ j < dp.toNat + n.toNat
  · rw [if_pos e, if_pos (by omega)]
    show iI (f ((sp.toNat + (j - dp.toNat) : Nat) : Int)) = _
    rw [show ((sp.toNat + (j - dp.toNat) : Nat) : Int) = sp + ((j : Int) - dp) by omega]
  · rw [if_neg e, if_neg (by omega)]
theorem fitK_e {G : GT} {v : AV} {Pp : Prop} : ∀ {ty : FieldType}, fitK v Pp ty → narrow ty (cV G v) = cV G v ∧ fits ty (cV G v) = true ∧ Pp
  | .int, h => by
    obtain ⟨x, rfl, hp⟩ := isI_e h
    exact ⟨rfl, rfl, hp⟩
  | .boolean, h => by
    obtain ⟨x, rfl, hx, hp⟩ := isI_e h
    rcases hx with rfl | rfl
    · exact ⟨by show Value.int (iI 0 &&& 1) = .int (iI 0); rw [iI_0]; rfl, by show (iI 0 == 0 || iI 0 == 1) = true; rw [iI_0]; rfl, hp⟩
    · exact ⟨by show Value.int (iI 1 &&& 1) = .int (iI 1); rw [iI_1]; rfl, by show (iI 1 == 0 || iI 1 == 1) = true; rw [iI_1]; rfl, hp⟩
  | .object _, h => by
    obtain ⟨x, rfl, hp⟩ := isR_e h
    exact ⟨rfl, rfl, hp⟩
  | .array _, h => by
    obtain ⟨x, rfl, hp⟩ := isR_e h
    exact ⟨rfl, rfl, hp⟩
theorem sw_t {pc d : Nat} {x : Int} {f : Nat → Prop} : ∀ (os : List Int) (cs : List (Int × Nat)) (lo : Int), swT pc lo os cs = true → swK x f d cs → (x < lo ∨ lo + (os.length : Int) ≤ x → f d) ∧ ∀ (j : Nat) (o : Int), os[j]? = some o → x = lo + (j : Int) → ∃ t : Nat, (pc : Int) + o = (t : Int) ∧ f t
  | [], [], lo, _, h => ⟨fun _ => h, fun j o hj => by simp at hj⟩
  | o :: os, (v, t) :: cs, lo, hc, h => by
    have hc2 : (decide (v = lo) && jmp pc t o && swT pc (lo + 1) os cs) = true := hc
    rw [Bool.and_eq_true, Bool.and_eq_true] at hc2
    obtain ⟨⟨hc3, hc4⟩, hc5⟩ := hc2
    have e := of_decide_eq_true hc3
    subst e
    have hj := of_decide_eq_true hc4
    obtain ⟨h1, h2⟩ := h
    refine ⟨fun hx => ?_, fun j o' ho hx => ?_⟩
    · have hne : ¬ x = v := by
        rcases hx with hx | hx
        · omega
        · simp only [List.length_cons] at hx
          omega
      refine (sw_t os cs (v + 1) hc5 (h2 hne)).1 ?_
      simp only [List.length_cons] at hx
      omega
    · cases j with
      | zero =>
        have : o = o' := by simpa using ho
        subst this
        exact ⟨t, hj, h1 (by omega)⟩
      | succ j =>
        have hne : ¬ x = v := by omega
        exact (sw_t os cs (v + 1) hc5 (h2 hne)).2 j o' (by simpa using ho) (by omega)
  | [], (v, t) :: cs, lo, hc, _ => by cases hc
  | o :: os, [], lo, hc, _ => by cases hc
theorem sw_l {pc d : Nat} {df : Int} {x : Int} {f : Nat → Prop} (hd : (pc : Int) + df = (d : Int)) : ∀ (os : List (Int × Int)) (cs : List (Int × Nat)), swL pc os cs = true → swK x f d cs → ∃ t : Nat, (pc : Int) + Op.lookupswitch.offset os df x = (t : Int) ∧ f t
  | [], [], _, h => ⟨d, hd, h⟩
  | (v', o) :: os, (v, t) :: cs, hc, h => by
    have hc2 : (decide (v = v') && decide (-2147483648 ≤ v ∧ v ≤ 2147483647) && jmp pc t o && swL pc os cs) = true := hc
    rw [Bool.and_eq_true, Bool.and_eq_true, Bool.and_eq_true] at hc2
    obtain ⟨⟨⟨hc3, -⟩, hc4⟩, hc5⟩ := hc2
    have e := of_decide_eq_true hc3
    subst e
    have hj := of_decide_eq_true hc4
    obtain ⟨h1, h2⟩ := h
    rw [Op.lookupswitch.offset_cons]
    by_cases hx : v = x
    · rw [if_pos hx]
      exact ⟨t, hj, h1 hx.symm⟩
    · rw [if_neg hx]
      exact sw_l hd os cs hc5 (h2 (fun q => hx q.symm))
  | [], (v, t) :: cs, hc, _ => by cases hc
  | (v', o) :: os, [], hc, _ => by cases hc
theorem WH_put {G : GT} {h : AH} {H H1 : Heap} {a : Nat} {c c2 : AC} (hW : WH G h H) (ha : hAt h a c) (hz : H1.size = H.size) (hP : va_P G.2.2.2.2.1 vwCl ((cW G h).set (loc h a) (ad G a, cC G c2)) H1) : WH G (hSet h a c2) H1 := by
  rw [cW_set c2 hW.2 ha] at hP
  exact ⟨hP, hOK_set hW.2 hz⟩
/-- the sizes of two worlds of as many cells agree -/
theorem P_size {G : GT} {h : AH} {H H1 : Heap} {A : Nat → Prop} {H0 : Heap} {locs : List Loc} (hW : hOK G h H) : H.size = G.1 + h.1.length + h.2.length := hW.1
theorem WH_push {G : GT} {h : AH} {H H1 : Heap} {c : AC} {g q : Nat} (hW : WH G h H) (hz : H1.size = H.size + 1) (ho : ∀ q : Nat, q < H.size → H1[q]? = H[q]?) (hc : va_at G.2.2.2.2.1 vwCl (H.size, cC G c) H1)
    {h' : AH} (hn : (g = 0 ∧ h.2 = [] ∧ h.1.length < 200 ∧ q = h.1.length ∧ h' = (h.1 ++ [c], [])) ∨ (g ≠ 0 ∧ (h.2 = [] → h.1.length = nA) ∧ (h.2 = [] ∨ h.2.length < 600) ∧ q = 200 + h.2.length ∧ h' = (h.1, h.2 ++ [c]))) : WH G h' H1 ∧ ad G q = H.size := by
  obtain ⟨hP, h1, h2, h3, h4⟩ := hW
  have hP1 : va_P G.2.2.2.2.1 vwCl (cW G h) H1 := hP.kept (fun k x hx => ho x.1 (hP k x hx).lt)
  have hP2 : va_P G.2.2.2.2.1 vwCl (cW G h ++ [(H.size, cC G c)]) H1 := hP1.app (fun k x hx => by
    have h0 : k < 1 := (List.getElem?_eq_some_iff.mp hx).1
    rw [show k = 0 by omega] at hx
    cases hx
    exact hc)
  rcases hn with ⟨-, g1, g2, rfl, rfl⟩ | ⟨-, g1, g2, rfl, rfl⟩
  · have e1 : H.size = G.1 + h.1.length := by rw [h1, g1]; rfl
    refine ⟨⟨?_, ?_⟩, by rw [ad_A g2, e1]⟩
    · have : cW G (h.1 ++ [c], []) = cW G h ++ [(H.size, cC G c)] := by
        unfold cW
        rw [g1, e1]
        show cWl G G.1 (h.1 ++ [c]) ++ [] = cWl G G.1 h.1 ++ [] ++ _
        rw [List.append_nil, List.append_nil, cWl_app]
      rw [this]
      exact hP2
    · refine ⟨?_, Or.inl rfl, ?_, Nat.zero_le _⟩
      · rw [hz, e1]; simp only [List.length_append, List.length_cons, List.length_nil]; omega
      · simp only [List.length_append, List.length_cons, List.length_nil]; omega
  · have hA : h.1.length = nA := by
      rcases h2 with h2 | h2
      · exact g1 h2
      · exact h2
    have e1 : H.size = G.1 + nA + h.2.length := by rw [h1, hA]
    have hl : h.2.length < 600 := by
      rcases g2 with g2 | g2
      · rw [g2]; exact Nat.le_of_ble_eq_true rfl
      · exact g2
    refine ⟨⟨?_, ?_⟩, by rw [ad_B (by omega) (by omega), e1]; omega⟩
    · have : cW G (h.1, h.2 ++ [c]) = cW G h ++ [(H.size, cC G c)] := by
        unfold cW
        rw [e1]
        show cWl G G.1 h.1 ++ cWl G (G.1 + nA) (h.2 ++ [c]) = _
        rw [cWl_app, List.append_assoc]
      rw [this]
      exact hP2
    · refine ⟨?_, Or.inr hA, h3, ?_⟩
      · rw [hz, e1, ← hA]; simp only [List.length_append, List.length_cons, List.length_nil]; omega
      · simp only [List.length_append, List.length_cons, List.length_nil]; omega
theorem hN_i {c : AC} {f : Nat → AH → Prop} {h : AH} {g : Nat} (q : hN c f h g) : ∃ (k : Nat) (h' : AH), f k h' ∧ ((g = 0 ∧ h.2 = [] ∧ h.1.length < 200 ∧ k = h.1.length ∧ h' = (h.1 ++ [c], [])) ∨ (g ≠ 0 ∧ (h.2 = [] → h.1.length = nA) ∧ (h.2 = [] ∨ h.2.length < 600) ∧ k = 200 + h.2.length ∧ h' = (h.1, h.2 ++ [c]))) := by
  rcases hN_e q with ⟨h1, h2, h3, h4⟩ | ⟨h1, h2, h3, h4⟩
  · exact ⟨_, _, h4, Or.inl ⟨h1, h2, h3, rfl, rfl⟩⟩
  · exact ⟨_, _, h4, Or.inr ⟨h1, h2, h3, rfl, rfl⟩⟩
theorem dfs_at (ci : Nat) : ∀ (n j : Nat), j < n → (dfs ci n)[j]? = some (dflt (tyT ci j))
  | 0, j, h => absurd h (Nat.not_lt_zero j)
  | n + 1, j, h => by
    have hlen : ∀ n : Nat, (dfs ci n).length = n := by
      intro n
      induction n with
      | zero => rfl
      | succ n ih => show (dfs ci n ++ [_]).length = n + 1; rw [List.length_append, ih]; rfl
    show (dfs ci n ++ [dflt (tyT ci n)])[j]? = _
    by_cases e : j < n
    · rw [List.getElem?_append_left (by rw [hlen]; exact e)]
      exact dfs_at ci n j e
    · have : j = n := by omega
      subst this
      rw [List.getElem?_append_right (by rw [hlen]; exact Nat.le_refl _), hlen, Nat.sub_self]
      rfl
def okTy : FieldType → Bool
  | .int => true
  | .boolean => true
  | .object _ => true
  | .array _ => true
  | _ => false
theorem ty_all : (List.range 7).all (fun ci => (List.range (nF ci)).all (fun k => okTy (tyT ci k))) = true := by decide +kernel
theorem dflt_ok (G : GT) : ∀ ty : FieldType, okTy ty = true → cV G (dflt ty) = defaultValue ty
  | .int, _ => congrArg Value.int iI_0
  | .boolean, _ => congrArg Value.int iI_0
  | .object _, _ => rfl
  | .array _, _ => rfl
theorem dfs_ok (G : GT) (ci : Nat) (h : ci < 7) : ∀ j, j < nF ci → defaultValue (tyT ci j) = vp_V ((dfs ci (nF ci)).map (cV G)) j := by
  intro j hj
  have h1 := List.all_eq_true.mp (List.all_eq_true.mp ty_all ci (List.mem_range.mpr h)) j (List.mem_range.mpr hj)
  unfold vp_V
  rw [List.getD_eq_getElem?_getD, List.getElem?_map, dfs_at ci _ j hj]
  exact (dflt_ok G _ h1).symm
theorem va_S.push {A : Nat → Prop} {H0 H H1 : Heap} {locs : List Loc} (hS : va_S A H0 H locs) (hz : H1.size = H.size + 1) (ho : ∀ q : Nat, q < H.size → H1[q]? = H[q]?) : va_S A H0 H1 locs :=
  ⟨Nat.le_trans hS.1 (by omega), fun x h1 h2 => (ho x (Nat.lt_of_lt_of_le h1 hS.1)).trans (hS.2.1 x h1 h2), hS.2.2⟩

/-- what a store into a field of an object of the world leaves: the world with that field changed -/
theorem fld_world {D : va_G} {cl : List vw_C} {A : Nat → Prop} {ws : va_W} {H H' H0 : Heap} {locs : List Loc} {args : Array Value} {s : State} {tys : List (ClassId × FieldType)} {C : String} {T : u_T} {N ci : Nat} {Ts : List Cond} (hts : ∀ w ∈ Ts, w.before args s = true) (hin : ∀ w ∈ u_ws C T N, w ∈ Ts) (ty0 : Nat → FieldType) (hty : ∀ k, k < N → parseFieldDescriptor (T k).2.2.1 = some (ty0 k)) (hnm : ∀ a, a < N → ∀ b, b < N → a ≠ b → (T a).2.1 ≠ (T b).2.1) (hK : va_K D cl tys s) (hP : va_P D cl ws H) (hD : va_D A ws) (hS0 : va_S A H0 H locs) (hc : cl[ci]? = some (C, T, N)) {q0 a k : Nat} {fs : List Value} {v : Value} {cell : Cell} (he : ws[q0]? = some (a, .inr (ci, fs))) (hk : k < N) (hl : k < fs.length) (g1 : cell.cls = D.1 ci) (g2 : cell.vm = .none) (g3 : ∀ j, j < N → cell.slots[D.2 ci j]? = some (vp_V fs j))
    (e1 : H'[a]? = some (cell.setSlot (D.2 ci k) v)) (e2 : H'.size = H.size) (e3 : ∀ q, q ≠ a → H'[q]? = H[q]?) : va_P D cl (ws.set q0 (a, .inr (ci, fs.set k v))) H' ∧ va_S A H0 H' (locs ++ [⟨a, D.2 ci k⟩]) := by
  have far := va_apart (own := C) hts hin ty0 hty hnm hK hc
  refine ⟨hP.set hD he ⟨(C, T, N), hc, ?_⟩ e3, hS0.put e2 e3 (hD.2 q0 _ he)⟩
  exact t_OB.to (V := updV (vp_V fs) k v) ⟨_, e1, g1, g2, t_set g3 far hk v⟩ (fun j _ => vp_updV_set hl v j)
section PUTS
variable {p : Program} {l : Launch} {e : Env} {R : Room} {s : State} {m : MethodId} {args : Array Value} {below : List Frame} {meth : Method} {c : Code} {H : Heap} {locs : List Loc} {cells slots : Nat} {Q : State → Prop}
variable {cc : ByteArray} {pc : Nat} {ls : Array Slot} {rest : List Value} {D : va_G} {cl : List vw_C} {A : Nat → Prop} {a : Nat} {tys : List (ClassId × FieldType)} {ws : va_W} {H0 : Heap}
theorem my_put (hexec : p.tables.exec = Jvm.exec) (hb : c.code = cc) {own ref C : String} {T : u_T} {N ci index : Nat} {Ts : List Cond} (hts : ∀ w ∈ Ts, w.before args s = true) (hin : ∀ w ∈ u_ws C T N, w ∈ Ts) (ty0 : Nat → FieldType) (hty : ∀ k, k < N → parseFieldDescriptor (T k).2.2.1 = some (ty0 k)) (hnm : ∀ a, a < N → ∀ b, b < N → a ≠ b → (T a).2.1 ≠ (T b).2.1) (hown : s.vm.findClass own = some m.cls) (hK : va_K D cl tys s) (hP : va_P D cl ws H) (hD : va_D A ws) (hS0 : va_S A H0 H locs) (q0 : Nat) {fs : List Value} (he : ws[q0]? = some (a, .inr (ci, fs))) (hc : cl[ci]? = some (C, T, N)) (k : Nat) (hk : k < N) (hlink : (Cond.fieldLink own index ref (T k).2.1 (T k).2.2.1).before args s = true) (hsame : ∀ x, s.fieldFound? (T k).1 (T k).2.1 (T k).2.2.1 = some x → s.fieldFound? ref (T k).2.1 (T k).2.2.1 = some x) (hfin : (T k).2.2.2 = false) {ty : FieldType} {v : Value} (hd : parseFieldDescriptor (T k).2.2.1 = some ty) (hn : narrow ty v = v) (hfit : fits ty v = true) (hl : k < fs.length)
    (hdg : decode cc pc = .ok (.putfield index, 3)) (kk : ∀ (H1 : Heap) (locs1 : List Loc), va_P D cl (ws.set q0 (a, .inr (ci, fs.set k v))) H1 → va_D A (ws.set q0 (a, .inr (ci, fs.set k v))) → va_S A H0 H1 locs1 → H1.size = H.size → W p l e R s m args below meth c H1 locs1 cells slots Q (F0 m (pc + 3) ls rest)) : W p l e R s m args below meth c H locs cells slots Q (F0 m pc ls (v :: .ref a :: rest)) := by
  obtain ⟨r, h1, cell, w1, w2, w3, w4⟩ := hP q0 _ he
  have hr : r = (C, T, N) := Option.some.inj (h1.symm.trans hc)
  subst hr
  obtain ⟨hsl0, hfc, kC, hkC, hkind⟩ := hK.1 ci _ hc
  obtain ⟨cf, kf, fi, f, hi, hsl⟩ := hsl0 k hk
  have hlay := hts _ (hin _ (u_in_lay hk))
  unfold u_lay at hlay
  rw [if_neg (by rw [hfin]; decide)] at hlay
  have hst := (u_facts hfc hkC (u_lays hts hin hk) hi).1
  have h6 := u_store hfc hkC hkind hlay hi hd hn hfit
  have fin : ∀ (H' : Heap), H'[a]? = some (cell.setSlot f.slot v) → H'.size = H.size → (∀ q, q ≠ a → H'[q]? = H[q]?) → W p l e R s m args below meth c H' (locs ++ [⟨a, f.slot⟩]) cells slots Q (F0 m (pc + 3) ls rest) := by
    intro H' e1 e2 e3
    rw [hsl] at e1 ⊢
    obtain ⟨b1, b2⟩ := fld_world hts hin ty0 hty hnm hK hP hD hS0 hc he hk hl w2 w3 w4 e1 e2 e3
    exact kk H' _ b1 (hD.set he) b2 e2
  exact W.putK hexec hb (f := f) ⟨hown, hlink, ⟨_, _, _, hsame _ hi⟩, hst⟩ (by rw [w2]; exact h6) w1 w3 (by rw [hsl]; exact k2_hasslot (w4 k hk)) rfl rfl hdg fin
theorem my_putN (hexec : p.tables.exec = Jvm.exec) (hb : c.code = cc) {own ref C host : String} {T : u_T} {N ci index : Nat} {Ts : List Cond} (hts : ∀ w ∈ Ts, w.before args s = true) (hin : ∀ w ∈ u_ws C T N, w ∈ Ts) (ty0 : Nat → FieldType) (hty : ∀ k, k < N → parseFieldDescriptor (T k).2.2.1 = some (ty0 k)) (hnm : ∀ a, a < N → ∀ b, b < N → a ≠ b → (T a).2.1 ≠ (T b).2.1) (hown : s.vm.findClass own = some m.cls) (hK : va_K D cl tys s) (hP : va_P D cl ws H) (hD : va_D A ws) (hS0 : va_S A H0 H locs) (q0 : Nat) {fs : List Value} (he : ws[q0]? = some (a, .inr (ci, fs))) (hc : cl[ci]? = some (C, T, N)) (k : Nat) (hk : k < N) (hlink : (Cond.fieldLinkNest own index ref (T k).2.1 (T k).2.2.1 host).before args s = true) (hsame : ∀ x, s.fieldFound? (T k).1 (T k).2.1 (T k).2.2.1 = some x → s.fieldFound? ref (T k).2.1 (T k).2.2.1 = some x) (hfin : (T k).2.2.2 = false) {ty : FieldType} {v : Value} (hd : parseFieldDescriptor (T k).2.2.1 = some ty) (hn : narrow ty v = v) (hfit : fits ty v = true) (hl : k < fs.length)
    (hdg : decode cc pc = .ok (.putfield index, 3)) (kk : ∀ (H1 : Heap) (locs1 : List Loc), va_P D cl (ws.set q0 (a, .inr (ci, fs.set k v))) H1 → va_D A (ws.set q0 (a, .inr (ci, fs.set k v))) → va_S A H0 H1 locs1 → H1.size = H.size → W p l e R s m args below meth c H1 locs1 cells slots Q (F0 m (pc + 3) ls rest)) : W p l e R s m args below meth c H locs cells slots Q (F0 m pc ls (v :: .ref a :: rest)) := by
  obtain ⟨r, h1, cell, w1, w2, w3, w4⟩ := hP q0 _ he
  have hr : r = (C, T, N) := Option.some.inj (h1.symm.trans hc)
  subst hr
  obtain ⟨hsl0, hfc, kC, hkC, hkind⟩ := hK.1 ci _ hc
  obtain ⟨cf, kf, fi, f, hi, hsl⟩ := hsl0 k hk
  have hlay := hts _ (hin _ (u_in_lay hk))
  unfold u_lay at hlay
  rw [if_neg (by rw [hfin]; decide)] at hlay
  have hst := (u_facts hfc hkC (u_lays hts hin hk) hi).1
  have h6 := u_store hfc hkC hkind hlay hi hd hn hfit
  have fin : ∀ (H' : Heap), H'[a]? = some (cell.setSlot f.slot v) → H'.size = H.size → (∀ q, q ≠ a → H'[q]? = H[q]?) → W p l e R s m args below meth c H' (locs ++ [⟨a, f.slot⟩]) cells slots Q (F0 m (pc + 3) ls rest) := by
    intro H' e1 e2 e3
    rw [hsl] at e1 ⊢
    obtain ⟨b1, b2⟩ := fld_world hts hin ty0 hty hnm hK hP hD hS0 hc he hk hl w2 w3 w4 e1 e2 e3
    exact kk H' _ b1 (hD.set he) b2 e2
  exact va_WputK hexec hb (f := f) hown hlink (hsame _ hi) hst (by rw [w2]; exact h6) w1 w3 (by rw [hsl]; exact k2_hasslot (w4 k hk)) rfl rfl hdg fin
theorem my_putF (hexec : p.tables.exec = Jvm.exec) (hb : c.code = cc) {own ref C : String} {T : u_T} {N ci index : Nat} {Ts : List Cond} (hts : ∀ w ∈ Ts, w.before args s = true) (hin : ∀ w ∈ u_ws C T N, w ∈ Ts) (ty0 : Nat → FieldType) (hty : ∀ k, k < N → parseFieldDescriptor (T k).2.2.1 = some (ty0 k)) (hnm : ∀ a, a < N → ∀ b, b < N → a ≠ b → (T a).2.1 ≠ (T b).2.1) (hown : s.vm.findClass own = some m.cls) (hK : va_K D cl tys s) (hP : va_P D cl ws H) (hD : va_D A ws) (hS0 : va_S A H0 H locs) (q0 : Nat) {fs : List Value} (he : ws[q0]? = some (a, .inr (ci, fs))) (hc : cl[ci]? = some (C, T, N)) (k : Nat) (hk : k < N) (hlink : (Cond.fieldLink own index ref (T k).2.1 (T k).2.2.1).before args s = true) (hsame : ∀ x, s.fieldFound? (T k).1 (T k).2.1 (T k).2.2.1 = some x → s.fieldFound? ref (T k).2.1 (T k).2.2.1 = some x) (hfin : (T k).2.2.2 = true) (hin2 : meth.name = "<init>") (hdecl : (T k).1 = own) {ty : FieldType} {v : Value} (hd : parseFieldDescriptor (T k).2.2.1 = some ty) (hn : narrow ty v = v) (hfit : fits ty v = true) (hl : k < fs.length)
    (hdg : decode cc pc = .ok (.putfield index, 3)) (kk : ∀ (H1 : Heap) (locs1 : List Loc), va_P D cl (ws.set q0 (a, .inr (ci, fs.set k v))) H1 → va_D A (ws.set q0 (a, .inr (ci, fs.set k v))) → va_S A H0 H1 locs1 → H1.size = H.size → W p l e R s m args below meth c H1 locs1 cells slots Q (F0 m (pc + 3) ls rest)) : W p l e R s m args below meth c H locs cells slots Q (F0 m pc ls (v :: .ref a :: rest)) := by
  obtain ⟨r, h1, cell, w1, w2, w3, w4⟩ := hP q0 _ he
  have hr : r = (C, T, N) := Option.some.inj (h1.symm.trans hc)
  subst hr
  obtain ⟨hsl0, hfc, kC, hkC, hkind⟩ := hK.1 ci _ hc
  obtain ⟨cf, kf, fi, f, hi, hsl⟩ := hsl0 k hk
  have hlay := hts _ (hin _ (u_in_lay hk))
  unfold u_lay at hlay
  rw [if_pos hfin] at hlay
  have hst := (u_facts hfc hkC (u_lays hts hin hk) hi).1
  have hcf : m.cls = cf := by
    obtain ⟨_, _, c', _, _, _, -, -, hf', -, -, -, hown2, -⟩ := Cond.laysFinal_spec hlay
    have e1 : c' = cf := by have := hi.symm.trans hf'; simp at this; exact this.1.symm
    rw [hdecl] at hown2
    rw [← e1]; exact Option.some.inj (hown.symm.trans hown2)
  have h6 := u_fits hfc hkC hkind (Or.inr hlay) hi hd hn hfit
  have fin : ∀ (H' : Heap), H'[a]? = some (cell.setSlot f.slot v) → H'.size = H.size → (∀ q, q ≠ a → H'[q]? = H[q]?) → W p l e R s m args below meth c H' (locs ++ [⟨a, f.slot⟩]) cells slots Q (F0 m (pc + 3) ls rest) := by
    intro H' e1 e2 e3
    rw [hsl] at e1 ⊢
    obtain ⟨b1, b2⟩ := fld_world hts hin ty0 hty hnm hK hP hD hS0 hc he hk hl w2 w3 w4 e1 e2 e3
    exact kk H' _ b1 (hD.set he) b2 e2
  exact W.putFinK hexec hb hown hlink (hsame _ hi) hst hcf hin2 (by rw [w2]; exact h6) w1 w3 (by rw [hsl]; exact k2_hasslot (w4 k hk)) rfl rfl hdg fin

end PUTS
section SND2
variable {p : Program} {l : Launch} {e : Env} {R : Room} {s : State} {mid : MethodId} {args : Array Value} {below : List Frame} {meth : Method} {cd : Code} {QQ : State → Prop}
variable {G : GT} {mm dep mc ms : Nat} {Q : Option AV → AH → Prop} {pc : Nat} {al st : List AV} {h : AH} {c' s' : Nat} {k0 : KT} {ln nx x1 x2 : Nat}

theorem s_tableswitch {d lo hi : Int} {os : Array Int} (C : CX p l e R s mid args below meth cd G mm dep mc ms) (hk : ∀ a1 a2 a3 a4 a5 a6, k0 a1 a2 a3 a4 a5 a6 → XX p l e R s mid args below meth cd G mm mc ms QQ a1 a2 a3 a4 a5 a6) (hd : decode (Mb mm) pc = .ok (.tableswitch d lo hi os, ln)) (hX : okX mm pc (.tableswitch d lo hi os) x1 x2 = true) (hs : pI st fun x r => rg x ∧ swK x (fun t => k0 t al r h c' s') x1 (SW x2)) : XX p l e R s mid args below meth cd G mm mc ms QQ pc al st h c' s' := by
  obtain ⟨hx, hb, hml, hown, hts, hT, hin, hsz, hfr, hlo, hmc, hms, hmm⟩ := C
  have hX2 : (jmp pc x1 d && swT pc lo os.toList (SW x2) && decide (hi - lo + 1 = (os.toList.length : Int))) = true := hX
  rw [Bool.and_eq_true, Bool.and_eq_true] at hX2
  obtain ⟨⟨hj, hsw⟩, hlen⟩ := hX2
  have hlen := of_decide_eq_true hlen
  obtain ⟨x, r, rfl, hp1⟩ := pI_e hs
  obtain ⟨hr, hp2⟩ := hp1
  intro ls H locs hl hW hS hc1 hs1
  obtain ⟨q1, q2⟩ := sw_t os.toList (SW x2) lo hsw hp2
  by_cases ho : x < lo ∨ hi < x
  · exact lv_tableOut hx hb hd (by rw [iI_toInt hr]; exact ho) (of_decide_eq_true hj) (hk _ _ _ _ _ _ (q1 (by omega)) ls H locs hl hW hS hc1 hs1)
  · have h1 : ¬ x < lo := fun q => ho (Or.inl q)
    have h2 : ¬ hi < x := fun q => ho (Or.inr q)
    have hlt : (x - lo).toNat < os.toList.length := by omega
    obtain ⟨o, hoj⟩ : ∃ o, os.toList[(x - lo).toNat]? = some o := ⟨_, List.getElem?_eq_getElem hlt⟩
    obtain ⟨t, ht, hp3⟩ := q2 _ o hoj (by omega)
    exact lv_tableIn hx hb hd (by rw [iI_toInt hr]; exact h1) (by rw [iI_toInt hr]; exact h2) (by rw [iI_toInt hr, ← Array.getElem?_toList]; exact hoj) ht (hk _ _ _ _ _ _ hp3 ls H locs hl hW hS hc1 hs1)

theorem s_lookupswitch {d : Int} {ps : Array (Int × Int)} (C : CX p l e R s mid args below meth cd G mm dep mc ms) (hk : ∀ a1 a2 a3 a4 a5 a6, k0 a1 a2 a3 a4 a5 a6 → XX p l e R s mid args below meth cd G mm mc ms QQ a1 a2 a3 a4 a5 a6) (hd : decode (Mb mm) pc = .ok (.lookupswitch d ps, ln)) (hX : okX mm pc (.lookupswitch d ps) x1 x2 = true) (hs : pI st fun x r => rg x ∧ swK x (fun t => k0 t al r h c' s') x1 (SW x2)) : XX p l e R s mid args below meth cd G mm mc ms QQ pc al st h c' s' := by
  obtain ⟨hx, hb, hml, hown, hts, hT, hin, hsz, hfr, hlo, hmc, hms, hmm⟩ := C
  have hX2 : (jmp pc x1 d && swL pc ps.toList (SW x2) && (ps.toList.zip (ps.toList.drop 1)).all (fun (a, next) => a.1 < next.1)) = true := hX
  rw [Bool.and_eq_true, Bool.and_eq_true] at hX2
  obtain ⟨⟨hj, hsw⟩, hso⟩ := hX2
  obtain ⟨x, r, rfl, hp1⟩ := pI_e hs
  obtain ⟨hr, hp2⟩ := hp1
  intro ls H locs hl hW hS hc1 hs1
  obtain ⟨t, ht, hp3⟩ := sw_l (of_decide_eq_true hj) ps.toList (SW x2) hsw hp2
  exact lv_lookup hx hb hd hso (by rw [iI_toInt hr]) ht (hk _ _ _ _ _ _ hp3 ls H locs hl hW hS hc1 hs1)

theorem s_getfield {n : Nat} (C : CX p l e R s mid args below meth cd G mm dep mc ms) (hk : ∀ a1 a2 a3 a4 a5 a6, k0 a1 a2 a3 a4 a5 a6 → XX p l e R s mid args below meth cd G mm mc ms QQ a1 a2 a3 a4 a5 a6) (hd : decode (Mb mm) pc = .ok (.getfield n, ln)) (hln : lenOK (.getfield n) ln = true) (hX : okX mm pc (.getfield n) x1 x2 = true) (hs : pR st fun a r => hG (isO x1 fun fs => gtK (fun v => k0 (pc + ln) al (v :: r) h c' s') fs x2) h a) : XX p l e R s mid args below meth cd G mm mc ms QQ pc al st h c' s' := by
  obtain ⟨hx, hb, hml, hown, hts, hT, hin, hsz, hfr, hlo, hmc, hms, hmm⟩ := C
  obtain rfl := Nat.eq_of_beq_eq_true hln
  have hX2 : ((in5 FT (Mo mm) n x1 x2 || in5 FTN (Mo mm) n x1 x2) && Nat.blt x1 7 && Nat.blt x2 (nF x1)) = true := hX
  rw [Bool.and_eq_true, Bool.and_eq_true, Bool.or_eq_true] at hX2
  obtain ⟨⟨hX3, hx7⟩, hxn⟩ := hX2
  obtain ⟨a, r, rfl, hp1⟩ := pR_e hs
  obtain ⟨cl, hat, hp2⟩ := hG_e hp1
  obtain ⟨fs, rfl, hp3⟩ := isO_e hp2
  obtain ⟨v, hv, hp4⟩ := gtK_e hp3
  intro ls H locs hl hW hS hc1 hs1
  have hat2 := cW_at hW.2 hat
  have hx7 := blt_t hx7
  have hv2 : (fs.map (cV G))[x2]? = some (cV G v) := by rw [List.getElem?_map, hv]; rfl
  rcases hX3 with hX3 | hX3
  · exact va_get (D := G.2.2.2.2.1) (ref := ON x1) hx hb hts (u_in x1 hx7) hown hT.1 hW.1 (loc h a) hat2 (cl_at x1 hx7) x2 (blt_t hxn) (hts _ (in_glw (FT_in hX3) rfl)) (fun z hz => by rw [u_own x1 hx7] at hz; exact hz) hv2 hd (hk _ _ _ _ _ _ hp4 ls H locs hl hW hS hc1 hs1)
  · exact va_getN (D := G.2.2.2.2.1) (ref := ON x1) hx hb hts (u_in x1 hx7) hown hT.1 hW.1 (loc h a) hat2 (cl_at x1 hx7) x2 (blt_t hxn) (va_Nw.use rfl (hT.2.2.2.2.1 _ (FTN_in hX3) rfl)) (fun z hz => by rw [u_own x1 hx7] at hz; exact hz) hv2 hd (hk _ _ _ _ _ _ hp4 ls H locs hl hW hS hc1 hs1)

theorem s_putfield {n : Nat} (C : CX p l e R s mid args below meth cd G mm dep mc ms) (hk : ∀ a1 a2 a3 a4 a5 a6, k0 a1 a2 a3 a4 a5 a6 → XX p l e R s mid args below meth cd G mm mc ms QQ a1 a2 a3 a4 a5 a6) (hd : decode (Mb mm) pc = .ok (.putfield n, ln)) (hln : lenOK (.putfield n) ln = true) (hX : okX mm pc (.putfield n) x1 x2 = true) (hs : pV st fun v r => pR r fun a r => hG (isO x1 fun fs => fitK v (stK v fs x2 fun fs' => hS (cO x1 fs') (fun h' => k0 (pc + ln) al r h' c' s') h a) (tyT x1 x2)) h a) : XX p l e R s mid args below meth cd G mm mc ms QQ pc al st h c' s' := by
  obtain ⟨hx, hb, hml, hown, hts, hT, hin, hsz, hfr, hlo, hmc, hms, hmm⟩ := C
  obtain rfl := Nat.eq_of_beq_eq_true hln
  have hX2 : ((((in5 FT (Mo mm) n x1 x2 || in5 FTN (Mo mm) n x1 x2) && !(TT x1 x2).2.2.2) || (in5 FT (Mo mm) n x1 x2 && (TT x1 x2).2.2.2 && Mini mm && Nat.beq (Mo mm) x1)) && Nat.blt x1 7 && Nat.blt x2 (nF x1)) = true := hX
  rw [Bool.and_eq_true, Bool.and_eq_true] at hX2
  obtain ⟨⟨hX3, hx7⟩, hxn⟩ := hX2
  simp only [Bool.and_eq_true, Bool.or_eq_true, Bool.not_eq_true'] at hX3
  obtain ⟨v, r, rfl, hp1⟩ := pV_e hs
  obtain ⟨a, r, rfl, hp1⟩ := pR_e hp1
  obtain ⟨cl, hat, hp2⟩ := hG_e hp1
  obtain ⟨fs, rfl, hp3⟩ := isO_e hp2
  obtain ⟨hn, hf, hp4⟩ := fitK_e (G := G) hp3
  obtain ⟨hlt, hp5⟩ := stK_e hp4
  have hp5 := hS_e hp5
  intro ls H locs hl hW hS hc1 hs1
  have hat2 := cW_at hW.2 hat
  have hx7 := blt_t hx7
  have hxn := blt_t hxn
  have hlt2 : x2 < (fs.map (cV G)).length := by rw [List.length_map]; exact hlt
  have kk : ∀ (H1 : Heap) (locs1 : List Loc), va_P G.2.2.2.2.1 vwCl ((cW G h).set (loc h a) (ad G a, .inr (x1, (fs.map (cV G)).set x2 (cV G v)))) H1 → va_D (AA G) ((cW G h).set (loc h a) (ad G a, .inr (x1, (fs.map (cV G)).set x2 (cV G v)))) → va_S (AA G) s.heap H1 locs1 → H1.size = H.size → W p l e R s mid args below meth cd H1 locs1 c' s' QQ (F0 mid (pc + 3) ls (r.map (cV G))) := fun H1 locs1 hP1 _ hS1 hz => hk _ _ _ _ _ _ hp5 ls H1 locs1 hl (WH_put hW hat hz (by rw [← List.map_set] at hP1; exact hP1)) hS1 hc1 hs1
  rcases hX3 with ⟨hX3 | hX3, hfin⟩ | ⟨⟨⟨hX3, hfin⟩, hini⟩, hmo⟩
  · exact my_put hx hb hts (u_in x1 hx7) (tyT x1) (u_ty x1 hx7) (u_nm x1 hx7) hown hT.1 hW.1 (cW_D hW.2) hS (loc h a) hat2 (cl_at x1 hx7) x2 hxn (hts _ (in_glw (FT_in hX3) rfl)) (fun z hz => by rw [u_own x1 hx7] at hz; exact hz) hfin (u_ty x1 hx7 x2 hxn) hn hf hlt2 hd kk
  · exact my_putN hx hb hts (u_in x1 hx7) (tyT x1) (u_ty x1 hx7) (u_nm x1 hx7) hown hT.1 hW.1 (cW_D hW.2) hS (loc h a) hat2 (cl_at x1 hx7) x2 hxn (va_Nw.use rfl (hT.2.2.2.2.1 _ (FTN_in hX3) rfl)) (fun z hz => by rw [u_own x1 hx7] at hz; exact hz) hfin (u_ty x1 hx7 x2 hxn) hn hf hlt2 hd kk
  · exact my_putF hx hb hts (u_in x1 hx7) (tyT x1) (u_ty x1 hx7) (u_nm x1 hx7) hown hT.1 hW.1 (cW_D hW.2) hS (loc h a) hat2 (cl_at x1 hx7) x2 hxn (hts _ (in_glw (FT_in hX3) rfl)) (fun z hz => by rw [u_own x1 hx7] at hz; exact hz) hfin (hin hini) (by rw [u_own x1 hx7, Nat.eq_of_beq_eq_true hmo]) (u_ty x1 hx7 x2 hxn) hn hf hlt2 hd kk

end SND2
