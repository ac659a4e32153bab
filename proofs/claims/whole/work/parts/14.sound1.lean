/-! ===== each instruction of the abstract machine is what the machine does ===== -/
def LsOK (G : GT) (LL : Nat → Bool) (ls : Array Slot) (nL : Nat) (al : List AV) : Prop :=
  ∃ lv, lv_has ls nL lv ∧ (∀ (i : Nat) (v : AV), al[i]? = some v → v ≠ vN → (i, cV G v) ∈ lv) ∧ (∀ (i : Nat) (x : Int64), al[i]? = some (vL x) → LL i = true) ∧ (∀ (i : Nat) (v : AV), LL i = true → al[i + 1]? = some v → v = vN) ∧ al.length = nL ∧ ∀ i : Nat, LL i = true → i + 1 < nL
def CX (p : Program) (l : Launch) (e : Env) (R : Room) (s : State) (mid : MethodId) (args : Array Value) (below : List Frame) (meth : Method) (cd : Code) (G : GT) (mm dep mc ms : Nat) : Prop :=
  p.tables.exec = Jvm.exec ∧ cd.code = Mb mm ∧ cd.maxLocals = ML mm ∧ s.vm.findClass (ON (Mo mm)) = some mid.cls ∧ (∀ w ∈ glw, w.before args s = true) ∧ WT G s ∧ (Mini mm = true → meth.name = "<init>") ∧ G.1 ≤ s.heap.size ∧ dep ≤ R.frames ∧ 41 * dep ≤ R.locals ∧ mc ≤ R.cells ∧ ms ≤ R.slots ∧ mm < 190
def XX (p : Program) (l : Launch) (e : Env) (R : Room) (s : State) (mid : MethodId) (args : Array Value) (below : List Frame) (meth : Method) (cd : Code) (G : GT) (mm mc ms : Nat) (QQ : State → Prop) : KT := fun pc al st h c' s' =>
  ∀ (ls : Array Slot) (H : Heap) (locs : List Loc), LsOK G (MLq mm) ls (ML mm) al → WH G h H → va_S (AA G) s.heap H locs → c' ≤ mc → s' ≤ ms → W p l e R s mid args below meth cd H locs c' s' QQ (F0 mid pc ls (st.map (cV G)))
theorem LsOK.at {G : GT} {LL : Nat → Bool} {ls : Array Slot} {nL : Nat} {al : List AV} (h : LsOK G LL ls nL al) {i : Nat} {v : AV} (hi : al[i]? = some v) (hv : v ≠ vN) : ls[i]? = some (.val (cV G v)) := by
  obtain ⟨lv, h1, h2, -⟩ := h
  exact h1.2.2 _ (h2 i v hi hv)
theorem LsOK.size {G : GT} {LL : Nat → Bool} {ls : Array Slot} {nL : Nat} {al : List AV} (h : LsOK G LL ls nL al) : ls.size = nL := by
  obtain ⟨lv, h1, -⟩ := h
  exact h1.1
theorem LsOK.st1 {G : GT} {LL : Nat → Bool} {ls' : Array Slot} {nL : Nat} {al : List AV} {lv : List (Nat × Value)} {i : Nat} {v : AV} (ho : okS LL i = true) (h1 : one v = true) (hi : i < al.length) (h2 : ∀ (i : Nat) (v : AV), al[i]? = some v → v ≠ vN → (i, cV G v) ∈ lv) (h3 : ∀ (i : Nat) (x : Int64), al[i]? = some (vL x) → LL i = true) (h4 : ∀ (i : Nat) (v : AV), LL i = true → al[i + 1]? = some v → v = vN) (h5 : al.length = nL) (h6 : ∀ i : Nat, LL i = true → i + 1 < nL)
    (hl : lv_has ls' nL ((i, cV G v) :: lv.filter (fun q => !(q.1 == i) && !(q.1 + 1 == i && q.2.category == 2)))) : LsOK G LL ls' nL (al.set i v) := by
  have hno : ∀ j : Nat, j + 1 = i → LL j = false := by
    intro j hj
    subst hj
    cases hb : LL j with
    | false => rfl
    | true =>
      have : (!(LL j)) = true := ho
      rw [hb] at this
      cases this
  refine ⟨_, hl, fun j w hj hw => ?_, fun j x hj => ?_, fun j w hL hj => ?_, by rw [List.length_set]; exact h5, h6⟩
  · by_cases e : j = i
    · subst e
      rw [List.getElem?_set_self hi] at hj
      cases hj
      exact List.mem_cons_self
    · rw [List.getElem?_set_ne (fun q => e q.symm)] at hj
      refine List.mem_cons_of_mem _ (List.mem_filter.mpr ⟨h2 j w hj hw, ?_⟩)
      have e1 : (j == i) = false := by simpa using e
      by_cases e2 : j + 1 = i
      · have hc : (cV G w).category = 1 := by
          match w, hj with
          | .inl _, _ => rfl
          | .inr (.inl x), hj => exact absurd (h3 j x hj) (by rw [hno j e2]; decide)
          | .inr (.inr (some _)), _ => rfl
          | .inr (.inr none), _ => rfl
        simp [e1, hc]
      · have e3 : (j + 1 == i) = false := by simpa using e2
        simp [e1, e3]
  · by_cases e : j = i
    · subst e
      rw [List.getElem?_set_self hi] at hj
      cases hj
      cases h1
    · rw [List.getElem?_set_ne (fun q => e q.symm)] at hj
      exact h3 j x hj
  · by_cases e : j + 1 = i
    · rw [hno j e] at hL
      cases hL
    · rw [List.getElem?_set_ne (fun q => e q.symm)] at hj
      exact h4 j w hL hj
theorem LsOK.st2 {G : GT} {LL : Nat → Bool} {ls' : Array Slot} {nL : Nat} {al : List AV} {lv : List (Nat × Value)} {i : Nat} {x : Int64} (ho : okS LL i = true) (hLi : LL i = true) (hi : i < al.length) (h2 : ∀ (i : Nat) (v : AV), al[i]? = some v → v ≠ vN → (i, cV G v) ∈ lv) (h3 : ∀ (i : Nat) (x : Int64), al[i]? = some (vL x) → LL i = true) (h4 : ∀ (i : Nat) (v : AV), LL i = true → al[i + 1]? = some v → v = vN) (h5 : al.length = nL) (h6 : ∀ i : Nat, LL i = true → i + 1 < nL)
    (hl : lv_has ls' nL ((i, .long x) :: lv.filter (fun q => !(q.1 == i) && (!(q.1 == i + 1) && !(q.1 + 1 == i && q.2.category == 2))))) : LsOK G LL ls' nL (al.set i (vL x)) := by
  have hno : ∀ j : Nat, j + 1 = i → LL j = false := by
    intro j hj
    subst hj
    cases hb : LL j with
    | false => rfl
    | true =>
      have : (!(LL j)) = true := ho
      rw [hb] at this
      cases this
  refine ⟨_, hl, fun j w hj hw => ?_, fun j y hj => ?_, fun j w hL hj => ?_, by rw [List.length_set]; exact h5, h6⟩
  · by_cases e : j = i
    · subst e
      rw [List.getElem?_set_self hi] at hj
      cases hj
      exact List.mem_cons_self
    · rw [List.getElem?_set_ne (fun q => e q.symm)] at hj
      refine List.mem_cons_of_mem _ (List.mem_filter.mpr ⟨h2 j w hj hw, ?_⟩)
      have e1 : (j == i) = false := by simpa using e
      have e4 : (j == i + 1) = false := by
        have : ¬ j = i + 1 := fun q => by
          subst q
          exact hw (h4 i w hLi hj)
        simpa using this
      by_cases e2 : j + 1 = i
      · have hc : (cV G w).category = 1 := by
          match w, hj with
          | .inl _, _ => rfl
          | .inr (.inl x), hj => exact absurd (h3 j x hj) (by rw [hno j e2]; decide)
          | .inr (.inr (some _)), _ => rfl
          | .inr (.inr none), _ => rfl
        simp [e1, e4, hc]
      · have e3 : (j + 1 == i) = false := by simpa using e2
        simp [e1, e3, e4]
  · by_cases e : j = i
    · subst e
      exact hLi
    · rw [List.getElem?_set_ne (fun q => e q.symm)] at hj
      exact h3 j y hj
  · by_cases e : j + 1 = i
    · rw [hno j e] at hL
      cases hL
    · rw [List.getElem?_set_ne (fun q => e q.symm)] at hj
      exact h4 j w hL hj
theorem cats_ok (G : GT) : ∀ r : List AV, ((r.map (cV G)).map fun v => v.category).sum = cats r
  | [] => rfl
  | .inr (.inl x) :: r => by
    show 2 + ((r.map (cV G)).map fun v => v.category).sum = cats r + 2
    rw [cats_ok G r]; omega
  | .inl x :: r => by
    show 1 + ((r.map (cV G)).map fun v => v.category).sum = cats r + 1
    rw [cats_ok G r]; omega
  | .inr (.inr (some x)) :: r => by
    show 1 + ((r.map (cV G)).map fun v => v.category).sum = cats r + 1
    rw [cats_ok G r]; omega
  | .inr (.inr none) :: r => by
    show 1 + ((r.map (cV G)).map fun v => v.category).sum = cats r + 1
    rw [cats_ok G r]; omega
theorem one_cat {G : GT} {v : AV} (h : one v = true) : (cV G v).category = 1 := by
  match v, h with
  | .inl _, _ => rfl
  | .inr (.inr (some _)), _ => rfl
  | .inr (.inr none), _ => rfl
section SND
variable {p : Program} {l : Launch} {e : Env} {R : Room} {s : State} {mid : MethodId} {args : Array Value} {below : List Frame} {meth : Method} {cd : Code} {QQ : State → Prop}
variable {G : GT} {mm dep mc ms : Nat} {Q : Option AV → AH → Prop} {pc : Nat} {al st : List AV} {h : AH} {c' s' : Nat} {k0 : KT} {ln nx x1 x2 : Nat}

theorem s_aload_n {n : Fin 4} (C : CX p l e R s mid args below meth cd G mm dep mc ms) (hk : ∀ a1 a2 a3 a4 a5 a6, k0 a1 a2 a3 a4 a5 a6 → XX p l e R s mid args below meth cd G mm mc ms QQ a1 a2 a3 a4 a5 a6) (hd : decode (Mb mm) pc = .ok (.aload_n n, ln)) (hln : lenOK (.aload_n n) ln = true) (hX : okX mm pc (.aload_n n) x1 x2 = true) (hs : gtK (fun v => isR v fun a => k0 (pc + ln) al (vR a :: st) h c' s') al x1) : XX p l e R s mid args below meth cd G mm mc ms QQ pc al st h c' s' := by
  obtain ⟨hx, hb, hml, hown, hts, hT, hin, hsz, hfr, hlo, hmc, hms, hmm⟩ := C
  obtain rfl := Nat.eq_of_beq_eq_true hln
  obtain ⟨v, h1, h2⟩ := gtK_e hs
  obtain ⟨x, rfl, h2⟩ := isR_e h2
  intro ls H locs hl hW hS hc1 hs1
  have hxx := Nat.eq_of_beq_eq_true hX
  exact lv_aload_n hx hb hd hxx.symm (hl.at h1 (fun z => by cases z)) (hk _ _ _ _ _ _ h2 ls H locs hl hW hS hc1 hs1)

theorem s_aload {n : Nat} (C : CX p l e R s mid args below meth cd G mm dep mc ms) (hk : ∀ a1 a2 a3 a4 a5 a6, k0 a1 a2 a3 a4 a5 a6 → XX p l e R s mid args below meth cd G mm mc ms QQ a1 a2 a3 a4 a5 a6) (hd : decode (Mb mm) pc = .ok (.aload n, ln)) (hln : lenOK (.aload n) ln = true) (hX : okX mm pc (.aload n) x1 x2 = true) (hs : gtK (fun v => isR v fun a => k0 (pc + ln) al (vR a :: st) h c' s') al x1) : XX p l e R s mid args below meth cd G mm mc ms QQ pc al st h c' s' := by
  obtain ⟨hx, hb, hml, hown, hts, hT, hin, hsz, hfr, hlo, hmc, hms, hmm⟩ := C
  obtain rfl := Nat.eq_of_beq_eq_true hln
  obtain ⟨v, h1, h2⟩ := gtK_e hs
  obtain ⟨x, rfl, h2⟩ := isR_e h2
  intro ls H locs hl hW hS hc1 hs1
  have hxx := Nat.eq_of_beq_eq_true hX
  subst hxx
  exact lv_aload hx hb hd (hl.at h1 (fun z => by cases z)) (hk _ _ _ _ _ _ h2 ls H locs hl hW hS hc1 hs1)

theorem s_iload_n {n : Fin 4} (C : CX p l e R s mid args below meth cd G mm dep mc ms) (hk : ∀ a1 a2 a3 a4 a5 a6, k0 a1 a2 a3 a4 a5 a6 → XX p l e R s mid args below meth cd G mm mc ms QQ a1 a2 a3 a4 a5 a6) (hd : decode (Mb mm) pc = .ok (.iload_n n, ln)) (hln : lenOK (.iload_n n) ln = true) (hX : okX mm pc (.iload_n n) x1 x2 = true) (hs : gtK (fun v => isI v fun a => k0 (pc + ln) al (vI a :: st) h c' s') al x1) : XX p l e R s mid args below meth cd G mm mc ms QQ pc al st h c' s' := by
  obtain ⟨hx, hb, hml, hown, hts, hT, hin, hsz, hfr, hlo, hmc, hms, hmm⟩ := C
  obtain rfl := Nat.eq_of_beq_eq_true hln
  obtain ⟨v, h1, h2⟩ := gtK_e hs
  obtain ⟨x, rfl, h2⟩ := isI_e h2
  intro ls H locs hl hW hS hc1 hs1
  have hxx := Nat.eq_of_beq_eq_true hX
  exact lv_iload_n hx hb hd hxx.symm (hl.at h1 (fun z => by cases z)) (hk _ _ _ _ _ _ h2 ls H locs hl hW hS hc1 hs1)

theorem s_iload {n : Nat} (C : CX p l e R s mid args below meth cd G mm dep mc ms) (hk : ∀ a1 a2 a3 a4 a5 a6, k0 a1 a2 a3 a4 a5 a6 → XX p l e R s mid args below meth cd G mm mc ms QQ a1 a2 a3 a4 a5 a6) (hd : decode (Mb mm) pc = .ok (.iload n, ln)) (hln : lenOK (.iload n) ln = true) (hX : okX mm pc (.iload n) x1 x2 = true) (hs : gtK (fun v => isI v fun a => k0 (pc + ln) al (vI a :: st) h c' s') al x1) : XX p l e R s mid args below meth cd G mm mc ms QQ pc al st h c' s' := by
  obtain ⟨hx, hb, hml, hown, hts, hT, hin, hsz, hfr, hlo, hmc, hms, hmm⟩ := C
  obtain rfl := Nat.eq_of_beq_eq_true hln
  obtain ⟨v, h1, h2⟩ := gtK_e hs
  obtain ⟨x, rfl, h2⟩ := isI_e h2
  intro ls H locs hl hW hS hc1 hs1
  have hxx := Nat.eq_of_beq_eq_true hX
  subst hxx
  exact lv_iload hx hb hd (hl.at h1 (fun z => by cases z)) (hk _ _ _ _ _ _ h2 ls H locs hl hW hS hc1 hs1)

theorem s_lload_n {n : Fin 4} (C : CX p l e R s mid args below meth cd G mm dep mc ms) (hk : ∀ a1 a2 a3 a4 a5 a6, k0 a1 a2 a3 a4 a5 a6 → XX p l e R s mid args below meth cd G mm mc ms QQ a1 a2 a3 a4 a5 a6) (hd : decode (Mb mm) pc = .ok (.lload_n n, ln)) (hln : lenOK (.lload_n n) ln = true) (hX : okX mm pc (.lload_n n) x1 x2 = true) (hs : gtK (fun v => isL v fun a => k0 (pc + ln) al (vL a :: st) h c' s') al x1) : XX p l e R s mid args below meth cd G mm mc ms QQ pc al st h c' s' := by
  obtain ⟨hx, hb, hml, hown, hts, hT, hin, hsz, hfr, hlo, hmc, hms, hmm⟩ := C
  obtain rfl := Nat.eq_of_beq_eq_true hln
  obtain ⟨v, h1, h2⟩ := gtK_e hs
  obtain ⟨x, rfl, h2⟩ := isL_e h2
  intro ls H locs hl hW hS hc1 hs1
  have hxx := Nat.eq_of_beq_eq_true hX
  exact lv_lload_n hx hb hd hxx.symm (hl.at h1 (fun z => by cases z)) (hk _ _ _ _ _ _ h2 ls H locs hl hW hS hc1 hs1)

theorem s_lload {n : Nat} (C : CX p l e R s mid args below meth cd G mm dep mc ms) (hk : ∀ a1 a2 a3 a4 a5 a6, k0 a1 a2 a3 a4 a5 a6 → XX p l e R s mid args below meth cd G mm mc ms QQ a1 a2 a3 a4 a5 a6) (hd : decode (Mb mm) pc = .ok (.lload n, ln)) (hln : lenOK (.lload n) ln = true) (hX : okX mm pc (.lload n) x1 x2 = true) (hs : gtK (fun v => isL v fun a => k0 (pc + ln) al (vL a :: st) h c' s') al x1) : XX p l e R s mid args below meth cd G mm mc ms QQ pc al st h c' s' := by
  obtain ⟨hx, hb, hml, hown, hts, hT, hin, hsz, hfr, hlo, hmc, hms, hmm⟩ := C
  obtain rfl := Nat.eq_of_beq_eq_true hln
  obtain ⟨v, h1, h2⟩ := gtK_e hs
  obtain ⟨x, rfl, h2⟩ := isL_e h2
  intro ls H locs hl hW hS hc1 hs1
  have hxx := Nat.eq_of_beq_eq_true hX
  subst hxx
  exact lv_lload hx hb hd (hl.at h1 (fun z => by cases z)) (hk _ _ _ _ _ _ h2 ls H locs hl hW hS hc1 hs1)

theorem s_astore_n {n : Fin 4} (C : CX p l e R s mid args below meth cd G mm dep mc ms) (hk : ∀ a1 a2 a3 a4 a5 a6, k0 a1 a2 a3 a4 a5 a6 → XX p l e R s mid args below meth cd G mm mc ms QQ a1 a2 a3 a4 a5 a6) (hd : decode (Mb mm) pc = .ok (.astore_n n, ln)) (hln : lenOK (.astore_n n) ln = true) (hX : okX mm pc (.astore_n n) x1 x2 = true) (hs : pR st fun a r => cond (okS (MLq mm) x1) (stK (vR a) al x1 fun al => k0 (pc + ln) al r h c' s') False) : XX p l e R s mid args below meth cd G mm mc ms QQ pc al st h c' s' := by
  obtain ⟨hx, hb, hml, hown, hts, hT, hin, hsz, hfr, hlo, hmc, hms, hmm⟩ := C
  obtain rfl := Nat.eq_of_beq_eq_true hln
  obtain ⟨x, r, rfl, hp1⟩ := pR_e hs
  obtain ⟨h1, hs⟩ := cond_t hp1
  obtain ⟨hlt, hs⟩ := stK_e hs
  intro ls H locs hl hW hS hc1 hs1
  obtain ⟨lv, g1, g2, g3, g4, g5, g6⟩ := hl
  have hxx := Nat.eq_of_beq_eq_true hX
  exact lv_astore_n hx hb hd hxx.symm g1 (by rw [← g5]; exact hlt) rfl (fun ls2 hl2 => hk _ _ _ _ _ _ hs ls2 H locs (LsOK.st1 h1 rfl hlt g2 g3 g4 g5 g6 hl2) hW hS hc1 hs1)

theorem s_astore {n : Nat} (C : CX p l e R s mid args below meth cd G mm dep mc ms) (hk : ∀ a1 a2 a3 a4 a5 a6, k0 a1 a2 a3 a4 a5 a6 → XX p l e R s mid args below meth cd G mm mc ms QQ a1 a2 a3 a4 a5 a6) (hd : decode (Mb mm) pc = .ok (.astore n, ln)) (hln : lenOK (.astore n) ln = true) (hX : okX mm pc (.astore n) x1 x2 = true) (hs : pR st fun a r => cond (okS (MLq mm) x1) (stK (vR a) al x1 fun al => k0 (pc + ln) al r h c' s') False) : XX p l e R s mid args below meth cd G mm mc ms QQ pc al st h c' s' := by
  obtain ⟨hx, hb, hml, hown, hts, hT, hin, hsz, hfr, hlo, hmc, hms, hmm⟩ := C
  obtain rfl := Nat.eq_of_beq_eq_true hln
  obtain ⟨x, r, rfl, hp1⟩ := pR_e hs
  obtain ⟨h1, hs⟩ := cond_t hp1
  obtain ⟨hlt, hs⟩ := stK_e hs
  intro ls H locs hl hW hS hc1 hs1
  obtain ⟨lv, g1, g2, g3, g4, g5, g6⟩ := hl
  have hxx := Nat.eq_of_beq_eq_true hX
  subst hxx
  exact lv_astore hx hb hd g1 (by rw [← g5]; exact hlt) rfl (fun ls2 hl2 => hk _ _ _ _ _ _ hs ls2 H locs (LsOK.st1 h1 rfl hlt g2 g3 g4 g5 g6 hl2) hW hS hc1 hs1)

theorem s_istore_n {n : Fin 4} (C : CX p l e R s mid args below meth cd G mm dep mc ms) (hk : ∀ a1 a2 a3 a4 a5 a6, k0 a1 a2 a3 a4 a5 a6 → XX p l e R s mid args below meth cd G mm mc ms QQ a1 a2 a3 a4 a5 a6) (hd : decode (Mb mm) pc = .ok (.istore_n n, ln)) (hln : lenOK (.istore_n n) ln = true) (hX : okX mm pc (.istore_n n) x1 x2 = true) (hs : pI st fun a r => cond (okS (MLq mm) x1) (stK (vI a) al x1 fun al => k0 (pc + ln) al r h c' s') False) : XX p l e R s mid args below meth cd G mm mc ms QQ pc al st h c' s' := by
  obtain ⟨hx, hb, hml, hown, hts, hT, hin, hsz, hfr, hlo, hmc, hms, hmm⟩ := C
  obtain rfl := Nat.eq_of_beq_eq_true hln
  obtain ⟨x, r, rfl, hp1⟩ := pI_e hs
  obtain ⟨h1, hs⟩ := cond_t hp1
  obtain ⟨hlt, hs⟩ := stK_e hs
  intro ls H locs hl hW hS hc1 hs1
  obtain ⟨lv, g1, g2, g3, g4, g5, g6⟩ := hl
  have hxx := Nat.eq_of_beq_eq_true hX
  exact lv_istore_n hx hb hd hxx.symm g1 (by rw [← g5]; exact hlt) rfl (fun ls2 hl2 => hk _ _ _ _ _ _ hs ls2 H locs (LsOK.st1 h1 rfl hlt g2 g3 g4 g5 g6 hl2) hW hS hc1 hs1)

theorem s_istore {n : Nat} (C : CX p l e R s mid args below meth cd G mm dep mc ms) (hk : ∀ a1 a2 a3 a4 a5 a6, k0 a1 a2 a3 a4 a5 a6 → XX p l e R s mid args below meth cd G mm mc ms QQ a1 a2 a3 a4 a5 a6) (hd : decode (Mb mm) pc = .ok (.istore n, ln)) (hln : lenOK (.istore n) ln = true) (hX : okX mm pc (.istore n) x1 x2 = true) (hs : pI st fun a r => cond (okS (MLq mm) x1) (stK (vI a) al x1 fun al => k0 (pc + ln) al r h c' s') False) : XX p l e R s mid args below meth cd G mm mc ms QQ pc al st h c' s' := by
  obtain ⟨hx, hb, hml, hown, hts, hT, hin, hsz, hfr, hlo, hmc, hms, hmm⟩ := C
  obtain rfl := Nat.eq_of_beq_eq_true hln
  obtain ⟨x, r, rfl, hp1⟩ := pI_e hs
  obtain ⟨h1, hs⟩ := cond_t hp1
  obtain ⟨hlt, hs⟩ := stK_e hs
  intro ls H locs hl hW hS hc1 hs1
  obtain ⟨lv, g1, g2, g3, g4, g5, g6⟩ := hl
  have hxx := Nat.eq_of_beq_eq_true hX
  subst hxx
  exact lv_istore hx hb hd g1 (by rw [← g5]; exact hlt) rfl (fun ls2 hl2 => hk _ _ _ _ _ _ hs ls2 H locs (LsOK.st1 h1 rfl hlt g2 g3 g4 g5 g6 hl2) hW hS hc1 hs1)

theorem s_lstore_n {n : Fin 4} (C : CX p l e R s mid args below meth cd G mm dep mc ms) (hk : ∀ a1 a2 a3 a4 a5 a6, k0 a1 a2 a3 a4 a5 a6 → XX p l e R s mid args below meth cd G mm mc ms QQ a1 a2 a3 a4 a5 a6) (hd : decode (Mb mm) pc = .ok (.lstore_n n, ln)) (hln : lenOK (.lstore_n n) ln = true) (hX : okX mm pc (.lstore_n n) x1 x2 = true) (hs : pL st fun a r => cond (okS (MLq mm) x1 && MLq mm x1) (stK (vL a) al x1 fun al => k0 (pc + ln) al r h c' s') False) : XX p l e R s mid args below meth cd G mm mc ms QQ pc al st h c' s' := by
  obtain ⟨hx, hb, hml, hown, hts, hT, hin, hsz, hfr, hlo, hmc, hms, hmm⟩ := C
  obtain rfl := Nat.eq_of_beq_eq_true hln
  obtain ⟨x, r, rfl, hp1⟩ := pL_e hs
  obtain ⟨h1, hs⟩ := cond_t hp1
  obtain ⟨hlt, hs⟩ := stK_e hs
  intro ls H locs hl hW hS hc1 hs1
  obtain ⟨lv, g1, g2, g3, g4, g5, g6⟩ := hl
  have hxx := Nat.eq_of_beq_eq_true hX
  rw [Bool.and_eq_true] at h1
  exact lv_lstore_n hx hb hd hxx.symm g1 (g6 _ h1.2) rfl (fun ls2 hl2 => hk _ _ _ _ _ _ hs ls2 H locs (LsOK.st2 h1.1 h1.2 hlt g2 g3 g4 g5 g6 hl2) hW hS hc1 hs1)

theorem s_lstore {n : Nat} (C : CX p l e R s mid args below meth cd G mm dep mc ms) (hk : ∀ a1 a2 a3 a4 a5 a6, k0 a1 a2 a3 a4 a5 a6 → XX p l e R s mid args below meth cd G mm mc ms QQ a1 a2 a3 a4 a5 a6) (hd : decode (Mb mm) pc = .ok (.lstore n, ln)) (hln : lenOK (.lstore n) ln = true) (hX : okX mm pc (.lstore n) x1 x2 = true) (hs : pL st fun a r => cond (okS (MLq mm) x1 && MLq mm x1) (stK (vL a) al x1 fun al => k0 (pc + ln) al r h c' s') False) : XX p l e R s mid args below meth cd G mm mc ms QQ pc al st h c' s' := by
  obtain ⟨hx, hb, hml, hown, hts, hT, hin, hsz, hfr, hlo, hmc, hms, hmm⟩ := C
  obtain rfl := Nat.eq_of_beq_eq_true hln
  obtain ⟨x, r, rfl, hp1⟩ := pL_e hs
  obtain ⟨h1, hs⟩ := cond_t hp1
  obtain ⟨hlt, hs⟩ := stK_e hs
  intro ls H locs hl hW hS hc1 hs1
  obtain ⟨lv, g1, g2, g3, g4, g5, g6⟩ := hl
  have hxx := Nat.eq_of_beq_eq_true hX
  rw [Bool.and_eq_true] at h1
  subst hxx
  exact lv_lstore hx hb hd g1 (g6 _ h1.2) rfl (fun ls2 hl2 => hk _ _ _ _ _ _ hs ls2 H locs (LsOK.st2 h1.1 h1.2 hlt g2 g3 g4 g5 g6 hl2) hW hS hc1 hs1)

theorem s_iinc {i : Nat} {n : Int} (C : CX p l e R s mid args below meth cd G mm dep mc ms) (hk : ∀ a1 a2 a3 a4 a5 a6, k0 a1 a2 a3 a4 a5 a6 → XX p l e R s mid args below meth cd G mm mc ms QQ a1 a2 a3 a4 a5 a6) (hd : decode (Mb mm) pc = .ok (.iinc i n, ln)) (hln : lenOK (.iinc i n) ln = true) (hX : okX mm pc (.iinc i n) x1 x2 = true) (hs : gtK (fun v => isI v fun a => cond (okS (MLq mm) x1) (stK (vI (a + n)) al x1 fun al => k0 (pc + ln) al st h c' s') False) al x1) : XX p l e R s mid args below meth cd G mm mc ms QQ pc al st h c' s' := by
  obtain ⟨hx, hb, hml, hown, hts, hT, hin, hsz, hfr, hlo, hmc, hms, hmm⟩ := C
  obtain rfl := Nat.eq_of_beq_eq_true hln
  obtain ⟨v, h1, h2⟩ := gtK_e hs
  obtain ⟨x, rfl, h2⟩ := isI_e h2
  obtain ⟨h3, h2⟩ := cond_t h2
  obtain ⟨hlt, hs⟩ := stK_e h2
  intro ls H locs hl hW hS hc1 hs1
  obtain ⟨lv, g1, g2, g3, g4, g5, g6⟩ := hl
  have hxx := Nat.eq_of_beq_eq_true hX
  subst hxx
  obtain ⟨k, hk2⟩ := List.getElem?_of_mem (g2 _ _ h1 (fun z => by cases z))
  exact lv_iinc (v := iI (x + n)) hx hb hd g1 hk2 (by rw [iI_add]; rfl) (by rw [← g5]; exact hlt) rfl (fun ls2 hl2 => hk _ _ _ _ _ _ hs ls2 H locs (LsOK.st1 h3 rfl hlt g2 g3 g4 g5 g6 hl2) hW hS hc1 hs1)

theorem s_iconst {n : Int} (C : CX p l e R s mid args below meth cd G mm dep mc ms) (hk : ∀ a1 a2 a3 a4 a5 a6, k0 a1 a2 a3 a4 a5 a6 → XX p l e R s mid args below meth cd G mm mc ms QQ a1 a2 a3 a4 a5 a6) (hd : decode (Mb mm) pc = .ok (.iconst n, ln)) (hln : lenOK (.iconst n) ln = true) (hX : okX mm pc (.iconst n) x1 x2 = true) (hs : k0 (pc + ln) al (vI n :: st) h c' s') : XX p l e R s mid args below meth cd G mm mc ms QQ pc al st h c' s' := by
  obtain ⟨hx, hb, hml, hown, hts, hT, hin, hsz, hfr, hlo, hmc, hms, hmm⟩ := C
  obtain rfl := Nat.eq_of_beq_eq_true hln
  intro ls H locs hl hW hS hc1 hs1
  exact lv_iconst hx hb hd rfl (hk _ _ _ _ _ _ hs ls H locs hl hW hS hc1 hs1)

theorem s_bipush {n : Int} (C : CX p l e R s mid args below meth cd G mm dep mc ms) (hk : ∀ a1 a2 a3 a4 a5 a6, k0 a1 a2 a3 a4 a5 a6 → XX p l e R s mid args below meth cd G mm mc ms QQ a1 a2 a3 a4 a5 a6) (hd : decode (Mb mm) pc = .ok (.bipush n, ln)) (hln : lenOK (.bipush n) ln = true) (hX : okX mm pc (.bipush n) x1 x2 = true) (hs : k0 (pc + ln) al (vI n :: st) h c' s') : XX p l e R s mid args below meth cd G mm mc ms QQ pc al st h c' s' := by
  obtain ⟨hx, hb, hml, hown, hts, hT, hin, hsz, hfr, hlo, hmc, hms, hmm⟩ := C
  obtain rfl := Nat.eq_of_beq_eq_true hln
  intro ls H locs hl hW hS hc1 hs1
  exact lv_bipush hx hb hd (of_decide_eq_true hX) (hk _ _ _ _ _ _ hs ls H locs hl hW hS hc1 hs1)

theorem s_sipush {n : Int} (C : CX p l e R s mid args below meth cd G mm dep mc ms) (hk : ∀ a1 a2 a3 a4 a5 a6, k0 a1 a2 a3 a4 a5 a6 → XX p l e R s mid args below meth cd G mm mc ms QQ a1 a2 a3 a4 a5 a6) (hd : decode (Mb mm) pc = .ok (.sipush n, ln)) (hln : lenOK (.sipush n) ln = true) (hX : okX mm pc (.sipush n) x1 x2 = true) (hs : k0 (pc + ln) al (vI n :: st) h c' s') : XX p l e R s mid args below meth cd G mm mc ms QQ pc al st h c' s' := by
  obtain ⟨hx, hb, hml, hown, hts, hT, hin, hsz, hfr, hlo, hmc, hms, hmm⟩ := C
  obtain rfl := Nat.eq_of_beq_eq_true hln
  intro ls H locs hl hW hS hc1 hs1
  exact lv_sipush hx hb hd (of_decide_eq_true hX) (hk _ _ _ _ _ _ hs ls H locs hl hW hS hc1 hs1)

theorem s_lconst {n : Fin 2} (C : CX p l e R s mid args below meth cd G mm dep mc ms) (hk : ∀ a1 a2 a3 a4 a5 a6, k0 a1 a2 a3 a4 a5 a6 → XX p l e R s mid args below meth cd G mm mc ms QQ a1 a2 a3 a4 a5 a6) (hd : decode (Mb mm) pc = .ok (.lconst n, ln)) (hln : lenOK (.lconst n) ln = true) (hX : okX mm pc (.lconst n) x1 x2 = true) (hs : k0 (pc + ln) al (vL (Int64.ofNat x1) :: st) h c' s') : XX p l e R s mid args below meth cd G mm mc ms QQ pc al st h c' s' := by
  obtain ⟨hx, hb, hml, hown, hts, hT, hin, hsz, hfr, hlo, hmc, hms, hmm⟩ := C
  obtain rfl := Nat.eq_of_beq_eq_true hln
  intro ls H locs hl hW hS hc1 hs1
  exact lv_lconst hx hb hd (by rw [Nat.eq_of_beq_eq_true hX]) (hk _ _ _ _ _ _ hs ls H locs hl hW hS hc1 hs1)

theorem s_ldc {n : Nat} (C : CX p l e R s mid args below meth cd G mm dep mc ms) (hk : ∀ a1 a2 a3 a4 a5 a6, k0 a1 a2 a3 a4 a5 a6 → XX p l e R s mid args below meth cd G mm mc ms QQ a1 a2 a3 a4 a5 a6) (hd : decode (Mb mm) pc = .ok (.ldc n, ln)) (hln : lenOK (.ldc n) ln = true) (hX : okX mm pc (.ldc n) x1 x2 = true) (hs : k0 (pc + ln) al (vI (-2147483648) :: st) h c' s') : XX p l e R s mid args below meth cd G mm mc ms QQ pc al st h c' s' := by
  obtain ⟨hx, hb, hml, hown, hts, hT, hin, hsz, hfr, hlo, hmc, hms, hmm⟩ := C
  obtain rfl := Nat.eq_of_beq_eq_true hln
  intro ls H locs hl hW hS hc1 hs1
  exact lv_ldc hx hb hown (hts _ (in_glw (KCT_in hX) rfl)) hd (hk _ _ _ _ _ _ hs ls H locs hl hW hS hc1 hs1)

theorem s_ldc_w {n : Nat} (C : CX p l e R s mid args below meth cd G mm dep mc ms) (hk : ∀ a1 a2 a3 a4 a5 a6, k0 a1 a2 a3 a4 a5 a6 → XX p l e R s mid args below meth cd G mm mc ms QQ a1 a2 a3 a4 a5 a6) (hd : decode (Mb mm) pc = .ok (.ldc_w n, ln)) (hln : lenOK (.ldc_w n) ln = true) (hX : okX mm pc (.ldc_w n) x1 x2 = true) (hs : k0 (pc + ln) al (vI (-2147483648) :: st) h c' s') : XX p l e R s mid args below meth cd G mm mc ms QQ pc al st h c' s' := by
  obtain ⟨hx, hb, hml, hown, hts, hT, hin, hsz, hfr, hlo, hmc, hms, hmm⟩ := C
  obtain rfl := Nat.eq_of_beq_eq_true hln
  intro ls H locs hl hW hS hc1 hs1
  exact lv_ldcw hx hb hown (hts _ (in_glw (KCT_in hX) rfl)) hd (hk _ _ _ _ _ _ hs ls H locs hl hW hS hc1 hs1)

theorem s_ldc2_w {n : Nat} (C : CX p l e R s mid args below meth cd G mm dep mc ms) (hk : ∀ a1 a2 a3 a4 a5 a6, k0 a1 a2 a3 a4 a5 a6 → XX p l e R s mid args below meth cd G mm mc ms QQ a1 a2 a3 a4 a5 a6) (hd : decode (Mb mm) pc = .ok (.ldc2_w n, ln)) (hln : lenOK (.ldc2_w n) ln = true) (hX : okX mm pc (.ldc2_w n) x1 x2 = true) (hs : k0 (pc + ln) al (vL (Int64.ofNat x1) :: st) h c' s') : XX p l e R s mid args below meth cd G mm mc ms QQ pc al st h c' s' := by
  obtain ⟨hx, hb, hml, hown, hts, hT, hin, hsz, hfr, hlo, hmc, hms, hmm⟩ := C
  obtain rfl := Nat.eq_of_beq_eq_true hln
  intro ls H locs hl hW hS hc1 hs1
  exact lv_ldc2 hx hb hown (hts _ (in_glw (KLT_in hX) rfl)) hd (hk _ _ _ _ _ _ hs ls H locs hl hW hS hc1 hs1)

theorem s_iadd (C : CX p l e R s mid args below meth cd G mm dep mc ms) (hk : ∀ a1 a2 a3 a4 a5 a6, k0 a1 a2 a3 a4 a5 a6 → XX p l e R s mid args below meth cd G mm mc ms QQ a1 a2 a3 a4 a5 a6) (hd : decode (Mb mm) pc = .ok (.iadd, ln)) (hln : lenOK (.iadd) ln = true) (hX : okX mm pc (.iadd) x1 x2 = true) (hs : pI st fun y r => pI r fun x r => k0 (pc + ln) al (vI (x + y) :: r) h c' s') : XX p l e R s mid args below meth cd G mm mc ms QQ pc al st h c' s' := by
  obtain ⟨hx, hb, hml, hown, hts, hT, hin, hsz, hfr, hlo, hmc, hms, hmm⟩ := C
  obtain rfl := Nat.eq_of_beq_eq_true hln
  obtain ⟨y, r, rfl, hp1⟩ := pI_e hs
  obtain ⟨x, r, rfl, hp2⟩ := pI_e hp1
  intro ls H locs hl hW hS hc1 hs1
  have q := hk _ _ _ _ _ _ hp2 ls H locs hl hW hS hc1 hs1
  exact lv_iadd hx hb hd (by rw [← iI_add]; exact q)

theorem s_isub (C : CX p l e R s mid args below meth cd G mm dep mc ms) (hk : ∀ a1 a2 a3 a4 a5 a6, k0 a1 a2 a3 a4 a5 a6 → XX p l e R s mid args below meth cd G mm mc ms QQ a1 a2 a3 a4 a5 a6) (hd : decode (Mb mm) pc = .ok (.isub, ln)) (hln : lenOK (.isub) ln = true) (hX : okX mm pc (.isub) x1 x2 = true) (hs : pI st fun y r => pI r fun x r => k0 (pc + ln) al (vI (x - y) :: r) h c' s') : XX p l e R s mid args below meth cd G mm mc ms QQ pc al st h c' s' := by
  obtain ⟨hx, hb, hml, hown, hts, hT, hin, hsz, hfr, hlo, hmc, hms, hmm⟩ := C
  obtain rfl := Nat.eq_of_beq_eq_true hln
  obtain ⟨y, r, rfl, hp1⟩ := pI_e hs
  obtain ⟨x, r, rfl, hp2⟩ := pI_e hp1
  intro ls H locs hl hW hS hc1 hs1
  have q := hk _ _ _ _ _ _ hp2 ls H locs hl hW hS hc1 hs1
  exact lv_isub hx hb hd (by rw [← iI_sub]; exact q)

theorem s_imul (C : CX p l e R s mid args below meth cd G mm dep mc ms) (hk : ∀ a1 a2 a3 a4 a5 a6, k0 a1 a2 a3 a4 a5 a6 → XX p l e R s mid args below meth cd G mm mc ms QQ a1 a2 a3 a4 a5 a6) (hd : decode (Mb mm) pc = .ok (.imul, ln)) (hln : lenOK (.imul) ln = true) (hX : okX mm pc (.imul) x1 x2 = true) (hs : pI st fun y r => pI r fun x r => k0 (pc + ln) al (vI (x * y) :: r) h c' s') : XX p l e R s mid args below meth cd G mm mc ms QQ pc al st h c' s' := by
  obtain ⟨hx, hb, hml, hown, hts, hT, hin, hsz, hfr, hlo, hmc, hms, hmm⟩ := C
  obtain rfl := Nat.eq_of_beq_eq_true hln
  obtain ⟨y, r, rfl, hp1⟩ := pI_e hs
  obtain ⟨x, r, rfl, hp2⟩ := pI_e hp1
  intro ls H locs hl hW hS hc1 hs1
  have q := hk _ _ _ _ _ _ hp2 ls H locs hl hW hS hc1 hs1
  exact lv_imul hx hb hd (by rw [← iI_mul]; exact q)

theorem s_iand (C : CX p l e R s mid args below meth cd G mm dep mc ms) (hk : ∀ a1 a2 a3 a4 a5 a6, k0 a1 a2 a3 a4 a5 a6 → XX p l e R s mid args below meth cd G mm mc ms QQ a1 a2 a3 a4 a5 a6) (hd : decode (Mb mm) pc = .ok (.iand, ln)) (hln : lenOK (.iand) ln = true) (hX : okX mm pc (.iand) x1 x2 = true) (hs : pI st fun y r => pI r fun x r => k0 (pc + ln) al (vI (andZ x y) :: r) h c' s') : XX p l e R s mid args below meth cd G mm mc ms QQ pc al st h c' s' := by
  obtain ⟨hx, hb, hml, hown, hts, hT, hin, hsz, hfr, hlo, hmc, hms, hmm⟩ := C
  obtain rfl := Nat.eq_of_beq_eq_true hln
  obtain ⟨y, r, rfl, hp1⟩ := pI_e hs
  obtain ⟨x, r, rfl, hp2⟩ := pI_e hp1
  intro ls H locs hl hW hS hc1 hs1
  have q := hk _ _ _ _ _ _ hp2 ls H locs hl hW hS hc1 hs1
  refine lv_iand hx hb hd ?_
  have e : cV G (vI (andZ x y)) = .int _ := congrArg Value.int (iI_back _)
  simp only [List.map_cons] at q
  rw [e] at q
  exact q

theorem s_ior (C : CX p l e R s mid args below meth cd G mm dep mc ms) (hk : ∀ a1 a2 a3 a4 a5 a6, k0 a1 a2 a3 a4 a5 a6 → XX p l e R s mid args below meth cd G mm mc ms QQ a1 a2 a3 a4 a5 a6) (hd : decode (Mb mm) pc = .ok (.ior, ln)) (hln : lenOK (.ior) ln = true) (hX : okX mm pc (.ior) x1 x2 = true) (hs : pI st fun y r => pI r fun x r => k0 (pc + ln) al (vI (orZ x y) :: r) h c' s') : XX p l e R s mid args below meth cd G mm mc ms QQ pc al st h c' s' := by
  obtain ⟨hx, hb, hml, hown, hts, hT, hin, hsz, hfr, hlo, hmc, hms, hmm⟩ := C
  obtain rfl := Nat.eq_of_beq_eq_true hln
  obtain ⟨y, r, rfl, hp1⟩ := pI_e hs
  obtain ⟨x, r, rfl, hp2⟩ := pI_e hp1
  intro ls H locs hl hW hS hc1 hs1
  have q := hk _ _ _ _ _ _ hp2 ls H locs hl hW hS hc1 hs1
  refine lv_ior hx hb hd ?_
  have e : cV G (vI (orZ x y)) = .int _ := congrArg Value.int (iI_back _)
  simp only [List.map_cons] at q
  rw [e] at q
  exact q

theorem s_ishl (C : CX p l e R s mid args below meth cd G mm dep mc ms) (hk : ∀ a1 a2 a3 a4 a5 a6, k0 a1 a2 a3 a4 a5 a6 → XX p l e R s mid args below meth cd G mm mc ms QQ a1 a2 a3 a4 a5 a6) (hd : decode (Mb mm) pc = .ok (.ishl, ln)) (hln : lenOK (.ishl) ln = true) (hX : okX mm pc (.ishl) x1 x2 = true) (hs : pI st fun y r => pI r fun x r => k0 (pc + ln) al (vI (shlZ x y) :: r) h c' s') : XX p l e R s mid args below meth cd G mm mc ms QQ pc al st h c' s' := by
  obtain ⟨hx, hb, hml, hown, hts, hT, hin, hsz, hfr, hlo, hmc, hms, hmm⟩ := C
  obtain rfl := Nat.eq_of_beq_eq_true hln
  obtain ⟨y, r, rfl, hp1⟩ := pI_e hs
  obtain ⟨x, r, rfl, hp2⟩ := pI_e hp1
  intro ls H locs hl hW hS hc1 hs1
  have q := hk _ _ _ _ _ _ hp2 ls H locs hl hW hS hc1 hs1
  refine lv_ishl hx hb hd ?_
  have e : cV G (vI (shlZ x y)) = .int _ := congrArg Value.int (iI_back _)
  simp only [List.map_cons] at q
  rw [e] at q
  exact q

theorem s_irem (C : CX p l e R s mid args below meth cd G mm dep mc ms) (hk : ∀ a1 a2 a3 a4 a5 a6, k0 a1 a2 a3 a4 a5 a6 → XX p l e R s mid args below meth cd G mm mc ms QQ a1 a2 a3 a4 a5 a6) (hd : decode (Mb mm) pc = .ok (.irem, ln)) (hln : lenOK (.irem) ln = true) (hX : okX mm pc (.irem) x1 x2 = true) (hs : pI st fun y r => pI r fun x r => (rg y ∧ y ≠ 0) ∧ k0 (pc + ln) al (vI (remZ x y) :: r) h c' s') : XX p l e R s mid args below meth cd G mm mc ms QQ pc al st h c' s' := by
  obtain ⟨hx, hb, hml, hown, hts, hT, hin, hsz, hfr, hlo, hmc, hms, hmm⟩ := C
  obtain rfl := Nat.eq_of_beq_eq_true hln
  obtain ⟨y, r, rfl, hp1⟩ := pI_e hs
  obtain ⟨x, r, rfl, hp2⟩ := pI_e hp1
  intro ls H locs hl hW hS hc1 hs1
  obtain ⟨⟨h1, h2⟩, hs⟩ := hp2
  have q := hk _ _ _ _ _ _ hs ls H locs hl hW hS hc1 hs1
  refine lv_irem hx hb hd (fun z => h2 ?_) ?_
  · rw [← iI_0, iI_inj h1 rg_0] at z
    exact z
  · have e : cV G (vI (remZ x y)) = .int _ := congrArg Value.int (iI_back _)
    simp only [List.map_cons] at q
    rw [e] at q
    exact q

theorem s_ineg (C : CX p l e R s mid args below meth cd G mm dep mc ms) (hk : ∀ a1 a2 a3 a4 a5 a6, k0 a1 a2 a3 a4 a5 a6 → XX p l e R s mid args below meth cd G mm mc ms QQ a1 a2 a3 a4 a5 a6) (hd : decode (Mb mm) pc = .ok (.ineg, ln)) (hln : lenOK (.ineg) ln = true) (hX : okX mm pc (.ineg) x1 x2 = true) (hs : pI st fun x r => k0 (pc + ln) al (vI (-x) :: r) h c' s') : XX p l e R s mid args below meth cd G mm mc ms QQ pc al st h c' s' := by
  obtain ⟨hx, hb, hml, hown, hts, hT, hin, hsz, hfr, hlo, hmc, hms, hmm⟩ := C
  obtain rfl := Nat.eq_of_beq_eq_true hln
  obtain ⟨x, r, rfl, hp1⟩ := pI_e hs
  intro ls H locs hl hW hS hc1 hs1
  have q := hk _ _ _ _ _ _ hp1 ls H locs hl hW hS hc1 hs1
  exact lv_ineg hx hb hd (by rw [← iI_neg]; exact q)

theorem s_i2b (C : CX p l e R s mid args below meth cd G mm dep mc ms) (hk : ∀ a1 a2 a3 a4 a5 a6, k0 a1 a2 a3 a4 a5 a6 → XX p l e R s mid args below meth cd G mm mc ms QQ a1 a2 a3 a4 a5 a6) (hd : decode (Mb mm) pc = .ok (.i2b, ln)) (hln : lenOK (.i2b) ln = true) (hX : okX mm pc (.i2b) x1 x2 = true) (hs : pI st fun x r => k0 (pc + ln) al (vI (i2bZ x) :: r) h c' s') : XX p l e R s mid args below meth cd G mm mc ms QQ pc al st h c' s' := by
  obtain ⟨hx, hb, hml, hown, hts, hT, hin, hsz, hfr, hlo, hmc, hms, hmm⟩ := C
  obtain rfl := Nat.eq_of_beq_eq_true hln
  obtain ⟨x, r, rfl, hp1⟩ := pI_e hs
  intro ls H locs hl hW hS hc1 hs1
  exact lv_i2b hx hb hd (iI_back _).symm (hk _ _ _ _ _ _ hp1 ls H locs hl hW hS hc1 hs1)

theorem s_i2s (C : CX p l e R s mid args below meth cd G mm dep mc ms) (hk : ∀ a1 a2 a3 a4 a5 a6, k0 a1 a2 a3 a4 a5 a6 → XX p l e R s mid args below meth cd G mm mc ms QQ a1 a2 a3 a4 a5 a6) (hd : decode (Mb mm) pc = .ok (.i2s, ln)) (hln : lenOK (.i2s) ln = true) (hX : okX mm pc (.i2s) x1 x2 = true) (hs : pI st fun x r => k0 (pc + ln) al (vI (i2sZ x) :: r) h c' s') : XX p l e R s mid args below meth cd G mm mc ms QQ pc al st h c' s' := by
  obtain ⟨hx, hb, hml, hown, hts, hT, hin, hsz, hfr, hlo, hmc, hms, hmm⟩ := C
  obtain rfl := Nat.eq_of_beq_eq_true hln
  obtain ⟨x, r, rfl, hp1⟩ := pI_e hs
  intro ls H locs hl hW hS hc1 hs1
  exact lv_i2s hx hb hd (iI_back _).symm (hk _ _ _ _ _ _ hp1 ls H locs hl hW hS hc1 hs1)

theorem s_i2l (C : CX p l e R s mid args below meth cd G mm dep mc ms) (hk : ∀ a1 a2 a3 a4 a5 a6, k0 a1 a2 a3 a4 a5 a6 → XX p l e R s mid args below meth cd G mm mc ms QQ a1 a2 a3 a4 a5 a6) (hd : decode (Mb mm) pc = .ok (.i2l, ln)) (hln : lenOK (.i2l) ln = true) (hX : okX mm pc (.i2l) x1 x2 = true) (hs : pI st fun x r => k0 (pc + ln) al (vL (i2lZ x) :: r) h c' s') : XX p l e R s mid args below meth cd G mm mc ms QQ pc al st h c' s' := by
  obtain ⟨hx, hb, hml, hown, hts, hT, hin, hsz, hfr, hlo, hmc, hms, hmm⟩ := C
  obtain rfl := Nat.eq_of_beq_eq_true hln
  obtain ⟨x, r, rfl, hp1⟩ := pI_e hs
  intro ls H locs hl hW hS hc1 hs1
  exact lv_i2l hx hb hd rfl (hk _ _ _ _ _ _ hp1 ls H locs hl hW hS hc1 hs1)

theorem s_l2i (C : CX p l e R s mid args below meth cd G mm dep mc ms) (hk : ∀ a1 a2 a3 a4 a5 a6, k0 a1 a2 a3 a4 a5 a6 → XX p l e R s mid args below meth cd G mm mc ms QQ a1 a2 a3 a4 a5 a6) (hd : decode (Mb mm) pc = .ok (.l2i, ln)) (hln : lenOK (.l2i) ln = true) (hX : okX mm pc (.l2i) x1 x2 = true) (hs : pL st fun x r => k0 (pc + ln) al (vI (l2iZ x) :: r) h c' s') : XX p l e R s mid args below meth cd G mm mc ms QQ pc al st h c' s' := by
  obtain ⟨hx, hb, hml, hown, hts, hT, hin, hsz, hfr, hlo, hmc, hms, hmm⟩ := C
  obtain rfl := Nat.eq_of_beq_eq_true hln
  obtain ⟨x, r, rfl, hp1⟩ := pL_e hs
  intro ls H locs hl hW hS hc1 hs1
  exact lv_l2i hx hb hd (iI_back _).symm (hk _ _ _ _ _ _ hp1 ls H locs hl hW hS hc1 hs1)

theorem s_ladd (C : CX p l e R s mid args below meth cd G mm dep mc ms) (hk : ∀ a1 a2 a3 a4 a5 a6, k0 a1 a2 a3 a4 a5 a6 → XX p l e R s mid args below meth cd G mm mc ms QQ a1 a2 a3 a4 a5 a6) (hd : decode (Mb mm) pc = .ok (.ladd, ln)) (hln : lenOK (.ladd) ln = true) (hX : okX mm pc (.ladd) x1 x2 = true) (hs : pL st fun y r => pL r fun x r => k0 (pc + ln) al (vL (x + y) :: r) h c' s') : XX p l e R s mid args below meth cd G mm mc ms QQ pc al st h c' s' := by
  obtain ⟨hx, hb, hml, hown, hts, hT, hin, hsz, hfr, hlo, hmc, hms, hmm⟩ := C
  obtain rfl := Nat.eq_of_beq_eq_true hln
  obtain ⟨y, r, rfl, hp1⟩ := pL_e hs
  obtain ⟨x, r, rfl, hp2⟩ := pL_e hp1
  intro ls H locs hl hW hS hc1 hs1
  exact lv_ladd hx hb hd (hk _ _ _ _ _ _ hp2 ls H locs hl hW hS hc1 hs1)

theorem s_lsub (C : CX p l e R s mid args below meth cd G mm dep mc ms) (hk : ∀ a1 a2 a3 a4 a5 a6, k0 a1 a2 a3 a4 a5 a6 → XX p l e R s mid args below meth cd G mm mc ms QQ a1 a2 a3 a4 a5 a6) (hd : decode (Mb mm) pc = .ok (.lsub, ln)) (hln : lenOK (.lsub) ln = true) (hX : okX mm pc (.lsub) x1 x2 = true) (hs : pL st fun y r => pL r fun x r => k0 (pc + ln) al (vL (x - y) :: r) h c' s') : XX p l e R s mid args below meth cd G mm mc ms QQ pc al st h c' s' := by
  obtain ⟨hx, hb, hml, hown, hts, hT, hin, hsz, hfr, hlo, hmc, hms, hmm⟩ := C
  obtain rfl := Nat.eq_of_beq_eq_true hln
  obtain ⟨y, r, rfl, hp1⟩ := pL_e hs
  obtain ⟨x, r, rfl, hp2⟩ := pL_e hp1
  intro ls H locs hl hW hS hc1 hs1
  exact lv_lsub hx hb hd (hk _ _ _ _ _ _ hp2 ls H locs hl hW hS hc1 hs1)

theorem s_lmul (C : CX p l e R s mid args below meth cd G mm dep mc ms) (hk : ∀ a1 a2 a3 a4 a5 a6, k0 a1 a2 a3 a4 a5 a6 → XX p l e R s mid args below meth cd G mm mc ms QQ a1 a2 a3 a4 a5 a6) (hd : decode (Mb mm) pc = .ok (.lmul, ln)) (hln : lenOK (.lmul) ln = true) (hX : okX mm pc (.lmul) x1 x2 = true) (hs : pL st fun y r => pL r fun x r => k0 (pc + ln) al (vL (x * y) :: r) h c' s') : XX p l e R s mid args below meth cd G mm mc ms QQ pc al st h c' s' := by
  obtain ⟨hx, hb, hml, hown, hts, hT, hin, hsz, hfr, hlo, hmc, hms, hmm⟩ := C
  obtain rfl := Nat.eq_of_beq_eq_true hln
  obtain ⟨y, r, rfl, hp1⟩ := pL_e hs
  obtain ⟨x, r, rfl, hp2⟩ := pL_e hp1
  intro ls H locs hl hW hS hc1 hs1
  exact lv_lmul hx hb hd (hk _ _ _ _ _ _ hp2 ls H locs hl hW hS hc1 hs1)

theorem s_land (C : CX p l e R s mid args below meth cd G mm dep mc ms) (hk : ∀ a1 a2 a3 a4 a5 a6, k0 a1 a2 a3 a4 a5 a6 → XX p l e R s mid args below meth cd G mm mc ms QQ a1 a2 a3 a4 a5 a6) (hd : decode (Mb mm) pc = .ok (.land, ln)) (hln : lenOK (.land) ln = true) (hX : okX mm pc (.land) x1 x2 = true) (hs : pL st fun y r => pL r fun x r => k0 (pc + ln) al (vL (x &&& y) :: r) h c' s') : XX p l e R s mid args below meth cd G mm mc ms QQ pc al st h c' s' := by
  obtain ⟨hx, hb, hml, hown, hts, hT, hin, hsz, hfr, hlo, hmc, hms, hmm⟩ := C
  obtain rfl := Nat.eq_of_beq_eq_true hln
  obtain ⟨y, r, rfl, hp1⟩ := pL_e hs
  obtain ⟨x, r, rfl, hp2⟩ := pL_e hp1
  intro ls H locs hl hW hS hc1 hs1
  exact lv_land hx hb hd (hk _ _ _ _ _ _ hp2 ls H locs hl hW hS hc1 hs1)

theorem s_lor (C : CX p l e R s mid args below meth cd G mm dep mc ms) (hk : ∀ a1 a2 a3 a4 a5 a6, k0 a1 a2 a3 a4 a5 a6 → XX p l e R s mid args below meth cd G mm mc ms QQ a1 a2 a3 a4 a5 a6) (hd : decode (Mb mm) pc = .ok (.lor, ln)) (hln : lenOK (.lor) ln = true) (hX : okX mm pc (.lor) x1 x2 = true) (hs : pL st fun y r => pL r fun x r => k0 (pc + ln) al (vL (x ||| y) :: r) h c' s') : XX p l e R s mid args below meth cd G mm mc ms QQ pc al st h c' s' := by
  obtain ⟨hx, hb, hml, hown, hts, hT, hin, hsz, hfr, hlo, hmc, hms, hmm⟩ := C
  obtain rfl := Nat.eq_of_beq_eq_true hln
  obtain ⟨y, r, rfl, hp1⟩ := pL_e hs
  obtain ⟨x, r, rfl, hp2⟩ := pL_e hp1
  intro ls H locs hl hW hS hc1 hs1
  exact lv_lor hx hb hd (hk _ _ _ _ _ _ hp2 ls H locs hl hW hS hc1 hs1)

theorem s_lxor (C : CX p l e R s mid args below meth cd G mm dep mc ms) (hk : ∀ a1 a2 a3 a4 a5 a6, k0 a1 a2 a3 a4 a5 a6 → XX p l e R s mid args below meth cd G mm mc ms QQ a1 a2 a3 a4 a5 a6) (hd : decode (Mb mm) pc = .ok (.lxor, ln)) (hln : lenOK (.lxor) ln = true) (hX : okX mm pc (.lxor) x1 x2 = true) (hs : pL st fun y r => pL r fun x r => k0 (pc + ln) al (vL (x ^^^ y) :: r) h c' s') : XX p l e R s mid args below meth cd G mm mc ms QQ pc al st h c' s' := by
  obtain ⟨hx, hb, hml, hown, hts, hT, hin, hsz, hfr, hlo, hmc, hms, hmm⟩ := C
  obtain rfl := Nat.eq_of_beq_eq_true hln
  obtain ⟨y, r, rfl, hp1⟩ := pL_e hs
  obtain ⟨x, r, rfl, hp2⟩ := pL_e hp1
  intro ls H locs hl hW hS hc1 hs1
  exact lv_lxor hx hb hd (hk _ _ _ _ _ _ hp2 ls H locs hl hW hS hc1 hs1)

theorem s_lshl (C : CX p l e R s mid args below meth cd G mm dep mc ms) (hk : ∀ a1 a2 a3 a4 a5 a6, k0 a1 a2 a3 a4 a5 a6 → XX p l e R s mid args below meth cd G mm mc ms QQ a1 a2 a3 a4 a5 a6) (hd : decode (Mb mm) pc = .ok (.lshl, ln)) (hln : lenOK (.lshl) ln = true) (hX : okX mm pc (.lshl) x1 x2 = true) (hs : pI st fun y r => pL r fun x r => k0 (pc + ln) al (vL (shlL x y) :: r) h c' s') : XX p l e R s mid args below meth cd G mm mc ms QQ pc al st h c' s' := by
  obtain ⟨hx, hb, hml, hown, hts, hT, hin, hsz, hfr, hlo, hmc, hms, hmm⟩ := C
  obtain rfl := Nat.eq_of_beq_eq_true hln
  obtain ⟨y, r, rfl, hp1⟩ := pI_e hs
  obtain ⟨x, r, rfl, hp2⟩ := pL_e hp1
  intro ls H locs hl hW hS hc1 hs1
  exact lv_lshl hx hb hd rfl (hk _ _ _ _ _ _ hp2 ls H locs hl hW hS hc1 hs1)

theorem s_lshr (C : CX p l e R s mid args below meth cd G mm dep mc ms) (hk : ∀ a1 a2 a3 a4 a5 a6, k0 a1 a2 a3 a4 a5 a6 → XX p l e R s mid args below meth cd G mm mc ms QQ a1 a2 a3 a4 a5 a6) (hd : decode (Mb mm) pc = .ok (.lshr, ln)) (hln : lenOK (.lshr) ln = true) (hX : okX mm pc (.lshr) x1 x2 = true) (hs : pI st fun y r => pL r fun x r => k0 (pc + ln) al (vL (shrL x y) :: r) h c' s') : XX p l e R s mid args below meth cd G mm mc ms QQ pc al st h c' s' := by
  obtain ⟨hx, hb, hml, hown, hts, hT, hin, hsz, hfr, hlo, hmc, hms, hmm⟩ := C
  obtain rfl := Nat.eq_of_beq_eq_true hln
  obtain ⟨y, r, rfl, hp1⟩ := pI_e hs
  obtain ⟨x, r, rfl, hp2⟩ := pL_e hp1
  intro ls H locs hl hW hS hc1 hs1
  exact lv_lshr hx hb hd rfl (hk _ _ _ _ _ _ hp2 ls H locs hl hW hS hc1 hs1)

theorem s_lushr (C : CX p l e R s mid args below meth cd G mm dep mc ms) (hk : ∀ a1 a2 a3 a4 a5 a6, k0 a1 a2 a3 a4 a5 a6 → XX p l e R s mid args below meth cd G mm mc ms QQ a1 a2 a3 a4 a5 a6) (hd : decode (Mb mm) pc = .ok (.lushr, ln)) (hln : lenOK (.lushr) ln = true) (hX : okX mm pc (.lushr) x1 x2 = true) (hs : pI st fun y r => pL r fun x r => k0 (pc + ln) al (vL (ushrL x y) :: r) h c' s') : XX p l e R s mid args below meth cd G mm mc ms QQ pc al st h c' s' := by
  obtain ⟨hx, hb, hml, hown, hts, hT, hin, hsz, hfr, hlo, hmc, hms, hmm⟩ := C
  obtain rfl := Nat.eq_of_beq_eq_true hln
  obtain ⟨y, r, rfl, hp1⟩ := pI_e hs
  obtain ⟨x, r, rfl, hp2⟩ := pL_e hp1
  intro ls H locs hl hW hS hc1 hs1
  exact lv_lushr hx hb hd rfl (hk _ _ _ _ _ _ hp2 ls H locs hl hW hS hc1 hs1)

theorem s_lcmp (C : CX p l e R s mid args below meth cd G mm dep mc ms) (hk : ∀ a1 a2 a3 a4 a5 a6, k0 a1 a2 a3 a4 a5 a6 → XX p l e R s mid args below meth cd G mm mc ms QQ a1 a2 a3 a4 a5 a6) (hd : decode (Mb mm) pc = .ok (.lcmp, ln)) (hln : lenOK (.lcmp) ln = true) (hX : okX mm pc (.lcmp) x1 x2 = true) (hs : pL st fun y r => pL r fun x r => k0 (pc + ln) al (vI (lcZ x y) :: r) h c' s') : XX p l e R s mid args below meth cd G mm mc ms QQ pc al st h c' s' := by
  obtain ⟨hx, hb, hml, hown, hts, hT, hin, hsz, hfr, hlo, hmc, hms, hmm⟩ := C
  obtain rfl := Nat.eq_of_beq_eq_true hln
  obtain ⟨y, r, rfl, hp1⟩ := pL_e hs
  obtain ⟨x, r, rfl, hp2⟩ := pL_e hp1
  intro ls H locs hl hW hS hc1 hs1
  have q := hk _ _ _ _ _ _ hp2 ls H locs hl hW hS hc1 hs1
  have e : cV G (vI (lcZ x y)) = .int _ := congrArg Value.int (iI_back _)
  simp only [List.map_cons] at q
  rw [e] at q
  exact W.lcmp hx hb hd q

theorem s_dup (C : CX p l e R s mid args below meth cd G mm dep mc ms) (hk : ∀ a1 a2 a3 a4 a5 a6, k0 a1 a2 a3 a4 a5 a6 → XX p l e R s mid args below meth cd G mm mc ms QQ a1 a2 a3 a4 a5 a6) (hd : decode (Mb mm) pc = .ok (.dup, ln)) (hln : lenOK (.dup) ln = true) (hX : okX mm pc (.dup) x1 x2 = true) (hs : pV st fun v r => cond (one v) (k0 (pc + ln) al (v :: v :: r) h c' s') False) : XX p l e R s mid args below meth cd G mm mc ms QQ pc al st h c' s' := by
  obtain ⟨hx, hb, hml, hown, hts, hT, hin, hsz, hfr, hlo, hmc, hms, hmm⟩ := C
  obtain rfl := Nat.eq_of_beq_eq_true hln
  obtain ⟨v, r, rfl, hp1⟩ := pV_e hs
  intro ls H locs hl hW hS hc1 hs1
  obtain ⟨h1, hs⟩ := cond_t hp1
  exact lv_dup hx hb hd (one_cat h1) (hk _ _ _ _ _ _ hs ls H locs hl hW hS hc1 hs1)

theorem s_pop (C : CX p l e R s mid args below meth cd G mm dep mc ms) (hk : ∀ a1 a2 a3 a4 a5 a6, k0 a1 a2 a3 a4 a5 a6 → XX p l e R s mid args below meth cd G mm mc ms QQ a1 a2 a3 a4 a5 a6) (hd : decode (Mb mm) pc = .ok (.pop, ln)) (hln : lenOK (.pop) ln = true) (hX : okX mm pc (.pop) x1 x2 = true) (hs : pV st fun v r => cond (one v) (k0 (pc + ln) al r h c' s') False) : XX p l e R s mid args below meth cd G mm mc ms QQ pc al st h c' s' := by
  obtain ⟨hx, hb, hml, hown, hts, hT, hin, hsz, hfr, hlo, hmc, hms, hmm⟩ := C
  obtain rfl := Nat.eq_of_beq_eq_true hln
  obtain ⟨v, r, rfl, hp1⟩ := pV_e hs
  intro ls H locs hl hW hS hc1 hs1
  obtain ⟨h1, hs⟩ := cond_t hp1
  exact lv_pop hx hb hd (one_cat h1) (hk _ _ _ _ _ _ hs ls H locs hl hW hS hc1 hs1)

theorem s_dup2 (C : CX p l e R s mid args below meth cd G mm dep mc ms) (hk : ∀ a1 a2 a3 a4 a5 a6, k0 a1 a2 a3 a4 a5 a6 → XX p l e R s mid args below meth cd G mm mc ms QQ a1 a2 a3 a4 a5 a6) (hd : decode (Mb mm) pc = .ok (.dup2, ln)) (hln : lenOK (.dup2) ln = true) (hX : okX mm pc (.dup2) x1 x2 = true) (hs : pV st fun v r => pV r fun w r => cond (one v && one w) (k0 (pc + ln) al (v :: w :: v :: w :: r) h c' s') False) : XX p l e R s mid args below meth cd G mm mc ms QQ pc al st h c' s' := by
  obtain ⟨hx, hb, hml, hown, hts, hT, hin, hsz, hfr, hlo, hmc, hms, hmm⟩ := C
  obtain rfl := Nat.eq_of_beq_eq_true hln
  obtain ⟨v, r, rfl, hp1⟩ := pV_e hs
  obtain ⟨w, r, rfl, hp2⟩ := pV_e hp1
  intro ls H locs hl hW hS hc1 hs1
  obtain ⟨h1, hs⟩ := cond_t hp2
  rw [Bool.and_eq_true] at h1
  exact lv_dup2_11 hx hb hd (one_cat h1.1) (one_cat h1.2) (hk _ _ _ _ _ _ hs ls H locs hl hW hS hc1 hs1)

theorem s_goto {n : Int} (C : CX p l e R s mid args below meth cd G mm dep mc ms) (hk : ∀ a1 a2 a3 a4 a5 a6, k0 a1 a2 a3 a4 a5 a6 → XX p l e R s mid args below meth cd G mm mc ms QQ a1 a2 a3 a4 a5 a6) (hd : decode (Mb mm) pc = .ok (.goto n, ln)) (hln : lenOK (.goto n) ln = true) (hX : okX mm pc (.goto n) x1 x2 = true) (hs : k0 x1 al st h c' s') : XX p l e R s mid args below meth cd G mm mc ms QQ pc al st h c' s' := by
  obtain ⟨hx, hb, hml, hown, hts, hT, hin, hsz, hfr, hlo, hmc, hms, hmm⟩ := C
  obtain rfl := Nat.eq_of_beq_eq_true hln
  intro ls H locs hl hW hS hc1 hs1
  exact lv_goto hx hb hd (of_decide_eq_true hX) (hk _ _ _ _ _ _ hs ls H locs hl hW hS hc1 hs1)

theorem s_if_icmp {cn : ClassFile.Cond} {n : Int} (C : CX p l e R s mid args below meth cd G mm dep mc ms) (hk : ∀ a1 a2 a3 a4 a5 a6, k0 a1 a2 a3 a4 a5 a6 → XX p l e R s mid args below meth cd G mm mc ms QQ a1 a2 a3 a4 a5 a6) (hd : decode (Mb mm) pc = .ok (.if_icmp cn n, ln)) (hln : lenOK (.if_icmp cn n) ln = true) (hX : okX mm pc (.if_icmp cn n) x1 x2 = true) (hs : pI st fun y r => pI r fun x r => rg x ∧ rg y ∧ cmpK x y (k0 x1 al r h c' s') (k0 (pc + ln) al r h c' s') cn) : XX p l e R s mid args below meth cd G mm mc ms QQ pc al st h c' s' := by
  obtain ⟨hx, hb, hml, hown, hts, hT, hin, hsz, hfr, hlo, hmc, hms, hmm⟩ := C
  obtain rfl := Nat.eq_of_beq_eq_true hln
  obtain ⟨y, r, rfl, hp1⟩ := pI_e hs
  obtain ⟨x, r, rfl, hp2⟩ := pI_e hp1
  intro ls H locs hl hW hS hc1 hs1
  obtain ⟨hrx, hry, hs⟩ := hp2
  have hj := of_decide_eq_true hX
  cases cn with
  | eq => exact lv_icmp_eq hx hb hd hj (fun z => hk _ _ _ _ _ _ (hs.1 ((iI_inj hrx hry).mp z)) ls H locs hl hW hS hc1 hs1) (fun z => hk _ _ _ _ _ _ (hs.2 (fun w => z ((iI_inj hrx hry).mpr w))) ls H locs hl hW hS hc1 hs1)
  | lt => exact lv_icmp_lt hx hb hd hj (fun z => hk _ _ _ _ _ _ (hs.1 ((iI_lt hrx hry).mp z)) ls H locs hl hW hS hc1 hs1) (fun z => hk _ _ _ _ _ _ (hs.2 (fun w => z ((iI_lt hrx hry).mpr w))) ls H locs hl hW hS hc1 hs1)
  | ge => exact lv_icmp_ge hx hb hd hj (fun z => hk _ _ _ _ _ _ (hs.1 ((iI_le hry hrx).mp z)) ls H locs hl hW hS hc1 hs1) (fun z => hk _ _ _ _ _ _ (hs.2 (fun w => z ((iI_le hry hrx).mpr w))) ls H locs hl hW hS hc1 hs1)
  | gt => exact lv_icmp_gt hx hb hd hj (fun z => hk _ _ _ _ _ _ (hs.1 ((iI_lt hry hrx).mp z)) ls H locs hl hW hS hc1 hs1) (fun z => hk _ _ _ _ _ _ (hs.2 (fun w => z ((iI_lt hry hrx).mpr w))) ls H locs hl hW hS hc1 hs1)
  | le => exact lv_icmp_le hx hb hd hj (fun z => hk _ _ _ _ _ _ (hs.1 ((iI_le hrx hry).mp z)) ls H locs hl hW hS hc1 hs1) (fun z => hk _ _ _ _ _ _ (hs.2 (fun w => z ((iI_le hrx hry).mpr w))) ls H locs hl hW hS hc1 hs1)
  | ne => exact lv_icmp_ne hx hb hd hj (fun z => hk _ _ _ _ _ _ (hs.1 (fun w => z ((iI_inj hrx hry).mpr w))) ls H locs hl hW hS hc1 hs1) (fun z => hk _ _ _ _ _ _ (hs.2 ((iI_inj hrx hry).mp z)) ls H locs hl hW hS hc1 hs1)

theorem s_ifCond {cn : ClassFile.Cond} {n : Int} (C : CX p l e R s mid args below meth cd G mm dep mc ms) (hk : ∀ a1 a2 a3 a4 a5 a6, k0 a1 a2 a3 a4 a5 a6 → XX p l e R s mid args below meth cd G mm mc ms QQ a1 a2 a3 a4 a5 a6) (hd : decode (Mb mm) pc = .ok (.ifCond cn n, ln)) (hln : lenOK (.ifCond cn n) ln = true) (hX : okX mm pc (.ifCond cn n) x1 x2 = true) (hs : pI st fun x r => rg x ∧ cmpK x 0 (k0 x1 al r h c' s') (k0 (pc + ln) al r h c' s') cn) : XX p l e R s mid args below meth cd G mm mc ms QQ pc al st h c' s' := by
  obtain ⟨hx, hb, hml, hown, hts, hT, hin, hsz, hfr, hlo, hmc, hms, hmm⟩ := C
  obtain rfl := Nat.eq_of_beq_eq_true hln
  obtain ⟨x, r, rfl, hp1⟩ := pI_e hs
  intro ls H locs hl hW hS hc1 hs1
  obtain ⟨hrx, hs⟩ := hp1
  have hry := rg_0
  have hj := of_decide_eq_true hX
  cases cn with
  | eq => exact lv_if_eq hx hb hd hj (fun z => hk _ _ _ _ _ _ (hs.1 ((iI_inj hrx hry).mp (by rw [iI_0]; exact z))) ls H locs hl hW hS hc1 hs1) (fun z => hk _ _ _ _ _ _ (hs.2 (fun w => z (by have w2 := (iI_inj hrx hry).mpr w; rw [iI_0] at w2; exact w2))) ls H locs hl hW hS hc1 hs1)
  | lt => exact lv_if_lt hx hb hd hj (fun z => hk _ _ _ _ _ _ (hs.1 ((iI_lt hrx hry).mp (by rw [iI_0]; exact z))) ls H locs hl hW hS hc1 hs1) (fun z => hk _ _ _ _ _ _ (hs.2 (fun w => z (by have w2 := (iI_lt hrx hry).mpr w; rw [iI_0] at w2; exact w2))) ls H locs hl hW hS hc1 hs1)
  | ge => exact lv_if_ge hx hb hd hj (fun z => hk _ _ _ _ _ _ (hs.1 ((iI_le hry hrx).mp (by rw [iI_0]; exact z))) ls H locs hl hW hS hc1 hs1) (fun z => hk _ _ _ _ _ _ (hs.2 (fun w => z (by have w2 := (iI_le hry hrx).mpr w; rw [iI_0] at w2; exact w2))) ls H locs hl hW hS hc1 hs1)
  | gt => exact lv_if_gt hx hb hd hj (fun z => hk _ _ _ _ _ _ (hs.1 ((iI_lt hry hrx).mp (by rw [iI_0]; exact z))) ls H locs hl hW hS hc1 hs1) (fun z => hk _ _ _ _ _ _ (hs.2 (fun w => z (by have w2 := (iI_lt hry hrx).mpr w; rw [iI_0] at w2; exact w2))) ls H locs hl hW hS hc1 hs1)
  | le => exact lv_if_le hx hb hd hj (fun z => hk _ _ _ _ _ _ (hs.1 ((iI_le hrx hry).mp (by rw [iI_0]; exact z))) ls H locs hl hW hS hc1 hs1) (fun z => hk _ _ _ _ _ _ (hs.2 (fun w => z (by have w2 := (iI_le hrx hry).mpr w; rw [iI_0] at w2; exact w2))) ls H locs hl hW hS hc1 hs1)
  | ne => exact lv_if_ne hx hb hd hj (fun z => hk _ _ _ _ _ _ (hs.1 (fun w => z (by have w2 := (iI_inj hrx hry).mpr w; rw [iI_0] at w2; exact w2))) ls H locs hl hW hS hc1 hs1) (fun z => hk _ _ _ _ _ _ (hs.2 ((iI_inj hrx hry).mp (by rw [iI_0]; exact z))) ls H locs hl hW hS hc1 hs1)

end SND
