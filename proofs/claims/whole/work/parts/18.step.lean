/-! ===== the whole step, and the contracts of all methods ===== -/
theorem lay_e : ∀ {n : Nat} {as : List AV} {k : List AV → Prop}, layK n as k → ∃ al : List AV, k al ∧ al.length = n ∧ ∀ (G : GT), (lg_sl (as.map (cV G))).length ≤ n ∧ ∀ (o i : Nat) (v : AV), al[i]? = some v → v ≠ vN → (o + i, cV G v) ∈ lv_args o (as.map (cV G))
  | 0, [], k, h => ⟨[], h, rfl, fun G => ⟨Nat.le_refl _, fun o i v hi => by simp at hi⟩⟩
  | n + 1, [], k, h => by
    obtain ⟨al, h1, h2, h3⟩ := lay_e (n := n) (as := []) h
    refine ⟨vN :: al, h1, by rw [List.length_cons, h2], fun G => ⟨Nat.zero_le _, fun o i v hi hv => ?_⟩⟩
    cases i with
    | zero => exact absurd (Option.some.inj hi).symm hv
    | succ i => exact absurd ((h3 G).2 o i v (by simpa using hi) hv) (by simp [lv_args])
  | n + 2, .inr (.inl x) :: r, k, h => by
    obtain ⟨al, h1, h2, h3⟩ := lay_e (n := n) (as := r) h
    refine ⟨vL x :: vN :: al, h1, by simp [h2], fun G => ⟨?_, fun o i v hi hv => ?_⟩⟩
    · have := (h3 G).1
      show (lg_sl (Value.long x :: r.map (cV G))).length ≤ n + 2
      simp only [lg_sl, List.flatMap_cons, List.length_append] at this ⊢
      have e : (if (Value.long x).category = 2 then [Slot.val (Value.long x), Slot.second] else [Slot.val (Value.long x)]).length = 2 := rfl
      omega
    · show (o + i, cV G v) ∈ (o, Value.long x) :: lv_args (o + 2) (r.map (cV G))
      match i with
      | 0 => cases hi; exact List.mem_cons_self
      | 1 => exact absurd (Option.some.inj hi).symm hv
      | i + 2 =>
        have := (h3 G).2 (o + 2) i v (by simpa using hi) hv
        rw [show o + 2 + i = o + (i + 2) by omega] at this
        exact List.mem_cons_of_mem _ this
  | n + 1, .inl x :: r, k, h => by
    obtain ⟨al, h1, h2, h3⟩ := lay_e (n := n) (as := r) h
    refine ⟨vI x :: al, h1, by simp [h2], fun G => ⟨?_, fun o i v hi hv => ?_⟩⟩
    · have := (h3 G).1
      show (lg_sl (Value.int (iI x) :: r.map (cV G))).length ≤ n + 1
      simp only [lg_sl, List.flatMap_cons, List.length_append] at this ⊢
      have e : (if (Value.int (iI x)).category = 2 then [Slot.val (Value.int (iI x)), Slot.second] else [Slot.val (Value.int (iI x))]).length = 1 := rfl
      omega
    · show (o + i, cV G v) ∈ (o, Value.int (iI x)) :: lv_args (o + 1) (r.map (cV G))
      match i with
      | 0 => cases hi; exact List.mem_cons_self
      | i + 1 =>
        have := (h3 G).2 (o + 1) i v (by simpa using hi) hv
        rw [show o + 1 + i = o + (i + 1) by omega] at this
        exact List.mem_cons_of_mem _ this
  | n + 1, .inr (.inr x) :: r, k, h => by
    obtain ⟨al, h1, h2, h3⟩ := lay_e (n := n) (as := r) h
    refine ⟨.inr (.inr x) :: al, h1, by simp [h2], fun G => ⟨?_, fun o i v hi hv => ?_⟩⟩
    · have := (h3 G).1
      show (lg_sl (cV G (.inr (.inr x)) :: r.map (cV G))).length ≤ n + 1
      simp only [lg_sl, List.flatMap_cons, List.length_append] at this ⊢
      have e : (if (cV G (.inr (.inr x))).category = 2 then [Slot.val (cV G (.inr (.inr x))), Slot.second] else [Slot.val (cV G (.inr (.inr x)))]).length = 1 := by cases x <;> rfl
      omega
    · have e : lv_args o ((.inr (.inr x) :: r).map (cV G)) = (o, cV G (.inr (.inr x))) :: lv_args (o + 1) (r.map (cV G)) := by cases x <;> rfl
      rw [e]
      match i with
      | 0 => cases hi; exact List.mem_cons_self
      | i + 1 =>
        have := (h3 G).2 (o + 1) i v (by simpa using hi) hv
        rw [show o + 1 + i = o + (i + 1) by omega] at this
        exact List.mem_cons_of_mem _ this
  | 0, _ :: _, k, h => h.elim
  | 1, .inr (.inl x) :: r, k, h => h.elim
theorem okL_e {LL : Nat → Bool} : ∀ {l : List AV} {o : Nat}, okL LL o l = true → (∀ (i : Nat) (x : Int64), l[i]? = some (vL x) → LL (o + i) = true) ∧ ∀ (i : Nat) (v : AV), i < l.length → LL (o + i) = true → l[i + 1]? = some v → v = vN
  | [], o, _ => ⟨fun i x h => by simp at h, fun i v h => by simp at h⟩
  | w :: r, o, h => by
    have h2 : ((one w || LL o) && (!(LL o) || nxN r) && okL LL (o + 1) r) = true := h
    rw [Bool.and_eq_true, Bool.and_eq_true] at h2
    obtain ⟨⟨h3, h4⟩, h5⟩ := h2
    obtain ⟨h6, h7⟩ := okL_e h5
    refine ⟨fun i x hi => ?_, fun i v hl hL hi => ?_⟩
    · cases i with
      | zero =>
        have : w = vL x := by simpa using hi
        subst this
        have h3 : (false || LL o) = true := h3
        simpa using h3
      | succ i =>
        have := h6 i x (by simpa using hi)
        rw [show o + 1 + i = o + (i + 1) by omega] at this
        exact this
    · cases i with
      | zero =>
        have hL : LL o = true := hL
        rw [hL] at h4
        have h4 : nxN r = true := by simpa using h4
        match r, h4, hi with
        | .inr (.inr none) :: _, _, hi => exact (by simpa using hi : vN = v).symm
      | succ i =>
        rw [show o + (i + 1) = o + 1 + i by omega] at hL
        exact h7 i v (by simpa using hl) hL (by simpa using hi)
theorem MLL_6 {m i : Nat} (h : MLq m i = true) : i < 6 := by
  unfold MLq at h
  cases hb : Nat.blt i 6 with
  | false => rw [hb] at h; cases h
  | true => exact blt_t hb
theorem MLL_all : (List.range 190).all (fun m => (List.range 6).all (fun i => !(MLq m i) || Nat.blt (i + 1) (ML m))) = true := by decide +kernel
theorem MLL_lt {m i : Nat} (hm : m < 190) (h : MLq m i = true) : i + 1 < ML m := by
  have h1 := List.all_eq_true.mp (List.all_eq_true.mp MLL_all m (List.mem_range.mpr hm)) i (List.mem_range.mpr (MLL_6 h))
  rw [h] at h1
  exact blt_t (by simpa using h1)
def RetOK (p : Program) (l : Launch) (e : Env) (R : Room) (s : State) (mid : MethodId) (args : Array Value) (below : List Frame) (meth : Method) (cd : Code) (G : GT) (mm mc ms : Nat) (Q : Option AV → AH → Prop) (QQ : State → Prop) : Prop :=
  (∀ (pc : Nat) (x : Int) (h : AH) (H : Heap) (locs : List Loc) (ls : Array Slot) (c' s' : Nat), Q (some (vI x)) h → WH G h H → va_S (AA G) s.heap H locs → c' ≤ mc → s' ≤ ms → decode (Mb mm) pc = .ok (.ireturn, 1) → (Mr mm = some .int ∨ (Mr mm = some .boolean ∧ (x = 0 ∨ x = 1))) → W p l e R s mid args below meth cd H locs c' s' QQ (F0 mid pc ls [.int (iI x)])) ∧
  (∀ (pc : Nat) (x : Int64) (h : AH) (H : Heap) (locs : List Loc) (ls : Array Slot) (c' s' : Nat), Q (some (vL x)) h → WH G h H → va_S (AA G) s.heap H locs → c' ≤ mc → s' ≤ ms → decode (Mb mm) pc = .ok (.lreturn, 1) → Mr mm = some .long → W p l e R s mid args below meth cd H locs c' s' QQ (F0 mid pc ls [.long x])) ∧
  (∀ (pc : Nat) (h : AH) (H : Heap) (locs : List Loc) (ls : Array Slot) (c' s' : Nat), Q none h → WH G h H → va_S (AA G) s.heap H locs → c' ≤ mc → s' ≤ ms → decode (Mb mm) pc = .ok (.return_, 1) → Mr mm = none → W p l e R s mid args below meth cd H locs c' s' QQ (F0 mid pc ls []))
