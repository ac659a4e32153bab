/-! ===== new int[n][m] ===== -/
theorem cWl_append (G : GT) : ∀ (l1 l2 : List AC) (o : Nat), cWl G o (l1 ++ l2) = cWl G o l1 ++ cWl G (o + l1.length) l2
  | [], l2, o => rfl
  | c :: l1, l2, o => by
    show (o, cC G c) :: cWl G (o + 1) (l1 ++ l2) = (o, cC G c) :: (cWl G (o + 1) l1 ++ cWl G (o + (l1.length + 1)) l2)
    rw [cWl_append G l1 l2 (o + 1), show o + 1 + l1.length = o + (l1.length + 1) by omega]
theorem WH_app {G : GT} {h : AH} {H H1 : Heap} {l : List AC} (hW : WH G h H) (h2 : h.2 = []) (hlen : h.1.length + l.length ≤ 200) (hz : H1.size = H.size + l.length) (ho : ∀ q : Nat, q < H.size → H1[q]? = H[q]?) (hc : ∀ (k : Nat) (c : AC), l[k]? = some c → va_at G.2.2.2.2.1 vwCl (H.size + k, cC G c) H1) : WH G (h.1 ++ l, []) H1 := by
  obtain ⟨hP, h1, -, h3, h4⟩ := hW
  have e1 : H.size = G.1 + h.1.length := by rw [h1, h2]; rfl
  refine ⟨?_, ?_, Or.inl rfl, ?_, Nat.zero_le _⟩
  · have hP1 : va_P G.2.2.2.2.1 vwCl (cW G h) H1 := hP.kept (fun k x hx => ho x.1 (hP k x hx).lt)
    have : cW G (h.1 ++ l, []) = cW G h ++ cWl G H.size l := by
      unfold cW
      rw [h2]
      show cWl G G.1 (h.1 ++ l) ++ [] = cWl G G.1 h.1 ++ [] ++ _
      rw [List.append_nil, List.append_nil, cWl_append, e1]
    rw [this]
    refine hP1.app (fun k x hx => ?_)
    rw [cWl_get] at hx
    cases hl : l[k]? with
    | none => rw [hl] at hx; cases hx
    | some c => rw [hl] at hx; cases hx; exact hc k c hl
  · rw [hz, e1]; simp only [List.length_append, List.length_nil]; omega
  · simp only [List.length_append]; omega
theorem hNs_e {c : AC} {f : AH → Prop} : ∀ {n : Nat} {h : AH}, h.2 = [] → h.1.length ≤ 200 → hNs c n h f → f (h.1 ++ List.replicate n c, []) ∧ h.1.length + n ≤ 200
  | 0, (a, b), h2, h3, q => by
    have h2 : b = [] := h2
    subst h2
    show f (a ++ [], []) ∧ _
    rw [List.append_nil]
    exact ⟨q, h3⟩
  | n + 1, (a, b), h2, h3, q => by
    have h2 : b = [] := h2
    subst h2
    rcases hN_e q with ⟨-, -, g3, g4⟩ | ⟨g1, -⟩
    · have g3 : a.length < 200 := g3
      obtain ⟨w1, w2⟩ := hNs_e (n := n) (h := (a ++ [c], [])) rfl (by simp only [List.length_append, List.length_cons, List.length_nil]; omega) g4
      refine ⟨?_, by simp only [List.length_append, List.length_cons, List.length_nil] at w2; show a.length + (n + 1) ≤ 200; omega⟩
      have e : a ++ List.replicate (n + 1) c = a ++ [c] ++ List.replicate n c := by rw [List.replicate_succ, List.append_assoc]; rfl
      show f (a ++ List.replicate (n + 1) c, [])
      rw [e]
      exact w1
    · exact absurd rfl g1
theorem arrV_eq {c : ClassId} {N : Nat} {f g : Nat → Value} (h : ∀ j, j < N → f j = g j) : arrV c N f = arrV c N g := by
  unfold arrV
  congr 1
  congr 1
  funext j
  exact h j.val j.isLt
/-! the model's own step of multianewarray with two dimensions, walked by rows of the library outside Shelf42 -/
/-- the outer array when i of its rows are there: they lie behind it, in their order -/
def muO (cA : ClassId) (N a i : Nat) : Cell := arrV cA N (fun j => va_rf (if j < i then some (a + 1 + j) else none))
/-- an inner array as it is made -/
def muI (cI : ClassId) (M : Nat) : Cell := arrV cI M (fun _ => defaultValue FieldType.int)
theorem muO_0 (cA : ClassId) (N a : Nat) : ({ cls := cA, slots := Array.replicate N Value.null, vm := .none } : Cell) = muO cA N a 0 := arrV_new cA N Value.null
theorem muI_0 (cI : ClassId) (M : Nat) : ({ cls := cI, slots := Array.replicate M (defaultValue FieldType.int), vm := .none } : Cell) = muI cI M := arrV_new cI M _
theorem muO_s (cA : ClassId) (N a i : Nat) : (muO cA N a i).setSlot i (.ref (a + 1 + i)) = muO cA N a (i + 1) := by
  unfold muO
  rw [arrV_store]
  refine arrV_eq fun j _ => ?_
  unfold updV
  split
  · next h => rw [h, if_pos (Nat.lt_succ_self i)]; rfl
  · next h =>
    show va_rf (if j < i then some (a + 1 + j) else none) = _
    by_cases hj : j < i
    · rw [if_pos hj, if_pos (Nat.lt_succ_of_lt hj)]
    · rw [if_neg hj, if_neg (by omega)]
/-- V is B with the outer array at its end and i inner ones behind that -/
def muR (B : State) (cA cI : ClassId) (N M i : Nat) (V : State) : Prop :=
  V.vm = B.vm ∧ V.heap.size = B.heap.size + 1 + i ∧ V.heap[B.heap.size]? = some (muO cA N B.heap.size i) ∧ (∀ x : Nat, x < B.heap.size → V.heap[x]? = B.heap[x]?) ∧ ∀ j : Nat, j < i → V.heap[B.heap.size + 1 + j]? = some (muI cI M)
/-- one inner array more, and its reference in the outer one -/
def muN (B : State) (cA cI : ClassId) (N M i : Nat) (V : State) : State := (V.pushCell (muI cI M)).setCell B.heap.size (muO cA N B.heap.size (i + 1))
theorem muR_0 (B : State) (cA cI : ClassId) (N M : Nat) : muR B cA cI N M 0 (B.pushCell (muO cA N B.heap.size 0)) :=
  ⟨rfl, by simp, State.heap_pushCell_size _ _, fun x hx => State.heap_pushCell_of_lt _ _ hx, fun j hj => absurd hj (Nat.not_lt_zero j)⟩
theorem muR_outer {B : State} {cA cI : ClassId} {N M i : Nat} {V : State} (h : muR B cA cI N M i V) : (V.pushCell (muI cI M)).heap[B.heap.size]? = some (muO cA N B.heap.size i) := by
  obtain ⟨-, h2, h3, -, -⟩ := h
  rw [State.heap_pushCell_of_lt _ _ (show B.heap.size < V.heap.size by omega)]
  exact h3
theorem muR_s {B : State} {cA cI : ClassId} {N M i : Nat} {V : State} (h : muR B cA cI N M i V) : muR B cA cI N M (i + 1) (muN B cA cI N M i V) := by
  have ho := muR_outer h
  obtain ⟨h1, h2, h3, h4, h5⟩ := h
  have hz : (muN B cA cI N M i V).heap.size = V.heap.size + 1 := by unfold muN; simp [State.setCell]
  refine ⟨h1, by rw [hz]; omega, State.heap_setCell_self ho, fun x hx => ?_, fun j hj => ?_⟩
  · show ((V.pushCell (muI cI M)).setCell B.heap.size _).heap[x]? = _
    rw [State.heap_setCell_other (show B.heap.size ≠ x by omega), State.heap_pushCell_of_lt _ _ (show x < V.heap.size by omega)]
    exact h4 x hx
  · show ((V.pushCell (muI cI M)).setCell B.heap.size _).heap[B.heap.size + 1 + j]? = _
    rw [State.heap_setCell_other (show B.heap.size ≠ B.heap.size + 1 + j by omega)]
    by_cases e : j = i
    · rw [e, ← h2]
      exact State.heap_pushCell_size _ _
    · rw [State.heap_pushCell_of_lt _ _ (show B.heap.size + 1 + j < V.heap.size by omega)]
      exact h5 j (by omega)
/-- a loop of steps that are known one by one: where it comes to is known ahead of what is asked of it -/
theorem mu_loop {N : Nat} {Pm : Nat → State → Prop} {nx : Nat → State → State} (hn : ∀ i V, i < N → Pm i V → Pm (i + 1) (nx i V)) : ∀ (k i : Nat) (V : State), i + k = N → Pm i V → ∃ U, Pm N U ∧
    ∀ (E : CtlPost) (e : Env) (g : JFrame) (f : Nat → PUnit → Sem (ForInStep PUnit)),
      (∀ (i : Nat) (V : State) (d : Bool) (acts : List Action) (Q : ForInStep PUnit → Pre), i < N → Pm i V → (∀ d' acts', Q (ForInStep.yield PUnit.unit) d' acts' ((nx i V).setTop g)) → wp (f i PUnit.unit) Q E e d acts (V.setTop g)) →
      ∀ (d : Bool) (acts : List Action) (Q : PUnit → Pre), (∀ d' acts', Q PUnit.unit d' acts' (U.setTop g)) → wp (forIn (List.range' i k) PUnit.unit f) Q E e d acts (V.setTop g)
  | 0, i, V, hk, hP => ⟨V, by rw [← hk]; exact hP, fun E e g f _ d acts Q hq => by
      show wp (forIn [] PUnit.unit f) Q E e d acts (V.setTop g)
      rw [List.forIn_nil]
      exact hq d acts⟩
  | k + 1, i, V, hk, hP => by
    obtain ⟨U, hU, hw⟩ := mu_loop hn k (i + 1) (nx i V) (by omega) (hn i V (by omega) hP)
    refine ⟨U, hU, fun E e g f hf d acts Q hq => ?_⟩
    rw [List.range'_succ, List.forIn_cons, wp_bind']
    exact hf i V d acts _ (by omega) hP fun d' acts' => hw E e g f hf d' acts' Q hq
theorem mu_over {args : Array Value} {s : State} (h : (Cond.arrayOver (.array .int)).before args s = true) : ∃ (cI cA : ClassId) (k : Class), s.vm.findClass (FieldType.array .int).toString = some cI ∧ s.vm.findClass ("[" ++ (FieldType.array .int).toString) = some cA ∧ s.vm.classes[cA]? = some k ∧ k.kind = .array cI (.array .int) := by
  have h1 : (Cond.arrayOver (.array .int)).value args s none s [] = some true := eq_of_beq h
  unfold Cond.value at h1
  obtain ⟨cI, hI, h2⟩ := Option.bind_eq_some_iff.mp h1
  obtain ⟨cA, hA, h3⟩ := Option.bind_eq_some_iff.mp h2
  obtain ⟨k, hk, h4⟩ := Option.map_eq_some_iff.mp h3
  obtain ⟨hlt, hp, -⟩ := Array.findIdx?_eq_some_iff_getElem.mp hA
  have e : s.vm.classes[cA] = k := (Array.getElem?_eq_some_iff.mp hk).2
  rw [e] at hp
  refine ⟨cI, cA, k, hI, ?_⟩
  cases hkk : k.kind with
  | array c ty =>
    rw [hkk] at hp h4
    have h5 : c = cI := eq_of_beq hp
    have h6 := Bool.and_eq_true_iff.mp h4
    have h7 : ty = .array .int := of_decide_eq_true h6.1
    rw [h5, h7]
    exact ⟨of_decide_eq_true h6.2, hk, rfl⟩
  | _ => rw [hkk] at hp; cases hp
section MU
variable {E : CtlPost} {e : Env} {d : Bool} {acts : List Action} {V : State}
/-- an inner array, as 'make' makes it -/
theorem mu_make1 {cI cc : ClassId} {kI : Class} {m : Int32} {M : Nat} (hk : V.vm.classes[cI]? = some kI) (hkind : kI.kind = .array cc .int) (hm : ¬ m < 0) (hM : m.toNatClampNeg = M) (hl : ¬ M > e.platform.arrayLengthLimit) (hh : ¬ M * componentBytes .int > e.platform.maxHeapBytes)
    (hc : V.heap.size < e.platform.maxCells) (hs : V.slotsUsed + M ≤ e.platform.maxSlots) {Q : Addr → Pre} (hq : ∀ acts', Q V.heap.size d acts' (V.pushCell (muI cI M))) : wp (multianewarray.make cI [m]) Q E e d acts V := by
  subst hM
  unfold multianewarray.make
  simp only [wp_bind', Jvm.W.ite, hm, if_false, wp_pure', Jvm.W.theClass, hk, hkind, Option.some.injEq, exists_eq_left']
  refine W.newArray_of hk hkind hl hh hc hs (fits_default _) fun acts' => ?_
  have z := hq acts'
  rw [← muI_0] at z
  exact z
/-- the outer array, as 'make' makes it: what its loop does is left to the caller -/
theorem mu_make2 {cA cI : ClassId} {kA : Class} {n m : Int32} {N : Nat} (hk : V.vm.classes[cA]? = some kA) (hkind : kA.kind = .array cI (.array .int)) (hn : ¬ n < 0) (hm : ¬ m < 0) (eN : n.toNatClampNeg = N) (hl : ¬ N > e.platform.arrayLengthLimit) (hh : ¬ N * componentBytes (.array .int) > e.platform.maxHeapBytes)
    (hc : V.heap.size < e.platform.maxCells) (hs : V.slotsUsed + N ≤ e.platform.maxSlots) {Q : Addr → Pre}
    (hq : ∀ (acts' : List Action) (f : Nat → PUnit → Sem (ForInStep PUnit)), (∀ (i : Nat) (d' : Bool) (acts'' : List Action) (V' : State) (Q' : ForInStep PUnit → Pre), wp (multianewarray.make cI [m]) (fun a => wp (Jvm.writeLoc V.heap.size i (.ref a)) (fun _ => Q' (ForInStep.yield PUnit.unit)) E e) E e d' acts'' V' → wp (f i PUnit.unit) Q' E e d' acts'' V') →
      wp (forIn (List.range' 0 N) PUnit.unit f) (fun _ => Q V.heap.size) E e d acts' (V.pushCell (muO cA N V.heap.size 0))) : wp (multianewarray.make cA [n, m]) Q E e d acts V := by
  subst eN
  have hfd : ([m].find? (· < 0)) = none := by simp [hm]
  rw [multianewarray.make]
  simp only [wp_bind', Jvm.W.ite, hn, if_false, wp_pure', Jvm.W.theClass, hk, hkind, Option.some.injEq, exists_eq_left']
  refine W.newArray_of hk hkind hl hh hc hs rfl fun acts' => ?_
  rw [show ({ cls := cA, slots := Array.replicate n.toNatClampNeg Value.null } : Cell) = muO cA n.toNatClampNeg V.heap.size 0 from muO_0 _ _ _]
  simp only [hfd, ite_self]
  rw [wp_bind', Std.Legacy.Range.forIn_eq_forIn_range', show ([:n.toNatClampNeg] : Std.Legacy.Range).size = n.toNatClampNeg by simp [Std.Legacy.Range.size]]
  refine hq acts' _ fun i d' acts'' V' Q' h => ?_
  simp only [wp_bind', wp_pure']
  exact h
end MU
section MU2
variable {p : Program} {l : Launch} {e : Env} {R : Room} {s : State} {mid : MethodId} {args : Array Value} {below : List Frame} {meth : Method} {cd : Code} {T : State} {locs : List Loc} {cells slots : Nat}
/-- the rows of Stand along the loop -/
theorem mu_stand {B V : State} {cA cI : ClassId} {N M i : Nat} (hB : s.heap.size ≤ B.heap.size) (h : muR B cA cI N M i V) (X : Stand p l e R s mid args below meth cd V locs (cells + 1 + i) (slots + N + i * M)) : Stand p l e R s mid args below meth cd (muN B cA cI N M i V) locs (cells + 1 + (i + 1)) (slots + N + (i + 1) * M) := by
  have X1 := (X.pushed (muI cI M)).stored (muR_outer h) i (.ref (B.heap.size + 1 + i))
  rw [muO_s, show (muI cI M).slots.size = M from arrV_size _ _ _] at X1
  have X2 := X1.dropFresh fun x hx => by
    rw [List.mem_singleton.mp hx]
    exact hB
  rw [show slots + N + (i + 1) * M = slots + N + i * M + M by rw [Nat.succ_mul]; omega]
  exact X2
theorem mu_step (X : Stand p l e R s mid args below meth cd T locs cells slots) (hx : p.tables.exec = Jvm.exec) {own : String} {ix : Nat} (hown : s.vm.findClass own = some mid.cls) {a2 : Array Value}
    (hlk : (Cond.classLink own ix ("[" ++ (FieldType.array .int).toString)).before args s = true) (hov : (Cond.arrayOver (.array .int)).before a2 s = true) (har : (Cond.arrayClass .int).before args s = true)
    {g : JFrame} (hg : g.method = mid) (hd : decode cd.code g.pc = .ok (.multianewarray ix 2, 4)) {r : List Value} {n m : Int32} {N M : Nat} (hst : g.stack = .int m :: .int n :: r) (hn : ¬ n < 0) (hm : ¬ m < 0) (eN : n.toNatClampNeg = N) (eM : m.toNatClampNeg = M) (hN : N < 1000) (hM : M < 1000)
    (hc : cells + (1 + N) ≤ R.cells) (hs : slots + (N + N * M) ≤ R.slots) :
    ∃ (vm1 : Vm) (cA cI : ClassId) (U : State), s.vm.findClass ("[" ++ (FieldType.array .int).toString) = some cA ∧ s.vm.findClass (FieldType.array .int).toString = some cI ∧ muR (T.setVm vm1) cA cI N M N U ∧ Stand p l e R s mid args below meth cd U locs (cells + 1 + N) (slots + N + N * M) ∧
      ∀ t, Steps p.tables e below (U.setTop { g with pc := g.pc + 4, stack := .ref T.heap.size :: r }) t → Steps p.tables e below (T.setTop g) t := by
  subst hg
  obtain ⟨cI, cA, kA, fI, fA, hkA, hkindA⟩ := mu_over hov
  obtain ⟨cI', kI, cc, fI', hkI, hkindI⟩ := Cond.arrayClass_spec har
  have eI : cI' = cI := Option.some.inj (fI'.symm.trans fI)
  subst eI
  obtain ⟨c0, f0, hcl⟩ := Cond.classLink_spec hown hlk e.platform (by rw [X.admits.platform])
  have e0 : c0 = cA := Option.some.inj (f0.symm.trans fA)
  subst e0
  obtain ⟨hgv, hwm, -⟩ := State.classEntry (e := e) X.warmed hcl
  generalize T.vm.noted g.method.cls ix (.cls c0) = vm1 at hgv hwm
  obtain ⟨kA1, hkA1, eA1⟩ := hwm.alike.2.2 _ _ hkA
  obtain ⟨kI1, hkI1, eI1⟩ := hwm.alike.2.2 _ _ hkI
  have hkindA1 : kA1.kind = .array cI' (.array .int) := by rw [eA1]; exact hkindA
  have hkindI1 : kI1.kind = .array cc .int := by rw [eI1]; exact hkindI
  have hB : s.heap.size ≤ (T.setVm vm1).heap.size := X.heapGrown
  have X0 := (X.noted hwm).pushed (muO c0 N (T.setVm vm1).heap.size 0)
  rw [show (muO c0 N (T.setVm vm1).heap.size 0).slots.size = N from arrV_size _ _ _] at X0
  obtain ⟨U, ⟨hU, XU⟩, hloop⟩ := mu_loop (N := N) (Pm := fun i V => muR (T.setVm vm1) c0 cI' N M i V ∧ Stand p l e R s g.method args below meth cd V locs (cells + 1 + i) (slots + N + i * M)) (nx := fun i V => muN (T.setVm vm1) c0 cI' N M i V)
    (fun i V _ h => ⟨muR_s h.1, mu_stand hB h.1 h.2⟩) N 0 _ (Nat.zero_add N) ⟨muR_0 (T.setVm vm1) c0 cI' N M, by rw [Nat.zero_mul]; exact X0⟩
  refine ⟨vm1, c0, cI', U, fA, fI, hU, XU, fun t ht => ?_⟩
  obtain ⟨r1, r2⟩ := X.roomAbove hc hs
  have l1 : ¬ N > e.platform.arrayLengthLimit := by rw [Launch.admits_arrayLengthLimit X.admits]; omega
  have l2 : ¬ M > e.platform.arrayLengthLimit := by rw [Launch.admits_arrayLengthLimit X.admits]; omega
  have l3 : ¬ N * componentBytes (.array .int) > e.platform.maxHeapBytes := by
    rw [Launch.admits_maxHeapBytes X.admits]
    show ¬ N * 4 > 536870912
    omega
  have l4 : ¬ M * componentBytes .int > e.platform.maxHeapBytes := by
    rw [Launch.admits_maxHeapBytes X.admits]
    show ¬ M * 4 > 536870912
    omega
  jvm_step X.here [hx, hd]
  simp only [multianewarray.sem, wp_bind', W.resolveClassAt_links (State.method?_setTop g X.here.top) hgv]
  rw [Jvm.W.popN, if_neg (by decide)]
  refine ⟨g, State.topJava?_setTop' (s := T.setVm vm1) g X.here.top, [.int n, .int m], r, rfl, hst, ?_⟩
  simp only [List.mapM_cons, List.mapM_nil, wp_bind', wp_pure']
  rw [show ((T.setTop g).setVm vm1).setTop { g with stack := r } = (T.setVm vm1).setTop { g with stack := r } from State.setTop_setTop (T.setVm vm1) g _]
  refine mu_make2 (kA := kA1) hkA1 hkindA1 hn hm eN l1 l3 (by show T.heap.size < _; omega) (by show T.slotsUsed + N ≤ _; omega) fun acts' f hf => ?_
  refine hloop _ e { g with stack := r } f (fun i V d acts Q hi hV hq => hf i d acts _ Q ?_) _ acts' _ fun d' acts'' => ?_
  · obtain ⟨hR, XV⟩ := hV
    have hMM : i * M + M ≤ N * M := by
      rw [← Nat.succ_mul]
      exact Nat.mul_le_mul_right M hi
    obtain ⟨q1, q2⟩ := XV.roomAbove (a := 1) (b := M) (by omega) (by omega)
    have eo : (muO c0 N (T.setVm vm1).heap.size i).setSlot i (.ref V.heap.size) = muO c0 N (T.setVm vm1).heap.size (i + 1) := by
      rw [hR.2.1, muO_s]
    refine mu_make1 (V := V.setTop { g with stack := r }) (kI := kI1) (cc := cc) (by show V.vm.classes[cI']? = _; rw [hR.1]; exact hkI1) hkindI1 hm eM l2 l4 (by show V.heap.size < _; omega) q2 fun acts' => ?_
    have hu : (muO c0 N (T.setVm vm1).heap.size i).vm ≠ .unknown := fun z => nomatch z
    refine (Jvm.W.writeLoc _ _ _ _).mpr ⟨muO c0 N (T.setVm vm1).heap.size i, muR_outer hR, hu, ?_, ?_, ?_⟩
    · rw [show (muO c0 N (T.setVm vm1).heap.size i).slots.size = N from arrV_size _ _ _]
      exact hi
    · have hv : V.vm.classes[c0]? = some kA1 := by
        rw [hR.1]
        exact hkA1
      show State.fitsSlot _ c0 .none i _ = true
      simp [State.fitsSlot, State.slotType?, hv, hkindA1, fits]
    · show Q _ true _ (((V.pushCell (muI cI' M)).setCell (T.setVm vm1).heap.size ((muO c0 N (T.setVm vm1).heap.size i).setSlot i (.ref V.heap.size))).setTop { g with stack := r })
      rw [eo]
      exact hq true _
  · simp only [wp_bind', Jvm.W.mark, Jvm.W.pushRef, State.topJava?_setTop' _ XU.here.top, Option.some.injEq, exists_eq_left', State.setTop_setTop, State.heap_setTop]
    simp [jvm, XU.here.top]
    exact ht
end MU2
section SND5
variable {p : Program} {l : Launch} {e : Env} {R : Room} {s : State} {mid : MethodId} {args : Array Value} {below : List Frame} {meth : Method} {cd : Code} {QQ : State → Prop}
variable {G : GT} {mm dep mc ms : Nat} {Q : Option AV → AH → Prop} {pc : Nat} {al st : List AV} {h : AH} {c' s' : Nat} {k0 : KT} {ln nx x1 x2 : Nat}

theorem s_multi {i d : Nat} (C : CX p l e R s mid args below meth cd G mm dep mc ms) (hk : ∀ a1 a2 a3 a4 a5 a6, k0 a1 a2 a3 a4 a5 a6 → XX p l e R s mid args below meth cd G mm mc ms QQ a1 a2 a3 a4 a5 a6) (hd : decode (Mb mm) pc = .ok (.multianewarray i d, ln)) (hln : lenOK (.multianewarray i d) ln = true) (hX : okX mm pc (.multianewarray i d) x1 x2 = true) (hs : pI st fun n r => pI r fun o r => cond (Nat.ble (c' + 1 + o.toNat) mc && Nat.ble (s' + o.toNat + o.toNat * n.toNat) ms && Nat.blt n.toNat 1000 && Nat.blt o.toNat 1000) (0 ≤ n ∧ 0 ≤ o ∧ hN (cII o.toNat (fun j => some (h.1.length + 1 + j.toNat))) (fun q h' => hNs (cI n.toNat (fun _ => 0)) o.toNat h' (fun h'' => k0 (pc + ln) al (vR q :: r) h'' (c' + 1 + o.toNat) (s' + o.toNat + o.toNat * n.toNat))) h 0) False) : XX p l e R s mid args below meth cd G mm mc ms QQ pc al st h c' s' := by
  obtain ⟨hx, hb, hml, hown, hts, hT, hin, hsz, hfr, hlo, hmc, hms, hmm⟩ := C
  obtain rfl := Nat.eq_of_beq_eq_true hln
  have hX2 : (Nat.beq (Mo mm) 3 && Nat.beq i 19 && Nat.beq d 2) = true := hX
  rw [Bool.and_eq_true, Bool.and_eq_true] at hX2
  have e5 := Nat.eq_of_beq_eq_true hX2.1.1
  have e6 := Nat.eq_of_beq_eq_true hX2.1.2
  have e7 := Nat.eq_of_beq_eq_true hX2.2
  subst e6
  subst e7
  rw [e5] at hown
  obtain ⟨n, r, rfl, hp0⟩ := pI_e hs
  obtain ⟨o, r, rfl, hp1⟩ := pI_e hp0
  obtain ⟨hbud, hn0, ho0, hp2⟩ := cond_t hp1
  rw [Bool.and_eq_true, Bool.and_eq_true, Bool.and_eq_true] at hbud
  have hb1 := Nat.le_of_ble_eq_true hbud.1.1.1
  have hb2 := Nat.le_of_ble_eq_true hbud.1.1.2
  have hb3 := blt_t hbud.1.2
  have hb4 := blt_t hbud.2
  obtain ⟨g2, g3, hp3⟩ : h.2 = [] ∧ h.1.length < 200 ∧ hNs (cI n.toNat (fun _ => 0)) o.toNat (h.1 ++ [cII o.toNat (fun j => some (h.1.length + 1 + j.toNat))], []) (fun h'' => k0 (pc + 4) al (vR h.1.length :: r) h'' (c' + 1 + o.toNat) (s' + o.toNat + o.toNat * n.toNat)) := by
    rcases hN_e hp2 with ⟨-, z2, z3, z4⟩ | ⟨z1, -⟩
    · exact ⟨z2, z3, z4⟩
    · exact absurd rfl z1
  obtain ⟨hp4, hlen⟩ := hNs_e rfl (by simp only [List.length_append, List.length_cons, List.length_nil]; omega) hp3
  have hlen : h.1.length + 1 + o.toNat ≤ 200 := by simp only [List.length_append, List.length_cons, List.length_nil] at hlen; omega
  intro ls H locs hl hW hS hc1 hs1
  have hnn : ¬ iI n < 0 := fun z => by
    rw [← iI_0, iI_lt (by unfold rg; omega) rg_0] at z
    omega
  have hno : ¬ iI o < 0 := fun z => by
    rw [← iI_0, iI_lt (by unfold rg; omega) rg_0] at z
    omega
  have k1 : (iI n).toNatClampNeg = n.toNat := iI_clamp hn0 (by omega)
  have k2 : (iI o).toNatClampNeg = o.toNat := iI_clamp ho0 (by omega)
  have hH : H.size = G.1 + h.1.length := by rw [hW.2.1, g2]; rfl
  have e8 : (FieldType.array FieldType.int).toString = "[" ++ FieldType.int.toString := by decide +kernel
  intro T hTH X
  obtain ⟨vm1, cA, comp, F, fA, fC, hU, X', step⟩ := mu_step X hx hown (hts _ (in_glw (List.mem_of_getElem? (i := 114) (by decide +kernel) : Cond.classLink RX3 19 ("[" ++ (FieldType.array FieldType.int).toString) ∈ lw_tbl) rfl)) hT.2.2.2.2.2.2.1 (hts _ (in_glw arrcl_0 rfl)) (g := F0 mid pc ls (.int (iI n) :: .int (iI o) :: r.map (cV G))) rfl (by rw [hb]; exact hd) rfl hno hnn k2 k1 hb4 hb3 (by omega) (by omega)
  have hcA : cA = G.2.1 4 := Option.some.inj (fA.symm.trans (hT.1.2 4 _ rfl).2)
  have hcomp : comp = G.2.1 0 := by
    rw [e8] at fC
    exact Option.some.inj (fC.symm.trans (hT.1.2 0 _ rfl).2)
  subst hcA
  subst hcomp
  obtain ⟨-, f1, f2, hold, hrow⟩ := hU
  have hTh : (T.setVm vm1).heap = H := hTH
  rw [hTh] at f1 f2 hold hrow
  have hW2 : WH G (h.1 ++ (cII o.toNat (fun j => some (h.1.length + 1 + j.toNat)) :: List.replicate o.toNat (cI n.toNat (fun _ => 0))), []) F.heap := by
    refine WH_app hW g2 (by simp only [List.length_cons, List.length_replicate]; omega) (by rw [f1]; simp only [List.length_cons, List.length_replicate]; omega) hold (fun k c hk9 => ?_)
    cases k with
    | zero =>
      cases hk9
      show F.heap[H.size]? = some (arrV (G.2.1 4) o.toNat (fun j => va_rf ((some (h.1.length + 1 + ((j : Nat) : Int).toNat)).map (ad G))))
      rw [f2]
      unfold muO
      refine congrArg some (arrV_eq fun j hj => ?_)
      rw [if_pos hj, Int.toNat_natCast]
      show va_rf _ = va_rf (some (ad G (h.1.length + 1 + j)))
      rw [ad_A (by omega), hH]
      refine congrArg (fun z => va_rf (some z)) ?_
      omega
    | succ k =>
      have hk8 : (List.replicate o.toNat (cI n.toNat (fun _ => 0)))[k]? = some c := by simpa using hk9
      obtain ⟨hlt, hv⟩ := List.getElem?_eq_some_iff.mp hk8
      rw [List.length_replicate] at hlt
      have hc : cI n.toNat (fun _ => 0) = c := by rw [← hv]; simp
      subst hc
      show F.heap[H.size + (k + 1)]? = some (vp_cell (G.2.1 0) (n.toNat, .inl (fun _ => iI 0)))
      rw [show H.size + (k + 1) = H.size + 1 + k by omega, hrow k hlt]
      exact congrArg some (arr0_0 _ _)
  have hS2 : va_S (AA G) s.heap F.heap locs := ⟨Nat.le_trans hS.1 (by rw [f1]; omega), fun x h1 h2 => (hold x (Nat.lt_of_lt_of_le h1 hS.1)).trans (hS.2.1 x h1 h2), hS.2.2⟩
  have e9 : h.1 ++ [cII o.toNat (fun j => some (h.1.length + 1 + j.toNat))] ++ List.replicate o.toNat (cI n.toNat (fun _ => 0)) = h.1 ++ (cII o.toNat (fun j => some (h.1.length + 1 + j.toNat)) :: List.replicate o.toNat (cI n.toNat (fun _ => 0))) := by rw [List.append_assoc]; rfl
  rw [← e9] at hW2
  have kk := hk _ _ _ _ _ _ hp4 ls F.heap locs hl hW2 hS2 hb1 hb2
  have kk : W p l e R s mid args below meth cd F.heap locs (c' + 1 + o.toNat) (s' + o.toNat + o.toNat * n.toNat) QQ (F0 mid (pc + 4) ls (.ref (ad G h.1.length) :: r.map (cV G))) := kk
  rw [ad_A g3, ← hH] at kk
  obtain ⟨t, a1, b1⟩ := kk F rfl X'
  rw [hTH] at step
  exact ⟨t, step t a1, b1⟩
end SND5
theorem multi_ok : MultiOK := s_multi
