/-! ===== what the machine's cells are, and the runs of the abstract machine ===== -/
/-- where the made cells begin; the classes of arrays; the script's cell; the digest names' cell; the classes; the script -/
abbrev GT : Type := Nat × (Nat → ClassId) × Nat × Nat × va_G × (Nat × (Int → Int))
def ad (G : GT) (k : Nat) : Nat := cond (Nat.blt k 200) (G.1 + k) (cond (Nat.blt k 900) (G.1 + nA + (k - 200)) (cond (Nat.beq k 900) G.2.2.1 G.2.2.2.1))
def cV (G : GT) : AV → Value
  | .inl z => .int (iI z)
  | .inr (.inl x) => .long x
  | .inr (.inr (some k)) => .ref (ad G k)
  | .inr (.inr none) => .null
def cC (G : GT) : AC → va_E
  | .inl (t, n, .inl f) => .inl (G.2.1 t, n, .inl (fun j => iI (f (j : Int))))
  | .inl (t, n, .inr (.inl f)) => .inl (G.2.1 t, n, .inr (.inl (fun j => f (j : Int))))
  | .inl (t, n, .inr (.inr f)) => .inl (G.2.1 t, n, .inr (.inr (.inr (.inr (fun j => (f (j : Int)).map (ad G))))))
  | .inr (c, fs) => .inr (c, fs.map (cV G))
def cWl (G : GT) : Nat → List AC → va_W
  | _, [] => []
  | o, c :: l => (o, cC G c) :: cWl G (o + 1) l
def cW (G : GT) (h : AH) : va_W := cWl G G.1 h.1 ++ cWl G (G.1 + nA) h.2
def hOK (G : GT) (h : AH) (H : Heap) : Prop := H.size = G.1 + h.1.length + h.2.length ∧ (h.2 = [] ∨ h.1.length = nA) ∧ h.1.length ≤ 200 ∧ h.2.length ≤ 600
def WH (G : GT) (h : AH) (H : Heap) : Prop := va_P G.2.2.2.2.1 vwCl (cW G h) H ∧ hOK G h H
def tyl (cA : Nat → ClassId) : List (ClassId × FieldType) := [(cA 0, .int), (cA 1, .long), (cA 2, .boolean), (cA 3, .object "RenameGraph$Sheet"), (cA 4, .array .int)]
def AA (G : GT) : Nat → Prop := fun q => G.1 ≤ q
def isNest : Cond → Bool
  | .fieldLinkNest .. => true
  | .methodLinkNest .. => true
  | _ => false
def my_AOA (ty : FieldType) (U : State) : Prop := (Cond.arrayOver (.array ty)).before #[] U = true
def WT (G : GT) (U : State) : Prop :=
  va_K G.2.2.2.2.1 vwCl (tyl G.2.1) U ∧ va_X G.2.2.1 G.2.2.2.2.2.1 (fun j => iI (G.2.2.2.2.2.2 (j : Int))) U U.heap ∧ va_X G.2.2.2.1 3 (fun j => iI (dgF (j : Int))) U U.heap ∧
  va_Z "RenameGraph" "DIGEST_NAMES" "[I" (.ref G.2.2.2.1) (AA G) U U.heap ∧ (∀ w ∈ lw_tbl, isNest w = true → va_Nw w U) ∧ va_AO "RenameGraph$Sheet" U ∧ my_AOA .int U ∧ G.2.2.1 < G.1 ∧ G.2.2.2.1 < G.1 ∧ G.2.2.2.2.2.1 ≤ 3072
abbrev RT : Type := Nat → List AV → AH → (Option AV → AH → Prop) → Prop
def MLq (m i : Nat) : Bool := cond (Nat.blt i 6) (MLL m i) false
def stepAt (ro : Nat × (Int → Int)) (dep : Nat) (RN : RT) (m mc ms : Nat) (Q : Option AV → AH → Prop) (pc : Nat) (al st : List AV) (h : AH) (c s : Nat) (k : KT) : Prop :=
  match Mc m pc with
  | some e => stp ro dep RN Mmc Mms Mo SW (MLq m) mc ms Q e al st h c s k
  | none => False
def WPm (ro : Nat × (Int → Int)) (dep : Nat) (RN : RT) (m mc ms : Nat) (Q : Option AV → AH → Prop) : KT := fun pc al st h c s =>
  ∀ X : KT, (∀ pc al st h c s, (∃ k0 : KT, (∀ a1 a2 a3 a4 a5 a6, k0 a1 a2 a3 a4 a5 a6 → X a1 a2 a3 a4 a5 a6) ∧ stepAt ro dep RN m mc ms Q pc al st h c s k0) → X pc al st h c s) → X pc al st h c s
def stpN (ro : Nat × (Int → Int)) (dep : Nat) (RN : RT) (m mc ms : Nat) (Q : Option AV → AH → Prop) (cut : List Nat) (k : KT) : Nat → KT
  | 0 => k
  | n + 1 => fun pc al st h c s => cond (cut.any (Nat.beq pc)) (k pc al st h c s) (stepAt ro dep RN m mc ms Q pc al st h c s (stpN ro dep RN m mc ms Q cut k n))
def layK : Nat → List AV → (List AV → Prop) → Prop
  | 0, [], k => k []
  | n + 1, [], k => layK n [] (fun l => k (vN :: l))
  | n + 2, .inr (.inl x) :: r, k => layK n r (fun l => k (vL x :: vN :: l))
  | n + 1, .inl x :: r, k => layK n r (fun l => k (vI x :: l))
  | n + 1, .inr (.inr x) :: r, k => layK n r (fun l => k (.inr (.inr x) :: l))
  | _, _, _ => False
def nxN : List AV → Bool
  | .inr (.inr none) :: _ => true
  | _ => false
def okL (LL : Nat → Bool) : Nat → List AV → Bool
  | _, [] => true
  | i, v :: r => (one v || LL i) && (!(LL i) || nxN r) && okL LL (i + 1) r
def RNd (ro : Nat × (Int → Int)) : Nat → RT
  | 0 => fun _ _ _ _ => False
  | d + 1 => fun m as h Q => layK (ML m) as (fun al => cond (okL (MLq m) 0 al) (WPm ro d (RNd ro d) m (Mmc m) (Mms m) Q 0 al [] h 0 0) False)
section WP
variable {ro : Nat × (Int → Int)} {dep : Nat} {RN : RT} {m mc ms : Nat} {Q : Option AV → AH → Prop} {pc : Nat} {al st : List AV} {h : AH} {c s : Nat}
theorem WP_fold {k0 : KT} (hk : ∀ a1 a2 a3 a4 a5 a6, k0 a1 a2 a3 a4 a5 a6 → WPm ro dep RN m mc ms Q a1 a2 a3 a4 a5 a6) (hs : stepAt ro dep RN m mc ms Q pc al st h c s k0) : WPm ro dep RN m mc ms Q pc al st h c s :=
  fun X hX => hX pc al st h c s ⟨k0, fun a1 a2 a3 a4 a5 a6 q => hk a1 a2 a3 a4 a5 a6 q X hX, hs⟩
theorem WP_run (cut : List Nat) : ∀ (n : Nat) {pc : Nat} {al st : List AV} {h : AH} {c s : Nat}, stpN ro dep RN m mc ms Q cut (WPm ro dep RN m mc ms Q) n pc al st h c s → WPm ro dep RN m mc ms Q pc al st h c s
  | 0, _, _, _, _, _, _, q => q
  | n + 1, pc, al, st, h, c, s, q => by
    unfold stpN at q
    cases hc : cut.any (Nat.beq pc) with
    | true => rw [hc] at q; exact q
    | false =>
      rw [hc] at q
      exact WP_fold (fun a1 a2 a3 a4 a5 a6 z => WP_run cut n z) q
theorem WP_first (cut : List Nat) (n : Nat) (q : stepAt ro dep RN m mc ms Q pc al st h c s (stpN ro dep RN m mc ms Q cut (WPm ro dep RN m mc ms Q) n)) : WPm ro dep RN m mc ms Q pc al st h c s :=
  WP_fold (fun _ _ _ _ _ _ z => WP_run cut n z) q
end WP
