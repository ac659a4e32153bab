/-! ===== an abstract machine: ints are whole numbers, references are places in two rows of cells; a step is a condition on what follows ===== -/
def iI (z : Int) : Int32 := Int32.ofInt z
def rg (z : Int) : Prop := -2147483648 ≤ z ∧ z ≤ 2147483647
abbrev AV : Type := Int ⊕ (Int64 ⊕ Option Nat)
abbrev AC : Type := (Nat × Nat × ((Int → Int) ⊕ ((Int → Int64) ⊕ (Int → Option Nat)))) ⊕ (Nat × List AV)
abbrev AH : Type := List AC × List AC
abbrev AE : Type := Instr × Nat × Nat × Nat
abbrev KT : Type := Nat → List AV → List AV → AH → Nat → Nat → Prop
abbrev vI (z : Int) : AV := .inl z
abbrev vL (x : Int64) : AV := .inr (.inl x)
abbrev vR (k : Nat) : AV := .inr (.inr (some k))
abbrev vN : AV := .inr (.inr none)
abbrev cI (n : Nat) (f : Int → Int) : AC := .inl (0, n, .inl f)
abbrev cJ (n : Nat) (f : Int → Int64) : AC := .inl (1, n, .inr (.inl f))
abbrev cZ (n : Nat) (f : Int → Int) : AC := .inl (2, n, .inl f)
abbrev cS (n : Nat) (f : Int → Option Nat) : AC := .inl (3, n, .inr (.inr f))
abbrev cII (n : Nat) (f : Int → Option Nat) : AC := .inl (4, n, .inr (.inr f))
abbrev cO (c : Nat) (fs : List AV) : AC := .inr (c, fs)
def upZ {α : Type} (f : Int → α) (j : Int) (x : α) : Int → α := fun q => if q = j then x else f q
def cpZ (f g : Int → Int) (sp dp n : Int) : Int → Int := fun k => if dp ≤ k ∧ k < dp + n then f (sp + (k - dp)) else g k
def dgF : Int → Int := fun j => if j = 0 then 97 else if j = 1 then 99 else 120
def andZ (x y : Int) : Int := (iI x &&& iI y).toInt
def orZ (x y : Int) : Int := (iI x ||| iI y).toInt
def shlZ (x y : Int) : Int := (iI x <<< (iI y &&& 31)).toInt
def remZ (x y : Int) : Int := (iI x - iI x / iI y * iI y).toInt
def i2bZ (x : Int) : Int := (iI x).toInt8.toInt32.toInt
def i2sZ (x : Int) : Int := (iI x).toInt16.toInt32.toInt
def i2lZ (x : Int) : Int64 := (iI x).toInt64
def l2iZ (x : Int64) : Int := x.toInt32.toInt
def shlL (x : Int64) (y : Int) : Int64 := x <<< ((iI y).toInt64 &&& 63)
def shrL (x : Int64) (y : Int) : Int64 := x >>> ((iI y).toInt64 &&& 63)
def ushrL (x : Int64) (y : Int) : Int64 := (x.toUInt64 >>> ((iI y).toInt64.toUInt64 &&& Int64.toUInt64 63)).toInt64
def lcZ (x y : Int64) : Int := (lg_cmp x y).toInt
def IxOK (j : Int) (n : Nat) : Prop := 0 ≤ j ∧ j < (n : Int)
/-- how many cells the class makes -/
def nA : Nat := 57
def gtK {α : Type} (f : α → Prop) : List α → Nat → Prop
  | [], _ => False
  | a :: _, 0 => f a
  | _ :: l, n + 1 => gtK f l n
def stK {α : Type} (v : α) : List α → Nat → (List α → Prop) → Prop
  | [], _, _ => False
  | _ :: l, 0, k => k (v :: l)
  | a :: l, n + 1, k => stK v l n (fun l' => k (a :: l'))
def hG (f : AC → Prop) : AH → Nat → Prop
  | (a, b), k => cond (Nat.blt k 200) (gtK f a k) (gtK f b (k - 200))
def hS (c : AC) (f : AH → Prop) : AH → Nat → Prop
  | (a, b), k => cond (Nat.blt k 200) (stK c a k (fun l => f (l, b))) (stK c b (k - 200) (fun l => f (a, l)))
def apK {α : Type} (c : α) : List α → (List α → Prop) → Prop
  | [], k => k [c]
  | x :: l, k => apK c l (fun l' => k (x :: l'))
/-- a new cell, in the class's row or in the reference's -/
def hN (c : AC) (f : Nat → AH → Prop) : AH → Nat → Prop
  | (a, []), 0 => ∃ q : Nat, q = a.length ∧ q < 200 ∧ apK c a (fun l => f q (l, []))
  | (_, _ :: _), 0 => False
  | (a, []), _ + 1 => a.length = nA ∧ f 200 (a, [c])
  | (a, y :: b), _ + 1 => ∃ q : Nat, q = 200 + (b.length + 1) ∧ q < 800 ∧ apK c (y :: b) (fun l => f q (a, l))
/-- n new cells of one kind behind each other -/
def hNs (c : AC) : Nat → AH → (AH → Prop) → Prop
  | 0, h, f => f h
  | n + 1, h, f => hN c (fun _ h' => hNs c n h' f) h 0
def pI : List AV → (Int → List AV → Prop) → Prop
  | .inl x :: r, f => f x r
  | _, _ => False
def pL : List AV → (Int64 → List AV → Prop) → Prop
  | .inr (.inl x) :: r, f => f x r
  | _, _ => False
def pR : List AV → (Nat → List AV → Prop) → Prop
  | .inr (.inr (some a)) :: r, f => f a r
  | _, _ => False
def pV : List AV → (AV → List AV → Prop) → Prop
  | v :: r, f => f v r
  | [], _ => False
def pN : Nat → List AV → List AV → (List AV → List AV → Prop) → Prop
  | 0, acc, st, f => f acc st
  | n + 1, acc, v :: st, f => pN n (v :: acc) st f
  | _ + 1, _, [], _ => False
def isI : AV → (Int → Prop) → Prop
  | .inl x, f => f x
  | _, _ => False
def isL : AV → (Int64 → Prop) → Prop
  | .inr (.inl x), f => f x
  | _, _ => False
def isR : AV → (Nat → Prop) → Prop
  | .inr (.inr (some a)), f => f a
  | _, _ => False
def one : AV → Bool
  | .inr (.inl _) => false
  | _ => true
def cats : List AV → Nat
  | [] => 0
  | .inr (.inl _) :: r => cats r + 2
  | _ :: r => cats r + 1
def okS (LL : Nat → Bool) : Nat → Bool
  | 0 => true
  | j + 1 => !(LL j)
def isO (ci : Nat) (f : List AV → Prop) : AC → Prop
  | .inr (c, fs) => cond (Nat.beq c ci) (f fs) False
  | .inl _ => False
/-- an array of whole numbers, of the kind t -/
def isA (t : Nat) (f : Nat → (Int → Int) → Prop) : AC → Prop
  | .inl (t', n, .inl g) => cond (Nat.beq t' t) (cond (Nat.blt n 100000) (f n g) False) False
  | _ => False
def isAL (f : Nat → (Int → Int64) → Prop) : AC → Prop
  | .inl (1, n, .inr (.inl g)) => cond (Nat.blt n 100000) (f n g) False
  | _ => False
def isAR (f : Nat → Nat → (Int → Option Nat) → Prop) : AC → Prop
  | .inl (3, n, .inr (.inr g)) => cond (Nat.blt n 100000) (f 3 n g) False
  | .inl (4, n, .inr (.inr g)) => cond (Nat.blt n 100000) (f 4 n g) False
  | _ => False
def isAny (f : Nat → Prop) : AC → Prop
  | .inl (0, n, .inl _) => f n
  | .inl (1, n, .inr (.inl _)) => f n
  | .inl (2, n, .inl _) => f n
  | _ => False
def fitK (v : AV) (P : Prop) : FieldType → Prop
  | .int => isI v (fun _ => P)
  | .boolean => isI v (fun x => (x = 0 ∨ x = 1) ∧ P)
  | .object _ => isR v (fun _ => P)
  | .array _ => isR v (fun _ => P)
  | _ => False
def cmpK (x y : Int) (A B : Prop) : ClassFile.Cond → Prop
  | .eq => (x = y → A) ∧ (¬ x = y → B)
  | .ne => (¬ x = y → A) ∧ (x = y → B)
  | .lt => (x < y → A) ∧ (¬ x < y → B)
  | .ge => (y ≤ x → A) ∧ (¬ y ≤ x → B)
  | .gt => (y < x → A) ∧ (¬ y < x → B)
  | .le => (x ≤ y → A) ∧ (¬ x ≤ y → B)
def swK (x : Int) (f : Nat → Prop) (d : Nat) : List (Int × Nat) → Prop
  | [] => f d
  | (v, t) :: r => (x = v → f t) ∧ (¬ x = v → swK x f d r)
def tyT : Nat → Nat → FieldType
  | 0, k => tyX0 k
  | 1, k => tyX1 k
  | 2, k => tyX2 k
  | 3, k => tyX3 k
  | 4, k => tyX4 k
  | 5, k => tyX5 k
  | _, k => tyX6 k
def dflt : FieldType → AV
  | .int => vI 0
  | .boolean => vI 0
  | _ => vN
def nF : Nat → Nat
  | 0 => 6
  | 1 => 4
  | 2 => 4
  | 3 => 6
  | 4 => 16
  | 5 => 6
  | _ => 30
def dfs (ci : Nat) : Nat → List AV
  | 0 => []
  | n + 1 => dfs ci n ++ [dflt (tyT ci n)]
def pushV : Option AV → List AV → List AV
  | some v, r => v :: r
  | none, r => r
def segs : Nat → Nat
  | 6 => 1
  | _ => 0
/-- what an instruction asks of what follows. ro: the script; dep: how deep calls may go; RN: a call; LL: the places of longs; mc ms: how many cells and slots may be made; Q: the end -/
def stp (ro : Nat × (Int → Int)) (dep : Nat) (RN : Nat → List AV → AH → (Option AV → AH → Prop) → Prop) (Mmc Mms Mci : Nat → Nat) (SW : Nat → List (Int × Nat)) (LL : Nat → Bool) (mc ms : Nat) (Q : Option AV → AH → Prop) (e : AE) (al st : List AV) (h : AH) (c s : Nat) (k : KT) : Prop :=
  match e with
  | (i, nx, x1, x2) =>
  match i with
  | .aload_n _ => gtK (fun v => isR v fun a => k nx al (vR a :: st) h c s) al x1
  | .aload _ => gtK (fun v => isR v fun a => k nx al (vR a :: st) h c s) al x1
  | .iload_n _ => gtK (fun v => isI v fun a => k nx al (vI a :: st) h c s) al x1
  | .iload _ => gtK (fun v => isI v fun a => k nx al (vI a :: st) h c s) al x1
  | .lload_n _ => gtK (fun v => isL v fun a => k nx al (vL a :: st) h c s) al x1
  | .lload _ => gtK (fun v => isL v fun a => k nx al (vL a :: st) h c s) al x1
  | .astore_n _ => pR st fun a r => cond (okS LL x1) (stK (vR a) al x1 fun al => k nx al r h c s) False
  | .astore _ => pR st fun a r => cond (okS LL x1) (stK (vR a) al x1 fun al => k nx al r h c s) False
  | .istore_n _ => pI st fun a r => cond (okS LL x1) (stK (vI a) al x1 fun al => k nx al r h c s) False
  | .istore _ => pI st fun a r => cond (okS LL x1) (stK (vI a) al x1 fun al => k nx al r h c s) False
  | .lstore_n _ => pL st fun a r => cond (okS LL x1 && LL x1) (stK (vL a) al x1 fun al => k nx al r h c s) False
  | .lstore _ => pL st fun a r => cond (okS LL x1 && LL x1) (stK (vL a) al x1 fun al => k nx al r h c s) False
  | .iinc _ n => gtK (fun v => isI v fun a => cond (okS LL x1) (stK (vI (a + n)) al x1 fun al => k nx al st h c s) False) al x1
  | .iconst n => k nx al (vI n :: st) h c s
  | .bipush n => k nx al (vI n :: st) h c s
  | .sipush n => k nx al (vI n :: st) h c s
  | .lconst _ => k nx al (vL (Int64.ofNat x1) :: st) h c s
  | .ldc _ => k nx al (vI (-2147483648) :: st) h c s
  | .ldc_w _ => k nx al (vI (-2147483648) :: st) h c s
  | .ldc2_w _ => k nx al (vL (Int64.ofNat x1) :: st) h c s
  | .iadd => pI st fun y r => pI r fun x r => k nx al (vI (x + y) :: r) h c s
  | .isub => pI st fun y r => pI r fun x r => k nx al (vI (x - y) :: r) h c s
  | .imul => pI st fun y r => pI r fun x r => k nx al (vI (x * y) :: r) h c s
  | .irem => pI st fun y r => pI r fun x r => (rg y ∧ y ≠ 0) ∧ k nx al (vI (remZ x y) :: r) h c s
  | .iand => pI st fun y r => pI r fun x r => k nx al (vI (andZ x y) :: r) h c s
  | .ior => pI st fun y r => pI r fun x r => k nx al (vI (orZ x y) :: r) h c s
  | .ishl => pI st fun y r => pI r fun x r => k nx al (vI (shlZ x y) :: r) h c s
  | .ineg => pI st fun x r => k nx al (vI (-x) :: r) h c s
  | .i2b => pI st fun x r => k nx al (vI (i2bZ x) :: r) h c s
  | .i2s => pI st fun x r => k nx al (vI (i2sZ x) :: r) h c s
  | .i2l => pI st fun x r => k nx al (vL (i2lZ x) :: r) h c s
  | .l2i => pL st fun x r => k nx al (vI (l2iZ x) :: r) h c s
  | .ladd => pL st fun y r => pL r fun x r => k nx al (vL (x + y) :: r) h c s
  | .lsub => pL st fun y r => pL r fun x r => k nx al (vL (x - y) :: r) h c s
  | .lmul => pL st fun y r => pL r fun x r => k nx al (vL (x * y) :: r) h c s
  | .land => pL st fun y r => pL r fun x r => k nx al (vL (x &&& y) :: r) h c s
  | .lor => pL st fun y r => pL r fun x r => k nx al (vL (x ||| y) :: r) h c s
  | .lxor => pL st fun y r => pL r fun x r => k nx al (vL (x ^^^ y) :: r) h c s
  | .lshl => pI st fun y r => pL r fun x r => k nx al (vL (shlL x y) :: r) h c s
  | .lshr => pI st fun y r => pL r fun x r => k nx al (vL (shrL x y) :: r) h c s
  | .lushr => pI st fun y r => pL r fun x r => k nx al (vL (ushrL x y) :: r) h c s
  | .lcmp => pL st fun y r => pL r fun x r => k nx al (vI (lcZ x y) :: r) h c s
  | .dup => pV st fun v r => cond (one v) (k nx al (v :: v :: r) h c s) False
  | .dup2 => pV st fun v r => pV r fun w r => cond (one v && one w) (k nx al (v :: w :: v :: w :: r) h c s) False
  | .pop => pV st fun v r => cond (one v) (k nx al r h c s) False
  | .goto _ => k x1 al st h c s
  | .if_icmp cd _ => pI st fun y r => pI r fun x r => rg x ∧ rg y ∧ cmpK x y (k x1 al r h c s) (k nx al r h c s) cd
  | .ifCond cd _ => pI st fun x r => rg x ∧ cmpK x 0 (k x1 al r h c s) (k nx al r h c s) cd
  | .tableswitch _ _ _ _ => pI st fun x r => rg x ∧ swK x (fun t => k t al r h c s) x1 (SW x2)
  | .lookupswitch _ _ => pI st fun x r => rg x ∧ swK x (fun t => k t al r h c s) x1 (SW x2)
  | .getfield _ => pR st fun a r => hG (isO x1 fun fs => gtK (fun v => k nx al (v :: r) h c s) fs x2) h a
  | .putfield _ => pV st fun v r => pR r fun a r => hG (isO x1 fun fs => fitK v (stK v fs x2 fun fs' => hS (cO x1 fs') (fun h' => k nx al r h' c s) h a) (tyT x1 x2)) h a
  | .getstatic _ => k nx al (vR 901 :: st) h c s
  | .iaload => pI st fun j r => pR r fun a r => cond (Nat.blt a 900) (hG (isA 0 fun n f => IxOK j n ∧ k nx al (vI (f j) :: r) h c s) h a) (cond (Nat.beq a 900) (IxOK j ro.1 ∧ k nx al (vI (ro.2 j) :: r) h c s) (cond (Nat.beq a 901) (IxOK j 3 ∧ k nx al (vI (dgF j) :: r) h c s) False))
  | .baload => pI st fun j r => pR r fun a r => hG (isA 2 fun n f => IxOK j n ∧ k nx al (vI (f j) :: r) h c s) h a
  | .laload => pI st fun j r => pR r fun a r => hG (isAL fun n f => IxOK j n ∧ k nx al (vL (f j) :: r) h c s) h a
  | .aaload => pI st fun j r => pR r fun a r => hG (isAR fun _ n f => IxOK j n ∧ k nx al (.inr (.inr (f j)) :: r) h c s) h a
  | .iastore => pI st fun x r => pI r fun j r => pR r fun a r => hG (isA 0 fun n f => IxOK j n ∧ hS (cI n (upZ f j x)) (fun h' => k nx al r h' c s) h a) h a
  | .bastore => pI st fun x r => pI r fun j r => pR r fun a r => hG (isA 2 fun n f => (x = 0 ∨ x = 1) ∧ IxOK j n ∧ hS (cZ n (upZ f j x)) (fun h' => k nx al r h' c s) h a) h a
  | .lastore => pL st fun x r => pI r fun j r => pR r fun a r => hG (isAL fun n f => IxOK j n ∧ hS (cJ n (upZ f j x)) (fun h' => k nx al r h' c s) h a) h a
  | .aastore => pR st fun v r => pI r fun j r => pR r fun a r => hG (isO 2 fun _ => hG (isAR fun t n f => t = 3 ∧ IxOK j n ∧ hS (cS n (upZ f j (some v))) (fun h' => k nx al r h' c s) h a) h a) h v
  | .arraylength => pR st fun a r => cond (Nat.blt a 900) (hG (isAny fun n => k nx al (vI n :: r) h c s) h a) (cond (Nat.beq a 900) (k nx al (vI ro.1 :: r) h c s) (cond (Nat.beq a 901) (k nx al (vI 3 :: r) h c s) False))
  | .new _ => cond (Nat.ble (c + 1) mc && Nat.ble (s + nF x1) ms) (hN (cO x1 (dfs x1 (nF x1))) (fun q h' => k nx al (vR q :: st) h' (c + 1) (s + nF x1)) h (segs x1)) False
  | .newarray t => pI st fun n r => cond (Nat.ble (c + 1) mc && Nat.ble (s + n.toNat) ms && Nat.blt n.toNat 100000) (0 ≤ n ∧ hN (match t with | .int => cI n.toNat (fun _ => 0) | .long => cJ n.toNat (fun _ => 0) | _ => cZ n.toNat (fun _ => 0)) (fun q h' => k nx al (vR q :: r) h' (c + 1) (s + n.toNat)) h x2) False
  | .anewarray _ => pI st fun n r => cond (Nat.ble (c + 1) mc && Nat.ble (s + n.toNat) ms && Nat.blt n.toNat 100000) (0 ≤ n ∧ hN (cS n.toNat (fun _ => none)) (fun q h' => k nx al (vR q :: r) h' (c + 1) (s + n.toNat)) h x2) False
  | .multianewarray _ _ => pI st fun n r => pI r fun o r => cond (Nat.ble (c + 1 + o.toNat) mc && Nat.ble (s + o.toNat + o.toNat * n.toNat) ms && Nat.blt n.toNat 1000 && Nat.blt o.toNat 1000) (0 ≤ n ∧ 0 ≤ o ∧ hN (cII o.toNat (fun j => some (h.1.length + 1 + j.toNat))) (fun q h' => hNs (cI n.toNat (fun _ => 0)) o.toNat h' (fun h'' => k nx al (vR q :: r) h'' (c + 1 + o.toNat) (s + o.toNat + o.toNat * n.toNat))) h 0) False
  | .invokevirtual _ => pN x2 [] st fun as r => pR r fun a r => cond (Nat.ble (cats r) 8) (hG (isO (Mci x1) fun _ => RN x1 (vR a :: as) h (fun v h' => k nx al (pushV v r) h' c s)) h a) False
  | .invokespecial _ => cond (Nat.beq x1 999) (pR st fun _ r => cond (Nat.ble (cats r) 8 && Nat.ble 1 dep) (k nx al r h c s) False) (pN x2 [] st fun as r => pR r fun a r => cond (Nat.ble (cats r) 8 && Nat.ble (c + Mmc x1) mc && Nat.ble (s + Mms x1) ms) (RN x1 (vR a :: as) h (fun v h' => k nx al (pushV v r) h' (c + Mmc x1) (s + Mms x1))) False)
  | .invokestatic _ => cond (Nat.blt x1 900) (pN x2 [] st fun as r => cond (Nat.ble (cats r) 8) (RN x1 as h (fun v h' => k nx al (pushV v r) h' c s)) False)
      (cond (Nat.beq x1 996) (pI st fun y r => pI r fun x r => cond (Nat.ble (cats r) 8 && Nat.ble 1 dep) (rg x ∧ rg y ∧ k nx al (vI (if y < x then y else x) :: r) h c s) False)
      (cond (Nat.beq x1 997) (pI st fun x r => cond (Nat.ble (cats r) 8 && Nat.ble 1 dep) (rg x ∧ k nx al (vI (if 0 ≤ x then x else -x) :: r) h c s) False)
      (cond (Nat.beq x1 998) (pI st fun n r => pI r fun dp r => pR r fun b r => pI r fun sp r => pR r fun a r => cond (Nat.ble (cats r) 8 && Nat.ble 1 dep) (hG (isA 0 fun n0 f => hG (isA 0 fun n1 g => (0 ≤ sp ∧ 0 ≤ dp ∧ 0 ≤ n ∧ sp + n ≤ (n0 : Int) ∧ dp + n ≤ (n1 : Int)) ∧ hS (cI n1 (cpZ f g sp dp n)) (fun h' => k nx al r h' c s) h b) h b) h a) False) False)))
  | .ireturn => pI st fun x r => match r with | [] => (x2 = 0 ∨ x = 0 ∨ x = 1) ∧ Q (some (vI x)) h | _ => False
  | .lreturn => pL st fun x r => match r with | [] => Q (some (vL x)) h | _ => False
  | .return_ => match st with | [] => Q none h | _ => False
  | _ => False
