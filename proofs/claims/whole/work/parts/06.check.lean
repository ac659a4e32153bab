/-! ===== the tables of code hold: every entry is what the bytes say, every link is a word of the tables ===== -/
def in3 (t : List (Nat × Nat × Nat)) (a b : Nat) : Bool := t.any (fun r => Nat.beq r.1 a && Nat.beq r.2.1 b)
def in4 (t : List (Nat × Nat × Nat × Nat)) (a b c : Nat) : Bool := t.any (fun r => Nat.beq r.1 a && Nat.beq r.2.1 b && Nat.beq r.2.2.1 c)
def in5 (t : List (Nat × Nat × Nat × Nat × Nat)) (a b c d : Nat) : Bool := t.any (fun r => Nat.beq r.1 a && Nat.beq r.2.1 b && Nat.beq r.2.2.1 c && Nat.beq r.2.2.2.1 d)
def jmp (pc x : Nat) (off : Int) : Bool := decide ((pc : Int) + off = (x : Int))
def swT (pc : Nat) (lo : Int) : List Int → List (Int × Nat) → Bool
  | [], [] => true
  | o :: os, (v, t) :: r => decide (v = lo) && jmp pc t o && swT pc (lo + 1) os r
  | _, _ => false
def swL (pc : Nat) : List (Int × Int) → List (Int × Nat) → Bool
  | [], [] => true
  | (v', o) :: os, (v, t) :: r => decide (v = v') && decide (-2147483648 ≤ v ∧ v ≤ 2147483647) && jmp pc t o && swL pc os r
  | _, _ => false
def okX (m pc : Nat) (i : Instr) (x1 x2 : Nat) : Bool :=
  match i with
  | .aload_n n => Nat.beq x1 n.val
  | .aload n => Nat.beq x1 n
  | .iload_n n => Nat.beq x1 n.val
  | .iload n => Nat.beq x1 n
  | .lload_n n => Nat.beq x1 n.val
  | .lload n => Nat.beq x1 n
  | .astore_n n => Nat.beq x1 n.val
  | .astore n => Nat.beq x1 n
  | .istore_n n => Nat.beq x1 n.val
  | .istore n => Nat.beq x1 n
  | .lstore_n n => Nat.beq x1 n.val
  | .lstore n => Nat.beq x1 n
  | .iinc n _ => Nat.beq x1 n
  | .bipush n => decide ((Int8.ofInt n).toInt32 = iI n)
  | .sipush n => decide ((Int16.ofInt n).toInt32 = iI n)
  | .lconst n => Nat.beq x1 n.val
  | .ldc n => in3 KCT (Mo m) n
  | .ldc_w n => in3 KCT (Mo m) n
  | .ldc2_w n => in4 KLT (Mo m) n x1
  | .goto o => jmp pc x1 o
  | .if_icmp _ o => jmp pc x1 o
  | .ifCond _ o => jmp pc x1 o
  | .tableswitch d lo hi os => jmp pc x1 d && swT pc lo os.toList (SW x2) && decide (hi - lo + 1 = (os.toList.length : Int))
  | .lookupswitch d ps => jmp pc x1 d && swL pc ps.toList (SW x2) && (ps.toList.zip (ps.toList.drop 1)).all (fun (a, next) => a.1 < next.1)
  | .getfield n => (in5 FT (Mo m) n x1 x2 || in5 FTN (Mo m) n x1 x2) && Nat.blt x1 7 && Nat.blt x2 (nF x1)
  | .putfield n => (((in5 FT (Mo m) n x1 x2 || in5 FTN (Mo m) n x1 x2) && !(TT x1 x2).2.2.2) || (in5 FT (Mo m) n x1 x2 && (TT x1 x2).2.2.2 && Mini m && Nat.beq (Mo m) x1)) && Nat.blt x1 7 && Nat.blt x2 (nF x1)
  | .getstatic n => Nat.beq (Mo m) 5 && Nat.beq n 285
  | .new n => in4 CLT (Mo m) n x1 && Nat.blt x1 7
  | .newarray t => match t with | .int => true | .long => true | .boolean => true | _ => false
  | .anewarray n => Nat.beq (Mo m) 5 && Nat.beq n 41 && Nat.beq x2 0
  | .multianewarray n d => Nat.beq (Mo m) 3 && Nat.beq n 19 && Nat.beq d 2
  | .invokevirtual n => in4 MT (Mo m) n x1 && Nat.beq x2 (Mas x1) && !(Mst x1) && !(Mini x1) && Nat.blt x1 189
  | .invokespecial n => cond (Nat.beq x1 999) (in3 MTO (Mo m) n) ((in4 MT (Mo m) n x1 || in4 MTN (Mo m) n x1) && Nat.beq x2 (Mas x1) && !(Mst x1) && Mini x1 && Nat.blt x1 189)
  | .invokestatic n => cond (Nat.blt x1 900) ((in4 MT (Mo m) n x1 || in4 MTN (Mo m) n x1) && Nat.beq x2 (Mas x1) && Mst x1 && Nat.blt x1 189 && Nat.beq (Mmc x1) 0 && Nat.beq (Mms x1) 0) (cond (Nat.beq x1 996) (in3 MTmin (Mo m) n) (cond (Nat.beq x1 997) (in3 MTabs (Mo m) n) (in3 MTcpy (Mo m) n)))
  | .ireturn => (decide (Mr m = some .int) && Nat.beq x2 0) || (decide (Mr m = some .boolean) && Nat.beq x2 1)
  | .lreturn => decide (Mr m = some .long)
  | .return_ => decide (Mr m = none)
  | _ => true
def lenOK (i : Instr) (ln : Nat) : Bool :=
  match i with
  | .tableswitch _ _ _ _ => true
  | .lookupswitch _ _ => true
  | .aload _ => Nat.beq ln 2
  | .iload _ => Nat.beq ln 2
  | .lload _ => Nat.beq ln 2
  | .astore _ => Nat.beq ln 2
  | .istore _ => Nat.beq ln 2
  | .lstore _ => Nat.beq ln 2
  | .bipush _ => Nat.beq ln 2
  | .ldc _ => Nat.beq ln 2
  | .newarray _ => Nat.beq ln 2
  | .multianewarray _ _ => Nat.beq ln 4
  | .sipush _ => Nat.beq ln 3
  | .iinc _ _ => Nat.beq ln 3
  | .ldc_w _ => Nat.beq ln 3
  | .ldc2_w _ => Nat.beq ln 3
  | .goto _ => Nat.beq ln 3
  | .if_icmp _ _ => Nat.beq ln 3
  | .ifCond _ _ => Nat.beq ln 3
  | .getfield _ => Nat.beq ln 3
  | .putfield _ => Nat.beq ln 3
  | .getstatic _ => Nat.beq ln 3
  | .new _ => Nat.beq ln 3
  | .anewarray _ => Nat.beq ln 3
  | .invokevirtual _ => Nat.beq ln 3
  | .invokespecial _ => Nat.beq ln 3
  | .invokestatic _ => Nat.beq ln 3
  | _ => Nat.beq ln 1
def okb (m pc : Nat) : Bool := match Mcd m pc with
  | none => true
  | some (i, nx, x1, x2) => match decode (Mb m) pc with
    | .ok (i', ln) => decide (i = i') && Nat.beq nx (pc + ln) && lenOK i ln && okX m pc i x1 x2
    | _ => false
def chk (m : Nat) : Bool := (List.range (MN m)).all (okb m)
def Mc (m pc : Nat) : Option AE := cond (Nat.blt pc (MN m)) (Mcd m pc) none
