/-! every row of the tables is what the bytes say, and names what the tables say -/
def aGT : List (Nat × Nat) := [(15, 0), (27, 1), (30, 2)]
theorem aGT_ok : ∀ e ∈ aGT, aWrd (.fieldLink RX1 e.1 RX1 (aSn e.2) "[I") = true := by decide +kernel
theorem aY_mx : ∀ j, j < 186 → aNq j + cond (Nat.beq (aSk j) 0) 0 1 ≤ amMx j := by decide +kernel
def aRr (r : Nat) (t : Option FieldType) : Bool := match t with
  | none => Nat.beq r 0
  | some .int => Nat.beq r 1
  | some .boolean => Nat.beq r 1
  | some (.object _) => Nat.beq r 2
  | _ => false
def aHasF (o k p q r : Nat) (i : Nat) (put : Bool) : Bool := aFT.any fun e => match e with
  | (o', k', p', q', r', t, _) => Nat.beq o o' && (Nat.beq k k' && (Nat.beq p p' && (Nat.beq q q' && (Nat.beq r r' && (!put || (match aCls[p]? with
    | none => false
    | some (_, T, _) => !(T q).2.2.2 || (Nat.beq t 0 && (decide ((amY i).name = "<init>") && decide ((T q).1 = aNm o)))))))))
def aHasM (o k p : Nat) (nest : Bool) : Bool := aMT.any fun e => match e with
  | (o', k', p', t, _) => Nat.beq o o' && (Nat.beq k k' && (Nat.beq p p' && (nest || Nat.beq t 0)))
def aChk (i pc : Nat) (ins : Jvm.ClassFile.Instr) (len : Nat) (c : Int32) (p q r : Nat) : Bool := match ins with
  | .iconst n => Nat.beq len 1 && decide (Int32.ofInt n = c)
  | .bipush n => Nat.beq len 2 && decide ((Int8.ofInt n).toInt32 = c)
  | .sipush n => Nat.beq len 3 && decide ((Int16.ofInt n).toInt32 = c)
  | .ldc k => Nat.beq len 2 && decide ((aOn i, k, c) ∈ aCT0)
  | .ldc_w k => Nat.beq len 3 && decide ((aOn i, k, c) ∈ aCT0)
  | .ldc2_w k => Nat.beq len 3 && decide ((aOn i, k, p) ∈ aLT0)
  | .lconst n => Nat.beq len 1 && Nat.beq n.val p
  | .iload _ => Nat.beq len 2
  | .iload_n _ => Nat.beq len 1
  | .lload _ => Nat.beq len 2
  | .aload _ => Nat.beq len 2
  | .aload_n _ => Nat.beq len 1
  | .istore _ => Nat.beq len 2
  | .istore_n _ => Nat.beq len 1
  | .lstore _ => Nat.beq len 2
  | .astore _ => Nat.beq len 2
  | .astore_n _ => Nat.beq len 1
  | .iinc _ n => Nat.beq len 3 && decide (Int32.ofInt n = c)
  | .goto f => Nat.beq len 3 && decide (0 ≤ (pc : Int) + f)
  | .ifCond _ f => Nat.beq len 3 && decide (0 ≤ (pc : Int) + f)
  | .if_icmp _ f => Nat.beq len 3 && decide (0 ≤ (pc : Int) + f)
  | .tableswitch d lo hi os => decide (c.toInt = lo) && (decide (hi = lo + (os.toList.length : Int) - 1) && (decide (lo + (os.toList.length : Int) < 2147483647) && (decide (0 ≤ (pc : Int) + d) && os.toList.all fun f => decide (0 ≤ (pc : Int) + f))))
  | .lookupswitch d ps => (ps.toList.zip (ps.toList.drop 1)).all (fun (a, next) => a.1 < next.1) && (decide (0 ≤ (pc : Int) + d) && ps.toList.all fun f => decide ((Int32.ofInt f.1).toInt = f.1) && decide (0 ≤ (pc : Int) + f.2))
  | .getfield k => Nat.beq len 3 && aHasF (aOn i) k p q r i false
  | .putfield k => Nat.beq len 3 && aHasF (aOn i) k p q r i true
  | .getstatic k => Nat.beq len 3 && (Nat.beq (aOn i) 1 && (Nat.blt p 3 && decide ((k, p) ∈ aGT)))
  | .new k => Nat.beq len 3 && decide ((aOn i, k, p) ∈ aKT0)
  | .newarray t => Nat.beq len 2 && (match t with
    | .int => Nat.beq p 0
    | .boolean => Nat.beq p 1
    | _ => false)
  | .anewarray k => Nat.beq len 3 && decide ((aOn i, k, 2) ∈ aKT0)
  | .aastore => Nat.beq len 1 && Nat.beq p 2
  | .invokevirtual k => Nat.beq len 3 && (aHasM (aOn i) k p false && (Nat.beq q (aNq p) && (Nat.beq (aSk p) 2 && (Nat.beq c.toNatClampNeg (aOn p) && (Nat.blt (aOn p) 9 && aRr r (amRt p))))))
  | .invokespecial k => Nat.beq len 3 && cond (Nat.beq r 0) (aHasM (aOn i) k p true && (Nat.beq q (aNq p) && Nat.beq (aSk p) 1)) (decide ((aOn i, k, 0) ∈ aST) && Nat.beq q 0)
  | .invokestatic k => Nat.beq len 3 && (match r with
    | 3 => decide ((aOn i, k, 1) ∈ aST) && Nat.beq q 5
    | 4 => decide ((aOn i, k, 2) ∈ aST) && Nat.beq q 2
    | 5 => decide ((aOn i, k, 3) ∈ aST) && Nat.beq q 2
    | _ => aHasM (aOn i) k p true && (Nat.beq q (aNq p) && (Nat.beq (aSk p) 0 && aRr r (amRt p))))
  | .ireturn => Nat.beq len 1 && (cond (Nat.beq r 1) (decide (amRt i = some .int)) (decide (amRt i = some .boolean)))
  | .areturn => Nat.beq len 1 && Nat.beq (match amRt i with | some (.object _) => 1 | _ => 0) 1
  | .return_ => Nat.beq len 1 && decide (amRt i = none)
  | _ => Nat.beq len 1
def aRow (i pc : Nat) (w : AI) : Bool := match w with
  | (ins, len, c, p, q, r) => decide (decode (amB i) pc = .ok (ins, len)) && aChk i pc ins len c p q r
def aAll (i lo n : Nat) : Bool := (List.range n).all fun j => match amCd i (lo + j) with
  | some w => aRow i (lo + j) w
  | none => true
theorem aAll_of {i lo n : Nat} (h : aAll i lo n = true) {pc : Nat} (h1 : lo ≤ pc) (h2 : pc < lo + n) {w : AI} (hw : amCd i pc = some w) : aRow i pc w = true := by
  have := List.all_eq_true.mp h (pc - lo) (List.mem_range.mpr (by omega))
  rw [show lo + (pc - lo) = pc by omega, hw] at this
  exact this
theorem aGd {α : Type} {b : Bool} {x : Option α} {w : α} (h : cond b x none = some w) : b = true := by
  cases b with
  | true => rfl
  | false => cases h
