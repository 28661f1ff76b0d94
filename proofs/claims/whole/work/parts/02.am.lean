/-! ===== an abstract machine for the claim's bytecode: its state is a heap of small cells, its step is a function ===== -/
/-- a cell: an object (its class's number, its fields), an array of ints (0 int, 1 boolean, 2 int, never written), an array of references -/
abbrev AE : Type := (Nat × List Value) ⊕ ((Nat × Nat × (Nat → Int32)) ⊕ (Nat × (Nat → Option Nat)))
/-- the heap: the next address, how many slots were made so far, the cells -/
abbrev AH : Type := Nat × Nat × (Nat → Option AE)
abbrev AR : Type := Option (Option Value × AH)
abbrev AI : Type := Jvm.ClassFile.Instr × Nat × Int32 × Nat × Nat × Nat
def aOp {α β : Type} (x : Option α) (f : α → Option β) : Option β := match x with
  | none => none
  | some v => f v
def aUp (h : AH) (a : Nat) (e : AE) : AH := (h.1, h.2.1, va_up h.2.2 a (some e))
def aMk (h : AH) (n : Nat) (e : AE) : AH := (h.1 + 1, h.2.1 + n, va_up h.2.2 h.1 (some e))
def aCl (h : AH) (a ci : Nat) : Option Unit := match h.2.2 a with
  | some (.inl o) => if o.1 = ci then some () else none
  | _ => none
def aFI (h : AH) (a ci k : Nat) : Option Int32 := match h.2.2 a with
  | some (.inl o) => if o.1 = ci then (match o.2[k]? with | some (.int x) => some x | _ => none) else none
  | _ => none
def aFR (h : AH) (a ci k : Nat) : Option Nat := match h.2.2 a with
  | some (.inl o) => if o.1 = ci then (match o.2[k]? with | some (.ref x) => some x | _ => none) else none
  | _ => none
def aFP (h : AH) (a ci k : Nat) (v : Value) : Option AH := match h.2.2 a with
  | some (.inl o) => if o.1 = ci ∧ k < o.2.length then some (aUp h a (.inl (o.1, o.2.set k v))) else none
  | _ => none
def aIn (i : Int32) (n : Nat) : Bool := !(decide (i < 0)) && Nat.blt i.toNatClampNeg n
def aIL (h : AH) (a : Nat) (i : Int32) : Option Int32 := match h.2.2 a with
  | some (.inr (.inl r)) => if aIn i r.2.1 = true ∧ r.1 ≠ 1 then some (r.2.2 i.toNatClampNeg) else none
  | _ => none
def aIS (h : AH) (a : Nat) (i x : Int32) : Option AH := match h.2.2 a with
  | some (.inr (.inl r)) => if aIn i r.2.1 = true ∧ r.1 = 0 then some (aUp h a (.inr (.inl (0, r.2.1, upd r.2.2 i.toNatClampNeg x)))) else none
  | _ => none
def aZL (h : AH) (a : Nat) (i : Int32) : Option Int32 := match h.2.2 a with
  | some (.inr (.inl r)) => if aIn i r.2.1 = true ∧ r.1 = 1 then some (r.2.2 i.toNatClampNeg) else none
  | _ => none
def aZS (h : AH) (a : Nat) (i x : Int32) : Option AH := match h.2.2 a with
  | some (.inr (.inl r)) => if aIn i r.2.1 = true ∧ r.1 = 1 ∧ (x = 0 ∨ x = 1) then some (aUp h a (.inr (.inl (1, r.2.1, upd r.2.2 i.toNatClampNeg x)))) else none
  | _ => none
def aRL (h : AH) (a : Nat) (i : Int32) : Option Nat := match h.2.2 a with
  | some (.inr (.inr r)) => if aIn i r.1 = true then r.2 i.toNatClampNeg else none
  | _ => none
/-- a reference array's store: ci is the class that its places hold -/
def aRS (h : AH) (a : Nat) (i : Int32) (v ci : Nat) : Option AH := match h.2.2 a, h.2.2 v with
  | some (.inr (.inr r)), some (.inl o) => if aIn i r.1 = true ∧ o.1 = ci then some (aUp h a (.inr (.inr (r.1, va_up r.2 i.toNatClampNeg (some v))))) else none
  | _, _ => none
def aLen (h : AH) (a : Nat) : Option Int32 := match h.2.2 a with
  | some (.inr (.inl r)) => some (Int32.ofNat r.2.1)
  | some (.inr (.inr r)) => some (Int32.ofNat r.1)
  | _ => none
def aCpy (h : AH) (a0 : Nat) (sp : Int32) (a : Nat) (dp n : Int32) : Option AH := match h.2.2 a0, h.2.2 a with
  | some (.inr (.inl f)), some (.inr (.inl g)) => if f.1 = 0 ∧ g.1 = 0 ∧ ¬ sp < 0 ∧ ¬ dp < 0 ∧ ¬ n < 0 ∧ sp.toNatClampNeg + n.toNatClampNeg ≤ f.2.1 ∧ dp.toNatClampNeg + n.toNatClampNeg ≤ g.2.1 then some (aUp h a (.inr (.inl (0, g.2.1, va_cpy f.2.2 g.2.2 sp.toNatClampNeg dp.toNatClampNeg n.toNatClampNeg)))) else none
  | _, _ => none
def aNA (h : AH) (t : Nat) (n : Int32) : Option (Nat × AH) := if ¬ n < 0 ∧ n.toNatClampNeg ≤ 100000 then some (h.1, aMk h n.toNatClampNeg (.inr (.inl (t, n.toNatClampNeg, fun _ => 0)))) else none
def aNR (h : AH) (n : Int32) : Option (Nat × AH) := if ¬ n < 0 ∧ n.toNatClampNeg ≤ 100000 then some (h.1, aMk h n.toNatClampNeg (.inr (.inr (n.toNatClampNeg, fun _ => none)))) else none
def aRI (r : AR) : Option (Int32 × AH) := match r with
  | some (some (.int x), h) => some (x, h)
  | _ => none
def aRR (r : AR) : Option (Nat × AH) := match r with
  | some (some (.ref x), h) => some (x, h)
  | _ => none
def aRV (r : AR) : Option AH := match r with
  | some (none, h) => some h
  | _ => none
def aLI (ls : List Value) (i : Nat) : Option Int32 := match ls[i]? with
  | some (.int x) => some x
  | _ => none
def aLL (ls : List Value) (i : Nat) : Option Int64 := match ls[i]? with
  | some (.long x) => some x
  | _ => none
def aLR (ls : List Value) (i : Nat) : Option Nat := match ls[i]? with
  | some (.ref x) => some x
  | _ => none
def aNL (ls : List Value) (i : Nat) : Bool := match i with
  | 0 => true
  | j + 1 => (match ls[j]? with
    | some (.long _) => false
    | some (.double _) => false
    | _ => true)
def aS1 (ls : List Value) (i : Nat) (v : Value) : Option (List Value) := match Nat.blt i ls.length && aNL ls i with
  | true => some (ls.set i v)
  | false => none
def aS2 (ls : List Value) (i : Nat) (v : Value) : Option (List Value) := match Nat.blt (i + 1) ls.length && aNL ls i with
  | true => some ((ls.set (i + 1) .null).set i v)
  | false => none
def aW (st : List Value) : Nat := (st.map fun v => v.category).sum
/-- what a call leaves on the stack is little, its arguments are there, a slot each -/
def aG (st : List Value) (q : Nat) : Bool := Nat.ble (aW (st.drop q)) 8 && (Nat.ble (aW (st.take q)) q && Nat.ble q st.length)
def aTo (pc : Nat) (off : Int) : Nat := ((pc : Int) + off).toNat
def aCmp (c : Jvm.ClassFile.Cond) (x y : Int32) {ρ : Type} (t f : ρ) : ρ := match c with
  | .eq => if x = y then t else f
  | .ne => if x = y then f else t
  | .lt => if x < y then t else f
  | .ge => if y ≤ x then t else f
  | .gt => if y < x then t else f
  | .le => if x ≤ y then t else f
def aSw {ρ : Type} (x : Int32) (K : Int → ρ) (d : Int) : Int32 → List Int → ρ
  | _, [] => K d
  | lo, o :: r => if x = lo then K o else aSw x K d (lo + 1) r
def aLk {ρ : Type} (x : Int32) (K : Int → ρ) (d : Int) : List (Int × Int) → ρ
  | [] => K d
  | o :: r => if x = Int32.ofInt o.1 then K o.2 else aLk x K d r
/-- one instruction: K goes on in the method, C calls -/
def amI (sa : Nat → Nat) (df : Nat → List Value) (K : Nat → List Value → List Value → AH → AR) (C : Nat → List Value → AH → AR) (pc : Nat) (ls st : List Value) (h : AH) (ins : Jvm.ClassFile.Instr) (len : Nat) (c : Int32) (p q r : Nat) : AR :=
  match ins with
  | .iconst _ => K (pc + len) ls (.int c :: st) h
  | .bipush _ => K (pc + len) ls (.int c :: st) h
  | .sipush _ => K (pc + len) ls (.int c :: st) h
  | .ldc _ => K (pc + len) ls (.int c :: st) h
  | .ldc_w _ => K (pc + len) ls (.int c :: st) h
  | .ldc2_w _ => K (pc + len) ls (.long (lN p) :: st) h
  | .lconst _ => K (pc + len) ls (.long (lN p) :: st) h
  | .iload i => aOp (aLI ls i) fun x => K (pc + len) ls (.int x :: st) h
  | .iload_n i => aOp (aLI ls i.val) fun x => K (pc + len) ls (.int x :: st) h
  | .lload i => aOp (aLL ls i) fun x => K (pc + len) ls (.long x :: st) h
  | .aload i => aOp (aLR ls i) fun x => K (pc + len) ls (.ref x :: st) h
  | .aload_n i => aOp (aLR ls i.val) fun x => K (pc + len) ls (.ref x :: st) h
  | .istore i => (match st with | .int x :: t => aOp (aS1 ls i (.int x)) fun ls => K (pc + len) ls t h | _ => none)
  | .istore_n i => (match st with | .int x :: t => aOp (aS1 ls i.val (.int x)) fun ls => K (pc + len) ls t h | _ => none)
  | .lstore i => (match st with | .long x :: t => aOp (aS2 ls i (.long x)) fun ls => K (pc + len) ls t h | _ => none)
  | .astore i => (match st with | .ref x :: t => aOp (aS1 ls i (.ref x)) fun ls => K (pc + len) ls t h | _ => none)
  | .astore_n i => (match st with | .ref x :: t => aOp (aS1 ls i.val (.ref x)) fun ls => K (pc + len) ls t h | _ => none)
  | .iinc i _ => aOp (aLI ls i) fun x => aOp (aS1 ls i (.int (x + c))) fun ls => K (pc + len) ls st h
  | .iadd => (match st with | .int y :: .int x :: t => K (pc + len) ls (.int (x + y) :: t) h | _ => none)
  | .isub => (match st with | .int y :: .int x :: t => K (pc + len) ls (.int (x - y) :: t) h | _ => none)
  | .imul => (match st with | .int y :: .int x :: t => K (pc + len) ls (.int (x * y) :: t) h | _ => none)
  | .iand => (match st with | .int y :: .int x :: t => K (pc + len) ls (.int (x &&& y) :: t) h | _ => none)
  | .ior => (match st with | .int y :: .int x :: t => K (pc + len) ls (.int (x ||| y) :: t) h | _ => none)
  | .ixor => (match st with | .int y :: .int x :: t => K (pc + len) ls (.int (x ^^^ y) :: t) h | _ => none)
  | .idiv => (match st with | .int y :: .int x :: t => if y = 0 then none else K (pc + len) ls (.int (x / y) :: t) h | _ => none)
  | .irem => (match st with | .int y :: .int x :: t => if y = 0 then none else K (pc + len) ls (.int (x - x / y * y) :: t) h | _ => none)
  | .ineg => (match st with | .int x :: t => K (pc + len) ls (.int (-x) :: t) h | _ => none)
  | .ishl => (match st with | .int y :: .int x :: t => K (pc + len) ls (.int (x <<< (y &&& 31)) :: t) h | _ => none)
  | .ishr => (match st with | .int y :: .int x :: t => K (pc + len) ls (.int (x >>> (y &&& 31)) :: t) h | _ => none)
  | .iushr => (match st with | .int y :: .int x :: t => K (pc + len) ls (.int (x.toUInt32 >>> (y.toUInt32 &&& Int32.toUInt32 31)).toInt32 :: t) h | _ => none)
  | .lmul => (match st with | .long y :: .long x :: t => K (pc + len) ls (.long (x * y) :: t) h | _ => none)
  | .lrem => (match st with | .long y :: .long x :: t => if y = 0 then none else K (pc + len) ls (.long (x - x / y * y) :: t) h | _ => none)
  | .lcmp => (match st with | .long y :: .long x :: t => K (pc + len) ls (.int (lg_cmp x y) :: t) h | _ => none)
  | .i2l => (match st with | .int x :: t => K (pc + len) ls (.long x.toInt64 :: t) h | _ => none)
  | .l2i => (match st with | .long x :: t => K (pc + len) ls (.int x.toInt32 :: t) h | _ => none)
  | .i2b => (match st with | .int x :: t => K (pc + len) ls (.int x.toInt8.toInt32 :: t) h | _ => none)
  | .i2s => (match st with | .int x :: t => K (pc + len) ls (.int x.toInt16.toInt32 :: t) h | _ => none)
  | .dup => (match st with | .int x :: t => K (pc + len) ls (.int x :: .int x :: t) h | .ref x :: t => K (pc + len) ls (.ref x :: .ref x :: t) h | _ => none)
  | .dup2 => (match st with | .int y :: .int x :: t => K (pc + len) ls (.int y :: .int x :: .int y :: .int x :: t) h | .int y :: .ref x :: t => K (pc + len) ls (.int y :: .ref x :: .int y :: .ref x :: t) h | _ => none)
  | .pop => (match st with | .int _ :: t => K (pc + len) ls t h | .ref _ :: t => K (pc + len) ls t h | _ => none)
  | .goto o => K (aTo pc o) ls st h
  | .ifCond cd o => (match st with | .int x :: t => aCmp cd x 0 (K (aTo pc o) ls t h) (K (pc + len) ls t h) | _ => none)
  | .if_icmp cd o => (match st with | .int y :: .int x :: t => aCmp cd x y (K (aTo pc o) ls t h) (K (pc + len) ls t h) | _ => none)
  | .tableswitch d _ _ os => (match st with | .int x :: t => aSw x (fun o => K (aTo pc o) ls t h) d c os.toList | _ => none)
  | .lookupswitch d os => (match st with | .int x :: t => aLk x (fun o => K (aTo pc o) ls t h) d os.toList | _ => none)
  | .getfield _ => (match st with | .ref a :: t => (match r with
      | 1 => aOp (aFI h a p q) fun x => K (pc + len) ls (.int x :: t) h
      | _ => aOp (aFR h a p q) fun x => K (pc + len) ls (.ref x :: t) h) | _ => none)
  | .putfield _ => (match r with
      | 1 => (match st with | .int x :: .ref a :: t => aOp (aFP h a p q (.int x)) fun h => K (pc + len) ls t h | _ => none)
      | _ => (match st with | .ref x :: .ref a :: t => aOp (aFP h a p q (.ref x)) fun h => K (pc + len) ls t h | _ => none))
  | .getstatic _ => K (pc + len) ls (.ref (sa p) :: st) h
  | .iaload => (match st with | .int i :: .ref a :: t => aOp (aIL h a i) fun x => K (pc + len) ls (.int x :: t) h | _ => none)
  | .baload => (match st with | .int i :: .ref a :: t => aOp (aZL h a i) fun x => K (pc + len) ls (.int x :: t) h | _ => none)
  | .aaload => (match st with | .int i :: .ref a :: t => aOp (aRL h a i) fun x => K (pc + len) ls (.ref x :: t) h | _ => none)
  | .iastore => (match st with | .int x :: .int i :: .ref a :: t => aOp (aIS h a i x) fun h => K (pc + len) ls t h | _ => none)
  | .bastore => (match st with | .int x :: .int i :: .ref a :: t => aOp (aZS h a i x) fun h => K (pc + len) ls t h | _ => none)
  | .aastore => (match st with | .ref x :: .int i :: .ref a :: t => aOp (aRS h a i x p) fun h => K (pc + len) ls t h | _ => none)
  | .arraylength => (match st with | .ref a :: t => aOp (aLen h a) fun x => K (pc + len) ls (.int x :: t) h | _ => none)
  | .new _ => K (pc + len) ls (.ref h.1 :: st) (aMk h (df p).length (.inl (p, df p)))
  | .newarray _ => (match st with | .int n :: t => aOp (aNA h p n) fun z => K (pc + len) ls (.ref z.1 :: t) z.2 | _ => none)
  | .anewarray _ => (match st with | .int n :: t => aOp (aNR h n) fun z => K (pc + len) ls (.ref z.1 :: t) z.2 | _ => none)
  | .invokevirtual _ => (match st.drop q with
      | .ref b :: t => (match aG st q with
        | true => aOp (aCl h b c.toNatClampNeg) fun _ => (match r with
          | 0 => aOp (aRV (C p (.ref b :: (st.take q).reverse) h)) fun h => K (pc + len) ls t h
          | 1 => aOp (aRI (C p (.ref b :: (st.take q).reverse) h)) fun z => K (pc + len) ls (.int z.1 :: t) z.2
          | _ => aOp (aRR (C p (.ref b :: (st.take q).reverse) h)) fun z => K (pc + len) ls (.ref z.1 :: t) z.2)
        | false => none)
      | _ => none)
  | .invokespecial _ => (match st.drop q with
      | .ref b :: t => (match aG st q with
        | true => (match r with
          | 0 => aOp (aRV (C p (.ref b :: (st.take q).reverse) h)) fun h => K (pc + len) ls t h
          | _ => K (pc + len) ls t h)
        | false => none)
      | _ => none)
  | .invokestatic _ => (match aG st q with
      | true => (match r with
        | 0 => aOp (aRV (C p (st.take q).reverse h)) fun h => K (pc + len) ls (st.drop q) h
        | 1 => aOp (aRI (C p (st.take q).reverse h)) fun z => K (pc + len) ls (.int z.1 :: st.drop q) z.2
        | 2 => aOp (aRR (C p (st.take q).reverse h)) fun z => K (pc + len) ls (.ref z.1 :: st.drop q) z.2
        | 3 => (match st with
          | .int n :: .int dp :: .ref a :: .int sp :: .ref a0 :: t => aOp (aCpy h a0 sp a dp n) fun h => K (pc + len) ls t h
          | _ => none)
        | 4 => (match st with
          | .int y :: .int x :: t => K (pc + len) ls (.int (if x < y then y else x) :: t) h
          | _ => none)
        | _ => (match st with
          | .int y :: .int x :: t => K (pc + len) ls (.int (if y < x then y else x) :: t) h
          | _ => none))
      | false => none)
  | .ireturn => (match st with
      | [.int x] => (match r with
        | 1 => some (some (.int x), h)
        | _ => if x = 0 ∨ x = 1 then some (some (.int x), h) else none)
      | _ => none)
  | .areturn => (match st with | [.ref a] => some (some (.ref a), h) | _ => none)
  | .return_ => (match st with | [] => some (none, h) | _ => none)
  | _ => none
def aEn (n : Nat) (as : List Value) : List Value := as ++ List.replicate (n - as.length) .null
