/-! the machine's runs -/
def amS (sa : Nat → Nat) (i : Nat) (K : Nat → List Value → List Value → AH → AR) (C : Nat → List Value → AH → AR) (pc : Nat) (ls st : List Value) (h : AH) : AR :=
  aOp (amCd i pc) fun w => match w with
    | (ins, len, c, p, q, r) => amI sa amDf K C pc ls st h ins len c p q r
def amC (f : Nat → Nat → Nat → List Value → List Value → AH → AR) (d : Nat) (j : Nat) (as : List Value) (h : AH) : AR := match d with
  | 0 => none
  | d + 1 => f d j 0 (aEn (amMx j) as) [] h
/-- n steps at most, calls d deep at most: method i from pc on -/
def am (sa : Nat → Nat) : Nat → Nat → Nat → Nat → List Value → List Value → AH → AR
  | 0, _, _, _, _, _, _ => none
  | n + 1, d, i, pc, ls, st, h => amS sa i (am sa n d i) (amC (am sa n) d) pc ls st h
/-- as many steps as it takes -/
noncomputable def AMV (sa : Nat → Nat) (d i pc : Nat) (ls st : List Value) (h : AH) : AR :=
  @dite _ (∃ (r : Option Value × AH) (n : Nat), am sa n d i pc ls st h = some r) (Classical.propDecidable _) (fun e => some e.choose) (fun _ => none)
noncomputable def AMC (sa : Nat → Nat) (d j : Nat) (as : List Value) (h : AH) : AR := amC (AMV sa) d j as h
/-- up to the next stop -/
def amT (sa : Nat → Nat) (i : Nat) (stop : Nat → Bool) (K : Nat → List Value → List Value → AH → AR) (C : Nat → List Value → AH → AR) : Nat → Nat → List Value → List Value → AH → AR
  | 0, pc, ls, st, h => K pc ls st h
  | n + 1, pc, ls, st, h => amS sa i (fun pc ls st h => cond (stop pc) (K pc ls st h) (amT sa i stop K C n pc ls st h)) C pc ls st h
