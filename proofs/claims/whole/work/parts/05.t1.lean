theorem AMV_T (sa : Nat → Nat) (d i : Nat) (stop : Nat → Bool) (n pc : Nat) (ls st : List Value) (h : AH) : AMV sa d i pc ls st h = amT sa i stop (AMV sa d i) (AMC sa d) n pc ls st h := by
  sorry
