set_option maxRecDepth 100000 in
theorem eX4_init_0 (sa : Nat → Nat) (d : Nat) (x0 : Nat) (x1 : Nat) (h : AH) : AMV sa d 34 0 [.ref x0, .ref x1] [] h =
  aOp (aNA h 0 12) fun z1 =>
  aOp (aFP z1.2 x0 4 1 (.ref z1.1)) fun h2 =>
  aOp (aFP h2 x0 4 0 (.ref x1)) fun h3 =>
  some (none, h3) :=
  (AMV_T sa d 34 (fun pc => false) 11 _ _ _ h).trans rfl
set_option maxRecDepth 100000 in
theorem eX4_foretell_0 (sa : Nat → Nat) (d : Nat) (x0 : Nat) (x1 : Nat) (x2 : Int32) (h : AH) : AMV sa d 35 0 [.ref x0, .ref x1, .int x2] [] h =
  aOp (aFR h x0 4 0) fun v1 =>
  aOp (aCl h v1 2) fun _ =>
  aOp (aRV (AMC sa d 12 [.ref v1, .ref x1] h)) fun h2 =>
  aOp (aFR h2 x0 4 0) fun v3 =>
  aOp (aCl h2 v3 2) fun _ =>
  aOp (aRV (AMC sa d 21 [.ref v3, .int x2] h2)) fun h4 =>
  aOp (aFR h4 x0 4 0) fun v5 =>
  some (some (.ref v5), h4) :=
  (AMV_T sa d 35 (fun pc => false) 12 _ _ _ h).trans rfl
set_option maxRecDepth 100000 in
theorem eX4_daysUntilSent_0 (sa : Nat → Nat) (d : Nat) (x0 : Nat) (x1 : Nat) (x2 : Int32) (h : AH) : AMV sa d 36 0 [.ref x0, .ref x1, .int x2, .null] [] h =
  aOp (aFR h x0 4 0) fun v1 =>
  aOp (aCl h v1 2) fun _ =>
  aOp (aRV (AMC sa d 12 [.ref v1, .ref x1] h)) fun h2 =>
  AMV sa d 36 10 [.ref x0, .ref x1, .int x2, .int 0] [] h2 :=
  (AMV_T sa d 36 (fun pc => Nat.beq pc 10) 7 _ _ _ h).trans rfl
set_option maxRecDepth 100000 in
theorem eX4_daysUntilSent_10 (sa : Nat → Nat) (d : Nat) (x0 : Nat) (x1 : Nat) (x2 : Int32) (x3 : Int32) (h : AH) : AMV sa d 36 10 [.ref x0, .ref x1, .int x2, .int x3] [] h =
  if 60 < x3 then
   some (some (.int (-1000000)), h)
  else
   aOp (aFR h x0 4 0) fun v1 =>
   aOp (aCl h v1 2) fun _ =>
   aOp (aRI (AMC sa d 13 [.ref v1, .int x2] h)) fun z2 =>
   if z2.1 = 0 then
    some (some (.int x3), z2.2)
   else
    aOp (aFR z2.2 x0 4 0) fun v3 =>
    aOp (aCl z2.2 v3 2) fun _ =>
    aOp (aRI (AMC sa d 20 [.ref v3] z2.2)) fun z4 =>
    AMV sa d 36 10 [.ref x0, .ref x1, .int x2, .int (x3 + 1)] [] z4.2 :=
  (AMV_T sa d 36 (fun pc => Nat.beq pc 10) 15 _ _ _ h).trans rfl
set_option maxRecDepth 100000 in
theorem eX4_fewestToSay_0 (sa : Nat → Nat) (d : Nat) (x0 : Nat) (x1 : Nat) (x2 : Int32) (x3 : Int32) (h : AH) : AMV sa d 37 0 [.ref x0, .ref x1, .int x2, .int x3, .null, .null, .null, .null] [] h =
  aOp (aCl h x1 2) fun _ =>
  aOp (aRI (AMC sa d 15 [.ref x1, .int x2] h)) fun z1 =>
  AMV sa d 37 14 [.ref x0, .ref x1, .int x2, .int x3, .int z1.1, .int (-1000000), .int 0, .null] [] z1.2 :=
  (AMV_T sa d 37 (fun pc => Nat.beq pc 14 || Nat.beq pc 46) 9 _ _ _ h).trans rfl
set_option maxRecDepth 100000 in
theorem eX4_fewestToSay_14 (sa : Nat → Nat) (d : Nat) (x0 : Nat) (x1 : Nat) (x2 : Int32) (x3 : Int32) (x4 : Int32) (x5 : Int32) (x6 : Int32) (x7 : Value) (h : AH) : AMV sa d 37 14 [.ref x0, .ref x1, .int x2, .int x3, .int x4, .int x5, .int x6, x7] [] h =
  if 64 ≤ x6 then
   some (some (.int x5), h)
  else
   if x5 = (-1000000) then
    AMV sa d 37 46 [.ref x0, .ref x1, .int x2, .int x3, .int x4, .int x5, .int x6, x7] [.int 1] h
   else
    aOp (aRI (AMC sa d 185 [.int x6] h)) fun z1 =>
    aOp (aRI (AMC sa d 185 [.int x5] z1.2)) fun z2 =>
    if z2.1 ≤ z1.1 then
     AMV sa d 37 46 [.ref x0, .ref x1, .int x2, .int x3, .int x4, .int x5, .int x6, x7] [.int 0] z2.2
    else
     AMV sa d 37 46 [.ref x0, .ref x1, .int x2, .int x3, .int x4, .int x5, .int x6, x7] [.int 1] z2.2 :=
  (AMV_T sa d 37 (fun pc => Nat.beq pc 14 || Nat.beq pc 46) 14 _ _ _ h).trans rfl
set_option maxRecDepth 100000 in
theorem eX4_fewestToSay_46 (sa : Nat → Nat) (d : Nat) (x0 : Nat) (x1 : Nat) (x2 : Int32) (x3 : Int32) (x4 : Int32) (x5 : Int32) (x6 : Int32) (x7 : Value) (s0 : Int32) (h : AH) : AMV sa d 37 46 [.ref x0, .ref x1, .int x2, .int x3, .int x4, .int x5, .int x6, x7] [.int s0] h =
  if x6 &&& (x4 ^^^ (-1)) = 0 then
   if s0 = 0 then
    AMV sa d 37 14 [.ref x0, .ref x1, .int x2, .int x3, .int x4, .int x5, .int (x6 + 1), .int s0] [] h
   else
    aOp (aRI (AMC sa d 38 [.ref x1, .int x2, .int x6] h)) fun z1 =>
    if x3 < z1.1 then
     AMV sa d 37 14 [.ref x0, .ref x1, .int x2, .int x3, .int x4, .int x5, .int (x6 + 1), .int s0] [] z1.2
    else
     AMV sa d 37 14 [.ref x0, .ref x1, .int x2, .int x3, .int x4, .int x6, .int (x6 + 1), .int s0] [] z1.2
  else
   AMV sa d 37 14 [.ref x0, .ref x1, .int x2, .int x3, .int x4, .int x5, .int (x6 + 1), .int s0] [] h :=
  (AMV_T sa d 37 (fun pc => Nat.beq pc 14 || Nat.beq pc 46) 20 _ _ _ h).trans rfl
set_option maxRecDepth 100000 in
theorem eX4_weightHavingSaid_0 (sa : Nat → Nat) (d : Nat) (x0 : Nat) (x1 : Int32) (x2 : Int32) (h : AH) : AMV sa d 38 0 [.ref x0, .int x1, .int x2, .null] [] h =
  aOp (aFR h x0 2 3) fun v1 =>
  aOp (aFR h v1 6 1) fun v2 =>
  aOp (aCl h x0 2) fun _ =>
  aOp (aRI (AMC sa d 15 [.ref x0, .int x1] h)) fun z3 =>
  aOp (aIL z3.2 v2 (z3.1 &&& (x2 ^^^ (-1)))) fun v4 =>
  aOp (aFR z3.2 x0 2 0) fun v5 =>
  aOp (aIL z3.2 v5 x1) fun v6 =>
  aOp (aFR z3.2 x0 2 2) fun v7 =>
  aOp (aIL z3.2 v7 x1) fun v8 =>
  if v8 ||| x2 = 0 then
   aOp (aRI (AMC sa d 17 [.int v6, .int v4, .int 1] z3.2)) fun z9 =>
   some (some (.int z9.1), z9.2)
  else
   aOp (aRI (AMC sa d 17 [.int v6, .int v4, .int 0] z3.2)) fun z10 =>
   some (some (.int z10.1), z10.2) :=
  (AMV_T sa d 38 (fun pc => false) 29 _ _ _ h).trans rfl
set_option maxRecDepth 100000 in
theorem eX4_weighingAlike_0 (sa : Nat → Nat) (d : Nat) (x0 : Nat) (x1 : Nat) (x2 : Int32) (x3 : Int32) (h : AH) : AMV sa d 39 0 [.ref x0, .ref x1, .int x2, .int x3, .null, .null, .null, .null, .null, .null] [] h =
  aOp (aFR h x1 2 2) fun v1 =>
  aOp (aIL h v1 x2) fun v2 =>
  aOp (aFR h x1 2 3) fun v3 =>
  aOp (aFI h v3 6 0) fun v4 =>
  aOp (aCl h x1 2) fun _ =>
  aOp (aRI (AMC sa d 16 [.ref x1, .int x2] h)) fun z5 =>
  AMV sa d 39 43 [.ref x0, .ref x1, .int x2, .int x3, .int v2, .int (((1 <<< (v4 &&& 31)) - 1) &&& (v2 ^^^ (-1))), .int z5.1, .int 0, .int (((1 <<< (v4 &&& 31)) - 1) &&& (v2 ^^^ (-1))), .int 0] [] z5.2 :=
  (AMV_T sa d 39 (fun pc => Nat.beq pc 43 || Nat.beq pc 86) 28 _ _ _ h).trans rfl
set_option maxRecDepth 100000 in
theorem eX4_weighingAlike_43 (sa : Nat → Nat) (d : Nat) (x0 : Nat) (x1 : Nat) (x2 : Int32) (x3 : Int32) (x4 : Int32) (x5 : Int32) (x6 : Int32) (x7 : Int32) (x8 : Int32) (x9 : Int32) (h : AH) : AMV sa d 39 43 [.ref x0, .ref x1, .int x2, .int x3, .int x4, .int x5, .int x6, .int x7, .int x8, .int x9] [] h =
  if 64 ≤ x9 then
   if x3 = 0 then
    some (some (.int x7), h)
   else
    some (some (.int x8), h)
  else
   if x9 &&& (x5 ^^^ (-1)) = 0 then
    aOp (aFR h x1 2 0) fun v1 =>
    aOp (aIL h v1 x2) fun v2 =>
    aOp (aFR h x1 2 3) fun v3 =>
    aOp (aFR h v3 6 1) fun v4 =>
    aOp (aIL h v4 x9) fun v5 =>
    if x4 = 0 then
     AMV sa d 39 86 [.ref x0, .ref x1, .int x2, .int x3, .int x4, .int x5, .int x6, .int x7, .int x8, .int x9] [.int 1, .int v5, .int v2] h
    else
     AMV sa d 39 86 [.ref x0, .ref x1, .int x2, .int x3, .int x4, .int x5, .int x6, .int x7, .int x8, .int x9] [.int 0, .int v5, .int v2] h
   else
    AMV sa d 39 43 [.ref x0, .ref x1, .int x2, .int x3, .int x4, .int x5, .int x6, .int x7, .int x8, .int (x9 + 1)] [] h :=
  (AMV_T sa d 39 (fun pc => Nat.beq pc 43 || Nat.beq pc 86) 23 _ _ _ h).trans rfl
set_option maxRecDepth 100000 in
theorem eX4_weighingAlike_86 (sa : Nat → Nat) (d : Nat) (x0 : Nat) (x1 : Nat) (x2 : Int32) (x3 : Int32) (x4 : Int32) (x5 : Int32) (x6 : Int32) (x7 : Int32) (x8 : Int32) (x9 : Int32) (s0 : Int32) (s1 : Int32) (s2 : Int32) (h : AH) : AMV sa d 39 86 [.ref x0, .ref x1, .int x2, .int x3, .int x4, .int x5, .int x6, .int x7, .int x8, .int x9] [.int s2, .int s1, .int s0] h =
  aOp (aRI (AMC sa d 17 [.int s0, .int s1, .int s2] h)) fun z1 =>
  if z1.1 = x6 then
   AMV sa d 39 43 [.ref x0, .ref x1, .int x2, .int x3, .int x4, .int x5, .int x6, .int (x7 + 1), .int (x8 &&& x9), .int (x9 + 1)] [] z1.2
  else
   AMV sa d 39 43 [.ref x0, .ref x1, .int x2, .int x3, .int x4, .int x5, .int x6, .int x7, .int x8, .int (x9 + 1)] [] z1.2 :=
  (AMV_T sa d 39 (fun pc => Nat.beq pc 43 || Nat.beq pc 86) 11 _ _ _ h).trans rfl
set_option maxRecDepth 100000 in
theorem eX4_bestLoad_0 (sa : Nat → Nat) (d : Nat) (x0 : Nat) (x1 : Nat) (x2 : Int32) (h : AH) : AMV sa d 40 0 [.ref x0, .ref x1, .int x2, .null, .null, .null, .null, .null] [] h =
  AMV sa d 40 8 [.ref x0, .ref x1, .int x2, .int 0, .int 0, .int 1, .null, .null] [] h :=
  (AMV_T sa d 40 (fun pc => Nat.beq pc 8 || Nat.beq pc 49 || Nat.beq pc 82) 7 _ _ _ h).trans rfl
set_option maxRecDepth 100000 in
theorem eX4_bestLoad_8 (sa : Nat → Nat) (d : Nat) (x0 : Nat) (x1 : Nat) (x2 : Int32) (x3 : Int32) (x4 : Int32) (x5 : Int32) (x6 : Value) (x7 : Value) (h : AH) : AMV sa d 40 8 [.ref x0, .ref x1, .int x2, .int x3, .int x4, .int x5, x6, x7] [] h =
  if 128 ≤ x5 then
   some (some (.int x3), h)
  else
   aOp (aFI h x1 2 4) fun v1 =>
   if 1 <<< (v1 &&& 31) ≤ x5 then
    some (some (.int x3), h)
   else
    aOp (aFI h x1 2 5) fun v2 =>
    if x5 &&& v2 = 0 then
     aOp (aCl h x1 2) fun _ =>
     aOp (aRI (AMC sa d 18 [.ref x1, .int x5] h)) fun z3 =>
     AMV sa d 40 49 [.ref x0, .ref x1, .int x2, .int x3, .int x4, .int x5, x6, x7] [.int z3.1] z3.2
    else
     AMV sa d 40 49 [.ref x0, .ref x1, .int x2, .int x3, .int x4, .int x5, x6, x7] [.int (x2 + 1)] h :=
  (AMV_T sa d 40 (fun pc => Nat.beq pc 8 || Nat.beq pc 49 || Nat.beq pc 82) 19 _ _ _ h).trans rfl
set_option maxRecDepth 100000 in
theorem eX4_bestLoad_49 (sa : Nat → Nat) (d : Nat) (x0 : Nat) (x1 : Nat) (x2 : Int32) (x3 : Int32) (x4 : Int32) (x5 : Int32) (x6 : Value) (x7 : Value) (s0 : Int32) (h : AH) : AMV sa d 40 49 [.ref x0, .ref x1, .int x2, .int x3, .int x4, .int x5, x6, x7] [.int s0] h =
  if x4 < s0 then
   AMV sa d 40 82 [.ref x0, .ref x1, .int x2, .int x3, .int x4, .int x5, .int s0, x7] [.int 1] h
  else
   if s0 = x4 then
    aOp (aRI (AMC sa d 185 [.int x5] h)) fun z1 =>
    aOp (aRI (AMC sa d 185 [.int x3] z1.2)) fun z2 =>
    if z1.1 ≤ z2.1 then
     AMV sa d 40 82 [.ref x0, .ref x1, .int x2, .int x3, .int x4, .int x5, .int s0, x7] [.int 0] z2.2
    else
     AMV sa d 40 82 [.ref x0, .ref x1, .int x2, .int x3, .int x4, .int x5, .int s0, x7] [.int 1] z2.2
   else
    AMV sa d 40 82 [.ref x0, .ref x1, .int x2, .int x3, .int x4, .int x5, .int s0, x7] [.int 0] h :=
  (AMV_T sa d 40 (fun pc => Nat.beq pc 8 || Nat.beq pc 49 || Nat.beq pc 82) 15 _ _ _ h).trans rfl
set_option maxRecDepth 100000 in
theorem eX4_bestLoad_82 (sa : Nat → Nat) (d : Nat) (x0 : Nat) (x1 : Nat) (x2 : Int32) (x3 : Int32) (x4 : Int32) (x5 : Int32) (x6 : Int32) (x7 : Value) (s0 : Int32) (h : AH) : AMV sa d 40 82 [.ref x0, .ref x1, .int x2, .int x3, .int x4, .int x5, .int x6, x7] [.int s0] h =
  if x2 < x6 then
   AMV sa d 40 8 [.ref x0, .ref x1, .int x2, .int x3, .int x4, .int (x5 + 1), .int x6, .int s0] [] h
  else
   if s0 = 0 then
    AMV sa d 40 8 [.ref x0, .ref x1, .int x2, .int x3, .int x4, .int (x5 + 1), .int x6, .int s0] [] h
   else
    AMV sa d 40 8 [.ref x0, .ref x1, .int x2, .int x5, .int x6, .int (x5 + 1), .int x6, .int s0] [] h :=
  (AMV_T sa d 40 (fun pc => Nat.beq pc 8 || Nat.beq pc 49 || Nat.beq pc 82) 13 _ _ _ h).trans rfl
set_option maxRecDepth 100000 in
theorem eX4_shareOf_0 (sa : Nat → Nat) (d : Nat) (x0 : Nat) (x1 : Nat) (x2 : Int32) (x3 : Int32) (h : AH) : AMV sa d 41 0 [.ref x0, .ref x1, .int x2, .int x3, .null, .null, .null, .null, .null] [] h =
  aOp (aFI h x1 2 5) fun v1 =>
  aOp (aCl h x1 2) fun _ =>
  aOp (aRI (AMC sa d 18 [.ref x1, .int (v1 ^^^ (-1))] h)) fun z2 =>
  aOp (aCl z2.2 x1 2) fun _ =>
  aOp (aRI (AMC sa d 13 [.ref x1, .int x2] z2.2)) fun z3 =>
  if z3.1 = 0 then
   some (some (.int 0), z3.2)
  else
   if z2.1 = 0 then
    some (some (.int 0), z3.2)
   else
    AMV sa d 41 36 [.ref x0, .ref x1, .int x2, .int x3, .int z2.1, .int x3, .int 0, .int 0, .null] [] z3.2 :=
  (AMV_T sa d 41 (fun pc => Nat.beq pc 36 || Nat.beq pc 64) 20 _ _ _ h).trans rfl
set_option maxRecDepth 100000 in
theorem eX4_shareOf_36 (sa : Nat → Nat) (d : Nat) (x0 : Nat) (x1 : Nat) (x2 : Int32) (x3 : Int32) (x4 : Int32) (x5 : Int32) (x6 : Int32) (x7 : Int32) (x8 : Value) (h : AH) : AMV sa d 41 36 [.ref x0, .ref x1, .int x2, .int x3, .int x4, .int x5, .int x6, .int x7, x8] [] h =
  aOp (aFI h x1 2 4) fun v1 =>
  if v1 ≤ x7 then
   aOp (aCl h x1 2) fun _ =>
   aOp (aRI (AMC sa d 16 [.ref x1, .int x2] h)) fun z2 =>
   if x4 = 0 then none else
   if z2.1 ≤ 0 then
    some (some (.int (((x3 * z2.1) / x4) + 0)), z2.2)
   else
    if x5 ≤ x6 then
     some (some (.int (((x3 * z2.1) / x4) + 0)), z2.2)
    else
     some (some (.int (((x3 * z2.1) / x4) + 1)), z2.2)
  else
   aOp (aCl h x1 2) fun _ =>
   aOp (aRI (AMC sa d 13 [.ref x1, .int x7] h)) fun z3 =>
   if z3.1 = 0 then
    AMV sa d 41 64 [.ref x0, .ref x1, .int x2, .int x3, .int x4, .int x5, .int x6, .int x7, x8] [.int 0] z3.2
   else
    aOp (aCl z3.2 x1 2) fun _ =>
    aOp (aRI (AMC sa d 16 [.ref x1, .int x7] z3.2)) fun z4 =>
    AMV sa d 41 64 [.ref x0, .ref x1, .int x2, .int x3, .int x4, .int x5, .int x6, .int x7, x8] [.int z4.1] z4.2 :=
  (AMV_T sa d 41 (fun pc => Nat.beq pc 36 || Nat.beq pc 64) 23 _ _ _ h).trans rfl
set_option maxRecDepth 100000 in
theorem eX4_shareOf_64 (sa : Nat → Nat) (d : Nat) (x0 : Nat) (x1 : Nat) (x2 : Int32) (x3 : Int32) (x4 : Int32) (x5 : Int32) (x6 : Int32) (x7 : Int32) (x8 : Value) (s0 : Int32) (h : AH) : AMV sa d 41 64 [.ref x0, .ref x1, .int x2, .int x3, .int x4, .int x5, .int x6, .int x7, x8] [.int s0] h =
  if x4 = 0 then none else
  if x2 ≤ x7 then
   AMV sa d 41 36 [.ref x0, .ref x1, .int x2, .int x3, .int x4, .int (x5 - ((x3 * s0) / x4)), .int x6, .int (x7 + 1), .int s0] [] h
  else
   if s0 ≤ 0 then
    AMV sa d 41 36 [.ref x0, .ref x1, .int x2, .int x3, .int x4, .int (x5 - ((x3 * s0) / x4)), .int x6, .int (x7 + 1), .int s0] [] h
   else
    AMV sa d 41 36 [.ref x0, .ref x1, .int x2, .int x3, .int x4, .int (x5 - ((x3 * s0) / x4)), .int (x6 + 1), .int (x7 + 1), .int s0] [] h :=
  (AMV_T sa d 41 (fun pc => Nat.beq pc 36 || Nat.beq pc 64) 18 _ _ _ h).trans rfl
set_option maxRecDepth 100000 in
theorem eX4_hear_0 (sa : Nat → Nat) (d : Nat) (x0 : Nat) (x1 : Nat) (x2 : Int32) (x3 : Int32) (x4 : Int32) (h : AH) : AMV sa d 42 0 [.ref x0, .ref x1, .int x2, .int x3, .int x4, .null] [] h =
  aOp (aFP h x0 4 2 (.int (if 12 < x4 then 12 else x4))) fun h1 =>
  AMV sa d 42 14 [.ref x0, .ref x1, .int x2, .int x3, .int x4, .int 0] [] h1 :=
  (AMV_T sa d 42 (fun pc => Nat.beq pc 14) 8 _ _ _ h).trans rfl
set_option maxRecDepth 100000 in
theorem eX4_hear_14 (sa : Nat → Nat) (d : Nat) (x0 : Nat) (x1 : Nat) (x2 : Int32) (x3 : Int32) (x4 : Int32) (x5 : Int32) (h : AH) : AMV sa d 42 14 [.ref x0, .ref x1, .int x2, .int x3, .int x4, .int x5] [] h =
  aOp (aFI h x0 4 2) fun v1 =>
  if v1 ≤ x5 then
   some (none, h)
  else
   aOp (aFR h x0 4 1) fun v2 =>
   aOp (aCl h x1 3) fun _ =>
   aOp (aRI (AMC sa d 30 [.ref x1, .int x2, .int (x3 + x5)] h)) fun z3 =>
   aOp (aIS z3.2 v2 x5 z3.1) fun h4 =>
   AMV sa d 42 14 [.ref x0, .ref x1, .int x2, .int x3, .int x4, .int (x5 + 1)] [] h4 :=
  (AMV_T sa d 42 (fun pc => Nat.beq pc 14) 17 _ _ _ h).trans rfl
set_option maxRecDepth 100000 in
theorem eX4_isAsTold_0 (sa : Nat → Nat) (d : Nat) (x0 : Nat) (x1 : Int32) (h : AH) : AMV sa d 43 0 [.ref x0, .int x1, .null] [] h =
  AMV sa d 43 2 [.ref x0, .int x1, .int 0] [] h :=
  (AMV_T sa d 43 (fun pc => Nat.beq pc 2) 3 _ _ _ h).trans rfl
set_option maxRecDepth 100000 in
theorem eX4_isAsTold_2 (sa : Nat → Nat) (d : Nat) (x0 : Nat) (x1 : Int32) (x2 : Int32) (h : AH) : AMV sa d 43 2 [.ref x0, .int x1, .int x2] [] h =
  aOp (aFI h x0 4 2) fun v1 =>
  if v1 ≤ x2 then
   some (some (.int 1), h)
  else
   aOp (aFR h x0 4 0) fun v2 =>
   aOp (aCl h v2 2) fun _ =>
   aOp (aRI (AMC sa d 20 [.ref v2] h)) fun z3 =>
   aOp (aFR z3.2 x0 4 0) fun v4 =>
   aOp (aCl z3.2 v4 2) fun _ =>
   aOp (aRI (AMC sa d 16 [.ref v4, .int x1] z3.2)) fun z5 =>
   aOp (aFR z5.2 x0 4 1) fun v6 =>
   aOp (aIL z5.2 v6 x2) fun v7 =>
   if z5.1 = v7 then
    AMV sa d 43 2 [.ref x0, .int x1, .int (x2 + 1)] [] z5.2
   else
    some (some (.int 0), z5.2) :=
  (AMV_T sa d 43 (fun pc => Nat.beq pc 2) 20 _ _ _ h).trans rfl
set_option maxRecDepth 100000 in
theorem eX4_fittingKinds_0 (sa : Nat → Nat) (d : Nat) (x0 : Nat) (x1 : Nat) (x2 : Int32) (h : AH) : AMV sa d 44 0 [.ref x0, .ref x1, .int x2, .null, .null] [] h =
  AMV sa d 44 5 [.ref x0, .ref x1, .int x2, .int 0, .int 1] [] h :=
  (AMV_T sa d 44 (fun pc => Nat.beq pc 5) 5 _ _ _ h).trans rfl
set_option maxRecDepth 100000 in
theorem eX4_fittingKinds_5 (sa : Nat → Nat) (d : Nat) (x0 : Nat) (x1 : Nat) (x2 : Int32) (x3 : Int32) (x4 : Int32) (h : AH) : AMV sa d 44 5 [.ref x0, .ref x1, .int x2, .int x3, .int x4] [] h =
  if 5 < x4 then
   some (some (.int x3), h)
  else
   aOp (aFR h x0 4 0) fun v1 =>
   aOp (aCl h v1 2) fun _ =>
   aOp (aRV (AMC sa d 12 [.ref v1, .ref x1] h)) fun h2 =>
   aOp (aFR h2 x0 4 0) fun v3 =>
   aOp (aFR h2 v3 2 0) fun v4 =>
   aOp (aIS h2 v4 x2 x4) fun h5 =>
   aOp (aCl h5 x0 4) fun _ =>
   aOp (aRI (AMC sa d 43 [.ref x0, .int x2] h5)) fun z6 =>
   if z6.1 = 0 then
    AMV sa d 44 5 [.ref x0, .ref x1, .int x2, .int x3, .int (x4 + 1)] [] z6.2
   else
    AMV sa d 44 5 [.ref x0, .ref x1, .int x2, .int (x3 ||| (1 <<< (x4 &&& 31))), .int (x4 + 1)] [] z6.2 :=
  (AMV_T sa d 44 (fun pc => Nat.beq pc 5) 26 _ _ _ h).trans rfl
set_option maxRecDepth 100000 in
theorem eX4_fittingSaids_0 (sa : Nat → Nat) (d : Nat) (x0 : Nat) (x1 : Nat) (x2 : Int32) (x3 : Int32) (h : AH) : AMV sa d 45 0 [.ref x0, .ref x1, .int x2, .int x3, .null, .null, .null] [] h =
  AMV sa d 45 10 [.ref x0, .ref x1, .int x2, .int x3, .int 0, .int (-1000000), .int 0] [] h :=
  (AMV_T sa d 45 (fun pc => Nat.beq pc 10 || Nat.beq pc 73) 7 _ _ _ h).trans rfl
set_option maxRecDepth 100000 in
theorem eX4_fittingSaids_10 (sa : Nat → Nat) (d : Nat) (x0 : Nat) (x1 : Nat) (x2 : Int32) (x3 : Int32) (x4 : Int32) (x5 : Int32) (x6 : Int32) (h : AH) : AMV sa d 45 10 [.ref x0, .ref x1, .int x2, .int x3, .int x4, .int x5, .int x6] [] h =
  if 64 ≤ x6 then
   if x3 = 0 then
    some (some (.int x4), h)
   else
    some (some (.int x5), h)
  else
   aOp (aFR h x1 2 1) fun v1 =>
   aOp (aIL h v1 x2) fun v2 =>
   if x6 &&& (v2 ^^^ (-1)) = 0 then
    aOp (aFR h x0 4 0) fun v3 =>
    aOp (aCl h v3 2) fun _ =>
    aOp (aRV (AMC sa d 12 [.ref v3, .ref x1] h)) fun h4 =>
    aOp (aFR h4 x0 4 0) fun v5 =>
    aOp (aFR h4 v5 2 2) fun v6 =>
    aOp (aIS h4 v6 x2 x6) fun h7 =>
    aOp (aCl h7 x0 4) fun _ =>
    aOp (aRI (AMC sa d 43 [.ref x0, .int x2] h7)) fun z8 =>
    if z8.1 = 0 then
     AMV sa d 45 10 [.ref x0, .ref x1, .int x2, .int x3, .int x4, .int x5, .int (x6 + 1)] [] z8.2
    else
     if x4 = 0 then
      AMV sa d 45 73 [.ref x0, .ref x1, .int x2, .int x3, .int x4, .int x5, .int x6] [.int x6] z8.2
     else
      AMV sa d 45 73 [.ref x0, .ref x1, .int x2, .int x3, .int x4, .int x5, .int x6] [.int x5] z8.2
   else
    AMV sa d 45 10 [.ref x0, .ref x1, .int x2, .int x3, .int x4, .int x5, .int (x6 + 1)] [] h :=
  (AMV_T sa d 45 (fun pc => Nat.beq pc 10 || Nat.beq pc 73) 31 _ _ _ h).trans rfl
set_option maxRecDepth 100000 in
theorem eX4_fittingSaids_73 (sa : Nat → Nat) (d : Nat) (x0 : Nat) (x1 : Nat) (x2 : Int32) (x3 : Int32) (x4 : Int32) (x5 : Int32) (x6 : Int32) (s0 : Int32) (h : AH) : AMV sa d 45 73 [.ref x0, .ref x1, .int x2, .int x3, .int x4, .int x5, .int x6] [.int s0] h =
  AMV sa d 45 10 [.ref x0, .ref x1, .int x2, .int x3, .int (x4 + 1), .int s0, .int (x6 + 1)] [] h :=
  (AMV_T sa d 45 (fun pc => Nat.beq pc 10 || Nat.beq pc 73) 5 _ _ _ h).trans rfl
set_option maxRecDepth 100000 in
theorem eX4_fittingLimits_0 (sa : Nat → Nat) (d : Nat) (x0 : Nat) (x1 : Nat) (x2 : Int32) (x3 : Int32) (h : AH) : AMV sa d 46 0 [.ref x0, .ref x1, .int x2, .int x3, .null, .null, .null] [] h =
  AMV sa d 46 10 [.ref x0, .ref x1, .int x2, .int x3, .int 0, .int (-1000000), .int 0] [] h :=
  (AMV_T sa d 46 (fun pc => Nat.beq pc 10 || Nat.beq pc 54) 7 _ _ _ h).trans rfl
set_option maxRecDepth 100000 in
theorem eX4_fittingLimits_10 (sa : Nat → Nat) (d : Nat) (x0 : Nat) (x1 : Nat) (x2 : Int32) (x3 : Int32) (x4 : Int32) (x5 : Int32) (x6 : Int32) (h : AH) : AMV sa d 46 10 [.ref x0, .ref x1, .int x2, .int x3, .int x4, .int x5, .int x6] [] h =
  if 60 < x6 then
   if x3 = 0 then
    some (some (.int x4), h)
   else
    some (some (.int x5), h)
  else
   aOp (aFR h x0 4 0) fun v1 =>
   aOp (aCl h v1 2) fun _ =>
   aOp (aRV (AMC sa d 12 [.ref v1, .ref x1] h)) fun h2 =>
   aOp (aFR h2 x0 4 0) fun v3 =>
   aOp (aFP h2 v3 2 7 (.int x6)) fun h4 =>
   aOp (aCl h4 x0 4) fun _ =>
   aOp (aRI (AMC sa d 43 [.ref x0, .int x2] h4)) fun z5 =>
   if z5.1 = 0 then
    AMV sa d 46 10 [.ref x0, .ref x1, .int x2, .int x3, .int x4, .int x5, .int (x6 + 1)] [] z5.2
   else
    if x4 = 0 then
     AMV sa d 46 54 [.ref x0, .ref x1, .int x2, .int x3, .int x4, .int x5, .int x6] [.int x6] z5.2
    else
     AMV sa d 46 54 [.ref x0, .ref x1, .int x2, .int x3, .int x4, .int x5, .int x6] [.int x5] z5.2 :=
  (AMV_T sa d 46 (fun pc => Nat.beq pc 10 || Nat.beq pc 54) 20 _ _ _ h).trans rfl
set_option maxRecDepth 100000 in
theorem eX4_fittingLimits_54 (sa : Nat → Nat) (d : Nat) (x0 : Nat) (x1 : Nat) (x2 : Int32) (x3 : Int32) (x4 : Int32) (x5 : Int32) (x6 : Int32) (s0 : Int32) (h : AH) : AMV sa d 46 54 [.ref x0, .ref x1, .int x2, .int x3, .int x4, .int x5, .int x6] [.int s0] h =
  AMV sa d 46 10 [.ref x0, .ref x1, .int x2, .int x3, .int (x4 + 1), .int s0, .int (x6 + 1)] [] h :=
  (AMV_T sa d 46 (fun pc => Nat.beq pc 10 || Nat.beq pc 54) 5 _ _ _ h).trans rfl
set_option maxRecDepth 100000 in
theorem eX4_lightCases_0 (sa : Nat → Nat) (d : Nat) (x0 : Nat) (x1 : Nat) (x2 : Int32) (x3 : Int32) (x4 : Int32) (x5 : Int32) (h : AH) : AMV sa d 47 0 [.ref x0, .ref x1, .int x2, .int x3, .int x4, .int x5, .null, .null, .null, .null] [] h =
  aOp (aCl h x1 2) fun _ =>
  aOp (aRI (AMC sa d 15 [.ref x1, .int x2] h)) fun z1 =>
  AMV sa d 47 13 [.ref x0, .ref x1, .int x2, .int x3, .int x4, .int x5, .int z1.1, .int 0, .int 0, .null] [] z1.2 :=
  (AMV_T sa d 47 (fun pc => Nat.beq pc 13) 9 _ _ _ h).trans rfl
set_option maxRecDepth 100000 in
theorem eX4_lightCases_13 (sa : Nat → Nat) (d : Nat) (x0 : Nat) (x1 : Nat) (x2 : Int32) (x3 : Int32) (x4 : Int32) (x5 : Int32) (x6 : Int32) (x7 : Int32) (x8 : Int32) (x9 : Value) (h : AH) : AMV sa d 47 13 [.ref x0, .ref x1, .int x2, .int x3, .int x4, .int x5, .int x6, .int x7, .int x8, x9] [] h =
  if 64 ≤ x8 then
   some (some (.int x7), h)
  else
   if x8 &&& (x6 ^^^ (-1)) = 0 then
    aOp (aFR h x0 4 0) fun v1 =>
    aOp (aCl h v1 2) fun _ =>
    aOp (aRV (AMC sa d 12 [.ref v1, .ref x1] h)) fun h2 =>
    aOp (aFR h2 x0 4 0) fun v3 =>
    aOp (aFR h2 v3 2 2) fun v4 =>
    aOp (aIL h2 v4 x2) fun v5 =>
    aOp (aIS h2 v4 x2 (v5 ||| x8)) fun h6 =>
    aOp (aFR h6 x0 4 0) fun v7 =>
    aOp (aCl h6 v7 2) fun _ =>
    aOp (aRV (AMC sa d 21 [.ref v7, .int x4] h6)) fun h8 =>
    aOp (aFR h8 x0 4 0) fun v9 =>
    aOp (aCl h8 v9 2) fun _ =>
    aOp (aRI (AMC sa d 16 [.ref v9, .int x2] h8)) fun z10 =>
    if x3 < z10.1 then
     AMV sa d 47 13 [.ref x0, .ref x1, .int x2, .int x3, .int x4, .int x5, .int x6, .int x7, .int (x8 + 1), x9] [] z10.2
    else
     aOp (aRI (AMC sa d 185 [.int (x6 &&& (x8 ^^^ (-1)))] z10.2)) fun z11 =>
     aOp (aRI (AMC sa d 185 [.int x8] z11.2)) fun z12 =>
     aOp (aRI (AMC sa d 104 [.int x5, .int z12.1] z12.2)) fun z13 =>
     aOp (aRI (AMC sa d 104 [.int (10 - x5), .int z11.1] z13.2)) fun z14 =>
     AMV sa d 47 13 [.ref x0, .ref x1, .int x2, .int x3, .int x4, .int x5, .int x6, .int (x7 + (z13.1 * z14.1)), .int (x8 + 1), .int z11.1] [] z14.2
   else
    AMV sa d 47 13 [.ref x0, .ref x1, .int x2, .int x3, .int x4, .int x5, .int x6, .int x7, .int (x8 + 1), x9] [] h :=
  (AMV_T sa d 47 (fun pc => Nat.beq pc 13) 55 _ _ _ h).trans rfl
set_option maxRecDepth 100000 in
theorem eX4_draw_0 (sa : Nat → Nat) (d : Nat) (x0 : Nat) (x1 : Nat) (x2 : Int32) (x3 : Int32) (h : AH) : AMV sa d 48 0 [.ref x0, .ref x1, .int x2, .int x3, .null, .null, .null, .null] [] h =
  aOp (aFR h x0 4 0) fun v1 =>
  aOp (aCl h v1 2) fun _ =>
  aOp (aRV (AMC sa d 12 [.ref v1, .ref x1] h)) fun h2 =>
  AMV sa d 48 15 [.ref x0, .ref x1, .int x2, .int x3, .long x3.toInt64, .null, .int 0, .null] [] h2 :=
  (AMV_T sa d 48 (fun pc => Nat.beq pc 15 || Nat.beq pc 31 || Nat.beq pc 43 || Nat.beq pc 53 || Nat.beq pc 79 || Nat.beq pc 106 || Nat.beq pc 126) 10 _ _ _ h).trans rfl
set_option maxRecDepth 100000 in
theorem eX4_draw_15 (sa : Nat → Nat) (d : Nat) (x0 : Nat) (x1 : Nat) (x2 : Int32) (x3 : Int32) (x4 : Int64) (x6 : Int32) (x7 : Value) (h : AH) : AMV sa d 48 15 [.ref x0, .ref x1, .int x2, .int x3, .long x4, .null, .int x6, x7] [] h =
  if x2 ≤ x6 then
   aOp (aFR h x0 4 0) fun v1 =>
   some (some (.ref v1), h)
  else
   if lN 2147483647 = 0 then none else
   AMV sa d 48 31 [.ref x0, .ref x1, .int x2, .int x3, .long x4, .null, .int x6, x7] [.long ((x4 * (lN 16807)) - (x4 * (lN 16807)) / (lN 2147483647) * (lN 2147483647))] h :=
  (AMV_T sa d 48 (fun pc => Nat.beq pc 15 || Nat.beq pc 31 || Nat.beq pc 43 || Nat.beq pc 53 || Nat.beq pc 79 || Nat.beq pc 106 || Nat.beq pc 126) 9 _ _ _ h).trans rfl
set_option maxRecDepth 100000 in
theorem eX4_draw_31 (sa : Nat → Nat) (d : Nat) (x0 : Nat) (x1 : Nat) (x2 : Int32) (x3 : Int32) (x4 : Int64) (x6 : Int32) (x7 : Value) (s0 : Int64) (h : AH) : AMV sa d 48 31 [.ref x0, .ref x1, .int x2, .int x3, .long x4, .null, .int x6, x7] [.long s0] h =
  aOp (aFR h x0 4 0) fun v1 =>
  if lN 30 = 0 then none else
  AMV sa d 48 43 [.ref x0, .ref x1, .int x2, .int x3, .long s0, .null, .int x6, x7] [.long (s0 - s0 / (lN 30) * (lN 30)), .ref v1] h :=
  (AMV_T sa d 48 (fun pc => Nat.beq pc 15 || Nat.beq pc 31 || Nat.beq pc 43 || Nat.beq pc 53 || Nat.beq pc 79 || Nat.beq pc 106 || Nat.beq pc 126) 7 _ _ _ h).trans rfl
set_option maxRecDepth 100000 in
theorem eX4_draw_43 (sa : Nat → Nat) (d : Nat) (x0 : Nat) (x1 : Nat) (x2 : Int32) (x3 : Int32) (x4 : Int64) (x6 : Int32) (x7 : Value) (s0 : Nat) (s1 : Int64) (h : AH) : AMV sa d 48 43 [.ref x0, .ref x1, .int x2, .int x3, .long x4, .null, .int x6, x7] [.long s1, .ref s0] h =
  aOp (aFP h s0 2 6 (.int s1.toInt32)) fun h1 =>
  if lN 3 = 0 then none else
  AMV sa d 48 53 [.ref x0, .ref x1, .int x2, .int x3, .long x4, .null, .int x6, x7] [.long (x4 - x4 / (lN 3) * (lN 3))] h1 :=
  (AMV_T sa d 48 (fun pc => Nat.beq pc 15 || Nat.beq pc 31 || Nat.beq pc 43 || Nat.beq pc 53 || Nat.beq pc 79 || Nat.beq pc 106 || Nat.beq pc 126) 6 _ _ _ h).trans rfl
set_option maxRecDepth 100000 in
theorem eX4_draw_53 (sa : Nat → Nat) (d : Nat) (x0 : Nat) (x1 : Nat) (x2 : Int32) (x3 : Int32) (x4 : Int64) (x6 : Int32) (x7 : Value) (s0 : Int64) (h : AH) : AMV sa d 48 53 [.ref x0, .ref x1, .int x2, .int x3, .long x4, .null, .int x6, x7] [.long s0] h =
  if lg_cmp s0 (lN 0) = 0 then
   aOp (aFR h x0 4 0) fun v1 =>
   aOp (aFI h v1 2 4) fun v2 =>
   if v2 ≤ 0 then
    AMV sa d 48 126 [.ref x0, .ref x1, .int x2, .int x3, .long x4, .null, .int x6, x7] [] h
   else
    aOp (aFR h x0 4 0) fun v3 =>
    aOp (aFI h v3 2 4) fun v4 =>
    if v4.toInt64 = 0 then none else
    AMV sa d 48 79 [.ref x0, .ref x1, .int x2, .int x3, .long x4, .null, .int x6, x7] [.long (x4 - x4 / v4.toInt64 * v4.toInt64)] h
  else
   AMV sa d 48 126 [.ref x0, .ref x1, .int x2, .int x3, .long x4, .null, .int x6, x7] [] h :=
  (AMV_T sa d 48 (fun pc => Nat.beq pc 15 || Nat.beq pc 31 || Nat.beq pc 43 || Nat.beq pc 53 || Nat.beq pc 79 || Nat.beq pc 106 || Nat.beq pc 126) 14 _ _ _ h).trans rfl
set_option maxRecDepth 100000 in
theorem eX4_draw_79 (sa : Nat → Nat) (d : Nat) (x0 : Nat) (x1 : Nat) (x2 : Int32) (x3 : Int32) (x4 : Int64) (x6 : Int32) (x7 : Value) (s0 : Int64) (h : AH) : AMV sa d 48 79 [.ref x0, .ref x1, .int x2, .int x3, .long x4, .null, .int x6, x7] [.long s0] h =
  aOp (aFR h x0 4 0) fun v1 =>
  aOp (aCl h v1 2) fun _ =>
  aOp (aRV (AMC sa d 14 [.ref v1, .int s0.toInt32] h)) fun h2 =>
  aOp (aFR h2 x0 4 0) fun v3 =>
  aOp (aFR h2 v3 2 2) fun v4 =>
  if lN 2 = 0 then none else
  AMV sa d 48 106 [.ref x0, .ref x1, .int x2, .int x3, .long x4, .null, .int x6, .int s0.toInt32] [.long (x4 - x4 / (lN 2) * (lN 2)), .int s0.toInt32, .ref v4] h2 :=
  (AMV_T sa d 48 (fun pc => Nat.beq pc 15 || Nat.beq pc 31 || Nat.beq pc 43 || Nat.beq pc 53 || Nat.beq pc 79 || Nat.beq pc 106 || Nat.beq pc 126) 14 _ _ _ h).trans rfl
set_option maxRecDepth 100000 in
theorem eX4_draw_106 (sa : Nat → Nat) (d : Nat) (x0 : Nat) (x1 : Nat) (x2 : Int32) (x3 : Int32) (x4 : Int64) (x6 : Int32) (x7 : Int32) (s0 : Nat) (s1 : Int32) (s2 : Int64) (h : AH) : AMV sa d 48 106 [.ref x0, .ref x1, .int x2, .int x3, .long x4, .null, .int x6, .int x7] [.long s2, .int s1, .ref s0] h =
  if lg_cmp s2 (lN 0) = 0 then
   aOp (aIS h s0 s1 0) fun h1 =>
   AMV sa d 48 126 [.ref x0, .ref x1, .int x2, .int x3, .long x4, .null, .int x6, .int x7] [] h1
  else
   aOp (aFR h x0 4 0) fun v2 =>
   aOp (aFR h v2 2 2) fun v3 =>
   aOp (aIL h v3 x7) fun v4 =>
   aOp (aIS h s0 s1 v4) fun h5 =>
   AMV sa d 48 126 [.ref x0, .ref x1, .int x2, .int x3, .long x4, .null, .int x6, .int x7] [] h5 :=
  (AMV_T sa d 48 (fun pc => Nat.beq pc 15 || Nat.beq pc 31 || Nat.beq pc 43 || Nat.beq pc 53 || Nat.beq pc 79 || Nat.beq pc 106 || Nat.beq pc 126) 10 _ _ _ h).trans rfl
set_option maxRecDepth 100000 in
theorem eX4_draw_126 (sa : Nat → Nat) (d : Nat) (x0 : Nat) (x1 : Nat) (x2 : Int32) (x3 : Int32) (x4 : Int64) (x6 : Int32) (x7 : Value) (h : AH) : AMV sa d 48 126 [.ref x0, .ref x1, .int x2, .int x3, .long x4, .null, .int x6, x7] [] h =
  aOp (aFR h x0 4 0) fun v1 =>
  aOp (aCl h v1 2) fun _ =>
  aOp (aRI (AMC sa d 20 [.ref v1] h)) fun z2 =>
  AMV sa d 48 15 [.ref x0, .ref x1, .int x2, .int x3, .long x4, .null, .int (x6 + 1), x7] [] z2.2 :=
  (AMV_T sa d 48 (fun pc => Nat.beq pc 15 || Nat.beq pc 31 || Nat.beq pc 43 || Nat.beq pc 53 || Nat.beq pc 79 || Nat.beq pc 106 || Nat.beq pc 126) 7 _ _ _ h).trans rfl
set_option maxRecDepth 100000 in
theorem eX5_init_0 (sa : Nat → Nat) (d : Nat) (x0 : Nat) (h : AH) : AMV sa d 49 0 [.ref x0] [] h =
  aOp (aNA h 0 100) fun z1 =>
  aOp (aFP z1.2 x0 5 0 (.ref z1.1)) fun h2 =>
  aOp (aNA h2 0 6) fun z3 =>
  aOp (aFP z3.2 x0 5 1 (.ref z3.1)) fun h4 =>
  some (none, h4) :=
  (AMV_T sa d 49 (fun pc => false) 12 _ _ _ h).trans rfl
set_option maxRecDepth 100000 in
theorem eX5_isFull_0 (sa : Nat → Nat) (d : Nat) (x0 : Nat) (h : AH) : AMV sa d 50 0 [.ref x0] [] h =
  aOp (aFI h x0 5 2) fun v1 =>
  if v1 < 100 then
   some (some (.int 0), h)
  else
   some (some (.int 1), h) :=
  (AMV_T sa d 50 (fun pc => false) 8 _ _ _ h).trans rfl
set_option maxRecDepth 100000 in
theorem eX5_append_0 (sa : Nat → Nat) (d : Nat) (x0 : Nat) (x1 : Int32) (h : AH) : AMV sa d 51 0 [.ref x0, .int x1] [] h =
  aOp (aCl h x0 5) fun _ =>
  aOp (aRI (AMC sa d 50 [.ref x0] h)) fun z1 =>
  if z1.1 = 0 then
   aOp (aFR z1.2 x0 5 0) fun v2 =>
   aOp (aFI z1.2 x0 5 2) fun v3 =>
   aOp (aIS z1.2 v2 v3 x1) fun h4 =>
   aOp (aFI h4 x0 5 2) fun v5 =>
   aOp (aFP h4 x0 5 2 (.int (v5 + 1))) fun h6 =>
   aOp (aFI h6 x0 5 2) fun v7 =>
   some (some (.int v7), h6)
  else
   aOp (aFI z1.2 x0 5 2) fun v8 =>
   some (some (.int v8), z1.2) :=
  (AMV_T sa d 51 (fun pc => false) 19 _ _ _ h).trans rfl
set_option maxRecDepth 100000 in
theorem eX5_readInto_0 (sa : Nat → Nat) (d : Nat) (x0 : Nat) (x1 : Nat) (h : AH) : AMV sa d 52 0 [.ref x0, .ref x1] [] h =
  aOp (aFP h x0 5 3 (.int 0)) fun h1 =>
  aOp (aFP h1 x0 5 4 (.int 0)) fun h2 =>
  aOp (aFP h2 x0 5 5 (.int 0)) fun h3 =>
  aOp (aCl h3 x0 5) fun _ =>
  aOp (aRV (AMC sa d 53 [.ref x0, .ref x1] h3)) fun h4 =>
  aOp (aCl h4 x0 5) fun _ =>
  aOp (aRV (AMC sa d 54 [.ref x0] h4)) fun h5 =>
  aOp (aCl h5 x0 5) fun _ =>
  aOp (aRV (AMC sa d 55 [.ref x0, .ref x1] h5)) fun h6 =>
  aOp (aCl h6 x0 5) fun _ =>
  aOp (aRI (AMC sa d 60 [.ref x0] h6)) fun z7 =>
  if z7.1 = (-1) then
   AMV sa d 52 46 [.ref x0, .ref x1] [] z7.2
  else
   aOp (aFI z7.2 x0 5 3) fun v8 =>
   aOp (aCl z7.2 x0 5) fun _ =>
   aOp (aRV (AMC sa d 61 [.ref x0, .int 1, .int v8] z7.2)) fun h9 =>
   AMV sa d 52 46 [.ref x0, .ref x1] [] h9 :=
  (AMV_T sa d 52 (fun pc => Nat.beq pc 46) 27 _ _ _ h).trans rfl
set_option maxRecDepth 100000 in
theorem eX5_readInto_46 (sa : Nat → Nat) (d : Nat) (x0 : Nat) (x1 : Nat) (h : AH) : AMV sa d 52 46 [.ref x0, .ref x1] [] h =
  aOp (aFP h x0 5 2 (.int 0)) fun h1 =>
  aOp (aFI h1 x0 5 5) fun v2 =>
  if v2 = 0 then
   aOp (aFR (aMk h1 4 (.inl (6, [.int 0, .null, .null, .null]))) x0 5 1) fun v3 =>
   aOp (aFI (aMk h1 4 (.inl (6, [.int 0, .null, .null, .null]))) x0 5 4) fun v4 =>
   aOp (aRV (AMC sa d 63 [.ref h1.1, .ref v3, .int v4] (aMk h1 4 (.inl (6, [.int 0, .null, .null, .null]))))) fun h5 =>
   aOp (aFP h5 x1 2 3 (.ref h1.1)) fun h6 =>
   some (some (.int 1), h6)
  else
   some (some (.int 0), h1) :=
  (AMV_T sa d 52 (fun pc => Nat.beq pc 46) 18 _ _ _ h).trans rfl
set_option maxRecDepth 100000 in
theorem eX5_readLaw_0 (sa : Nat → Nat) (d : Nat) (x0 : Nat) (x1 : Nat) (h : AH) : AMV sa d 53 0 [.ref x0, .ref x1, .null, .null] [] h =
  aOp (aCl h x0 5) fun _ =>
  aOp (aRV (AMC sa d 58 [.ref x0, .int 112] h)) fun h1 =>
  aOp (aCl h1 x0 5) fun _ =>
  aOp (aRI (AMC sa d 57 [.ref x0, .int 0, .int 99] h1)) fun z2 =>
  aOp (aCl z2.2 x0 5) fun _ =>
  aOp (aRV (AMC sa d 58 [.ref x0, .int 44] z2.2)) fun h3 =>
  aOp (aCl h3 x0 5) fun _ =>
  aOp (aRI (AMC sa d 57 [.ref x0, .int 0, .int 60] h3)) fun z4 =>
  aOp (aCl z4.2 x0 5) fun _ =>
  aOp (aRV (AMC sa d 58 [.ref x0, .int 59] z4.2)) fun h5 =>
  aOp (aCl h5 x1 2) fun _ =>
  aOp (aRV (AMC sa d 10 [.ref x1, .int z2.1, .int z4.1] h5)) fun h6 =>
  some (none, h6) :=
  (AMV_T sa d 53 (fun pc => false) 25 _ _ _ h).trans rfl
set_option maxRecDepth 100000 in
theorem eX5_readWords_0 (sa : Nat → Nat) (d : Nat) (x0 : Nat) (h : AH) : AMV sa d 54 0 [.ref x0, .null] [] h =
  AMV sa d 54 2 [.ref x0, .int 0] [] h :=
  (AMV_T sa d 54 (fun pc => Nat.beq pc 2 || Nat.beq pc 91) 3 _ _ _ h).trans rfl
set_option maxRecDepth 100000 in
theorem eX5_readWords_2 (sa : Nat → Nat) (d : Nat) (x0 : Nat) (x1 : Int32) (h : AH) : AMV sa d 54 2 [.ref x0, .int x1] [] h =
  if 6 < x1 then
   AMV sa d 54 91 [.ref x0, .int x1] [] h
  else
   aOp (aFI h x0 5 5) fun v1 =>
   if v1 = 0 then
    aOp (aCl h x0 5) fun _ =>
    aOp (aRI (AMC sa d 60 [.ref x0] h)) fun z2 =>
    if z2.1 = 111 then
     aOp (aFI z2.2 x0 5 4) fun v3 =>
     if v3 < 6 then
      aOp (aFI z2.2 x0 5 3) fun v4 =>
      aOp (aFP z2.2 x0 5 3 (.int (v4 + 1))) fun h5 =>
      aOp (aFR h5 x0 5 1) fun v6 =>
      aOp (aFI h5 x0 5 4) fun v7 =>
      aOp (aCl h5 x0 5) fun _ =>
      aOp (aRI (AMC sa d 57 [.ref x0, .int 1, .int 9] h5)) fun z8 =>
      aOp (aIS z8.2 v6 v7 z8.1) fun h9 =>
      aOp (aFI h9 x0 5 4) fun v10 =>
      aOp (aFP h9 x0 5 4 (.int (v10 + 1))) fun h11 =>
      aOp (aCl h11 x0 5) fun _ =>
      aOp (aRV (AMC sa d 58 [.ref x0, .int 59] h11)) fun h12 =>
      AMV sa d 54 2 [.ref x0, .int (x1 + 1)] [] h12
     else
      aOp (aFI z2.2 x0 5 3) fun v13 =>
      aOp (aCl z2.2 x0 5) fun _ =>
      aOp (aRV (AMC sa d 61 [.ref x0, .int 3, .int v13] z2.2)) fun h14 =>
      some (none, h14)
    else
     AMV sa d 54 91 [.ref x0, .int x1] [] z2.2
   else
    AMV sa d 54 91 [.ref x0, .int x1] [] h :=
  (AMV_T sa d 54 (fun pc => Nat.beq pc 2 || Nat.beq pc 91) 41 _ _ _ h).trans rfl
set_option maxRecDepth 100000 in
theorem eX5_readWords_91 (sa : Nat → Nat) (d : Nat) (x0 : Nat) (x1 : Int32) (h : AH) : AMV sa d 54 91 [.ref x0, .int x1] [] h =
  aOp (aFI h x0 5 4) fun v1 =>
  if v1 = 0 then
   aOp (aFI h x0 5 3) fun v2 =>
   aOp (aCl h x0 5) fun _ =>
   aOp (aRV (AMC sa d 61 [.ref x0, .int 1, .int v2] h)) fun h3 =>
   some (none, h3)
  else
   some (none, h) :=
  (AMV_T sa d 54 (fun pc => Nat.beq pc 2 || Nat.beq pc 91) 10 _ _ _ h).trans rfl
set_option maxRecDepth 100000 in
theorem eX5_readLetters_0 (sa : Nat → Nat) (d : Nat) (x0 : Nat) (x1 : Nat) (h : AH) : AMV sa d 55 0 [.ref x0, .ref x1, .null, .null, .null, .null] [] h =
  AMV sa d 55 2 [.ref x0, .ref x1, .int 0, .null, .null, .null] [] h :=
  (AMV_T sa d 55 (fun pc => Nat.beq pc 2 || Nat.beq pc 111) 3 _ _ _ h).trans rfl
set_option maxRecDepth 100000 in
theorem eX5_readLetters_2 (sa : Nat → Nat) (d : Nat) (x0 : Nat) (x1 : Nat) (x2 : Int32) (x3 : Value) (x4 : Value) (x5 : Value) (h : AH) : AMV sa d 55 2 [.ref x0, .ref x1, .int x2, x3, x4, x5] [] h =
  if 7 < x2 then
   AMV sa d 55 111 [.ref x0, .ref x1, .int x2, x3, x4, x5] [] h
  else
   aOp (aFI h x0 5 5) fun v1 =>
   if v1 = 0 then
    aOp (aCl h x0 5) fun _ =>
    aOp (aRI (AMC sa d 60 [.ref x0] h)) fun z2 =>
    aOp (aRI (AMC sa d 62 [.int z2.1] z2.2)) fun z3 =>
    if z3.1 = 0 then
     AMV sa d 55 111 [.ref x0, .ref x1, .int x2, x3, x4, x5] [] z3.2
    else
     aOp (aFI z3.2 x1 2 4) fun v4 =>
     if v4 < 7 then
      aOp (aCl z3.2 x0 5) fun _ =>
      aOp (aRI (AMC sa d 60 [.ref x0] z3.2)) fun z5 =>
      aOp (aRI (AMC sa d 62 [.int z5.1] z5.2)) fun z6 =>
      aOp (aFI z6.2 x0 5 3) fun v7 =>
      aOp (aFP z6.2 x0 5 3 (.int (v7 + 1))) fun h8 =>
      aOp (aFI h8 x0 5 4) fun v9 =>
      aOp (aCl h8 x0 5) fun _ =>
      aOp (aRI (AMC sa d 56 [.ref x0, .int ((1 <<< (v9 &&& 31)) - 1)] h8)) fun z10 =>
      aOp (aCl z10.2 x0 5) fun _ =>
      aOp (aRV (AMC sa d 58 [.ref x0, .int 44] z10.2)) fun h11 =>
      aOp (aCl h11 x0 5) fun _ =>
      aOp (aRI (AMC sa d 56 [.ref x0, .int z10.1] h11)) fun z12 =>
      aOp (aCl z12.2 x0 5) fun _ =>
      aOp (aRV (AMC sa d 58 [.ref x0, .int 59] z12.2)) fun h13 =>
      aOp (aCl h13 x1 2) fun _ =>
      aOp (aRV (AMC sa d 11 [.ref x1, .int z6.1, .int z10.1, .int z12.1] h13)) fun h14 =>
      AMV sa d 55 2 [.ref x0, .ref x1, .int (x2 + 1), .int z6.1, .int z10.1, .int z12.1] [] h14
     else
      aOp (aFI z3.2 x0 5 3) fun v15 =>
      aOp (aCl z3.2 x0 5) fun _ =>
      aOp (aRV (AMC sa d 61 [.ref x0, .int 3, .int v15] z3.2)) fun h16 =>
      some (none, h16)
   else
    AMV sa d 55 111 [.ref x0, .ref x1, .int x2, x3, x4, x5] [] h :=
  (AMV_T sa d 55 (fun pc => Nat.beq pc 2 || Nat.beq pc 111) 51 _ _ _ h).trans rfl
set_option maxRecDepth 100000 in
theorem eX5_readLetters_111 (sa : Nat → Nat) (d : Nat) (x0 : Nat) (x1 : Nat) (x2 : Int32) (x3 : Value) (x4 : Value) (x5 : Value) (h : AH) : AMV sa d 55 111 [.ref x0, .ref x1, .int x2, x3, x4, x5] [] h =
  aOp (aFI h x1 2 4) fun v1 =>
  if v1 = 0 then
   aOp (aFI h x0 5 3) fun v2 =>
   aOp (aCl h x0 5) fun _ =>
   aOp (aRV (AMC sa d 61 [.ref x0, .int 1, .int v2] h)) fun h3 =>
   some (none, h3)
  else
   some (none, h) :=
  (AMV_T sa d 55 (fun pc => Nat.beq pc 2 || Nat.beq pc 111) 10 _ _ _ h).trans rfl
set_option maxRecDepth 100000 in
theorem eX5_readSet_0 (sa : Nat → Nat) (d : Nat) (x0 : Nat) (x1 : Int32) (h : AH) : AMV sa d 56 0 [.ref x0, .int x1, .null, .null] [] h =
  aOp (aFI h x0 5 3) fun v1 =>
  aOp (aCl h x0 5) fun _ =>
  aOp (aRI (AMC sa d 57 [.ref x0, .int 0, .int 63] h)) fun z2 =>
  if z2.1 &&& (x1 ^^^ (-1)) = 0 then
   some (some (.int z2.1), z2.2)
  else
   aOp (aCl z2.2 x0 5) fun _ =>
   aOp (aRV (AMC sa d 61 [.ref x0, .int 2, .int v1] z2.2)) fun h3 =>
   some (some (.int z2.1), h3) :=
  (AMV_T sa d 56 (fun pc => false) 21 _ _ _ h).trans rfl
set_option maxRecDepth 100000 in
theorem eX5_readNumber_0 (sa : Nat → Nat) (d : Nat) (x0 : Nat) (x1 : Int32) (x2 : Int32) (h : AH) : AMV sa d 57 0 [.ref x0, .int x1, .int x2, .null, .null] [] h =
  aOp (aFI h x0 5 5) fun v1 =>
  if v1 = 0 then
   AMV sa d 57 14 [.ref x0, .int x1, .int x2, .int 0, .int 0] [] h
  else
   some (some (.int 0), h) :=
  (AMV_T sa d 57 (fun pc => Nat.beq pc 14 || Nat.beq pc 60 || Nat.beq pc 69 || Nat.beq pc 92) 8 _ _ _ h).trans rfl
set_option maxRecDepth 100000 in
theorem eX5_readNumber_14 (sa : Nat → Nat) (d : Nat) (x0 : Nat) (x1 : Int32) (x2 : Int32) (x3 : Int32) (x4 : Int32) (h : AH) : AMV sa d 57 14 [.ref x0, .int x1, .int x2, .int x3, .int x4] [] h =
  if 3 ≤ x3 then
   AMV sa d 57 60 [.ref x0, .int x1, .int x2, .int x3, .int x4] [] h
  else
   aOp (aFI h x0 5 3) fun v1 =>
   aOp (aCl h x0 5) fun _ =>
   aOp (aRI (AMC sa d 59 [.ref x0, .int (v1 + x3)] h)) fun z2 =>
   if z2.1 = 0 then
    AMV sa d 57 60 [.ref x0, .int x1, .int x2, .int x3, .int x4] [] z2.2
   else
    aOp (aFR z2.2 x0 5 0) fun v3 =>
    aOp (aFI z2.2 x0 5 3) fun v4 =>
    aOp (aIL z2.2 v3 (v4 + x3)) fun v5 =>
    AMV sa d 57 14 [.ref x0, .int x1, .int x2, .int (x3 + 1), .int (((10 * x4) + v5) - 48)] [] z2.2 :=
  (AMV_T sa d 57 (fun pc => Nat.beq pc 14 || Nat.beq pc 60 || Nat.beq pc 69 || Nat.beq pc 92) 27 _ _ _ h).trans rfl
set_option maxRecDepth 100000 in
theorem eX5_readNumber_60 (sa : Nat → Nat) (d : Nat) (x0 : Nat) (x1 : Int32) (x2 : Int32) (x3 : Int32) (x4 : Int32) (h : AH) : AMV sa d 57 60 [.ref x0, .int x1, .int x2, .int x3, .int x4] [] h =
  if x3 = 0 then
   AMV sa d 57 69 [.ref x0, .int x1, .int x2, .int x3, .int x4] [] h
  else
   if x3 = 3 then
    AMV sa d 57 69 [.ref x0, .int x1, .int x2, .int x3, .int x4] [] h
   else
    if x4 < x1 then
     AMV sa d 57 92 [.ref x0, .int x1, .int x2, .int x3, .int x4] [] h
    else
     if x4 ≤ x2 then
      aOp (aFI h x0 5 3) fun v1 =>
      aOp (aFP h x0 5 3 (.int (v1 + x3))) fun h2 =>
      some (some (.int x4), h2)
     else
      AMV sa d 57 92 [.ref x0, .int x1, .int x2, .int x3, .int x4] [] h :=
  (AMV_T sa d 57 (fun pc => Nat.beq pc 14 || Nat.beq pc 60 || Nat.beq pc 69 || Nat.beq pc 92) 20 _ _ _ h).trans rfl
set_option maxRecDepth 100000 in
theorem eX5_readNumber_69 (sa : Nat → Nat) (d : Nat) (x0 : Nat) (x1 : Int32) (x2 : Int32) (x3 : Int32) (x4 : Int32) (h : AH) : AMV sa d 57 69 [.ref x0, .int x1, .int x2, .int x3, .int x4] [] h =
  aOp (aFI h x0 5 3) fun v1 =>
  aOp (aCl h x0 5) fun _ =>
  aOp (aRV (AMC sa d 61 [.ref x0, .int 1, .int v1] h)) fun h2 =>
  some (some (.int 0), h2) :=
  (AMV_T sa d 57 (fun pc => Nat.beq pc 14 || Nat.beq pc 60 || Nat.beq pc 69 || Nat.beq pc 92) 8 _ _ _ h).trans rfl
set_option maxRecDepth 100000 in
theorem eX5_readNumber_92 (sa : Nat → Nat) (d : Nat) (x0 : Nat) (x1 : Int32) (x2 : Int32) (x3 : Int32) (x4 : Int32) (h : AH) : AMV sa d 57 92 [.ref x0, .int x1, .int x2, .int x3, .int x4] [] h =
  aOp (aFI h x0 5 3) fun v1 =>
  aOp (aCl h x0 5) fun _ =>
  aOp (aRV (AMC sa d 61 [.ref x0, .int 2, .int v1] h)) fun h2 =>
  some (some (.int 0), h2) :=
  (AMV_T sa d 57 (fun pc => Nat.beq pc 14 || Nat.beq pc 60 || Nat.beq pc 69 || Nat.beq pc 92) 8 _ _ _ h).trans rfl
set_option maxRecDepth 100000 in
theorem eX5_skip_0 (sa : Nat → Nat) (d : Nat) (x0 : Nat) (x1 : Int32) (h : AH) : AMV sa d 58 0 [.ref x0, .int x1] [] h =
  aOp (aCl h x0 5) fun _ =>
  aOp (aRI (AMC sa d 60 [.ref x0] h)) fun z1 =>
  if z1.1 = x1 then
   aOp (aFI z1.2 x0 5 3) fun v2 =>
   aOp (aFP z1.2 x0 5 3 (.int (v2 + 1))) fun h3 =>
   some (none, h3)
  else
   aOp (aFI z1.2 x0 5 3) fun v4 =>
   aOp (aCl z1.2 x0 5) fun _ =>
   aOp (aRV (AMC sa d 61 [.ref x0, .int 1, .int v4] z1.2)) fun h5 =>
   some (none, h5) :=
  (AMV_T sa d 58 (fun pc => false) 13 _ _ _ h).trans rfl
set_option maxRecDepth 100000 in
theorem eX5_isFigure_0 (sa : Nat → Nat) (d : Nat) (x0 : Nat) (x1 : Int32) (h : AH) : AMV sa d 59 0 [.ref x0, .int x1] [] h =
  aOp (aFI h x0 5 2) fun v1 =>
  if v1 ≤ x1 then
   some (some (.int 0), h)
  else
   aOp (aFR h x0 5 0) fun v2 =>
   aOp (aIL h v2 x1) fun v3 =>
   if v3 < 48 then
    some (some (.int 0), h)
   else
    aOp (aFR h x0 5 0) fun v4 =>
    aOp (aIL h v4 x1) fun v5 =>
    if 57 < v5 then
     some (some (.int 0), h)
    else
     some (some (.int 1), h) :=
  (AMV_T sa d 59 (fun pc => false) 20 _ _ _ h).trans rfl
set_option maxRecDepth 100000 in
theorem eX5_next_0 (sa : Nat → Nat) (d : Nat) (x0 : Nat) (h : AH) : AMV sa d 60 0 [.ref x0] [] h =
  aOp (aFI h x0 5 5) fun v1 =>
  if v1 = 0 then
   aOp (aFI h x0 5 3) fun v2 =>
   aOp (aFI h x0 5 2) fun v3 =>
   if v3 ≤ v2 then
    some (some (.int (-1)), h)
   else
    aOp (aFR h x0 5 0) fun v4 =>
    aOp (aFI h x0 5 3) fun v5 =>
    aOp (aIL h v4 v5) fun v6 =>
    some (some (.int v6), h)
  else
   some (some (.int (-1)), h) :=
  (AMV_T sa d 60 (fun pc => false) 16 _ _ _ h).trans rfl
set_option maxRecDepth 100000 in
theorem eX5_fail_0 (sa : Nat → Nat) (d : Nat) (x0 : Nat) (x1 : Int32) (x2 : Int32) (h : AH) : AMV sa d 61 0 [.ref x0, .int x1, .int x2] [] h =
  aOp (aFI h x0 5 5) fun v1 =>
  if v1 = 0 then
   aOp (aFP h x0 5 5 (.int x1)) fun h2 =>
   aOp (aFP h2 x0 5 6 (.int x2)) fun h3 =>
   some (none, h3)
  else
   some (none, h) :=
  (AMV_T sa d 61 (fun pc => false) 11 _ _ _ h).trans rfl
set_option maxRecDepth 100000 in
theorem eX5_kindOf_0 (sa : Nat → Nat) (d : Nat) (x0 : Int32) (h : AH) : AMV sa d 62 0 [.int x0] [] h =
  if x0 = 98 then
   some (some (.int 3), h)
  else
  if x0 = 99 then
   some (some (.int 4), h)
  else
  if x0 = 108 then
   some (some (.int 1), h)
  else
  if x0 = 118 then
   some (some (.int 2), h)
  else
  if x0 = 119 then
   some (some (.int 5), h)
  else
  some (some (.int 0), h) :=
  (AMV_T sa d 62 (fun pc => false) 5 _ _ _ h).trans rfl
set_option maxRecDepth 100000 in
theorem eX6_init_0 (sa : Nat → Nat) (d : Nat) (x0 : Nat) (x1 : Nat) (x2 : Int32) (h : AH) : AMV sa d 63 0 [.ref x0, .ref x1, .int x2, .null, .null, .null, .null] [] h =
  aOp (aNA h 0 64) fun z1 =>
  aOp (aFP z1.2 x0 6 1 (.ref z1.1)) fun h2 =>
  aOp (aNA h2 0 64) fun z3 =>
  aOp (aFP z3.2 x0 6 2 (.ref z3.1)) fun h4 =>
  aOp (aNA h4 0 64) fun z5 =>
  aOp (aFP z5.2 x0 6 3 (.ref z5.1)) fun h6 =>
  aOp (aLen h6 x1) fun v7 =>
  aOp (aFP h6 x0 6 0 (.int (if (if 6 < v7 then 6 else v7) < x2 then (if 6 < v7 then 6 else v7) else x2))) fun h8 =>
  AMV sa d 63 45 [.ref x0, .ref x1, .int x2, .int 1, .null, .null, .null] [] h8 :=
  (AMV_T sa d 63 (fun pc => Nat.beq pc 45 || Nat.beq pc 126 || Nat.beq pc 166) 25 _ _ _ h).trans rfl
set_option maxRecDepth 100000 in
theorem eX6_init_45 (sa : Nat → Nat) (d : Nat) (x0 : Nat) (x1 : Nat) (x2 : Int32) (x3 : Int32) (x4 : Value) (x5 : Value) (x6 : Value) (h : AH) : AMV sa d 63 45 [.ref x0, .ref x1, .int x2, .int x3, x4, x5, x6] [] h =
  aOp (aFI h x0 6 0) fun v1 =>
  if 1 <<< (v1 &&& 31) ≤ x3 then
   some (none, h)
  else
   aOp (aRI (AMC sa d 184 [.int (x3 &&& (-x3))] h)) fun z2 =>
   aOp (aIL z2.2 x1 z2.1) fun v3 =>
   aOp (aFR z2.2 x0 6 1) fun v4 =>
   aOp (aFR z2.2 x0 6 1) fun v5 =>
   aOp (aIL z2.2 v5 (x3 - (x3 &&& (-x3)))) fun v6 =>
   aOp (aIS z2.2 v4 x3 (v6 + v3)) fun h7 =>
   aOp (aFR h7 x0 6 2) fun v8 =>
   aOp (aFR h7 x0 6 1) fun v9 =>
   aOp (aFR h7 x0 6 2) fun v10 =>
   aOp (aIL h7 v10 (x3 - (x3 &&& (-x3)))) fun v11 =>
   aOp (aIL h7 v9 v11) fun v12 =>
   if v3 < v12 then
    aOp (aFR h7 x0 6 2) fun v13 =>
    aOp (aIL h7 v13 (x3 - (x3 &&& (-x3)))) fun v14 =>
    AMV sa d 63 126 [.ref x0, .ref x1, .int x2, .int x3, .int (x3 &&& (-x3)), .int (x3 - (x3 &&& (-x3))), .int v3] [.int v14, .int x3, .ref v8] h7
   else
    AMV sa d 63 126 [.ref x0, .ref x1, .int x2, .int x3, .int (x3 &&& (-x3)), .int (x3 - (x3 &&& (-x3))), .int v3] [.int (x3 &&& (-x3)), .int x3, .ref v8] h7 :=
  (AMV_T sa d 63 (fun pc => Nat.beq pc 45 || Nat.beq pc 126 || Nat.beq pc 166) 47 _ _ _ h).trans rfl
set_option maxRecDepth 100000 in
theorem eX6_init_126 (sa : Nat → Nat) (d : Nat) (x0 : Nat) (x1 : Nat) (x2 : Int32) (x3 : Int32) (x4 : Int32) (x5 : Int32) (x6 : Int32) (s0 : Nat) (s1 : Int32) (s2 : Int32) (h : AH) : AMV sa d 63 126 [.ref x0, .ref x1, .int x2, .int x3, .int x4, .int x5, .int x6] [.int s2, .int s1, .ref s0] h =
  aOp (aIS h s0 s1 s2) fun h1 =>
  aOp (aFR h1 x0 6 3) fun v2 =>
  if x5 = 0 then
   AMV sa d 63 166 [.ref x0, .ref x1, .int x2, .int x3, .int x4, .int x5, .int x6] [.int x4, .int x3, .ref v2] h1
  else
   aOp (aFR h1 x0 6 1) fun v3 =>
   aOp (aFR h1 x0 6 3) fun v4 =>
   aOp (aIL h1 v4 x5) fun v5 =>
   aOp (aIL h1 v3 v5) fun v6 =>
   if v6 < x6 then
    aOp (aFR h1 x0 6 3) fun v7 =>
    aOp (aIL h1 v7 x5) fun v8 =>
    AMV sa d 63 166 [.ref x0, .ref x1, .int x2, .int x3, .int x4, .int x5, .int x6] [.int v8, .int x3, .ref v2] h1
   else
    AMV sa d 63 166 [.ref x0, .ref x1, .int x2, .int x3, .int x4, .int x5, .int x6] [.int x4, .int x3, .ref v2] h1 :=
  (AMV_T sa d 63 (fun pc => Nat.beq pc 45 || Nat.beq pc 126 || Nat.beq pc 166) 20 _ _ _ h).trans rfl
set_option maxRecDepth 100000 in
theorem eX6_init_166 (sa : Nat → Nat) (d : Nat) (x0 : Nat) (x1 : Nat) (x2 : Int32) (x3 : Int32) (x4 : Int32) (x5 : Int32) (x6 : Int32) (s0 : Nat) (s1 : Int32) (s2 : Int32) (h : AH) : AMV sa d 63 166 [.ref x0, .ref x1, .int x2, .int x3, .int x4, .int x5, .int x6] [.int s2, .int s1, .ref s0] h =
  aOp (aIS h s0 s1 s2) fun h1 =>
  AMV sa d 63 45 [.ref x0, .ref x1, .int x2, .int (x3 + 1), .int x4, .int x5, .int x6] [] h1 :=
  (AMV_T sa d 63 (fun pc => Nat.beq pc 45 || Nat.beq pc 126 || Nat.beq pc 166) 4 _ _ _ h).trans rfl
