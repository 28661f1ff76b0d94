set_option maxRecDepth 100000 in
theorem eX0_init_0 (sa : Nat → Nat) (d : Nat) (x0 : Nat) (h : AH) : AMV sa d 0 0 [.ref x0] [] h =
  aOp (aNA h 0 288) fun z1 =>
  aOp (aFP z1.2 x0 0 0 (.ref z1.1)) fun h2 =>
  some (none, h2) :=
  (AMV_T sa d 0 (fun pc => false) 8 _ _ _ h).trans rfl
set_option maxRecDepth 100000 in
theorem eX0_forget_0 (sa : Nat → Nat) (d : Nat) (x0 : Nat) (h : AH) : AMV sa d 1 0 [.ref x0] [] h =
  aOp (aFP h x0 0 2 (.int 0)) fun h1 =>
  some (none, h1) :=
  (AMV_T sa d 1 (fun pc => false) 5 _ _ _ h).trans rfl
set_option maxRecDepth 100000 in
theorem eX0_keep_0 (sa : Nat → Nat) (d : Nat) (x0 : Nat) (x1 : Nat) (h : AH) : AMV sa d 2 0 [.ref x0, .ref x1, .null] [] h =
  aOp (aFI h x0 0 1) fun v1 =>
  aOp (aFR h x1 2 2) fun v2 =>
  aOp (aFR h x0 0 0) fun v3 =>
  aOp (aCpy h v2 0 v3 (v1 * 12) 7) fun h4 =>
  aOp (aFR h4 x0 0 0) fun v5 =>
  aOp (aFI h4 x1 2 5) fun v6 =>
  aOp (aIS h4 v5 ((v1 * 12) + 7) v6) fun h7 =>
  aOp (aFR h7 x0 0 0) fun v8 =>
  aOp (aFI h7 x1 2 6) fun v9 =>
  aOp (aIS h7 v8 (((v1 * 12) + 7) + 1) v9) fun h10 =>
  aOp (aFR h10 x0 0 0) fun v11 =>
  aOp (aFI h10 x1 2 7) fun v12 =>
  aOp (aIS h10 v11 (((v1 * 12) + 7) + 2) v12) fun h13 =>
  aOp (aFR h13 x0 0 0) fun v14 =>
  aOp (aFI h13 x1 2 8) fun v15 =>
  aOp (aIS h13 v14 (((v1 * 12) + 7) + 3) v15) fun h16 =>
  aOp (aFR h16 x0 0 0) fun v17 =>
  aOp (aFI h16 x1 2 9) fun v18 =>
  aOp (aIS h16 v17 (((v1 * 12) + 7) + 4) v18) fun h19 =>
  aOp (aFI h19 x0 0 1) fun v20 =>
  aOp (aFP h19 x0 0 1 (.int ((v20 + 1) - (v20 + 1) / 24 * 24))) fun h21 =>
  aOp (aFI h21 x0 0 2) fun v22 =>
  aOp (aFP h21 x0 0 2 (.int (if 24 < (v22 + 1) then 24 else (v22 + 1)))) fun h23 =>
  some (none, h23) :=
  (AMV_T sa d 2 (fun pc => false) 79 _ _ _ h).trans rfl
set_option maxRecDepth 100000 in
theorem eX0_takeBack_0 (sa : Nat → Nat) (d : Nat) (x0 : Nat) (x1 : Nat) (h : AH) : AMV sa d 3 0 [.ref x0, .ref x1, .null] [] h =
  aOp (aFI h x0 0 2) fun v1 =>
  if v1 = 0 then
   some (none, h)
  else
   aOp (aFI h x0 0 2) fun v2 =>
   aOp (aFP h x0 0 2 (.int (v2 - 1))) fun h3 =>
   aOp (aFI h3 x0 0 1) fun v4 =>
   aOp (aFP h3 x0 0 1 (.int (((v4 + 24) - 1) - ((v4 + 24) - 1) / 24 * 24))) fun h5 =>
   aOp (aFI h5 x0 0 1) fun v6 =>
   aOp (aFR h5 x0 0 0) fun v7 =>
   aOp (aFR h5 x1 2 2) fun v8 =>
   aOp (aCpy h5 v7 (v6 * 12) v8 0 7) fun h9 =>
   aOp (aFR h9 x0 0 0) fun v10 =>
   aOp (aIL h9 v10 ((v6 * 12) + 7)) fun v11 =>
   aOp (aFP h9 x1 2 5 (.int v11)) fun h12 =>
   aOp (aFR h12 x0 0 0) fun v13 =>
   aOp (aIL h12 v13 (((v6 * 12) + 7) + 1)) fun v14 =>
   aOp (aFP h12 x1 2 6 (.int v14)) fun h15 =>
   aOp (aFR h15 x0 0 0) fun v16 =>
   aOp (aIL h15 v16 (((v6 * 12) + 7) + 2)) fun v17 =>
   aOp (aFP h15 x1 2 7 (.int v17)) fun h18 =>
   aOp (aFR h18 x0 0 0) fun v19 =>
   aOp (aIL h18 v19 (((v6 * 12) + 7) + 3)) fun v20 =>
   aOp (aFP h18 x1 2 8 (.int v20)) fun h21 =>
   aOp (aFR h21 x0 0 0) fun v22 =>
   aOp (aIL h21 v22 (((v6 * 12) + 7) + 4)) fun v23 =>
   aOp (aFP h21 x1 2 9 (.int v23)) fun h24 =>
   some (none, h24) :=
  (AMV_T sa d 3 (fun pc => false) 82 _ _ _ h).trans rfl
set_option maxRecDepth 100000 in
theorem eX1_init_0 (sa : Nat → Nat) (d : Nat) (x0 : Nat) (h : AH) : AMV sa d 4 0 [.ref x0] [] h =
  aOp (aNA h 0 16) fun z1 =>
  aOp (aFP z1.2 x0 1 0 (.ref z1.1)) fun h2 =>
  some (none, h2) :=
  (AMV_T sa d 4 (fun pc => false) 8 _ _ _ h).trans rfl
set_option maxRecDepth 100000 in
theorem eX1_isA_0 (sa : Nat → Nat) (d : Nat) (x0 : Int32) (x1 : Int32) (h : AH) : AMV sa d 5 0 [.int x0, .int x1, .null, .null] [] h =
  AMV sa d 5 4 [.int x0, .int x1, .int x0, .int 0] [] h :=
  (AMV_T sa d 5 (fun pc => Nat.beq pc 4) 5 _ _ _ h).trans rfl
set_option maxRecDepth 100000 in
theorem eX1_isA_4 (sa : Nat → Nat) (d : Nat) (x0 : Int32) (x1 : Int32) (x2 : Int32) (x3 : Int32) (h : AH) : AMV sa d 5 4 [.int x0, .int x1, .int x2, .int x3] [] h =
  aOp (aLen h (sa 0)) fun v1 =>
  if v1 ≤ x3 then
   some (some (.int 0), h)
  else
   if x2 < 0 then
    some (some (.int 0), h)
   else
    aOp (aLen h (sa 0)) fun v2 =>
    if v2 ≤ x2 then
     some (some (.int 0), h)
    else
     if x2 = x1 then
      some (some (.int 1), h)
     else
      aOp (aIL h (sa 0) x2) fun v3 =>
      AMV sa d 5 4 [.int x0, .int x1, .int v3, .int (x3 + 1)] [] h :=
  (AMV_T sa d 5 (fun pc => Nat.beq pc 4) 20 _ _ _ h).trans rfl
set_option maxRecDepth 100000 in
theorem eX1_answer_0 (sa : Nat → Nat) (d : Nat) (x0 : Nat) (x1 : Nat) (x2 : Int32) (x3 : Int32) (h : AH) : AMV sa d 6 0 [.ref x0, .ref x1, .int x2, .int x3, .null] [] h =
  aOp (aFP h x0 1 1 (.int 0)) fun h1 =>
  aOp (aFR h1 x1 2 0) fun v2 =>
  aOp (aIL h1 v2 x2) fun v3 =>
  if x3 = 0 then
   aOp (aIL h1 (sa 1) v3) fun v4 =>
   AMV sa d 6 33 [.ref x0, .ref x1, .int x2, .int x3, .int v3] [.int v4, .ref x0] h1
  else
   aOp (aIL h1 (sa 2) v3) fun v5 =>
   AMV sa d 6 33 [.ref x0, .ref x1, .int x2, .int x3, .int v3] [.int v5, .ref x0] h1 :=
  (AMV_T sa d 6 (fun pc => Nat.beq pc 33) 16 _ _ _ h).trans rfl
set_option maxRecDepth 100000 in
theorem eX1_answer_33 (sa : Nat → Nat) (d : Nat) (x0 : Nat) (x1 : Nat) (x2 : Int32) (x3 : Int32) (x4 : Int32) (s0 : Nat) (s1 : Int32) (h : AH) : AMV sa d 6 33 [.ref x0, .ref x1, .int x2, .int x3, .int x4] [.int s1, .ref s0] h =
  aOp (aCl h s0 1) fun _ =>
  aOp (aRI (AMC sa d 7 [.ref s0, .int s1, .ref x1, .int x2, .int 0] h)) fun z1 =>
  some (some (.int z1.1), z1.2) :=
  (AMV_T sa d 6 (fun pc => Nat.beq pc 33) 6 _ _ _ h).trans rfl
set_option maxRecDepth 100000 in
theorem eX1_give_0 (sa : Nat → Nat) (d : Nat) (x0 : Nat) (x1 : Int32) (x2 : Nat) (x3 : Int32) (x4 : Int32) (h : AH) : AMV sa d 7 0 [.ref x0, .int x1, .ref x2, .int x3, .int x4, .null, .null] [] h =
  if x4 ≤ 16 then
   aOp (aCl h x0 1) fun _ =>
   aOp (aRV (AMC sa d 8 [.ref x0, .int x1] h)) fun h1 =>
   aOp (aFR h1 x2 2 0) fun v2 =>
   aOp (aIL h1 v2 x3) fun v3 =>
   if x1 = 10 then
    aOp (aFR h1 x2 2 1) fun v4 =>
    aOp (aIL h1 v4 x3) fun v5 =>
    aOp (aRI (AMC sa d 185 [.int v5] h1)) fun z6 =>
    some (some (.int z6.1), z6.2)
   else
   if x1 = 11 then
    aOp (aCl h1 x0 1) fun _ =>
    aOp (aRI (AMC sa d 7 [.ref x0, .int 10, .ref x2, .int x3, .int (x4 + 1)] h1)) fun z7 =>
    aOp (aIL z7.2 (sa 2) v3) fun v8 =>
    aOp (aCl z7.2 x0 1) fun _ =>
    aOp (aRI (AMC sa d 7 [.ref x0, .int v8, .ref x2, .int x3, .int (x4 + 1)] z7.2)) fun z9 =>
    some (some (.int (z7.1 + z9.1)), z9.2)
   else
   if x1 = 12 then
    aOp (aCl h1 x0 1) fun _ =>
    aOp (aRI (AMC sa d 7 [.ref x0, .int 11, .ref x2, .int x3, .int (x4 + 1)] h1)) fun z10 =>
    some (some (.int (0 - z10.1)), z10.2)
   else
   if x1 = 13 then
    aOp (aCl h1 x0 1) fun _ =>
    aOp (aRI (AMC sa d 7 [.ref x0, .int 10, .ref x2, .int x3, .int (x4 + 1)] h1)) fun z11 =>
    some (some (.int (z11.1 - 100)), z11.2)
   else
   if x1 = 14 then
    aOp (aCl h1 x0 1) fun _ =>
    aOp (aRI (AMC sa d 7 [.ref x0, .int 13, .ref x2, .int x3, .int (x4 + 1)] h1)) fun z12 =>
    some (some (.int (2 * z12.1)), z12.2)
   else
   if x1 = 15 then
    some (some (.int 0), h1)
   else
   if x1 = 16 then
    some (some (.int 0), h1)
   else
   if x1 = 17 then
    some (some (.int 0), h1)
   else
   if x1 = 18 then
    some (some (.int 0), h1)
   else
   if x1 = 19 then
    some (some (.int 0), h1)
   else
   if x1 = 20 then
    some (some (.int x3), h1)
   else
   if x1 = 21 then
    aOp (aCl h1 x0 1) fun _ =>
    aOp (aRI (AMC sa d 7 [.ref x0, .int 20, .ref x2, .int x3, .int (x4 + 1)] h1)) fun z13 =>
    aOp (aFR z13.2 x2 2 2) fun v14 =>
    aOp (aIL z13.2 v14 x3) fun v15 =>
    aOp (aRI (AMC sa d 185 [.int v15] z13.2)) fun z16 =>
    some (some (.int (z13.1 + z16.1)), z16.2)
   else
   if x1 = 22 then
    aOp (aCl h1 x0 1) fun _ =>
    aOp (aRI (AMC sa d 7 [.ref x0, .int 21, .ref x2, .int x3, .int (x4 + 1)] h1)) fun z17 =>
    some (some (.int (z17.1 - 1000)), z17.2)
   else
   if x1 = 23 then
    aOp (aCl h1 x0 1) fun _ =>
    aOp (aRI (AMC sa d 7 [.ref x0, .int 20, .ref x2, .int x3, .int (x4 + 1)] h1)) fun z18 =>
    aOp (aIL z18.2 (sa 1) v3) fun v19 =>
    aOp (aCl z18.2 x0 1) fun _ =>
    aOp (aRI (AMC sa d 7 [.ref x0, .int v19, .ref x2, .int x3, .int (x4 + 1)] z18.2)) fun z20 =>
    some (some (.int (z18.1 - z20.1)), z20.2)
   else
   if x1 = 24 then
    aOp (aCl h1 x0 1) fun _ =>
    aOp (aRI (AMC sa d 7 [.ref x0, .int 21, .ref x2, .int x3, .int (x4 + 1)] h1)) fun z21 =>
    some (some (.int (2 * z21.1)), z21.2)
   else
   some (some (.int 0), h1)
  else
   some (some (.int 0), h) :=
  (AMV_T sa d 7 (fun pc => false) 34 _ _ _ h).trans rfl
set_option maxRecDepth 100000 in
theorem eX1_leave_0 (sa : Nat → Nat) (d : Nat) (x0 : Nat) (x1 : Int32) (h : AH) : AMV sa d 8 0 [.ref x0, .int x1] [] h =
  aOp (aFI h x0 1 1) fun v1 =>
  if 16 ≤ v1 then
   some (none, h)
  else
   aOp (aFR h x0 1 0) fun v2 =>
   aOp (aFI h x0 1 1) fun v3 =>
   aOp (aIS h v2 v3 x1) fun h4 =>
   aOp (aFI h4 x0 1 1) fun v5 =>
   aOp (aFP h4 x0 1 1 (.int (v5 + 1))) fun h6 =>
   some (none, h6) :=
  (AMV_T sa d 8 (fun pc => false) 18 _ _ _ h).trans rfl
set_option maxRecDepth 100000 in
theorem eX2_init_0 (sa : Nat → Nat) (d : Nat) (x0 : Nat) (x1 : Nat) (h : AH) : AMV sa d 9 0 [.ref x0, .ref x1] [] h =
  aOp (aNA h 0 7) fun z1 =>
  aOp (aFP z1.2 x0 2 0 (.ref z1.1)) fun h2 =>
  aOp (aNA h2 0 7) fun z3 =>
  aOp (aFP z3.2 x0 2 1 (.ref z3.1)) fun h4 =>
  aOp (aNA h4 0 7) fun z5 =>
  aOp (aFP z5.2 x0 2 2 (.ref z5.1)) fun h6 =>
  aOp (aFP h6 x0 2 3 (.ref x1)) fun h7 =>
  some (none, h7) :=
  (AMV_T sa d 9 (fun pc => false) 19 _ _ _ h).trans rfl
set_option maxRecDepth 100000 in
theorem eX2_begin_0 (sa : Nat → Nat) (d : Nat) (x0 : Nat) (x1 : Int32) (x2 : Int32) (h : AH) : AMV sa d 10 0 [.ref x0, .int x1, .int x2] [] h =
  aOp (aFP h x0 2 4 (.int 0)) fun h1 =>
  aOp (aFP h1 x0 2 5 (.int 0)) fun h2 =>
  aOp (aFP h2 x0 2 6 (.int x1)) fun h3 =>
  aOp (aFP h3 x0 2 7 (.int x2)) fun h4 =>
  aOp (aFP h4 x0 2 8 (.int 0)) fun h5 =>
  aOp (aFP h5 x0 2 9 (.int 0)) fun h6 =>
  some (none, h6) :=
  (AMV_T sa d 10 (fun pc => false) 20 _ _ _ h).trans rfl
set_option maxRecDepth 100000 in
theorem eX2_add_0 (sa : Nat → Nat) (d : Nat) (x0 : Nat) (x1 : Int32) (x2 : Int32) (x3 : Int32) (h : AH) : AMV sa d 11 0 [.ref x0, .int x1, .int x2, .int x3] [] h =
  aOp (aFI h x0 2 4) fun v1 =>
  if 7 ≤ v1 then
   some (none, h)
  else
   aOp (aFR h x0 2 0) fun v2 =>
   aOp (aFI h x0 2 4) fun v3 =>
   aOp (aIS h v2 v3 x1) fun h4 =>
   aOp (aFR h4 x0 2 1) fun v5 =>
   aOp (aFI h4 x0 2 4) fun v6 =>
   aOp (aIS h4 v5 v6 x2) fun h7 =>
   aOp (aFR h7 x0 2 2) fun v8 =>
   aOp (aFI h7 x0 2 4) fun v9 =>
   aOp (aIS h7 v8 v9 x3) fun h10 =>
   aOp (aFI h10 x0 2 4) fun v11 =>
   aOp (aFP h10 x0 2 4 (.int (v11 + 1))) fun h12 =>
   some (none, h12) :=
  (AMV_T sa d 11 (fun pc => false) 30 _ _ _ h).trans rfl
set_option maxRecDepth 100000 in
theorem eX2_become_0 (sa : Nat → Nat) (d : Nat) (x0 : Nat) (x1 : Nat) (h : AH) : AMV sa d 12 0 [.ref x0, .ref x1] [] h =
  aOp (aFR h x1 2 3) fun v1 =>
  aOp (aFP h x0 2 3 (.ref v1)) fun h2 =>
  aOp (aFI h2 x1 2 4) fun v3 =>
  aOp (aFP h2 x0 2 4 (.int v3)) fun h4 =>
  aOp (aFI h4 x1 2 5) fun v5 =>
  aOp (aFP h4 x0 2 5 (.int v5)) fun h6 =>
  aOp (aFI h6 x1 2 6) fun v7 =>
  aOp (aFP h6 x0 2 6 (.int v7)) fun h8 =>
  aOp (aFI h8 x1 2 7) fun v9 =>
  aOp (aFP h8 x0 2 7 (.int v9)) fun h10 =>
  aOp (aFI h10 x1 2 8) fun v11 =>
  aOp (aFP h10 x0 2 8 (.int v11)) fun h12 =>
  aOp (aFI h12 x1 2 9) fun v13 =>
  aOp (aFP h12 x0 2 9 (.int v13)) fun h14 =>
  aOp (aFR h14 x1 2 0) fun v15 =>
  aOp (aFR h14 x0 2 0) fun v16 =>
  aOp (aCpy h14 v15 0 v16 0 7) fun h17 =>
  aOp (aFR h17 x1 2 1) fun v18 =>
  aOp (aFR h17 x0 2 1) fun v19 =>
  aOp (aCpy h17 v18 0 v19 0 7) fun h20 =>
  aOp (aFR h20 x1 2 2) fun v21 =>
  aOp (aFR h20 x0 2 2) fun v22 =>
  aOp (aCpy h20 v21 0 v22 0 7) fun h23 =>
  some (none, h23) :=
  (AMV_T sa d 12 (fun pc => false) 54 _ _ _ h).trans rfl
set_option maxRecDepth 100000 in
theorem eX2_waits_0 (sa : Nat → Nat) (d : Nat) (x0 : Nat) (x1 : Int32) (h : AH) : AMV sa d 13 0 [.ref x0, .int x1] [] h =
  aOp (aFI h x0 2 5) fun v1 =>
  if (v1 >>> (x1 &&& 31)) &&& 1 = 0 then
   some (some (.int 1), h)
  else
   some (some (.int 0), h) :=
  (AMV_T sa d 13 (fun pc => false) 11 _ _ _ h).trans rfl
set_option maxRecDepth 100000 in
theorem eX2_takeReturned_0 (sa : Nat → Nat) (d : Nat) (x0 : Nat) (x1 : Int32) (h : AH) : AMV sa d 14 0 [.ref x0, .int x1] [] h =
  aOp (aFI h x0 2 5) fun v1 =>
  aOp (aFP h x0 2 5 (.int (v1 &&& ((1 <<< (x1 &&& 31)) ^^^ (-1))))) fun h2 =>
  some (none, h2) :=
  (AMV_T sa d 14 (fun pc => false) 12 _ _ _ h).trans rfl
set_option maxRecDepth 100000 in
theorem eX2_unsaid_0 (sa : Nat → Nat) (d : Nat) (x0 : Nat) (x1 : Int32) (h : AH) : AMV sa d 15 0 [.ref x0, .int x1] [] h =
  aOp (aFR h x0 2 1) fun v1 =>
  aOp (aIL h v1 x1) fun v2 =>
  aOp (aFR h x0 2 2) fun v3 =>
  aOp (aIL h v3 x1) fun v4 =>
  some (some (.int (v2 &&& (v4 ^^^ (-1)))), h) :=
  (AMV_T sa d 15 (fun pc => false) 13 _ _ _ h).trans rfl
set_option maxRecDepth 100000 in
theorem eX2_weight_0 (sa : Nat → Nat) (d : Nat) (x0 : Nat) (x1 : Int32) (h : AH) : AMV sa d 16 0 [.ref x0, .int x1] [] h =
  aOp (aFR h x0 2 0) fun v1 =>
  aOp (aIL h v1 x1) fun v2 =>
  aOp (aFR h x0 2 3) fun v3 =>
  aOp (aFR h v3 6 1) fun v4 =>
  aOp (aCl h x0 2) fun _ =>
  aOp (aRI (AMC sa d 15 [.ref x0, .int x1] h)) fun z5 =>
  aOp (aIL z5.2 v4 z5.1) fun v6 =>
  aOp (aFR z5.2 x0 2 2) fun v7 =>
  aOp (aIL z5.2 v7 x1) fun v8 =>
  if v8 = 0 then
   aOp (aRI (AMC sa d 17 [.int v2, .int v6, .int 1] z5.2)) fun z9 =>
   some (some (.int z9.1), z9.2)
  else
   aOp (aRI (AMC sa d 17 [.int v2, .int v6, .int 0] z5.2)) fun z10 =>
   some (some (.int z10.1), z10.2) :=
  (AMV_T sa d 16 (fun pc => false) 21 _ _ _ h).trans rfl
set_option maxRecDepth 100000 in
theorem eX2_weigh_0 (sa : Nat → Nat) (d : Nat) (x0 : Int32) (x1 : Int32) (x2 : Int32) (h : AH) : AMV sa d 17 0 [.int x0, .int x1, .int x2] [] h =
  if x0 = 2 then
   some (some (.int (2 * x1)), h)
  else
  if x0 = 3 then
   if x2 = 0 then
    some (some (.int x1), h)
   else
    some (some (.int (x1 + 1)), h)
  else
  if x0 = 4 then
   some (some (.int (x1 / 2)), h)
  else
  if x0 = 5 then
   some (some (.int (if ((x1 / 2) - 5) < 0 then 0 else ((x1 / 2) - 5))), h)
  else
  some (some (.int x1), h) :=
  (AMV_T sa d 17 (fun pc => false) 11 _ _ _ h).trans rfl
set_option maxRecDepth 100000 in
theorem eX2_weightTogether_0 (sa : Nat → Nat) (d : Nat) (x0 : Nat) (x1 : Int32) (h : AH) : AMV sa d 18 0 [.ref x0, .int x1, .null, .null] [] h =
  AMV sa d 18 4 [.ref x0, .int x1, .int 0, .int 0] [] h :=
  (AMV_T sa d 18 (fun pc => Nat.beq pc 4) 5 _ _ _ h).trans rfl
set_option maxRecDepth 100000 in
theorem eX2_weightTogether_4 (sa : Nat → Nat) (d : Nat) (x0 : Nat) (x1 : Int32) (x2 : Int32) (x3 : Int32) (h : AH) : AMV sa d 18 4 [.ref x0, .int x1, .int x2, .int x3] [] h =
  aOp (aFI h x0 2 4) fun v1 =>
  if v1 ≤ x3 then
   some (some (.int x2), h)
  else
   if (x1 >>> (x3 &&& 31)) &&& 1 = 0 then
    AMV sa d 18 4 [.ref x0, .int x1, .int x2, .int (x3 + 1)] [] h
   else
    aOp (aCl h x0 2) fun _ =>
    aOp (aRI (AMC sa d 16 [.ref x0, .int x3] h)) fun z2 =>
    AMV sa d 18 4 [.ref x0, .int x1, .int (x2 + z2.1), .int (x3 + 1)] [] z2.2 :=
  (AMV_T sa d 18 (fun pc => Nat.beq pc 4) 19 _ _ _ h).trans rfl
set_option maxRecDepth 100000 in
theorem eX2_blurt_0 (sa : Nat → Nat) (d : Nat) (x0 : Nat) (x1 : Int32) (h : AH) : AMV sa d 19 0 [.ref x0, .int x1, .null] [] h =
  aOp (aCl h x0 2) fun _ =>
  aOp (aRI (AMC sa d 16 [.ref x0, .int x1] h)) fun z1 =>
  aOp (aFI z1.2 x0 2 7) fun v2 =>
  if v2 < z1.1 then
   aOp (aCl z1.2 x0 2) fun _ =>
   aOp (aRI (AMC sa d 15 [.ref x0, .int x1] z1.2)) fun z3 =>
   aOp (aFR z3.2 x0 2 0) fun v4 =>
   aOp (aIL z3.2 v4 x1) fun v5 =>
   if v5 = 1 then
    aOp (aFR z3.2 x0 2 3) fun v6 =>
    aOp (aFR z3.2 v6 6 2) fun v7 =>
    aOp (aIL z3.2 v7 z3.1) fun v8 =>
    some (some (.int v8), z3.2)
   else
   if v5 = 2 then
    aOp (aFR z3.2 x0 2 3) fun v9 =>
    aOp (aFR z3.2 v9 6 3) fun v10 =>
    aOp (aIL z3.2 v10 z3.1) fun v11 =>
    some (some (.int v11), z3.2)
   else
   if v5 = 3 then
    aOp (aFI z3.2 x0 2 8) fun v12 =>
    if v12 - v12 / 2 * 2 = 0 then
     aOp (aFR z3.2 x0 2 3) fun v13 =>
     aOp (aFR z3.2 v13 6 2) fun v14 =>
     aOp (aIL z3.2 v14 z3.1) fun v15 =>
     some (some (.int v15), z3.2)
    else
     some (some (.int 0), z3.2)
   else
   if v5 = 4 then
    some (some (.int 0), z3.2)
   else
   if v5 = 5 then
    some (some (.int z3.1), z3.2)
   else
   some (some (.int 0), z3.2)
  else
   some (some (.int 0), z1.2) :=
  (AMV_T sa d 19 (fun pc => false) 28 _ _ _ h).trans rfl
set_option maxRecDepth 100000 in
theorem eX2_passDay_0 (sa : Nat → Nat) (d : Nat) (x0 : Nat) (h : AH) : AMV sa d 20 0 [.ref x0, .null, .null, .null, .null, .null, .null] [] h =
  aOp (aFI h x0 2 6) fun v1 =>
  AMV sa d 20 9 [.ref x0, .int 0, .int v1, .int 0, .null, .null, .null] [] h :=
  (AMV_T sa d 20 (fun pc => Nat.beq pc 9 || Nat.beq pc 61 || Nat.beq pc 101 || Nat.beq pc 120) 8 _ _ _ h).trans rfl
set_option maxRecDepth 100000 in
theorem eX2_passDay_9 (sa : Nat → Nat) (d : Nat) (x0 : Nat) (x1 : Int32) (x2 : Int32) (x3 : Int32) (x4 : Value) (x5 : Value) (x6 : Value) (h : AH) : AMV sa d 20 9 [.ref x0, .int x1, .int x2, .int x3, x4, x5, x6] [] h =
  aOp (aFI h x0 2 4) fun v1 =>
  if v1 ≤ x3 then
   aOp (aFI h x0 2 8) fun v2 =>
   aOp (aFP h x0 2 8 (.int (v2 + 1))) fun h3 =>
   if x1 = 0 ∨ x1 = 1 then some (some (.int x1), h3) else none
  else
   aOp (aCl h x0 2) fun _ =>
   aOp (aRI (AMC sa d 13 [.ref x0, .int x3] h)) fun z4 =>
   if z4.1 = 0 then
    AMV sa d 20 9 [.ref x0, .int x1, .int x2, .int (x3 + 1), x4, x5, x6] [] z4.2
   else
    aOp (aCl z4.2 x0 2) fun _ =>
    aOp (aRI (AMC sa d 19 [.ref x0, .int x3] z4.2)) fun z5 =>
    aOp (aFR z5.2 x0 2 2) fun v6 =>
    aOp (aIL z5.2 v6 x3) fun v7 =>
    aOp (aIS z5.2 v6 x3 (v7 ||| z5.1)) fun h8 =>
    aOp (aCl h8 x0 2) fun _ =>
    aOp (aRI (AMC sa d 16 [.ref x0, .int x3] h8)) fun z9 =>
    if x2 < z9.1 then
     AMV sa d 20 61 [.ref x0, .int x1, .int x2, .int x3, .int z5.1, .int z9.1, x6] [.int 0] z9.2
    else
     AMV sa d 20 61 [.ref x0, .int x1, .int x2, .int x3, .int z5.1, .int z9.1, x6] [.int 1] z9.2 :=
  (AMV_T sa d 20 (fun pc => Nat.beq pc 9 || Nat.beq pc 61 || Nat.beq pc 101 || Nat.beq pc 120) 30 _ _ _ h).trans rfl
set_option maxRecDepth 100000 in
theorem eX2_passDay_61 (sa : Nat → Nat) (d : Nat) (x0 : Nat) (x1 : Int32) (x2 : Int32) (x3 : Int32) (x4 : Int32) (x5 : Int32) (x6 : Value) (s0 : Int32) (h : AH) : AMV sa d 20 61 [.ref x0, .int x1, .int x2, .int x3, .int x4, .int x5, x6] [.int s0] h =
  if s0 = 0 then
   AMV sa d 20 101 [.ref x0, .int x1, .int x2, .int x3, .int x4, .int x5, .int s0] [] h
  else
   aOp (aFI h x0 2 5) fun v1 =>
   aOp (aFP h x0 2 5 (.int (v1 ||| (1 <<< (x3 &&& 31))))) fun h2 =>
   aOp (aFI h2 x0 2 9) fun v3 =>
   aOp (aFP h2 x0 2 9 (.int (if 99999 < (v3 + x5) then 99999 else (v3 + x5)))) fun h4 =>
   AMV sa d 20 101 [.ref x0, .int x1, .int (x2 - x5), .int x3, .int x4, .int x5, .int s0] [] h4 :=
  (AMV_T sa d 20 (fun pc => Nat.beq pc 9 || Nat.beq pc 61 || Nat.beq pc 101 || Nat.beq pc 120) 24 _ _ _ h).trans rfl
set_option maxRecDepth 100000 in
theorem eX2_passDay_101 (sa : Nat → Nat) (d : Nat) (x0 : Nat) (x1 : Int32) (x2 : Int32) (x3 : Int32) (x4 : Int32) (x5 : Int32) (x6 : Int32) (h : AH) : AMV sa d 20 101 [.ref x0, .int x1, .int x2, .int x3, .int x4, .int x5, .int x6] [] h =
  if x1 = 0 then
   if x6 = 0 then
    if x4 = 0 then
     AMV sa d 20 120 [.ref x0, .int x1, .int x2, .int x3, .int x4, .int x5, .int x6] [.int 0] h
    else
     AMV sa d 20 120 [.ref x0, .int x1, .int x2, .int x3, .int x4, .int x5, .int x6] [.int 1] h
   else
    AMV sa d 20 120 [.ref x0, .int x1, .int x2, .int x3, .int x4, .int x5, .int x6] [.int 1] h
  else
   AMV sa d 20 120 [.ref x0, .int x1, .int x2, .int x3, .int x4, .int x5, .int x6] [.int 1] h :=
  (AMV_T sa d 20 (fun pc => Nat.beq pc 9 || Nat.beq pc 61 || Nat.beq pc 101 || Nat.beq pc 120) 9 _ _ _ h).trans rfl
set_option maxRecDepth 100000 in
theorem eX2_passDay_120 (sa : Nat → Nat) (d : Nat) (x0 : Nat) (x1 : Int32) (x2 : Int32) (x3 : Int32) (x4 : Int32) (x5 : Int32) (x6 : Int32) (s0 : Int32) (h : AH) : AMV sa d 20 120 [.ref x0, .int x1, .int x2, .int x3, .int x4, .int x5, .int x6] [.int s0] h =
  AMV sa d 20 9 [.ref x0, .int s0, .int x2, .int (x3 + 1), .int x4, .int x5, .int x6] [] h :=
  (AMV_T sa d 20 (fun pc => Nat.beq pc 9 || Nat.beq pc 61 || Nat.beq pc 101 || Nat.beq pc 120) 4 _ _ _ h).trans rfl
set_option maxRecDepth 100000 in
theorem eX2_passDays_0 (sa : Nat → Nat) (d : Nat) (x0 : Nat) (x1 : Int32) (h : AH) : AMV sa d 21 0 [.ref x0, .int x1, .null, .null, .null, .null] [] h =
  aOp (aFI h x0 2 8) fun v1 =>
  AMV sa d 21 9 [.ref x0, .int x1, .int (v1 + x1), .int 0, .null, .null] [] h :=
  (AMV_T sa d 21 (fun pc => Nat.beq pc 9 || Nat.beq pc 28) 8 _ _ _ h).trans rfl
set_option maxRecDepth 100000 in
theorem eX2_passDays_9 (sa : Nat → Nat) (d : Nat) (x0 : Nat) (x1 : Int32) (x2 : Int32) (x3 : Int32) (x4 : Value) (x5 : Value) (h : AH) : AMV sa d 21 9 [.ref x0, .int x1, .int x2, .int x3, x4, x5] [] h =
  if x1 ≤ x3 then
   some (none, h)
  else
   aOp (aFI h x0 2 8) fun v1 =>
   if v1 - v1 / 2 * 2 = 0 then
    AMV sa d 21 28 [.ref x0, .int x1, .int x2, .int x3, x4, x5] [.int 1] h
   else
    AMV sa d 21 28 [.ref x0, .int x1, .int x2, .int x3, x4, x5] [.int 0] h :=
  (AMV_T sa d 21 (fun pc => Nat.beq pc 9 || Nat.beq pc 28) 11 _ _ _ h).trans rfl
set_option maxRecDepth 100000 in
theorem eX2_passDays_28 (sa : Nat → Nat) (d : Nat) (x0 : Nat) (x1 : Int32) (x2 : Int32) (x3 : Int32) (x4 : Value) (x5 : Value) (s0 : Int32) (h : AH) : AMV sa d 21 28 [.ref x0, .int x1, .int x2, .int x3, x4, x5] [.int s0] h =
  aOp (aCl h x0 2) fun _ =>
  aOp (aRI (AMC sa d 20 [.ref x0] h)) fun z1 =>
  if s0 = 0 then
   AMV sa d 21 9 [.ref x0, .int x1, .int x2, .int (x3 + 1), .int s0, .int z1.1] [] z1.2
  else
   if z1.1 = 0 then
    aOp (aFP z1.2 x0 2 8 (.int x2)) fun h2 =>
    some (none, h2)
   else
    AMV sa d 21 9 [.ref x0, .int x1, .int x2, .int (x3 + 1), .int s0, .int z1.1] [] z1.2 :=
  (AMV_T sa d 21 (fun pc => Nat.beq pc 9 || Nat.beq pc 28) 13 _ _ _ h).trans rfl
set_option maxRecDepth 100000 in
theorem eX3_init_0 (sa : Nat → Nat) (d : Nat) (x0 : Nat) (h : AH) : AMV sa d 22 0 [.ref x0, .null] [] h =
  aOp (aNA h 0 8) fun z1 =>
  aOp (aFP z1.2 x0 3 0 (.ref z1.1)) fun h2 =>
  aOp (aNA h2 0 8) fun z3 =>
  aOp (aFP z3.2 x0 3 1 (.ref z3.1)) fun h4 =>
  aOp (aNA h4 0 320) fun z5 =>
  aOp (aFP z5.2 x0 3 2 (.ref z5.1)) fun h6 =>
  AMV sa d 22 31 [.ref x0, .int 0] [] h6 :=
  (AMV_T sa d 22 (fun pc => Nat.beq pc 31) 17 _ _ _ h).trans rfl
set_option maxRecDepth 100000 in
theorem eX3_init_31 (sa : Nat → Nat) (d : Nat) (x0 : Nat) (x1 : Int32) (h : AH) : AMV sa d 22 31 [.ref x0, .int x1] [] h =
  if 8 ≤ x1 then
   some (none, h)
  else
   aOp (aFR h x0 3 0) fun v1 =>
   aOp (aIS h v1 x1 (-1)) fun h2 =>
   AMV sa d 22 31 [.ref x0, .int (x1 + 1)] [] h2 :=
  (AMV_T sa d 22 (fun pc => Nat.beq pc 31) 11 _ _ _ h).trans rfl
set_option maxRecDepth 100000 in
theorem eX3_isNamed_0 (sa : Nat → Nat) (d : Nat) (x0 : Int32) (h : AH) : AMV sa d 23 0 [.int x0] [] h =
  if x0 < 0 then
   some (some (.int 0), h)
  else
   if 8 ≤ x0 then
    some (some (.int 0), h)
   else
    some (some (.int 1), h) :=
  (AMV_T sa d 23 (fun pc => false) 9 _ _ _ h).trans rfl
set_option maxRecDepth 100000 in
theorem eX3_isLane_0 (sa : Nat → Nat) (d : Nat) (x0 : Int32) (h : AH) : AMV sa d 24 0 [.int x0] [] h =
  if x0 < 0 then
   some (some (.int 0), h)
  else
   if 2 < x0 then
    some (some (.int 0), h)
   else
    some (some (.int 1), h) :=
  (AMV_T sa d 24 (fun pc => false) 9 _ _ _ h).trans rfl
set_option maxRecDepth 100000 in
theorem eX3_isMissing_0 (sa : Nat → Nat) (d : Nat) (x0 : Nat) (x1 : Int32) (h : AH) : AMV sa d 25 0 [.ref x0, .int x1] [] h =
  aOp (aFR h x0 3 0) fun v1 =>
  aOp (aIL h v1 x1) fun v2 =>
  if v2 = (-1) then
   some (some (.int 1), h)
  else
   some (some (.int 0), h) :=
  (AMV_T sa d 25 (fun pc => false) 10 _ _ _ h).trans rfl
set_option maxRecDepth 100000 in
theorem eX3_shareLane_0 (sa : Nat → Nat) (d : Nat) (x0 : Nat) (x1 : Int32) (x2 : Int32) (h : AH) : AMV sa d 26 0 [.ref x0, .int x1, .int x2] [] h =
  aOp (aFR h x0 3 0) fun v1 =>
  aOp (aIL h v1 x1) fun v2 =>
  aOp (aFR h x0 3 0) fun v3 =>
  aOp (aIL h v3 x2) fun v4 =>
  if v2 = v4 then
   some (some (.int 1), h)
  else
   some (some (.int 0), h) :=
  (AMV_T sa d 26 (fun pc => false) 13 _ _ _ h).trans rfl
set_option maxRecDepth 100000 in
theorem eX3_covers_0 (sa : Nat → Nat) (d : Nat) (x0 : Nat) (x1 : Int32) (x2 : Int32) (x3 : Int32) (h : AH) : AMV sa d 27 0 [.ref x0, .int x1, .int x2, .int x3] [] h =
  if x2 < 0 then
   some (some (.int 0), h)
  else
   if x3 < 0 then
    some (some (.int 0), h)
   else
    aOp (aFR h x0 3 1) fun v1 =>
    aOp (aIL h v1 x1) fun v2 =>
    if v2 - x3 < x2 then
     some (some (.int 0), h)
    else
     some (some (.int 1), h) :=
  (AMV_T sa d 27 (fun pc => false) 16 _ _ _ h).trans rfl
set_option maxRecDepth 100000 in
theorem eX3_make_0 (sa : Nat → Nat) (d : Nat) (x0 : Nat) (x1 : Int32) (x2 : Int32) (x3 : Int32) (h : AH) : AMV sa d 28 0 [.ref x0, .int x1, .int x2, .int x3, .null] [] h =
  aOp (aFR h x0 3 0) fun v1 =>
  aOp (aIS h v1 x1 x2) fun h2 =>
  aOp (aFR h2 x0 3 1) fun v3 =>
  aOp (aIS h2 v3 x1 x3) fun h4 =>
  AMV sa d 28 17 [.ref x0, .int x1, .int x2, .int x3, .int 0] [] h4 :=
  (AMV_T sa d 28 (fun pc => Nat.beq pc 17) 13 _ _ _ h).trans rfl
set_option maxRecDepth 100000 in
theorem eX3_make_17 (sa : Nat → Nat) (d : Nat) (x0 : Nat) (x1 : Int32) (x2 : Int32) (x3 : Int32) (x4 : Int32) (h : AH) : AMV sa d 28 17 [.ref x0, .int x1, .int x2, .int x3, .int x4] [] h =
  if x3 ≤ x4 then
   some (none, h)
  else
   aOp (aFR h x0 3 2) fun v1 =>
   aOp (aIS h v1 ((x1 * 40) + x4) 0) fun h2 =>
   AMV sa d 28 17 [.ref x0, .int x1, .int x2, .int x3, .int (x4 + 1)] [] h2 :=
  (AMV_T sa d 28 (fun pc => Nat.beq pc 17) 15 _ _ _ h).trans rfl
set_option maxRecDepth 100000 in
theorem eX3_put_0 (sa : Nat → Nat) (d : Nat) (x0 : Nat) (x1 : Int32) (x2 : Int32) (x3 : Int32) (h : AH) : AMV sa d 29 0 [.ref x0, .int x1, .int x2, .int x3, .null] [] h =
  aOp (aFR h x0 3 0) fun v1 =>
  aOp (aIL h v1 x1) fun v2 =>
  if v2 = 0 then
   AMV sa d 29 30 [.ref x0, .int x1, .int x2, .int x3, .null] [.int x3.toInt8.toInt32] h
  else
   aOp (aFR h x0 3 0) fun v3 =>
   aOp (aIL h v3 x1) fun v4 =>
   if v4 = 1 then
    AMV sa d 29 30 [.ref x0, .int x1, .int x2, .int x3, .null] [.int x3.toInt16.toInt32] h
   else
    AMV sa d 29 30 [.ref x0, .int x1, .int x2, .int x3, .null] [.int x3] h :=
  (AMV_T sa d 29 (fun pc => Nat.beq pc 30) 15 _ _ _ h).trans rfl
set_option maxRecDepth 100000 in
theorem eX3_put_30 (sa : Nat → Nat) (d : Nat) (x0 : Nat) (x1 : Int32) (x2 : Int32) (x3 : Int32) (s0 : Int32) (h : AH) : AMV sa d 29 30 [.ref x0, .int x1, .int x2, .int x3, .null] [.int s0] h =
  aOp (aFR h x0 3 2) fun v1 =>
  aOp (aIS h v1 ((x1 * 40) + x2) s0) fun h2 =>
  some (some (.int s0), h2) :=
  (AMV_T sa d 29 (fun pc => Nat.beq pc 30) 13 _ _ _ h).trans rfl
set_option maxRecDepth 100000 in
theorem eX3_item_0 (sa : Nat → Nat) (d : Nat) (x0 : Nat) (x1 : Int32) (x2 : Int32) (h : AH) : AMV sa d 30 0 [.ref x0, .int x1, .int x2] [] h =
  aOp (aFR h x0 3 2) fun v1 =>
  aOp (aIL h v1 ((x1 * 40) + x2)) fun v2 =>
  some (some (.int v2), h) :=
  (AMV_T sa d 30 (fun pc => false) 10 _ _ _ h).trans rfl
set_option maxRecDepth 100000 in
theorem eX3_move_0 (sa : Nat → Nat) (d : Nat) (x0 : Nat) (x1 : Int32) (x2 : Int32) (x3 : Int32) (x4 : Int32) (x5 : Int32) (h : AH) : AMV sa d 31 0 [.ref x0, .int x1, .int x2, .int x3, .int x4, .int x5] [] h =
  aOp (aFR h x0 3 2) fun v1 =>
  aOp (aFR h x0 3 2) fun v2 =>
  aOp (aCpy h v1 ((x1 * 40) + x2) v2 ((x3 * 40) + x4) x5) fun h3 =>
  some (none, h3) :=
  (AMV_T sa d 31 (fun pc => false) 18 _ _ _ h).trans rfl
set_option maxRecDepth 100000 in
theorem eX3_remove_0 (sa : Nat → Nat) (d : Nat) (x0 : Nat) (x1 : Int32) (h : AH) : AMV sa d 32 0 [.ref x0, .int x1] [] h =
  aOp (aFR h x0 3 0) fun v1 =>
  aOp (aIS h v1 x1 (-1)) fun h2 =>
  aOp (aFR h2 x0 3 1) fun v3 =>
  aOp (aIL h2 v3 x1) fun v4 =>
  some (some (.int v4), h2) :=
  (AMV_T sa d 32 (fun pc => false) 11 _ _ _ h).trans rfl
set_option maxRecDepth 100000 in
theorem eX3_present_0 (sa : Nat → Nat) (d : Nat) (x0 : Nat) (h : AH) : AMV sa d 33 0 [.ref x0, .null, .null] [] h =
  AMV sa d 33 4 [.ref x0, .int 0, .int 0] [] h :=
  (AMV_T sa d 33 (fun pc => Nat.beq pc 4) 5 _ _ _ h).trans rfl
set_option maxRecDepth 100000 in
theorem eX3_present_4 (sa : Nat → Nat) (d : Nat) (x0 : Nat) (x1 : Int32) (x2 : Int32) (h : AH) : AMV sa d 33 4 [.ref x0, .int x1, .int x2] [] h =
  if 8 ≤ x2 then
   some (some (.int x1), h)
  else
   aOp (aCl h x0 3) fun _ =>
   aOp (aRI (AMC sa d 25 [.ref x0, .int x2] h)) fun z1 =>
   if z1.1 = 0 then
    AMV sa d 33 4 [.ref x0, .int (x1 + 1), .int (x2 + 1)] [] z1.2
   else
    AMV sa d 33 4 [.ref x0, .int x1, .int (x2 + 1)] [] z1.2 :=
  (AMV_T sa d 33 (fun pc => Nat.beq pc 4) 11 _ _ _ h).trans rfl
set_option maxRecDepth 100000 in
theorem eJ6_numberOfTrailingZeros_0 (sa : Nat → Nat) (d : Nat) (x0 : Int32) (h : AH) : AMV sa d 184 0 [.int x0, .null] [] h =
  if 0 < (x0 ^^^ (-1)) &&& (x0 - 1) then
   if (x0 ^^^ (-1)) &&& (x0 - 1) ≤ 65536 then
    AMV sa d 184 34 [.int ((x0 ^^^ (-1)) &&& (x0 - 1)), .int 1] [] h
   else
    AMV sa d 184 34 [.int ((((x0 ^^^ (-1)) &&& (x0 - 1)).toUInt32 >>> ((16 : Int32).toUInt32 &&& Int32.toUInt32 31)).toInt32), .int (1 + 16)] [] h
  else
   some (some (.int (((x0 ^^^ (-1)) &&& (x0 - 1)) &&& 32)), h) :=
  (AMV_T sa d 184 (fun pc => Nat.beq pc 34 || Nat.beq pc 49 || Nat.beq pc 62 || Nat.beq pc 74) 21 _ _ _ h).trans rfl
set_option maxRecDepth 100000 in
theorem eJ6_numberOfTrailingZeros_34 (sa : Nat → Nat) (d : Nat) (x0 : Int32) (x1 : Int32) (h : AH) : AMV sa d 184 34 [.int x0, .int x1] [] h =
  if x0 ≤ 256 then
   AMV sa d 184 49 [.int x0, .int x1] [] h
  else
   AMV sa d 184 49 [.int ((x0.toUInt32 >>> ((8 : Int32).toUInt32 &&& Int32.toUInt32 31)).toInt32), .int (x1 + 8)] [] h :=
  (AMV_T sa d 184 (fun pc => Nat.beq pc 34 || Nat.beq pc 49 || Nat.beq pc 62 || Nat.beq pc 74) 9 _ _ _ h).trans rfl
set_option maxRecDepth 100000 in
theorem eJ6_numberOfTrailingZeros_49 (sa : Nat → Nat) (d : Nat) (x0 : Int32) (x1 : Int32) (h : AH) : AMV sa d 184 49 [.int x0, .int x1] [] h =
  if x0 ≤ 16 then
   AMV sa d 184 62 [.int x0, .int x1] [] h
  else
   AMV sa d 184 62 [.int ((x0.toUInt32 >>> ((4 : Int32).toUInt32 &&& Int32.toUInt32 31)).toInt32), .int (x1 + 4)] [] h :=
  (AMV_T sa d 184 (fun pc => Nat.beq pc 34 || Nat.beq pc 49 || Nat.beq pc 62 || Nat.beq pc 74) 9 _ _ _ h).trans rfl
set_option maxRecDepth 100000 in
theorem eJ6_numberOfTrailingZeros_62 (sa : Nat → Nat) (d : Nat) (x0 : Int32) (x1 : Int32) (h : AH) : AMV sa d 184 62 [.int x0, .int x1] [] h =
  if x0 ≤ 4 then
   AMV sa d 184 74 [.int x0, .int x1] [] h
  else
   AMV sa d 184 74 [.int ((x0.toUInt32 >>> ((2 : Int32).toUInt32 &&& Int32.toUInt32 31)).toInt32), .int (x1 + 2)] [] h :=
  (AMV_T sa d 184 (fun pc => Nat.beq pc 34 || Nat.beq pc 49 || Nat.beq pc 62 || Nat.beq pc 74) 9 _ _ _ h).trans rfl
set_option maxRecDepth 100000 in
theorem eJ6_numberOfTrailingZeros_74 (sa : Nat → Nat) (d : Nat) (x0 : Int32) (x1 : Int32) (h : AH) : AMV sa d 184 74 [.int x0, .int x1] [] h =
  some (some (.int (x1 + ((x0.toUInt32 >>> ((1 : Int32).toUInt32 &&& Int32.toUInt32 31)).toInt32))), h) :=
  (AMV_T sa d 184 (fun pc => Nat.beq pc 34 || Nat.beq pc 49 || Nat.beq pc 62 || Nat.beq pc 74) 7 _ _ _ h).trans rfl
set_option maxRecDepth 100000 in
theorem eJ6_bitCount_0 (sa : Nat → Nat) (d : Nat) (x0 : Int32) (h : AH) : AMV sa d 185 0 [.int x0] [] h =
  some (some (.int ((((((((x0 - (((x0.toUInt32 >>> ((1 : Int32).toUInt32 &&& Int32.toUInt32 31)).toInt32) &&& 1431655765)) &&& 858993459) + ((((x0 - (((x0.toUInt32 >>> ((1 : Int32).toUInt32 &&& Int32.toUInt32 31)).toInt32) &&& 1431655765)).toUInt32 >>> ((2 : Int32).toUInt32 &&& Int32.toUInt32 31)).toInt32) &&& 858993459)) + (((((x0 - (((x0.toUInt32 >>> ((1 : Int32).toUInt32 &&& Int32.toUInt32 31)).toInt32) &&& 1431655765)) &&& 858993459) + ((((x0 - (((x0.toUInt32 >>> ((1 : Int32).toUInt32 &&& Int32.toUInt32 31)).toInt32) &&& 1431655765)).toUInt32 >>> ((2 : Int32).toUInt32 &&& Int32.toUInt32 31)).toInt32) &&& 858993459)).toUInt32 >>> ((4 : Int32).toUInt32 &&& Int32.toUInt32 31)).toInt32)) &&& 252645135) + (((((((x0 - (((x0.toUInt32 >>> ((1 : Int32).toUInt32 &&& Int32.toUInt32 31)).toInt32) &&& 1431655765)) &&& 858993459) + ((((x0 - (((x0.toUInt32 >>> ((1 : Int32).toUInt32 &&& Int32.toUInt32 31)).toInt32) &&& 1431655765)).toUInt32 >>> ((2 : Int32).toUInt32 &&& Int32.toUInt32 31)).toInt32) &&& 858993459)) + (((((x0 - (((x0.toUInt32 >>> ((1 : Int32).toUInt32 &&& Int32.toUInt32 31)).toInt32) &&& 1431655765)) &&& 858993459) + ((((x0 - (((x0.toUInt32 >>> ((1 : Int32).toUInt32 &&& Int32.toUInt32 31)).toInt32) &&& 1431655765)).toUInt32 >>> ((2 : Int32).toUInt32 &&& Int32.toUInt32 31)).toInt32) &&& 858993459)).toUInt32 >>> ((4 : Int32).toUInt32 &&& Int32.toUInt32 31)).toInt32)) &&& 252645135).toUInt32 >>> ((8 : Int32).toUInt32 &&& Int32.toUInt32 31)).toInt32)) + ((((((((x0 - (((x0.toUInt32 >>> ((1 : Int32).toUInt32 &&& Int32.toUInt32 31)).toInt32) &&& 1431655765)) &&& 858993459) + ((((x0 - (((x0.toUInt32 >>> ((1 : Int32).toUInt32 &&& Int32.toUInt32 31)).toInt32) &&& 1431655765)).toUInt32 >>> ((2 : Int32).toUInt32 &&& Int32.toUInt32 31)).toInt32) &&& 858993459)) + (((((x0 - (((x0.toUInt32 >>> ((1 : Int32).toUInt32 &&& Int32.toUInt32 31)).toInt32) &&& 1431655765)) &&& 858993459) + ((((x0 - (((x0.toUInt32 >>> ((1 : Int32).toUInt32 &&& Int32.toUInt32 31)).toInt32) &&& 1431655765)).toUInt32 >>> ((2 : Int32).toUInt32 &&& Int32.toUInt32 31)).toInt32) &&& 858993459)).toUInt32 >>> ((4 : Int32).toUInt32 &&& Int32.toUInt32 31)).toInt32)) &&& 252645135) + (((((((x0 - (((x0.toUInt32 >>> ((1 : Int32).toUInt32 &&& Int32.toUInt32 31)).toInt32) &&& 1431655765)) &&& 858993459) + ((((x0 - (((x0.toUInt32 >>> ((1 : Int32).toUInt32 &&& Int32.toUInt32 31)).toInt32) &&& 1431655765)).toUInt32 >>> ((2 : Int32).toUInt32 &&& Int32.toUInt32 31)).toInt32) &&& 858993459)) + (((((x0 - (((x0.toUInt32 >>> ((1 : Int32).toUInt32 &&& Int32.toUInt32 31)).toInt32) &&& 1431655765)) &&& 858993459) + ((((x0 - (((x0.toUInt32 >>> ((1 : Int32).toUInt32 &&& Int32.toUInt32 31)).toInt32) &&& 1431655765)).toUInt32 >>> ((2 : Int32).toUInt32 &&& Int32.toUInt32 31)).toInt32) &&& 858993459)).toUInt32 >>> ((4 : Int32).toUInt32 &&& Int32.toUInt32 31)).toInt32)) &&& 252645135).toUInt32 >>> ((8 : Int32).toUInt32 &&& Int32.toUInt32 31)).toInt32)).toUInt32 >>> ((16 : Int32).toUInt32 &&& Int32.toUInt32 31)).toInt32)) &&& 63)), h) :=
  (AMV_T sa d 185 (fun pc => false) 43 _ _ _ h).trans rfl
set_option maxRecDepth 100000 in
theorem eJ9_max_0 (sa : Nat → Nat) (d : Nat) (x0 : Int32) (x1 : Int32) (h : AH) : AMV sa d 186 0 [.int x0, .int x1] [] h =
  if x0 < x1 then
   some (some (.int x1), h)
  else
   some (some (.int x0), h) :=
  (AMV_T sa d 186 (fun pc => false) 7 _ _ _ h).trans rfl
set_option maxRecDepth 100000 in
theorem eJ9_min_0 (sa : Nat → Nat) (d : Nat) (x0 : Int32) (x1 : Int32) (h : AH) : AMV sa d 187 0 [.int x0, .int x1] [] h =
  if x1 < x0 then
   some (some (.int x1), h)
  else
   some (some (.int x0), h) :=
  (AMV_T sa d 187 (fun pc => false) 7 _ _ _ h).trans rfl
