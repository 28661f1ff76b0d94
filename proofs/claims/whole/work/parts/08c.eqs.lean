set_option maxRecDepth 100000 in
theorem eX7_init_0 (sa : Nat → Nat) (d : Nat) (x0 : Nat) (h : AH) : AMV sa d 64 0 [.ref x0, .null] [] h =
  aOp (aNA (aMk h 4 (.inl (6, [.int 0, .null, .null, .null]))) 0 6) fun z1 =>
  aOp (aRV (AMC sa d 63 [.ref h.1, .ref z1.1, .int 0] z1.2)) fun h2 =>
  aOp (aRV (AMC sa d 22 [.ref h2.1] (aMk h2 3 (.inl (3, [.null, .null, .null]))))) fun h3 =>
  aOp (aFP h3 x0 7 0 (.ref h2.1)) fun h4 =>
  aOp (aRV (AMC sa d 49 [.ref h4.1] (aMk h4 7 (.inl (5, [.null, .null, .int 0, .int 0, .int 0, .int 0, .int 0]))))) fun h5 =>
  aOp (aFP h5 x0 7 1 (.ref h4.1)) fun h6 =>
  aOp (aRV (AMC sa d 9 [.ref h6.1, .ref h.1] (aMk h6 10 (.inl (2, [.null, .null, .null, .null, .int 0, .int 0, .int 0, .int 0, .int 0, .int 0]))))) fun h7 =>
  aOp (aFP h7 x0 7 2 (.ref h6.1)) fun h8 =>
  aOp (aRV (AMC sa d 9 [.ref h8.1, .ref h.1] (aMk h8 10 (.inl (2, [.null, .null, .null, .null, .int 0, .int 0, .int 0, .int 0, .int 0, .int 0]))))) fun h9 =>
  aOp (aFP h9 x0 7 3 (.ref h8.1)) fun h10 =>
  aOp (aNR h10 2) fun z11 =>
  aOp (aRV (AMC sa d 9 [.ref z11.2.1, .ref h.1] (aMk z11.2 10 (.inl (2, [.null, .null, .null, .null, .int 0, .int 0, .int 0, .int 0, .int 0, .int 0]))))) fun h12 =>
  aOp (aRS h12 z11.1 0 z11.2.1 2) fun h13 =>
  aOp (aRV (AMC sa d 9 [.ref h13.1, .ref h.1] (aMk h13 10 (.inl (2, [.null, .null, .null, .null, .int 0, .int 0, .int 0, .int 0, .int 0, .int 0]))))) fun h14 =>
  aOp (aRS h14 z11.1 1 h13.1 2) fun h15 =>
  aOp (aFP h15 x0 7 4 (.ref z11.1)) fun h16 =>
  aOp (aRV (AMC sa d 0 [.ref h16.1] (aMk h16 3 (.inl (0, [.null, .int 0, .int 0]))))) fun h17 =>
  aOp (aFP h17 x0 7 5 (.ref h16.1)) fun h18 =>
  aOp (aRV (AMC sa d 9 [.ref ((aMk h18 3 (.inl (4, [.null, .null, .int 0]))).1), .ref h.1] (aMk (aMk h18 3 (.inl (4, [.null, .null, .int 0]))) 10 (.inl (2, [.null, .null, .null, .null, .int 0, .int 0, .int 0, .int 0, .int 0, .int 0]))))) fun h19 =>
  aOp (aRV (AMC sa d 34 [.ref h18.1, .ref ((aMk h18 3 (.inl (4, [.null, .null, .int 0]))).1)] h19)) fun h20 =>
  aOp (aFP h20 x0 7 6 (.ref h18.1)) fun h21 =>
  aOp (aRV (AMC sa d 4 [.ref h21.1] (aMk h21 2 (.inl (1, [.null, .int 0]))))) fun h22 =>
  aOp (aFP h22 x0 7 7 (.ref h21.1)) fun h23 =>
  some (none, h23) :=
  (AMV_T sa d 64 (fun pc => false) 70 _ _ _ h).trans rfl
set_option maxRecDepth 100000 in
theorem eX7_row_0 (sa : Nat → Nat) (d : Nat) (x0 : Nat) (x1 : Int32) (x2 : Int32) (x3 : Int32) (h : AH) : AMV sa d 65 0 [.ref x0, .int x1, .int x2, .int x3] [] h =
  aOp (aRI (AMC sa d 23 [.int x1] h)) fun z1 =>
  if z1.1 = 0 then
   some (some (.int (-1000001)), z1.2)
  else
   aOp (aRI (AMC sa d 24 [.int x2] z1.2)) fun z2 =>
   if z2.1 = 0 then
    some (some (.int (-1000001)), z2.2)
   else
    if x3 ≤ 40 then
     if 0 ≤ x3 then
      aOp (aFP z2.2 x0 7 9 (.int 0)) fun h3 =>
      aOp (aFR h3 x0 7 0) fun v4 =>
      aOp (aCl h3 v4 3) fun _ =>
      aOp (aRV (AMC sa d 28 [.ref v4, .int x1, .int x2, .int x3] h3)) fun h5 =>
      some (some (.int x3), h5)
     else
      aOp (aCl z2.2 x0 7) fun _ =>
      aOp (aRI (AMC sa d 99 [.ref x0, .int 4] z2.2)) fun z6 =>
      some (some (.int z6.1), z6.2)
    else
     some (some (.int (-1000001)), z2.2) :=
  (AMV_T sa d 65 (fun pc => false) 23 _ _ _ h).trans rfl
set_option maxRecDepth 100000 in
theorem eX7_set_0 (sa : Nat → Nat) (d : Nat) (x0 : Nat) (x1 : Int32) (x2 : Int32) (x3 : Int32) (h : AH) : AMV sa d 66 0 [.ref x0, .int x1, .int x2, .int x3] [] h =
  aOp (aRI (AMC sa d 23 [.int x1] h)) fun z1 =>
  if z1.1 = 0 then
   some (some (.int (-1000001)), z1.2)
  else
   aOp (aFR z1.2 x0 7 0) fun v2 =>
   aOp (aCl z1.2 v2 3) fun _ =>
   aOp (aRI (AMC sa d 25 [.ref v2, .int x1] z1.2)) fun z3 =>
   if z3.1 = 0 then
    aOp (aFR z3.2 x0 7 0) fun v4 =>
    aOp (aCl z3.2 v4 3) fun _ =>
    aOp (aRI (AMC sa d 27 [.ref v4, .int x1, .int x2, .int 1] z3.2)) fun z5 =>
    if z5.1 = 0 then
     aOp (aCl z5.2 x0 7) fun _ =>
     aOp (aRI (AMC sa d 99 [.ref x0, .int 2] z5.2)) fun z6 =>
     some (some (.int z6.1), z6.2)
    else
     aOp (aFP z5.2 x0 7 9 (.int 0)) fun h7 =>
     aOp (aFR h7 x0 7 0) fun v8 =>
     aOp (aCl h7 v8 3) fun _ =>
     aOp (aRI (AMC sa d 29 [.ref v8, .int x1, .int x2, .int x3] h7)) fun z9 =>
     some (some (.int z9.1), z9.2)
   else
    aOp (aCl z3.2 x0 7) fun _ =>
    aOp (aRI (AMC sa d 99 [.ref x0, .int 1] z3.2)) fun z10 =>
    some (some (.int z10.1), z10.2) :=
  (AMV_T sa d 66 (fun pc => false) 26 _ _ _ h).trans rfl
set_option maxRecDepth 100000 in
theorem eX7_copy_0 (sa : Nat → Nat) (d : Nat) (x0 : Nat) (x1 : Int32) (x2 : Int32) (x3 : Int32) (x4 : Int32) (x5 : Int32) (h : AH) : AMV sa d 67 0 [.ref x0, .int x1, .int x2, .int x3, .int x4, .int x5] [] h =
  aOp (aRI (AMC sa d 23 [.int x1] h)) fun z1 =>
  if z1.1 = 0 then
   some (some (.int (-1000001)), z1.2)
  else
   aOp (aRI (AMC sa d 23 [.int x3] z1.2)) fun z2 =>
   if z2.1 = 0 then
    some (some (.int (-1000001)), z2.2)
   else
    aOp (aFR z2.2 x0 7 0) fun v3 =>
    aOp (aCl z2.2 v3 3) fun _ =>
    aOp (aRI (AMC sa d 25 [.ref v3, .int x1] z2.2)) fun z4 =>
    if z4.1 = 0 then
     aOp (aFR z4.2 x0 7 0) fun v5 =>
     aOp (aCl z4.2 v5 3) fun _ =>
     aOp (aRI (AMC sa d 25 [.ref v5, .int x3] z4.2)) fun z6 =>
     if z6.1 = 0 then
      aOp (aFR z6.2 x0 7 0) fun v7 =>
      aOp (aCl z6.2 v7 3) fun _ =>
      aOp (aRI (AMC sa d 26 [.ref v7, .int x1, .int x3] z6.2)) fun z8 =>
      if z8.1 = 0 then
       aOp (aCl z8.2 x0 7) fun _ =>
       aOp (aRI (AMC sa d 99 [.ref x0, .int 5] z8.2)) fun z9 =>
       some (some (.int z9.1), z9.2)
      else
       aOp (aFR z8.2 x0 7 0) fun v10 =>
       aOp (aCl z8.2 v10 3) fun _ =>
       aOp (aRI (AMC sa d 27 [.ref v10, .int x1, .int x2, .int x5] z8.2)) fun z11 =>
       if z11.1 = 0 then
        AMV sa d 67 92 [.ref x0, .int x1, .int x2, .int x3, .int x4, .int x5] [] z11.2
       else
        aOp (aFR z11.2 x0 7 0) fun v12 =>
        aOp (aCl z11.2 v12 3) fun _ =>
        aOp (aRI (AMC sa d 27 [.ref v12, .int x3, .int x4, .int x5] z11.2)) fun z13 =>
        if z13.1 = 0 then
         AMV sa d 67 92 [.ref x0, .int x1, .int x2, .int x3, .int x4, .int x5] [] z13.2
        else
         aOp (aFP z13.2 x0 7 9 (.int 0)) fun h14 =>
         aOp (aFR h14 x0 7 0) fun v15 =>
         aOp (aCl h14 v15 3) fun _ =>
         aOp (aRV (AMC sa d 31 [.ref v15, .int x1, .int x2, .int x3, .int x4, .int x5] h14)) fun h16 =>
         some (some (.int x5), h16)
     else
      AMV sa d 67 39 [.ref x0, .int x1, .int x2, .int x3, .int x4, .int x5] [] z6.2
    else
     AMV sa d 67 39 [.ref x0, .int x1, .int x2, .int x3, .int x4, .int x5] [] z4.2 :=
  (AMV_T sa d 67 (fun pc => Nat.beq pc 39 || Nat.beq pc 92) 50 _ _ _ h).trans rfl
set_option maxRecDepth 100000 in
theorem eX7_copy_39 (sa : Nat → Nat) (d : Nat) (x0 : Nat) (x1 : Int32) (x2 : Int32) (x3 : Int32) (x4 : Int32) (x5 : Int32) (h : AH) : AMV sa d 67 39 [.ref x0, .int x1, .int x2, .int x3, .int x4, .int x5] [] h =
  aOp (aCl h x0 7) fun _ =>
  aOp (aRI (AMC sa d 99 [.ref x0, .int 1] h)) fun z1 =>
  some (some (.int z1.1), z1.2) :=
  (AMV_T sa d 67 (fun pc => Nat.beq pc 39 || Nat.beq pc 92) 5 _ _ _ h).trans rfl
set_option maxRecDepth 100000 in
theorem eX7_copy_92 (sa : Nat → Nat) (d : Nat) (x0 : Nat) (x1 : Int32) (x2 : Int32) (x3 : Int32) (x4 : Int32) (x5 : Int32) (h : AH) : AMV sa d 67 92 [.ref x0, .int x1, .int x2, .int x3, .int x4, .int x5] [] h =
  aOp (aCl h x0 7) fun _ =>
  aOp (aRI (AMC sa d 99 [.ref x0, .int 2] h)) fun z1 =>
  some (some (.int z1.1), z1.2) :=
  (AMV_T sa d 67 (fun pc => Nat.beq pc 39 || Nat.beq pc 92) 5 _ _ _ h).trans rfl
set_option maxRecDepth 100000 in
theorem eX7_drop_0 (sa : Nat → Nat) (d : Nat) (x0 : Nat) (x1 : Int32) (h : AH) : AMV sa d 68 0 [.ref x0, .int x1] [] h =
  aOp (aRI (AMC sa d 23 [.int x1] h)) fun z1 =>
  if z1.1 = 0 then
   some (some (.int (-1000001)), z1.2)
  else
   aOp (aFR z1.2 x0 7 0) fun v2 =>
   aOp (aCl z1.2 v2 3) fun _ =>
   aOp (aRI (AMC sa d 25 [.ref v2, .int x1] z1.2)) fun z3 =>
   if z3.1 = 0 then
    aOp (aFP z3.2 x0 7 9 (.int 0)) fun h4 =>
    aOp (aFR h4 x0 7 0) fun v5 =>
    aOp (aCl h4 v5 3) fun _ =>
    aOp (aRI (AMC sa d 32 [.ref v5, .int x1] h4)) fun z6 =>
    some (some (.int z6.1), z6.2)
   else
    aOp (aCl z3.2 x0 7) fun _ =>
    aOp (aRI (AMC sa d 99 [.ref x0, .int 1] z3.2)) fun z7 =>
    some (some (.int z7.1), z7.2) :=
  (AMV_T sa d 68 (fun pc => false) 17 _ _ _ h).trans rfl
set_option maxRecDepth 100000 in
theorem eX7_feed_0 (sa : Nat → Nat) (d : Nat) (x0 : Nat) (x1 : Int32) (h : AH) : AMV sa d 69 0 [.ref x0, .int x1] [] h =
  aOp (aRI (AMC sa d 103 [.int x1, .int 0, .int 255] h)) fun z1 =>
  if z1.1 = 0 then
   aOp (aFR z1.2 x0 7 1) fun v2 =>
   aOp (aCl z1.2 v2 5) fun _ =>
   aOp (aRI (AMC sa d 50 [.ref v2] z1.2)) fun z3 =>
   if z3.1 = 0 then
    aOp (aFR z3.2 x0 7 1) fun v4 =>
    aOp (aCl z3.2 v4 5) fun _ =>
    aOp (aRI (AMC sa d 51 [.ref v4, .int x1] z3.2)) fun z5 =>
    some (some (.int z5.1), z5.2)
   else
    some (some (.int (-1000003)), z3.2)
  else
   some (some (.int (-1000001)), z1.2) :=
  (AMV_T sa d 69 (fun pc => false) 15 _ _ _ h).trans rfl
set_option maxRecDepth 100000 in
theorem eX7_post_0 (sa : Nat → Nat) (d : Nat) (x0 : Nat) (h : AH) : AMV sa d 70 0 [.ref x0] [] h =
  aOp (aFR h x0 7 1) fun v1 =>
  aOp (aFR h x0 7 2) fun v2 =>
  aOp (aCl h v1 5) fun _ =>
  aOp (aRI (AMC sa d 52 [.ref v1, .ref v2] h)) fun z3 =>
  if z3.1 = 0 then
   aOp (aFR z3.2 x0 7 1) fun v4 =>
   aOp (aFI z3.2 v4 5 5) fun v5 =>
   aOp (aFP z3.2 x0 7 8 (.int v5)) fun h6 =>
   aOp (aFR h6 x0 7 1) fun v7 =>
   aOp (aFI h6 v7 5 6) fun v8 =>
   some (some (.int ((-1000100) - v8)), h6)
  else
   aOp (aFR z3.2 x0 7 3) fun v9 =>
   aOp (aFR z3.2 x0 7 2) fun v10 =>
   aOp (aCl z3.2 v9 2) fun _ =>
   aOp (aRV (AMC sa d 12 [.ref v9, .ref v10] z3.2)) fun h11 =>
   aOp (aFR h11 x0 7 5) fun v12 =>
   aOp (aCl h11 v12 0) fun _ =>
   aOp (aRV (AMC sa d 1 [.ref v12] h11)) fun h13 =>
   aOp (aFR h13 x0 7 3) fun v14 =>
   aOp (aFI h13 v14 2 4) fun v15 =>
   some (some (.int v15), h13) :=
  (AMV_T sa d 70 (fun pc => false) 19 _ _ _ h).trans rfl
set_option maxRecDepth 100000 in
theorem eX7_fault_0 (sa : Nat → Nat) (d : Nat) (x0 : Nat) (h : AH) : AMV sa d 71 0 [.ref x0] [] h =
  aOp (aFI h x0 7 8) fun v1 =>
  some (some (.int v1), h) :=
  (AMV_T sa d 71 (fun pc => false) 4 _ _ _ h).trans rfl
set_option maxRecDepth 100000 in
theorem eX7_days_0 (sa : Nat → Nat) (d : Nat) (x0 : Nat) (x1 : Int32) (h : AH) : AMV sa d 72 0 [.ref x0, .int x1, .null] [] h =
  aOp (aCl h x0 7) fun _ =>
  aOp (aRI (AMC sa d 100 [.ref x0] h)) fun z1 =>
  if z1.1 = 0 then
   aOp (aRI (AMC sa d 103 [.int x1, .int 1, .int 24] z1.2)) fun z2 =>
   if z2.1 = 0 then
    aOp (aFR z2.2 x0 7 3) fun v3 =>
    aOp (aFI z2.2 v3 2 8) fun v4 =>
    AMV sa d 72 35 [.ref x0, .int x1, .null] [.int (9999 - v4), .int x1] z2.2
   else
    some (some (.int (-1000001)), z2.2)
  else
   some (some (.int (-1000002)), z1.2) :=
  (AMV_T sa d 72 (fun pc => Nat.beq pc 35 || Nat.beq pc 43) 15 _ _ _ h).trans rfl
set_option maxRecDepth 100000 in
theorem eX7_days_35 (sa : Nat → Nat) (d : Nat) (x0 : Nat) (x1 : Int32) (s0 : Int32) (s1 : Int32) (h : AH) : AMV sa d 72 35 [.ref x0, .int x1, .null] [.int s1, .int s0] h =
  if s0 ≤ s1 then
   AMV sa d 72 43 [.ref x0, .int x1, .int 0] [] h
  else
   some (some (.int (-1000003)), h) :=
  (AMV_T sa d 72 (fun pc => Nat.beq pc 35 || Nat.beq pc 43) 4 _ _ _ h).trans rfl
set_option maxRecDepth 100000 in
theorem eX7_days_43 (sa : Nat → Nat) (d : Nat) (x0 : Nat) (x1 : Int32) (x2 : Int32) (h : AH) : AMV sa d 72 43 [.ref x0, .int x1, .int x2] [] h =
  if x1 ≤ x2 then
   aOp (aFR h x0 7 3) fun v1 =>
   aOp (aFI h v1 2 5) fun v2 =>
   some (some (.int v2), h)
  else
   aOp (aFR h x0 7 5) fun v3 =>
   aOp (aFR h x0 7 3) fun v4 =>
   aOp (aCl h v3 0) fun _ =>
   aOp (aRV (AMC sa d 2 [.ref v3, .ref v4] h)) fun h5 =>
   aOp (aFR h5 x0 7 3) fun v6 =>
   aOp (aCl h5 v6 2) fun _ =>
   aOp (aRI (AMC sa d 20 [.ref v6] h5)) fun z7 =>
   AMV sa d 72 43 [.ref x0, .int x1, .int (x2 + 1)] [] z7.2 :=
  (AMV_T sa d 72 (fun pc => Nat.beq pc 35 || Nat.beq pc 43) 15 _ _ _ h).trans rfl
set_option maxRecDepth 100000 in
theorem eX7_say_0 (sa : Nat → Nat) (d : Nat) (x0 : Nat) (x1 : Int32) (x2 : Int32) (h : AH) : AMV sa d 73 0 [.ref x0, .int x1, .int x2] [] h =
  aOp (aCl h x0 7) fun _ =>
  aOp (aRI (AMC sa d 101 [.ref x0, .int x1] h)) fun z1 =>
  if z1.1 = 0 then
   aOp (aCl z1.2 x0 7) fun _ =>
   aOp (aRI (AMC sa d 102 [.ref x0, .int x2] z1.2)) fun z2 =>
   if z2.1 = 0 then
    aOp (aFR z2.2 x0 7 3) fun v3 =>
    aOp (aCl z2.2 v3 2) fun _ =>
    aOp (aRI (AMC sa d 15 [.ref v3, .int x1] z2.2)) fun z4 =>
    if (z4.1 >>> (x2 &&& 31)) &&& 1 = 0 then
     some (some (.int (-1000002)), z4.2)
    else
     aOp (aFR z4.2 x0 7 5) fun v5 =>
     aOp (aFR z4.2 x0 7 3) fun v6 =>
     aOp (aCl z4.2 v5 0) fun _ =>
     aOp (aRV (AMC sa d 2 [.ref v5, .ref v6] z4.2)) fun h7 =>
     aOp (aFR h7 x0 7 3) fun v8 =>
     aOp (aFR h7 v8 2 2) fun v9 =>
     aOp (aIL h7 v9 x1) fun v10 =>
     aOp (aIS h7 v9 x1 (v10 ||| (1 <<< (x2 &&& 31)))) fun h11 =>
     aOp (aFR h11 x0 7 3) fun v12 =>
     aOp (aCl h11 v12 2) fun _ =>
     aOp (aRI (AMC sa d 16 [.ref v12, .int x1] h11)) fun z13 =>
     some (some (.int z13.1), z13.2)
   else
    some (some (.int (-1000001)), z2.2)
  else
   some (some (.int (-1000001)), z1.2) :=
  (AMV_T sa d 73 (fun pc => false) 39 _ _ _ h).trans rfl
set_option maxRecDepth 100000 in
theorem eX7_unsay_0 (sa : Nat → Nat) (d : Nat) (x0 : Nat) (x1 : Int32) (x2 : Int32) (h : AH) : AMV sa d 74 0 [.ref x0, .int x1, .int x2] [] h =
  aOp (aCl h x0 7) fun _ =>
  aOp (aRI (AMC sa d 101 [.ref x0, .int x1] h)) fun z1 =>
  if z1.1 = 0 then
   aOp (aCl z1.2 x0 7) fun _ =>
   aOp (aRI (AMC sa d 102 [.ref x0, .int x2] z1.2)) fun z2 =>
   if z2.1 = 0 then
    aOp (aFR z2.2 x0 7 3) fun v3 =>
    aOp (aFR z2.2 v3 2 2) fun v4 =>
    aOp (aIL z2.2 v4 x1) fun v5 =>
    if (v5 >>> (x2 &&& 31)) &&& 1 = 0 then
     some (some (.int (-1000002)), z2.2)
    else
     aOp (aFR z2.2 x0 7 5) fun v6 =>
     aOp (aFR z2.2 x0 7 3) fun v7 =>
     aOp (aCl z2.2 v6 0) fun _ =>
     aOp (aRV (AMC sa d 2 [.ref v6, .ref v7] z2.2)) fun h8 =>
     aOp (aFR h8 x0 7 3) fun v9 =>
     aOp (aFR h8 v9 2 2) fun v10 =>
     aOp (aIL h8 v10 x1) fun v11 =>
     aOp (aIS h8 v10 x1 (v11 &&& ((1 <<< (x2 &&& 31)) ^^^ (-1)))) fun h12 =>
     aOp (aFR h12 x0 7 3) fun v13 =>
     aOp (aCl h12 v13 2) fun _ =>
     aOp (aRI (AMC sa d 16 [.ref v13, .int x1] h12)) fun z14 =>
     some (some (.int z14.1), z14.2)
   else
    some (some (.int (-1000001)), z2.2)
  else
   some (some (.int (-1000001)), z1.2) :=
  (AMV_T sa d 74 (fun pc => false) 42 _ _ _ h).trans rfl
set_option maxRecDepth 100000 in
theorem eX7_back_0 (sa : Nat → Nat) (d : Nat) (x0 : Nat) (x1 : Int32) (h : AH) : AMV sa d 75 0 [.ref x0, .int x1] [] h =
  aOp (aCl h x0 7) fun _ =>
  aOp (aRI (AMC sa d 101 [.ref x0, .int x1] h)) fun z1 =>
  if z1.1 = 0 then
   aOp (aFR z1.2 x0 7 3) fun v2 =>
   aOp (aCl z1.2 v2 2) fun _ =>
   aOp (aRI (AMC sa d 13 [.ref v2, .int x1] z1.2)) fun z3 =>
   if z3.1 = 0 then
    aOp (aFR z3.2 x0 7 5) fun v4 =>
    aOp (aFR z3.2 x0 7 3) fun v5 =>
    aOp (aCl z3.2 v4 0) fun _ =>
    aOp (aRV (AMC sa d 2 [.ref v4, .ref v5] z3.2)) fun h6 =>
    aOp (aFR h6 x0 7 3) fun v7 =>
    aOp (aCl h6 v7 2) fun _ =>
    aOp (aRV (AMC sa d 14 [.ref v7, .int x1] h6)) fun h8 =>
    aOp (aFR h8 x0 7 3) fun v9 =>
    aOp (aCl h8 v9 2) fun _ =>
    aOp (aRI (AMC sa d 16 [.ref v9, .int x1] h8)) fun z10 =>
    some (some (.int z10.1), z10.2)
   else
    some (some (.int (-1000002)), z3.2)
  else
   some (some (.int (-1000001)), z1.2) :=
  (AMV_T sa d 75 (fun pc => false) 24 _ _ _ h).trans rfl
set_option maxRecDepth 100000 in
theorem eX7_strap_0 (sa : Nat → Nat) (d : Nat) (x0 : Nat) (x1 : Int32) (h : AH) : AMV sa d 76 0 [.ref x0, .int x1, .null] [] h =
  aOp (aCl h x0 7) fun _ =>
  aOp (aRI (AMC sa d 100 [.ref x0] h)) fun z1 =>
  if z1.1 = 0 then
   aOp (aRI (AMC sa d 103 [.int x1, .int 0, .int 99] z1.2)) fun z2 =>
   if z2.1 = 0 then
    aOp (aFR z2.2 x0 7 5) fun v3 =>
    aOp (aFR z2.2 x0 7 3) fun v4 =>
    aOp (aCl z2.2 v3 0) fun _ =>
    aOp (aRV (AMC sa d 2 [.ref v3, .ref v4] z2.2)) fun h5 =>
    aOp (aFR h5 x0 7 3) fun v6 =>
    aOp (aFI h5 v6 2 6) fun v7 =>
    aOp (aFR h5 x0 7 3) fun v8 =>
    aOp (aFP h5 v8 2 6 (.int x1)) fun h9 =>
    some (some (.int v7), h9)
   else
    some (some (.int (-1000001)), z2.2)
  else
   some (some (.int (-1000002)), z1.2) :=
  (AMV_T sa d 76 (fun pc => false) 24 _ _ _ h).trans rfl
set_option maxRecDepth 100000 in
theorem eX7_limit_0 (sa : Nat → Nat) (d : Nat) (x0 : Nat) (x1 : Int32) (h : AH) : AMV sa d 77 0 [.ref x0, .int x1, .null] [] h =
  aOp (aCl h x0 7) fun _ =>
  aOp (aRI (AMC sa d 100 [.ref x0] h)) fun z1 =>
  if z1.1 = 0 then
   aOp (aRI (AMC sa d 103 [.int x1, .int 0, .int 60] z1.2)) fun z2 =>
   if z2.1 = 0 then
    aOp (aFR z2.2 x0 7 5) fun v3 =>
    aOp (aFR z2.2 x0 7 3) fun v4 =>
    aOp (aCl z2.2 v3 0) fun _ =>
    aOp (aRV (AMC sa d 2 [.ref v3, .ref v4] z2.2)) fun h5 =>
    aOp (aFR h5 x0 7 3) fun v6 =>
    aOp (aFI h5 v6 2 7) fun v7 =>
    aOp (aFR h5 x0 7 3) fun v8 =>
    aOp (aFP h5 v8 2 7 (.int x1)) fun h9 =>
    some (some (.int v7), h9)
   else
    some (some (.int (-1000001)), z2.2)
  else
   some (some (.int (-1000002)), z1.2) :=
  (AMV_T sa d 77 (fun pc => false) 24 _ _ _ h).trans rfl
set_option maxRecDepth 100000 in
theorem eX7_undo_0 (sa : Nat → Nat) (d : Nat) (x0 : Nat) (h : AH) : AMV sa d 78 0 [.ref x0] [] h =
  aOp (aFR h x0 7 5) fun v1 =>
  aOp (aFI h v1 0 2) fun v2 =>
  if v2 = 0 then
   some (some (.int (-1000002)), h)
  else
   aOp (aFR h x0 7 5) fun v3 =>
   aOp (aFR h x0 7 3) fun v4 =>
   aOp (aCl h v3 0) fun _ =>
   aOp (aRV (AMC sa d 3 [.ref v3, .ref v4] h)) fun h5 =>
   aOp (aFR h5 x0 7 5) fun v6 =>
   aOp (aFI h5 v6 0 2) fun v7 =>
   some (some (.int v7), h5) :=
  (AMV_T sa d 78 (fun pc => false) 14 _ _ _ h).trans rfl
set_option maxRecDepth 100000 in
theorem eX7_letter_0 (sa : Nat → Nat) (d : Nat) (x0 : Nat) (x1 : Int32) (x2 : Int32) (h : AH) : AMV sa d 79 0 [.ref x0, .int x1, .int x2] [] h =
  aOp (aCl h x0 7) fun _ =>
  aOp (aRI (AMC sa d 101 [.ref x0, .int x1] h)) fun z1 =>
  if z1.1 = 0 then
   if x2 = 0 then
    aOp (aFR z1.2 x0 7 3) fun v2 =>
    aOp (aFR z1.2 v2 2 1) fun v3 =>
    aOp (aIL z1.2 v3 x1) fun v4 =>
    some (some (.int v4), z1.2)
   else
   if x2 = 1 then
    aOp (aFR z1.2 x0 7 3) fun v5 =>
    aOp (aFR z1.2 v5 2 2) fun v6 =>
    aOp (aIL z1.2 v6 x1) fun v7 =>
    some (some (.int v7), z1.2)
   else
   if x2 = 2 then
    aOp (aFR z1.2 x0 7 3) fun v8 =>
    aOp (aCl z1.2 v8 2) fun _ =>
    aOp (aRI (AMC sa d 15 [.ref v8, .int x1] z1.2)) fun z9 =>
    some (some (.int z9.1), z9.2)
   else
   if x2 = 3 then
    aOp (aFR z1.2 x0 7 3) fun v10 =>
    aOp (aCl z1.2 v10 2) fun _ =>
    aOp (aRI (AMC sa d 16 [.ref v10, .int x1] z1.2)) fun z11 =>
    some (some (.int z11.1), z11.2)
   else
   if x2 = 4 then
    aOp (aFR z1.2 x0 7 3) fun v12 =>
    aOp (aCl z1.2 v12 2) fun _ =>
    aOp (aRI (AMC sa d 13 [.ref v12, .int x1] z1.2)) fun z13 =>
    if z13.1 = 0 then
     some (some (.int 0), z13.2)
    else
     some (some (.int 1), z13.2)
   else
   if x2 = 5 then
    aOp (aFR z1.2 x0 7 3) fun v14 =>
    aOp (aCl z1.2 v14 2) fun _ =>
    aOp (aRI (AMC sa d 19 [.ref v14, .int x1] z1.2)) fun z15 =>
    some (some (.int z15.1), z15.2)
   else
   some (some (.int (-1000001)), z1.2)
  else
   some (some (.int (-1000001)), z1.2) :=
  (AMV_T sa d 79 (fun pc => false) 15 _ _ _ h).trans rfl
set_option maxRecDepth 100000 in
theorem eX7_ounces_0 (sa : Nat → Nat) (d : Nat) (x0 : Nat) (x1 : Int32) (h : AH) : AMV sa d 80 0 [.ref x0, .int x1] [] h =
  aOp (aCl h x0 7) fun _ =>
  aOp (aRI (AMC sa d 102 [.ref x0, .int x1] h)) fun z1 =>
  if z1.1 = 0 then
   aOp (aFR z1.2 x0 7 3) fun v2 =>
   aOp (aFR z1.2 v2 2 3) fun v3 =>
   aOp (aFR z1.2 v3 6 1) fun v4 =>
   aOp (aIL z1.2 v4 (1 <<< (x1 &&& 31))) fun v5 =>
   some (some (.int v5), z1.2)
  else
   some (some (.int (-1000001)), z1.2) :=
  (AMV_T sa d 80 (fun pc => false) 14 _ _ _ h).trans rfl
set_option maxRecDepth 100000 in
theorem eX7_ahead_0 (sa : Nat → Nat) (d : Nat) (x0 : Nat) (x1 : Int32) (x2 : Int32) (x3 : Int32) (h : AH) : AMV sa d 81 0 [.ref x0, .int x1, .int x2, .int x3, .null] [] h =
  aOp (aCl h x0 7) fun _ =>
  aOp (aRI (AMC sa d 101 [.ref x0, .int x1] h)) fun z1 =>
  if z1.1 = 0 then
   aOp (aRI (AMC sa d 103 [.int x2, .int 0, .int 60] z1.2)) fun z2 =>
   if z2.1 = 0 then
    aOp (aRI (AMC sa d 103 [.int x3, .int 0, .int 1] z2.2)) fun z3 =>
    if z3.1 = 0 then
     aOp (aFR z3.2 x0 7 6) fun v4 =>
     aOp (aFR z3.2 x0 7 3) fun v5 =>
     aOp (aCl z3.2 v4 4) fun _ =>
     aOp (aRR (AMC sa d 35 [.ref v4, .ref v5, .int x2] z3.2)) fun z6 =>
     if x3 = 0 then
      aOp (aCl z6.2 z6.1 2) fun _ =>
      aOp (aRI (AMC sa d 16 [.ref z6.1, .int x1] z6.2)) fun z7 =>
      some (some (.int z7.1), z7.2)
     else
      aOp (aFR z6.2 z6.1 2 2) fun v8 =>
      aOp (aIL z6.2 v8 x1) fun v9 =>
      some (some (.int v9), z6.2)
    else
     some (some (.int (-1000001)), z3.2)
   else
    some (some (.int (-1000001)), z2.2)
  else
   some (some (.int (-1000001)), z1.2) :=
  (AMV_T sa d 81 (fun pc => false) 29 _ _ _ h).trans rfl
set_option maxRecDepth 100000 in
theorem eX7_later_0 (sa : Nat → Nat) (d : Nat) (x0 : Nat) (x1 : Int32) (x2 : Int32) (h : AH) : AMV sa d 82 0 [.ref x0, .int x1, .int x2, .null] [] h =
  aOp (aCl h x0 7) fun _ =>
  aOp (aRI (AMC sa d 100 [.ref x0] h)) fun z1 =>
  if z1.1 = 0 then
   aOp (aRI (AMC sa d 103 [.int x1, .int 0, .int 60] z1.2)) fun z2 =>
   if z2.1 = 0 then
    aOp (aRI (AMC sa d 103 [.int x2, .int 0, .int 1] z2.2)) fun z3 =>
    if z3.1 = 0 then
     aOp (aFR z3.2 x0 7 6) fun v4 =>
     aOp (aFR z3.2 x0 7 3) fun v5 =>
     aOp (aCl z3.2 v4 4) fun _ =>
     aOp (aRR (AMC sa d 35 [.ref v4, .ref v5, .int x1] z3.2)) fun z6 =>
     if x2 = 0 then
      aOp (aFI z6.2 z6.1 2 5) fun v7 =>
      some (some (.int v7), z6.2)
     else
      aOp (aFI z6.2 z6.1 2 9) fun v8 =>
      some (some (.int v8), z6.2)
    else
     some (some (.int (-1000001)), z3.2)
   else
    some (some (.int (-1000001)), z2.2)
  else
   some (some (.int (-1000002)), z1.2) :=
  (AMV_T sa d 82 (fun pc => false) 27 _ _ _ h).trans rfl
set_option maxRecDepth 100000 in
theorem eX7_when_0 (sa : Nat → Nat) (d : Nat) (x0 : Nat) (x1 : Int32) (h : AH) : AMV sa d 83 0 [.ref x0, .int x1] [] h =
  aOp (aCl h x0 7) fun _ =>
  aOp (aRI (AMC sa d 101 [.ref x0, .int x1] h)) fun z1 =>
  if z1.1 = 0 then
   aOp (aFR z1.2 x0 7 6) fun v2 =>
   aOp (aFR z1.2 x0 7 3) fun v3 =>
   aOp (aCl z1.2 v2 4) fun _ =>
   aOp (aRI (AMC sa d 36 [.ref v2, .ref v3, .int x1] z1.2)) fun z4 =>
   some (some (.int z4.1), z4.2)
  else
   some (some (.int (-1000001)), z1.2) :=
  (AMV_T sa d 83 (fun pc => false) 12 _ _ _ h).trans rfl
set_option maxRecDepth 100000 in
theorem eX7_lighten_0 (sa : Nat → Nat) (d : Nat) (x0 : Nat) (x1 : Int32) (x2 : Int32) (x3 : Int32) (h : AH) : AMV sa d 84 0 [.ref x0, .int x1, .int x2, .int x3, .null] [] h =
  aOp (aCl h x0 7) fun _ =>
  aOp (aRI (AMC sa d 101 [.ref x0, .int x1] h)) fun z1 =>
  if z1.1 = 0 then
   aOp (aRI (AMC sa d 103 [.int x2, .int 0, .int 99] z1.2)) fun z2 =>
   if z2.1 = 0 then
    aOp (aRI (AMC sa d 103 [.int x3, .int 0, .int 1] z2.2)) fun z3 =>
    if z3.1 = 0 then
     aOp (aFR z3.2 x0 7 6) fun v4 =>
     aOp (aFR z3.2 x0 7 3) fun v5 =>
     aOp (aCl z3.2 v4 4) fun _ =>
     aOp (aRI (AMC sa d 37 [.ref v4, .ref v5, .int x1, .int x2] z3.2)) fun z6 =>
     if z6.1 = (-1000000) then
      some (some (.int z6.1), z6.2)
     else
      if x3 = 1 then
       some (some (.int z6.1), z6.2)
      else
       aOp (aRI (AMC sa d 185 [.int z6.1] z6.2)) fun z7 =>
       some (some (.int z7.1), z7.2)
    else
     some (some (.int (-1000001)), z3.2)
   else
    some (some (.int (-1000001)), z2.2)
  else
   some (some (.int (-1000001)), z1.2) :=
  (AMV_T sa d 84 (fun pc => false) 32 _ _ _ h).trans rfl
set_option maxRecDepth 100000 in
theorem eX7_guess_0 (sa : Nat → Nat) (d : Nat) (x0 : Nat) (x1 : Int32) (x2 : Int32) (h : AH) : AMV sa d 85 0 [.ref x0, .int x1, .int x2] [] h =
  aOp (aCl h x0 7) fun _ =>
  aOp (aRI (AMC sa d 101 [.ref x0, .int x1] h)) fun z1 =>
  if z1.1 = 0 then
   aOp (aRI (AMC sa d 103 [.int x2, .int 0, .int 1] z1.2)) fun z2 =>
   if z2.1 = 0 then
    aOp (aFR z2.2 x0 7 6) fun v3 =>
    aOp (aFR z2.2 x0 7 3) fun v4 =>
    aOp (aCl z2.2 v3 4) fun _ =>
    aOp (aRI (AMC sa d 39 [.ref v3, .ref v4, .int x1, .int x2] z2.2)) fun z5 =>
    some (some (.int z5.1), z5.2)
   else
    some (some (.int (-1000001)), z2.2)
  else
   some (some (.int (-1000001)), z1.2) :=
  (AMV_T sa d 85 (fun pc => false) 18 _ _ _ h).trans rfl
set_option maxRecDepth 100000 in
theorem eX7_load_0 (sa : Nat → Nat) (d : Nat) (x0 : Nat) (x1 : Int32) (x2 : Int32) (h : AH) : AMV sa d 86 0 [.ref x0, .int x1, .int x2, .null] [] h =
  aOp (aCl h x0 7) fun _ =>
  aOp (aRI (AMC sa d 100 [.ref x0] h)) fun z1 =>
  if z1.1 = 0 then
   aOp (aRI (AMC sa d 103 [.int x1, .int 0, .int 99] z1.2)) fun z2 =>
   if z2.1 = 0 then
    aOp (aRI (AMC sa d 103 [.int x2, .int 0, .int 1] z2.2)) fun z3 =>
    if z3.1 = 0 then
     aOp (aFR z3.2 x0 7 6) fun v4 =>
     aOp (aFR z3.2 x0 7 3) fun v5 =>
     aOp (aCl z3.2 v4 4) fun _ =>
     aOp (aRI (AMC sa d 40 [.ref v4, .ref v5, .int x1] z3.2)) fun z6 =>
     if x2 = 0 then
      some (some (.int z6.1), z6.2)
     else
      aOp (aFR z6.2 x0 7 3) fun v7 =>
      aOp (aCl z6.2 v7 2) fun _ =>
      aOp (aRI (AMC sa d 18 [.ref v7, .int z6.1] z6.2)) fun z8 =>
      some (some (.int z8.1), z8.2)
    else
     some (some (.int (-1000001)), z3.2)
   else
    some (some (.int (-1000001)), z2.2)
  else
   some (some (.int (-1000002)), z1.2) :=
  (AMV_T sa d 86 (fun pc => false) 28 _ _ _ h).trans rfl
set_option maxRecDepth 100000 in
theorem eX7_share_0 (sa : Nat → Nat) (d : Nat) (x0 : Nat) (x1 : Int32) (x2 : Int32) (h : AH) : AMV sa d 87 0 [.ref x0, .int x1, .int x2] [] h =
  aOp (aCl h x0 7) fun _ =>
  aOp (aRI (AMC sa d 101 [.ref x0, .int x1] h)) fun z1 =>
  if z1.1 = 0 then
   aOp (aRI (AMC sa d 103 [.int x2, .int 0, .int 999] z1.2)) fun z2 =>
   if z2.1 = 0 then
    aOp (aFR z2.2 x0 7 6) fun v3 =>
    aOp (aFR z2.2 x0 7 3) fun v4 =>
    aOp (aCl z2.2 v3 4) fun _ =>
    aOp (aRI (AMC sa d 41 [.ref v3, .ref v4, .int x1, .int x2] z2.2)) fun z5 =>
    some (some (.int z5.1), z5.2)
   else
    some (some (.int (-1000001)), z2.2)
  else
   some (some (.int (-1000001)), z1.2) :=
  (AMV_T sa d 87 (fun pc => false) 18 _ _ _ h).trans rfl
set_option maxRecDepth 100000 in
theorem eX7_fits_0 (sa : Nat → Nat) (d : Nat) (x0 : Nat) (x1 : Int32) (x2 : Int32) (x3 : Int32) (x4 : Int32) (x5 : Int32) (h : AH) : AMV sa d 88 0 [.ref x0, .int x1, .int x2, .int x3, .int x4, .int x5] [] h =
  aOp (aCl h x0 7) fun _ =>
  aOp (aRI (AMC sa d 101 [.ref x0, .int x1] h)) fun z1 =>
  if z1.1 = 0 then
   aOp (aRI (AMC sa d 23 [.int x2] z1.2)) fun z2 =>
   if z2.1 = 0 then
    some (some (.int (-1000001)), z2.2)
   else
    aOp (aRI (AMC sa d 103 [.int x4, .int 1, .int 12] z2.2)) fun z3 =>
    if z3.1 = 0 then
     aOp (aRI (AMC sa d 103 [.int x5, .int 0, .int 4] z3.2)) fun z4 =>
     if z4.1 = 0 then
      aOp (aFR z4.2 x0 7 0) fun v5 =>
      aOp (aCl z4.2 v5 3) fun _ =>
      aOp (aRI (AMC sa d 25 [.ref v5, .int x2] z4.2)) fun z6 =>
      if z6.1 = 0 then
       aOp (aFR z6.2 x0 7 0) fun v7 =>
       aOp (aCl z6.2 v7 3) fun _ =>
       aOp (aRI (AMC sa d 27 [.ref v7, .int x2, .int x3, .int x4] z6.2)) fun z8 =>
       if z8.1 = 0 then
        aOp (aCl z8.2 x0 7) fun _ =>
        aOp (aRI (AMC sa d 99 [.ref x0, .int 2] z8.2)) fun z9 =>
        some (some (.int z9.1), z9.2)
       else
        aOp (aFP z8.2 x0 7 9 (.int 0)) fun h10 =>
        aOp (aFR h10 x0 7 6) fun v11 =>
        aOp (aFR h10 x0 7 0) fun v12 =>
        aOp (aCl h10 v11 4) fun _ =>
        aOp (aRV (AMC sa d 42 [.ref v11, .ref v12, .int x2, .int x3, .int x4] h10)) fun h13 =>
        if x5 = 0 then
         aOp (aFR h13 x0 7 6) fun v14 =>
         aOp (aFR h13 x0 7 3) fun v15 =>
         aOp (aCl h13 v14 4) fun _ =>
         aOp (aRI (AMC sa d 44 [.ref v14, .ref v15, .int x1] h13)) fun z16 =>
         some (some (.int z16.1), z16.2)
        else
        if x5 = 1 then
         aOp (aFR h13 x0 7 6) fun v17 =>
         aOp (aFR h13 x0 7 3) fun v18 =>
         aOp (aCl h13 v17 4) fun _ =>
         aOp (aRI (AMC sa d 45 [.ref v17, .ref v18, .int x1, .int 0] h13)) fun z19 =>
         some (some (.int z19.1), z19.2)
        else
        if x5 = 2 then
         aOp (aFR h13 x0 7 6) fun v20 =>
         aOp (aFR h13 x0 7 3) fun v21 =>
         aOp (aCl h13 v20 4) fun _ =>
         aOp (aRI (AMC sa d 45 [.ref v20, .ref v21, .int x1, .int 1] h13)) fun z22 =>
         some (some (.int z22.1), z22.2)
        else
        if x5 = 3 then
         aOp (aFR h13 x0 7 6) fun v23 =>
         aOp (aFR h13 x0 7 3) fun v24 =>
         aOp (aCl h13 v23 4) fun _ =>
         aOp (aRI (AMC sa d 46 [.ref v23, .ref v24, .int x1, .int 0] h13)) fun z25 =>
         some (some (.int z25.1), z25.2)
        else
        aOp (aFR h13 x0 7 6) fun v26 =>
        aOp (aFR h13 x0 7 3) fun v27 =>
        aOp (aCl h13 v26 4) fun _ =>
        aOp (aRI (AMC sa d 46 [.ref v26, .ref v27, .int x1, .int 1] h13)) fun z28 =>
        some (some (.int z28.1), z28.2)
      else
       aOp (aCl z6.2 x0 7) fun _ =>
       aOp (aRI (AMC sa d 99 [.ref x0, .int 1] z6.2)) fun z29 =>
       some (some (.int z29.1), z29.2)
     else
      some (some (.int (-1000001)), z4.2)
    else
     some (some (.int (-1000001)), z3.2)
  else
   some (some (.int (-1000001)), z1.2) :=
  (AMV_T sa d 88 (fun pc => false) 51 _ _ _ h).trans rfl
set_option maxRecDepth 100000 in
theorem eX7_slips_0 (sa : Nat → Nat) (d : Nat) (x0 : Nat) (x1 : Int32) (x2 : Int32) (x3 : Int32) (x4 : Int32) (x5 : Int32) (h : AH) : AMV sa d 89 0 [.ref x0, .int x1, .int x2, .int x3, .int x4, .int x5, .null, .null, .null] [] h =
  aOp (aCl h x0 7) fun _ =>
  aOp (aRI (AMC sa d 101 [.ref x0, .int x1] h)) fun z1 =>
  if z1.1 = 0 then
   aOp (aRI (AMC sa d 103 [.int x2, .int 0, .int 99] z1.2)) fun z2 =>
   if z2.1 = 0 then
    aOp (aRI (AMC sa d 103 [.int x3, .int 0, .int 30] z2.2)) fun z3 =>
    if z3.1 = 0 then
     aOp (aRI (AMC sa d 103 [.int x4, .int 0, .int 10] z3.2)) fun z4 =>
     if z4.1 = 0 then
      aOp (aRI (AMC sa d 103 [.int x5, .int 0, .int 1] z4.2)) fun z5 =>
      if z5.1 = 0 then
       aOp (aFR z5.2 x0 7 6) fun v6 =>
       aOp (aFR z5.2 x0 7 3) fun v7 =>
       aOp (aCl z5.2 v6 4) fun _ =>
       aOp (aRI (AMC sa d 47 [.ref v6, .ref v7, .int x1, .int x2, .int x3, .int x4] z5.2)) fun z8 =>
       aOp (aFR z8.2 x0 7 3) fun v9 =>
       aOp (aCl z8.2 v9 2) fun _ =>
       aOp (aRI (AMC sa d 15 [.ref v9, .int x1] z8.2)) fun z10 =>
       aOp (aRI (AMC sa d 185 [.int z10.1] z10.2)) fun z11 =>
       aOp (aRI (AMC sa d 104 [.int 10, .int z11.1] z11.2)) fun z12 =>
       aOp (aRI (AMC sa d 105 [.int z12.1, .int z8.1] z12.2)) fun z13 =>
       if x5 = 0 then
        AMV sa d 89 109 [.ref x0, .int x1, .int x2, .int x3, .int x4, .int x5, .int z8.1, .int z12.1, .int z13.1] [.int z8.1] z13.2
       else
        AMV sa d 89 109 [.ref x0, .int x1, .int x2, .int x3, .int x4, .int x5, .int z8.1, .int z12.1, .int z13.1] [.int z12.1] z13.2
      else
       some (some (.int (-1000001)), z5.2)
     else
      some (some (.int (-1000001)), z4.2)
    else
     some (some (.int (-1000001)), z3.2)
   else
    some (some (.int (-1000001)), z2.2)
  else
   some (some (.int (-1000001)), z1.2) :=
  (AMV_T sa d 89 (fun pc => Nat.beq pc 109) 51 _ _ _ h).trans rfl
set_option maxRecDepth 100000 in
theorem eX7_slips_109 (sa : Nat → Nat) (d : Nat) (x0 : Nat) (x1 : Int32) (x2 : Int32) (x3 : Int32) (x4 : Int32) (x5 : Int32) (x6 : Int32) (x7 : Int32) (x8 : Int32) (s0 : Int32) (h : AH) : AMV sa d 89 109 [.ref x0, .int x1, .int x2, .int x3, .int x4, .int x5, .int x6, .int x7, .int x8] [.int s0] h =
  if x8 = 0 then
   some (some (.int (s0 / 1)), h)
  else
   if x8 = 0 then none else
   some (some (.int (s0 / x8)), h) :=
  (AMV_T sa d 89 (fun pc => Nat.beq pc 109) 7 _ _ _ h).trans rfl
set_option maxRecDepth 100000 in
theorem eX7_drawn_0 (sa : Nat → Nat) (d : Nat) (x0 : Nat) (x1 : Int32) (x2 : Int32) (x3 : Int32) (h : AH) : AMV sa d 90 0 [.ref x0, .int x1, .int x2, .int x3, .null] [] h =
  aOp (aCl h x0 7) fun _ =>
  aOp (aRI (AMC sa d 100 [.ref x0] h)) fun z1 =>
  if z1.1 = 0 then
   aOp (aRI (AMC sa d 103 [.int x1, .int 0, .int 60] z1.2)) fun z2 =>
   if z2.1 = 0 then
    aOp (aRI (AMC sa d 103 [.int x2, .int 1, .int 999999] z2.2)) fun z3 =>
    if z3.1 = 0 then
     aOp (aRI (AMC sa d 103 [.int x3, .int 0, .int 1] z3.2)) fun z4 =>
     if z4.1 = 0 then
      aOp (aFR z4.2 x0 7 6) fun v5 =>
      aOp (aFR z4.2 x0 7 3) fun v6 =>
      aOp (aCl z4.2 v5 4) fun _ =>
      aOp (aRR (AMC sa d 48 [.ref v5, .ref v6, .int x1, .int x2] z4.2)) fun z7 =>
      if x3 = 0 then
       aOp (aFI z7.2 z7.1 2 9) fun v8 =>
       aOp (aFR z7.2 x0 7 3) fun v9 =>
       aOp (aFI z7.2 v9 2 9) fun v10 =>
       some (some (.int (v8 - v10)), z7.2)
      else
       aOp (aFI z7.2 z7.1 2 5) fun v11 =>
       aOp (aRI (AMC sa d 185 [.int v11] z7.2)) fun z12 =>
       some (some (.int z12.1), z12.2)
     else
      some (some (.int (-1000001)), z4.2)
    else
     some (some (.int (-1000001)), z3.2)
   else
    some (some (.int (-1000001)), z2.2)
  else
   some (some (.int (-1000002)), z1.2) :=
  (AMV_T sa d 90 (fun pc => false) 37 _ _ _ h).trans rfl
set_option maxRecDepth 100000 in
theorem eX7_image_0 (sa : Nat → Nat) (d : Nat) (x0 : Nat) (x1 : Int32) (h : AH) : AMV sa d 91 0 [.ref x0, .int x1] [] h =
  aOp (aRI (AMC sa d 103 [.int x1, .int 0, .int 1] h)) fun z1 =>
  if z1.1 = 0 then
   aOp (aCl z1.2 x0 7) fun _ =>
   aOp (aRI (AMC sa d 100 [.ref x0] z1.2)) fun z2 =>
   if z2.1 = 0 then
    aOp (aFR z2.2 x0 7 4) fun v3 =>
    aOp (aRL z2.2 v3 x1) fun v4 =>
    aOp (aFR z2.2 x0 7 3) fun v5 =>
    aOp (aCl z2.2 v4 2) fun _ =>
    aOp (aRV (AMC sa d 12 [.ref v4, .ref v5] z2.2)) fun h6 =>
    some (some (.int 1), h6)
   else
    some (some (.int (-1000002)), z2.2)
  else
   some (some (.int (-1000001)), z1.2) :=
  (AMV_T sa d 91 (fun pc => false) 18 _ _ _ h).trans rfl
set_option maxRecDepth 100000 in
theorem eX7_restore_0 (sa : Nat → Nat) (d : Nat) (x0 : Nat) (x1 : Int32) (h : AH) : AMV sa d 92 0 [.ref x0, .int x1] [] h =
  aOp (aRI (AMC sa d 103 [.int x1, .int 0, .int 1] h)) fun z1 =>
  if z1.1 = 0 then
   aOp (aFR z1.2 x0 7 4) fun v2 =>
   aOp (aRL z1.2 v2 x1) fun v3 =>
   aOp (aFI z1.2 v3 2 4) fun v4 =>
   if v4 = 0 then
    some (some (.int (-1000002)), z1.2)
   else
    aOp (aFR z1.2 x0 7 3) fun v5 =>
    aOp (aFR z1.2 x0 7 4) fun v6 =>
    aOp (aRL z1.2 v6 x1) fun v7 =>
    aOp (aCl z1.2 v5 2) fun _ =>
    aOp (aRV (AMC sa d 12 [.ref v5, .ref v7] z1.2)) fun h8 =>
    aOp (aFR h8 x0 7 5) fun v9 =>
    aOp (aCl h8 v9 0) fun _ =>
    aOp (aRV (AMC sa d 1 [.ref v9] h8)) fun h10 =>
    some (some (.int 1), h10)
  else
   some (some (.int (-1000001)), z1.2) :=
  (AMV_T sa d 92 (fun pc => false) 24 _ _ _ h).trans rfl
set_option maxRecDepth 100000 in
theorem eX7_kind_0 (sa : Nat → Nat) (d : Nat) (x0 : Nat) (x1 : Int32) (h : AH) : AMV sa d 93 0 [.ref x0, .int x1] [] h =
  aOp (aCl h x0 7) fun _ =>
  aOp (aRI (AMC sa d 101 [.ref x0, .int x1] h)) fun z1 =>
  if z1.1 = 0 then
   aOp (aFR z1.2 x0 7 3) fun v2 =>
   aOp (aFR z1.2 v2 2 0) fun v3 =>
   aOp (aIL z1.2 v3 x1) fun v4 =>
   some (some (.int v4), z1.2)
  else
   some (some (.int (-1000001)), z1.2) :=
  (AMV_T sa d 93 (fun pc => false) 11 _ _ _ h).trans rfl
set_option maxRecDepth 100000 in
theorem eX7_as_0 (sa : Nat → Nat) (d : Nat) (x0 : Nat) (x1 : Int32) (x2 : Int32) (h : AH) : AMV sa d 94 0 [.ref x0, .int x1, .int x2] [] h =
  aOp (aCl h x0 7) fun _ =>
  aOp (aRI (AMC sa d 101 [.ref x0, .int x1] h)) fun z1 =>
  if z1.1 = 0 then
   aOp (aRI (AMC sa d 103 [.int x2, .int 0, .int 5] z1.2)) fun z2 =>
   if z2.1 = 0 then
    aOp (aFR z2.2 x0 7 3) fun v3 =>
    aOp (aFR z2.2 v3 2 0) fun v4 =>
    aOp (aIL z2.2 v4 x1) fun v5 =>
    aOp (aRI (AMC sa d 5 [.int v5, .int x2] z2.2)) fun z6 =>
    if z6.1 = 0 then
     aOp (aCl z6.2 x0 7) fun _ =>
     aOp (aRI (AMC sa d 99 [.ref x0, .int 3] z6.2)) fun z7 =>
     some (some (.int z7.1), z7.2)
    else
     aOp (aFP z6.2 x0 7 9 (.int 0)) fun h8 =>
     some (some (.int x1), h8)
   else
    some (some (.int (-1000001)), z2.2)
  else
   some (some (.int (-1000001)), z1.2) :=
  (AMV_T sa d 94 (fun pc => false) 23 _ _ _ h).trans rfl
set_option maxRecDepth 100000 in
theorem eX7_ask_0 (sa : Nat → Nat) (d : Nat) (x0 : Nat) (x1 : Int32) (x2 : Int32) (h : AH) : AMV sa d 95 0 [.ref x0, .int x1, .int x2] [] h =
  aOp (aCl h x0 7) fun _ =>
  aOp (aRI (AMC sa d 101 [.ref x0, .int x1] h)) fun z1 =>
  if z1.1 = 0 then
   aOp (aRI (AMC sa d 103 [.int x2, .int 0, .int 1] z1.2)) fun z2 =>
   if z2.1 = 0 then
    aOp (aFR z2.2 x0 7 7) fun v3 =>
    aOp (aFR z2.2 x0 7 3) fun v4 =>
    aOp (aCl z2.2 v3 1) fun _ =>
    aOp (aRI (AMC sa d 6 [.ref v3, .ref v4, .int x1, .int x2] z2.2)) fun z5 =>
    some (some (.int z5.1), z5.2)
   else
    some (some (.int (-1000001)), z2.2)
  else
   some (some (.int (-1000001)), z1.2) :=
  (AMV_T sa d 95 (fun pc => false) 18 _ _ _ h).trans rfl
set_option maxRecDepth 100000 in
theorem eX7_trace_0 (sa : Nat → Nat) (d : Nat) (x0 : Nat) (x1 : Int32) (h : AH) : AMV sa d 96 0 [.ref x0, .int x1] [] h =
  aOp (aFR h x0 7 7) fun v1 =>
  aOp (aFI h v1 1 1) fun v2 =>
  aOp (aRI (AMC sa d 103 [.int x1, .int 0, .int (v2 - 1)] h)) fun z3 =>
  if z3.1 = 0 then
   aOp (aFR z3.2 x0 7 7) fun v4 =>
   aOp (aFR z3.2 v4 1 0) fun v5 =>
   aOp (aIL z3.2 v5 x1) fun v6 =>
   some (some (.int v6), z3.2)
  else
   some (some (.int (-1000000)), z3.2) :=
  (AMV_T sa d 96 (fun pc => false) 16 _ _ _ h).trans rfl
set_option maxRecDepth 100000 in
theorem eX7_count_0 (sa : Nat → Nat) (d : Nat) (x0 : Nat) (x1 : Int32) (h : AH) : AMV sa d 97 0 [.ref x0, .int x1] [] h =
  if x1 = 0 then
   aOp (aFR h x0 7 0) fun v1 =>
   aOp (aCl h v1 3) fun _ =>
   aOp (aRI (AMC sa d 33 [.ref v1] h)) fun z2 =>
   some (some (.int z2.1), z2.2)
  else
  if x1 = 1 then
   aOp (aFR h x0 7 3) fun v3 =>
   aOp (aFR h v3 2 3) fun v4 =>
   aOp (aFI h v4 6 0) fun v5 =>
   some (some (.int v5), h)
  else
  if x1 = 2 then
   aOp (aFR h x0 7 3) fun v6 =>
   aOp (aFI h v6 2 4) fun v7 =>
   some (some (.int v7), h)
  else
  if x1 = 3 then
   aOp (aFR h x0 7 3) fun v8 =>
   aOp (aFI h v8 2 8) fun v9 =>
   some (some (.int v9), h)
  else
  if x1 = 4 then
   aOp (aFR h x0 7 3) fun v10 =>
   aOp (aFI h v10 2 6) fun v11 =>
   some (some (.int v11), h)
  else
  if x1 = 5 then
   aOp (aFR h x0 7 3) fun v12 =>
   aOp (aFI h v12 2 7) fun v13 =>
   some (some (.int v13), h)
  else
  if x1 = 6 then
   aOp (aFR h x0 7 3) fun v14 =>
   aOp (aFI h v14 2 9) fun v15 =>
   some (some (.int v15), h)
  else
  if x1 = 7 then
   aOp (aFR h x0 7 3) fun v16 =>
   aOp (aFI h v16 2 5) fun v17 =>
   some (some (.int v17), h)
  else
  if x1 = 8 then
   aOp (aFR h x0 7 5) fun v18 =>
   aOp (aFI h v18 0 2) fun v19 =>
   some (some (.int v19), h)
  else
  if x1 = 9 then
   aOp (aFR h x0 7 1) fun v20 =>
   aOp (aFI h v20 5 2) fun v21 =>
   some (some (.int v21), h)
  else
  some (some (.int (-1000001)), h) :=
  (AMV_T sa d 97 (fun pc => false) 8 _ _ _ h).trans rfl
set_option maxRecDepth 100000 in
theorem eX7_status_0 (sa : Nat → Nat) (d : Nat) (x0 : Nat) (h : AH) : AMV sa d 98 0 [.ref x0] [] h =
  aOp (aFI h x0 7 9) fun v1 =>
  some (some (.int v1), h) :=
  (AMV_T sa d 98 (fun pc => false) 4 _ _ _ h).trans rfl
set_option maxRecDepth 100000 in
theorem eX7_found_0 (sa : Nat → Nat) (d : Nat) (x0 : Nat) (x1 : Int32) (h : AH) : AMV sa d 99 0 [.ref x0, .int x1] [] h =
  aOp (aFP h x0 7 9 (.int x1)) fun h1 =>
  some (some (.int ((-1000010) - x1)), h1) :=
  (AMV_T sa d 99 (fun pc => false) 8 _ _ _ h).trans rfl
set_option maxRecDepth 100000 in
theorem eX7_hasNoPost_0 (sa : Nat → Nat) (d : Nat) (x0 : Nat) (h : AH) : AMV sa d 100 0 [.ref x0] [] h =
  aOp (aFR h x0 7 3) fun v1 =>
  aOp (aFI h v1 2 4) fun v2 =>
  if v2 = 0 then
   some (some (.int 1), h)
  else
   some (some (.int 0), h) :=
  (AMV_T sa d 100 (fun pc => false) 8 _ _ _ h).trans rfl
set_option maxRecDepth 100000 in
theorem eX7_hasNo_0 (sa : Nat → Nat) (d : Nat) (x0 : Nat) (x1 : Int32) (h : AH) : AMV sa d 101 0 [.ref x0, .int x1] [] h =
  aOp (aFR h x0 7 3) fun v1 =>
  aOp (aFI h v1 2 4) fun v2 =>
  aOp (aRI (AMC sa d 103 [.int x1, .int 0, .int (v2 - 1)] h)) fun z3 =>
  if z3.1 = 0 ∨ z3.1 = 1 then some (some (.int z3.1), z3.2) else none :=
  (AMV_T sa d 101 (fun pc => false) 10 _ _ _ h).trans rfl
set_option maxRecDepth 100000 in
theorem eX7_hasNoWord_0 (sa : Nat → Nat) (d : Nat) (x0 : Nat) (x1 : Int32) (h : AH) : AMV sa d 102 0 [.ref x0, .int x1] [] h =
  aOp (aFR h x0 7 3) fun v1 =>
  aOp (aFR h v1 2 3) fun v2 =>
  aOp (aFI h v2 6 0) fun v3 =>
  aOp (aRI (AMC sa d 103 [.int x1, .int 0, .int (v3 - 1)] h)) fun z4 =>
  if z4.1 = 0 ∨ z4.1 = 1 then some (some (.int z4.1), z4.2) else none :=
  (AMV_T sa d 102 (fun pc => false) 11 _ _ _ h).trans rfl
set_option maxRecDepth 100000 in
theorem eX7_isOutside_0 (sa : Nat → Nat) (d : Nat) (x0 : Int32) (x1 : Int32) (x2 : Int32) (h : AH) : AMV sa d 103 0 [.int x0, .int x1, .int x2] [] h =
  if x0 < x1 then
   some (some (.int 1), h)
  else
   if x0 ≤ x2 then
    some (some (.int 0), h)
   else
    some (some (.int 1), h) :=
  (AMV_T sa d 103 (fun pc => false) 10 _ _ _ h).trans rfl
set_option maxRecDepth 100000 in
theorem eX7_power_0 (sa : Nat → Nat) (d : Nat) (x0 : Int32) (x1 : Int32) (h : AH) : AMV sa d 104 0 [.int x0, .int x1, .null, .null] [] h =
  AMV sa d 104 4 [.int x0, .int x1, .int 1, .int 0] [] h :=
  (AMV_T sa d 104 (fun pc => Nat.beq pc 4) 5 _ _ _ h).trans rfl
set_option maxRecDepth 100000 in
theorem eX7_power_4 (sa : Nat → Nat) (d : Nat) (x0 : Int32) (x1 : Int32) (x2 : Int32) (x3 : Int32) (h : AH) : AMV sa d 104 4 [.int x0, .int x1, .int x2, .int x3] [] h =
  if x1 ≤ x3 then
   some (some (.int x2), h)
  else
   AMV sa d 104 4 [.int x0, .int x1, .int (x2 * x0), .int (x3 + 1)] [] h :=
  (AMV_T sa d 104 (fun pc => Nat.beq pc 4) 10 _ _ _ h).trans rfl
set_option maxRecDepth 100000 in
theorem eX7_commonDivisor_0 (sa : Nat → Nat) (d : Nat) (x0 : Int32) (x1 : Int32) (h : AH) : AMV sa d 105 0 [.int x0, .int x1, .null, .null, .null, .null] [] h =
  AMV sa d 105 7 [.int x0, .int x1, .int x0, .int x1, .int 0, .null] [] h :=
  (AMV_T sa d 105 (fun pc => Nat.beq pc 7) 7 _ _ _ h).trans rfl
set_option maxRecDepth 100000 in
theorem eX7_commonDivisor_7 (sa : Nat → Nat) (d : Nat) (x0 : Int32) (x1 : Int32) (x2 : Int32) (x3 : Int32) (x4 : Int32) (x5 : Value) (h : AH) : AMV sa d 105 7 [.int x0, .int x1, .int x2, .int x3, .int x4, x5] [] h =
  if 100 ≤ x4 then
   some (some (.int x2), h)
  else
   if x3 = 0 then
    some (some (.int x2), h)
   else
    if x3 = 0 then none else
    AMV sa d 105 7 [.int x0, .int x1, .int x3, .int (x2 - x2 / x3 * x3), .int (x4 + 1), .int (x2 - x2 / x3 * x3)] [] h :=
  (AMV_T sa d 105 (fun pc => Nat.beq pc 7) 16 _ _ _ h).trans rfl
