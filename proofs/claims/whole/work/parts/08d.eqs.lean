set_option maxRecDepth 100000 in
theorem eX8_init_0 (sa : Nat → Nat) (d : Nat) (x0 : Nat) (h : AH) : AMV sa d 106 0 [.ref x0, .null] [] h =
  aOp (aNA h 0 8) fun z1 =>
  aOp (aFP z1.2 x0 8 0 (.ref z1.1)) fun h2 =>
  aOp (aNA h2 0 8) fun z3 =>
  aOp (aFP z3.2 x0 8 1 (.ref z3.1)) fun h4 =>
  aOp (aNA h4 0 320) fun z5 =>
  aOp (aFP z5.2 x0 8 2 (.ref z5.1)) fun h6 =>
  aOp (aNA h6 0 40) fun z7 =>
  aOp (aFP z7.2 x0 8 3 (.ref z7.1)) fun h8 =>
  aOp (aNA h8 0 100) fun z9 =>
  aOp (aFP z9.2 x0 8 5 (.ref z9.1)) fun h10 =>
  aOp (aNA h10 0 40) fun z11 =>
  aOp (aFP z11.2 x0 8 13 (.ref z11.1)) fun h12 =>
  aOp (aNA h12 0 40) fun z13 =>
  aOp (aFP z13.2 x0 8 14 (.ref z13.1)) fun h14 =>
  aOp (aNA h14 0 40) fun z15 =>
  aOp (aFP z15.2 x0 8 15 (.ref z15.1)) fun h16 =>
  aOp (aNA h16 0 960) fun z17 =>
  aOp (aFP z17.2 x0 8 16 (.ref z17.1)) fun h18 =>
  aOp (aNA h18 0 80) fun z19 =>
  aOp (aFP z19.2 x0 8 18 (.ref z19.1)) fun h20 =>
  aOp (aNA h20 1 2) fun z21 =>
  aOp (aFP z21.2 x0 8 19 (.ref z21.1)) fun h22 =>
  aOp (aNA h22 0 16) fun z23 =>
  aOp (aFP z23.2 x0 8 20 (.ref z23.1)) fun h24 =>
  AMV sa d 106 103 [.ref x0, .int 0] [] h24 :=
  (AMV_T sa d 106 (fun pc => Nat.beq pc 103) 53 _ _ _ h).trans rfl
set_option maxRecDepth 100000 in
theorem eX8_init_103 (sa : Nat → Nat) (d : Nat) (x0 : Nat) (x1 : Int32) (h : AH) : AMV sa d 106 103 [.ref x0, .int x1] [] h =
  if 8 ≤ x1 then
   some (none, h)
  else
   aOp (aFR h x0 8 0) fun v1 =>
   aOp (aIS h v1 x1 (-1000000)) fun h2 =>
   AMV sa d 106 103 [.ref x0, .int (x1 + 1)] [] h2 :=
  (AMV_T sa d 106 (fun pc => Nat.beq pc 103) 11 _ _ _ h).trans rfl
set_option maxRecDepth 100000 in
theorem eX8_in_0 (sa : Nat → Nat) (d : Nat) (x0 : Int32) (x1 : Int32) (x2 : Int32) (h : AH) : AMV sa d 107 0 [.int x0, .int x1, .int x2] [] h =
  if x0 < x1 then
   some (some (.int 0), h)
  else
   if x2 < x0 then
    some (some (.int 0), h)
   else
    some (some (.int 1), h) :=
  (AMV_T sa d 107 (fun pc => false) 10 _ _ _ h).trans rfl
set_option maxRecDepth 100000 in
theorem eX8_has_0 (sa : Nat → Nat) (d : Nat) (x0 : Int32) (x1 : Int32) (h : AH) : AMV sa d 108 0 [.int x0, .int x1] [] h =
  if (x0 >>> (x1 &&& 31)) &&& 1 = 1 then
   some (some (.int 1), h)
  else
   some (some (.int 0), h) :=
  (AMV_T sa d 108 (fun pc => false) 11 _ _ _ h).trans rfl
set_option maxRecDepth 100000 in
theorem eX8_ones_0 (sa : Nat → Nat) (d : Nat) (x0 : Int32) (h : AH) : AMV sa d 109 0 [.int x0, .null, .null] [] h =
  AMV sa d 109 4 [.int x0, .int 0, .int 0] [] h :=
  (AMV_T sa d 109 (fun pc => Nat.beq pc 4) 5 _ _ _ h).trans rfl
set_option maxRecDepth 100000 in
theorem eX8_ones_4 (sa : Nat → Nat) (d : Nat) (x0 : Int32) (x1 : Int32) (x2 : Int32) (h : AH) : AMV sa d 109 4 [.int x0, .int x1, .int x2] [] h =
  if 7 ≤ x2 then
   some (some (.int x1), h)
  else
   AMV sa d 109 4 [.int x0, .int (x1 + ((x0 >>> (x2 &&& 31)) &&& 1)), .int (x2 + 1)] [] h :=
  (AMV_T sa d 109 (fun pc => Nat.beq pc 4) 14 _ _ _ h).trans rfl
set_option maxRecDepth 100000 in
theorem eX8_found_0 (sa : Nat → Nat) (d : Nat) (x0 : Nat) (x1 : Int32) (h : AH) : AMV sa d 110 0 [.ref x0, .int x1] [] h =
  aOp (aFP h x0 8 4 (.int x1)) fun h1 =>
  some (some (.int ((-1000010) - x1)), h1) :=
  (AMV_T sa d 110 (fun pc => false) 8 _ _ _ h).trans rfl
set_option maxRecDepth 100000 in
theorem eX8_well_0 (sa : Nat → Nat) (d : Nat) (x0 : Nat) (x1 : Int32) (h : AH) : AMV sa d 111 0 [.ref x0, .int x1] [] h =
  aOp (aFP h x0 8 4 (.int 0)) fun h1 =>
  some (some (.int x1), h1) :=
  (AMV_T sa d 111 (fun pc => false) 6 _ _ _ h).trans rfl
set_option maxRecDepth 100000 in
theorem eX8_copies_0 (sa : Nat → Nat) (d : Nat) (x0 : Nat) (x1 : Int32) (x2 : Nat) (x3 : Int32) (h : AH) : AMV sa d 112 0 [.ref x0, .int x1, .ref x2, .int x3, .null] [] h =
  AMV sa d 112 3 [.ref x0, .int x1, .ref x2, .int x3, .int 0] [] h :=
  (AMV_T sa d 112 (fun pc => Nat.beq pc 3) 3 _ _ _ h).trans rfl
set_option maxRecDepth 100000 in
theorem eX8_copies_3 (sa : Nat → Nat) (d : Nat) (x0 : Nat) (x1 : Int32) (x2 : Nat) (x3 : Int32) (x4 : Int32) (h : AH) : AMV sa d 112 3 [.ref x0, .int x1, .ref x2, .int x3, .int x4] [] h =
  if 40 ≤ x4 then
   some (none, h)
  else
   aOp (aIL h x0 (x1 + x4)) fun v1 =>
   aOp (aIS h x2 (x3 + x4) v1) fun h2 =>
   AMV sa d 112 3 [.ref x0, .int x1, .ref x2, .int x3, .int (x4 + 1)] [] h2 :=
  (AMV_T sa d 112 (fun pc => Nat.beq pc 3) 16 _ _ _ h).trans rfl
set_option maxRecDepth 100000 in
theorem eX8_isRow_0 (sa : Nat → Nat) (d : Nat) (x0 : Int32) (h : AH) : AMV sa d 113 0 [.int x0] [] h =
  aOp (aRI (AMC sa d 107 [.int x0, .int 0, .int 7] h)) fun z1 =>
  if z1.1 = 0 ∨ z1.1 = 1 then some (some (.int z1.1), z1.2) else none :=
  (AMV_T sa d 113 (fun pc => false) 6 _ _ _ h).trans rfl
set_option maxRecDepth 100000 in
theorem eX8_isMissing_0 (sa : Nat → Nat) (d : Nat) (x0 : Nat) (x1 : Int32) (h : AH) : AMV sa d 114 0 [.ref x0, .int x1] [] h =
  aOp (aFR h x0 8 0) fun v1 =>
  aOp (aIL h v1 x1) fun v2 =>
  if v2 = (-1000000) then
   some (some (.int 1), h)
  else
   some (some (.int 0), h) :=
  (AMV_T sa d 114 (fun pc => false) 10 _ _ _ h).trans rfl
set_option maxRecDepth 100000 in
theorem eX8_cut_0 (sa : Nat → Nat) (d : Nat) (x0 : Int32) (x1 : Int32) (h : AH) : AMV sa d 115 0 [.int x0, .int x1] [] h =
  if x0 = 0 then
   some (some (.int ((x1 <<< (24 &&& 31)) >>> (24 &&& 31))), h)
  else
   if x0 = 1 then
    some (some (.int ((x1 <<< (16 &&& 31)) >>> (16 &&& 31))), h)
   else
    some (some (.int x1), h) :=
  (AMV_T sa d 115 (fun pc => false) 13 _ _ _ h).trans rfl
set_option maxRecDepth 100000 in
theorem eX8_row_0 (sa : Nat → Nat) (d : Nat) (x0 : Nat) (x1 : Int32) (x2 : Int32) (x3 : Int32) (h : AH) : AMV sa d 116 0 [.ref x0, .int x1, .int x2, .int x3, .null] [] h =
  aOp (aRI (AMC sa d 113 [.int x1] h)) fun z1 =>
  if z1.1 = 0 then
   some (some (.int (-1000001)), z1.2)
  else
   aOp (aRI (AMC sa d 107 [.int x2, .int 0, .int 2] z1.2)) fun z2 =>
   if z2.1 = 0 then
    some (some (.int (-1000001)), z2.2)
   else
    if x3 ≤ 40 then
     if 0 ≤ x3 then
      aOp (aFR z2.2 x0 8 0) fun v3 =>
      aOp (aIS z2.2 v3 x1 x2) fun h4 =>
      aOp (aFR h4 x0 8 1) fun v5 =>
      aOp (aIS h4 v5 x1 x3) fun h6 =>
      AMV sa d 116 52 [.ref x0, .int x1, .int x2, .int x3, .int 0] [] h6
     else
      aOp (aCl z2.2 x0 8) fun _ =>
      aOp (aRI (AMC sa d 110 [.ref x0, .int 4] z2.2)) fun z7 =>
      some (some (.int z7.1), z7.2)
    else
     some (some (.int (-1000001)), z2.2) :=
  (AMV_T sa d 116 (fun pc => Nat.beq pc 52) 26 _ _ _ h).trans rfl
set_option maxRecDepth 100000 in
theorem eX8_row_52 (sa : Nat → Nat) (d : Nat) (x0 : Nat) (x1 : Int32) (x2 : Int32) (x3 : Int32) (x4 : Int32) (h : AH) : AMV sa d 116 52 [.ref x0, .int x1, .int x2, .int x3, .int x4] [] h =
  if 40 ≤ x4 then
   aOp (aCl h x0 8) fun _ =>
   aOp (aRI (AMC sa d 111 [.ref x0, .int x3] h)) fun z1 =>
   some (some (.int z1.1), z1.2)
  else
   aOp (aFR h x0 8 2) fun v2 =>
   aOp (aIS h v2 ((40 * x1) + x4) 0) fun h3 =>
   AMV sa d 116 52 [.ref x0, .int x1, .int x2, .int x3, .int (x4 + 1)] [] h3 :=
  (AMV_T sa d 116 (fun pc => Nat.beq pc 52) 15 _ _ _ h).trans rfl
set_option maxRecDepth 100000 in
theorem eX8_set_0 (sa : Nat → Nat) (d : Nat) (x0 : Nat) (x1 : Int32) (x2 : Int32) (x3 : Int32) (h : AH) : AMV sa d 117 0 [.ref x0, .int x1, .int x2, .int x3] [] h =
  aOp (aRI (AMC sa d 113 [.int x1] h)) fun z1 =>
  if z1.1 = 0 then
   some (some (.int (-1000001)), z1.2)
  else
   aOp (aCl z1.2 x0 8) fun _ =>
   aOp (aRI (AMC sa d 114 [.ref x0, .int x1] z1.2)) fun z2 =>
   if z2.1 = 0 then
    aOp (aFR z2.2 x0 8 1) fun v3 =>
    aOp (aIL z2.2 v3 x1) fun v4 =>
    aOp (aRI (AMC sa d 107 [.int x2, .int 0, .int (v4 - 1)] z2.2)) fun z5 =>
    if z5.1 = 0 then
     aOp (aCl z5.2 x0 8) fun _ =>
     aOp (aRI (AMC sa d 110 [.ref x0, .int 2] z5.2)) fun z6 =>
     some (some (.int z6.1), z6.2)
    else
     aOp (aFR z5.2 x0 8 2) fun v7 =>
     aOp (aFR z5.2 x0 8 0) fun v8 =>
     aOp (aIL z5.2 v8 x1) fun v9 =>
     aOp (aRI (AMC sa d 115 [.int v9, .int x3] z5.2)) fun z10 =>
     aOp (aIS z10.2 v7 ((40 * x1) + x2) z10.1) fun h11 =>
     aOp (aFR h11 x0 8 2) fun v12 =>
     aOp (aIL h11 v12 ((40 * x1) + x2)) fun v13 =>
     aOp (aCl h11 x0 8) fun _ =>
     aOp (aRI (AMC sa d 111 [.ref x0, .int v13] h11)) fun z14 =>
     some (some (.int z14.1), z14.2)
   else
    aOp (aCl z2.2 x0 8) fun _ =>
    aOp (aRI (AMC sa d 110 [.ref x0, .int 1] z2.2)) fun z15 =>
    some (some (.int z15.1), z15.2) :=
  (AMV_T sa d 117 (fun pc => false) 43 _ _ _ h).trans rfl
set_option maxRecDepth 100000 in
theorem eX8_isPart_0 (sa : Nat → Nat) (d : Nat) (x0 : Nat) (x1 : Int32) (x2 : Int32) (x3 : Int32) (h : AH) : AMV sa d 118 0 [.ref x0, .int x1, .int x2, .int x3] [] h =
  if x2 < 0 then
   some (some (.int 0), h)
  else
   if x3 < 0 then
    some (some (.int 0), h)
   else
    aOp (aFR h x0 8 1) fun v1 =>
    aOp (aIL h v1 x1) fun v2 =>
    if v2 < x2 then
     some (some (.int 0), h)
    else
     aOp (aFR h x0 8 1) fun v3 =>
     aOp (aIL h v3 x1) fun v4 =>
     if v4 - x2 < x3 then
      some (some (.int 0), h)
     else
      some (some (.int 1), h) :=
  (AMV_T sa d 118 (fun pc => false) 22 _ _ _ h).trans rfl
set_option maxRecDepth 100000 in
theorem eX8_copy_0 (sa : Nat → Nat) (d : Nat) (x0 : Nat) (x1 : Int32) (x2 : Int32) (x3 : Int32) (x4 : Int32) (x5 : Int32) (h : AH) : AMV sa d 119 0 [.ref x0, .int x1, .int x2, .int x3, .int x4, .int x5, .null] [] h =
  aOp (aRI (AMC sa d 113 [.int x1] h)) fun z1 =>
  if z1.1 = 0 then
   some (some (.int (-1000001)), z1.2)
  else
   aOp (aRI (AMC sa d 113 [.int x3] z1.2)) fun z2 =>
   if z2.1 = 0 then
    some (some (.int (-1000001)), z2.2)
   else
    aOp (aCl z2.2 x0 8) fun _ =>
    aOp (aRI (AMC sa d 114 [.ref x0, .int x1] z2.2)) fun z3 =>
    if z3.1 = 0 then
     aOp (aCl z3.2 x0 8) fun _ =>
     aOp (aRI (AMC sa d 114 [.ref x0, .int x3] z3.2)) fun z4 =>
     if z4.1 = 0 then
      aOp (aFR z4.2 x0 8 0) fun v5 =>
      aOp (aIL z4.2 v5 x1) fun v6 =>
      aOp (aFR z4.2 x0 8 0) fun v7 =>
      aOp (aIL z4.2 v7 x3) fun v8 =>
      if v6 = v8 then
       aOp (aCl z4.2 x0 8) fun _ =>
       aOp (aRI (AMC sa d 118 [.ref x0, .int x1, .int x2, .int x5] z4.2)) fun z9 =>
       if z9.1 = 0 then
        AMV sa d 119 83 [.ref x0, .int x1, .int x2, .int x3, .int x4, .int x5, .null] [] z9.2
       else
        aOp (aCl z9.2 x0 8) fun _ =>
        aOp (aRI (AMC sa d 118 [.ref x0, .int x3, .int x4, .int x5] z9.2)) fun z10 =>
        if z10.1 = 0 then
         AMV sa d 119 83 [.ref x0, .int x1, .int x2, .int x3, .int x4, .int x5, .null] [] z10.2
        else
         AMV sa d 119 92 [.ref x0, .int x1, .int x2, .int x3, .int x4, .int x5, .int 0] [] z10.2
      else
       aOp (aCl z4.2 x0 8) fun _ =>
       aOp (aRI (AMC sa d 110 [.ref x0, .int 5] z4.2)) fun z11 =>
       some (some (.int z11.1), z11.2)
     else
      AMV sa d 119 33 [.ref x0, .int x1, .int x2, .int x3, .int x4, .int x5, .null] [] z4.2
    else
     AMV sa d 119 33 [.ref x0, .int x1, .int x2, .int x3, .int x4, .int x5, .null] [] z3.2 :=
  (AMV_T sa d 119 (fun pc => Nat.beq pc 33 || Nat.beq pc 83 || Nat.beq pc 92 || Nat.beq pc 129) 38 _ _ _ h).trans rfl
set_option maxRecDepth 100000 in
theorem eX8_copy_33 (sa : Nat → Nat) (d : Nat) (x0 : Nat) (x1 : Int32) (x2 : Int32) (x3 : Int32) (x4 : Int32) (x5 : Int32) (h : AH) : AMV sa d 119 33 [.ref x0, .int x1, .int x2, .int x3, .int x4, .int x5, .null] [] h =
  aOp (aCl h x0 8) fun _ =>
  aOp (aRI (AMC sa d 110 [.ref x0, .int 1] h)) fun z1 =>
  some (some (.int z1.1), z1.2) :=
  (AMV_T sa d 119 (fun pc => Nat.beq pc 33 || Nat.beq pc 83 || Nat.beq pc 92 || Nat.beq pc 129) 5 _ _ _ h).trans rfl
set_option maxRecDepth 100000 in
theorem eX8_copy_83 (sa : Nat → Nat) (d : Nat) (x0 : Nat) (x1 : Int32) (x2 : Int32) (x3 : Int32) (x4 : Int32) (x5 : Int32) (h : AH) : AMV sa d 119 83 [.ref x0, .int x1, .int x2, .int x3, .int x4, .int x5, .null] [] h =
  aOp (aCl h x0 8) fun _ =>
  aOp (aRI (AMC sa d 110 [.ref x0, .int 2] h)) fun z1 =>
  some (some (.int z1.1), z1.2) :=
  (AMV_T sa d 119 (fun pc => Nat.beq pc 33 || Nat.beq pc 83 || Nat.beq pc 92 || Nat.beq pc 129) 5 _ _ _ h).trans rfl
set_option maxRecDepth 100000 in
theorem eX8_copy_92 (sa : Nat → Nat) (d : Nat) (x0 : Nat) (x1 : Int32) (x2 : Int32) (x3 : Int32) (x4 : Int32) (x5 : Int32) (x6 : Int32) (h : AH) : AMV sa d 119 92 [.ref x0, .int x1, .int x2, .int x3, .int x4, .int x5, .int x6] [] h =
  if x5 ≤ x6 then
   AMV sa d 119 129 [.ref x0, .int x1, .int x2, .int x3, .int x4, .int x5, .int 0] [] h
  else
   aOp (aFR h x0 8 3) fun v1 =>
   aOp (aFR h x0 8 2) fun v2 =>
   aOp (aIL h v2 (((40 * x1) + x2) + x6)) fun v3 =>
   aOp (aIS h v1 x6 v3) fun h4 =>
   AMV sa d 119 92 [.ref x0, .int x1, .int x2, .int x3, .int x4, .int x5, .int (x6 + 1)] [] h4 :=
  (AMV_T sa d 119 (fun pc => Nat.beq pc 33 || Nat.beq pc 83 || Nat.beq pc 92 || Nat.beq pc 129) 20 _ _ _ h).trans rfl
set_option maxRecDepth 100000 in
theorem eX8_copy_129 (sa : Nat → Nat) (d : Nat) (x0 : Nat) (x1 : Int32) (x2 : Int32) (x3 : Int32) (x4 : Int32) (x5 : Int32) (x6 : Int32) (h : AH) : AMV sa d 119 129 [.ref x0, .int x1, .int x2, .int x3, .int x4, .int x5, .int x6] [] h =
  if x5 ≤ x6 then
   aOp (aCl h x0 8) fun _ =>
   aOp (aRI (AMC sa d 111 [.ref x0, .int x5] h)) fun z1 =>
   some (some (.int z1.1), z1.2)
  else
   aOp (aFR h x0 8 2) fun v2 =>
   aOp (aFR h x0 8 3) fun v3 =>
   aOp (aIL h v3 x6) fun v4 =>
   aOp (aIS h v2 (((40 * x3) + x4) + x6) v4) fun h5 =>
   AMV sa d 119 129 [.ref x0, .int x1, .int x2, .int x3, .int x4, .int x5, .int (x6 + 1)] [] h5 :=
  (AMV_T sa d 119 (fun pc => Nat.beq pc 33 || Nat.beq pc 83 || Nat.beq pc 92 || Nat.beq pc 129) 20 _ _ _ h).trans rfl
set_option maxRecDepth 100000 in
theorem eX8_drop_0 (sa : Nat → Nat) (d : Nat) (x0 : Nat) (x1 : Int32) (h : AH) : AMV sa d 120 0 [.ref x0, .int x1] [] h =
  aOp (aRI (AMC sa d 113 [.int x1] h)) fun z1 =>
  if z1.1 = 0 then
   some (some (.int (-1000001)), z1.2)
  else
   aOp (aCl z1.2 x0 8) fun _ =>
   aOp (aRI (AMC sa d 114 [.ref x0, .int x1] z1.2)) fun z2 =>
   if z2.1 = 0 then
    aOp (aFR z2.2 x0 8 0) fun v3 =>
    aOp (aIS z2.2 v3 x1 (-1000000)) fun h4 =>
    aOp (aFR h4 x0 8 1) fun v5 =>
    aOp (aIL h4 v5 x1) fun v6 =>
    aOp (aCl h4 x0 8) fun _ =>
    aOp (aRI (AMC sa d 111 [.ref x0, .int v6] h4)) fun z7 =>
    some (some (.int z7.1), z7.2)
   else
    aOp (aCl z2.2 x0 8) fun _ =>
    aOp (aRI (AMC sa d 110 [.ref x0, .int 1] z2.2)) fun z8 =>
    some (some (.int z8.1), z8.2) :=
  (AMV_T sa d 120 (fun pc => false) 20 _ _ _ h).trans rfl
set_option maxRecDepth 100000 in
theorem eX8_feed_0 (sa : Nat → Nat) (d : Nat) (x0 : Nat) (x1 : Int32) (h : AH) : AMV sa d 121 0 [.ref x0, .int x1] [] h =
  aOp (aRI (AMC sa d 107 [.int x1, .int 0, .int 255] h)) fun z1 =>
  if z1.1 = 0 then
   some (some (.int (-1000001)), z1.2)
  else
   aOp (aFI z1.2 x0 8 6) fun v2 =>
   if v2 = 100 then
    some (some (.int (-1000003)), z1.2)
   else
    aOp (aFR z1.2 x0 8 5) fun v3 =>
    aOp (aFI z1.2 x0 8 6) fun v4 =>
    aOp (aIS z1.2 v3 v4 x1) fun h5 =>
    aOp (aFI h5 x0 8 6) fun v6 =>
    aOp (aFP h5 x0 8 6 (.int (v6 + 1))) fun h7 =>
    aOp (aFI h7 x0 8 6) fun v8 =>
    some (some (.int v8), h7) :=
  (AMV_T sa d 121 (fun pc => false) 25 _ _ _ h).trans rfl
set_option maxRecDepth 100000 in
theorem eX8_byteAt_0 (sa : Nat → Nat) (d : Nat) (x0 : Nat) (x1 : Int32) (h : AH) : AMV sa d 122 0 [.ref x0, .int x1] [] h =
  aOp (aFI h x0 8 6) fun v1 =>
  if v1 ≤ x1 then
   some (some (.int (-1)), h)
  else
   aOp (aFR h x0 8 5) fun v2 =>
   aOp (aIL h v2 x1) fun v3 =>
   some (some (.int v3), h) :=
  (AMV_T sa d 122 (fun pc => false) 11 _ _ _ h).trans rfl
set_option maxRecDepth 100000 in
theorem eX8_advances_0 (sa : Nat → Nat) (d : Nat) (x0 : Nat) (h : AH) : AMV sa d 123 0 [.ref x0, .null] [] h =
  aOp (aFI h x0 8 9) fun v1 =>
  aOp (aFP h x0 8 10 (.int v1)) fun h2 =>
  aOp (aFI h2 x0 8 9) fun v3 =>
  aOp (aCl h2 x0 8) fun _ =>
  aOp (aRI (AMC sa d 122 [.ref x0, .int v3] h2)) fun z4 =>
  aOp (aFP z4.2 x0 8 12 (.int z4.1)) fun h5 =>
  aOp (aRI (AMC sa d 107 [.int z4.1, .int 48, .int 57] h5)) fun z6 =>
  if z6.1 = 0 then
   if 0 ≤ z4.1 then
    aOp (aRI (AMC sa d 107 [.int z4.1, .int 97, .int 122] z6.2)) fun z7 =>
    if z7.1 = 0 then
     if z4.1 = 44 then
      AMV sa d 123 180 [.ref x0, .int z4.1] [.int 3, .ref x0] z7.2
     else
      if z4.1 = 59 then
       AMV sa d 123 180 [.ref x0, .int z4.1] [.int 4, .ref x0] z7.2
      else
       AMV sa d 123 180 [.ref x0, .int z4.1] [.int 5, .ref x0] z7.2
    else
     AMV sa d 123 180 [.ref x0, .int z4.1] [.int 1, .ref x0] z7.2
   else
    AMV sa d 123 180 [.ref x0, .int z4.1] [.int 0, .ref x0] z6.2
  else
   aOp (aFP z6.2 x0 8 12 (.int 0)) fun h8 =>
   AMV sa d 123 38 [.ref x0, .int z4.1] [] h8 :=
  (AMV_T sa d 123 (fun pc => Nat.beq pc 38 || Nat.beq pc 96 || Nat.beq pc 180) 34 _ _ _ h).trans rfl
set_option maxRecDepth 100000 in
theorem eX8_advances_38 (sa : Nat → Nat) (d : Nat) (x0 : Nat) (x1 : Int32) (h : AH) : AMV sa d 123 38 [.ref x0, .int x1] [] h =
  aOp (aFI h x0 8 9) fun v1 =>
  aOp (aCl h x0 8) fun _ =>
  aOp (aRI (AMC sa d 122 [.ref x0, .int v1] h)) fun z2 =>
  aOp (aRI (AMC sa d 107 [.int z2.1, .int 48, .int 57] z2.2)) fun z3 =>
  if z3.1 = 0 then
   aOp (aFI z3.2 x0 8 9) fun v4 =>
   aOp (aFI z3.2 x0 8 10) fun v5 =>
   if 3 ≤ v4 - v5 then
    aOp (aFP z3.2 x0 8 11 (.int 5)) fun h6 =>
    some (none, h6)
   else
    aOp (aFP z3.2 x0 8 11 (.int 2)) fun h7 =>
    some (none, h7)
  else
   aOp (aFI z3.2 x0 8 9) fun v8 =>
   aOp (aFI z3.2 x0 8 10) fun v9 =>
   if 2 ≤ v8 - v9 then
    aOp (aFI z3.2 x0 8 12) fun v10 =>
    AMV sa d 123 96 [.ref x0, .int x1] [.int v10, .ref x0] z3.2
   else
    aOp (aFI z3.2 x0 8 12) fun v11 =>
    aOp (aFI z3.2 x0 8 9) fun v12 =>
    aOp (aCl z3.2 x0 8) fun _ =>
    aOp (aRI (AMC sa d 122 [.ref x0, .int v12] z3.2)) fun z13 =>
    AMV sa d 123 96 [.ref x0, .int x1] [.int (((10 * v11) + z13.1) - 48), .ref x0] z13.2 :=
  (AMV_T sa d 123 (fun pc => Nat.beq pc 38 || Nat.beq pc 96 || Nat.beq pc 180) 29 _ _ _ h).trans rfl
set_option maxRecDepth 100000 in
theorem eX8_advances_96 (sa : Nat → Nat) (d : Nat) (x0 : Nat) (x1 : Int32) (s0 : Nat) (s1 : Int32) (h : AH) : AMV sa d 123 96 [.ref x0, .int x1] [.int s1, .ref s0] h =
  aOp (aFP h s0 8 12 (.int s1)) fun h1 =>
  aOp (aFI h1 x0 8 9) fun v2 =>
  aOp (aFP h1 x0 8 9 (.int (v2 + 1))) fun h3 =>
  AMV sa d 123 38 [.ref x0, .int x1] [] h3 :=
  (AMV_T sa d 123 (fun pc => Nat.beq pc 38 || Nat.beq pc 96 || Nat.beq pc 180) 9 _ _ _ h).trans rfl
set_option maxRecDepth 100000 in
theorem eX8_advances_180 (sa : Nat → Nat) (d : Nat) (x0 : Nat) (x1 : Int32) (s0 : Nat) (s1 : Int32) (h : AH) : AMV sa d 123 180 [.ref x0, .int x1] [.int s1, .ref s0] h =
  aOp (aFP h s0 8 11 (.int s1)) fun h1 =>
  aOp (aFI h1 x0 8 9) fun v2 =>
  aOp (aFI h1 x0 8 11) fun v3 =>
  if v3 = 0 then
   aOp (aFP h1 x0 8 9 (.int (v2 + 0))) fun h4 =>
   some (none, h4)
  else
   aOp (aFP h1 x0 8 9 (.int (v2 + 1))) fun h5 =>
   some (none, h5) :=
  (AMV_T sa d 123 (fun pc => Nat.beq pc 38 || Nat.beq pc 96 || Nat.beq pc 180) 13 _ _ _ h).trans rfl
set_option maxRecDepth 100000 in
theorem eX8_isWell_0 (sa : Nat → Nat) (d : Nat) (x0 : Nat) (h : AH) : AMV sa d 124 0 [.ref x0] [] h =
  aOp (aFI h x0 8 8) fun v1 =>
  if 0 ≤ v1 then
   some (some (.int 0), h)
  else
   some (some (.int 1), h) :=
  (AMV_T sa d 124 (fun pc => false) 7 _ _ _ h).trans rfl
set_option maxRecDepth 100000 in
theorem eX8_takes_0 (sa : Nat → Nat) (d : Nat) (x0 : Nat) (x1 : Int32) (x2 : Int32) (h : AH) : AMV sa d 125 0 [.ref x0, .int x1, .int x2, .null] [] h =
  aOp (aCl h x0 8) fun _ =>
  aOp (aRI (AMC sa d 124 [.ref x0] h)) fun z1 =>
  if z1.1 = 0 then
   some (some (.int 0), z1.2)
  else
   if x1 = 0 then
    aOp (aFI z1.2 x0 8 10) fun v2 =>
    aOp (aFP z1.2 x0 8 8 (.int v2)) fun h3 =>
    aOp (aFP h3 x0 8 7 (.int x2)) fun h4 =>
    some (some (.int 0), h4)
   else
    aOp (aFI z1.2 x0 8 12) fun v5 =>
    aOp (aCl z1.2 x0 8) fun _ =>
    aOp (aRV (AMC sa d 123 [.ref x0] z1.2)) fun h6 =>
    some (some (.int v5), h6) :=
  (AMV_T sa d 125 (fun pc => false) 15 _ _ _ h).trans rfl
set_option maxRecDepth 100000 in
theorem eX8_figure_0 (sa : Nat → Nat) (d : Nat) (x0 : Nat) (x1 : Int32) (x2 : Int32) (h : AH) : AMV sa d 126 0 [.ref x0, .int x1, .int x2] [] h =
  aOp (aCl h x0 8) fun _ =>
  aOp (aRI (AMC sa d 124 [.ref x0] h)) fun z1 =>
  if z1.1 = 0 then
   AMV sa d 126 22 [.ref x0, .int x1, .int x2] [] z1.2
  else
   aOp (aFI z1.2 x0 8 11) fun v2 =>
   if v2 = 2 then
    AMV sa d 126 22 [.ref x0, .int x1, .int x2] [] z1.2
   else
    aOp (aCl z1.2 x0 8) fun _ =>
    aOp (aRI (AMC sa d 125 [.ref x0, .int 0, .int 1] z1.2)) fun z3 =>
    some (some (.int z3.1), z3.2) :=
  (AMV_T sa d 126 (fun pc => Nat.beq pc 22) 13 _ _ _ h).trans rfl
set_option maxRecDepth 100000 in
theorem eX8_figure_22 (sa : Nat → Nat) (d : Nat) (x0 : Nat) (x1 : Int32) (x2 : Int32) (h : AH) : AMV sa d 126 22 [.ref x0, .int x1, .int x2] [] h =
  aOp (aFI h x0 8 12) fun v1 =>
  aOp (aRI (AMC sa d 107 [.int v1, .int x1, .int x2] h)) fun z2 =>
  aOp (aCl z2.2 x0 8) fun _ =>
  aOp (aRI (AMC sa d 125 [.ref x0, .int z2.1, .int 2] z2.2)) fun z3 =>
  some (some (.int z3.1), z3.2) :=
  (AMV_T sa d 126 (fun pc => Nat.beq pc 22) 10 _ _ _ h).trans rfl
set_option maxRecDepth 100000 in
theorem eX8_kindOf_0 (sa : Nat → Nat) (d : Nat) (x0 : Int32) (h : AH) : AMV sa d 127 0 [.int x0] [] h =
  if x0 = 108 then
   some (some (.int 1), h)
  else
   if x0 = 118 then
    some (some (.int 2), h)
   else
    if x0 = 98 then
     some (some (.int 3), h)
    else
     if x0 = 99 then
      some (some (.int 4), h)
     else
      if x0 = 119 then
       some (some (.int 5), h)
      else
       some (some (.int 0), h) :=
  (AMV_T sa d 127 (fun pc => false) 19 _ _ _ h).trans rfl
set_option maxRecDepth 100000 in
theorem eX8_follows_0 (sa : Nat → Nat) (d : Nat) (x0 : Nat) (x1 : Int32) (x2 : Int32) (h : AH) : AMV sa d 128 0 [.ref x0, .int x1, .int x2] [] h =
  aOp (aFI h x0 8 11) fun v1 =>
  if v1 = 3 then
   AMV sa d 128 14 [.ref x0, .int x1, .int x2] [.int 1, .ref x0] h
  else
   AMV sa d 128 14 [.ref x0, .int x1, .int x2] [.int 0, .ref x0] h :=
  (AMV_T sa d 128 (fun pc => Nat.beq pc 14) 8 _ _ _ h).trans rfl
set_option maxRecDepth 100000 in
theorem eX8_follows_14 (sa : Nat → Nat) (d : Nat) (x0 : Nat) (x1 : Int32) (x2 : Int32) (s0 : Nat) (s1 : Int32) (h : AH) : AMV sa d 128 14 [.ref x0, .int x1, .int x2] [.int s1, .ref s0] h =
  aOp (aCl h s0 8) fun _ =>
  aOp (aRI (AMC sa d 125 [.ref s0, .int s1, .int 1] h)) fun z1 =>
  aOp (aCl z1.2 x0 8) fun _ =>
  aOp (aRI (AMC sa d 126 [.ref x0, .int x1, .int x2] z1.2)) fun z2 =>
  some (some (.int z2.1), z2.2) :=
  (AMV_T sa d 128 (fun pc => Nat.beq pc 14) 9 _ _ _ h).trans rfl
set_option maxRecDepth 100000 in
theorem eX8_readsWord_0 (sa : Nat → Nat) (d : Nat) (x0 : Nat) (h : AH) : AMV sa d 129 0 [.ref x0, .null, .null] [] h =
  aOp (aFR h x0 8 14) fun v1 =>
  aOp (aIL h v1 2) fun v2 =>
  if 6 ≤ v2 then
   AMV sa d 129 17 [.ref x0, .null, .null] [.int 0, .ref x0] h
  else
   AMV sa d 129 17 [.ref x0, .null, .null] [.int 1, .ref x0] h :=
  (AMV_T sa d 129 (fun pc => Nat.beq pc 17 || Nat.beq pc 45 || Nat.beq pc 69) 10 _ _ _ h).trans rfl
set_option maxRecDepth 100000 in
theorem eX8_readsWord_17 (sa : Nat → Nat) (d : Nat) (x0 : Nat) (s0 : Nat) (s1 : Int32) (h : AH) : AMV sa d 129 17 [.ref x0, .null, .null] [.int s1, .ref s0] h =
  aOp (aCl h s0 8) fun _ =>
  aOp (aRI (AMC sa d 125 [.ref s0, .int s1, .int 3] h)) fun z1 =>
  aOp (aFR z1.2 x0 8 14) fun v2 =>
  aOp (aIL z1.2 v2 2) fun v3 =>
  if 6 ≤ v3 then
   AMV sa d 129 45 [.ref x0, .null, .null] [.int 0, .int 6] z1.2
  else
   aOp (aFR z1.2 x0 8 14) fun v4 =>
   aOp (aIL z1.2 v4 2) fun v5 =>
   AMV sa d 129 45 [.ref x0, .null, .null] [.int v5, .int 6] z1.2 :=
  (AMV_T sa d 129 (fun pc => Nat.beq pc 17 || Nat.beq pc 45 || Nat.beq pc 69) 16 _ _ _ h).trans rfl
set_option maxRecDepth 100000 in
theorem eX8_readsWord_45 (sa : Nat → Nat) (d : Nat) (x0 : Nat) (s0 : Int32) (s1 : Int32) (h : AH) : AMV sa d 129 45 [.ref x0, .null, .null] [.int s1, .int s0] h =
  aOp (aCl h x0 8) fun _ =>
  aOp (aRI (AMC sa d 126 [.ref x0, .int 1, .int 9] h)) fun z1 =>
  aOp (aFI z1.2 x0 8 11) fun v2 =>
  if v2 = 4 then
   AMV sa d 129 69 [.ref x0, .int (s0 + s1), .int z1.1] [.int 1, .ref x0] z1.2
  else
   AMV sa d 129 69 [.ref x0, .int (s0 + s1), .int z1.1] [.int 0, .ref x0] z1.2 :=
  (AMV_T sa d 129 (fun pc => Nat.beq pc 17 || Nat.beq pc 45 || Nat.beq pc 69) 15 _ _ _ h).trans rfl
set_option maxRecDepth 100000 in
theorem eX8_readsWord_69 (sa : Nat → Nat) (d : Nat) (x0 : Nat) (x1 : Int32) (x2 : Int32) (s0 : Nat) (s1 : Int32) (h : AH) : AMV sa d 129 69 [.ref x0, .int x1, .int x2] [.int s1, .ref s0] h =
  aOp (aCl h s0 8) fun _ =>
  aOp (aRI (AMC sa d 125 [.ref s0, .int s1, .int 1] h)) fun z1 =>
  aOp (aCl z1.2 x0 8) fun _ =>
  aOp (aRI (AMC sa d 124 [.ref x0] z1.2)) fun z2 =>
  if z2.1 = 0 then
   some (none, z2.2)
  else
   aOp (aFR z2.2 x0 8 14) fun v3 =>
   aOp (aIS z2.2 v3 x1 x2) fun h4 =>
   aOp (aFR h4 x0 8 14) fun v5 =>
   aOp (aIL h4 v5 2) fun v6 =>
   aOp (aIS h4 v5 2 (v6 + 1)) fun h7 =>
   some (none, h7) :=
  (AMV_T sa d 129 (fun pc => Nat.beq pc 17 || Nat.beq pc 45 || Nat.beq pc 69) 21 _ _ _ h).trans rfl
set_option maxRecDepth 100000 in
theorem eX8_part_0 (sa : Nat → Nat) (d : Nat) (x0 : Nat) (x1 : Int32) (h : AH) : AMV sa d 130 0 [.ref x0, .int x1, .null] [] h =
  aOp (aFI h x0 8 11) fun v1 =>
  if v1 = 3 then
   AMV sa d 130 14 [.ref x0, .int x1, .null] [.int 1, .ref x0] h
  else
   AMV sa d 130 14 [.ref x0, .int x1, .null] [.int 0, .ref x0] h :=
  (AMV_T sa d 130 (fun pc => Nat.beq pc 14 || Nat.beq pc 43 || Nat.beq pc 62) 8 _ _ _ h).trans rfl
set_option maxRecDepth 100000 in
theorem eX8_part_14 (sa : Nat → Nat) (d : Nat) (x0 : Nat) (x1 : Int32) (s0 : Nat) (s1 : Int32) (h : AH) : AMV sa d 130 14 [.ref x0, .int x1, .null] [.int s1, .ref s0] h =
  aOp (aCl h s0 8) fun _ =>
  aOp (aRI (AMC sa d 125 [.ref s0, .int s1, .int 1] h)) fun z1 =>
  aOp (aFI z1.2 x0 8 11) fun v2 =>
  if v2 = 2 then
   aOp (aFI z1.2 x0 8 12) fun v3 =>
   if v3 &&& (x1 ^^^ (-1)) = 0 then
    AMV sa d 130 43 [.ref x0, .int x1, .null] [.int 1] z1.2
   else
    AMV sa d 130 43 [.ref x0, .int x1, .null] [.int 0] z1.2
  else
   AMV sa d 130 43 [.ref x0, .int x1, .null] [.int 1] z1.2 :=
  (AMV_T sa d 130 (fun pc => Nat.beq pc 14 || Nat.beq pc 43 || Nat.beq pc 62) 17 _ _ _ h).trans rfl
set_option maxRecDepth 100000 in
theorem eX8_part_43 (sa : Nat → Nat) (d : Nat) (x0 : Nat) (x1 : Int32) (s0 : Int32) (h : AH) : AMV sa d 130 43 [.ref x0, .int x1, .null] [.int s0] h =
  aOp (aCl h x0 8) fun _ =>
  aOp (aRI (AMC sa d 124 [.ref x0] h)) fun z1 =>
  if z1.1 = 0 then
   AMV sa d 130 62 [.ref x0, .int x1, .int s0] [] z1.2
  else
   if s0 = 0 then
    aOp (aCl z1.2 x0 8) fun _ =>
    aOp (aRI (AMC sa d 125 [.ref x0, .int 0, .int 2] z1.2)) fun z2 =>
    AMV sa d 130 62 [.ref x0, .int x1, .int s0] [] z2.2
   else
    AMV sa d 130 62 [.ref x0, .int x1, .int s0] [] z1.2 :=
  (AMV_T sa d 130 (fun pc => Nat.beq pc 14 || Nat.beq pc 43 || Nat.beq pc 62) 12 _ _ _ h).trans rfl
set_option maxRecDepth 100000 in
theorem eX8_part_62 (sa : Nat → Nat) (d : Nat) (x0 : Nat) (x1 : Int32) (x2 : Int32) (h : AH) : AMV sa d 130 62 [.ref x0, .int x1, .int x2] [] h =
  aOp (aCl h x0 8) fun _ =>
  aOp (aRI (AMC sa d 126 [.ref x0, .int 0, .int 63] h)) fun z1 =>
  some (some (.int z1.1), z1.2) :=
  (AMV_T sa d 130 (fun pc => Nat.beq pc 14 || Nat.beq pc 43 || Nat.beq pc 62) 6 _ _ _ h).trans rfl
set_option maxRecDepth 100000 in
theorem eX8_readsLetter_0 (sa : Nat → Nat) (d : Nat) (x0 : Nat) (h : AH) : AMV sa d 131 0 [.ref x0, .null, .null, .null, .null] [] h =
  aOp (aFI h x0 8 12) fun v1 =>
  aOp (aRI (AMC sa d 127 [.int v1] h)) fun z2 =>
  aOp (aFR z2.2 x0 8 14) fun v3 =>
  aOp (aIL z2.2 v3 3) fun v4 =>
  if 7 ≤ v4 then
   AMV sa d 131 25 [.ref x0, .int z2.1, .null, .null, .null] [.int 0, .ref x0] z2.2
  else
   AMV sa d 131 25 [.ref x0, .int z2.1, .null, .null, .null] [.int 1, .ref x0] z2.2 :=
  (AMV_T sa d 131 (fun pc => Nat.beq pc 25 || Nat.beq pc 54 || Nat.beq pc 94) 14 _ _ _ h).trans rfl
set_option maxRecDepth 100000 in
theorem eX8_readsLetter_25 (sa : Nat → Nat) (d : Nat) (x0 : Nat) (x1 : Int32) (s0 : Nat) (s1 : Int32) (h : AH) : AMV sa d 131 25 [.ref x0, .int x1, .null, .null, .null] [.int s1, .ref s0] h =
  aOp (aCl h s0 8) fun _ =>
  aOp (aRI (AMC sa d 125 [.ref s0, .int s1, .int 3] h)) fun z1 =>
  aOp (aFR z1.2 x0 8 14) fun v2 =>
  aOp (aIL z1.2 v2 3) fun v3 =>
  if 7 ≤ v3 then
   AMV sa d 131 54 [.ref x0, .int x1, .null, .null, .null] [.int 0, .int 4, .int 12] z1.2
  else
   aOp (aFR z1.2 x0 8 14) fun v4 =>
   aOp (aIL z1.2 v4 3) fun v5 =>
   AMV sa d 131 54 [.ref x0, .int x1, .null, .null, .null] [.int v5, .int 4, .int 12] z1.2 :=
  (AMV_T sa d 131 (fun pc => Nat.beq pc 25 || Nat.beq pc 54 || Nat.beq pc 94) 17 _ _ _ h).trans rfl
set_option maxRecDepth 100000 in
theorem eX8_readsLetter_54 (sa : Nat → Nat) (d : Nat) (x0 : Nat) (x1 : Int32) (s0 : Int32) (s1 : Int32) (s2 : Int32) (h : AH) : AMV sa d 131 54 [.ref x0, .int x1, .null, .null, .null] [.int s2, .int s1, .int s0] h =
  aOp (aFR h x0 8 14) fun v1 =>
  aOp (aIL h v1 2) fun v2 =>
  aOp (aCl h x0 8) fun _ =>
  aOp (aRI (AMC sa d 126 [.ref x0, .int 0, .int ((1 <<< (v2 &&& 31)) - 1)] h)) fun z3 =>
  aOp (aCl z3.2 x0 8) fun _ =>
  aOp (aRI (AMC sa d 130 [.ref x0, .int z3.1] z3.2)) fun z4 =>
  aOp (aFI z4.2 x0 8 11) fun v5 =>
  if v5 = 4 then
   AMV sa d 131 94 [.ref x0, .int x1, .int (s0 + (s1 * s2)), .int z3.1, .int z4.1] [.int 1, .ref x0] z4.2
  else
   AMV sa d 131 94 [.ref x0, .int x1, .int (s0 + (s1 * s2)), .int z3.1, .int z4.1] [.int 0, .ref x0] z4.2 :=
  (AMV_T sa d 131 (fun pc => Nat.beq pc 25 || Nat.beq pc 54 || Nat.beq pc 94) 27 _ _ _ h).trans rfl
set_option maxRecDepth 100000 in
theorem eX8_readsLetter_94 (sa : Nat → Nat) (d : Nat) (x0 : Nat) (x1 : Int32) (x2 : Int32) (x3 : Int32) (x4 : Int32) (s0 : Nat) (s1 : Int32) (h : AH) : AMV sa d 131 94 [.ref x0, .int x1, .int x2, .int x3, .int x4] [.int s1, .ref s0] h =
  aOp (aCl h s0 8) fun _ =>
  aOp (aRI (AMC sa d 125 [.ref s0, .int s1, .int 1] h)) fun z1 =>
  aOp (aCl z1.2 x0 8) fun _ =>
  aOp (aRI (AMC sa d 124 [.ref x0] z1.2)) fun z2 =>
  if z2.1 = 0 then
   some (none, z2.2)
  else
   aOp (aFR z2.2 x0 8 14) fun v3 =>
   aOp (aIS z2.2 v3 x2 x1) fun h4 =>
   aOp (aFR h4 x0 8 14) fun v5 =>
   aOp (aIS h4 v5 (x2 + 1) x3) fun h6 =>
   aOp (aFR h6 x0 8 14) fun v7 =>
   aOp (aIS h6 v7 (x2 + 2) x4) fun h8 =>
   aOp (aFR h8 x0 8 14) fun v9 =>
   aOp (aIL h8 v9 3) fun v10 =>
   aOp (aIS h8 v9 3 (v10 + 1)) fun h11 =>
   some (none, h11) :=
  (AMV_T sa d 131 (fun pc => Nat.beq pc 25 || Nat.beq pc 54 || Nat.beq pc 94) 35 _ _ _ h).trans rfl
set_option maxRecDepth 100000 in
theorem eX8_must_0 (sa : Nat → Nat) (d : Nat) (x0 : Nat) (x1 : Int32) (h : AH) : AMV sa d 132 0 [.ref x0, .int x1] [] h =
  aOp (aCl h x0 8) fun _ =>
  aOp (aRI (AMC sa d 124 [.ref x0] h)) fun z1 =>
  if z1.1 = 0 then
   some (none, z1.2)
  else
   if x1 = 0 then
    aOp (aCl z1.2 x0 8) fun _ =>
    aOp (aRI (AMC sa d 125 [.ref x0, .int 0, .int 1] z1.2)) fun z2 =>
    some (none, z2.2)
   else
    some (none, z1.2) :=
  (AMV_T sa d 132 (fun pc => false) 12 _ _ _ h).trans rfl
set_option maxRecDepth 100000 in
theorem eX8_post_0 (sa : Nat → Nat) (d : Nat) (x0 : Nat) (h : AH) : AMV sa d 133 0 [.ref x0, .null] [] h =
  AMV sa d 133 2 [.ref x0, .int 0] [] h :=
  (AMV_T sa d 133 (fun pc => Nat.beq pc 2 || Nat.beq pc 58 || Nat.beq pc 103 || Nat.beq pc 134 || Nat.beq pc 165 || Nat.beq pc 192 || Nat.beq pc 224 || Nat.beq pc 237) 3 _ _ _ h).trans rfl
set_option maxRecDepth 100000 in
theorem eX8_post_2 (sa : Nat → Nat) (d : Nat) (x0 : Nat) (x1 : Int32) (h : AH) : AMV sa d 133 2 [.ref x0, .int x1] [] h =
  if 40 ≤ x1 then
   aOp (aFP h x0 8 9 (.int 0)) fun h1 =>
   aOp (aFP h1 x0 8 8 (.int (-1))) fun h2 =>
   aOp (aCl h2 x0 8) fun _ =>
   aOp (aRV (AMC sa d 123 [.ref x0] h2)) fun h3 =>
   aOp (aFI h3 x0 8 11) fun v4 =>
   if v4 = 1 then
    aOp (aFI h3 x0 8 12) fun v5 =>
    if v5 = 112 then
     AMV sa d 133 58 [.ref x0, .int x1] [.int 1, .ref x0] h3
    else
     AMV sa d 133 58 [.ref x0, .int x1] [.int 0, .ref x0] h3
   else
    AMV sa d 133 58 [.ref x0, .int x1] [.int 0, .ref x0] h3
  else
   aOp (aFR h x0 8 14) fun v6 =>
   aOp (aIS h v6 x1 0) fun h7 =>
   AMV sa d 133 2 [.ref x0, .int (x1 + 1)] [] h7 :=
  (AMV_T sa d 133 (fun pc => Nat.beq pc 2 || Nat.beq pc 58 || Nat.beq pc 103 || Nat.beq pc 134 || Nat.beq pc 165 || Nat.beq pc 192 || Nat.beq pc 224 || Nat.beq pc 237) 23 _ _ _ h).trans rfl
set_option maxRecDepth 100000 in
theorem eX8_post_58 (sa : Nat → Nat) (d : Nat) (x0 : Nat) (x1 : Int32) (s0 : Nat) (s1 : Int32) (h : AH) : AMV sa d 133 58 [.ref x0, .int x1] [.int s1, .ref s0] h =
  aOp (aCl h s0 8) fun _ =>
  aOp (aRI (AMC sa d 125 [.ref s0, .int s1, .int 1] h)) fun z1 =>
  aOp (aFR z1.2 x0 8 14) fun v2 =>
  aOp (aCl z1.2 x0 8) fun _ =>
  aOp (aRI (AMC sa d 126 [.ref x0, .int 0, .int 99] z1.2)) fun z3 =>
  aOp (aIS z3.2 v2 0 z3.1) fun h4 =>
  aOp (aFR h4 x0 8 14) fun v5 =>
  aOp (aCl h4 x0 8) fun _ =>
  aOp (aRI (AMC sa d 128 [.ref x0, .int 0, .int 60] h4)) fun z6 =>
  aOp (aIS z6.2 v5 1 z6.1) fun h7 =>
  aOp (aFI h7 x0 8 11) fun v8 =>
  if v8 = 4 then
   AMV sa d 133 103 [.ref x0, .int x1] [.int 1, .ref x0] h7
  else
   AMV sa d 133 103 [.ref x0, .int x1] [.int 0, .ref x0] h7 :=
  (AMV_T sa d 133 (fun pc => Nat.beq pc 2 || Nat.beq pc 58 || Nat.beq pc 103 || Nat.beq pc 134 || Nat.beq pc 165 || Nat.beq pc 192 || Nat.beq pc 224 || Nat.beq pc 237) 27 _ _ _ h).trans rfl
set_option maxRecDepth 100000 in
theorem eX8_post_103 (sa : Nat → Nat) (d : Nat) (x0 : Nat) (x1 : Int32) (s0 : Nat) (s1 : Int32) (h : AH) : AMV sa d 133 103 [.ref x0, .int x1] [.int s1, .ref s0] h =
  aOp (aCl h s0 8) fun _ =>
  aOp (aRI (AMC sa d 125 [.ref s0, .int s1, .int 1] h)) fun z1 =>
  aOp (aFI z1.2 x0 8 11) fun v2 =>
  if v2 = 1 then
   aOp (aFI z1.2 x0 8 12) fun v3 =>
   if v3 = 111 then
    aOp (aCl z1.2 x0 8) fun _ =>
    aOp (aRV (AMC sa d 132 [.ref x0, .int 1] z1.2)) fun h4 =>
    AMV sa d 133 134 [.ref x0, .int x1] [] h4
   else
    aOp (aCl z1.2 x0 8) fun _ =>
    aOp (aRV (AMC sa d 132 [.ref x0, .int 0] z1.2)) fun h5 =>
    AMV sa d 133 134 [.ref x0, .int x1] [] h5
  else
   aOp (aCl z1.2 x0 8) fun _ =>
   aOp (aRV (AMC sa d 132 [.ref x0, .int 0] z1.2)) fun h6 =>
   AMV sa d 133 134 [.ref x0, .int x1] [] h6 :=
  (AMV_T sa d 133 (fun pc => Nat.beq pc 2 || Nat.beq pc 58 || Nat.beq pc 103 || Nat.beq pc 134 || Nat.beq pc 165 || Nat.beq pc 192 || Nat.beq pc 224 || Nat.beq pc 237) 16 _ _ _ h).trans rfl
set_option maxRecDepth 100000 in
theorem eX8_post_134 (sa : Nat → Nat) (d : Nat) (x0 : Nat) (x1 : Int32) (h : AH) : AMV sa d 133 134 [.ref x0, .int x1] [] h =
  aOp (aCl h x0 8) fun _ =>
  aOp (aRI (AMC sa d 124 [.ref x0] h)) fun z1 =>
  if z1.1 = 0 then
   AMV sa d 133 165 [.ref x0, .int x1] [] z1.2
  else
   aOp (aFI z1.2 x0 8 11) fun v2 =>
   if v2 = 1 then
    aOp (aFI z1.2 x0 8 12) fun v3 =>
    if v3 = 111 then
     aOp (aCl z1.2 x0 8) fun _ =>
     aOp (aRV (AMC sa d 129 [.ref x0] z1.2)) fun h4 =>
     AMV sa d 133 134 [.ref x0, .int x1] [] h4
    else
     AMV sa d 133 165 [.ref x0, .int x1] [] z1.2
   else
    AMV sa d 133 165 [.ref x0, .int x1] [] z1.2 :=
  (AMV_T sa d 133 (fun pc => Nat.beq pc 2 || Nat.beq pc 58 || Nat.beq pc 103 || Nat.beq pc 134 || Nat.beq pc 165 || Nat.beq pc 192 || Nat.beq pc 224 || Nat.beq pc 237) 15 _ _ _ h).trans rfl
set_option maxRecDepth 100000 in
theorem eX8_post_165 (sa : Nat → Nat) (d : Nat) (x0 : Nat) (x1 : Int32) (h : AH) : AMV sa d 133 165 [.ref x0, .int x1] [] h =
  aOp (aFI h x0 8 11) fun v1 =>
  if v1 = 1 then
   aOp (aFI h x0 8 12) fun v2 =>
   aOp (aRI (AMC sa d 127 [.int v2] h)) fun z3 =>
   if z3.1 ≤ 0 then
    aOp (aCl z3.2 x0 8) fun _ =>
    aOp (aRV (AMC sa d 132 [.ref x0, .int 0] z3.2)) fun h4 =>
    AMV sa d 133 192 [.ref x0, .int x1] [] h4
   else
    aOp (aCl z3.2 x0 8) fun _ =>
    aOp (aRV (AMC sa d 132 [.ref x0, .int 1] z3.2)) fun h5 =>
    AMV sa d 133 192 [.ref x0, .int x1] [] h5
  else
   aOp (aCl h x0 8) fun _ =>
   aOp (aRV (AMC sa d 132 [.ref x0, .int 0] h)) fun h6 =>
   AMV sa d 133 192 [.ref x0, .int x1] [] h6 :=
  (AMV_T sa d 133 (fun pc => Nat.beq pc 2 || Nat.beq pc 58 || Nat.beq pc 103 || Nat.beq pc 134 || Nat.beq pc 165 || Nat.beq pc 192 || Nat.beq pc 224 || Nat.beq pc 237) 13 _ _ _ h).trans rfl
set_option maxRecDepth 100000 in
theorem eX8_post_192 (sa : Nat → Nat) (d : Nat) (x0 : Nat) (x1 : Int32) (h : AH) : AMV sa d 133 192 [.ref x0, .int x1] [] h =
  aOp (aCl h x0 8) fun _ =>
  aOp (aRI (AMC sa d 124 [.ref x0] h)) fun z1 =>
  if z1.1 = 0 then
   AMV sa d 133 224 [.ref x0, .int x1] [] z1.2
  else
   aOp (aFI z1.2 x0 8 11) fun v2 =>
   if v2 = 1 then
    aOp (aFI z1.2 x0 8 12) fun v3 =>
    aOp (aRI (AMC sa d 127 [.int v3] z1.2)) fun z4 =>
    if z4.1 ≤ 0 then
     AMV sa d 133 224 [.ref x0, .int x1] [] z4.2
    else
     aOp (aCl z4.2 x0 8) fun _ =>
     aOp (aRV (AMC sa d 131 [.ref x0] z4.2)) fun h5 =>
     AMV sa d 133 192 [.ref x0, .int x1] [] h5
   else
    AMV sa d 133 224 [.ref x0, .int x1] [] z1.2 :=
  (AMV_T sa d 133 (fun pc => Nat.beq pc 2 || Nat.beq pc 58 || Nat.beq pc 103 || Nat.beq pc 134 || Nat.beq pc 165 || Nat.beq pc 192 || Nat.beq pc 224 || Nat.beq pc 237) 15 _ _ _ h).trans rfl
set_option maxRecDepth 100000 in
theorem eX8_post_224 (sa : Nat → Nat) (d : Nat) (x0 : Nat) (x1 : Int32) (h : AH) : AMV sa d 133 224 [.ref x0, .int x1] [] h =
  aOp (aFI h x0 8 11) fun v1 =>
  if v1 = 0 then
   AMV sa d 133 237 [.ref x0, .int x1] [.int 1, .ref x0] h
  else
   AMV sa d 133 237 [.ref x0, .int x1] [.int 0, .ref x0] h :=
  (AMV_T sa d 133 (fun pc => Nat.beq pc 2 || Nat.beq pc 58 || Nat.beq pc 103 || Nat.beq pc 134 || Nat.beq pc 165 || Nat.beq pc 192 || Nat.beq pc 224 || Nat.beq pc 237) 7 _ _ _ h).trans rfl
set_option maxRecDepth 100000 in
theorem eX8_post_237 (sa : Nat → Nat) (d : Nat) (x0 : Nat) (x1 : Int32) (s0 : Nat) (s1 : Int32) (h : AH) : AMV sa d 133 237 [.ref x0, .int x1] [.int s1, .ref s0] h =
  aOp (aCl h s0 8) fun _ =>
  aOp (aRV (AMC sa d 132 [.ref s0, .int s1] h)) fun h1 =>
  aOp (aFP h1 x0 8 6 (.int 0)) fun h2 =>
  aOp (aCl h2 x0 8) fun _ =>
  aOp (aRI (AMC sa d 124 [.ref x0] h2)) fun z3 =>
  if z3.1 = 0 then
   aOp (aFI z3.2 x0 8 8) fun v4 =>
   some (some (.int ((-1000100) - v4)), z3.2)
  else
   aOp (aFR z3.2 x0 8 14) fun v5 =>
   aOp (aFR z3.2 x0 8 13) fun v6 =>
   aOp (aRV (AMC sa d 112 [.ref v5, .int 0, .ref v6, .int 0] z3.2)) fun h7 =>
   aOp (aFP h7 x0 8 17 (.int 0)) fun h8 =>
   aOp (aFR h8 x0 8 13) fun v9 =>
   aOp (aIL h8 v9 3) fun v10 =>
   some (some (.int v10), h8) :=
  (AMV_T sa d 133 (fun pc => Nat.beq pc 2 || Nat.beq pc 58 || Nat.beq pc 103 || Nat.beq pc 134 || Nat.beq pc 165 || Nat.beq pc 192 || Nat.beq pc 224 || Nat.beq pc 237) 23 _ _ _ h).trans rfl
set_option maxRecDepth 100000 in
theorem eX8_fault_0 (sa : Nat → Nat) (d : Nat) (x0 : Nat) (h : AH) : AMV sa d 134 0 [.ref x0] [] h =
  aOp (aFI h x0 8 7) fun v1 =>
  some (some (.int v1), h) :=
  (AMV_T sa d 134 (fun pc => false) 4 _ _ _ h).trans rfl
set_option maxRecDepth 100000 in
theorem eX8_isPost_0 (sa : Nat → Nat) (d : Nat) (x0 : Nat) (h : AH) : AMV sa d 135 0 [.ref x0] [] h =
  aOp (aFR h x0 8 13) fun v1 =>
  aOp (aIL h v1 3) fun v2 =>
  if v2 ≤ 0 then
   some (some (.int 0), h)
  else
   some (some (.int 1), h) :=
  (AMV_T sa d 135 (fun pc => false) 9 _ _ _ h).trans rfl
set_option maxRecDepth 100000 in
theorem eX8_isLetter_0 (sa : Nat → Nat) (d : Nat) (x0 : Nat) (x1 : Int32) (h : AH) : AMV sa d 136 0 [.ref x0, .int x1] [] h =
  aOp (aFR h x0 8 13) fun v1 =>
  aOp (aIL h v1 3) fun v2 =>
  aOp (aRI (AMC sa d 107 [.int x1, .int 0, .int (v2 - 1)] h)) fun z3 =>
  if z3.1 = 0 ∨ z3.1 = 1 then some (some (.int z3.1), z3.2) else none :=
  (AMV_T sa d 136 (fun pc => false) 11 _ _ _ h).trans rfl
set_option maxRecDepth 100000 in
theorem eX8_isWord_0 (sa : Nat → Nat) (d : Nat) (x0 : Nat) (x1 : Int32) (h : AH) : AMV sa d 137 0 [.ref x0, .int x1] [] h =
  aOp (aFR h x0 8 13) fun v1 =>
  aOp (aIL h v1 2) fun v2 =>
  aOp (aRI (AMC sa d 107 [.int x1, .int 0, .int (v2 - 1)] h)) fun z3 =>
  if z3.1 = 0 ∨ z3.1 = 1 then some (some (.int z3.1), z3.2) else none :=
  (AMV_T sa d 137 (fun pc => false) 11 _ _ _ h).trans rfl
set_option maxRecDepth 100000 in
theorem eX8_unsaid_0 (sa : Nat → Nat) (d : Nat) (x0 : Nat) (x1 : Int32) (h : AH) : AMV sa d 138 0 [.ref x0, .int x1] [] h =
  aOp (aIL h x0 ((12 + (4 * x1)) + 1)) fun v1 =>
  aOp (aIL h x0 ((12 + (4 * x1)) + 2)) fun v2 =>
  some (some (.int (v1 &&& (v2 ^^^ (-1)))), h) :=
  (AMV_T sa d 138 (fun pc => false) 23 _ _ _ h).trans rfl
set_option maxRecDepth 100000 in
theorem eX8_weightBy_0 (sa : Nat → Nat) (d : Nat) (x0 : Nat) (x1 : Int32) (x2 : Int32) (h : AH) : AMV sa d 139 0 [.ref x0, .int x1, .int x2, .null, .null] [] h =
  AMV sa d 139 5 [.ref x0, .int x1, .int x2, .int 0, .int 0] [] h :=
  (AMV_T sa d 139 (fun pc => Nat.beq pc 5 || Nat.beq pc 34) 5 _ _ _ h).trans rfl
set_option maxRecDepth 100000 in
theorem eX8_weightBy_5 (sa : Nat → Nat) (d : Nat) (x0 : Nat) (x1 : Int32) (x2 : Int32) (x3 : Int32) (x4 : Int32) (h : AH) : AMV sa d 139 5 [.ref x0, .int x1, .int x2, .int x3, .int x4] [] h =
  aOp (aIL h x0 2) fun v1 =>
  if v1 ≤ x4 then
   aOp (aIL h x0 (12 + (4 * x1))) fun v2 =>
   if v2 = 1 then
    some (some (.int x3), h)
   else
   if v2 = 2 then
    some (some (.int (2 * x3)), h)
   else
   if v2 = 3 then
    aOp (aIL h x0 ((12 + (4 * x1)) + 2)) fun v3 =>
    if v3 = 0 then
     some (some (.int (x3 + 1)), h)
    else
     some (some (.int x3), h)
   else
   if v2 = 4 then
    some (some (.int (x3 / 2)), h)
   else
   if x3 / 2 ≤ 5 then
    some (some (.int 0), h)
   else
    some (some (.int ((x3 / 2) - 5)), h)
  else
   aOp (aRI (AMC sa d 108 [.int x2, .int x4] h)) fun z4 =>
   if z4.1 = 0 then
    AMV sa d 139 34 [.ref x0, .int x1, .int x2, .int x3, .int x4] [.int 0, .int x3] z4.2
   else
    aOp (aIL z4.2 x0 (6 + x4)) fun v5 =>
    AMV sa d 139 34 [.ref x0, .int x1, .int x2, .int x3, .int x4] [.int v5, .int x3] z4.2 :=
  (AMV_T sa d 139 (fun pc => Nat.beq pc 5 || Nat.beq pc 34) 29 _ _ _ h).trans rfl
set_option maxRecDepth 100000 in
theorem eX8_weightBy_34 (sa : Nat → Nat) (d : Nat) (x0 : Nat) (x1 : Int32) (x2 : Int32) (x3 : Int32) (x4 : Int32) (s0 : Int32) (s1 : Int32) (h : AH) : AMV sa d 139 34 [.ref x0, .int x1, .int x2, .int x3, .int x4] [.int s1, .int s0] h =
  AMV sa d 139 5 [.ref x0, .int x1, .int x2, .int (s0 + s1), .int (x4 + 1)] [] h :=
  (AMV_T sa d 139 (fun pc => Nat.beq pc 5 || Nat.beq pc 34) 5 _ _ _ h).trans rfl
set_option maxRecDepth 100000 in
theorem eX8_weight_0 (sa : Nat → Nat) (d : Nat) (x0 : Nat) (x1 : Int32) (h : AH) : AMV sa d 140 0 [.ref x0, .int x1] [] h =
  aOp (aRI (AMC sa d 138 [.ref x0, .int x1] h)) fun z1 =>
  aOp (aRI (AMC sa d 139 [.ref x0, .int x1, .int z1.1] z1.2)) fun z2 =>
  some (some (.int z2.1), z2.2) :=
  (AMV_T sa d 140 (fun pc => false) 8 _ _ _ h).trans rfl
set_option maxRecDepth 100000 in
theorem eX8_oneOf_0 (sa : Nat → Nat) (d : Nat) (x0 : Nat) (x1 : Int32) (x2 : Int32) (h : AH) : AMV sa d 141 0 [.ref x0, .int x1, .int x2, .null, .null, .null] [] h =
  AMV sa d 141 6 [.ref x0, .int x1, .int x2, .int (-1000000), .int 0, .null] [] h :=
  (AMV_T sa d 141 (fun pc => Nat.beq pc 6 || Nat.beq pc 64 || Nat.beq pc 86) 5 _ _ _ h).trans rfl
set_option maxRecDepth 100000 in
theorem eX8_oneOf_6 (sa : Nat → Nat) (d : Nat) (x0 : Nat) (x1 : Int32) (x2 : Int32) (x3 : Int32) (x4 : Int32) (x5 : Value) (h : AH) : AMV sa d 141 6 [.ref x0, .int x1, .int x2, .int x3, .int x4, x5] [] h =
  aOp (aIL h x0 2) fun v1 =>
  if v1 ≤ x4 then
   if x3 = (-1000000) then
    some (some (.int 0), h)
   else
    some (some (.int (1 <<< (x3 &&& 31))), h)
  else
   if x3 = (-1000000) then
    AMV sa d 141 64 [.ref x0, .int x1, .int x2, .int x3, .int x4, x5] [.int 1] h
   else
    if x2 = 0 then
     aOp (aIL h x0 (6 + x4)) fun v2 =>
     aOp (aIL h x0 (6 + x3)) fun v3 =>
     if v3 ≤ v2 then
      AMV sa d 141 64 [.ref x0, .int x1, .int x2, .int x3, .int x4, x5] [.int 0] h
     else
      AMV sa d 141 64 [.ref x0, .int x1, .int x2, .int x3, .int x4, x5] [.int 1] h
    else
     aOp (aIL h x0 (6 + x4)) fun v4 =>
     aOp (aIL h x0 (6 + x3)) fun v5 =>
     if v4 ≤ v5 then
      AMV sa d 141 64 [.ref x0, .int x1, .int x2, .int x3, .int x4, x5] [.int 0] h
     else
      AMV sa d 141 64 [.ref x0, .int x1, .int x2, .int x3, .int x4, x5] [.int 1] h :=
  (AMV_T sa d 141 (fun pc => Nat.beq pc 6 || Nat.beq pc 64 || Nat.beq pc 86) 25 _ _ _ h).trans rfl
set_option maxRecDepth 100000 in
theorem eX8_oneOf_64 (sa : Nat → Nat) (d : Nat) (x0 : Nat) (x1 : Int32) (x2 : Int32) (x3 : Int32) (x4 : Int32) (x5 : Value) (s0 : Int32) (h : AH) : AMV sa d 141 64 [.ref x0, .int x1, .int x2, .int x3, .int x4, x5] [.int s0] h =
  aOp (aRI (AMC sa d 108 [.int x1, .int x4] h)) fun z1 =>
  if z1.1 = 0 then
   AMV sa d 141 86 [.ref x0, .int x1, .int x2, .int x3, .int x4, .int s0] [.int x3] z1.2
  else
   if s0 = 0 then
    AMV sa d 141 86 [.ref x0, .int x1, .int x2, .int x3, .int x4, .int s0] [.int x3] z1.2
   else
    AMV sa d 141 86 [.ref x0, .int x1, .int x2, .int x3, .int x4, .int s0] [.int x4] z1.2 :=
  (AMV_T sa d 141 (fun pc => Nat.beq pc 6 || Nat.beq pc 64 || Nat.beq pc 86) 10 _ _ _ h).trans rfl
set_option maxRecDepth 100000 in
theorem eX8_oneOf_86 (sa : Nat → Nat) (d : Nat) (x0 : Nat) (x1 : Int32) (x2 : Int32) (x3 : Int32) (x4 : Int32) (x5 : Int32) (s0 : Int32) (h : AH) : AMV sa d 141 86 [.ref x0, .int x1, .int x2, .int x3, .int x4, .int x5] [.int s0] h =
  AMV sa d 141 6 [.ref x0, .int x1, .int x2, .int s0, .int (x4 + 1), .int x5] [] h :=
  (AMV_T sa d 141 (fun pc => Nat.beq pc 6 || Nat.beq pc 64 || Nat.beq pc 86) 4 _ _ _ h).trans rfl
set_option maxRecDepth 100000 in
theorem eX8_blurts_0 (sa : Nat → Nat) (d : Nat) (x0 : Nat) (x1 : Int32) (h : AH) : AMV sa d 142 0 [.ref x0, .int x1, .null] [] h =
  aOp (aRI (AMC sa d 138 [.ref x0, .int x1] h)) fun z1 =>
  aOp (aRI (AMC sa d 140 [.ref x0, .int x1] z1.2)) fun z2 =>
  aOp (aIL z2.2 x0 1) fun v3 =>
  if v3 < z2.1 then
   aOp (aIL z2.2 x0 (12 + (4 * x1))) fun v4 =>
   if v4 = 1 then
    aOp (aRI (AMC sa d 141 [.ref x0, .int z1.1, .int 1] z2.2)) fun z5 =>
    some (some (.int z5.1), z5.2)
   else
   if v4 = 2 then
    aOp (aRI (AMC sa d 141 [.ref x0, .int z1.1, .int 0] z2.2)) fun z6 =>
    some (some (.int z6.1), z6.2)
   else
   if v4 = 3 then
    aOp (aIL z2.2 x0 4) fun v7 =>
    if v7 - v7 / 2 * 2 = 0 then
     aOp (aRI (AMC sa d 141 [.ref x0, .int z1.1, .int 1] z2.2)) fun z8 =>
     some (some (.int z8.1), z8.2)
    else
     some (some (.int 0), z2.2)
   else
   if v4 = 4 then
    some (some (.int 0), z2.2)
   else
   some (some (.int z1.1), z2.2)
  else
   some (some (.int 0), z2.2) :=
  (AMV_T sa d 142 (fun pc => false) 32 _ _ _ h).trans rfl
set_option maxRecDepth 100000 in
theorem eX8_passes_0 (sa : Nat → Nat) (d : Nat) (x0 : Nat) (h : AH) : AMV sa d 143 0 [.ref x0, .null, .null, .null] [] h =
  AMV sa d 143 2 [.ref x0, .int 0, .null, .null] [] h :=
  (AMV_T sa d 143 (fun pc => Nat.beq pc 2 || Nat.beq pc 43 || Nat.beq pc 57 || Nat.beq pc 125) 3 _ _ _ h).trans rfl
set_option maxRecDepth 100000 in
theorem eX8_passes_2 (sa : Nat → Nat) (d : Nat) (x0 : Nat) (x1 : Int32) (h : AH) : AMV sa d 143 2 [.ref x0, .int x1, .null, .null] [] h =
  aOp (aIL h x0 3) fun v1 =>
  if v1 ≤ x1 then
   aOp (aIL h x0 0) fun v2 =>
   AMV sa d 143 57 [.ref x0, .int v2, .int 0, .null] [] h
  else
   aOp (aIL h x0 ((12 + (4 * x1)) + 2)) fun v3 =>
   aOp (aIL h x0 ((12 + (4 * x1)) + 3)) fun v4 =>
   if v4 = 1 then
    AMV sa d 143 43 [.ref x0, .int x1, .null, .null] [.int 0, .int v3, .int ((12 + (4 * x1)) + 2), .ref x0] h
   else
    aOp (aRI (AMC sa d 142 [.ref x0, .int x1] h)) fun z5 =>
    AMV sa d 143 43 [.ref x0, .int x1, .null, .null] [.int z5.1, .int v3, .int ((12 + (4 * x1)) + 2), .ref x0] z5.2 :=
  (AMV_T sa d 143 (fun pc => Nat.beq pc 2 || Nat.beq pc 43 || Nat.beq pc 57 || Nat.beq pc 125) 30 _ _ _ h).trans rfl
set_option maxRecDepth 100000 in
theorem eX8_passes_43 (sa : Nat → Nat) (d : Nat) (x0 : Nat) (x1 : Int32) (s0 : Nat) (s1 : Int32) (s2 : Int32) (s3 : Int32) (h : AH) : AMV sa d 143 43 [.ref x0, .int x1, .null, .null] [.int s3, .int s2, .int s1, .ref s0] h =
  aOp (aIS h s0 s1 (s2 ||| s3)) fun h1 =>
  AMV sa d 143 2 [.ref x0, .int (x1 + 1), .null, .null] [] h1 :=
  (AMV_T sa d 143 (fun pc => Nat.beq pc 2 || Nat.beq pc 43 || Nat.beq pc 57 || Nat.beq pc 125) 5 _ _ _ h).trans rfl
set_option maxRecDepth 100000 in
theorem eX8_passes_57 (sa : Nat → Nat) (d : Nat) (x0 : Nat) (x1 : Int32) (x2 : Int32) (x3 : Value) (h : AH) : AMV sa d 143 57 [.ref x0, .int x1, .int x2, x3] [] h =
  aOp (aIL h x0 3) fun v1 =>
  if v1 ≤ x2 then
   aOp (aIL h x0 4) fun v2 =>
   aOp (aIS h x0 4 (v2 + 1)) fun h3 =>
   some (none, h3)
  else
   aOp (aRI (AMC sa d 140 [.ref x0, .int x2] h)) fun z4 =>
   aOp (aIL z4.2 x0 ((12 + (4 * x2)) + 3)) fun v5 =>
   if v5 = 0 then
    if x1 < z4.1 then
     AMV sa d 143 57 [.ref x0, .int x1, .int (x2 + 1), .int z4.1] [] z4.2
    else
     aOp (aIS z4.2 x0 ((12 + (4 * x2)) + 3) 1) fun h6 =>
     aOp (aIL h6 x0 5) fun v7 =>
     if v7 + z4.1 ≤ 99999 then
      aOp (aIL h6 x0 5) fun v8 =>
      AMV sa d 143 125 [.ref x0, .int (x1 - z4.1), .int x2, .int z4.1] [.int (v8 + z4.1), .int 5, .ref x0] h6
     else
      AMV sa d 143 125 [.ref x0, .int (x1 - z4.1), .int x2, .int z4.1] [.int 99999, .int 5, .ref x0] h6
   else
    AMV sa d 143 57 [.ref x0, .int x1, .int (x2 + 1), .int z4.1] [] z4.2 :=
  (AMV_T sa d 143 (fun pc => Nat.beq pc 2 || Nat.beq pc 43 || Nat.beq pc 57 || Nat.beq pc 125) 51 _ _ _ h).trans rfl
set_option maxRecDepth 100000 in
theorem eX8_passes_125 (sa : Nat → Nat) (d : Nat) (x0 : Nat) (x1 : Int32) (x2 : Int32) (x3 : Int32) (s0 : Nat) (s1 : Int32) (s2 : Int32) (h : AH) : AMV sa d 143 125 [.ref x0, .int x1, .int x2, .int x3] [.int s2, .int s1, .ref s0] h =
  aOp (aIS h s0 s1 s2) fun h1 =>
  AMV sa d 143 57 [.ref x0, .int x1, .int (x2 + 1), .int x3] [] h1 :=
  (AMV_T sa d 143 (fun pc => Nat.beq pc 2 || Nat.beq pc 43 || Nat.beq pc 57 || Nat.beq pc 125) 4 _ _ _ h).trans rfl
set_option maxRecDepth 100000 in
theorem eX8_sentOf_0 (sa : Nat → Nat) (d : Nat) (x0 : Nat) (h : AH) : AMV sa d 144 0 [.ref x0, .null, .null] [] h =
  AMV sa d 144 4 [.ref x0, .int 0, .int 0] [] h :=
  (AMV_T sa d 144 (fun pc => Nat.beq pc 4) 5 _ _ _ h).trans rfl
set_option maxRecDepth 100000 in
theorem eX8_sentOf_4 (sa : Nat → Nat) (d : Nat) (x0 : Nat) (x1 : Int32) (x2 : Int32) (h : AH) : AMV sa d 144 4 [.ref x0, .int x1, .int x2] [] h =
  aOp (aIL h x0 3) fun v1 =>
  if v1 ≤ x2 then
   some (some (.int x1), h)
  else
   aOp (aIL h x0 ((12 + (4 * x2)) + 3)) fun v2 =>
   AMV sa d 144 4 [.ref x0, .int (x1 ||| (v2 <<< (x2 &&& 31))), .int (x2 + 1)] [] h :=
  (AMV_T sa d 144 (fun pc => Nat.beq pc 4) 22 _ _ _ h).trans rfl
set_option maxRecDepth 100000 in
theorem eX8_notes_0 (sa : Nat → Nat) (d : Nat) (x0 : Nat) (h : AH) : AMV sa d 145 0 [.ref x0, .null] [] h =
  aOp (aFI h x0 8 17) fun v1 =>
  if v1 = 24 then
   AMV sa d 145 11 [.ref x0, .int 0] [] h
  else
   AMV sa d 145 49 [.ref x0, .null] [] h :=
  (AMV_T sa d 145 (fun pc => Nat.beq pc 11 || Nat.beq pc 49) 7 _ _ _ h).trans rfl
set_option maxRecDepth 100000 in
theorem eX8_notes_11 (sa : Nat → Nat) (d : Nat) (x0 : Nat) (x1 : Int32) (h : AH) : AMV sa d 145 11 [.ref x0, .int x1] [] h =
  if 920 ≤ x1 then
   aOp (aFI h x0 8 17) fun v1 =>
   aOp (aFP h x0 8 17 (.int (v1 - 1))) fun h2 =>
   AMV sa d 145 49 [.ref x0, .int x1] [] h2
  else
   aOp (aFR h x0 8 16) fun v3 =>
   aOp (aFR h x0 8 16) fun v4 =>
   aOp (aIL h v4 (x1 + 40)) fun v5 =>
   aOp (aIS h v3 x1 v5) fun h6 =>
   AMV sa d 145 11 [.ref x0, .int (x1 + 1)] [] h6 :=
  (AMV_T sa d 145 (fun pc => Nat.beq pc 11 || Nat.beq pc 49) 16 _ _ _ h).trans rfl
set_option maxRecDepth 100000 in
theorem eX8_notes_49 (sa : Nat → Nat) (d : Nat) (x0 : Nat) (x1 : Value) (h : AH) : AMV sa d 145 49 [.ref x0, x1] [] h =
  aOp (aFR h x0 8 13) fun v1 =>
  aOp (aFR h x0 8 16) fun v2 =>
  aOp (aFI h x0 8 17) fun v3 =>
  aOp (aRV (AMC sa d 112 [.ref v1, .int 0, .ref v2, .int (40 * v3)] h)) fun h4 =>
  aOp (aFI h4 x0 8 17) fun v5 =>
  aOp (aFP h4 x0 8 17 (.int (v5 + 1))) fun h6 =>
  some (none, h6) :=
  (AMV_T sa d 145 (fun pc => Nat.beq pc 11 || Nat.beq pc 49) 18 _ _ _ h).trans rfl
set_option maxRecDepth 100000 in
theorem eX8_days_0 (sa : Nat → Nat) (d : Nat) (x0 : Nat) (x1 : Int32) (h : AH) : AMV sa d 146 0 [.ref x0, .int x1, .null] [] h =
  aOp (aCl h x0 8) fun _ =>
  aOp (aRI (AMC sa d 135 [.ref x0] h)) fun z1 =>
  if z1.1 = 0 then
   some (some (.int (-1000002)), z1.2)
  else
   aOp (aRI (AMC sa d 107 [.int x1, .int 1, .int 24] z1.2)) fun z2 =>
   if z2.1 = 0 then
    some (some (.int (-1000001)), z2.2)
   else
    aOp (aFR z2.2 x0 8 13) fun v3 =>
    aOp (aIL z2.2 v3 4) fun v4 =>
    if v4 + x1 ≤ 9999 then
     AMV sa d 146 42 [.ref x0, .int x1, .int 0] [] z2.2
    else
     some (some (.int (-1000003)), z2.2) :=
  (AMV_T sa d 146 (fun pc => Nat.beq pc 42) 19 _ _ _ h).trans rfl
set_option maxRecDepth 100000 in
theorem eX8_days_42 (sa : Nat → Nat) (d : Nat) (x0 : Nat) (x1 : Int32) (x2 : Int32) (h : AH) : AMV sa d 146 42 [.ref x0, .int x1, .int x2] [] h =
  if x1 ≤ x2 then
   aOp (aFR h x0 8 13) fun v1 =>
   aOp (aRI (AMC sa d 144 [.ref v1] h)) fun z2 =>
   some (some (.int z2.1), z2.2)
  else
   aOp (aCl h x0 8) fun _ =>
   aOp (aRV (AMC sa d 145 [.ref x0] h)) fun h3 =>
   aOp (aFR h3 x0 8 13) fun v4 =>
   aOp (aRV (AMC sa d 143 [.ref v4] h3)) fun h5 =>
   AMV sa d 146 42 [.ref x0, .int x1, .int (x2 + 1)] [] h5 :=
  (AMV_T sa d 146 (fun pc => Nat.beq pc 42) 11 _ _ _ h).trans rfl
set_option maxRecDepth 100000 in
theorem eX8_say_0 (sa : Nat → Nat) (d : Nat) (x0 : Nat) (x1 : Int32) (x2 : Int32) (h : AH) : AMV sa d 147 0 [.ref x0, .int x1, .int x2] [] h =
  aOp (aCl h x0 8) fun _ =>
  aOp (aRI (AMC sa d 136 [.ref x0, .int x1] h)) fun z1 =>
  if z1.1 = 0 then
   some (some (.int (-1000001)), z1.2)
  else
   aOp (aCl z1.2 x0 8) fun _ =>
   aOp (aRI (AMC sa d 137 [.ref x0, .int x2] z1.2)) fun z2 =>
   if z2.1 = 0 then
    some (some (.int (-1000001)), z2.2)
   else
    aOp (aFR z2.2 x0 8 13) fun v3 =>
    aOp (aRI (AMC sa d 138 [.ref v3, .int x1] z2.2)) fun z4 =>
    aOp (aRI (AMC sa d 108 [.int z4.1, .int x2] z4.2)) fun z5 =>
    if z5.1 = 0 then
     some (some (.int (-1000002)), z5.2)
    else
     aOp (aCl z5.2 x0 8) fun _ =>
     aOp (aRV (AMC sa d 145 [.ref x0] z5.2)) fun h6 =>
     aOp (aFR h6 x0 8 13) fun v7 =>
     aOp (aIL h6 v7 ((12 + (4 * x1)) + 2)) fun v8 =>
     aOp (aIS h6 v7 ((12 + (4 * x1)) + 2) (v8 ||| (1 <<< (x2 &&& 31)))) fun h9 =>
     aOp (aFR h9 x0 8 13) fun v10 =>
     aOp (aRI (AMC sa d 140 [.ref v10, .int x1] h9)) fun z11 =>
     some (some (.int z11.1), z11.2) :=
  (AMV_T sa d 147 (fun pc => false) 39 _ _ _ h).trans rfl
set_option maxRecDepth 100000 in
theorem eX8_unsay_0 (sa : Nat → Nat) (d : Nat) (x0 : Nat) (x1 : Int32) (x2 : Int32) (h : AH) : AMV sa d 148 0 [.ref x0, .int x1, .int x2] [] h =
  aOp (aCl h x0 8) fun _ =>
  aOp (aRI (AMC sa d 136 [.ref x0, .int x1] h)) fun z1 =>
  if z1.1 = 0 then
   some (some (.int (-1000001)), z1.2)
  else
   aOp (aCl z1.2 x0 8) fun _ =>
   aOp (aRI (AMC sa d 137 [.ref x0, .int x2] z1.2)) fun z2 =>
   if z2.1 = 0 then
    some (some (.int (-1000001)), z2.2)
   else
    aOp (aFR z2.2 x0 8 13) fun v3 =>
    aOp (aIL z2.2 v3 ((12 + (4 * x1)) + 2)) fun v4 =>
    aOp (aRI (AMC sa d 108 [.int v4, .int x2] z2.2)) fun z5 =>
    if z5.1 = 0 then
     some (some (.int (-1000002)), z5.2)
    else
     aOp (aCl z5.2 x0 8) fun _ =>
     aOp (aRV (AMC sa d 145 [.ref x0] z5.2)) fun h6 =>
     aOp (aFR h6 x0 8 13) fun v7 =>
     aOp (aIL h6 v7 ((12 + (4 * x1)) + 2)) fun v8 =>
     aOp (aIS h6 v7 ((12 + (4 * x1)) + 2) (v8 &&& ((1 <<< (x2 &&& 31)) ^^^ (-1)))) fun h9 =>
     aOp (aFR h9 x0 8 13) fun v10 =>
     aOp (aRI (AMC sa d 140 [.ref v10, .int x1] h9)) fun z11 =>
     some (some (.int z11.1), z11.2) :=
  (AMV_T sa d 148 (fun pc => false) 47 _ _ _ h).trans rfl
set_option maxRecDepth 100000 in
theorem eX8_back_0 (sa : Nat → Nat) (d : Nat) (x0 : Nat) (x1 : Int32) (h : AH) : AMV sa d 149 0 [.ref x0, .int x1] [] h =
  aOp (aCl h x0 8) fun _ =>
  aOp (aRI (AMC sa d 136 [.ref x0, .int x1] h)) fun z1 =>
  if z1.1 = 0 then
   some (some (.int (-1000001)), z1.2)
  else
   aOp (aFR z1.2 x0 8 13) fun v2 =>
   aOp (aIL z1.2 v2 ((12 + (4 * x1)) + 3)) fun v3 =>
   if v3 = 0 then
    some (some (.int (-1000002)), z1.2)
   else
    aOp (aCl z1.2 x0 8) fun _ =>
    aOp (aRV (AMC sa d 145 [.ref x0] z1.2)) fun h4 =>
    aOp (aFR h4 x0 8 13) fun v5 =>
    aOp (aIS h4 v5 ((12 + (4 * x1)) + 3) 0) fun h6 =>
    aOp (aFR h6 x0 8 13) fun v7 =>
    aOp (aRI (AMC sa d 140 [.ref v7, .int x1] h6)) fun z8 =>
    some (some (.int z8.1), z8.2) :=
  (AMV_T sa d 149 (fun pc => false) 34 _ _ _ h).trans rfl
set_option maxRecDepth 100000 in
theorem eX8_sets_0 (sa : Nat → Nat) (d : Nat) (x0 : Nat) (x1 : Int32) (x2 : Int32) (h : AH) : AMV sa d 150 0 [.ref x0, .int x1, .int x2, .null] [] h =
  aOp (aCl h x0 8) fun _ =>
  aOp (aRV (AMC sa d 145 [.ref x0] h)) fun h1 =>
  aOp (aFR h1 x0 8 13) fun v2 =>
  aOp (aIL h1 v2 x1) fun v3 =>
  aOp (aFR h1 x0 8 13) fun v4 =>
  aOp (aIS h1 v4 x1 x2) fun h5 =>
  some (some (.int v3), h5) :=
  (AMV_T sa d 150 (fun pc => false) 15 _ _ _ h).trans rfl
set_option maxRecDepth 100000 in
theorem eX8_strap_0 (sa : Nat → Nat) (d : Nat) (x0 : Nat) (x1 : Int32) (h : AH) : AMV sa d 151 0 [.ref x0, .int x1] [] h =
  aOp (aCl h x0 8) fun _ =>
  aOp (aRI (AMC sa d 135 [.ref x0] h)) fun z1 =>
  if z1.1 = 0 then
   some (some (.int (-1000002)), z1.2)
  else
   aOp (aRI (AMC sa d 107 [.int x1, .int 0, .int 99] z1.2)) fun z2 =>
   if z2.1 = 0 then
    some (some (.int (-1000001)), z2.2)
   else
    aOp (aCl z2.2 x0 8) fun _ =>
    aOp (aRI (AMC sa d 150 [.ref x0, .int 0, .int x1] z2.2)) fun z3 =>
    some (some (.int z3.1), z3.2) :=
  (AMV_T sa d 151 (fun pc => false) 15 _ _ _ h).trans rfl
set_option maxRecDepth 100000 in
theorem eX8_limit_0 (sa : Nat → Nat) (d : Nat) (x0 : Nat) (x1 : Int32) (h : AH) : AMV sa d 152 0 [.ref x0, .int x1] [] h =
  aOp (aCl h x0 8) fun _ =>
  aOp (aRI (AMC sa d 135 [.ref x0] h)) fun z1 =>
  if z1.1 = 0 then
   some (some (.int (-1000002)), z1.2)
  else
   aOp (aRI (AMC sa d 107 [.int x1, .int 0, .int 60] z1.2)) fun z2 =>
   if z2.1 = 0 then
    some (some (.int (-1000001)), z2.2)
   else
    aOp (aCl z2.2 x0 8) fun _ =>
    aOp (aRI (AMC sa d 150 [.ref x0, .int 1, .int x1] z2.2)) fun z3 =>
    some (some (.int z3.1), z3.2) :=
  (AMV_T sa d 152 (fun pc => false) 15 _ _ _ h).trans rfl
set_option maxRecDepth 100000 in
theorem eX8_undo_0 (sa : Nat → Nat) (d : Nat) (x0 : Nat) (h : AH) : AMV sa d 153 0 [.ref x0] [] h =
  aOp (aFI h x0 8 17) fun v1 =>
  if v1 = 0 then
   some (some (.int (-1000002)), h)
  else
   aOp (aFI h x0 8 17) fun v2 =>
   aOp (aFP h x0 8 17 (.int (v2 - 1))) fun h3 =>
   aOp (aFR h3 x0 8 16) fun v4 =>
   aOp (aFI h3 x0 8 17) fun v5 =>
   aOp (aFR h3 x0 8 13) fun v6 =>
   aOp (aRV (AMC sa d 112 [.ref v4, .int (40 * v5), .ref v6, .int 0] h3)) fun h7 =>
   aOp (aFI h7 x0 8 17) fun v8 =>
   some (some (.int v8), h7) :=
  (AMV_T sa d 153 (fun pc => false) 23 _ _ _ h).trans rfl
set_option maxRecDepth 100000 in
theorem eX8_letter_0 (sa : Nat → Nat) (d : Nat) (x0 : Nat) (x1 : Int32) (x2 : Int32) (h : AH) : AMV sa d 154 0 [.ref x0, .int x1, .int x2] [] h =
  aOp (aCl h x0 8) fun _ =>
  aOp (aRI (AMC sa d 136 [.ref x0, .int x1] h)) fun z1 =>
  if z1.1 = 0 then
   some (some (.int (-1000001)), z1.2)
  else
   if x2 = 0 then
    aOp (aFR z1.2 x0 8 13) fun v2 =>
    aOp (aIL z1.2 v2 ((12 + (4 * x1)) + 1)) fun v3 =>
    some (some (.int v3), z1.2)
   else
   if x2 = 1 then
    aOp (aFR z1.2 x0 8 13) fun v4 =>
    aOp (aIL z1.2 v4 ((12 + (4 * x1)) + 2)) fun v5 =>
    some (some (.int v5), z1.2)
   else
   if x2 = 2 then
    aOp (aFR z1.2 x0 8 13) fun v6 =>
    aOp (aRI (AMC sa d 138 [.ref v6, .int x1] z1.2)) fun z7 =>
    some (some (.int z7.1), z7.2)
   else
   if x2 = 3 then
    aOp (aFR z1.2 x0 8 13) fun v8 =>
    aOp (aRI (AMC sa d 140 [.ref v8, .int x1] z1.2)) fun z9 =>
    some (some (.int z9.1), z9.2)
   else
   if x2 = 4 then
    aOp (aFR z1.2 x0 8 13) fun v10 =>
    aOp (aIL z1.2 v10 ((12 + (4 * x1)) + 3)) fun v11 =>
    some (some (.int (1 - v11)), z1.2)
   else
   if x2 = 5 then
    aOp (aFR z1.2 x0 8 13) fun v12 =>
    aOp (aRI (AMC sa d 142 [.ref v12, .int x1] z1.2)) fun z13 =>
    some (some (.int z13.1), z13.2)
   else
   some (some (.int (-1000001)), z1.2) :=
  (AMV_T sa d 154 (fun pc => false) 20 _ _ _ h).trans rfl
set_option maxRecDepth 100000 in
theorem eX8_ounces_0 (sa : Nat → Nat) (d : Nat) (x0 : Nat) (x1 : Int32) (h : AH) : AMV sa d 155 0 [.ref x0, .int x1] [] h =
  aOp (aCl h x0 8) fun _ =>
  aOp (aRI (AMC sa d 137 [.ref x0, .int x1] h)) fun z1 =>
  if z1.1 = 0 then
   some (some (.int (-1000001)), z1.2)
  else
   aOp (aFR z1.2 x0 8 13) fun v2 =>
   aOp (aIL z1.2 v2 (6 + x1)) fun v3 =>
   some (some (.int v3), z1.2) :=
  (AMV_T sa d 155 (fun pc => false) 13 _ _ _ h).trans rfl
set_option maxRecDepth 100000 in
theorem eX8_goesOn_0 (sa : Nat → Nat) (d : Nat) (x0 : Nat) (x1 : Int32) (h : AH) : AMV sa d 156 0 [.ref x0, .int x1, .null] [] h =
  AMV sa d 156 2 [.ref x0, .int x1, .int 0] [] h :=
  (AMV_T sa d 156 (fun pc => Nat.beq pc 2) 3 _ _ _ h).trans rfl
set_option maxRecDepth 100000 in
theorem eX8_goesOn_2 (sa : Nat → Nat) (d : Nat) (x0 : Nat) (x1 : Int32) (x2 : Int32) (h : AH) : AMV sa d 156 2 [.ref x0, .int x1, .int x2] [] h =
  if x1 ≤ x2 then
   some (none, h)
  else
   aOp (aFR h x0 8 15) fun v1 =>
   aOp (aRV (AMC sa d 143 [.ref v1] h)) fun h2 =>
   AMV sa d 156 2 [.ref x0, .int x1, .int (x2 + 1)] [] h2 :=
  (AMV_T sa d 156 (fun pc => Nat.beq pc 2) 9 _ _ _ h).trans rfl
set_option maxRecDepth 100000 in
theorem eX8_ahead_0 (sa : Nat → Nat) (d : Nat) (x0 : Nat) (x1 : Int32) (x2 : Int32) (x3 : Int32) (h : AH) : AMV sa d 157 0 [.ref x0, .int x1, .int x2, .int x3] [] h =
  aOp (aCl h x0 8) fun _ =>
  aOp (aRI (AMC sa d 136 [.ref x0, .int x1] h)) fun z1 =>
  if z1.1 = 0 then
   some (some (.int (-1000001)), z1.2)
  else
   aOp (aRI (AMC sa d 107 [.int x2, .int 0, .int 60] z1.2)) fun z2 =>
   if z2.1 = 0 then
    some (some (.int (-1000001)), z2.2)
   else
    aOp (aRI (AMC sa d 107 [.int x3, .int 0, .int 1] z2.2)) fun z3 =>
    if z3.1 = 0 then
     some (some (.int (-1000001)), z3.2)
    else
     aOp (aFR z3.2 x0 8 13) fun v4 =>
     aOp (aFR z3.2 x0 8 15) fun v5 =>
     aOp (aRV (AMC sa d 112 [.ref v4, .int 0, .ref v5, .int 0] z3.2)) fun h6 =>
     aOp (aCl h6 x0 8) fun _ =>
     aOp (aRV (AMC sa d 156 [.ref x0, .int x2] h6)) fun h7 =>
     if x3 = 0 then
      aOp (aFR h7 x0 8 15) fun v8 =>
      aOp (aRI (AMC sa d 140 [.ref v8, .int x1] h7)) fun z9 =>
      some (some (.int z9.1), z9.2)
     else
      aOp (aFR h7 x0 8 15) fun v10 =>
      aOp (aIL h7 v10 ((12 + (4 * x1)) + 2)) fun v11 =>
      some (some (.int v11), h7) :=
  (AMV_T sa d 157 (fun pc => false) 38 _ _ _ h).trans rfl
set_option maxRecDepth 100000 in
theorem eX8_later_0 (sa : Nat → Nat) (d : Nat) (x0 : Nat) (x1 : Int32) (x2 : Int32) (h : AH) : AMV sa d 158 0 [.ref x0, .int x1, .int x2] [] h =
  aOp (aCl h x0 8) fun _ =>
  aOp (aRI (AMC sa d 135 [.ref x0] h)) fun z1 =>
  if z1.1 = 0 then
   some (some (.int (-1000002)), z1.2)
  else
   aOp (aRI (AMC sa d 107 [.int x1, .int 0, .int 60] z1.2)) fun z2 =>
   if z2.1 = 0 then
    some (some (.int (-1000001)), z2.2)
   else
    aOp (aRI (AMC sa d 107 [.int x2, .int 0, .int 1] z2.2)) fun z3 =>
    if z3.1 = 0 then
     some (some (.int (-1000001)), z3.2)
    else
     aOp (aFR z3.2 x0 8 13) fun v4 =>
     aOp (aFR z3.2 x0 8 15) fun v5 =>
     aOp (aRV (AMC sa d 112 [.ref v4, .int 0, .ref v5, .int 0] z3.2)) fun h6 =>
     aOp (aCl h6 x0 8) fun _ =>
     aOp (aRV (AMC sa d 156 [.ref x0, .int x1] h6)) fun h7 =>
     if x2 = 0 then
      aOp (aFR h7 x0 8 15) fun v8 =>
      aOp (aRI (AMC sa d 144 [.ref v8] h7)) fun z9 =>
      some (some (.int z9.1), z9.2)
     else
      aOp (aFR h7 x0 8 15) fun v10 =>
      aOp (aIL h7 v10 5) fun v11 =>
      some (some (.int v11), h7) :=
  (AMV_T sa d 158 (fun pc => false) 31 _ _ _ h).trans rfl
set_option maxRecDepth 100000 in
theorem eX8_when_0 (sa : Nat → Nat) (d : Nat) (x0 : Nat) (x1 : Int32) (h : AH) : AMV sa d 159 0 [.ref x0, .int x1, .null] [] h =
  aOp (aCl h x0 8) fun _ =>
  aOp (aRI (AMC sa d 136 [.ref x0, .int x1] h)) fun z1 =>
  if z1.1 = 0 then
   some (some (.int (-1000001)), z1.2)
  else
   aOp (aFR z1.2 x0 8 13) fun v2 =>
   aOp (aFR z1.2 x0 8 15) fun v3 =>
   aOp (aRV (AMC sa d 112 [.ref v2, .int 0, .ref v3, .int 0] z1.2)) fun h4 =>
   AMV sa d 159 26 [.ref x0, .int x1, .int 0] [] h4 :=
  (AMV_T sa d 159 (fun pc => Nat.beq pc 26) 14 _ _ _ h).trans rfl
set_option maxRecDepth 100000 in
theorem eX8_when_26 (sa : Nat → Nat) (d : Nat) (x0 : Nat) (x1 : Int32) (x2 : Int32) (h : AH) : AMV sa d 159 26 [.ref x0, .int x1, .int x2] [] h =
  if 61 ≤ x2 then
   some (some (.int (-1000000)), h)
  else
   aOp (aFR h x0 8 15) fun v1 =>
   aOp (aIL h v1 ((12 + (4 * x1)) + 3)) fun v2 =>
   if v2 = 1 then
    some (some (.int x2), h)
   else
    aOp (aFR h x0 8 15) fun v3 =>
    aOp (aRV (AMC sa d 143 [.ref v3] h)) fun h4 =>
    AMV sa d 159 26 [.ref x0, .int x1, .int (x2 + 1)] [] h4 :=
  (AMV_T sa d 159 (fun pc => Nat.beq pc 26) 21 _ _ _ h).trans rfl
set_option maxRecDepth 100000 in
theorem eX8_lighten_0 (sa : Nat → Nat) (d : Nat) (x0 : Nat) (x1 : Int32) (x2 : Int32) (x3 : Int32) (h : AH) : AMV sa d 160 0 [.ref x0, .int x1, .int x2, .int x3, .null, .null, .null, .null] [] h =
  aOp (aCl h x0 8) fun _ =>
  aOp (aRI (AMC sa d 136 [.ref x0, .int x1] h)) fun z1 =>
  if z1.1 = 0 then
   some (some (.int (-1000001)), z1.2)
  else
   aOp (aRI (AMC sa d 107 [.int x2, .int 0, .int 99] z1.2)) fun z2 =>
   if z2.1 = 0 then
    some (some (.int (-1000001)), z2.2)
   else
    aOp (aRI (AMC sa d 107 [.int x3, .int 0, .int 1] z2.2)) fun z3 =>
    if z3.1 = 0 then
     some (some (.int (-1000001)), z3.2)
    else
     aOp (aFR z3.2 x0 8 13) fun v4 =>
     aOp (aRI (AMC sa d 138 [.ref v4, .int x1] z3.2)) fun z5 =>
     AMV sa d 160 47 [.ref x0, .int x1, .int x2, .int x3, .int z5.1, .int (-1000000), .int 0, .null] [] z5.2 :=
  (AMV_T sa d 160 (fun pc => Nat.beq pc 47 || Nat.beq pc 120 || Nat.beq pc 146) 24 _ _ _ h).trans rfl
set_option maxRecDepth 100000 in
theorem eX8_lighten_47 (sa : Nat → Nat) (d : Nat) (x0 : Nat) (x1 : Int32) (x2 : Int32) (x3 : Int32) (x4 : Int32) (x5 : Int32) (x6 : Int32) (x7 : Value) (h : AH) : AMV sa d 160 47 [.ref x0, .int x1, .int x2, .int x3, .int x4, .int x5, .int x6, x7] [] h =
  if x4 < x6 then
   if x5 = (-1000000) then
    some (some (.int x5), h)
   else
    if x3 = 1 then
     some (some (.int x5), h)
    else
     aOp (aRI (AMC sa d 109 [.int x5] h)) fun z1 =>
     some (some (.int z1.1), z1.2)
  else
   if x6 &&& (x4 ^^^ (-1)) = 0 then
    aOp (aFR h x0 8 13) fun v2 =>
    aOp (aFR h x0 8 15) fun v3 =>
    aOp (aRV (AMC sa d 112 [.ref v2, .int 0, .ref v3, .int 0] h)) fun h4 =>
    aOp (aFR h4 x0 8 15) fun v5 =>
    aOp (aIL h4 v5 ((12 + (4 * x1)) + 2)) fun v6 =>
    aOp (aIS h4 v5 ((12 + (4 * x1)) + 2) (v6 ||| x6)) fun h7 =>
    if x5 = (-1000000) then
     AMV sa d 160 120 [.ref x0, .int x1, .int x2, .int x3, .int x4, .int x5, .int x6, x7] [.int 1] h7
    else
     aOp (aRI (AMC sa d 109 [.int x6] h7)) fun z8 =>
     aOp (aRI (AMC sa d 109 [.int x5] z8.2)) fun z9 =>
     if z9.1 ≤ z8.1 then
      AMV sa d 160 120 [.ref x0, .int x1, .int x2, .int x3, .int x4, .int x5, .int x6, x7] [.int 0] z9.2
     else
      AMV sa d 160 120 [.ref x0, .int x1, .int x2, .int x3, .int x4, .int x5, .int x6, x7] [.int 1] z9.2
   else
    AMV sa d 160 47 [.ref x0, .int x1, .int x2, .int x3, .int x4, .int x5, .int (x6 + 1), x7] [] h :=
  (AMV_T sa d 160 (fun pc => Nat.beq pc 47 || Nat.beq pc 120 || Nat.beq pc 146) 41 _ _ _ h).trans rfl
set_option maxRecDepth 100000 in
theorem eX8_lighten_120 (sa : Nat → Nat) (d : Nat) (x0 : Nat) (x1 : Int32) (x2 : Int32) (x3 : Int32) (x4 : Int32) (x5 : Int32) (x6 : Int32) (x7 : Value) (s0 : Int32) (h : AH) : AMV sa d 160 120 [.ref x0, .int x1, .int x2, .int x3, .int x4, .int x5, .int x6, x7] [.int s0] h =
  if s0 = 0 then
   AMV sa d 160 146 [.ref x0, .int x1, .int x2, .int x3, .int x4, .int x5, .int x6, .int s0] [.int x5] h
  else
   aOp (aFR h x0 8 15) fun v1 =>
   aOp (aRI (AMC sa d 140 [.ref v1, .int x1] h)) fun z2 =>
   if x2 < z2.1 then
    AMV sa d 160 146 [.ref x0, .int x1, .int x2, .int x3, .int x4, .int x5, .int x6, .int s0] [.int x5] z2.2
   else
    AMV sa d 160 146 [.ref x0, .int x1, .int x2, .int x3, .int x4, .int x5, .int x6, .int s0] [.int x6] z2.2 :=
  (AMV_T sa d 160 (fun pc => Nat.beq pc 47 || Nat.beq pc 120 || Nat.beq pc 146) 12 _ _ _ h).trans rfl
set_option maxRecDepth 100000 in
theorem eX8_lighten_146 (sa : Nat → Nat) (d : Nat) (x0 : Nat) (x1 : Int32) (x2 : Int32) (x3 : Int32) (x4 : Int32) (x5 : Int32) (x6 : Int32) (x7 : Int32) (s0 : Int32) (h : AH) : AMV sa d 160 146 [.ref x0, .int x1, .int x2, .int x3, .int x4, .int x5, .int x6, .int x7] [.int s0] h =
  AMV sa d 160 47 [.ref x0, .int x1, .int x2, .int x3, .int x4, .int s0, .int (x6 + 1), .int x7] [] h :=
  (AMV_T sa d 160 (fun pc => Nat.beq pc 47 || Nat.beq pc 120 || Nat.beq pc 146) 4 _ _ _ h).trans rfl
set_option maxRecDepth 100000 in
theorem eX8_guess_0 (sa : Nat → Nat) (d : Nat) (x0 : Nat) (x1 : Int32) (x2 : Int32) (h : AH) : AMV sa d 161 0 [.ref x0, .int x1, .int x2, .null, .null, .null, .null, .null] [] h =
  aOp (aCl h x0 8) fun _ =>
  aOp (aRI (AMC sa d 136 [.ref x0, .int x1] h)) fun z1 =>
  if z1.1 = 0 then
   some (some (.int (-1000001)), z1.2)
  else
   aOp (aRI (AMC sa d 107 [.int x2, .int 0, .int 1] z1.2)) fun z2 =>
   if z2.1 = 0 then
    some (some (.int (-1000001)), z2.2)
   else
    aOp (aFR z2.2 x0 8 13) fun v3 =>
    aOp (aIL z2.2 v3 2) fun v4 =>
    AMV sa d 161 40 [.ref x0, .int x1, .int x2, .int ((1 <<< (v4 &&& 31)) - 1), .int ((1 <<< (v4 &&& 31)) - 1), .int 0, .int 0, .null] [] z2.2 :=
  (AMV_T sa d 161 (fun pc => Nat.beq pc 40 || Nat.beq pc 91 || Nat.beq pc 106 || Nat.beq pc 121) 25 _ _ _ h).trans rfl
set_option maxRecDepth 100000 in
theorem eX8_guess_40 (sa : Nat → Nat) (d : Nat) (x0 : Nat) (x1 : Int32) (x2 : Int32) (x3 : Int32) (x4 : Int32) (x5 : Int32) (x6 : Int32) (x7 : Value) (h : AH) : AMV sa d 161 40 [.ref x0, .int x1, .int x2, .int x3, .int x4, .int x5, .int x6, x7] [] h =
  if x3 < x6 then
   if x2 = 0 then
    some (some (.int x5), h)
   else
    some (some (.int x4), h)
  else
   aOp (aFR h x0 8 13) fun v1 =>
   aOp (aIL h v1 ((12 + (4 * x1)) + 2)) fun v2 =>
   if x6 &&& v2 = 0 then
    aOp (aFR h x0 8 13) fun v3 =>
    aOp (aRI (AMC sa d 139 [.ref v3, .int x1, .int x6] h)) fun z4 =>
    aOp (aFR z4.2 x0 8 13) fun v5 =>
    aOp (aRI (AMC sa d 140 [.ref v5, .int x1] z4.2)) fun z6 =>
    if z4.1 = z6.1 then
     AMV sa d 161 91 [.ref x0, .int x1, .int x2, .int x3, .int x4, .int x5, .int x6, x7] [.int 1] z6.2
    else
     AMV sa d 161 91 [.ref x0, .int x1, .int x2, .int x3, .int x4, .int x5, .int x6, x7] [.int 0] z6.2
   else
    AMV sa d 161 91 [.ref x0, .int x1, .int x2, .int x3, .int x4, .int x5, .int x6, x7] [.int 0] h :=
  (AMV_T sa d 161 (fun pc => Nat.beq pc 40 || Nat.beq pc 91 || Nat.beq pc 106 || Nat.beq pc 121) 29 _ _ _ h).trans rfl
set_option maxRecDepth 100000 in
theorem eX8_guess_91 (sa : Nat → Nat) (d : Nat) (x0 : Nat) (x1 : Int32) (x2 : Int32) (x3 : Int32) (x4 : Int32) (x5 : Int32) (x6 : Int32) (x7 : Value) (s0 : Int32) (h : AH) : AMV sa d 161 91 [.ref x0, .int x1, .int x2, .int x3, .int x4, .int x5, .int x6, x7] [.int s0] h =
  if s0 = 0 then
   AMV sa d 161 106 [.ref x0, .int x1, .int x2, .int x3, .int x4, .int x5, .int x6, .int s0] [.int x3, .int x4] h
  else
   AMV sa d 161 106 [.ref x0, .int x1, .int x2, .int x3, .int x4, .int x5, .int x6, .int s0] [.int x6, .int x4] h :=
  (AMV_T sa d 161 (fun pc => Nat.beq pc 40 || Nat.beq pc 91 || Nat.beq pc 106 || Nat.beq pc 121) 7 _ _ _ h).trans rfl
set_option maxRecDepth 100000 in
theorem eX8_guess_106 (sa : Nat → Nat) (d : Nat) (x0 : Nat) (x1 : Int32) (x2 : Int32) (x3 : Int32) (x4 : Int32) (x5 : Int32) (x6 : Int32) (x7 : Int32) (s0 : Int32) (s1 : Int32) (h : AH) : AMV sa d 161 106 [.ref x0, .int x1, .int x2, .int x3, .int x4, .int x5, .int x6, .int x7] [.int s1, .int s0] h =
  if x7 = 0 then
   AMV sa d 161 121 [.ref x0, .int x1, .int x2, .int x3, .int (s0 &&& s1), .int x5, .int x6, .int x7] [.int 0, .int x5] h
  else
   AMV sa d 161 121 [.ref x0, .int x1, .int x2, .int x3, .int (s0 &&& s1), .int x5, .int x6, .int x7] [.int 1, .int x5] h :=
  (AMV_T sa d 161 (fun pc => Nat.beq pc 40 || Nat.beq pc 91 || Nat.beq pc 106 || Nat.beq pc 121) 8 _ _ _ h).trans rfl
set_option maxRecDepth 100000 in
theorem eX8_guess_121 (sa : Nat → Nat) (d : Nat) (x0 : Nat) (x1 : Int32) (x2 : Int32) (x3 : Int32) (x4 : Int32) (x5 : Int32) (x6 : Int32) (x7 : Int32) (s0 : Int32) (s1 : Int32) (h : AH) : AMV sa d 161 121 [.ref x0, .int x1, .int x2, .int x3, .int x4, .int x5, .int x6, .int x7] [.int s1, .int s0] h =
  AMV sa d 161 40 [.ref x0, .int x1, .int x2, .int x3, .int x4, .int (s0 + s1), .int (x6 + 1), .int x7] [] h :=
  (AMV_T sa d 161 (fun pc => Nat.beq pc 40 || Nat.beq pc 91 || Nat.beq pc 106 || Nat.beq pc 121) 5 _ _ _ h).trans rfl
set_option maxRecDepth 100000 in
theorem eX8_waiting_0 (sa : Nat → Nat) (d : Nat) (x0 : Nat) (h : AH) : AMV sa d 162 0 [.ref x0] [] h =
  aOp (aFR h x0 8 13) fun v1 =>
  aOp (aIL h v1 3) fun v2 =>
  aOp (aFR h x0 8 13) fun v3 =>
  aOp (aRI (AMC sa d 144 [.ref v3] h)) fun z4 =>
  some (some (.int (((1 <<< (v2 &&& 31)) - 1) &&& (z4.1 ^^^ (-1)))), z4.2) :=
  (AMV_T sa d 162 (fun pc => false) 16 _ _ _ h).trans rfl
set_option maxRecDepth 100000 in
theorem eX8_load_0 (sa : Nat → Nat) (d : Nat) (x0 : Nat) (x1 : Int32) (x2 : Int32) (h : AH) : AMV sa d 163 0 [.ref x0, .int x1, .int x2, .null, .null, .null, .null, .null, .null] [] h =
  aOp (aCl h x0 8) fun _ =>
  aOp (aRI (AMC sa d 135 [.ref x0] h)) fun z1 =>
  if z1.1 = 0 then
   some (some (.int (-1000002)), z1.2)
  else
   aOp (aRI (AMC sa d 107 [.int x1, .int 0, .int 99] z1.2)) fun z2 =>
   if z2.1 = 0 then
    some (some (.int (-1000001)), z2.2)
   else
    aOp (aRI (AMC sa d 107 [.int x2, .int 0, .int 1] z2.2)) fun z3 =>
    if z3.1 = 0 then
     some (some (.int (-1000001)), z3.2)
    else
     aOp (aCl z3.2 x0 8) fun _ =>
     aOp (aRI (AMC sa d 162 [.ref x0] z3.2)) fun z4 =>
     AMV sa d 163 46 [.ref x0, .int x1, .int x2, .int z4.1, .int 0, .int 0, .int 0, .null, .null] [] z4.2 :=
  (AMV_T sa d 163 (fun pc => Nat.beq pc 46 || Nat.beq pc 58 || Nat.beq pc 94 || Nat.beq pc 135) 23 _ _ _ h).trans rfl
set_option maxRecDepth 100000 in
theorem eX8_load_46 (sa : Nat → Nat) (d : Nat) (x0 : Nat) (x1 : Int32) (x2 : Int32) (x3 : Int32) (x4 : Int32) (x5 : Int32) (x6 : Int32) (x7 : Value) (x8 : Value) (h : AH) : AMV sa d 163 46 [.ref x0, .int x1, .int x2, .int x3, .int x4, .int x5, .int x6, x7, x8] [] h =
  if x3 < x6 then
   if x2 = 0 then
    some (some (.int x4), h)
   else
    some (some (.int x5), h)
  else
   AMV sa d 163 58 [.ref x0, .int x1, .int x2, .int x3, .int x4, .int x5, .int x6, .int 0, .int 0] [] h :=
  (AMV_T sa d 163 (fun pc => Nat.beq pc 46 || Nat.beq pc 58 || Nat.beq pc 94 || Nat.beq pc 135) 9 _ _ _ h).trans rfl
set_option maxRecDepth 100000 in
theorem eX8_load_58 (sa : Nat → Nat) (d : Nat) (x0 : Nat) (x1 : Int32) (x2 : Int32) (x3 : Int32) (x4 : Int32) (x5 : Int32) (x6 : Int32) (x7 : Int32) (x8 : Int32) (h : AH) : AMV sa d 163 58 [.ref x0, .int x1, .int x2, .int x3, .int x4, .int x5, .int x6, .int x7, .int x8] [] h =
  aOp (aFR h x0 8 13) fun v1 =>
  aOp (aIL h v1 3) fun v2 =>
  if v2 ≤ x8 then
   if x5 < x7 then
    AMV sa d 163 135 [.ref x0, .int x1, .int x2, .int x3, .int x4, .int x5, .int x6, .int x7, .int x8] [.int 1] h
   else
    if x7 = x5 then
     aOp (aRI (AMC sa d 109 [.int x6] h)) fun z3 =>
     aOp (aRI (AMC sa d 109 [.int x4] z3.2)) fun z4 =>
     if z3.1 ≤ z4.1 then
      AMV sa d 163 135 [.ref x0, .int x1, .int x2, .int x3, .int x4, .int x5, .int x6, .int x7, .int x8] [.int 0] z4.2
     else
      AMV sa d 163 135 [.ref x0, .int x1, .int x2, .int x3, .int x4, .int x5, .int x6, .int x7, .int x8] [.int 1] z4.2
    else
     AMV sa d 163 135 [.ref x0, .int x1, .int x2, .int x3, .int x4, .int x5, .int x6, .int x7, .int x8] [.int 0] h
  else
   aOp (aRI (AMC sa d 108 [.int x6, .int x8] h)) fun z5 =>
   if z5.1 = 0 then
    AMV sa d 163 94 [.ref x0, .int x1, .int x2, .int x3, .int x4, .int x5, .int x6, .int x7, .int x8] [.int 0, .int x7] z5.2
   else
    aOp (aFR z5.2 x0 8 13) fun v6 =>
    aOp (aRI (AMC sa d 140 [.ref v6, .int x8] z5.2)) fun z7 =>
    AMV sa d 163 94 [.ref x0, .int x1, .int x2, .int x3, .int x4, .int x5, .int x6, .int x7, .int x8] [.int z7.1, .int x7] z7.2 :=
  (AMV_T sa d 163 (fun pc => Nat.beq pc 46 || Nat.beq pc 58 || Nat.beq pc 94 || Nat.beq pc 135) 20 _ _ _ h).trans rfl
set_option maxRecDepth 100000 in
theorem eX8_load_94 (sa : Nat → Nat) (d : Nat) (x0 : Nat) (x1 : Int32) (x2 : Int32) (x3 : Int32) (x4 : Int32) (x5 : Int32) (x6 : Int32) (x7 : Int32) (x8 : Int32) (s0 : Int32) (s1 : Int32) (h : AH) : AMV sa d 163 94 [.ref x0, .int x1, .int x2, .int x3, .int x4, .int x5, .int x6, .int x7, .int x8] [.int s1, .int s0] h =
  AMV sa d 163 58 [.ref x0, .int x1, .int x2, .int x3, .int x4, .int x5, .int x6, .int (s0 + s1), .int (x8 + 1)] [] h :=
  (AMV_T sa d 163 (fun pc => Nat.beq pc 46 || Nat.beq pc 58 || Nat.beq pc 94 || Nat.beq pc 135) 5 _ _ _ h).trans rfl
set_option maxRecDepth 100000 in
theorem eX8_load_135 (sa : Nat → Nat) (d : Nat) (x0 : Nat) (x1 : Int32) (x2 : Int32) (x3 : Int32) (x4 : Int32) (x5 : Int32) (x6 : Int32) (x7 : Int32) (x8 : Int32) (s0 : Int32) (h : AH) : AMV sa d 163 135 [.ref x0, .int x1, .int x2, .int x3, .int x4, .int x5, .int x6, .int x7, .int x8] [.int s0] h =
  if x6 &&& (x3 ^^^ (-1)) = 0 then
   if x1 < x7 then
    AMV sa d 163 46 [.ref x0, .int x1, .int x2, .int x3, .int x4, .int x5, .int (x6 + 1), .int x7, .int s0] [] h
   else
    if s0 = 0 then
     AMV sa d 163 46 [.ref x0, .int x1, .int x2, .int x3, .int x4, .int x5, .int (x6 + 1), .int x7, .int s0] [] h
    else
     AMV sa d 163 46 [.ref x0, .int x1, .int x2, .int x3, .int x6, .int x7, .int (x6 + 1), .int x7, .int s0] [] h
  else
   AMV sa d 163 46 [.ref x0, .int x1, .int x2, .int x3, .int x4, .int x5, .int (x6 + 1), .int x7, .int s0] [] h :=
  (AMV_T sa d 163 (fun pc => Nat.beq pc 46 || Nat.beq pc 58 || Nat.beq pc 94 || Nat.beq pc 135) 19 _ _ _ h).trans rfl
set_option maxRecDepth 100000 in
theorem eX8_claim_0 (sa : Nat → Nat) (d : Nat) (x0 : Nat) (x1 : Int32) (h : AH) : AMV sa d 164 0 [.ref x0, .int x1] [] h =
  aOp (aFR h x0 8 13) fun v1 =>
  aOp (aIL h v1 ((12 + (4 * x1)) + 3)) fun v2 =>
  if v2 = 1 then
   some (some (.int 0), h)
  else
   aOp (aFR h x0 8 13) fun v3 =>
   aOp (aRI (AMC sa d 140 [.ref v3, .int x1] h)) fun z4 =>
   some (some (.int z4.1), z4.2) :=
  (AMV_T sa d 164 (fun pc => false) 18 _ _ _ h).trans rfl
set_option maxRecDepth 100000 in
theorem eX8_share_0 (sa : Nat → Nat) (d : Nat) (x0 : Nat) (x1 : Int32) (x2 : Int32) (h : AH) : AMV sa d 165 0 [.ref x0, .int x1, .int x2, .null, .null, .null, .null] [] h =
  aOp (aCl h x0 8) fun _ =>
  aOp (aRI (AMC sa d 136 [.ref x0, .int x1] h)) fun z1 =>
  if z1.1 = 0 then
   some (some (.int (-1000001)), z1.2)
  else
   aOp (aRI (AMC sa d 107 [.int x2, .int 0, .int 999] z1.2)) fun z2 =>
   if z2.1 = 0 then
    some (some (.int (-1000001)), z2.2)
   else
    AMV sa d 165 27 [.ref x0, .int x1, .int x2, .int 0, .int 0, .null, .null] [] z2.2 :=
  (AMV_T sa d 165 (fun pc => Nat.beq pc 27 || Nat.beq pc 72 || Nat.beq pc 120) 14 _ _ _ h).trans rfl
set_option maxRecDepth 100000 in
theorem eX8_share_27 (sa : Nat → Nat) (d : Nat) (x0 : Nat) (x1 : Int32) (x2 : Int32) (x3 : Int32) (x4 : Int32) (h : AH) : AMV sa d 165 27 [.ref x0, .int x1, .int x2, .int x3, .int x4, .null, .null] [] h =
  aOp (aFR h x0 8 13) fun v1 =>
  aOp (aIL h v1 3) fun v2 =>
  if v2 ≤ x4 then
   aOp (aCl h x0 8) fun _ =>
   aOp (aRI (AMC sa d 164 [.ref x0, .int x1] h)) fun z3 =>
   if z3.1 = 0 then
    some (some (.int 0), z3.2)
   else
    AMV sa d 165 72 [.ref x0, .int x1, .int x2, .int x3, .int x2, .int 0, .int 0] [] z3.2
  else
   aOp (aCl h x0 8) fun _ =>
   aOp (aRI (AMC sa d 164 [.ref x0, .int x4] h)) fun z4 =>
   AMV sa d 165 27 [.ref x0, .int x1, .int x2, .int (x3 + z4.1), .int (x4 + 1), .null, .null] [] z4.2 :=
  (AMV_T sa d 165 (fun pc => Nat.beq pc 27 || Nat.beq pc 72 || Nat.beq pc 120) 17 _ _ _ h).trans rfl
set_option maxRecDepth 100000 in
theorem eX8_share_72 (sa : Nat → Nat) (d : Nat) (x0 : Nat) (x1 : Int32) (x2 : Int32) (x3 : Int32) (x4 : Int32) (x5 : Int32) (x6 : Int32) (h : AH) : AMV sa d 165 72 [.ref x0, .int x1, .int x2, .int x3, .int x4, .int x5, .int x6] [] h =
  aOp (aFR h x0 8 13) fun v1 =>
  aOp (aIL h v1 3) fun v2 =>
  if v2 ≤ x6 then
   aOp (aCl h x0 8) fun _ =>
   aOp (aRI (AMC sa d 164 [.ref x0, .int x1] h)) fun z3 =>
   if x3 = 0 then none else
   if x4 ≤ x5 then
    some (some (.int (((x2 * z3.1) / x3) + 0)), z3.2)
   else
    some (some (.int (((x2 * z3.1) / x3) + 1)), z3.2)
  else
   aOp (aCl h x0 8) fun _ =>
   aOp (aRI (AMC sa d 164 [.ref x0, .int x6] h)) fun z4 =>
   if x3 = 0 then none else
   if x1 ≤ x6 then
    AMV sa d 165 120 [.ref x0, .int x1, .int x2, .int x3, .int (x4 - ((x2 * z4.1) / x3)), .int x5, .int x6] [.int 0, .int x5] z4.2
   else
    aOp (aCl z4.2 x0 8) fun _ =>
    aOp (aRI (AMC sa d 164 [.ref x0, .int x6] z4.2)) fun z5 =>
    if z5.1 ≤ 0 then
     AMV sa d 165 120 [.ref x0, .int x1, .int x2, .int x3, .int (x4 - ((x2 * z4.1) / x3)), .int x5, .int x6] [.int 0, .int x5] z5.2
    else
     AMV sa d 165 120 [.ref x0, .int x1, .int x2, .int x3, .int (x4 - ((x2 * z4.1) / x3)), .int x5, .int x6] [.int 1, .int x5] z5.2 :=
  (AMV_T sa d 165 (fun pc => Nat.beq pc 27 || Nat.beq pc 72 || Nat.beq pc 120) 27 _ _ _ h).trans rfl
set_option maxRecDepth 100000 in
theorem eX8_share_120 (sa : Nat → Nat) (d : Nat) (x0 : Nat) (x1 : Int32) (x2 : Int32) (x3 : Int32) (x4 : Int32) (x5 : Int32) (x6 : Int32) (s0 : Int32) (s1 : Int32) (h : AH) : AMV sa d 165 120 [.ref x0, .int x1, .int x2, .int x3, .int x4, .int x5, .int x6] [.int s1, .int s0] h =
  AMV sa d 165 72 [.ref x0, .int x1, .int x2, .int x3, .int x4, .int (s0 + s1), .int (x6 + 1)] [] h :=
  (AMV_T sa d 165 (fun pc => Nat.beq pc 27 || Nat.beq pc 72 || Nat.beq pc 120) 5 _ _ _ h).trans rfl
set_option maxRecDepth 100000 in
theorem eX8_weighsSo_0 (sa : Nat → Nat) (d : Nat) (x0 : Nat) (x1 : Int32) (x2 : Int32) (x3 : Int32) (x4 : Int32) (x5 : Int32) (h : AH) : AMV sa d 166 0 [.ref x0, .int x1, .int x2, .int x3, .int x4, .int x5, .null, .null] [] h =
  aOp (aFR h x0 8 13) fun v1 =>
  aOp (aFR h x0 8 15) fun v2 =>
  aOp (aRV (AMC sa d 112 [.ref v1, .int 0, .ref v2, .int 0] h)) fun h3 =>
  aOp (aFR h3 x0 8 15) fun v4 =>
  aOp (aIS h3 v4 x4 x5) fun h5 =>
  AMV sa d 166 28 [.ref x0, .int x1, .int x2, .int x3, .int x4, .int x5, .int 1, .int 0] [] h5 :=
  (AMV_T sa d 166 (fun pc => Nat.beq pc 28 || Nat.beq pc 71) 17 _ _ _ h).trans rfl
set_option maxRecDepth 100000 in
theorem eX8_weighsSo_28 (sa : Nat → Nat) (d : Nat) (x0 : Nat) (x1 : Int32) (x2 : Int32) (x3 : Int32) (x4 : Int32) (x5 : Int32) (x6 : Int32) (x7 : Int32) (h : AH) : AMV sa d 166 28 [.ref x0, .int x1, .int x2, .int x3, .int x4, .int x5, .int x6, .int x7] [] h =
  if x3 ≤ x7 then
   if x6 = 0 ∨ x6 = 1 then some (some (.int x6), h) else none
  else
   aOp (aFR h x0 8 15) fun v1 =>
   aOp (aRV (AMC sa d 143 [.ref v1] h)) fun h2 =>
   if x6 = 0 then
    AMV sa d 166 71 [.ref x0, .int x1, .int x2, .int x3, .int x4, .int x5, .int x6, .int x7] [.int 0] h2
   else
    aOp (aFR h2 x0 8 15) fun v3 =>
    aOp (aRI (AMC sa d 140 [.ref v3, .int x1] h2)) fun z4 =>
    aOp (aFR z4.2 x0 8 2) fun v5 =>
    aOp (aIL z4.2 v5 (x2 + x7)) fun v6 =>
    if z4.1 = v6 then
     AMV sa d 166 71 [.ref x0, .int x1, .int x2, .int x3, .int x4, .int x5, .int x6, .int x7] [.int 1] z4.2
    else
     AMV sa d 166 71 [.ref x0, .int x1, .int x2, .int x3, .int x4, .int x5, .int x6, .int x7] [.int 0] z4.2 :=
  (AMV_T sa d 166 (fun pc => Nat.beq pc 28 || Nat.beq pc 71) 22 _ _ _ h).trans rfl
set_option maxRecDepth 100000 in
theorem eX8_weighsSo_71 (sa : Nat → Nat) (d : Nat) (x0 : Nat) (x1 : Int32) (x2 : Int32) (x3 : Int32) (x4 : Int32) (x5 : Int32) (x6 : Int32) (x7 : Int32) (s0 : Int32) (h : AH) : AMV sa d 166 71 [.ref x0, .int x1, .int x2, .int x3, .int x4, .int x5, .int x6, .int x7] [.int s0] h =
  AMV sa d 166 28 [.ref x0, .int x1, .int x2, .int x3, .int x4, .int x5, .int s0, .int (x7 + 1)] [] h :=
  (AMV_T sa d 166 (fun pc => Nat.beq pc 28 || Nat.beq pc 71) 4 _ _ _ h).trans rfl
set_option maxRecDepth 100000 in
theorem eX8_fits_0 (sa : Nat → Nat) (d : Nat) (x0 : Nat) (x1 : Int32) (x2 : Int32) (x3 : Int32) (x4 : Int32) (x5 : Int32) (h : AH) : AMV sa d 167 0 [.ref x0, .int x1, .int x2, .int x3, .int x4, .int x5, .null, .null, .null, .null, .null, .null, .null, .null, .null] [] h =
  aOp (aCl h x0 8) fun _ =>
  aOp (aRI (AMC sa d 136 [.ref x0, .int x1] h)) fun z1 =>
  if z1.1 = 0 then
   some (some (.int (-1000001)), z1.2)
  else
   aOp (aRI (AMC sa d 113 [.int x2] z1.2)) fun z2 =>
   if z2.1 = 0 then
    some (some (.int (-1000001)), z2.2)
   else
    aOp (aRI (AMC sa d 107 [.int x4, .int 1, .int 12] z2.2)) fun z3 =>
    if z3.1 = 0 then
     some (some (.int (-1000001)), z3.2)
    else
     aOp (aRI (AMC sa d 107 [.int x5, .int 0, .int 4] z3.2)) fun z4 =>
     if z4.1 = 0 then
      some (some (.int (-1000001)), z4.2)
     else
      aOp (aCl z4.2 x0 8) fun _ =>
      aOp (aRI (AMC sa d 114 [.ref x0, .int x2] z4.2)) fun z5 =>
      if z5.1 = 0 then
       aOp (aCl z5.2 x0 8) fun _ =>
       aOp (aRI (AMC sa d 118 [.ref x0, .int x2, .int x3, .int x4] z5.2)) fun z6 =>
       if z6.1 = 0 then
        aOp (aCl z6.2 x0 8) fun _ =>
        aOp (aRI (AMC sa d 110 [.ref x0, .int 2] z6.2)) fun z7 =>
        some (some (.int z7.1), z7.2)
       else
        if x5 = 0 then
         AMV sa d 167 110 [.ref x0, .int x1, .int x2, .int x3, .int x4, .int x5, .int ((40 * x2) + x3), .int (12 + (4 * x1)), .null, .null, .null, .null, .null, .null, .null] [.int (12 + (4 * x1))] z6.2
        else
         if 3 ≤ x5 then
          AMV sa d 167 110 [.ref x0, .int x1, .int x2, .int x3, .int x4, .int x5, .int ((40 * x2) + x3), .int (12 + (4 * x1)), .null, .null, .null, .null, .null, .null, .null] [.int 1] z6.2
         else
          AMV sa d 167 110 [.ref x0, .int x1, .int x2, .int x3, .int x4, .int x5, .int ((40 * x2) + x3), .int (12 + (4 * x1)), .null, .null, .null, .null, .null, .null, .null] [.int ((12 + (4 * x1)) + 2)] z6.2
      else
       aOp (aCl z5.2 x0 8) fun _ =>
       aOp (aRI (AMC sa d 110 [.ref x0, .int 1] z5.2)) fun z8 =>
       some (some (.int z8.1), z8.2) :=
  (AMV_T sa d 167 (fun pc => Nat.beq pc 110 || Nat.beq pc 141 || Nat.beq pc 157 || Nat.beq pc 169 || Nat.beq pc 205 || Nat.beq pc 243) 49 _ _ _ h).trans rfl
set_option maxRecDepth 100000 in
theorem eX8_fits_110 (sa : Nat → Nat) (d : Nat) (x0 : Nat) (x1 : Int32) (x2 : Int32) (x3 : Int32) (x4 : Int32) (x5 : Int32) (x6 : Int32) (x7 : Int32) (s0 : Int32) (h : AH) : AMV sa d 167 110 [.ref x0, .int x1, .int x2, .int x3, .int x4, .int x5, .int x6, .int x7, .null, .null, .null, .null, .null, .null, .null] [.int s0] h =
  if x5 = 0 then
   AMV sa d 167 141 [.ref x0, .int x1, .int x2, .int x3, .int x4, .int x5, .int x6, .int x7, .int s0, .null, .null, .null, .null, .null, .null] [.int 5] h
  else
   if 3 ≤ x5 then
    AMV sa d 167 141 [.ref x0, .int x1, .int x2, .int x3, .int x4, .int x5, .int x6, .int x7, .int s0, .null, .null, .null, .null, .null, .null] [.int 60] h
   else
    aOp (aFR h x0 8 13) fun v1 =>
    aOp (aIL h v1 (x7 + 1)) fun v2 =>
    AMV sa d 167 141 [.ref x0, .int x1, .int x2, .int x3, .int x4, .int x5, .int x6, .int x7, .int s0, .null, .null, .null, .null, .null, .null] [.int v2] h :=
  (AMV_T sa d 167 (fun pc => Nat.beq pc 110 || Nat.beq pc 141 || Nat.beq pc 157 || Nat.beq pc 169 || Nat.beq pc 205 || Nat.beq pc 243) 14 _ _ _ h).trans rfl
set_option maxRecDepth 100000 in
theorem eX8_fits_141 (sa : Nat → Nat) (d : Nat) (x0 : Nat) (x1 : Int32) (x2 : Int32) (x3 : Int32) (x4 : Int32) (x5 : Int32) (x6 : Int32) (x7 : Int32) (x8 : Int32) (s0 : Int32) (h : AH) : AMV sa d 167 141 [.ref x0, .int x1, .int x2, .int x3, .int x4, .int x5, .int x6, .int x7, .int x8, .null, .null, .null, .null, .null, .null] [.int s0] h =
  AMV sa d 167 157 [.ref x0, .int x1, .int x2, .int x3, .int x4, .int x5, .int x6, .int x7, .int x8, .int s0, .int 0, .int 0, .int (-1000000), .int s0, .null] [] h :=
  (AMV_T sa d 167 (fun pc => Nat.beq pc 110 || Nat.beq pc 141 || Nat.beq pc 157 || Nat.beq pc 169 || Nat.beq pc 205 || Nat.beq pc 243) 10 _ _ _ h).trans rfl
set_option maxRecDepth 100000 in
theorem eX8_fits_157 (sa : Nat → Nat) (d : Nat) (x0 : Nat) (x1 : Int32) (x2 : Int32) (x3 : Int32) (x4 : Int32) (x5 : Int32) (x6 : Int32) (x7 : Int32) (x8 : Int32) (x9 : Int32) (x10 : Int32) (x11 : Int32) (x12 : Int32) (x13 : Int32) (x14 : Value) (h : AH) : AMV sa d 167 157 [.ref x0, .int x1, .int x2, .int x3, .int x4, .int x5, .int x6, .int x7, .int x8, .int x9, .int x10, .int x11, .int x12, .int x13, x14] [] h =
  if x5 = 0 then
   AMV sa d 167 169 [.ref x0, .int x1, .int x2, .int x3, .int x4, .int x5, .int x6, .int x7, .int x8, .int x9, .int x10, .int x11, .int x12, .int x13, x14] [.int 1, .int x13] h
  else
   AMV sa d 167 169 [.ref x0, .int x1, .int x2, .int x3, .int x4, .int x5, .int x6, .int x7, .int x8, .int x9, .int x10, .int x11, .int x12, .int x13, x14] [.int 0, .int x13] h :=
  (AMV_T sa d 167 (fun pc => Nat.beq pc 110 || Nat.beq pc 141 || Nat.beq pc 157 || Nat.beq pc 169 || Nat.beq pc 205 || Nat.beq pc 243) 6 _ _ _ h).trans rfl
set_option maxRecDepth 100000 in
theorem eX8_fits_169 (sa : Nat → Nat) (d : Nat) (x0 : Nat) (x1 : Int32) (x2 : Int32) (x3 : Int32) (x4 : Int32) (x5 : Int32) (x6 : Int32) (x7 : Int32) (x8 : Int32) (x9 : Int32) (x10 : Int32) (x11 : Int32) (x12 : Int32) (x13 : Int32) (x14 : Value) (s0 : Int32) (s1 : Int32) (h : AH) : AMV sa d 167 169 [.ref x0, .int x1, .int x2, .int x3, .int x4, .int x5, .int x6, .int x7, .int x8, .int x9, .int x10, .int x11, .int x12, .int x13, x14] [.int s1, .int s0] h =
  if s0 < s1 then
   if x5 = 0 then
    aOp (aCl h x0 8) fun _ =>
    aOp (aRI (AMC sa d 111 [.ref x0, .int x10] h)) fun z1 =>
    some (some (.int z1.1), z1.2)
   else
    if x5 - x5 / 2 * 2 = 1 then
     aOp (aCl h x0 8) fun _ =>
     aOp (aRI (AMC sa d 111 [.ref x0, .int x11] h)) fun z2 =>
     some (some (.int z2.1), z2.2)
    else
     aOp (aCl h x0 8) fun _ =>
     aOp (aRI (AMC sa d 111 [.ref x0, .int x12] h)) fun z3 =>
     some (some (.int z3.1), z3.2)
  else
   if x5 = 0 then
    AMV sa d 167 205 [.ref x0, .int x1, .int x2, .int x3, .int x4, .int x5, .int x6, .int x7, .int x8, .int x9, .int x10, .int x11, .int x12, .int x13, x14] [.int 1] h
   else
    if 2 < x5 then
     AMV sa d 167 205 [.ref x0, .int x1, .int x2, .int x3, .int x4, .int x5, .int x6, .int x7, .int x8, .int x9, .int x10, .int x11, .int x12, .int x13, x14] [.int 1] h
    else
     aOp (aFR h x0 8 13) fun v4 =>
     aOp (aIL h v4 (x7 + 1)) fun v5 =>
     if x13 &&& (v5 ^^^ (-1)) = 0 then
      AMV sa d 167 205 [.ref x0, .int x1, .int x2, .int x3, .int x4, .int x5, .int x6, .int x7, .int x8, .int x9, .int x10, .int x11, .int x12, .int x13, x14] [.int 1] h
     else
      AMV sa d 167 205 [.ref x0, .int x1, .int x2, .int x3, .int x4, .int x5, .int x6, .int x7, .int x8, .int x9, .int x10, .int x11, .int x12, .int x13, x14] [.int 0] h :=
  (AMV_T sa d 167 (fun pc => Nat.beq pc 110 || Nat.beq pc 141 || Nat.beq pc 157 || Nat.beq pc 169 || Nat.beq pc 205 || Nat.beq pc 243) 20 _ _ _ h).trans rfl
set_option maxRecDepth 100000 in
theorem eX8_fits_205 (sa : Nat → Nat) (d : Nat) (x0 : Nat) (x1 : Int32) (x2 : Int32) (x3 : Int32) (x4 : Int32) (x5 : Int32) (x6 : Int32) (x7 : Int32) (x8 : Int32) (x9 : Int32) (x10 : Int32) (x11 : Int32) (x12 : Int32) (x13 : Int32) (x14 : Value) (s0 : Int32) (h : AH) : AMV sa d 167 205 [.ref x0, .int x1, .int x2, .int x3, .int x4, .int x5, .int x6, .int x7, .int x8, .int x9, .int x10, .int x11, .int x12, .int x13, x14] [.int s0] h =
  if s0 = 0 then
   AMV sa d 167 157 [.ref x0, .int x1, .int x2, .int x3, .int x4, .int x5, .int x6, .int x7, .int x8, .int x9, .int x10, .int x11, .int x12, .int (x13 + (-1)), .int s0] [] h
  else
   aOp (aCl h x0 8) fun _ =>
   aOp (aRI (AMC sa d 166 [.ref x0, .int x1, .int x6, .int x4, .int x8, .int x13] h)) fun z1 =>
   if z1.1 = 0 then
    AMV sa d 167 157 [.ref x0, .int x1, .int x2, .int x3, .int x4, .int x5, .int x6, .int x7, .int x8, .int x9, .int x10, .int x11, .int x12, .int (x13 + (-1)), .int s0] [] z1.2
   else
    if x5 = 0 then
     AMV sa d 167 243 [.ref x0, .int x1, .int x2, .int x3, .int x4, .int x5, .int x6, .int x7, .int x8, .int x9, .int x10, .int x11, .int x12, .int x13, .int s0] [.int (1 <<< (x13 &&& 31)), .int x10] z1.2
    else
     AMV sa d 167 243 [.ref x0, .int x1, .int x2, .int x3, .int x4, .int x5, .int x6, .int x7, .int x8, .int x9, .int x10, .int x11, .int x12, .int x13, .int s0] [.int 0, .int x10] z1.2 :=
  (AMV_T sa d 167 (fun pc => Nat.beq pc 110 || Nat.beq pc 141 || Nat.beq pc 157 || Nat.beq pc 169 || Nat.beq pc 205 || Nat.beq pc 243) 19 _ _ _ h).trans rfl
set_option maxRecDepth 100000 in
theorem eX8_fits_243 (sa : Nat → Nat) (d : Nat) (x0 : Nat) (x1 : Int32) (x2 : Int32) (x3 : Int32) (x4 : Int32) (x5 : Int32) (x6 : Int32) (x7 : Int32) (x8 : Int32) (x9 : Int32) (x10 : Int32) (x11 : Int32) (x12 : Int32) (x13 : Int32) (x14 : Int32) (s0 : Int32) (s1 : Int32) (h : AH) : AMV sa d 167 243 [.ref x0, .int x1, .int x2, .int x3, .int x4, .int x5, .int x6, .int x7, .int x8, .int x9, .int x10, .int x11, .int x12, .int x13, .int x14] [.int s1, .int s0] h =
  AMV sa d 167 157 [.ref x0, .int x1, .int x2, .int x3, .int x4, .int x5, .int x6, .int x7, .int x8, .int x9, .int (s0 ||| s1), .int (x11 + 1), .int x13, .int (x13 + (-1)), .int x14] [] h :=
  (AMV_T sa d 167 (fun pc => Nat.beq pc 110 || Nat.beq pc 141 || Nat.beq pc 157 || Nat.beq pc 169 || Nat.beq pc 205 || Nat.beq pc 243) 8 _ _ _ h).trans rfl
set_option maxRecDepth 100000 in
theorem eX8_slips_0 (sa : Nat → Nat) (d : Nat) (x0 : Nat) (x1 : Int32) (x2 : Int32) (x3 : Int32) (x4 : Int32) (x5 : Int32) (h : AH) : AMV sa d 168 0 [.ref x0, .int x1, .int x2, .int x3, .int x4, .int x5, .null, .null, .null, .null, .null, .null] [] h =
  aOp (aCl h x0 8) fun _ =>
  aOp (aRI (AMC sa d 136 [.ref x0, .int x1] h)) fun z1 =>
  if z1.1 = 0 then
   some (some (.int (-1000001)), z1.2)
  else
   aOp (aRI (AMC sa d 107 [.int x2, .int 0, .int 99] z1.2)) fun z2 =>
   if z2.1 = 0 then
    some (some (.int (-1000001)), z2.2)
   else
    aOp (aRI (AMC sa d 107 [.int x3, .int 0, .int 30] z2.2)) fun z3 =>
    if z3.1 = 0 then
     some (some (.int (-1000001)), z3.2)
    else
     aOp (aRI (AMC sa d 107 [.int x4, .int 0, .int 10] z3.2)) fun z4 =>
     if z4.1 = 0 then
      some (some (.int (-1000001)), z4.2)
     else
      aOp (aRI (AMC sa d 107 [.int x5, .int 0, .int 1] z4.2)) fun z5 =>
      if z5.1 = 0 then
       some (some (.int (-1000001)), z5.2)
      else
       aOp (aFR z5.2 x0 8 13) fun v6 =>
       aOp (aRI (AMC sa d 138 [.ref v6, .int x1] z5.2)) fun z7 =>
       AMV sa d 168 71 [.ref x0, .int x1, .int x2, .int x3, .int x4, .int x5, .int z7.1, .int 0, .int 1, .int 0, .null, .null] [] z7.2 :=
  (AMV_T sa d 168 (fun pc => Nat.beq pc 71 || Nat.beq pc 97 || Nat.beq pc 120 || Nat.beq pc 167 || Nat.beq pc 232 || Nat.beq pc 249) 36 _ _ _ h).trans rfl
set_option maxRecDepth 100000 in
theorem eX8_slips_71 (sa : Nat → Nat) (d : Nat) (x0 : Nat) (x1 : Int32) (x2 : Int32) (x3 : Int32) (x4 : Int32) (x5 : Int32) (x6 : Int32) (x7 : Int32) (x8 : Int32) (x9 : Int32) (h : AH) : AMV sa d 168 71 [.ref x0, .int x1, .int x2, .int x3, .int x4, .int x5, .int x6, .int x7, .int x8, .int x9, .null, .null] [] h =
  aOp (aRI (AMC sa d 109 [.int x6] h)) fun z1 =>
  if z1.1 ≤ x9 then
   AMV sa d 168 97 [.ref x0, .int x1, .int x2, .int x3, .int x4, .int x5, .int x6, .int x7, .int x8, .int 0, .null, .null] [] z1.2
  else
   AMV sa d 168 71 [.ref x0, .int x1, .int x2, .int x3, .int x4, .int x5, .int x6, .int x7, .int (x8 * 10), .int (x9 + 1), .null, .null] [] z1.2 :=
  (AMV_T sa d 168 (fun pc => Nat.beq pc 71 || Nat.beq pc 97 || Nat.beq pc 120 || Nat.beq pc 167 || Nat.beq pc 232 || Nat.beq pc 249) 11 _ _ _ h).trans rfl
set_option maxRecDepth 100000 in
theorem eX8_slips_97 (sa : Nat → Nat) (d : Nat) (x0 : Nat) (x1 : Int32) (x2 : Int32) (x3 : Int32) (x4 : Int32) (x5 : Int32) (x6 : Int32) (x7 : Int32) (x8 : Int32) (x9 : Int32) (x10 : Value) (x11 : Value) (h : AH) : AMV sa d 168 97 [.ref x0, .int x1, .int x2, .int x3, .int x4, .int x5, .int x6, .int x7, .int x8, .int x9, x10, x11] [] h =
  if x6 < x9 then
   AMV sa d 168 249 [.ref x0, .int x1, .int x2, .int x3, .int x4, .int x5, .int x6, .int x7, .int x8, .int x7, .int x8, x11] [] h
  else
   if x9 &&& (x6 ^^^ (-1)) = 0 then
    AMV sa d 168 120 [.ref x0, .int x1, .int x2, .int x3, .int x4, .int x5, .int x6, .int x7, .int x8, .int x9, .int 1, .int 0] [] h
   else
    AMV sa d 168 97 [.ref x0, .int x1, .int x2, .int x3, .int x4, .int x5, .int x6, .int x7, .int x8, .int (x9 + 1), x10, x11] [] h :=
  (AMV_T sa d 168 (fun pc => Nat.beq pc 71 || Nat.beq pc 97 || Nat.beq pc 120 || Nat.beq pc 167 || Nat.beq pc 232 || Nat.beq pc 249) 14 _ _ _ h).trans rfl
set_option maxRecDepth 100000 in
theorem eX8_slips_120 (sa : Nat → Nat) (d : Nat) (x0 : Nat) (x1 : Int32) (x2 : Int32) (x3 : Int32) (x4 : Int32) (x5 : Int32) (x6 : Int32) (x7 : Int32) (x8 : Int32) (x9 : Int32) (x10 : Int32) (x11 : Int32) (h : AH) : AMV sa d 168 120 [.ref x0, .int x1, .int x2, .int x3, .int x4, .int x5, .int x6, .int x7, .int x8, .int x9, .int x10, .int x11] [] h =
  aOp (aFR h x0 8 13) fun v1 =>
  aOp (aIL h v1 2) fun v2 =>
  if v2 ≤ x11 then
   aOp (aFR h x0 8 13) fun v3 =>
   aOp (aFR h x0 8 15) fun v4 =>
   aOp (aRV (AMC sa d 112 [.ref v3, .int 0, .ref v4, .int 0] h)) fun h5 =>
   aOp (aFR h5 x0 8 15) fun v6 =>
   aOp (aIL h5 v6 ((12 + (4 * x1)) + 2)) fun v7 =>
   aOp (aIS h5 v6 ((12 + (4 * x1)) + 2) (v7 ||| x9)) fun h8 =>
   aOp (aCl h8 x0 8) fun _ =>
   aOp (aRV (AMC sa d 156 [.ref x0, .int x3] h8)) fun h9 =>
   aOp (aFR h9 x0 8 15) fun v10 =>
   aOp (aRI (AMC sa d 140 [.ref v10, .int x1] h9)) fun z11 =>
   if x2 < z11.1 then
    AMV sa d 168 232 [.ref x0, .int x1, .int x2, .int x3, .int x4, .int x5, .int x6, .int x7, .int x8, .int x9, .int x10, .int x11] [.int 0, .int x7] z11.2
   else
    AMV sa d 168 232 [.ref x0, .int x1, .int x2, .int x3, .int x4, .int x5, .int x6, .int x7, .int x8, .int x9, .int x10, .int x11] [.int x10, .int x7] z11.2
  else
   aOp (aRI (AMC sa d 108 [.int x6, .int x11] h)) fun z12 =>
   if z12.1 = 0 then
    AMV sa d 168 167 [.ref x0, .int x1, .int x2, .int x3, .int x4, .int x5, .int x6, .int x7, .int x8, .int x9, .int x10, .int x11] [.int 1, .int x10] z12.2
   else
    aOp (aRI (AMC sa d 108 [.int x9, .int x11] z12.2)) fun z13 =>
    if z13.1 = 0 then
     AMV sa d 168 167 [.ref x0, .int x1, .int x2, .int x3, .int x4, .int x5, .int x6, .int x7, .int x8, .int x9, .int x10, .int x11] [.int (10 - x4), .int x10] z13.2
    else
     AMV sa d 168 167 [.ref x0, .int x1, .int x2, .int x3, .int x4, .int x5, .int x6, .int x7, .int x8, .int x9, .int x10, .int x11] [.int x4, .int x10] z13.2 :=
  (AMV_T sa d 168 (fun pc => Nat.beq pc 71 || Nat.beq pc 97 || Nat.beq pc 120 || Nat.beq pc 167 || Nat.beq pc 232 || Nat.beq pc 249) 40 _ _ _ h).trans rfl
set_option maxRecDepth 100000 in
theorem eX8_slips_167 (sa : Nat → Nat) (d : Nat) (x0 : Nat) (x1 : Int32) (x2 : Int32) (x3 : Int32) (x4 : Int32) (x5 : Int32) (x6 : Int32) (x7 : Int32) (x8 : Int32) (x9 : Int32) (x10 : Int32) (x11 : Int32) (s0 : Int32) (s1 : Int32) (h : AH) : AMV sa d 168 167 [.ref x0, .int x1, .int x2, .int x3, .int x4, .int x5, .int x6, .int x7, .int x8, .int x9, .int x10, .int x11] [.int s1, .int s0] h =
  AMV sa d 168 120 [.ref x0, .int x1, .int x2, .int x3, .int x4, .int x5, .int x6, .int x7, .int x8, .int x9, .int (s0 * s1), .int (x11 + 1)] [] h :=
  (AMV_T sa d 168 (fun pc => Nat.beq pc 71 || Nat.beq pc 97 || Nat.beq pc 120 || Nat.beq pc 167 || Nat.beq pc 232 || Nat.beq pc 249) 5 _ _ _ h).trans rfl
set_option maxRecDepth 100000 in
theorem eX8_slips_232 (sa : Nat → Nat) (d : Nat) (x0 : Nat) (x1 : Int32) (x2 : Int32) (x3 : Int32) (x4 : Int32) (x5 : Int32) (x6 : Int32) (x7 : Int32) (x8 : Int32) (x9 : Int32) (x10 : Int32) (x11 : Int32) (s0 : Int32) (s1 : Int32) (h : AH) : AMV sa d 168 232 [.ref x0, .int x1, .int x2, .int x3, .int x4, .int x5, .int x6, .int x7, .int x8, .int x9, .int x10, .int x11] [.int s1, .int s0] h =
  AMV sa d 168 97 [.ref x0, .int x1, .int x2, .int x3, .int x4, .int x5, .int x6, .int (s0 + s1), .int x8, .int (x9 + 1), .int x10, .int x11] [] h :=
  (AMV_T sa d 168 (fun pc => Nat.beq pc 71 || Nat.beq pc 97 || Nat.beq pc 120 || Nat.beq pc 167 || Nat.beq pc 232 || Nat.beq pc 249) 5 _ _ _ h).trans rfl
set_option maxRecDepth 100000 in
theorem eX8_slips_249 (sa : Nat → Nat) (d : Nat) (x0 : Nat) (x1 : Int32) (x2 : Int32) (x3 : Int32) (x4 : Int32) (x5 : Int32) (x6 : Int32) (x7 : Int32) (x8 : Int32) (x9 : Int32) (x10 : Int32) (x11 : Value) (h : AH) : AMV sa d 168 249 [.ref x0, .int x1, .int x2, .int x3, .int x4, .int x5, .int x6, .int x7, .int x8, .int x9, .int x10, x11] [] h =
  if x10 = 0 then
   if x5 = 0 then
    if x9 = 0 then none else
    some (some (.int (x7 / x9)), h)
   else
    if x9 = 0 then none else
    some (some (.int (x8 / x9)), h)
  else
   if x10 = 0 then none else
   AMV sa d 168 249 [.ref x0, .int x1, .int x2, .int x3, .int x4, .int x5, .int x6, .int x7, .int x8, .int x10, .int (x9 - x9 / x10 * x10), .int (x9 - x9 / x10 * x10)] [] h :=
  (AMV_T sa d 168 (fun pc => Nat.beq pc 71 || Nat.beq pc 97 || Nat.beq pc 120 || Nat.beq pc 167 || Nat.beq pc 232 || Nat.beq pc 249) 12 _ _ _ h).trans rfl
set_option maxRecDepth 100000 in
theorem eX8_drawn_0 (sa : Nat → Nat) (d : Nat) (x0 : Nat) (x1 : Int32) (x2 : Int32) (x3 : Int32) (h : AH) : AMV sa d 169 0 [.ref x0, .int x1, .int x2, .int x3, .null, .null, .null, .null] [] h =
  aOp (aCl h x0 8) fun _ =>
  aOp (aRI (AMC sa d 135 [.ref x0] h)) fun z1 =>
  if z1.1 = 0 then
   some (some (.int (-1000002)), z1.2)
  else
   aOp (aRI (AMC sa d 107 [.int x1, .int 0, .int 60] z1.2)) fun z2 =>
   if z2.1 = 0 then
    some (some (.int (-1000001)), z2.2)
   else
    aOp (aRI (AMC sa d 107 [.int x2, .int 1, .int 999999] z2.2)) fun z3 =>
    if z3.1 = 0 then
     some (some (.int (-1000001)), z3.2)
    else
     aOp (aRI (AMC sa d 107 [.int x3, .int 0, .int 1] z3.2)) fun z4 =>
     if z4.1 = 0 then
      some (some (.int (-1000001)), z4.2)
     else
      aOp (aFR z4.2 x0 8 13) fun v5 =>
      aOp (aFR z4.2 x0 8 15) fun v6 =>
      aOp (aRV (AMC sa d 112 [.ref v5, .int 0, .ref v6, .int 0] z4.2)) fun h7 =>
      aOp (aFR h7 x0 8 15) fun v8 =>
      aOp (aIS h7 v8 5 0) fun h9 =>
      AMV sa d 169 69 [.ref x0, .int x1, .int x2, .int x3, .long x2.toInt64, .null, .int 0, .null] [] h9 :=
  (AMV_T sa d 169 (fun pc => Nat.beq pc 69 || Nat.beq pc 85 || Nat.beq pc 98 || Nat.beq pc 113 || Nat.beq pc 124 || Nat.beq pc 153 || Nat.beq pc 172) 36 _ _ _ h).trans rfl
set_option maxRecDepth 100000 in
theorem eX8_drawn_69 (sa : Nat → Nat) (d : Nat) (x0 : Nat) (x1 : Int32) (x2 : Int32) (x3 : Int32) (x4 : Int64) (x6 : Int32) (x7 : Value) (h : AH) : AMV sa d 169 69 [.ref x0, .int x1, .int x2, .int x3, .long x4, .null, .int x6, x7] [] h =
  if x1 ≤ x6 then
   if x3 = 0 then
    aOp (aFR h x0 8 15) fun v1 =>
    aOp (aIL h v1 5) fun v2 =>
    some (some (.int v2), h)
   else
    aOp (aFR h x0 8 15) fun v3 =>
    aOp (aRI (AMC sa d 144 [.ref v3] h)) fun z4 =>
    aOp (aRI (AMC sa d 109 [.int z4.1] z4.2)) fun z5 =>
    some (some (.int z5.1), z5.2)
  else
   if lN 2147483647 = 0 then none else
   AMV sa d 169 85 [.ref x0, .int x1, .int x2, .int x3, .long x4, .null, .int x6, x7] [.long ((x4 * (lN 16807)) - (x4 * (lN 16807)) / (lN 2147483647) * (lN 2147483647))] h :=
  (AMV_T sa d 169 (fun pc => Nat.beq pc 69 || Nat.beq pc 85 || Nat.beq pc 98 || Nat.beq pc 113 || Nat.beq pc 124 || Nat.beq pc 153 || Nat.beq pc 172) 12 _ _ _ h).trans rfl
set_option maxRecDepth 100000 in
theorem eX8_drawn_85 (sa : Nat → Nat) (d : Nat) (x0 : Nat) (x1 : Int32) (x2 : Int32) (x3 : Int32) (x4 : Int64) (x6 : Int32) (x7 : Value) (s0 : Int64) (h : AH) : AMV sa d 169 85 [.ref x0, .int x1, .int x2, .int x3, .long x4, .null, .int x6, x7] [.long s0] h =
  aOp (aFR h x0 8 15) fun v1 =>
  if lN 30 = 0 then none else
  AMV sa d 169 98 [.ref x0, .int x1, .int x2, .int x3, .long s0, .null, .int x6, x7] [.long (s0 - s0 / (lN 30) * (lN 30)), .int 0, .ref v1] h :=
  (AMV_T sa d 169 (fun pc => Nat.beq pc 69 || Nat.beq pc 85 || Nat.beq pc 98 || Nat.beq pc 113 || Nat.beq pc 124 || Nat.beq pc 153 || Nat.beq pc 172) 8 _ _ _ h).trans rfl
set_option maxRecDepth 100000 in
theorem eX8_drawn_98 (sa : Nat → Nat) (d : Nat) (x0 : Nat) (x1 : Int32) (x2 : Int32) (x3 : Int32) (x4 : Int64) (x6 : Int32) (x7 : Value) (s0 : Nat) (s1 : Int32) (s2 : Int64) (h : AH) : AMV sa d 169 98 [.ref x0, .int x1, .int x2, .int x3, .long x4, .null, .int x6, x7] [.long s2, .int s1, .ref s0] h =
  aOp (aIS h s0 s1 s2.toInt32) fun h1 =>
  aOp (aFR h1 x0 8 13) fun v2 =>
  aOp (aIL h1 v2 3) fun v3 =>
  if v3.toInt64 = 0 then none else
  AMV sa d 169 113 [.ref x0, .int x1, .int x2, .int x3, .long x4, .null, .int x6, x7] [.long (x4 - x4 / v3.toInt64 * v3.toInt64), .int 4, .int 12] h1 :=
  (AMV_T sa d 169 (fun pc => Nat.beq pc 69 || Nat.beq pc 85 || Nat.beq pc 98 || Nat.beq pc 113 || Nat.beq pc 124 || Nat.beq pc 153 || Nat.beq pc 172) 12 _ _ _ h).trans rfl
set_option maxRecDepth 100000 in
theorem eX8_drawn_113 (sa : Nat → Nat) (d : Nat) (x0 : Nat) (x1 : Int32) (x2 : Int32) (x3 : Int32) (x4 : Int64) (x6 : Int32) (x7 : Value) (s0 : Int32) (s1 : Int32) (s2 : Int64) (h : AH) : AMV sa d 169 113 [.ref x0, .int x1, .int x2, .int x3, .long x4, .null, .int x6, x7] [.long s2, .int s1, .int s0] h =
  if lN 3 = 0 then none else
  AMV sa d 169 124 [.ref x0, .int x1, .int x2, .int x3, .long x4, .null, .int x6, .int (s0 + (s1 * s2.toInt32))] [.long (x4 - x4 / (lN 3) * (lN 3))] h :=
  (AMV_T sa d 169 (fun pc => Nat.beq pc 69 || Nat.beq pc 85 || Nat.beq pc 98 || Nat.beq pc 113 || Nat.beq pc 124 || Nat.beq pc 153 || Nat.beq pc 172) 8 _ _ _ h).trans rfl
set_option maxRecDepth 100000 in
theorem eX8_drawn_124 (sa : Nat → Nat) (d : Nat) (x0 : Nat) (x1 : Int32) (x2 : Int32) (x3 : Int32) (x4 : Int64) (x6 : Int32) (x7 : Int32) (s0 : Int64) (h : AH) : AMV sa d 169 124 [.ref x0, .int x1, .int x2, .int x3, .long x4, .null, .int x6, .int x7] [.long s0] h =
  if lg_cmp s0 (lN 0) = 0 then
   aOp (aFR h x0 8 15) fun v1 =>
   aOp (aIS h v1 (x7 + 3) 0) fun h2 =>
   aOp (aFR h2 x0 8 15) fun v3 =>
   if lN 2 = 0 then none else
   AMV sa d 169 153 [.ref x0, .int x1, .int x2, .int x3, .long x4, .null, .int x6, .int x7] [.long (x4 - x4 / (lN 2) * (lN 2)), .int (x7 + 2), .ref v3] h2
  else
   AMV sa d 169 172 [.ref x0, .int x1, .int x2, .int x3, .long x4, .null, .int x6, .int x7] [] h :=
  (AMV_T sa d 169 (fun pc => Nat.beq pc 69 || Nat.beq pc 85 || Nat.beq pc 98 || Nat.beq pc 113 || Nat.beq pc 124 || Nat.beq pc 153 || Nat.beq pc 172) 19 _ _ _ h).trans rfl
set_option maxRecDepth 100000 in
theorem eX8_drawn_153 (sa : Nat → Nat) (d : Nat) (x0 : Nat) (x1 : Int32) (x2 : Int32) (x3 : Int32) (x4 : Int64) (x6 : Int32) (x7 : Int32) (s0 : Nat) (s1 : Int32) (s2 : Int64) (h : AH) : AMV sa d 169 153 [.ref x0, .int x1, .int x2, .int x3, .long x4, .null, .int x6, .int x7] [.long s2, .int s1, .ref s0] h =
  if lg_cmp s2 (lN 0) = 0 then
   aOp (aIS h s0 s1 0) fun h1 =>
   AMV sa d 169 172 [.ref x0, .int x1, .int x2, .int x3, .long x4, .null, .int x6, .int x7] [] h1
  else
   aOp (aFR h x0 8 15) fun v2 =>
   aOp (aIL h v2 (x7 + 2)) fun v3 =>
   aOp (aIS h s0 s1 v3) fun h4 =>
   AMV sa d 169 172 [.ref x0, .int x1, .int x2, .int x3, .long x4, .null, .int x6, .int x7] [] h4 :=
  (AMV_T sa d 169 (fun pc => Nat.beq pc 69 || Nat.beq pc 85 || Nat.beq pc 98 || Nat.beq pc 113 || Nat.beq pc 124 || Nat.beq pc 153 || Nat.beq pc 172) 11 _ _ _ h).trans rfl
set_option maxRecDepth 100000 in
theorem eX8_drawn_172 (sa : Nat → Nat) (d : Nat) (x0 : Nat) (x1 : Int32) (x2 : Int32) (x3 : Int32) (x4 : Int64) (x6 : Int32) (x7 : Int32) (h : AH) : AMV sa d 169 172 [.ref x0, .int x1, .int x2, .int x3, .long x4, .null, .int x6, .int x7] [] h =
  aOp (aFR h x0 8 15) fun v1 =>
  aOp (aRV (AMC sa d 143 [.ref v1] h)) fun h2 =>
  AMV sa d 169 69 [.ref x0, .int x1, .int x2, .int x3, .long x4, .null, .int (x6 + 1), .int x7] [] h2 :=
  (AMV_T sa d 169 (fun pc => Nat.beq pc 69 || Nat.beq pc 85 || Nat.beq pc 98 || Nat.beq pc 113 || Nat.beq pc 124 || Nat.beq pc 153 || Nat.beq pc 172) 6 _ _ _ h).trans rfl
set_option maxRecDepth 100000 in
theorem eX8_image_0 (sa : Nat → Nat) (d : Nat) (x0 : Nat) (x1 : Int32) (h : AH) : AMV sa d 170 0 [.ref x0, .int x1] [] h =
  aOp (aRI (AMC sa d 107 [.int x1, .int 0, .int 1] h)) fun z1 =>
  if z1.1 = 0 then
   some (some (.int (-1000001)), z1.2)
  else
   aOp (aCl z1.2 x0 8) fun _ =>
   aOp (aRI (AMC sa d 135 [.ref x0] z1.2)) fun z2 =>
   if z2.1 = 0 then
    some (some (.int (-1000002)), z2.2)
   else
    aOp (aFR z2.2 x0 8 13) fun v3 =>
    aOp (aFR z2.2 x0 8 18) fun v4 =>
    aOp (aRV (AMC sa d 112 [.ref v3, .int 0, .ref v4, .int (40 * x1)] z2.2)) fun h5 =>
    aOp (aFR h5 x0 8 19) fun v6 =>
    aOp (aZS h5 v6 x1 1) fun h7 =>
    some (some (.int 1), h7) :=
  (AMV_T sa d 170 (fun pc => false) 25 _ _ _ h).trans rfl
set_option maxRecDepth 100000 in
theorem eX8_restore_0 (sa : Nat → Nat) (d : Nat) (x0 : Nat) (x1 : Int32) (h : AH) : AMV sa d 171 0 [.ref x0, .int x1] [] h =
  aOp (aRI (AMC sa d 107 [.int x1, .int 0, .int 1] h)) fun z1 =>
  if z1.1 = 0 then
   some (some (.int (-1000001)), z1.2)
  else
   aOp (aFR z1.2 x0 8 19) fun v2 =>
   aOp (aZL z1.2 v2 x1) fun v3 =>
   if v3 = 0 then
    some (some (.int (-1000002)), z1.2)
   else
    aOp (aFR z1.2 x0 8 18) fun v4 =>
    aOp (aFR z1.2 x0 8 13) fun v5 =>
    aOp (aRV (AMC sa d 112 [.ref v4, .int (40 * x1), .ref v5, .int 0] z1.2)) fun h6 =>
    aOp (aFP h6 x0 8 17 (.int 0)) fun h7 =>
    some (some (.int 1), h7) :=
  (AMV_T sa d 171 (fun pc => false) 25 _ _ _ h).trans rfl
set_option maxRecDepth 100000 in
theorem eX8_kindIn_0 (sa : Nat → Nat) (d : Nat) (x0 : Nat) (x1 : Int32) (h : AH) : AMV sa d 172 0 [.ref x0, .int x1] [] h =
  aOp (aFR h x0 8 13) fun v1 =>
  aOp (aIL h v1 (12 + (4 * x1))) fun v2 =>
  some (some (.int v2), h) :=
  (AMV_T sa d 172 (fun pc => false) 10 _ _ _ h).trans rfl
set_option maxRecDepth 100000 in
theorem eX8_kind_0 (sa : Nat → Nat) (d : Nat) (x0 : Nat) (x1 : Int32) (h : AH) : AMV sa d 173 0 [.ref x0, .int x1] [] h =
  aOp (aCl h x0 8) fun _ =>
  aOp (aRI (AMC sa d 136 [.ref x0, .int x1] h)) fun z1 =>
  if z1.1 = 0 then
   some (some (.int (-1000001)), z1.2)
  else
   aOp (aCl z1.2 x0 8) fun _ =>
   aOp (aRI (AMC sa d 172 [.ref x0, .int x1] z1.2)) fun z2 =>
   some (some (.int z2.1), z2.2) :=
  (AMV_T sa d 173 (fun pc => false) 10 _ _ _ h).trans rfl
set_option maxRecDepth 100000 in
theorem eX8_as_0 (sa : Nat → Nat) (d : Nat) (x0 : Nat) (x1 : Int32) (x2 : Int32) (h : AH) : AMV sa d 174 0 [.ref x0, .int x1, .int x2, .null, .null] [] h =
  aOp (aCl h x0 8) fun _ =>
  aOp (aRI (AMC sa d 136 [.ref x0, .int x1] h)) fun z1 =>
  if z1.1 = 0 then
   some (some (.int (-1000001)), z1.2)
  else
   aOp (aRI (AMC sa d 107 [.int x2, .int 0, .int 5] z1.2)) fun z2 =>
   if z2.1 = 0 then
    some (some (.int (-1000001)), z2.2)
   else
    aOp (aCl z2.2 x0 8) fun _ =>
    aOp (aRI (AMC sa d 172 [.ref x0, .int x1] z2.2)) fun z3 =>
    if x2 = 0 then
     AMV sa d 174 60 [.ref x0, .int x1, .int x2, .int z3.1, .null] [.int 1] z3.2
    else
     if x2 = z3.1 then
      AMV sa d 174 60 [.ref x0, .int x1, .int x2, .int z3.1, .null] [.int 1] z3.2
     else
      if x2 = 1 then
       if z3.1 < 4 then
        AMV sa d 174 60 [.ref x0, .int x1, .int x2, .int z3.1, .null] [.int 1] z3.2
       else
        AMV sa d 174 45 [.ref x0, .int x1, .int x2, .int z3.1, .null] [] z3.2
      else
       AMV sa d 174 45 [.ref x0, .int x1, .int x2, .int z3.1, .null] [] z3.2 :=
  (AMV_T sa d 174 (fun pc => Nat.beq pc 45 || Nat.beq pc 60) 27 _ _ _ h).trans rfl
set_option maxRecDepth 100000 in
theorem eX8_as_45 (sa : Nat → Nat) (d : Nat) (x0 : Nat) (x1 : Int32) (x2 : Int32) (x3 : Int32) (h : AH) : AMV sa d 174 45 [.ref x0, .int x1, .int x2, .int x3, .null] [] h =
  if x2 = 4 then
   if x3 = 5 then
    AMV sa d 174 60 [.ref x0, .int x1, .int x2, .int x3, .null] [.int 1] h
   else
    AMV sa d 174 60 [.ref x0, .int x1, .int x2, .int x3, .null] [.int 0] h
  else
   AMV sa d 174 60 [.ref x0, .int x1, .int x2, .int x3, .null] [.int 0] h :=
  (AMV_T sa d 174 (fun pc => Nat.beq pc 45 || Nat.beq pc 60) 9 _ _ _ h).trans rfl
set_option maxRecDepth 100000 in
theorem eX8_as_60 (sa : Nat → Nat) (d : Nat) (x0 : Nat) (x1 : Int32) (x2 : Int32) (x3 : Int32) (s0 : Int32) (h : AH) : AMV sa d 174 60 [.ref x0, .int x1, .int x2, .int x3, .null] [.int s0] h =
  if s0 = 0 then
   aOp (aCl h x0 8) fun _ =>
   aOp (aRI (AMC sa d 110 [.ref x0, .int 3] h)) fun z1 =>
   some (some (.int z1.1), z1.2)
  else
   aOp (aCl h x0 8) fun _ =>
   aOp (aRI (AMC sa d 111 [.ref x0, .int x1] h)) fun z2 =>
   some (some (.int z2.1), z2.2) :=
  (AMV_T sa d 174 (fun pc => Nat.beq pc 45 || Nat.beq pc 60) 9 _ _ _ h).trans rfl
set_option maxRecDepth 100000 in
theorem eX8_begins_0 (sa : Nat → Nat) (d : Nat) (x0 : Nat) (x1 : Int32) (h : AH) : AMV sa d 175 0 [.ref x0, .int x1] [] h =
  aOp (aFI h x0 8 21) fun v1 =>
  if 16 ≤ v1 then
   some (none, h)
  else
   aOp (aFR h x0 8 20) fun v2 =>
   aOp (aFI h x0 8 21) fun v3 =>
   aOp (aIS h v2 v3 x1) fun h4 =>
   aOp (aFI h4 x0 8 21) fun v5 =>
   aOp (aFP h4 x0 8 21 (.int (v5 + 1))) fun h6 =>
   some (none, h6) :=
  (AMV_T sa d 175 (fun pc => false) 18 _ _ _ h).trans rfl
set_option maxRecDepth 100000 in
theorem eX8_plainMark_0 (sa : Nat → Nat) (d : Nat) (x0 : Nat) (x1 : Int32) (h : AH) : AMV sa d 176 0 [.ref x0, .int x1, .null, .null] [] h =
  aOp (aCl h x0 8) fun _ =>
  aOp (aRI (AMC sa d 172 [.ref x0, .int x1] h)) fun z1 =>
  if z1.1 = 1 then
   AMV sa d 176 27 [.ref x0, .int x1, .int z1.1, .null] [] z1.2
  else
   if z1.1 = 2 then
    aOp (aCl z1.2 x0 8) fun _ =>
    aOp (aRV (AMC sa d 175 [.ref x0, .int 24] z1.2)) fun h2 =>
    AMV sa d 176 27 [.ref x0, .int x1, .int z1.1, .null] [] h2
   else
    aOp (aCl z1.2 x0 8) fun _ =>
    aOp (aRV (AMC sa d 175 [.ref x0, .int 22] z1.2)) fun h3 =>
    AMV sa d 176 27 [.ref x0, .int x1, .int z1.1, .null] [] h3 :=
  (AMV_T sa d 176 (fun pc => Nat.beq pc 27) 15 _ _ _ h).trans rfl
set_option maxRecDepth 100000 in
theorem eX8_plainMark_27 (sa : Nat → Nat) (d : Nat) (x0 : Nat) (x1 : Int32) (x2 : Int32) (h : AH) : AMV sa d 176 27 [.ref x0, .int x1, .int x2, .null] [] h =
  aOp (aCl h x0 8) fun _ =>
  aOp (aRV (AMC sa d 175 [.ref x0, .int 21] h)) fun h1 =>
  aOp (aCl h1 x0 8) fun _ =>
  aOp (aRV (AMC sa d 175 [.ref x0, .int 20] h1)) fun h2 =>
  aOp (aFR h2 x0 8 13) fun v3 =>
  aOp (aIL h2 v3 ((12 + (4 * x1)) + 2)) fun v4 =>
  aOp (aRI (AMC sa d 109 [.int v4] h2)) fun z5 =>
  if x2 = 2 then
   some (some (.int (2 * (x1 + z5.1))), z5.2)
  else
   if x2 = 3 then
    some (some (.int ((x1 + z5.1) - 1000)), z5.2)
   else
    some (some (.int (x1 + z5.1)), z5.2) :=
  (AMV_T sa d 176 (fun pc => Nat.beq pc 27) 32 _ _ _ h).trans rfl
set_option maxRecDepth 100000 in
theorem eX8_cardSize_0 (sa : Nat → Nat) (d : Nat) (x0 : Nat) (x1 : Int32) (h : AH) : AMV sa d 177 0 [.ref x0, .int x1, .null, .null] [] h =
  aOp (aCl h x0 8) fun _ =>
  aOp (aRI (AMC sa d 172 [.ref x0, .int x1] h)) fun z1 =>
  if z1.1 = 5 then
   AMV sa d 177 14 [.ref x0, .int x1, .null, .null] [.int 1] z1.2
  else
   AMV sa d 177 14 [.ref x0, .int x1, .null, .null] [.int 0] z1.2 :=
  (AMV_T sa d 177 (fun pc => Nat.beq pc 14 || Nat.beq pc 25) 8 _ _ _ h).trans rfl
set_option maxRecDepth 100000 in
theorem eX8_cardSize_14 (sa : Nat → Nat) (d : Nat) (x0 : Nat) (x1 : Int32) (s0 : Int32) (h : AH) : AMV sa d 177 14 [.ref x0, .int x1, .null, .null] [.int s0] h =
  if s0 = 0 then
   AMV sa d 177 25 [.ref x0, .int x1, .int s0, .null] [] h
  else
   aOp (aCl h x0 8) fun _ =>
   aOp (aRV (AMC sa d 175 [.ref x0, .int 14] h)) fun h1 =>
   AMV sa d 177 25 [.ref x0, .int x1, .int s0, .null] [] h1 :=
  (AMV_T sa d 177 (fun pc => Nat.beq pc 14 || Nat.beq pc 25) 7 _ _ _ h).trans rfl
set_option maxRecDepth 100000 in
theorem eX8_cardSize_25 (sa : Nat → Nat) (d : Nat) (x0 : Nat) (x1 : Int32) (x2 : Int32) (h : AH) : AMV sa d 177 25 [.ref x0, .int x1, .int x2, .null] [] h =
  aOp (aCl h x0 8) fun _ =>
  aOp (aRV (AMC sa d 175 [.ref x0, .int 13] h)) fun h1 =>
  aOp (aCl h1 x0 8) fun _ =>
  aOp (aRV (AMC sa d 175 [.ref x0, .int 10] h1)) fun h2 =>
  aOp (aFR h2 x0 8 13) fun v3 =>
  aOp (aIL h2 v3 ((12 + (4 * x1)) + 1)) fun v4 =>
  aOp (aRI (AMC sa d 109 [.int v4] h2)) fun z5 =>
  if x2 = 0 then
   some (some (.int (z5.1 - 100)), z5.2)
  else
   some (some (.int (2 * (z5.1 - 100))), z5.2) :=
  (AMV_T sa d 177 (fun pc => Nat.beq pc 14 || Nat.beq pc 25) 28 _ _ _ h).trans rfl
set_option maxRecDepth 100000 in
theorem eX8_plainSize_0 (sa : Nat → Nat) (d : Nat) (x0 : Nat) (x1 : Int32) (h : AH) : AMV sa d 178 0 [.ref x0, .int x1, .null, .null] [] h =
  aOp (aCl h x0 8) fun _ =>
  aOp (aRI (AMC sa d 172 [.ref x0, .int x1] h)) fun z1 =>
  if z1.1 = 2 then
   AMV sa d 178 14 [.ref x0, .int x1, .null, .null] [.int 1] z1.2
  else
   AMV sa d 178 14 [.ref x0, .int x1, .null, .null] [.int 0] z1.2 :=
  (AMV_T sa d 178 (fun pc => Nat.beq pc 14 || Nat.beq pc 25) 8 _ _ _ h).trans rfl
set_option maxRecDepth 100000 in
theorem eX8_plainSize_14 (sa : Nat → Nat) (d : Nat) (x0 : Nat) (x1 : Int32) (s0 : Int32) (h : AH) : AMV sa d 178 14 [.ref x0, .int x1, .null, .null] [.int s0] h =
  if s0 = 0 then
   AMV sa d 178 25 [.ref x0, .int x1, .int s0, .null] [] h
  else
   aOp (aCl h x0 8) fun _ =>
   aOp (aRV (AMC sa d 175 [.ref x0, .int 12] h)) fun h1 =>
   AMV sa d 178 25 [.ref x0, .int x1, .int s0, .null] [] h1 :=
  (AMV_T sa d 178 (fun pc => Nat.beq pc 14 || Nat.beq pc 25) 7 _ _ _ h).trans rfl
set_option maxRecDepth 100000 in
theorem eX8_plainSize_25 (sa : Nat → Nat) (d : Nat) (x0 : Nat) (x1 : Int32) (x2 : Int32) (h : AH) : AMV sa d 178 25 [.ref x0, .int x1, .int x2, .null] [] h =
  aOp (aCl h x0 8) fun _ =>
  aOp (aRV (AMC sa d 175 [.ref x0, .int 11] h)) fun h1 =>
  aOp (aCl h1 x0 8) fun _ =>
  aOp (aRV (AMC sa d 175 [.ref x0, .int 10] h1)) fun h2 =>
  aOp (aFR h2 x0 8 13) fun v3 =>
  aOp (aIL h2 v3 ((12 + (4 * x1)) + 1)) fun v4 =>
  aOp (aRI (AMC sa d 109 [.int v4] h2)) fun z5 =>
  aOp (aCl z5.2 x0 8) fun _ =>
  aOp (aRI (AMC sa d 176 [.ref x0, .int x1] z5.2)) fun z6 =>
  if x2 = 0 then
   some (some (.int (z5.1 + z6.1)), z6.2)
  else
   some (some (.int (-(z5.1 + z6.1))), z6.2) :=
  (AMV_T sa d 178 (fun pc => Nat.beq pc 14 || Nat.beq pc 25) 29 _ _ _ h).trans rfl
set_option maxRecDepth 100000 in
theorem eX8_cardMark_0 (sa : Nat → Nat) (d : Nat) (x0 : Nat) (x1 : Int32) (h : AH) : AMV sa d 179 0 [.ref x0, .int x1] [] h =
  aOp (aCl h x0 8) fun _ =>
  aOp (aRV (AMC sa d 175 [.ref x0, .int 23] h)) fun h1 =>
  aOp (aCl h1 x0 8) fun _ =>
  aOp (aRV (AMC sa d 175 [.ref x0, .int 20] h1)) fun h2 =>
  aOp (aCl h2 x0 8) fun _ =>
  aOp (aRI (AMC sa d 177 [.ref x0, .int x1] h2)) fun z3 =>
  some (some (.int (x1 - z3.1)), z3.2) :=
  (AMV_T sa d 179 (fun pc => false) 13 _ _ _ h).trans rfl
set_option maxRecDepth 100000 in
theorem eX8_ask_0 (sa : Nat → Nat) (d : Nat) (x0 : Nat) (x1 : Int32) (x2 : Int32) (h : AH) : AMV sa d 180 0 [.ref x0, .int x1, .int x2, .null] [] h =
  aOp (aCl h x0 8) fun _ =>
  aOp (aRI (AMC sa d 136 [.ref x0, .int x1] h)) fun z1 =>
  if z1.1 = 0 then
   some (some (.int (-1000001)), z1.2)
  else
   aOp (aRI (AMC sa d 107 [.int x2, .int 0, .int 1] z1.2)) fun z2 =>
   if z2.1 = 0 then
    some (some (.int (-1000001)), z2.2)
   else
    aOp (aFP z2.2 x0 8 21 (.int 0)) fun h3 =>
    aOp (aCl h3 x0 8) fun _ =>
    aOp (aRI (AMC sa d 172 [.ref x0, .int x1] h3)) fun z4 =>
    if z4.1 < 4 then
     AMV sa d 180 39 [.ref x0, .int x1, .int x2, .null] [.int 0] z4.2
    else
     AMV sa d 180 39 [.ref x0, .int x1, .int x2, .null] [.int 1] z4.2 :=
  (AMV_T sa d 180 (fun pc => Nat.beq pc 39) 20 _ _ _ h).trans rfl
set_option maxRecDepth 100000 in
theorem eX8_ask_39 (sa : Nat → Nat) (d : Nat) (x0 : Nat) (x1 : Int32) (x2 : Int32) (s0 : Int32) (h : AH) : AMV sa d 180 39 [.ref x0, .int x1, .int x2, .null] [.int s0] h =
  if x2 = 0 then
   if s0 = 0 then
    aOp (aCl h x0 8) fun _ =>
    aOp (aRI (AMC sa d 178 [.ref x0, .int x1] h)) fun z1 =>
    some (some (.int z1.1), z1.2)
   else
    aOp (aCl h x0 8) fun _ =>
    aOp (aRI (AMC sa d 177 [.ref x0, .int x1] h)) fun z2 =>
    some (some (.int z2.1), z2.2)
  else
   if s0 = 0 then
    aOp (aCl h x0 8) fun _ =>
    aOp (aRI (AMC sa d 176 [.ref x0, .int x1] h)) fun z3 =>
    some (some (.int z3.1), z3.2)
   else
    aOp (aCl h x0 8) fun _ =>
    aOp (aRI (AMC sa d 179 [.ref x0, .int x1] h)) fun z4 =>
    some (some (.int z4.1), z4.2) :=
  (AMV_T sa d 180 (fun pc => Nat.beq pc 39) 11 _ _ _ h).trans rfl
set_option maxRecDepth 100000 in
theorem eX8_trace_0 (sa : Nat → Nat) (d : Nat) (x0 : Nat) (x1 : Int32) (h : AH) : AMV sa d 181 0 [.ref x0, .int x1] [] h =
  aOp (aFI h x0 8 21) fun v1 =>
  aOp (aRI (AMC sa d 107 [.int x1, .int 0, .int (v1 - 1)] h)) fun z2 =>
  if z2.1 = 0 then
   some (some (.int (-1000000)), z2.2)
  else
   aOp (aFR z2.2 x0 8 20) fun v3 =>
   aOp (aIL z2.2 v3 x1) fun v4 =>
   some (some (.int v4), z2.2) :=
  (AMV_T sa d 181 (fun pc => false) 15 _ _ _ h).trans rfl
set_option maxRecDepth 100000 in
theorem eX8_count_0 (sa : Nat → Nat) (d : Nat) (x0 : Nat) (x1 : Int32) (h : AH) : AMV sa d 182 0 [.ref x0, .int x1, .null, .null] [] h =
  if x1 = 0 then
   AMV sa d 182 58 [.ref x0, .int x1, .int 0, .int 0] [] h
  else
  if x1 = 1 then
   aOp (aFR h x0 8 13) fun v1 =>
   aOp (aIL h v1 2) fun v2 =>
   some (some (.int v2), h)
  else
  if x1 = 2 then
   aOp (aFR h x0 8 13) fun v3 =>
   aOp (aIL h v3 3) fun v4 =>
   some (some (.int v4), h)
  else
  if x1 = 3 then
   aOp (aFR h x0 8 13) fun v5 =>
   aOp (aIL h v5 4) fun v6 =>
   some (some (.int v6), h)
  else
  if x1 = 4 then
   aOp (aFR h x0 8 13) fun v7 =>
   aOp (aIL h v7 0) fun v8 =>
   some (some (.int v8), h)
  else
  if x1 = 5 then
   aOp (aFR h x0 8 13) fun v9 =>
   aOp (aIL h v9 1) fun v10 =>
   some (some (.int v10), h)
  else
  if x1 = 6 then
   aOp (aFR h x0 8 13) fun v11 =>
   aOp (aIL h v11 5) fun v12 =>
   some (some (.int v12), h)
  else
  if x1 = 7 then
   aOp (aFR h x0 8 13) fun v13 =>
   aOp (aRI (AMC sa d 144 [.ref v13] h)) fun z14 =>
   some (some (.int z14.1), z14.2)
  else
  if x1 = 8 then
   aOp (aFI h x0 8 17) fun v15 =>
   some (some (.int v15), h)
  else
  if x1 = 9 then
   aOp (aFI h x0 8 6) fun v16 =>
   some (some (.int v16), h)
  else
  some (some (.int (-1000001)), h) :=
  (AMV_T sa d 182 (fun pc => Nat.beq pc 58 || Nat.beq pc 78) 10 _ _ _ h).trans rfl
set_option maxRecDepth 100000 in
theorem eX8_count_58 (sa : Nat → Nat) (d : Nat) (x0 : Nat) (x1 : Int32) (x2 : Int32) (x3 : Int32) (h : AH) : AMV sa d 182 58 [.ref x0, .int x1, .int x2, .int x3] [] h =
  if 8 ≤ x3 then
   some (some (.int x2), h)
  else
   aOp (aCl h x0 8) fun _ =>
   aOp (aRI (AMC sa d 114 [.ref x0, .int x3] h)) fun z1 =>
   if z1.1 = 0 then
    AMV sa d 182 78 [.ref x0, .int x1, .int x2, .int x3] [.int 1, .int x2] z1.2
   else
    AMV sa d 182 78 [.ref x0, .int x1, .int x2, .int x3] [.int 0, .int x2] z1.2 :=
  (AMV_T sa d 182 (fun pc => Nat.beq pc 58 || Nat.beq pc 78) 11 _ _ _ h).trans rfl
set_option maxRecDepth 100000 in
theorem eX8_count_78 (sa : Nat → Nat) (d : Nat) (x0 : Nat) (x1 : Int32) (x2 : Int32) (x3 : Int32) (s0 : Int32) (s1 : Int32) (h : AH) : AMV sa d 182 78 [.ref x0, .int x1, .int x2, .int x3] [.int s1, .int s0] h =
  AMV sa d 182 58 [.ref x0, .int x1, .int (s0 + s1), .int (x3 + 1)] [] h :=
  (AMV_T sa d 182 (fun pc => Nat.beq pc 58 || Nat.beq pc 78) 5 _ _ _ h).trans rfl
set_option maxRecDepth 100000 in
theorem eX8_status_0 (sa : Nat → Nat) (d : Nat) (x0 : Nat) (h : AH) : AMV sa d 183 0 [.ref x0] [] h =
  aOp (aFI h x0 8 4) fun v1 =>
  some (some (.int v1), h) :=
  (AMV_T sa d 183 (fun pc => false) 4 _ _ _ h).trans rfl
