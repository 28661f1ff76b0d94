set_option maxRecDepth 100000 in
theorem eL_law_0 (sa : Nat → Nat) (d : Nat) (x0 : Nat) (h : AH) : AMV sa d 188 0 [.ref x0, .null, .null, .null] [] h =
  aOp (aRV (AMC sa d 64 [.ref h.1] (aMk h 10 (.inl (7, [.null, .null, .null, .null, .null, .null, .null, .null, .int 0, .int 0]))))) fun h1 =>
  aOp (aRV (AMC sa d 106 [.ref h1.1] (aMk h1 22 (.inl (8, [.null, .null, .null, .null, .int 0, .null, .int 0, .int 0, .int 0, .int 0, .int 0, .int 0, .int 0, .null, .null, .null, .null, .int 0, .null, .null, .null, .int 0]))))) fun h2 =>
  AMV sa d 188 18 [.ref x0, .ref h.1, .ref h1.1, .int 0] [] h2 :=
  (AMV_T sa d 188 (fun pc => Nat.beq pc 18 || Nat.beq pc 726 || Nat.beq pc 769 || Nat.beq pc 802 || Nat.beq pc 835 || Nat.beq pc 868 || Nat.beq pc 931 || Nat.beq pc 994 || Nat.beq pc 1037 || Nat.beq pc 1060 || Nat.beq pc 1083 || Nat.beq pc 1106 || Nat.beq pc 1139 || Nat.beq pc 1172 || Nat.beq pc 1195 || Nat.beq pc 1218 || Nat.beq pc 1231) 11 _ _ _ h).trans rfl
set_option maxRecDepth 100000 in
theorem eL_law_18 (sa : Nat → Nat) (d : Nat) (x0 : Nat) (x1 : Nat) (x2 : Nat) (x3 : Int32) (h : AH) : AMV sa d 188 18 [.ref x0, .ref x1, .ref x2, .int x3] [] h =
  aOp (aLen h x0) fun v1 =>
  if v1 - 6 < x3 then
   some (some (.int 1), h)
  else
   aOp (aIL h x0 x3) fun v2 =>
   if v2 &&& 63 = 0 then
    aOp (aIL h x0 (x3 + 1)) fun v3 =>
    aOp (aIL h x0 (x3 + 2)) fun v4 =>
    aOp (aIL h x0 (x3 + 3)) fun v5 =>
    aOp (aCl h x1 7) fun _ =>
    aOp (aRI (AMC sa d 65 [.ref x1, .int v3, .int v4, .int v5] h)) fun z6 =>
    aOp (aIL z6.2 x0 (x3 + 1)) fun v7 =>
    aOp (aIL z6.2 x0 (x3 + 2)) fun v8 =>
    aOp (aIL z6.2 x0 (x3 + 3)) fun v9 =>
    aOp (aCl z6.2 x2 8) fun _ =>
    aOp (aRI (AMC sa d 116 [.ref x2, .int v7, .int v8, .int v9] z6.2)) fun z10 =>
    if z6.1 = z10.1 then
     AMV sa d 188 18 [.ref x0, .ref x1, .ref x2, .int (x3 + 6)] [] z10.2
    else
     some (some (.int 0), z10.2)
   else
   if v2 &&& 63 = 1 then
    aOp (aIL h x0 (x3 + 1)) fun v11 =>
    aOp (aIL h x0 (x3 + 2)) fun v12 =>
    aOp (aIL h x0 (x3 + 3)) fun v13 =>
    aOp (aCl h x1 7) fun _ =>
    aOp (aRI (AMC sa d 66 [.ref x1, .int v11, .int v12, .int v13] h)) fun z14 =>
    aOp (aIL z14.2 x0 (x3 + 1)) fun v15 =>
    aOp (aIL z14.2 x0 (x3 + 2)) fun v16 =>
    aOp (aIL z14.2 x0 (x3 + 3)) fun v17 =>
    aOp (aCl z14.2 x2 8) fun _ =>
    aOp (aRI (AMC sa d 117 [.ref x2, .int v15, .int v16, .int v17] z14.2)) fun z18 =>
    if z14.1 = z18.1 then
     AMV sa d 188 18 [.ref x0, .ref x1, .ref x2, .int (x3 + 6)] [] z18.2
    else
     some (some (.int 0), z18.2)
   else
   if v2 &&& 63 = 2 then
    aOp (aIL h x0 (x3 + 1)) fun v19 =>
    aOp (aIL h x0 (x3 + 2)) fun v20 =>
    aOp (aIL h x0 (x3 + 3)) fun v21 =>
    aOp (aIL h x0 (x3 + 4)) fun v22 =>
    aOp (aIL h x0 (x3 + 5)) fun v23 =>
    aOp (aCl h x1 7) fun _ =>
    aOp (aRI (AMC sa d 67 [.ref x1, .int v19, .int v20, .int v21, .int v22, .int v23] h)) fun z24 =>
    aOp (aIL z24.2 x0 (x3 + 1)) fun v25 =>
    aOp (aIL z24.2 x0 (x3 + 2)) fun v26 =>
    aOp (aIL z24.2 x0 (x3 + 3)) fun v27 =>
    aOp (aIL z24.2 x0 (x3 + 4)) fun v28 =>
    aOp (aIL z24.2 x0 (x3 + 5)) fun v29 =>
    aOp (aCl z24.2 x2 8) fun _ =>
    aOp (aRI (AMC sa d 119 [.ref x2, .int v25, .int v26, .int v27, .int v28, .int v29] z24.2)) fun z30 =>
    if z24.1 = z30.1 then
     AMV sa d 188 18 [.ref x0, .ref x1, .ref x2, .int (x3 + 6)] [] z30.2
    else
     some (some (.int 0), z30.2)
   else
   if v2 &&& 63 = 3 then
    aOp (aIL h x0 (x3 + 1)) fun v31 =>
    aOp (aCl h x1 7) fun _ =>
    aOp (aRI (AMC sa d 68 [.ref x1, .int v31] h)) fun z32 =>
    aOp (aIL z32.2 x0 (x3 + 1)) fun v33 =>
    aOp (aCl z32.2 x2 8) fun _ =>
    aOp (aRI (AMC sa d 120 [.ref x2, .int v33] z32.2)) fun z34 =>
    if z32.1 = z34.1 then
     AMV sa d 188 18 [.ref x0, .ref x1, .ref x2, .int (x3 + 6)] [] z34.2
    else
     some (some (.int 0), z34.2)
   else
   if v2 &&& 63 = 4 then
    aOp (aIL h x0 (x3 + 1)) fun v35 =>
    aOp (aCl h x1 7) fun _ =>
    aOp (aRI (AMC sa d 69 [.ref x1, .int v35] h)) fun z36 =>
    aOp (aIL z36.2 x0 (x3 + 1)) fun v37 =>
    aOp (aCl z36.2 x2 8) fun _ =>
    aOp (aRI (AMC sa d 121 [.ref x2, .int v37] z36.2)) fun z38 =>
    if z36.1 = z38.1 then
     AMV sa d 188 18 [.ref x0, .ref x1, .ref x2, .int (x3 + 6)] [] z38.2
    else
     some (some (.int 0), z38.2)
   else
   if v2 &&& 63 = 5 then
    aOp (aCl h x1 7) fun _ =>
    aOp (aRI (AMC sa d 70 [.ref x1] h)) fun z39 =>
    aOp (aCl z39.2 x2 8) fun _ =>
    aOp (aRI (AMC sa d 133 [.ref x2] z39.2)) fun z40 =>
    if z39.1 = z40.1 then
     AMV sa d 188 18 [.ref x0, .ref x1, .ref x2, .int (x3 + 6)] [] z40.2
    else
     some (some (.int 0), z40.2)
   else
   if v2 &&& 63 = 6 then
    aOp (aCl h x1 7) fun _ =>
    aOp (aRI (AMC sa d 71 [.ref x1] h)) fun z41 =>
    aOp (aCl z41.2 x2 8) fun _ =>
    aOp (aRI (AMC sa d 134 [.ref x2] z41.2)) fun z42 =>
    if z41.1 = z42.1 then
     AMV sa d 188 18 [.ref x0, .ref x1, .ref x2, .int (x3 + 6)] [] z42.2
    else
     some (some (.int 0), z42.2)
   else
   if v2 &&& 63 = 7 then
    aOp (aIL h x0 (x3 + 1)) fun v43 =>
    aOp (aCl h x1 7) fun _ =>
    aOp (aRI (AMC sa d 72 [.ref x1, .int v43] h)) fun z44 =>
    aOp (aIL z44.2 x0 (x3 + 1)) fun v45 =>
    aOp (aCl z44.2 x2 8) fun _ =>
    aOp (aRI (AMC sa d 146 [.ref x2, .int v45] z44.2)) fun z46 =>
    if z44.1 = z46.1 then
     AMV sa d 188 18 [.ref x0, .ref x1, .ref x2, .int (x3 + 6)] [] z46.2
    else
     some (some (.int 0), z46.2)
   else
   if v2 &&& 63 = 8 then
    aOp (aIL h x0 (x3 + 1)) fun v47 =>
    aOp (aIL h x0 (x3 + 2)) fun v48 =>
    aOp (aCl h x1 7) fun _ =>
    aOp (aRI (AMC sa d 73 [.ref x1, .int v47, .int v48] h)) fun z49 =>
    aOp (aIL z49.2 x0 (x3 + 1)) fun v50 =>
    aOp (aIL z49.2 x0 (x3 + 2)) fun v51 =>
    aOp (aCl z49.2 x2 8) fun _ =>
    aOp (aRI (AMC sa d 147 [.ref x2, .int v50, .int v51] z49.2)) fun z52 =>
    if z49.1 = z52.1 then
     AMV sa d 188 18 [.ref x0, .ref x1, .ref x2, .int (x3 + 6)] [] z52.2
    else
     some (some (.int 0), z52.2)
   else
   if v2 &&& 63 = 9 then
    aOp (aIL h x0 (x3 + 1)) fun v53 =>
    aOp (aIL h x0 (x3 + 2)) fun v54 =>
    aOp (aCl h x1 7) fun _ =>
    aOp (aRI (AMC sa d 74 [.ref x1, .int v53, .int v54] h)) fun z55 =>
    aOp (aIL z55.2 x0 (x3 + 1)) fun v56 =>
    aOp (aIL z55.2 x0 (x3 + 2)) fun v57 =>
    aOp (aCl z55.2 x2 8) fun _ =>
    aOp (aRI (AMC sa d 148 [.ref x2, .int v56, .int v57] z55.2)) fun z58 =>
    if z55.1 = z58.1 then
     AMV sa d 188 18 [.ref x0, .ref x1, .ref x2, .int (x3 + 6)] [] z58.2
    else
     some (some (.int 0), z58.2)
   else
   if v2 &&& 63 = 10 then
    aOp (aIL h x0 (x3 + 1)) fun v59 =>
    aOp (aCl h x1 7) fun _ =>
    aOp (aRI (AMC sa d 75 [.ref x1, .int v59] h)) fun z60 =>
    aOp (aIL z60.2 x0 (x3 + 1)) fun v61 =>
    aOp (aCl z60.2 x2 8) fun _ =>
    aOp (aRI (AMC sa d 149 [.ref x2, .int v61] z60.2)) fun z62 =>
    if z60.1 = z62.1 then
     AMV sa d 188 18 [.ref x0, .ref x1, .ref x2, .int (x3 + 6)] [] z62.2
    else
     some (some (.int 0), z62.2)
   else
   if v2 &&& 63 = 11 then
    aOp (aIL h x0 (x3 + 1)) fun v63 =>
    aOp (aCl h x1 7) fun _ =>
    aOp (aRI (AMC sa d 76 [.ref x1, .int v63] h)) fun z64 =>
    aOp (aIL z64.2 x0 (x3 + 1)) fun v65 =>
    aOp (aCl z64.2 x2 8) fun _ =>
    aOp (aRI (AMC sa d 151 [.ref x2, .int v65] z64.2)) fun z66 =>
    if z64.1 = z66.1 then
     AMV sa d 188 18 [.ref x0, .ref x1, .ref x2, .int (x3 + 6)] [] z66.2
    else
     some (some (.int 0), z66.2)
   else
   if v2 &&& 63 = 12 then
    aOp (aIL h x0 (x3 + 1)) fun v67 =>
    aOp (aCl h x1 7) fun _ =>
    aOp (aRI (AMC sa d 77 [.ref x1, .int v67] h)) fun z68 =>
    aOp (aIL z68.2 x0 (x3 + 1)) fun v69 =>
    aOp (aCl z68.2 x2 8) fun _ =>
    aOp (aRI (AMC sa d 152 [.ref x2, .int v69] z68.2)) fun z70 =>
    if z68.1 = z70.1 then
     AMV sa d 188 18 [.ref x0, .ref x1, .ref x2, .int (x3 + 6)] [] z70.2
    else
     some (some (.int 0), z70.2)
   else
   if v2 &&& 63 = 13 then
    aOp (aCl h x1 7) fun _ =>
    aOp (aRI (AMC sa d 78 [.ref x1] h)) fun z71 =>
    aOp (aCl z71.2 x2 8) fun _ =>
    aOp (aRI (AMC sa d 153 [.ref x2] z71.2)) fun z72 =>
    if z71.1 = z72.1 then
     AMV sa d 188 18 [.ref x0, .ref x1, .ref x2, .int (x3 + 6)] [] z72.2
    else
     some (some (.int 0), z72.2)
   else
   if v2 &&& 63 = 14 then
    aOp (aIL h x0 (x3 + 1)) fun v73 =>
    aOp (aIL h x0 (x3 + 2)) fun v74 =>
    aOp (aCl h x1 7) fun _ =>
    aOp (aRI (AMC sa d 79 [.ref x1, .int v73, .int v74] h)) fun z75 =>
    aOp (aIL z75.2 x0 (x3 + 1)) fun v76 =>
    aOp (aIL z75.2 x0 (x3 + 2)) fun v77 =>
    aOp (aCl z75.2 x2 8) fun _ =>
    aOp (aRI (AMC sa d 154 [.ref x2, .int v76, .int v77] z75.2)) fun z78 =>
    if z75.1 = z78.1 then
     AMV sa d 188 18 [.ref x0, .ref x1, .ref x2, .int (x3 + 6)] [] z78.2
    else
     some (some (.int 0), z78.2)
   else
   if v2 &&& 63 = 15 then
    aOp (aIL h x0 (x3 + 1)) fun v79 =>
    aOp (aCl h x1 7) fun _ =>
    aOp (aRI (AMC sa d 80 [.ref x1, .int v79] h)) fun z80 =>
    aOp (aIL z80.2 x0 (x3 + 1)) fun v81 =>
    aOp (aCl z80.2 x2 8) fun _ =>
    aOp (aRI (AMC sa d 155 [.ref x2, .int v81] z80.2)) fun z82 =>
    if z80.1 = z82.1 then
     AMV sa d 188 18 [.ref x0, .ref x1, .ref x2, .int (x3 + 6)] [] z82.2
    else
     some (some (.int 0), z82.2)
   else
   if v2 &&& 63 = 16 then
    aOp (aIL h x0 (x3 + 1)) fun v83 =>
    aOp (aIL h x0 (x3 + 2)) fun v84 =>
    aOp (aIL h x0 (x3 + 3)) fun v85 =>
    aOp (aCl h x1 7) fun _ =>
    aOp (aRI (AMC sa d 81 [.ref x1, .int v83, .int v84, .int v85] h)) fun z86 =>
    aOp (aIL z86.2 x0 (x3 + 1)) fun v87 =>
    aOp (aIL z86.2 x0 (x3 + 2)) fun v88 =>
    aOp (aIL z86.2 x0 (x3 + 3)) fun v89 =>
    aOp (aCl z86.2 x2 8) fun _ =>
    aOp (aRI (AMC sa d 157 [.ref x2, .int v87, .int v88, .int v89] z86.2)) fun z90 =>
    if z86.1 = z90.1 then
     AMV sa d 188 18 [.ref x0, .ref x1, .ref x2, .int (x3 + 6)] [] z90.2
    else
     some (some (.int 0), z90.2)
   else
   if v2 &&& 63 = 17 then
    aOp (aIL h x0 (x3 + 1)) fun v91 =>
    aOp (aIL h x0 (x3 + 2)) fun v92 =>
    aOp (aCl h x1 7) fun _ =>
    aOp (aRI (AMC sa d 82 [.ref x1, .int v91, .int v92] h)) fun z93 =>
    aOp (aIL z93.2 x0 (x3 + 1)) fun v94 =>
    aOp (aIL z93.2 x0 (x3 + 2)) fun v95 =>
    aOp (aCl z93.2 x2 8) fun _ =>
    aOp (aRI (AMC sa d 158 [.ref x2, .int v94, .int v95] z93.2)) fun z96 =>
    if z93.1 = z96.1 then
     AMV sa d 188 18 [.ref x0, .ref x1, .ref x2, .int (x3 + 6)] [] z96.2
    else
     some (some (.int 0), z96.2)
   else
   if v2 &&& 63 = 18 then
    aOp (aIL h x0 (x3 + 1)) fun v97 =>
    aOp (aCl h x1 7) fun _ =>
    aOp (aRI (AMC sa d 83 [.ref x1, .int v97] h)) fun z98 =>
    aOp (aIL z98.2 x0 (x3 + 1)) fun v99 =>
    aOp (aCl z98.2 x2 8) fun _ =>
    aOp (aRI (AMC sa d 159 [.ref x2, .int v99] z98.2)) fun z100 =>
    AMV sa d 188 726 [.ref x0, .ref x1, .ref x2, .int x3] [.int z100.1, .int z98.1] z100.2
   else
   if v2 &&& 63 = 19 then
    aOp (aIL h x0 (x3 + 1)) fun v101 =>
    aOp (aIL h x0 (x3 + 2)) fun v102 =>
    aOp (aIL h x0 (x3 + 3)) fun v103 =>
    aOp (aCl h x1 7) fun _ =>
    aOp (aRI (AMC sa d 84 [.ref x1, .int v101, .int v102, .int v103] h)) fun z104 =>
    aOp (aIL z104.2 x0 (x3 + 1)) fun v105 =>
    aOp (aIL z104.2 x0 (x3 + 2)) fun v106 =>
    aOp (aIL z104.2 x0 (x3 + 3)) fun v107 =>
    aOp (aCl z104.2 x2 8) fun _ =>
    aOp (aRI (AMC sa d 160 [.ref x2, .int v105, .int v106, .int v107] z104.2)) fun z108 =>
    AMV sa d 188 769 [.ref x0, .ref x1, .ref x2, .int x3] [.int z108.1, .int z104.1] z108.2
   else
   if v2 &&& 63 = 20 then
    aOp (aIL h x0 (x3 + 1)) fun v109 =>
    aOp (aIL h x0 (x3 + 2)) fun v110 =>
    aOp (aCl h x1 7) fun _ =>
    aOp (aRI (AMC sa d 85 [.ref x1, .int v109, .int v110] h)) fun z111 =>
    aOp (aIL z111.2 x0 (x3 + 1)) fun v112 =>
    aOp (aIL z111.2 x0 (x3 + 2)) fun v113 =>
    aOp (aCl z111.2 x2 8) fun _ =>
    aOp (aRI (AMC sa d 161 [.ref x2, .int v112, .int v113] z111.2)) fun z114 =>
    AMV sa d 188 802 [.ref x0, .ref x1, .ref x2, .int x3] [.int z114.1, .int z111.1] z114.2
   else
   if v2 &&& 63 = 21 then
    aOp (aIL h x0 (x3 + 1)) fun v115 =>
    aOp (aIL h x0 (x3 + 2)) fun v116 =>
    aOp (aCl h x1 7) fun _ =>
    aOp (aRI (AMC sa d 86 [.ref x1, .int v115, .int v116] h)) fun z117 =>
    aOp (aIL z117.2 x0 (x3 + 1)) fun v118 =>
    aOp (aIL z117.2 x0 (x3 + 2)) fun v119 =>
    aOp (aCl z117.2 x2 8) fun _ =>
    aOp (aRI (AMC sa d 163 [.ref x2, .int v118, .int v119] z117.2)) fun z120 =>
    AMV sa d 188 835 [.ref x0, .ref x1, .ref x2, .int x3] [.int z120.1, .int z117.1] z120.2
   else
   if v2 &&& 63 = 22 then
    aOp (aIL h x0 (x3 + 1)) fun v121 =>
    aOp (aIL h x0 (x3 + 2)) fun v122 =>
    aOp (aCl h x1 7) fun _ =>
    aOp (aRI (AMC sa d 87 [.ref x1, .int v121, .int v122] h)) fun z123 =>
    aOp (aIL z123.2 x0 (x3 + 1)) fun v124 =>
    aOp (aIL z123.2 x0 (x3 + 2)) fun v125 =>
    aOp (aCl z123.2 x2 8) fun _ =>
    aOp (aRI (AMC sa d 165 [.ref x2, .int v124, .int v125] z123.2)) fun z126 =>
    AMV sa d 188 868 [.ref x0, .ref x1, .ref x2, .int x3] [.int z126.1, .int z123.1] z126.2
   else
   if v2 &&& 63 = 23 then
    aOp (aIL h x0 (x3 + 1)) fun v127 =>
    aOp (aIL h x0 (x3 + 2)) fun v128 =>
    aOp (aIL h x0 (x3 + 3)) fun v129 =>
    aOp (aIL h x0 (x3 + 4)) fun v130 =>
    aOp (aIL h x0 (x3 + 5)) fun v131 =>
    aOp (aCl h x1 7) fun _ =>
    aOp (aRI (AMC sa d 88 [.ref x1, .int v127, .int v128, .int v129, .int v130, .int v131] h)) fun z132 =>
    aOp (aIL z132.2 x0 (x3 + 1)) fun v133 =>
    aOp (aIL z132.2 x0 (x3 + 2)) fun v134 =>
    aOp (aIL z132.2 x0 (x3 + 3)) fun v135 =>
    aOp (aIL z132.2 x0 (x3 + 4)) fun v136 =>
    aOp (aIL z132.2 x0 (x3 + 5)) fun v137 =>
    aOp (aCl z132.2 x2 8) fun _ =>
    aOp (aRI (AMC sa d 167 [.ref x2, .int v133, .int v134, .int v135, .int v136, .int v137] z132.2)) fun z138 =>
    AMV sa d 188 931 [.ref x0, .ref x1, .ref x2, .int x3] [.int z138.1, .int z132.1] z138.2
   else
   if v2 &&& 63 = 24 then
    aOp (aIL h x0 (x3 + 1)) fun v139 =>
    aOp (aIL h x0 (x3 + 2)) fun v140 =>
    aOp (aIL h x0 (x3 + 3)) fun v141 =>
    aOp (aIL h x0 (x3 + 4)) fun v142 =>
    aOp (aIL h x0 (x3 + 5)) fun v143 =>
    aOp (aCl h x1 7) fun _ =>
    aOp (aRI (AMC sa d 89 [.ref x1, .int v139, .int v140, .int v141, .int v142, .int v143] h)) fun z144 =>
    aOp (aIL z144.2 x0 (x3 + 1)) fun v145 =>
    aOp (aIL z144.2 x0 (x3 + 2)) fun v146 =>
    aOp (aIL z144.2 x0 (x3 + 3)) fun v147 =>
    aOp (aIL z144.2 x0 (x3 + 4)) fun v148 =>
    aOp (aIL z144.2 x0 (x3 + 5)) fun v149 =>
    aOp (aCl z144.2 x2 8) fun _ =>
    aOp (aRI (AMC sa d 168 [.ref x2, .int v145, .int v146, .int v147, .int v148, .int v149] z144.2)) fun z150 =>
    AMV sa d 188 994 [.ref x0, .ref x1, .ref x2, .int x3] [.int z150.1, .int z144.1] z150.2
   else
   if v2 &&& 63 = 25 then
    aOp (aIL h x0 (x3 + 1)) fun v151 =>
    aOp (aIL h x0 (x3 + 2)) fun v152 =>
    aOp (aIL h x0 (x3 + 3)) fun v153 =>
    aOp (aCl h x1 7) fun _ =>
    aOp (aRI (AMC sa d 90 [.ref x1, .int v151, .int v152, .int v153] h)) fun z154 =>
    aOp (aIL z154.2 x0 (x3 + 1)) fun v155 =>
    aOp (aIL z154.2 x0 (x3 + 2)) fun v156 =>
    aOp (aIL z154.2 x0 (x3 + 3)) fun v157 =>
    aOp (aCl z154.2 x2 8) fun _ =>
    aOp (aRI (AMC sa d 169 [.ref x2, .int v155, .int v156, .int v157] z154.2)) fun z158 =>
    AMV sa d 188 1037 [.ref x0, .ref x1, .ref x2, .int x3] [.int z158.1, .int z154.1] z158.2
   else
   if v2 &&& 63 = 26 then
    aOp (aIL h x0 (x3 + 1)) fun v159 =>
    aOp (aCl h x1 7) fun _ =>
    aOp (aRI (AMC sa d 91 [.ref x1, .int v159] h)) fun z160 =>
    aOp (aIL z160.2 x0 (x3 + 1)) fun v161 =>
    aOp (aCl z160.2 x2 8) fun _ =>
    aOp (aRI (AMC sa d 170 [.ref x2, .int v161] z160.2)) fun z162 =>
    AMV sa d 188 1060 [.ref x0, .ref x1, .ref x2, .int x3] [.int z162.1, .int z160.1] z162.2
   else
   if v2 &&& 63 = 27 then
    aOp (aIL h x0 (x3 + 1)) fun v163 =>
    aOp (aCl h x1 7) fun _ =>
    aOp (aRI (AMC sa d 92 [.ref x1, .int v163] h)) fun z164 =>
    aOp (aIL z164.2 x0 (x3 + 1)) fun v165 =>
    aOp (aCl z164.2 x2 8) fun _ =>
    aOp (aRI (AMC sa d 171 [.ref x2, .int v165] z164.2)) fun z166 =>
    AMV sa d 188 1083 [.ref x0, .ref x1, .ref x2, .int x3] [.int z166.1, .int z164.1] z166.2
   else
   if v2 &&& 63 = 28 then
    aOp (aIL h x0 (x3 + 1)) fun v167 =>
    aOp (aCl h x1 7) fun _ =>
    aOp (aRI (AMC sa d 93 [.ref x1, .int v167] h)) fun z168 =>
    aOp (aIL z168.2 x0 (x3 + 1)) fun v169 =>
    aOp (aCl z168.2 x2 8) fun _ =>
    aOp (aRI (AMC sa d 173 [.ref x2, .int v169] z168.2)) fun z170 =>
    AMV sa d 188 1106 [.ref x0, .ref x1, .ref x2, .int x3] [.int z170.1, .int z168.1] z170.2
   else
   if v2 &&& 63 = 29 then
    aOp (aIL h x0 (x3 + 1)) fun v171 =>
    aOp (aIL h x0 (x3 + 2)) fun v172 =>
    aOp (aCl h x1 7) fun _ =>
    aOp (aRI (AMC sa d 94 [.ref x1, .int v171, .int v172] h)) fun z173 =>
    aOp (aIL z173.2 x0 (x3 + 1)) fun v174 =>
    aOp (aIL z173.2 x0 (x3 + 2)) fun v175 =>
    aOp (aCl z173.2 x2 8) fun _ =>
    aOp (aRI (AMC sa d 174 [.ref x2, .int v174, .int v175] z173.2)) fun z176 =>
    AMV sa d 188 1139 [.ref x0, .ref x1, .ref x2, .int x3] [.int z176.1, .int z173.1] z176.2
   else
   if v2 &&& 63 = 30 then
    aOp (aIL h x0 (x3 + 1)) fun v177 =>
    aOp (aIL h x0 (x3 + 2)) fun v178 =>
    aOp (aCl h x1 7) fun _ =>
    aOp (aRI (AMC sa d 95 [.ref x1, .int v177, .int v178] h)) fun z179 =>
    aOp (aIL z179.2 x0 (x3 + 1)) fun v180 =>
    aOp (aIL z179.2 x0 (x3 + 2)) fun v181 =>
    aOp (aCl z179.2 x2 8) fun _ =>
    aOp (aRI (AMC sa d 180 [.ref x2, .int v180, .int v181] z179.2)) fun z182 =>
    AMV sa d 188 1172 [.ref x0, .ref x1, .ref x2, .int x3] [.int z182.1, .int z179.1] z182.2
   else
   if v2 &&& 63 = 31 then
    aOp (aIL h x0 (x3 + 1)) fun v183 =>
    aOp (aCl h x1 7) fun _ =>
    aOp (aRI (AMC sa d 96 [.ref x1, .int v183] h)) fun z184 =>
    aOp (aIL z184.2 x0 (x3 + 1)) fun v185 =>
    aOp (aCl z184.2 x2 8) fun _ =>
    aOp (aRI (AMC sa d 181 [.ref x2, .int v185] z184.2)) fun z186 =>
    AMV sa d 188 1195 [.ref x0, .ref x1, .ref x2, .int x3] [.int z186.1, .int z184.1] z186.2
   else
   if v2 &&& 63 = 32 then
    aOp (aIL h x0 (x3 + 1)) fun v187 =>
    aOp (aCl h x1 7) fun _ =>
    aOp (aRI (AMC sa d 97 [.ref x1, .int v187] h)) fun z188 =>
    aOp (aIL z188.2 x0 (x3 + 1)) fun v189 =>
    aOp (aCl z188.2 x2 8) fun _ =>
    aOp (aRI (AMC sa d 182 [.ref x2, .int v189] z188.2)) fun z190 =>
    AMV sa d 188 1218 [.ref x0, .ref x1, .ref x2, .int x3] [.int z190.1, .int z188.1] z190.2
   else
   if v2 &&& 63 = 33 then
    aOp (aCl h x1 7) fun _ =>
    aOp (aRI (AMC sa d 98 [.ref x1] h)) fun z191 =>
    aOp (aCl z191.2 x2 8) fun _ =>
    aOp (aRI (AMC sa d 183 [.ref x2] z191.2)) fun z192 =>
    AMV sa d 188 1231 [.ref x0, .ref x1, .ref x2, .int x3] [.int z192.1, .int z191.1] z192.2
   else
   AMV sa d 188 18 [.ref x0, .ref x1, .ref x2, .int (x3 + 6)] [] h :=
  (AMV_T sa d 188 (fun pc => Nat.beq pc 18 || Nat.beq pc 726 || Nat.beq pc 769 || Nat.beq pc 802 || Nat.beq pc 835 || Nat.beq pc 868 || Nat.beq pc 931 || Nat.beq pc 994 || Nat.beq pc 1037 || Nat.beq pc 1060 || Nat.beq pc 1083 || Nat.beq pc 1106 || Nat.beq pc 1139 || Nat.beq pc 1172 || Nat.beq pc 1195 || Nat.beq pc 1218 || Nat.beq pc 1231) 70 _ _ _ h).trans rfl
set_option maxRecDepth 100000 in
theorem eL_law_726 (sa : Nat → Nat) (d : Nat) (x0 : Nat) (x1 : Nat) (x2 : Nat) (x3 : Int32) (s0 : Int32) (s1 : Int32) (h : AH) : AMV sa d 188 726 [.ref x0, .ref x1, .ref x2, .int x3] [.int s1, .int s0] h =
  if s0 = s1 then
   AMV sa d 188 18 [.ref x0, .ref x1, .ref x2, .int (x3 + 6)] [] h
  else
   some (some (.int 0), h) :=
  (AMV_T sa d 188 (fun pc => Nat.beq pc 18 || Nat.beq pc 726 || Nat.beq pc 769 || Nat.beq pc 802 || Nat.beq pc 835 || Nat.beq pc 868 || Nat.beq pc 931 || Nat.beq pc 994 || Nat.beq pc 1037 || Nat.beq pc 1060 || Nat.beq pc 1083 || Nat.beq pc 1106 || Nat.beq pc 1139 || Nat.beq pc 1172 || Nat.beq pc 1195 || Nat.beq pc 1218 || Nat.beq pc 1231) 4 _ _ _ h).trans rfl
set_option maxRecDepth 100000 in
theorem eL_law_769 (sa : Nat → Nat) (d : Nat) (x0 : Nat) (x1 : Nat) (x2 : Nat) (x3 : Int32) (s0 : Int32) (s1 : Int32) (h : AH) : AMV sa d 188 769 [.ref x0, .ref x1, .ref x2, .int x3] [.int s1, .int s0] h =
  if s0 = s1 then
   AMV sa d 188 18 [.ref x0, .ref x1, .ref x2, .int (x3 + 6)] [] h
  else
   some (some (.int 0), h) :=
  (AMV_T sa d 188 (fun pc => Nat.beq pc 18 || Nat.beq pc 726 || Nat.beq pc 769 || Nat.beq pc 802 || Nat.beq pc 835 || Nat.beq pc 868 || Nat.beq pc 931 || Nat.beq pc 994 || Nat.beq pc 1037 || Nat.beq pc 1060 || Nat.beq pc 1083 || Nat.beq pc 1106 || Nat.beq pc 1139 || Nat.beq pc 1172 || Nat.beq pc 1195 || Nat.beq pc 1218 || Nat.beq pc 1231) 4 _ _ _ h).trans rfl
set_option maxRecDepth 100000 in
theorem eL_law_802 (sa : Nat → Nat) (d : Nat) (x0 : Nat) (x1 : Nat) (x2 : Nat) (x3 : Int32) (s0 : Int32) (s1 : Int32) (h : AH) : AMV sa d 188 802 [.ref x0, .ref x1, .ref x2, .int x3] [.int s1, .int s0] h =
  if s0 = s1 then
   AMV sa d 188 18 [.ref x0, .ref x1, .ref x2, .int (x3 + 6)] [] h
  else
   some (some (.int 0), h) :=
  (AMV_T sa d 188 (fun pc => Nat.beq pc 18 || Nat.beq pc 726 || Nat.beq pc 769 || Nat.beq pc 802 || Nat.beq pc 835 || Nat.beq pc 868 || Nat.beq pc 931 || Nat.beq pc 994 || Nat.beq pc 1037 || Nat.beq pc 1060 || Nat.beq pc 1083 || Nat.beq pc 1106 || Nat.beq pc 1139 || Nat.beq pc 1172 || Nat.beq pc 1195 || Nat.beq pc 1218 || Nat.beq pc 1231) 4 _ _ _ h).trans rfl
set_option maxRecDepth 100000 in
theorem eL_law_835 (sa : Nat → Nat) (d : Nat) (x0 : Nat) (x1 : Nat) (x2 : Nat) (x3 : Int32) (s0 : Int32) (s1 : Int32) (h : AH) : AMV sa d 188 835 [.ref x0, .ref x1, .ref x2, .int x3] [.int s1, .int s0] h =
  if s0 = s1 then
   AMV sa d 188 18 [.ref x0, .ref x1, .ref x2, .int (x3 + 6)] [] h
  else
   some (some (.int 0), h) :=
  (AMV_T sa d 188 (fun pc => Nat.beq pc 18 || Nat.beq pc 726 || Nat.beq pc 769 || Nat.beq pc 802 || Nat.beq pc 835 || Nat.beq pc 868 || Nat.beq pc 931 || Nat.beq pc 994 || Nat.beq pc 1037 || Nat.beq pc 1060 || Nat.beq pc 1083 || Nat.beq pc 1106 || Nat.beq pc 1139 || Nat.beq pc 1172 || Nat.beq pc 1195 || Nat.beq pc 1218 || Nat.beq pc 1231) 4 _ _ _ h).trans rfl
set_option maxRecDepth 100000 in
theorem eL_law_868 (sa : Nat → Nat) (d : Nat) (x0 : Nat) (x1 : Nat) (x2 : Nat) (x3 : Int32) (s0 : Int32) (s1 : Int32) (h : AH) : AMV sa d 188 868 [.ref x0, .ref x1, .ref x2, .int x3] [.int s1, .int s0] h =
  if s0 = s1 then
   AMV sa d 188 18 [.ref x0, .ref x1, .ref x2, .int (x3 + 6)] [] h
  else
   some (some (.int 0), h) :=
  (AMV_T sa d 188 (fun pc => Nat.beq pc 18 || Nat.beq pc 726 || Nat.beq pc 769 || Nat.beq pc 802 || Nat.beq pc 835 || Nat.beq pc 868 || Nat.beq pc 931 || Nat.beq pc 994 || Nat.beq pc 1037 || Nat.beq pc 1060 || Nat.beq pc 1083 || Nat.beq pc 1106 || Nat.beq pc 1139 || Nat.beq pc 1172 || Nat.beq pc 1195 || Nat.beq pc 1218 || Nat.beq pc 1231) 4 _ _ _ h).trans rfl
set_option maxRecDepth 100000 in
theorem eL_law_931 (sa : Nat → Nat) (d : Nat) (x0 : Nat) (x1 : Nat) (x2 : Nat) (x3 : Int32) (s0 : Int32) (s1 : Int32) (h : AH) : AMV sa d 188 931 [.ref x0, .ref x1, .ref x2, .int x3] [.int s1, .int s0] h =
  if s0 = s1 then
   AMV sa d 188 18 [.ref x0, .ref x1, .ref x2, .int (x3 + 6)] [] h
  else
   some (some (.int 0), h) :=
  (AMV_T sa d 188 (fun pc => Nat.beq pc 18 || Nat.beq pc 726 || Nat.beq pc 769 || Nat.beq pc 802 || Nat.beq pc 835 || Nat.beq pc 868 || Nat.beq pc 931 || Nat.beq pc 994 || Nat.beq pc 1037 || Nat.beq pc 1060 || Nat.beq pc 1083 || Nat.beq pc 1106 || Nat.beq pc 1139 || Nat.beq pc 1172 || Nat.beq pc 1195 || Nat.beq pc 1218 || Nat.beq pc 1231) 4 _ _ _ h).trans rfl
set_option maxRecDepth 100000 in
theorem eL_law_994 (sa : Nat → Nat) (d : Nat) (x0 : Nat) (x1 : Nat) (x2 : Nat) (x3 : Int32) (s0 : Int32) (s1 : Int32) (h : AH) : AMV sa d 188 994 [.ref x0, .ref x1, .ref x2, .int x3] [.int s1, .int s0] h =
  if s0 = s1 then
   AMV sa d 188 18 [.ref x0, .ref x1, .ref x2, .int (x3 + 6)] [] h
  else
   some (some (.int 0), h) :=
  (AMV_T sa d 188 (fun pc => Nat.beq pc 18 || Nat.beq pc 726 || Nat.beq pc 769 || Nat.beq pc 802 || Nat.beq pc 835 || Nat.beq pc 868 || Nat.beq pc 931 || Nat.beq pc 994 || Nat.beq pc 1037 || Nat.beq pc 1060 || Nat.beq pc 1083 || Nat.beq pc 1106 || Nat.beq pc 1139 || Nat.beq pc 1172 || Nat.beq pc 1195 || Nat.beq pc 1218 || Nat.beq pc 1231) 4 _ _ _ h).trans rfl
set_option maxRecDepth 100000 in
theorem eL_law_1037 (sa : Nat → Nat) (d : Nat) (x0 : Nat) (x1 : Nat) (x2 : Nat) (x3 : Int32) (s0 : Int32) (s1 : Int32) (h : AH) : AMV sa d 188 1037 [.ref x0, .ref x1, .ref x2, .int x3] [.int s1, .int s0] h =
  if s0 = s1 then
   AMV sa d 188 18 [.ref x0, .ref x1, .ref x2, .int (x3 + 6)] [] h
  else
   some (some (.int 0), h) :=
  (AMV_T sa d 188 (fun pc => Nat.beq pc 18 || Nat.beq pc 726 || Nat.beq pc 769 || Nat.beq pc 802 || Nat.beq pc 835 || Nat.beq pc 868 || Nat.beq pc 931 || Nat.beq pc 994 || Nat.beq pc 1037 || Nat.beq pc 1060 || Nat.beq pc 1083 || Nat.beq pc 1106 || Nat.beq pc 1139 || Nat.beq pc 1172 || Nat.beq pc 1195 || Nat.beq pc 1218 || Nat.beq pc 1231) 4 _ _ _ h).trans rfl
set_option maxRecDepth 100000 in
theorem eL_law_1060 (sa : Nat → Nat) (d : Nat) (x0 : Nat) (x1 : Nat) (x2 : Nat) (x3 : Int32) (s0 : Int32) (s1 : Int32) (h : AH) : AMV sa d 188 1060 [.ref x0, .ref x1, .ref x2, .int x3] [.int s1, .int s0] h =
  if s0 = s1 then
   AMV sa d 188 18 [.ref x0, .ref x1, .ref x2, .int (x3 + 6)] [] h
  else
   some (some (.int 0), h) :=
  (AMV_T sa d 188 (fun pc => Nat.beq pc 18 || Nat.beq pc 726 || Nat.beq pc 769 || Nat.beq pc 802 || Nat.beq pc 835 || Nat.beq pc 868 || Nat.beq pc 931 || Nat.beq pc 994 || Nat.beq pc 1037 || Nat.beq pc 1060 || Nat.beq pc 1083 || Nat.beq pc 1106 || Nat.beq pc 1139 || Nat.beq pc 1172 || Nat.beq pc 1195 || Nat.beq pc 1218 || Nat.beq pc 1231) 4 _ _ _ h).trans rfl
set_option maxRecDepth 100000 in
theorem eL_law_1083 (sa : Nat → Nat) (d : Nat) (x0 : Nat) (x1 : Nat) (x2 : Nat) (x3 : Int32) (s0 : Int32) (s1 : Int32) (h : AH) : AMV sa d 188 1083 [.ref x0, .ref x1, .ref x2, .int x3] [.int s1, .int s0] h =
  if s0 = s1 then
   AMV sa d 188 18 [.ref x0, .ref x1, .ref x2, .int (x3 + 6)] [] h
  else
   some (some (.int 0), h) :=
  (AMV_T sa d 188 (fun pc => Nat.beq pc 18 || Nat.beq pc 726 || Nat.beq pc 769 || Nat.beq pc 802 || Nat.beq pc 835 || Nat.beq pc 868 || Nat.beq pc 931 || Nat.beq pc 994 || Nat.beq pc 1037 || Nat.beq pc 1060 || Nat.beq pc 1083 || Nat.beq pc 1106 || Nat.beq pc 1139 || Nat.beq pc 1172 || Nat.beq pc 1195 || Nat.beq pc 1218 || Nat.beq pc 1231) 4 _ _ _ h).trans rfl
set_option maxRecDepth 100000 in
theorem eL_law_1106 (sa : Nat → Nat) (d : Nat) (x0 : Nat) (x1 : Nat) (x2 : Nat) (x3 : Int32) (s0 : Int32) (s1 : Int32) (h : AH) : AMV sa d 188 1106 [.ref x0, .ref x1, .ref x2, .int x3] [.int s1, .int s0] h =
  if s0 = s1 then
   AMV sa d 188 18 [.ref x0, .ref x1, .ref x2, .int (x3 + 6)] [] h
  else
   some (some (.int 0), h) :=
  (AMV_T sa d 188 (fun pc => Nat.beq pc 18 || Nat.beq pc 726 || Nat.beq pc 769 || Nat.beq pc 802 || Nat.beq pc 835 || Nat.beq pc 868 || Nat.beq pc 931 || Nat.beq pc 994 || Nat.beq pc 1037 || Nat.beq pc 1060 || Nat.beq pc 1083 || Nat.beq pc 1106 || Nat.beq pc 1139 || Nat.beq pc 1172 || Nat.beq pc 1195 || Nat.beq pc 1218 || Nat.beq pc 1231) 4 _ _ _ h).trans rfl
set_option maxRecDepth 100000 in
theorem eL_law_1139 (sa : Nat → Nat) (d : Nat) (x0 : Nat) (x1 : Nat) (x2 : Nat) (x3 : Int32) (s0 : Int32) (s1 : Int32) (h : AH) : AMV sa d 188 1139 [.ref x0, .ref x1, .ref x2, .int x3] [.int s1, .int s0] h =
  if s0 = s1 then
   AMV sa d 188 18 [.ref x0, .ref x1, .ref x2, .int (x3 + 6)] [] h
  else
   some (some (.int 0), h) :=
  (AMV_T sa d 188 (fun pc => Nat.beq pc 18 || Nat.beq pc 726 || Nat.beq pc 769 || Nat.beq pc 802 || Nat.beq pc 835 || Nat.beq pc 868 || Nat.beq pc 931 || Nat.beq pc 994 || Nat.beq pc 1037 || Nat.beq pc 1060 || Nat.beq pc 1083 || Nat.beq pc 1106 || Nat.beq pc 1139 || Nat.beq pc 1172 || Nat.beq pc 1195 || Nat.beq pc 1218 || Nat.beq pc 1231) 4 _ _ _ h).trans rfl
set_option maxRecDepth 100000 in
theorem eL_law_1172 (sa : Nat → Nat) (d : Nat) (x0 : Nat) (x1 : Nat) (x2 : Nat) (x3 : Int32) (s0 : Int32) (s1 : Int32) (h : AH) : AMV sa d 188 1172 [.ref x0, .ref x1, .ref x2, .int x3] [.int s1, .int s0] h =
  if s0 = s1 then
   AMV sa d 188 18 [.ref x0, .ref x1, .ref x2, .int (x3 + 6)] [] h
  else
   some (some (.int 0), h) :=
  (AMV_T sa d 188 (fun pc => Nat.beq pc 18 || Nat.beq pc 726 || Nat.beq pc 769 || Nat.beq pc 802 || Nat.beq pc 835 || Nat.beq pc 868 || Nat.beq pc 931 || Nat.beq pc 994 || Nat.beq pc 1037 || Nat.beq pc 1060 || Nat.beq pc 1083 || Nat.beq pc 1106 || Nat.beq pc 1139 || Nat.beq pc 1172 || Nat.beq pc 1195 || Nat.beq pc 1218 || Nat.beq pc 1231) 4 _ _ _ h).trans rfl
set_option maxRecDepth 100000 in
theorem eL_law_1195 (sa : Nat → Nat) (d : Nat) (x0 : Nat) (x1 : Nat) (x2 : Nat) (x3 : Int32) (s0 : Int32) (s1 : Int32) (h : AH) : AMV sa d 188 1195 [.ref x0, .ref x1, .ref x2, .int x3] [.int s1, .int s0] h =
  if s0 = s1 then
   AMV sa d 188 18 [.ref x0, .ref x1, .ref x2, .int (x3 + 6)] [] h
  else
   some (some (.int 0), h) :=
  (AMV_T sa d 188 (fun pc => Nat.beq pc 18 || Nat.beq pc 726 || Nat.beq pc 769 || Nat.beq pc 802 || Nat.beq pc 835 || Nat.beq pc 868 || Nat.beq pc 931 || Nat.beq pc 994 || Nat.beq pc 1037 || Nat.beq pc 1060 || Nat.beq pc 1083 || Nat.beq pc 1106 || Nat.beq pc 1139 || Nat.beq pc 1172 || Nat.beq pc 1195 || Nat.beq pc 1218 || Nat.beq pc 1231) 4 _ _ _ h).trans rfl
set_option maxRecDepth 100000 in
theorem eL_law_1218 (sa : Nat → Nat) (d : Nat) (x0 : Nat) (x1 : Nat) (x2 : Nat) (x3 : Int32) (s0 : Int32) (s1 : Int32) (h : AH) : AMV sa d 188 1218 [.ref x0, .ref x1, .ref x2, .int x3] [.int s1, .int s0] h =
  if s0 = s1 then
   AMV sa d 188 18 [.ref x0, .ref x1, .ref x2, .int (x3 + 6)] [] h
  else
   some (some (.int 0), h) :=
  (AMV_T sa d 188 (fun pc => Nat.beq pc 18 || Nat.beq pc 726 || Nat.beq pc 769 || Nat.beq pc 802 || Nat.beq pc 835 || Nat.beq pc 868 || Nat.beq pc 931 || Nat.beq pc 994 || Nat.beq pc 1037 || Nat.beq pc 1060 || Nat.beq pc 1083 || Nat.beq pc 1106 || Nat.beq pc 1139 || Nat.beq pc 1172 || Nat.beq pc 1195 || Nat.beq pc 1218 || Nat.beq pc 1231) 4 _ _ _ h).trans rfl
set_option maxRecDepth 100000 in
theorem eL_law_1231 (sa : Nat → Nat) (d : Nat) (x0 : Nat) (x1 : Nat) (x2 : Nat) (x3 : Int32) (s0 : Int32) (s1 : Int32) (h : AH) : AMV sa d 188 1231 [.ref x0, .ref x1, .ref x2, .int x3] [.int s1, .int s0] h =
  if s0 = s1 then
   AMV sa d 188 18 [.ref x0, .ref x1, .ref x2, .int (x3 + 6)] [] h
  else
   some (some (.int 0), h) :=
  (AMV_T sa d 188 (fun pc => Nat.beq pc 18 || Nat.beq pc 726 || Nat.beq pc 769 || Nat.beq pc 802 || Nat.beq pc 835 || Nat.beq pc 868 || Nat.beq pc 931 || Nat.beq pc 994 || Nat.beq pc 1037 || Nat.beq pc 1060 || Nat.beq pc 1083 || Nat.beq pc 1106 || Nat.beq pc 1139 || Nat.beq pc 1172 || Nat.beq pc 1195 || Nat.beq pc 1218 || Nat.beq pc 1231) 4 _ _ _ h).trans rfl
