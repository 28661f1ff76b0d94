/-! ===== the class: rows, tape's end, trace, counts ===== -/
theorem c_isNamed (sa : Nat → Nat) (d : Nat) (x : Int32) (h : AH) : AMC sa (d + 1) 23 [.int x] h = some (some (.int (bv (iL x 8))), h) := by
  rw [fX3_isNamed, eX3_isNamed_0]
  unfold iL
  have e7 : (nI 8 - 1).toInt = 7 := by decide
  have e8 : (8 : Int32).toInt = 8 := by decide
  by_cases h1 : x < 0
  · rw [if_pos h1, decide_eq_false (fun z => absurd h1 (Int32.not_lt.mpr z.1))]; rfl
  · rw [if_neg h1]
    by_cases h2 : (8 : Int32) ≤ x
    · rw [if_pos h2, decide_eq_false (fun z => by
        have a := Int32.le_iff_toInt_le.mp h2
        have b := Int32.le_iff_toInt_le.mp z.2
        omega)]; rfl
    · rw [if_neg h2, decide_eq_true ⟨Int32.not_lt.mp h1, Int32.le_iff_toInt_le.mpr (by
        have a : ¬ (8 : Int32).toInt ≤ x.toInt := fun z => h2 (Int32.le_iff_toInt_le.mpr z)
        omega)⟩]; rfl
theorem c_isLane (sa : Nat → Nat) (d : Nat) (x : Int32) (h : AH) : AMC sa (d + 1) 24 [.int x] h = some (some (.int (bv (iL x 3))), h) := by
  rw [fX3_isLane, eX3_isLane_0, show iL x 3 = decide ((0 : Int32) ≤ x ∧ x ≤ 2) from rfl]
  by_cases h1 : x < 0
  · rw [if_pos h1, decide_eq_false (fun z => absurd h1 (Int32.not_lt.mpr z.1))]; rfl
  · rw [if_neg h1]
    by_cases h2 : (2 : Int32) < x
    · rw [if_pos h2, decide_eq_false (fun z => absurd h2 (Int32.not_lt.mpr z.2))]; rfl
    · rw [if_neg h2, decide_eq_true ⟨Int32.not_lt.mp h1, Int32.not_lt.mp h2⟩]; rfl
theorem n_nem {b : Nat} (h : b < 1000000) : ¬ nI b = -1 := by
  intro z
  have h1 : (nI b).toInt = (b : Int) := nI_toInt (by omega)
  rw [z] at h1
  have h2 : (-1 : Int32).toInt = -1 := by decide
  omega
theorem c_isMissing (sa : Nat → Nat) (d : Nat) (h : AH) (co : Nat) {S : ST} {ln sz : Nat → Nat} {it : Nat → Nat → Int32} (hR : rR S 7 (-1) ln sz it) {r : Nat} (hr : r < 8) : AMC sa (d + 1) 25 [.ref (co + 6), .int (nI r)] (mk h co S) = some (some (.int (bv (decide (ln r = 3)))), mk h co S) := by
  obtain ⟨h1, h2, h3, h4, h5⟩ := hR r hr
  rw [fX3_isMissing, eX3_isMissing_0, gR_6_0, aOp_s, gL_7 _ _ _ _ (aIn_nI hr (by decide)), aOp_s, nI_clamp (by omega), h3]
  by_cases e : ln r = 3
  · rw [if_pos e, if_pos rfl, decide_eq_true e]; rfl
  · rw [if_neg e, if_neg (n_nem (by omega)), decide_eq_false e]; rfl
theorem c_covers (sa : Nat → Nat) (d : Nat) (h : AH) (co : Nat) {S : ST} {ln sz : Nat → Nat} {it : Nat → Nat → Int32} (hR : rR S 7 (-1) ln sz it) {r : Nat} (hr : r < 8) (i n : Int32) : AMC sa (d + 1) 27 [.ref (co + 6), .int (nI r), .int i, .int n] (mk h co S) = some (some (.int (bv (rPt (sz r) i n))), mk h co S) := by
  obtain ⟨h1, h2, h3, h4, h5⟩ := hR r hr
  rw [fX3_covers, eX3_covers_0]
  unfold rPt
  by_cases hi : i < 0
  · rw [if_pos hi, decide_eq_false (fun z => absurd hi (i0_le.mpr z.1))]; rfl
  rw [if_neg hi]
  by_cases hn : n < 0
  · rw [if_pos hn, decide_eq_false (fun z => absurd hn (i0_le.mpr z.2.1))]; rfl
  rw [if_neg hn]
  have hi' := i0_le.mp hi
  have hn' := i0_le.mp hn
  rw [gR_6_1, aOp_s, gL_8 _ _ _ _ (aIn_nI hr (by decide)), aOp_s, nI_clamp (by omega), show S.2.2 8 r = nI (sz r) from h4]
  have hd : (nI (sz r) - n).toInt = (sz r : Int) - n.toInt := toInt_sub_nn (by omega) hn'
  by_cases h7 : nI (sz r) - n < i
  · rw [if_pos h7]
    have := Int32.lt_iff_toInt_lt.mp h7
    rw [decide_eq_false (fun z => by omega)]; rfl
  · rw [if_neg h7]
    have h7' : ¬ (nI (sz r) - n).toInt < i.toInt := fun z => h7 (Int32.lt_iff_toInt_lt.mpr z)
    rw [decide_eq_true (by omega)]; rfl
theorem rPt_1 {s : Nat} (hs : s ≤ 40) (i : Int32) : rPt s i 1 = iL i s := by
  unfold rPt iL
  have e : (nI s - 1).toInt = (s : Int) - 1 := pk_sub_toInt (a := s) (b := 1) (by omega) (by decide)
  have e1 : (1 : Int32).toInt = 1 := by decide
  have e0 : (0 : Int32).toInt = 0 := by decide
  refine decide_eq_decide.mpr ⟨fun z => ⟨Int32.le_iff_toInt_le.mpr (by omega), Int32.le_iff_toInt_le.mpr (by omega)⟩, fun z => ?_⟩
  have a := Int32.le_iff_toInt_le.mp z.1
  have b := Int32.le_iff_toInt_le.mp z.2
  omega
theorem r40 (r k : Nat) : nI r * 40 + nI k = nI (40 * r + k) := by
  rw [show nI r * 40 = nI (r * 40) from pk_mul r 40, nI_add, Nat.mul_comm]
theorem c_row_bad (sa : Nat → Nat) (d : Nat) (h : AH) (co : Nat) (S : ST) (r l n : Int32) (hb : (iL r 8 && (iL l 3 && decide (n ≤ 40))) = false) : AMC sa (d + 3) 65 [.ref co, .int r, .int l, .int n] (mk h co S) = some (some (.int (-1000001)), mk h co S) := by
  rw [fX7_row, eX7_row_0, c_isNamed, aRI_mk, aOp_s]
  cases h1 : iL r 8 with
  | false => rw [if_pos bvf]
  | true =>
    rw [h1, Bool.true_and] at hb
    rw [if_neg bvn, c_isLane, aRI_mk, aOp_s]
    cases h2 : iL l 3 with
    | false => rw [if_pos bvf]
    | true =>
      rw [h2, Bool.true_and] at hb
      rw [if_neg bvn, if_neg (of_decide_eq_false hb)]
theorem c_row_size (sa : Nat → Nat) (d : Nat) (h : AH) (co : Nat) (S : ST) {r l : Nat} (hr : r < 8) (hl : l < 3) {n : Int32} (hn : n ≤ 40) (hz : ¬ 0 ≤ n) : AMC sa (d + 3) 65 [.ref co, .int (nI r), .int (nI l), .int n] (mk h co S) = some (some (.int (-1000014)), mk h co (sI S 0 9 4)) := by
  rw [fX7_row, eX7_row_0, c_isNamed, aRI_mk, aOp_s, iL_nI (by decide) hr, if_neg bvn, c_isLane, aRI_mk, aOp_s, iL_nI (by decide) hl, if_neg bvn, if_pos hn, if_neg hz, gC_0, aOp_s, c_found, aRI_mk, aOp_s]
  rfl
theorem c_make (sa : Nat → Nat) (d : Nat) (h : AH) (co : Nat) (S : ST) {r n : Nat} (l : Int32) (hr : r < 8) (hn : n ≤ 40) : AMC sa (d + 1) 28 [.ref (co + 6), .int (nI r), .int l, .int (nI n)] (mk h co S) = some (none, mk h co (sA (sA (sA S 7 (upd (S.2.2 7) r l)) 8 (upd (S.2.2 8) r (nI n))) 9 (zr (S.2.2 9) (40 * r) n))) := by
  have loop : ∀ (T : ST) m k, k + m = n → AMV sa d 28 17 [.ref (co + 6), .int (nI r), .int l, .int (nI n), .int (nI k)] [] (mk h co (sA T 9 (zr (T.2.2 9) (40 * r) k))) = some (none, mk h co (sA T 9 (zr (T.2.2 9) (40 * r) n))) := by
    intro T m
    induction m with
    | zero =>
      intro k hk
      have hk : k = n := hk
      rw [eX3_make_17, if_pos (nI_le (by omega) (by omega)), hk]
    | succ m ih =>
      intro k hk
      rw [eX3_make_17, if_neg (nI_ge (by omega) (by omega)), gR_6_2, aOp_s, r40, gS_9 _ _ _ _ _ (aIn_nI (by omega) (by decide)), aOp_s, nI_clamp (by omega), sA_at, sA_sA, zr_s, nI_1]
      exact ih (k + 1) (by omega)
  have e := loop (sA (sA S 7 (upd (S.2.2 7) r l)) 8 (upd (S.2.2 8) r (nI n))) n 0 (by omega)
  rw [zr_0, sA_self] at e
  rw [fX3_make, eX3_make_0, gR_6_0, aOp_s, gS_7 _ _ _ _ _ (aIn_nI hr (by decide)), aOp_s, nI_clamp (by omega), gR_6_1, aOp_s, gS_8 _ _ _ _ _ (aIn_nI hr (by decide)), aOp_s, nI_clamp (by omega), sA_ne S 7 _ (by decide)]
  exact e
theorem c_row_ok (sa : Nat → Nat) (d : Nat) (h : AH) (co : Nat) (S : ST) {r l n : Nat} (hr : r < 8) (hl : l < 3) (hn : n ≤ 40) : AMC sa (d + 3) 65 [.ref co, .int (nI r), .int (nI l), .int (nI n)] (mk h co S) = some (some (.int (nI n)), mk h co (sA (sA (sA (sI S 0 9 0) 7 (upd (S.2.2 7) r (nI l))) 8 (upd (S.2.2 8) r (nI n))) 9 (zr (S.2.2 9) (40 * r) n))) := by
  rw [fX7_row, eX7_row_0, c_isNamed, aRI_mk, aOp_s, iL_nI (by decide) hr, if_neg bvn, c_isLane, aRI_mk, aOp_s, iL_nI (by decide) hl, if_neg bvn, if_pos (show nI n ≤ 40 from nI_le (b := 40) hn (by decide)), if_pos (nI_pos' (by omega)), gP_0_9, aOp_s, gR_0_0, aOp_s, gC_6, aOp_s, c_make sa (d + 1) h co _ _ hr hn, aRV_mk, aOp_s]
  rfl
theorem c_set_bad (sa : Nat → Nat) (d : Nat) (h : AH) (co : Nat) (S : ST) (r i v : Int32) (hb : iL r 8 = false) : AMC sa (d + 3) 66 [.ref co, .int r, .int i, .int v] (mk h co S) = some (some (.int (-1000001)), mk h co S) := by
  rw [fX7_set, eX7_set_0, c_isNamed, aRI_mk, aOp_s, hb, if_pos bvf]
theorem c_set_null (sa : Nat → Nat) (d : Nat) (h : AH) (co : Nat) {S : ST} {ln sz : Nat → Nat} {it : Nat → Nat → Int32} (hR : rR S 7 (-1) ln sz it) {r : Nat} (hr : r < 8) (i v : Int32) (hm : ln r = 3) : AMC sa (d + 3) 66 [.ref co, .int (nI r), .int i, .int v] (mk h co S) = some (some (.int (-1000011)), mk h co (sI S 0 9 1)) := by
  rw [fX7_set, eX7_set_0, c_isNamed, aRI_mk, aOp_s, iL_nI (by decide) hr, if_neg bvn, gR_0_0, aOp_s, gC_6, aOp_s, c_isMissing sa (d + 1) h co hR hr, aRI_mk, aOp_s, decide_eq_true hm, if_neg bvn, gC_0, aOp_s, c_found, aRI_mk, aOp_s]
  rfl
theorem c_set_place (sa : Nat → Nat) (d : Nat) (h : AH) (co : Nat) {S : ST} {ln sz : Nat → Nat} {it : Nat → Nat → Int32} (hR : rR S 7 (-1) ln sz it) {r : Nat} (hr : r < 8) (i v : Int32) (hm : ln r ≠ 3) (hi : iL i (sz r) = false) : AMC sa (d + 3) 66 [.ref co, .int (nI r), .int i, .int v] (mk h co S) = some (some (.int (-1000012)), mk h co (sI S 0 9 2)) := by
  rw [fX7_set, eX7_set_0, c_isNamed, aRI_mk, aOp_s, iL_nI (by decide) hr, if_neg bvn, gR_0_0, aOp_s, gC_6, aOp_s, c_isMissing sa (d + 1) h co hR hr, aRI_mk, aOp_s, decide_eq_false hm, if_pos bvf, gR_0_0, aOp_s, gC_6, aOp_s, c_covers sa (d + 1) h co hR hr, aRI_mk, aOp_s, rPt_1 (hR r hr).2.1, hi, if_pos bvf, gC_0, aOp_s, c_found, aRI_mk, aOp_s]
  rfl
theorem c_put (sa : Nat → Nat) (d : Nat) (h : AH) (co : Nat) (S : ST) {r i k : Nat} (e : S.2.2 7 r = nI k) (hk : k < 3) (hr : r < 8) (hi : i < 40) (v : Int32) : AMC sa (d + 1) 29 [.ref (co + 6), .int (nI r), .int (nI i), .int v] (mk h co S) = some (some (.int (rCut k v)), mk h co (sA S 9 (upd (S.2.2 9) (40 * r + i) (rCut k v)))) := by
  have fin : ∀ x : Int32, AMV sa d 29 30 [.ref (co + 6), .int (nI r), .int (nI i), .int v, .null] [.int x] (mk h co S) = some (some (.int x), mk h co (sA S 9 (upd (S.2.2 9) (40 * r + i) x))) := by
    intro x
    rw [eX3_put_30, gR_6_2, aOp_s, r40, gS_9 _ _ _ _ _ (aIn_nI (by omega) (by decide)), aOp_s, nI_clamp (by omega)]
  have g7 : aIL (mk h co S) (co + 7) (nI r) = some (nI k) := by rw [gL_7 _ _ _ _ (aIn_nI hr (by decide)), nI_clamp (by omega), e]
  rw [fX3_put, eX3_put_0, gR_6_0, aOp_s, g7, aOp_s]
  unfold rCut
  by_cases h0 : k = 0
  · rw [if_pos (show nI k = 0 by rw [h0]; rfl), if_pos h0]; exact fin _
  · rw [if_neg (nI_ne0 (by omega) (by omega)), if_neg h0, aOp_s, g7, aOp_s]
    by_cases h1 : k = 1
    · rw [if_pos (show nI k = 1 by rw [h1]; rfl), if_pos h1]; exact fin _
    · rw [if_neg (show ¬ nI k = 1 from fun z => h1 ((nI_eq (b := 1) (by omega) (by decide)).mp z)), if_neg h1]; exact fin _
theorem c_set_ok (sa : Nat → Nat) (d : Nat) (h : AH) (co : Nat) {S : ST} {ln sz : Nat → Nat} {it : Nat → Nat → Int32} (hR : rR S 7 (-1) ln sz it) {r i : Nat} (hr : r < 8) (v : Int32) (hm : ln r ≠ 3) (hi : i < sz r) : AMC sa (d + 3) 66 [.ref co, .int (nI r), .int (nI i), .int v] (mk h co S) = some (some (.int (rCut (ln r) v)), mk h co (sA (sI S 0 9 0) 9 (upd (S.2.2 9) (40 * r + i) (rCut (ln r) v)))) := by
  obtain ⟨h1, h2, h3, h4, h5⟩ := hR r hr
  rw [if_neg hm] at h3
  rw [fX7_set, eX7_set_0, c_isNamed, aRI_mk, aOp_s, iL_nI (by decide) hr, if_neg bvn, gR_0_0, aOp_s, gC_6, aOp_s, c_isMissing sa (d + 1) h co hR hr, aRI_mk, aOp_s, decide_eq_false hm, if_pos bvf, gR_0_0, aOp_s, gC_6, aOp_s, c_covers sa (d + 1) h co hR hr, aRI_mk, aOp_s, rPt_1 h2, iL_nI (by omega) hi, if_neg bvn, gP_0_9, aOp_s, gR_0_0, aOp_s, gC_6, aOp_s, c_put sa (d + 1) h co (sI S 0 9 0) (k := ln r) h3 (by omega) hr (by omega), aRI_mk, aOp_s]
  rfl
theorem c_copy_bad (sa : Nat → Nat) (d : Nat) (h : AH) (co : Nat) (S : ST) (a i b j n : Int32) (hb : (iL a 8 && iL b 8) = false) : AMC sa (d + 3) 67 [.ref co, .int a, .int i, .int b, .int j, .int n] (mk h co S) = some (some (.int (-1000001)), mk h co S) := by
  rw [fX7_copy, eX7_copy_0, c_isNamed, aRI_mk, aOp_s]
  cases h1 : iL a 8 with
  | false => rw [if_pos bvf]
  | true =>
    rw [h1, Bool.true_and] at hb
    rw [if_neg bvn, c_isNamed, aRI_mk, aOp_s, hb, if_pos bvf]
theorem c_copy_null (sa : Nat → Nat) (d : Nat) (h : AH) (co : Nat) {S : ST} {ln sz : Nat → Nat} {it : Nat → Nat → Int32} (hR : rR S 7 (-1) ln sz it) {a b : Nat} (ha : a < 8) (hb : b < 8) (i j n : Int32) (hm : ln a = 3 ∨ ln b = 3) : AMC sa (d + 3) 67 [.ref co, .int (nI a), .int i, .int (nI b), .int j, .int n] (mk h co S) = some (some (.int (-1000011)), mk h co (sI S 0 9 1)) := by
  have e39 : AMV sa (d + 2) 67 39 [.ref co, .int (nI a), .int i, .int (nI b), .int j, .int n] [] (mk h co S) = some (some (.int (-1000011)), mk h co (sI S 0 9 1)) := by
    rw [eX7_copy_39, gC_0, aOp_s, c_found, aRI_mk, aOp_s]
    rfl
  rw [fX7_copy, eX7_copy_0, c_isNamed, aRI_mk, aOp_s, iL_nI (by decide) ha, if_neg bvn, c_isNamed, aRI_mk, aOp_s, iL_nI (by decide) hb, if_neg bvn, gR_0_0, aOp_s, gC_6, aOp_s, c_isMissing sa (d + 1) h co hR ha, aRI_mk, aOp_s]
  by_cases h1 : ln a = 3
  · rw [decide_eq_true h1, if_neg bvn]
    exact e39
  · rw [decide_eq_false h1, if_pos bvf, gR_0_0, aOp_s, gC_6, aOp_s, c_isMissing sa (d + 1) h co hR hb, aRI_mk, aOp_s, decide_eq_true (show ln b = 3 by omega), if_neg bvn]
    exact e39
theorem c_shareLane (sa : Nat → Nat) (d : Nat) (h : AH) (co : Nat) {S : ST} {ln sz : Nat → Nat} {it : Nat → Nat → Int32} (hR : rR S 7 (-1) ln sz it) {a b : Nat} (ha : a < 8) (hb : b < 8) (h1 : ln a ≠ 3) (h2 : ln b ≠ 3) : AMC sa (d + 1) 26 [.ref (co + 6), .int (nI a), .int (nI b)] (mk h co S) = some (some (.int (bv (decide (ln a = ln b)))), mk h co S) := by
  obtain ⟨a1, a2, a3, a4, a5⟩ := hR a ha
  obtain ⟨b1, b2, b3, b4, b5⟩ := hR b hb
  rw [if_neg h1] at a3
  rw [if_neg h2] at b3
  rw [fX3_shareLane, eX3_shareLane_0, gR_6_0, aOp_s, gL_7 _ _ _ _ (aIn_nI ha (by decide)), aOp_s, aOp_s, gL_7 _ _ _ _ (aIn_nI hb (by decide)), aOp_s, nI_clamp (by omega), nI_clamp (by omega), a3, b3]
  by_cases e : ln a = ln b
  · rw [if_pos (by rw [e]), decide_eq_true e]; rfl
  · rw [if_neg (fun z => e ((nI_eq (by omega) (by omega)).mp z)), decide_eq_false e]; rfl
theorem c_copy_store (sa : Nat → Nat) (d : Nat) (h : AH) (co : Nat) {S : ST} {ln sz : Nat → Nat} {it : Nat → Nat → Int32} (hR : rR S 7 (-1) ln sz it) {a b : Nat} (ha : a < 8) (hb : b < 8) (i j n : Int32) (h1 : ln a ≠ 3) (h2 : ln b ≠ 3) (h3 : ln a ≠ ln b) : AMC sa (d + 3) 67 [.ref co, .int (nI a), .int i, .int (nI b), .int j, .int n] (mk h co S) = some (some (.int (-1000015)), mk h co (sI S 0 9 5)) := by
  rw [fX7_copy, eX7_copy_0, c_isNamed, aRI_mk, aOp_s, iL_nI (by decide) ha, if_neg bvn, c_isNamed, aRI_mk, aOp_s, iL_nI (by decide) hb, if_neg bvn, gR_0_0, aOp_s, gC_6, aOp_s, c_isMissing sa (d + 1) h co hR ha, aRI_mk, aOp_s, decide_eq_false h1, if_pos bvf, gR_0_0, aOp_s, gC_6, aOp_s, c_isMissing sa (d + 1) h co hR hb, aRI_mk, aOp_s, decide_eq_false h2, if_pos bvf, gR_0_0, aOp_s, gC_6, aOp_s, c_shareLane sa (d + 1) h co hR ha hb h1 h2, aRI_mk, aOp_s, decide_eq_false h3, if_pos bvf, gC_0, aOp_s, c_found, aRI_mk, aOp_s]
  rfl
theorem c_copy_go (sa : Nat → Nat) (d : Nat) (h : AH) (co : Nat) {S : ST} {ln sz : Nat → Nat} {it : Nat → Nat → Int32} (hR : rR S 7 (-1) ln sz it) {a b : Nat} (ha : a < 8) (hb : b < 8) (i j n : Int32) (h1 : ln a ≠ 3) (h3 : ln a = ln b) : AMC sa (d + 3) 67 [.ref co, .int (nI a), .int i, .int (nI b), .int j, .int n] (mk h co S) = cond (rPt (sz a) i n && rPt (sz b) j n) (aOp (aRV (AMC sa (d + 2) 31 [.ref (co + 6), .int (nI a), .int i, .int (nI b), .int j, .int n] (mk h co (sI S 0 9 0)))) fun h16 => some (some (.int n), h16)) (some (some (.int (-1000012)), mk h co (sI S 0 9 2))) := by
  have h2 : ln b ≠ 3 := by omega
  have e92 : AMV sa (d + 2) 67 92 [.ref co, .int (nI a), .int i, .int (nI b), .int j, .int n] [] (mk h co S) = some (some (.int (-1000012)), mk h co (sI S 0 9 2)) := by
    rw [eX7_copy_92, gC_0, aOp_s, c_found, aRI_mk, aOp_s]
    rfl
  rw [fX7_copy, eX7_copy_0, c_isNamed, aRI_mk, aOp_s, iL_nI (by decide) ha, if_neg bvn, c_isNamed, aRI_mk, aOp_s, iL_nI (by decide) hb, if_neg bvn, gR_0_0, aOp_s, gC_6, aOp_s, c_isMissing sa (d + 1) h co hR ha, aRI_mk, aOp_s, decide_eq_false h1, if_pos bvf, gR_0_0, aOp_s, gC_6, aOp_s, c_isMissing sa (d + 1) h co hR hb, aRI_mk, aOp_s, decide_eq_false h2, if_pos bvf, gR_0_0, aOp_s, gC_6, aOp_s, c_shareLane sa (d + 1) h co hR ha hb h1 h2, aRI_mk, aOp_s, decide_eq_true h3, if_neg bvn, gR_0_0, aOp_s, gC_6, aOp_s, c_covers sa (d + 1) h co hR ha, aRI_mk, aOp_s]
  cases hp : rPt (sz a) i n with
  | false => rw [if_pos bvf]; exact e92
  | true =>
    rw [if_neg bvn, gR_0_0, aOp_s, gC_6, aOp_s, c_covers sa (d + 1) h co hR hb, aRI_mk, aOp_s]
    cases hp2 : rPt (sz b) j n with
    | false => rw [if_pos bvf]; exact e92
    | true => rw [if_neg bvn, gP_0_9, aOp_s, gR_0_0, aOp_s, gC_6, aOp_s]; rfl
theorem c_move (sa : Nat → Nat) (d : Nat) (h : AH) (co : Nat) (S : ST) {a b i j n : Nat} (h1 : 40 * a + i + n ≤ 320) (h2 : 40 * b + j + n ≤ 320) : AMC sa (d + 1) 31 [.ref (co + 6), .int (nI a), .int (nI i), .int (nI b), .int (nI j), .int (nI n)] (mk h co S) = some (none, mk h co (sA S 9 (va_cpy (S.2.2 9) (S.2.2 9) (40 * a + i) (40 * b + j) n))) := by
  rw [fX3_move, eX3_move_0, gR_6_2, aOp_s, aOp_s, r40, r40, g_CP (a := 9) (b := 9) (by decide) (by decide) rfl (by decide) (by decide) rfl h1 h2 (by decide) (by decide), aOp_s]
theorem c_copy_ok (sa : Nat → Nat) (d : Nat) (h : AH) (co : Nat) {S : ST} {ln sz : Nat → Nat} {it : Nat → Nat → Int32} (hR : rR S 7 (-1) ln sz it) {a b i j n : Nat} (ha : a < 8) (hb : b < 8) (h1 : ln a ≠ 3) (h3 : ln a = ln b) (h4 : i + n ≤ sz a) (h5 : j + n ≤ sz b) : AMC sa (d + 3) 67 [.ref co, .int (nI a), .int (nI i), .int (nI b), .int (nI j), .int (nI n)] (mk h co S) = some (some (.int (nI n)), mk h co (sA (sI S 0 9 0) 9 (va_cpy (S.2.2 9) (S.2.2 9) (40 * a + i) (40 * b + j) n))) := by
  have sa1 := (hR a ha).2.1
  have sb1 := (hR b hb).2.1
  rw [c_copy_go sa d h co hR ha hb _ _ _ h1 h3, rPt_nI (by omega) (by omega), rPt_nI (by omega) (by omega), decide_eq_true h4, decide_eq_true h5, c_move sa (d + 1) h co _ (by omega) (by omega), aRV_mk]
  rfl
theorem c_drop_bad (sa : Nat → Nat) (d : Nat) (h : AH) (co : Nat) (S : ST) (r : Int32) (hb : iL r 8 = false) : AMC sa (d + 3) 68 [.ref co, .int r] (mk h co S) = some (some (.int (-1000001)), mk h co S) := by
  rw [fX7_drop, eX7_drop_0, c_isNamed, aRI_mk, aOp_s, hb, if_pos bvf]
theorem c_drop_null (sa : Nat → Nat) (d : Nat) (h : AH) (co : Nat) {S : ST} {ln sz : Nat → Nat} {it : Nat → Nat → Int32} (hR : rR S 7 (-1) ln sz it) {r : Nat} (hr : r < 8) (hm : ln r = 3) : AMC sa (d + 3) 68 [.ref co, .int (nI r)] (mk h co S) = some (some (.int (-1000011)), mk h co (sI S 0 9 1)) := by
  rw [fX7_drop, eX7_drop_0, c_isNamed, aRI_mk, aOp_s, iL_nI (by decide) hr, if_neg bvn, gR_0_0, aOp_s, gC_6, aOp_s, c_isMissing sa (d + 1) h co hR hr, aRI_mk, aOp_s, decide_eq_true hm, if_neg bvn, gC_0, aOp_s, c_found, aRI_mk, aOp_s]
  rfl
theorem c_drop_ok (sa : Nat → Nat) (d : Nat) (h : AH) (co : Nat) {S : ST} {ln sz : Nat → Nat} {it : Nat → Nat → Int32} (hR : rR S 7 (-1) ln sz it) {r : Nat} (hr : r < 8) (hm : ln r ≠ 3) : AMC sa (d + 3) 68 [.ref co, .int (nI r)] (mk h co S) = some (some (.int (nI (sz r))), mk h co (sA (sI S 0 9 0) 7 (upd (S.2.2 7) r (-1)))) := by
  obtain ⟨h1, h2, h3, h4, h5⟩ := hR r hr
  have rm : AMC sa (d + 2) 32 [.ref (co + 6), .int (nI r)] (mk h co (sI S 0 9 0)) = some (some (.int (nI (sz r))), mk h co (sA (sI S 0 9 0) 7 (upd (S.2.2 7) r (-1)))) := by
    rw [fX3_remove, eX3_remove_0, gR_6_0, aOp_s, gS_7 _ _ _ _ _ (aIn_nI hr (by decide)), aOp_s, nI_clamp (by omega), gR_6_1, aOp_s, gL_8 _ _ _ _ (aIn_nI hr (by decide)), aOp_s, nI_clamp (by omega), sA_ne _ _ _ (by decide), sI_A, show S.2.2 8 r = nI (sz r) from h4]
  rw [fX7_drop, eX7_drop_0, c_isNamed, aRI_mk, aOp_s, iL_nI (by decide) hr, if_neg bvn, gR_0_0, aOp_s, gC_6, aOp_s, c_isMissing sa (d + 1) h co hR hr, aRI_mk, aOp_s, decide_eq_false hm, if_pos bvf, gP_0_9, aOp_s, gR_0_0, aOp_s, gC_6, aOp_s, rm, aRI_mk, aOp_s]
theorem c_item (sa : Nat → Nat) (d : Nat) (h : AH) (co : Nat) (S : ST) {r i : Nat} (hi : 40 * r + i < 320) : AMC sa (d + 1) 30 [.ref (co + 6), .int (nI r), .int (nI i)] (mk h co S) = some (some (.int (S.2.2 9 (40 * r + i))), mk h co S) := by
  rw [fX3_item, eX3_item_0, gR_6_2, aOp_s, r40, gL_9 _ _ _ _ (aIn_nI hi (by decide)), aOp_s, nI_clamp (by omega)]
/-! tape's end -/
theorem c_isFull (sa : Nat → Nat) (d : Nat) (h : AH) (co : Nat) {S : ST} {n : Nat} (e : S.1 10 2 = nI n) (hn : n ≤ 100) : AMC sa (d + 1) 50 [.ref (co + 10)] (mk h co S) = some (some (.int (bv (decide (n = 100)))), mk h co S) := by
  rw [fX5_isFull, eX5_isFull_0, gI_10_2, aOp_s, e]
  by_cases h1 : n = 100
  · rw [if_neg (show ¬ nI n < 100 by rw [h1]; decide), decide_eq_true h1]; rfl
  · rw [if_pos (show nI n < 100 from nI_lt (b := 100) (by omega) (by decide)), decide_eq_false h1]; rfl
theorem c_feed_bad (sa : Nat → Nat) (d : Nat) (h : AH) (co : Nat) (S : ST) (x : Int32) (hb : iL x 256 = false) : AMC sa (d + 3) 69 [.ref co, .int x] (mk h co S) = some (some (.int (-1000001)), mk h co S) := by
  rw [fX7_feed, eX7_feed_0, c_out, aRI_mk, aOp_s, show iB x 0 255 = iL x 256 from rfl, hb]
  exact if_neg bvn
theorem c_feed_full (sa : Nat → Nat) (d : Nat) (h : AH) (co : Nat) {S : ST} {T : Nat → Nat} (hT : tT S 11 10 2 T 100) {x : Nat} (hx : x < 256) : AMC sa (d + 3) 69 [.ref co, .int (nI x)] (mk h co S) = some (some (.int (-1000003)), mk h co S) := by
  rw [fX7_feed, eX7_feed_0, c_out, aRI_mk, aOp_s, show iB (nI x) 0 255 = iL (nI x) 256 from rfl, iL_nI (by decide) hx, show (!true) = false from rfl, if_pos bvf, gR_0_1, aOp_s, gC_10, aOp_s, c_isFull sa (d + 1) h co hT.1 (by decide), aRI_mk, aOp_s, decide_eq_true rfl, if_neg bvn]
theorem c_feed_ok (sa : Nat → Nat) (d : Nat) (h : AH) (co : Nat) {S : ST} {T : Nat → Nat} {n : Nat} (hT : tT S 11 10 2 T n) (hn : n < 100) {x : Nat} (hx : x < 256) : AMC sa (d + 3) 69 [.ref co, .int (nI x)] (mk h co S) = some (some (.int (nI (n + 1))), mk h co (sI (sA S 11 (upd (S.2.2 11) n (nI x))) 10 2 (nI (n + 1)))) := by
  have hf : decide (n = 100) = false := decide_eq_false (by omega)
  have ap : AMC sa (d + 2) 51 [.ref (co + 10), .int (nI x)] (mk h co S) = some (some (.int (nI (n + 1))), mk h co (sI (sA S 11 (upd (S.2.2 11) n (nI x))) 10 2 (nI (n + 1)))) := by
    rw [fX5_append, eX5_append_0, gC_10, aOp_s, c_isFull sa d h co hT.1 hT.2.1, aRI_mk, aOp_s, hf, if_pos bvf, gR_10_0, aOp_s, gI_10_2, aOp_s, hT.1, gS_11 _ _ _ _ _ (aIn_nI hn (by decide)), aOp_s, nI_clamp (by omega), gI_10_2, aOp_s, sA_I, hT.1, nI_1, gP_10_2, aOp_s, gI_10_2, aOp_s, sI_at]
  rw [fX7_feed, eX7_feed_0, c_out, aRI_mk, aOp_s, show iB (nI x) 0 255 = iL (nI x) 256 from rfl, iL_nI (by decide) hx, show (!true) = false from rfl, if_pos bvf, gR_0_1, aOp_s, gC_10, aOp_s, c_isFull sa (d + 1) h co hT.1 hT.2.1, aRI_mk, aOp_s, hf, if_pos bvf, gR_0_1, aOp_s, gC_10, aOp_s, ap, aRI_mk, aOp_s]
theorem c_fault (sa : Nat → Nat) (d : Nat) (h : AH) (co : Nat) (S : ST) : AMC sa (d + 1) 71 [.ref co] (mk h co S) = some (some (.int (S.1 0 8)), mk h co S) := by
  rw [fX7_fault, eX7_fault_0, gI_0_8, aOp_s]
theorem c_status (sa : Nat → Nat) (d : Nat) (h : AH) (co : Nat) (S : ST) : AMC sa (d + 1) 98 [.ref co] (mk h co S) = some (some (.int (S.1 0 9)), mk h co S) := by
  rw [fX7_status, eX7_status_0, gI_0_9, aOp_s]
theorem c_trace (sa : Nat → Nat) (d : Nat) (h : AH) (co : Nat) {S : ST} {t : Nat → Int32} {n : Nat} (hT : tC S 39 38 1 t n) (x : Int32) : AMC sa (d + 2) 96 [.ref co, .int x] (mk h co S) = some (some (.int (cond (iL x n) (t x.toNatClampNeg) (-1000000))), mk h co S) := by
  obtain ⟨h1, h2, h3⟩ := hT
  rw [fX7_trace, eX7_trace_0, gR_0_7, aOp_s, gI_38_1, aOp_s, h1, c_out, aRI_mk, aOp_s, show iB x 0 (nI n - 1) = iL x n from rfl]
  cases hb : iL x n with
  | false => exact if_neg bvn
  | true =>
    obtain ⟨k, hk, rfl⟩ := iL_of (by omega) hb
    rw [show (!true) = false from rfl, if_pos bvf, gR_0_7, aOp_s, gR_38_0, aOp_s, gL_39 _ _ _ _ (aIn_nI (by omega) (by decide)), aOp_s, nI_clamp (by omega), h3 k hk]
    rfl
theorem c_present (sa : Nat → Nat) (d : Nat) (h : AH) (co : Nat) {S : ST} {ln sz : Nat → Nat} {it : Nat → Nat → Int32} (hR : rR S 7 (-1) ln sz it) : AMC sa (d + 2) 33 [.ref (co + 6)] (mk h co S) = some (some (.int (nI (rN ln 8))), mk h co S) := by
  have loop : ∀ m k, k + m = 8 → AMV sa (d + 1) 33 4 [.ref (co + 6), .int (nI (rN ln k)), .int (nI k)] [] (mk h co S) = some (some (.int (nI (rN ln 8))), mk h co S) := by
    intro m
    induction m with
    | zero =>
      intro k hk
      have hk : k = 8 := hk
      rw [eX3_present_4, if_pos (show (8 : Int32) ≤ nI k from nI_le (a := 8) (by omega) (by omega)), hk]
    | succ m ih =>
      intro k hk
      have e : rN ln (k + 1) = rN ln k + (if ln k = 3 then 0 else 1) := rfl
      have ihk := ih (k + 1) (by omega)
      rw [eX3_present_4, if_neg (show ¬ (8 : Int32) ≤ nI k from nI_ge (b := 8) (by omega) (by decide)), gC_6, aOp_s, c_isMissing sa d h co hR (by omega), aRI_mk, aOp_s]
      by_cases h3 : ln k = 3
      · rw [if_pos h3, Nat.add_zero] at e
        rw [e] at ihk
        rw [decide_eq_true h3, if_neg bvn, nI_1]
        exact ihk
      · rw [if_neg h3] at e
        rw [e] at ihk
        rw [decide_eq_false h3, if_pos bvf, nI_1, nI_1]
        exact ihk
  rw [fX3_present, eX3_present_0]
  exact loop 8 0 rfl
theorem c_count (sa : Nat → Nat) (d : Nat) {h : AH} {co : Nat} {S : ST} {P : PS} (hE : cE h co S 17 P) (hB : pB P) {ln sz : Nat → Nat} {it : Nat → Nat → Int32} (hR : rR S 7 (-1) ln sz it) {n len : Nat} (hn : S.1 30 2 = nI n) (hlen : S.1 10 2 = nI len) (x : Int32) : AMC sa (d + 3) 97 [.ref co, .int x] (mk h co S) = some (some (.int (cnA P ln n len x)), mk h co S) := by
  obtain ⟨a1, a2, a3, r, g⟩ := wE_get hE.2.1 hB
  obtain ⟨q, w, e4, e5, e6, e7, e8, e9, ea⟩ := hE
  rw [fX7_count, eX7_count_0, gR_0_0, gR_0_3, gR_0_5, gR_0_1]
  simp only [aOp_s]
  rw [gC_6, c_present sa d h co hR, gR_17_3, gI_17_4, gI_17_8, gI_17_6, gI_17_7, gI_17_9, gI_17_5, gI_30_2, gI_10_2, e4, e5, e6, e7, e8, e9, hn, hlen]
  simp only [aOp_s, aRI_mk]
  rw [(r S).1]
  simp only [aOp_s]
  unfold cnA
  by_cases h0 : x = 0
  · rw [if_pos h0, if_pos h0]
  rw [if_neg h0, if_neg h0]
  by_cases h1 : x = 1
  · rw [if_pos h1, if_pos h1]
  rw [if_neg h1, if_neg h1]
  by_cases h2 : x = 2
  · rw [if_pos h2, if_pos h2]
  rw [if_neg h2, if_neg h2]
  by_cases h3 : x = 3
  · rw [if_pos h3, if_pos h3]
  rw [if_neg h3, if_neg h3]
  by_cases h4 : x = 4
  · rw [if_pos h4, if_pos h4]
  rw [if_neg h4, if_neg h4]
  by_cases h5 : x = 5
  · rw [if_pos h5, if_pos h5]
  rw [if_neg h5, if_neg h5]
  by_cases h6 : x = 6
  · rw [if_pos h6, if_pos h6]
  rw [if_neg h6, if_neg h6]
  by_cases h7 : x = 7
  · rw [if_pos h7, if_pos h7]
  rw [if_neg h7, if_neg h7]
  by_cases h8 : x = 8
  · rw [if_pos h8, if_pos h8]
  rw [if_neg h8, if_neg h8]
  by_cases h9 : x = 9
  · rw [if_pos h9, if_pos h9]
  rw [if_neg h9, if_neg h9]
