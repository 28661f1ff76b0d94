/-! ===== the reference: rows, tape, images, kinds ===== -/
theorem cut_8 (x : Int32) : (x <<< ((24 : Int32) &&& 31)) >>> ((24 : Int32) &&& 31) = x.toInt8.toInt32 := by
  apply Int32.toInt_inj.mp
  rw [pk_shr _ _ 24 (by decide), Int32.toInt, BitVec.toInt_eq_toNat_cond, pk_shl _ _ 24 (by decide), Int8.toInt_toInt32, Int32.toInt_toInt8, Int32.toInt, BitVec.toInt_eq_toNat_cond]
  have hn := x.toBitVec.isLt
  generalize x.toBitVec.toNat = n at *
  rw [Int.shiftRight_eq_div_pow, Int.bmod_def]
  have e : n * 2 ^ 24 % 2 ^ 32 = (n % 256) * 2 ^ 24 := by omega
  rw [e]
  split <;> split <;> split <;> omega
theorem cut_16 (x : Int32) : (x <<< ((16 : Int32) &&& 31)) >>> ((16 : Int32) &&& 31) = x.toInt16.toInt32 := by
  apply Int32.toInt_inj.mp
  rw [pk_shr _ _ 16 (by decide), Int32.toInt, BitVec.toInt_eq_toNat_cond, pk_shl _ _ 16 (by decide), Int16.toInt_toInt32, Int32.toInt_toInt16, Int32.toInt, BitVec.toInt_eq_toNat_cond]
  have hn := x.toBitVec.isLt
  generalize x.toBitVec.toNat = n at *
  rw [Int.shiftRight_eq_div_pow, Int.bmod_def]
  have e : n * 2 ^ 16 % 2 ^ 32 = (n % 65536) * 2 ^ 16 := by omega
  rw [e]
  split <;> split <;> split <;> omega
def rCut (lane : Nat) (v : Int32) : Int32 := if lane = 0 then v.toInt8.toInt32 else if lane = 1 then v.toInt16.toInt32 else v
theorem m_cut (sa : Nat → Nat) (d : Nat) {lane : Nat} (hl : lane < 3) (v : Int32) (h : AH) : AMC sa (d + 1) 115 [.int (nI lane), .int v] h = some (some (.int (rCut lane v)), h) := by
  rw [fX8_cut, eX8_cut_0, cut_8, cut_16]
  unfold rCut
  by_cases h0 : lane = 0
  · rw [if_pos (show nI lane = 0 by rw [h0]; rfl), if_pos h0]
  · rw [if_neg (nI_ne0 (by omega) (by omega)), if_neg h0]
    by_cases h1 : lane = 1
    · rw [if_pos (show nI lane = 1 by rw [h1]; rfl), if_pos h1]
    · rw [if_neg (show ¬ nI lane = 1 from fun z => h1 ((nI_eq (b := 1) (by omega) (by decide)).mp z)), if_neg h1]
def zr (f : Nat → Int32) (a k : Nat) : Nat → Int32 := fun j => if a ≤ j ∧ j < a + k then 0 else f j
theorem zr_0 (f : Nat → Int32) (a : Nat) : zr f a 0 = f := by
  funext j
  unfold zr
  rw [if_neg (by omega)]
theorem zr_s (f : Nat → Int32) (a k : Nat) : upd (zr f a k) (a + k) 0 = zr f a (k + 1) := by
  funext j
  unfold upd zr
  by_cases h : j = a + k
  · rw [if_pos h, if_pos (by omega)]
  · rw [if_neg h]
    by_cases h2 : a ≤ j ∧ j < a + k
    · rw [if_pos h2, if_pos (by omega)]
    · rw [if_neg h2, if_neg (by omega)]
def rF (f1 f2 f3 : Nat → Int32) (mis : Int32) (ln sz : Nat → Nat) (it : Nat → Nat → Int32) : Prop :=
  ∀ r, r < 8 → ln r ≤ 3 ∧ sz r ≤ 40 ∧ f1 r = (if ln r = 3 then mis else nI (ln r)) ∧ f2 r = nI (sz r) ∧ ∀ i, i < sz r → f3 (40 * r + i) = it r i
def itZ (it : Nat → Nat → Int32) (r : Nat) : Nat → Nat → Int32 := fun q i => if q = r then 0 else it q i
def itS (it : Nat → Nat → Int32) (r k : Nat) (v : Int32) : Nat → Nat → Int32 := fun q i => if q = r ∧ i = k then v else it q i
def itC (it : Nat → Nat → Int32) (a i b j n : Nat) : Nat → Nat → Int32 := fun q k => if q = b ∧ j ≤ k ∧ k < j + n then it a (i + (k - j)) else it q k
theorem rF_row {f1 f2 f3 : Nat → Int32} {mis : Int32} {ln sz : Nat → Nat} {it : Nat → Nat → Int32} (hR : rF f1 f2 f3 mis ln sz it) {r lane n k : Nat} (hr : r < 8) (hl : lane < 3) (hn : n ≤ 40) (hk : n ≤ k) (hk2 : k ≤ 40) : rF (upd f1 r (nI lane)) (upd f2 r (nI n)) (zr f3 (40 * r) k) mis (pUp ln r lane) (pUp sz r n) (itZ it r) := by
  intro q hq
  unfold upd pUp itZ zr
  by_cases e : q = r
  · subst e
    rw [if_pos rfl, if_pos rfl, if_pos rfl, if_pos rfl]
    refine ⟨by omega, hn, by rw [if_neg (by omega)], rfl, fun i hi => ?_⟩
    rw [if_pos (by omega), if_pos rfl]
  · obtain ⟨h1, h2, h3, h4, h5⟩ := hR q hq
    rw [if_neg e, if_neg e, if_neg e, if_neg e]
    refine ⟨h1, h2, h3, h4, fun i hi => ?_⟩
    rw [if_neg (by omega), if_neg e]
    exact h5 i hi
theorem rF_set {f1 f2 f3 : Nat → Int32} {mis : Int32} {ln sz : Nat → Nat} {it : Nat → Nat → Int32} (hR : rF f1 f2 f3 mis ln sz it) {r k : Nat} (hr : r < 8) (hk : k < 40) (v : Int32) : rF f1 f2 (upd f3 (40 * r + k) v) mis ln sz (itS it r k v) := by
  intro q hq
  obtain ⟨h1, h2, h3, h4, h5⟩ := hR q hq
  refine ⟨h1, h2, h3, h4, fun i hi => ?_⟩
  unfold upd itS
  by_cases e : q = r ∧ i = k
  · rw [if_pos (by rw [e.1, e.2]), if_pos e]
  · rw [if_neg (by omega), if_neg e]
    exact h5 i hi
theorem rF_copy {f1 f2 f3 : Nat → Int32} {mis : Int32} {ln sz : Nat → Nat} {it : Nat → Nat → Int32} (hR : rF f1 f2 f3 mis ln sz it) {a i b j n : Nat} (ha : a < 8) (hb : b < 8) (h1 : i + n ≤ sz a) (h2 : j + n ≤ sz b) : rF f1 f2 (va_cpy f3 f3 (40 * a + i) (40 * b + j) n) mis ln sz (itC it a i b j n) := by
  intro q hq
  obtain ⟨c1, c2, c3, c4, c5⟩ := hR q hq
  have sb := (hR b hb).2.1
  refine ⟨c1, c2, c3, c4, fun k hk => ?_⟩
  unfold va_cpy itC
  by_cases e : q = b ∧ j ≤ k ∧ k < j + n
  · rw [if_pos (by omega), if_pos e]
    obtain ⟨e1, e2, e3⟩ := e
    subst e1
    rw [show 40 * a + i + (40 * q + k - (40 * q + j)) = 40 * a + (i + (k - j)) by omega]
    exact (hR a ha).2.2.2.2 _ (by omega)
  · rw [if_neg (by omega), if_neg e]
    exact c5 k hk
theorem rF_drop {f1 f2 f3 : Nat → Int32} {mis : Int32} {ln sz : Nat → Nat} {it : Nat → Nat → Int32} (hR : rF f1 f2 f3 mis ln sz it) (r : Nat) : rF (upd f1 r mis) f2 f3 mis (pUp ln r 3) sz it := by
  intro q hq
  obtain ⟨h1, h2, h3, h4, h5⟩ := hR q hq
  unfold upd pUp
  by_cases e : q = r
  · rw [if_pos e, if_pos e]
    exact ⟨by omega, h2, by rw [if_pos rfl], h4, h5⟩
  · rw [if_neg e, if_neg e]
    exact ⟨h1, h2, h3, h4, h5⟩
theorem m_row_bad (sa : Nat → Nat) (d : Nat) (h : AH) (co : Nat) (S : ST) (r l n : Int32) (hb : (iL r 8 && (iL l 3 && decide (n ≤ 40))) = false) : AMC sa (d + 3) 116 [.ref (co + 40), .int r, .int l, .int n] (mk h co S) = some (some (.int (-1000001)), mk h co S) := by
  rw [fX8_row, eX8_row_0, m_isRow sa d, aRI_mk, aOp_s]
  cases h1 : iL r 8 with
  | false => rw [if_pos bvf]
  | true =>
    rw [h1, Bool.true_and] at hb
    rw [if_neg bvn, m_in, aRI_mk, aOp_s, show decide ((0 : Int32) ≤ l ∧ l ≤ 2) = iL l 3 from rfl]
    cases h2 : iL l 3 with
    | false => rw [if_pos bvf]
    | true =>
      rw [h2, Bool.true_and] at hb
      rw [if_neg bvn, if_neg (of_decide_eq_false hb)]
theorem m_row_size (sa : Nat → Nat) (d : Nat) (h : AH) (co : Nat) (S : ST) {r l : Nat} (hr : r < 8) (hl : l < 3) {n : Int32} (hn : n ≤ 40) (hz : ¬ 0 ≤ n) : AMC sa (d + 3) 116 [.ref (co + 40), .int (nI r), .int (nI l), .int n] (mk h co S) = some (some (.int (-1000014)), mk h co (sI S 40 4 4)) := by
  rw [fX8_row, eX8_row_0, m_isRow sa d, aRI_mk, aOp_s, iL_nI (by decide) hr, if_neg bvn, m_in, aRI_mk, aOp_s, show decide ((0 : Int32) ≤ nI l ∧ nI l ≤ 2) = iL (nI l) 3 from rfl, iL_nI (by decide) hl, if_neg bvn, if_pos hn, if_neg hz, gC_40, aOp_s, m_found, aRI_mk, aOp_s]
  rfl
theorem m_row_ok (sa : Nat → Nat) (d : Nat) (h : AH) (co : Nat) (S : ST) {r l n : Nat} (hr : r < 8) (hl : l < 3) (hn : n ≤ 40) : AMC sa (d + 3) 116 [.ref (co + 40), .int (nI r), .int (nI l), .int (nI n)] (mk h co S) = some (some (.int (nI n)), mk h co (sI (sA (sA (sA S 41 (upd (S.2.2 41) r (nI l))) 42 (upd (S.2.2 42) r (nI n))) 43 (zr (S.2.2 43) (40 * r) 40)) 40 4 0)) := by
  have loop : ∀ (T : ST) m k, k + m = 40 → AMV sa (d + 2) 116 52 [.ref (co + 40), .int (nI r), .int (nI l), .int (nI n), .int (nI k)] [] (mk h co (sA T 43 (zr (T.2.2 43) (40 * r) k))) = some (some (.int (nI n)), mk h co (sI (sA T 43 (zr (T.2.2 43) (40 * r) 40)) 40 4 0)) := by
    intro T m
    induction m with
    | zero =>
      intro k hk
      have hk : k = 40 := hk
      rw [eX8_row_52, if_pos (show (40 : Int32) ≤ nI k from nI_le (a := 40) (by omega) (by omega)), gC_40, aOp_s, m_well, aRI_mk, aOp_s, hk]
    | succ m ih =>
      intro k hk
      rw [eX8_row_52, if_neg (show ¬ (40 : Int32) ≤ nI k from nI_ge (b := 40) (by omega) (by decide)), gR_40_2, aOp_s, show (40 : Int32) * nI r + nI k = nI (40 * r + k) by rw [show (40 : Int32) = nI 40 from rfl, pk_mul, nI_add], gS_43 _ _ _ _ _ (aIn_nI (by omega) (by decide)), aOp_s, nI_clamp (by omega), sA_at, sA_sA, zr_s, nI_1]
      exact ih (k + 1) (by omega)
  have e := loop (sA (sA S 41 (upd (S.2.2 41) r (nI l))) 42 (upd (S.2.2 42) r (nI n))) 40 0 rfl
  rw [zr_0, sA_self] at e
  rw [fX8_row, eX8_row_0, m_isRow sa d, aRI_mk, aOp_s, iL_nI (by decide) hr, if_neg bvn, m_in, aRI_mk, aOp_s, show decide ((0 : Int32) ≤ nI l ∧ nI l ≤ 2) = iL (nI l) 3 from rfl, iL_nI (by decide) hl, if_neg bvn, if_pos (show nI n ≤ 40 from nI_le (b := 40) hn (by decide)), if_pos (nI_pos' (by omega)), gR_40_0, aOp_s, gS_41 _ _ _ _ _ (aIn_nI hr (by decide)), aOp_s, nI_clamp (by omega), gR_40_1, aOp_s, gS_42 _ _ _ _ _ (aIn_nI hr (by decide)), aOp_s, nI_clamp (by omega), sA_ne S 41 _ (by decide)]
  exact e
theorem m_set_bad (sa : Nat → Nat) (d : Nat) (h : AH) (co : Nat) (S : ST) (r i v : Int32) (hb : iL r 8 = false) : AMC sa (d + 3) 117 [.ref (co + 40), .int r, .int i, .int v] (mk h co S) = some (some (.int (-1000001)), mk h co S) := by
  rw [fX8_set, eX8_set_0, m_isRow sa d, aRI_mk, aOp_s, hb, if_pos bvf]
theorem m_set_null (sa : Nat → Nat) (d : Nat) (h : AH) (co : Nat) {S : ST} {ln sz : Nat → Nat} {it : Nat → Nat → Int32} (hR : rR S 41 (-1000000) ln sz it) {r : Nat} (hr : r < 8) (i v : Int32) (hm : ln r = 3) : AMC sa (d + 3) 117 [.ref (co + 40), .int (nI r), .int i, .int v] (mk h co S) = some (some (.int (-1000011)), mk h co (sI S 40 4 1)) := by
  rw [fX8_set, eX8_set_0, m_isRow sa d, aRI_mk, aOp_s, iL_nI (by decide) hr, if_neg bvn, gC_40, aOp_s, m_isMissing sa (d + 1) h co hR hr, aRI_mk, aOp_s, decide_eq_true hm, if_neg bvn, gC_40, aOp_s, m_found, aRI_mk, aOp_s]
  rfl
theorem m_set_place (sa : Nat → Nat) (d : Nat) (h : AH) (co : Nat) {S : ST} {ln sz : Nat → Nat} {it : Nat → Nat → Int32} (hR : rR S 41 (-1000000) ln sz it) {r : Nat} (hr : r < 8) (i v : Int32) (hm : ln r ≠ 3) (hi : iL i (sz r) = false) : AMC sa (d + 3) 117 [.ref (co + 40), .int (nI r), .int i, .int v] (mk h co S) = some (some (.int (-1000012)), mk h co (sI S 40 4 2)) := by
  obtain ⟨h1, h2, h3, h4, h5⟩ := hR r hr
  rw [fX8_set, eX8_set_0, m_isRow sa d, aRI_mk, aOp_s, iL_nI (by decide) hr, if_neg bvn, gC_40, aOp_s, m_isMissing sa (d + 1) h co hR hr, aRI_mk, aOp_s, decide_eq_false hm, if_pos bvf, gR_40_1, aOp_s, gL_42 _ _ _ _ (aIn_nI hr (by decide)), aOp_s, nI_clamp (by omega), show S.2.2 42 r = nI (sz r) from h4, m_in, aRI_mk, aOp_s, show decide ((0 : Int32) ≤ i ∧ i ≤ nI (sz r) - 1) = iL i (sz r) from rfl, hi, if_pos bvf, gC_40, aOp_s, m_found, aRI_mk, aOp_s]
  rfl
theorem m_set_ok (sa : Nat → Nat) (d : Nat) (h : AH) (co : Nat) {S : ST} {ln sz : Nat → Nat} {it : Nat → Nat → Int32} (hR : rR S 41 (-1000000) ln sz it) {r i : Nat} (hr : r < 8) (v : Int32) (hm : ln r ≠ 3) (hi : i < sz r) : AMC sa (d + 3) 117 [.ref (co + 40), .int (nI r), .int (nI i), .int v] (mk h co S) = some (some (.int (rCut (ln r) v)), mk h co (sI (sA S 43 (upd (S.2.2 43) (40 * r + i) (rCut (ln r) v))) 40 4 0)) := by
  obtain ⟨h1, h2, h3, h4, h5⟩ := hR r hr
  rw [if_neg hm] at h3
  rw [fX8_set, eX8_set_0, m_isRow sa d, aRI_mk, aOp_s, iL_nI (by decide) hr, if_neg bvn, gC_40, aOp_s, m_isMissing sa (d + 1) h co hR hr, aRI_mk, aOp_s, decide_eq_false hm, if_pos bvf, gR_40_1, aOp_s, gL_42 _ _ _ _ (aIn_nI hr (by decide)), aOp_s, nI_clamp (by omega), show S.2.2 42 r = nI (sz r) from h4, m_in, aRI_mk, aOp_s, show decide ((0 : Int32) ≤ nI i ∧ nI i ≤ nI (sz r) - 1) = iL (nI i) (sz r) from rfl, iL_nI (by omega) hi, if_neg bvn, gR_40_2, aOp_s, gR_40_0, aOp_s, gL_41 _ _ _ _ (aIn_nI hr (by decide)), aOp_s, nI_clamp (by omega), h3, m_cut sa (d + 1) (by omega), aRI_mk, aOp_s, show (40 : Int32) * nI r + nI i = nI (40 * r + i) by rw [show (40 : Int32) = nI 40 from rfl, pk_mul, nI_add], gS_43 _ _ _ _ _ (aIn_nI (by omega) (by decide)), aOp_s, nI_clamp (by omega), gR_40_2, aOp_s, gL_43 _ _ _ _ (aIn_nI (by omega) (by decide)), aOp_s, nI_clamp (by omega), sA_at, pk_us, gC_40, aOp_s, m_well, aRI_mk, aOp_s]
theorem m_copy_bad (sa : Nat → Nat) (d : Nat) (h : AH) (co : Nat) (S : ST) (a i b j n : Int32) (hb : (iL a 8 && iL b 8) = false) : AMC sa (d + 3) 119 [.ref (co + 40), .int a, .int i, .int b, .int j, .int n] (mk h co S) = some (some (.int (-1000001)), mk h co S) := by
  rw [fX8_copy, eX8_copy_0, m_isRow sa d, aRI_mk, aOp_s]
  cases h1 : iL a 8 with
  | false => rw [if_pos bvf]
  | true =>
    rw [h1, Bool.true_and] at hb
    rw [if_neg bvn, m_isRow sa d, aRI_mk, aOp_s, hb, if_pos bvf]
theorem m_copy_null (sa : Nat → Nat) (d : Nat) (h : AH) (co : Nat) {S : ST} {ln sz : Nat → Nat} {it : Nat → Nat → Int32} (hR : rR S 41 (-1000000) ln sz it) {a b : Nat} (ha : a < 8) (hb : b < 8) (i j n : Int32) (hm : ln a = 3 ∨ ln b = 3) : AMC sa (d + 3) 119 [.ref (co + 40), .int (nI a), .int i, .int (nI b), .int j, .int n] (mk h co S) = some (some (.int (-1000011)), mk h co (sI S 40 4 1)) := by
  have e33 : AMV sa (d + 2) 119 33 [.ref (co + 40), .int (nI a), .int i, .int (nI b), .int j, .int n, .null] [] (mk h co S) = some (some (.int (-1000011)), mk h co (sI S 40 4 1)) := by
    rw [eX8_copy_33, gC_40, aOp_s, m_found, aRI_mk, aOp_s]
    rfl
  rw [fX8_copy, eX8_copy_0, m_isRow sa d, aRI_mk, aOp_s, iL_nI (by decide) ha, if_neg bvn, m_isRow sa d, aRI_mk, aOp_s, iL_nI (by decide) hb, if_neg bvn, gC_40, aOp_s, m_isMissing sa (d + 1) h co hR ha, aRI_mk, aOp_s]
  by_cases h1 : ln a = 3
  · rw [decide_eq_true h1, if_neg bvn]
    exact e33
  · rw [decide_eq_false h1, if_pos bvf, gC_40, aOp_s, m_isMissing sa (d + 1) h co hR hb, aRI_mk, aOp_s, decide_eq_true (show ln b = 3 by omega), if_neg bvn]
    exact e33
theorem m_copy_store (sa : Nat → Nat) (d : Nat) (h : AH) (co : Nat) {S : ST} {ln sz : Nat → Nat} {it : Nat → Nat → Int32} (hR : rR S 41 (-1000000) ln sz it) {a b : Nat} (ha : a < 8) (hb : b < 8) (i j n : Int32) (h1 : ln a ≠ 3) (h2 : ln b ≠ 3) (h3 : ln a ≠ ln b) : AMC sa (d + 3) 119 [.ref (co + 40), .int (nI a), .int i, .int (nI b), .int j, .int n] (mk h co S) = some (some (.int (-1000015)), mk h co (sI S 40 4 5)) := by
  obtain ⟨a1, a2, a3, a4, a5⟩ := hR a ha
  obtain ⟨b1, b2, b3, b4, b5⟩ := hR b hb
  rw [if_neg h1] at a3
  rw [if_neg h2] at b3
  rw [fX8_copy, eX8_copy_0, m_isRow sa d, aRI_mk, aOp_s, iL_nI (by decide) ha, if_neg bvn, m_isRow sa d, aRI_mk, aOp_s, iL_nI (by decide) hb, if_neg bvn, gC_40, aOp_s, m_isMissing sa (d + 1) h co hR ha, aRI_mk, aOp_s, decide_eq_false h1, if_pos bvf, gC_40, aOp_s, m_isMissing sa (d + 1) h co hR hb, aRI_mk, aOp_s, decide_eq_false h2, if_pos bvf, gR_40_0, aOp_s, gL_41 _ _ _ _ (aIn_nI ha (by decide)), aOp_s, nI_clamp (by omega), aOp_s, gL_41 _ _ _ _ (aIn_nI hb (by decide)), aOp_s, nI_clamp (by omega), a3, b3, if_neg (fun z => h3 ((nI_eq (by omega) (by omega)).mp z)), gC_40, aOp_s, m_found, aRI_mk, aOp_s]
  rfl
theorem m_copy_go (sa : Nat → Nat) (d : Nat) (h : AH) (co : Nat) {S : ST} {ln sz : Nat → Nat} {it : Nat → Nat → Int32} (hR : rR S 41 (-1000000) ln sz it) {a b : Nat} (ha : a < 8) (hb : b < 8) (i j n : Int32) (h1 : ln a ≠ 3) (h3 : ln a = ln b) : AMC sa (d + 3) 119 [.ref (co + 40), .int (nI a), .int i, .int (nI b), .int j, .int n] (mk h co S) = cond (rPt (sz a) i n && rPt (sz b) j n) (AMV sa (d + 2) 119 92 [.ref (co + 40), .int (nI a), .int i, .int (nI b), .int j, .int n, .int 0] [] (mk h co S)) (some (some (.int (-1000012)), mk h co (sI S 40 4 2))) := by
  obtain ⟨a1, a2, a3, a4, a5⟩ := hR a ha
  obtain ⟨b1, b2, b3, b4, b5⟩ := hR b hb
  have h2 : ln b ≠ 3 := by omega
  rw [if_neg h1] at a3
  rw [if_neg h2] at b3
  have e83 : AMV sa (d + 2) 119 83 [.ref (co + 40), .int (nI a), .int i, .int (nI b), .int j, .int n, .null] [] (mk h co S) = some (some (.int (-1000012)), mk h co (sI S 40 4 2)) := by
    rw [eX8_copy_83, gC_40, aOp_s, m_found, aRI_mk, aOp_s]
    rfl
  rw [fX8_copy, eX8_copy_0, m_isRow sa d, aRI_mk, aOp_s, iL_nI (by decide) ha, if_neg bvn, m_isRow sa d, aRI_mk, aOp_s, iL_nI (by decide) hb, if_neg bvn, gC_40, aOp_s, m_isMissing sa (d + 1) h co hR ha, aRI_mk, aOp_s, decide_eq_false h1, if_pos bvf, gC_40, aOp_s, m_isMissing sa (d + 1) h co hR hb, aRI_mk, aOp_s, decide_eq_false h2, if_pos bvf, gR_40_0, aOp_s, gL_41 _ _ _ _ (aIn_nI ha (by decide)), aOp_s, nI_clamp (by omega), aOp_s, gL_41 _ _ _ _ (aIn_nI hb (by decide)), aOp_s, nI_clamp (by omega), a3, b3, if_pos (by rw [h3]), gC_40, aOp_s, m_isPart sa (d + 1) h co hR ha, aRI_mk, aOp_s]
  cases hp : rPt (sz a) i n with
  | false => rw [if_pos bvf]; exact e83
  | true =>
    rw [if_neg bvn, gC_40, aOp_s, m_isPart sa (d + 1) h co hR hb, aRI_mk, aOp_s]
    cases hp2 : rPt (sz b) j n with
    | false => rw [if_pos bvf]; exact e83
    | true => rw [if_neg bvn]; rfl
theorem m_copy_ok (sa : Nat → Nat) (d : Nat) (h : AH) (co : Nat) {S : ST} {ln sz : Nat → Nat} {it : Nat → Nat → Int32} (hR : rR S 41 (-1000000) ln sz it) {a b i j n : Nat} (ha : a < 8) (hb : b < 8) (h1 : ln a ≠ 3) (h3 : ln a = ln b) (h4 : i + n ≤ sz a) (h5 : j + n ≤ sz b) : ∃ f, AMC sa (d + 3) 119 [.ref (co + 40), .int (nI a), .int (nI i), .int (nI b), .int (nI j), .int (nI n)] (mk h co S) = some (some (.int (nI n)), mk h co (sI (sA (sA S 44 f) 43 (va_cpy (S.2.2 43) (S.2.2 43) (40 * a + i) (40 * b + j) n)) 40 4 0)) := by
  have sa1 := (hR a ha).2.1
  have sb1 := (hR b hb).2.1
  have c40 : ∀ r k m : Nat, (40 : Int32) * nI r + nI k + nI m = nI (40 * r + k + m) := fun r k m => by rw [show (40 : Int32) = nI 40 from rfl, pk_mul, nI_add, nI_add]
  have l2 : ∀ (T : ST), (∀ k, k < n → T.2.2 44 k = S.2.2 43 (40 * a + i + k)) → T.2.2 43 = S.2.2 43 → ∀ m k, k + m = n → AMV sa (d + 2) 119 129 [.ref (co + 40), .int (nI a), .int (nI i), .int (nI b), .int (nI j), .int (nI n), .int (nI k)] [] (mk h co (sA T 43 (va_cpy (S.2.2 43) (S.2.2 43) (40 * a + i) (40 * b + j) k))) = some (some (.int (nI n)), mk h co (sI (sA T 43 (va_cpy (S.2.2 43) (S.2.2 43) (40 * a + i) (40 * b + j) n)) 40 4 0)) := by
    intro T hT hT2 m
    induction m with
    | zero =>
      intro k hk
      have hk : k = n := hk
      rw [eX8_copy_129, if_pos (nI_le (by omega) (by omega)), gC_40, aOp_s, m_well, aRI_mk, aOp_s, hk]
    | succ m ih =>
      intro k hk
      rw [eX8_copy_129, if_neg (nI_ge (by omega) (by omega)), gR_40_2, aOp_s, gR_40_3, aOp_s, gL_44 _ _ _ _ (aIn_nI (by omega) (by decide)), aOp_s, nI_clamp (by omega), sA_ne _ _ _ (by decide), hT k (by omega), c40, gS_43 _ _ _ _ _ (aIn_nI (by omega) (by decide)), aOp_s, nI_clamp (by omega), sA_at, sA_sA, cpy_s, nI_1]
      exact ih (k + 1) (by omega)
  have l1 : ∀ m k f, k + m = n → (∀ q, q < k → f q = S.2.2 43 (40 * a + i + q)) → ∃ f', (∀ q, q < n → f' q = S.2.2 43 (40 * a + i + q)) ∧ AMV sa (d + 2) 119 92 [.ref (co + 40), .int (nI a), .int (nI i), .int (nI b), .int (nI j), .int (nI n), .int (nI k)] [] (mk h co (sA S 44 f)) = AMV sa (d + 2) 119 129 [.ref (co + 40), .int (nI a), .int (nI i), .int (nI b), .int (nI j), .int (nI n), .int 0] [] (mk h co (sA S 44 f')) := by
    intro m
    induction m with
    | zero =>
      intro k f hk hf
      have hk : k = n := hk
      refine ⟨f, by rw [← hk]; exact hf, ?_⟩
      rw [eX8_copy_92, if_pos (nI_le (by omega) (by omega))]
    | succ m ih =>
      intro k f hk hf
      obtain ⟨f', g1, g2⟩ := ih (k + 1) (upd f k (S.2.2 43 (40 * a + i + k))) (by omega) (fun q hq => by
        by_cases e : q = k
        · rw [e, pk_us]
        · rw [pk_un e]; exact hf q (by omega))
      refine ⟨f', g1, ?_⟩
      rw [eX8_copy_92, if_neg (nI_ge (by omega) (by omega)), gR_40_3, aOp_s, gR_40_2, aOp_s, c40, gL_43 _ _ _ _ (aIn_nI (by omega) (by decide)), aOp_s, nI_clamp (by omega), sA_ne _ _ _ (by decide), gS_44 _ _ _ _ _ (aIn_nI (by omega) (by decide)), aOp_s, nI_clamp (by omega), sA_at, sA_sA, nI_1]
      exact g2
  obtain ⟨f, g1, g2⟩ := l1 n 0 (S.2.2 44) (by omega) (fun q hq => by omega)
  refine ⟨f, ?_⟩
  rw [sA_self] at g2
  rw [m_copy_go sa d h co hR ha hb _ _ _ h1 h3, rPt_nI (by omega) (by omega), rPt_nI (by omega) (by omega), decide_eq_true h4, decide_eq_true h5]
  show AMV sa (d + 2) 119 92 _ [] _ = _
  rw [show (0 : Int32) = nI 0 from rfl, g2]
  have := l2 (sA S 44 f) (fun k hk => by rw [sA_at]; exact g1 k hk) (sA_ne _ _ _ (by decide)) n 0 (by omega)
  rw [cpy_0, show S.2.2 43 = (sA S 44 f).2.2 43 from (sA_ne _ _ _ (by decide)).symm, sA_self] at this
  exact this
theorem m_drop_bad (sa : Nat → Nat) (d : Nat) (h : AH) (co : Nat) (S : ST) (r : Int32) (hb : iL r 8 = false) : AMC sa (d + 3) 120 [.ref (co + 40), .int r] (mk h co S) = some (some (.int (-1000001)), mk h co S) := by
  rw [fX8_drop, eX8_drop_0, m_isRow sa d, aRI_mk, aOp_s, hb, if_pos bvf]
theorem m_drop_null (sa : Nat → Nat) (d : Nat) (h : AH) (co : Nat) {S : ST} {ln sz : Nat → Nat} {it : Nat → Nat → Int32} (hR : rR S 41 (-1000000) ln sz it) {r : Nat} (hr : r < 8) (hm : ln r = 3) : AMC sa (d + 3) 120 [.ref (co + 40), .int (nI r)] (mk h co S) = some (some (.int (-1000011)), mk h co (sI S 40 4 1)) := by
  rw [fX8_drop, eX8_drop_0, m_isRow sa d, aRI_mk, aOp_s, iL_nI (by decide) hr, if_neg bvn, gC_40, aOp_s, m_isMissing sa (d + 1) h co hR hr, aRI_mk, aOp_s, decide_eq_true hm, if_neg bvn, gC_40, aOp_s, m_found, aRI_mk, aOp_s]
  rfl
theorem m_drop_ok (sa : Nat → Nat) (d : Nat) (h : AH) (co : Nat) {S : ST} {ln sz : Nat → Nat} {it : Nat → Nat → Int32} (hR : rR S 41 (-1000000) ln sz it) {r : Nat} (hr : r < 8) (hm : ln r ≠ 3) : AMC sa (d + 3) 120 [.ref (co + 40), .int (nI r)] (mk h co S) = some (some (.int (nI (sz r))), mk h co (sI (sA S 41 (upd (S.2.2 41) r (-1000000))) 40 4 0)) := by
  obtain ⟨h1, h2, h3, h4, h5⟩ := hR r hr
  rw [fX8_drop, eX8_drop_0, m_isRow sa d, aRI_mk, aOp_s, iL_nI (by decide) hr, if_neg bvn, gC_40, aOp_s, m_isMissing sa (d + 1) h co hR hr, aRI_mk, aOp_s, decide_eq_false hm, if_pos bvf, gR_40_0, aOp_s, gS_41 _ _ _ _ _ (aIn_nI hr (by decide)), aOp_s, nI_clamp (by omega), gR_40_1, aOp_s, gL_42 _ _ _ _ (aIn_nI hr (by decide)), aOp_s, nI_clamp (by omega), sA_ne _ _ _ (by decide), show S.2.2 42 r = nI (sz r) from h4, gC_40, aOp_s, m_well, aRI_mk, aOp_s]
/-! tape -/
def tT (S : ST) (c o k : Nat) (T : Nat → Nat) (n : Nat) : Prop := S.1 o k = nI n ∧ n ≤ 100 ∧ ∀ j, j < n → S.2.2 c j = nI (T j) ∧ T j < 256
theorem m_feed_bad (sa : Nat → Nat) (d : Nat) (h : AH) (co : Nat) (S : ST) (x : Int32) (hb : iL x 256 = false) : AMC sa (d + 3) 121 [.ref (co + 40), .int x] (mk h co S) = some (some (.int (-1000001)), mk h co S) := by
  rw [fX8_feed, eX8_feed_0, m_in, aRI_mk, aOp_s, show decide ((0 : Int32) ≤ x ∧ x ≤ 255) = iL x 256 from rfl, hb, if_pos bvf]
theorem m_feed_full (sa : Nat → Nat) (d : Nat) (h : AH) (co : Nat) {S : ST} {T : Nat → Nat} (hT : tT S 45 40 6 T 100) {x : Nat} (hx : x < 256) : AMC sa (d + 3) 121 [.ref (co + 40), .int (nI x)] (mk h co S) = some (some (.int (-1000003)), mk h co S) := by
  rw [fX8_feed, eX8_feed_0, m_in, aRI_mk, aOp_s, show decide ((0 : Int32) ≤ nI x ∧ nI x ≤ 255) = iL (nI x) 256 from rfl, iL_nI (by decide) hx, if_neg bvn, gI_40_6, aOp_s, hT.1, if_pos (show nI 100 = 100 from rfl)]
theorem m_feed_ok (sa : Nat → Nat) (d : Nat) (h : AH) (co : Nat) {S : ST} {T : Nat → Nat} {n : Nat} (hT : tT S 45 40 6 T n) (hn : n < 100) {x : Nat} (hx : x < 256) : AMC sa (d + 3) 121 [.ref (co + 40), .int (nI x)] (mk h co S) = some (some (.int (nI (n + 1))), mk h co (sI (sA S 45 (upd (S.2.2 45) n (nI x))) 40 6 (nI (n + 1)))) := by
  rw [fX8_feed, eX8_feed_0, m_in, aRI_mk, aOp_s, show decide ((0 : Int32) ≤ nI x ∧ nI x ≤ 255) = iL (nI x) 256 from rfl, iL_nI (by decide) hx, if_neg bvn, gI_40_6, aOp_s, hT.1, if_neg (show ¬ nI n = 100 from fun z => by have := (nI_eq (b := 100) (by omega) (by decide)).mp z; omega), gR_40_5, aOp_s, aOp_s, gS_45 _ _ _ _ _ (aIn_nI hn (by decide)), aOp_s, nI_clamp (by omega), gI_40_6, aOp_s, sA_I, hT.1, nI_1, gP_40_6, aOp_s, gI_40_6, aOp_s, sI_at]
theorem tT_feed {S S' : ST} {c o k : Nat} {T : Nat → Nat} {n : Nat} (hT : tT S c o k T n) (hn : n < 100) {x : Nat} (hx : x < 256) (e1 : S'.1 o k = nI (n + 1)) (e2 : S'.2.2 c = upd (S.2.2 c) n (nI x)) : tT S' c o k (pUp T n x) (n + 1) := by
  refine ⟨e1, by omega, fun j hj => ?_⟩
  rw [e2]
  by_cases e : j = n
  · rw [e, pk_us, pUp_at]; exact ⟨rfl, hx⟩
  · rw [pk_un e, pUp_ne _ _ e]; exact hT.2.2 j (by omega)
theorem m_fault (sa : Nat → Nat) (d : Nat) (h : AH) (co : Nat) (S : ST) : AMC sa (d + 1) 134 [.ref (co + 40)] (mk h co S) = some (some (.int (S.1 40 7)), mk h co S) := by
  rw [fX8_fault, eX8_fault_0, gI_40_7, aOp_s]
theorem m_status (sa : Nat → Nat) (d : Nat) (h : AH) (co : Nat) (S : ST) : AMC sa (d + 1) 183 [.ref (co + 40)] (mk h co S) = some (some (.int (S.1 40 4)), mk h co S) := by
  rw [fX8_status, eX8_status_0, gI_40_4, aOp_s]
