/-! ===== the reference: rows, what is told of weights ===== -/
def rPt (s : Nat) (i n : Int32) : Bool := decide (0 ≤ i.toInt ∧ 0 ≤ n.toInt ∧ i.toInt + n.toInt ≤ s)
/-- rows in three arrays, a row that is missing by its own number -/
def rR (S : ST) (a : Nat) (mis : Int32) (ln sz : Nat → Nat) (it : Nat → Nat → Int32) : Prop :=
  ∀ r, r < 8 → ln r ≤ 3 ∧ sz r ≤ 40 ∧ S.2.2 a r = (if ln r = 3 then mis else nI (ln r)) ∧ S.2.2 (a + 1) r = nI (sz r) ∧ ∀ i, i < sz r → S.2.2 (a + 2) (40 * r + i) = it r i
theorem m_isRow (sa : Nat → Nat) (d : Nat) (x : Int32) (h : AH) : AMC sa (d + 2) 113 [.int x] h = some (some (.int (bv (iL x 8))), h) := by
  rw [fX8_isRow, eX8_isRow_0, m_in, aRI_mk, aOp_s]
  exact if_pos (bv_01 _)
theorem m_isMissing (sa : Nat → Nat) (d : Nat) (h : AH) (co : Nat) {S : ST} {ln sz : Nat → Nat} {it : Nat → Nat → Int32} (hR : rR S 41 (-1000000) ln sz it) {r : Nat} (hr : r < 8) : AMC sa (d + 1) 114 [.ref (co + 40), .int (nI r)] (mk h co S) = some (some (.int (bv (decide (ln r = 3)))), mk h co S) := by
  obtain ⟨h1, h2, h3, h4, h5⟩ := hR r hr
  rw [fX8_isMissing, eX8_isMissing_0, gR_40_0, aOp_s, gL_41 _ _ _ _ (aIn_nI hr (by decide)), aOp_s, nI_clamp (by omega), h3]
  by_cases e : ln r = 3
  · rw [if_pos e, if_pos rfl, decide_eq_true e]; rfl
  · rw [if_neg e, if_neg (n_neN (by omega)), decide_eq_false e]; rfl
theorem toInt_sub_nn {s : Nat} {x : Int32} (hs : s ≤ 1000) (hx : 0 ≤ x.toInt) : (nI s - x).toInt = (s : Int) - x.toInt := by
  have h1 := Int32.toInt_lt x
  rw [Int32.toInt_sub, nI_toInt (by omega), Int.bmod_eq_of_le (by omega) (by omega)]
theorem i0_le {x : Int32} : ¬ x < 0 ↔ 0 ≤ x.toInt := by
  rw [Int32.lt_iff_toInt_lt, show (0 : Int32).toInt = 0 by decide]
  omega
theorem m_isPart (sa : Nat → Nat) (d : Nat) (h : AH) (co : Nat) {S : ST} {ln sz : Nat → Nat} {it : Nat → Nat → Int32} (hR : rR S 41 (-1000000) ln sz it) {r : Nat} (hr : r < 8) (i n : Int32) : AMC sa (d + 1) 118 [.ref (co + 40), .int (nI r), .int i, .int n] (mk h co S) = some (some (.int (bv (rPt (sz r) i n))), mk h co S) := by
  obtain ⟨h1, h2, h3, h4, h5⟩ := hR r hr
  rw [fX8_isPart, eX8_isPart_0, gR_40_1, aOp_s, gL_42 _ _ _ _ (aIn_nI hr (by decide)), aOp_s, nI_clamp (by omega), show S.2.2 42 r = nI (sz r) from h4]
  unfold rPt
  by_cases hi : i < 0
  · rw [if_pos hi, decide_eq_false (fun z => absurd hi (i0_le.mpr z.1))]; rfl
  rw [if_neg hi]
  by_cases hn : n < 0
  · rw [if_pos hn, decide_eq_false (fun z => absurd hn (i0_le.mpr z.2.1))]; rfl
  rw [if_neg hn]
  have hi' := i0_le.mp hi
  have hn' := i0_le.mp hn
  have hs : (nI (sz r)).toInt = (sz r : Int) := nI_toInt (by omega)
  by_cases h6 : nI (sz r) < i
  · rw [if_pos h6]
    have := Int32.lt_iff_toInt_lt.mp h6
    rw [decide_eq_false (fun z => by omega)]; rfl
  rw [if_neg h6, aOp_s, gL_42 _ _ _ _ (aIn_nI hr (by decide)), aOp_s, nI_clamp (by omega), show S.2.2 42 r = nI (sz r) from h4]
  have h6' : ¬ (nI (sz r)).toInt < i.toInt := fun z => h6 (Int32.lt_iff_toInt_lt.mpr z)
  have hd : (nI (sz r) - i).toInt = (sz r : Int) - i.toInt := toInt_sub_nn (by omega) hi'
  by_cases h7 : nI (sz r) - i < n
  · rw [if_pos h7]
    have := Int32.lt_iff_toInt_lt.mp h7
    rw [decide_eq_false (fun z => by omega)]; rfl
  · rw [if_neg h7]
    have h7' : ¬ (nI (sz r) - i).toInt < n.toInt := fun z => h7 (Int32.lt_iff_toInt_lt.mpr z)
    rw [decide_eq_true (by omega)]; rfl
def fT (P : PS) (l : Nat) (f : Nat → Int32) : Nat → Bool
  | 0 => true
  | k + 1 => fT P l f k && decide (nI (pW (pDays P (k + 1)) l) = f k)
theorem m_weighsSo (sa : Nat → Nat) (d : Nat) (h : AH) (co : Nat) {S : ST} {P : PS} (hE : pE S 46 P) (g : Nat → Int32) {l fr n pl v : Nat} (hl : l < 7) (hfr : fr + n ≤ 320) (hpl : pl < 40) (hB : pB (pUp P pl v)) (h4 : (pUp P pl v) 4 + n ≤ 100000) : ∃ f', AMC sa (d + 6) 166 [.ref (co + 40), .int (nI l), .int (nI fr), .int (nI n), .int (nI pl), .int (nI v)] (mk h co (sA S 48 g)) = some (some (.int (bv (fT (pUp P pl v) l (fun k => S.2.2 43 (fr + k)) n))), mk h co (sA S 48 f')) := by
  have loop : ∀ m k f, k + m = n → pE (sA S 48 f) 48 (pDays (pUp P pl v) k) → ∃ f', AMV sa (d + 5) 166 28 [.ref (co + 40), .int (nI l), .int (nI fr), .int (nI n), .int (nI pl), .int (nI v), .int (bv (fT (pUp P pl v) l (fun k => S.2.2 43 (fr + k)) k)), .int (nI k)] [] (mk h co (sA S 48 f)) = some (some (.int (bv (fT (pUp P pl v) l (fun k => S.2.2 43 (fr + k)) n))), mk h co (sA S 48 f')) := by
    intro m
    induction m with
    | zero =>
      intro k f hk hf
      have hk : k = n := hk
      refine ⟨f, ?_⟩
      rw [eX8_weighsSo_28, if_pos (nI_le (by omega) (by omega)), if_pos (bv_01 _), hk]
    | succ m ih =>
      intro k f hk hf
      obtain ⟨hQ, hQ4⟩ := pDays_B hB k (by omega)
      obtain ⟨hQ2, -⟩ := pDays_B hB (k + 1) (by omega)
      have e1 : sM (sA S 48 f) 48 (pDay (pDays (pUp P pl v) k)) = sA S 48 (sM8 S f (pDays (pUp P pl v) (k + 1))) := sM_48 _ _ _
      have hf2 : pE (sA S 48 (sM8 S f (pDays (pUp P pl v) (k + 1)))) 48 (pDays (pUp P pl v) (k + 1)) := by rw [← sM_48]; exact pE_sM (Or.inr (Or.inr rfl)) _
      rw [eX8_weighsSo_28, if_neg (nI_ge (by omega) (by omega)), gR_40_15, aOp_s, m_passes sa d h co hf hQ, aRV_mk, aOp_s, e1]
      have fin : ∀ s0 : Bool, s0 = fT (pUp P pl v) l (fun k => S.2.2 43 (fr + k)) (k + 1) → ∃ f', AMV sa (d + 5) 166 71 [.ref (co + 40), .int (nI l), .int (nI fr), .int (nI n), .int (nI pl), .int (nI v), .int (bv (fT (pUp P pl v) l (fun k => S.2.2 43 (fr + k)) k)), .int (nI k)] [.int (bv s0)] (mk h co (sA S 48 (sM8 S f (pDays (pUp P pl v) (k + 1))))) = some (some (.int (bv (fT (pUp P pl v) l (fun k => S.2.2 43 (fr + k)) n))), mk h co (sA S 48 f')) := by
        intro s0 hs0
        rw [eX8_weighsSo_71, nI_1, hs0]
        exact ih (k + 1) _ (by omega) hf2
      have e2 : fT (pUp P pl v) l (fun k => S.2.2 43 (fr + k)) (k + 1) = (fT (pUp P pl v) l (fun k => S.2.2 43 (fr + k)) k && decide (nI (pW (pDays (pUp P pl v) (k + 1)) l) = S.2.2 43 (fr + k))) := rfl
      cases e3 : fT (pUp P pl v) l (fun k => S.2.2 43 (fr + k)) k with
      | false =>
        rw [e3] at fin e2
        rw [if_pos bvf]
        exact fin false e2.symm
      | true =>
        rw [e3, Bool.true_and] at e2
        rw [e3] at fin
        rw [if_neg bvn, gR_40_15, aOp_s, m_weight sa (d + 2) h co hf2 hQ2 hl, aRI_mk, aOp_s, gR_40_2, aOp_s, nI_add, gL_43 _ _ _ _ (aIn_nI (by omega) (by decide)), aOp_s, nI_clamp (by omega), sA_ne _ _ _ (by decide)]
        by_cases hc : nI (pW (pDays (pUp P pl v) (k + 1)) l) = S.2.2 43 (fr + k)
        · rw [if_pos hc]
          exact fin true (by rw [e2, decide_eq_true hc])
        · rw [if_neg hc]
          exact fin false (by rw [e2, decide_eq_false hc])
  have hE3 : pE (sM (sA S 48 g) 48 P) 48 P := pE_sM (Or.inr (Or.inr rfl)) P
  have e1 : sM (sM (sA S 48 g) 48 P) 48 (pUp P pl v) = sA S 48 (sM8 S g (pUp P pl v)) := by rw [sM_sM, sM_48]
  have hE4 : pE (sA S 48 (sM8 S g (pUp P pl v))) 48 (pUp P pl v) := by rw [← sM_48]; exact pE_sM (Or.inr (Or.inr rfl)) _
  rw [fX8_weighsSo, eX8_weighsSo_0, gR_40_13, aOp_s, gR_40_15, aOp_s, m_tried sa (d + 4) h co (pE_sA48 hE g), aRV_mk, aOp_s, gR_40_15, aOp_s, pE_set hE3 h co hpl, aOp_s, e1]
  exact loop n 0 _ (by omega) hE4
def dC (q : Nat → Bool) : Nat → Nat → Nat
  | 0, _ => 0
  | k + 1, m => dC q k (m + 1) + cond (q m) 1 0
def dL (q : Nat → Bool) : Nat → Nat → Option Nat
  | 0, _ => none
  | k + 1, m => cond (q m) (some m) (dL q k (m + 1))
def dS (q : Nat → Bool) : Nat → Nat → Nat
  | 0, _ => 0
  | k + 1, m => dS q k (m + 1) ||| cond (q m) (2 ^ m) 0
theorem dL_lt (q : Nat → Bool) : ∀ k m b, dL q k m = some b → m ≤ b ∧ b < m + k
  | 0, m, b, h => by cases h
  | k + 1, m, b, h => by
    simp only [dL] at h
    cases hq : q m with
    | true => rw [hq] at h; cases h; omega
    | false =>
      rw [hq] at h
      have := dL_lt q k (m + 1) b h
      omega
theorem dC_le (q : Nat → Bool) : ∀ k m, dC q k m ≤ k
  | 0, _ => Nat.le_refl _
  | k + 1, m => by
    have := dC_le q k (m + 1)
    simp only [dC]
    cases q m <;> simp <;> omega
def ftLo (what : Nat) : Nat := if what = 0 then 1 else 0
def ftHi (P : PS) (l what : Nat) : Nat := if what = 0 then 5 else if what < 3 then P (13 + 4 * l) else 60
def ftPl (l what : Nat) : Nat := if what = 0 then 12 + 4 * l else if what < 3 then 14 + 4 * l else 1
def ftMay (P : PS) (l what v : Nat) : Bool := decide (what = 0) || (decide (2 < what) || decide (v &&& (63 ^^^ P (13 + 4 * l)) = 0))
def ftQ (P : PS) (l what : Nat) (f : Nat → Int32) (n v : Nat) : Bool := ftMay P l what v && fT (pUp P (ftPl l what) v) l f n
def ftA (P : PS) (l what : Nat) (f : Nat → Int32) (n : Nat) : Int32 := if what = 0 then nI (dS (ftQ P l what f n) (ftHi P l what + 1 - ftLo what) (ftLo what)) else if what % 2 = 1 then nI (dC (ftQ P l what f n) (ftHi P l what + 1 - ftLo what) (ftLo what)) else bI (dL (ftQ P l what f n) (ftHi P l what + 1 - ftLo what) (ftLo what))
theorem pB_kind {P : PS} (hB : pB P) (l : Nat) {x : Nat} (hx : x ≤ 5) : pB (pUp P (12 + 4 * l) x) := by
  obtain ⟨b1, b2, b3, b4, b5, b6, b7, b8⟩ := hB
  have hn : ∀ j, j ≠ 12 + 4 * l → pUp P (12 + 4 * l) x j = P j := fun j hj => pUp_ne P _ hj
  refine ⟨by rw [hn 2 (by omega)]; exact b1, by rw [hn 3 (by omega)]; exact b2, fun k hk => by rw [hn (6 + k) (by omega)]; exact b3 k hk, fun q hq => ?_, by rw [hn 0 (by omega)]; exact b5, by rw [hn 1 (by omega)]; exact b6, by rw [hn 4 (by omega)]; exact b7, by rw [hn 5 (by omega)]; exact b8⟩
  obtain ⟨c1, c2, c3, c4⟩ := b4 q hq
  refine ⟨?_, by rw [hn (13 + 4 * q) (by omega)]; exact c2, by rw [hn (14 + 4 * q) (by omega)]; exact c3, by rw [hn (15 + 4 * q) (by omega)]; exact c4⟩
  by_cases e : q = l
  · rw [e, pUp_at]; exact hx
  · rw [hn (12 + 4 * q) (by omega)]; exact c1
theorem pB_limit {P : PS} (hB : pB P) {x : Nat} (hx : x ≤ 60) : pB (pUp P 1 x) := by
  obtain ⟨b1, b2, b3, b4, b5, b6, b7, b8⟩ := hB
  have hn : ∀ j, j ≠ 1 → pUp P 1 x j = P j := fun j hj => pUp_ne P _ hj
  refine ⟨by rw [hn 2 (by omega)]; exact b1, by rw [hn 3 (by omega)]; exact b2, fun k hk => by rw [hn (6 + k) (by omega)]; exact b3 k hk, fun q hq => ?_, by rw [hn 0 (by omega)]; exact b5, by rw [pUp_at]; exact hx, by rw [hn 4 (by omega)]; exact b7, by rw [hn 5 (by omega)]; exact b8⟩
  rw [hn (12 + 4 * q) (by omega), hn (13 + 4 * q) (by omega), hn (14 + 4 * q) (by omega), hn (15 + 4 * q) (by omega)]
  exact b4 q hq
theorem pB_strap {P : PS} (hB : pB P) {x : Nat} (hx : x ≤ 99) : pB (pUp P 0 x) := by
  obtain ⟨b1, b2, b3, b4, b5, b6, b7, b8⟩ := hB
  have hn : ∀ j, j ≠ 0 → pUp P 0 x j = P j := fun j hj => pUp_ne P _ hj
  refine ⟨by rw [hn 2 (by omega)]; exact b1, by rw [hn 3 (by omega)]; exact b2, fun k hk => by rw [hn (6 + k) (by omega)]; exact b3 k hk, fun q hq => ?_, by rw [pUp_at]; exact hx, by rw [hn 1 (by omega)]; exact b6, by rw [hn 4 (by omega)]; exact b7, by rw [hn 5 (by omega)]; exact b8⟩
  rw [hn (12 + 4 * q) (by omega), hn (13 + 4 * q) (by omega), hn (14 + 4 * q) (by omega), hn (15 + 4 * q) (by omega)]
  exact b4 q hq
theorem pB_ft {P : PS} (hB : pB P) {l what v : Nat} (hl : l < 7) (hv : v ≤ ftHi P l what) : pB (pUp P (ftPl l what) v) ∧ (pUp P (ftPl l what) v) 4 = P 4 ∧ ftPl l what < 40 ∧ v < 64 := by
  have hwd := (hB.2.2.2.1 l hl).2.1
  unfold ftHi at hv
  unfold ftPl
  by_cases h0 : what = 0
  · rw [if_pos h0] at hv
    rw [if_pos h0]
    exact ⟨pB_kind hB l hv, pUp_ne _ _ (by omega), by omega, by omega⟩
  · rw [if_neg h0] at hv
    rw [if_neg h0]
    by_cases h3 : what < 3
    · rw [if_pos h3] at hv
      rw [if_pos h3]
      exact ⟨pB_said hB l (by omega), pUp_ne _ _ (by omega), by omega, by omega⟩
    · rw [if_neg h3] at hv
      rw [if_neg h3]
      exact ⟨pB_limit hB hv, pUp_ne _ _ (by omega), by omega, by omega⟩
theorem n_fs : ∀ a, a < 64 → ∀ m, m < 6 → nI a ||| ((1 : Int32) <<< (nI m &&& 31)) = nI (a ||| 2 ^ m) := by decide +kernel
theorem n_lt6 : ∀ m, m < 6 → 2 ^ m < 64 := by decide
theorem dS_lt (q : Nat → Bool) : ∀ k m, m + k ≤ 6 → dS q k m < 64
  | 0, _, _ => by show 0 < 64; decide
  | k + 1, m, h => by
    have ih := dS_lt q k (m + 1) (by omega)
    have h2 := n_lt6 m (by omega)
    show (dS q k (m + 1) ||| cond (q m) (2 ^ m) 0) < 64
    cases q m
    · exact n_or64 _ ih 0 (by decide)
    · exact n_or64 _ ih _ h2
theorem m_fits_loop (sa : Nat → Nat) (d : Nat) (h : AH) (co : Nat) {S : ST} {P : PS} (hE : pE S 46 P) (hB : pB P) {l n what fr : Nat} (x2 x3 : Int32) (hl : l < 7) (hn : n ≤ 12) (hq : what < 5) (hfr : fr + n ≤ 320) (h4 : P 4 ≤ 10000) (x9 : Int32) : ∀ j m k g x14, m = ftLo what + j → m + k = ftHi P l what + 1 → ∃ f', AMV sa (d + 7) 167 157 [.ref (co + 40), .int (nI l), .int x2, .int x3, .int (nI n), .int (nI what), .int (nI fr), .int (nI (12 + 4 * l)), .int (nI (ftPl l what)), .int x9, .int (nI (if what = 0 then dS (ftQ P l what (fun k => S.2.2 43 (fr + k)) n) k m else 0)), .int (nI (dC (ftQ P l what (fun k => S.2.2 43 (fr + k)) n) k m)), .int (bI (dL (ftQ P l what (fun k => S.2.2 43 (fr + k)) n) k m)), .int (nI m + (-1)), x14] [] (mk h co (sA S 48 g)) = some (some (.int (ftA P l what (fun k => S.2.2 43 (fr + k)) n)), mk h co (sI (sA S 48 f') 40 4 0)) := by
  have hwd := (hB.2.2.2.1 l hl).2.1
  have hhi : ftHi P l what ≤ 63 := by
    unfold ftHi
    split
    · decide
    · split <;> omega
  have hlo : ftLo what ≤ 1 := by unfold ftLo; split <;> omega
  have h169 : ∀ x10 x11 x12 x13 (x14 : Value) H, AMV sa (d + 7) 167 157 [.ref (co + 40), .int (nI l), .int x2, .int x3, .int (nI n), .int (nI what), .int (nI fr), .int (nI (12 + 4 * l)), .int (nI (ftPl l what)), .int x9, .int x10, .int x11, .int x12, .int x13, x14] [] H = AMV sa (d + 7) 167 169 [.ref (co + 40), .int (nI l), .int x2, .int x3, .int (nI n), .int (nI what), .int (nI fr), .int (nI (12 + 4 * l)), .int (nI (ftPl l what)), .int x9, .int x10, .int x11, .int x12, .int x13, x14] [.int (nI (ftLo what)), .int x13] H := by
    intro x10 x11 x12 x13 x14 H
    rw [eX8_fits_157]
    unfold ftLo
    by_cases h0 : what = 0
    · rw [if_pos (show nI what = 0 by rw [h0]; rfl), if_pos h0]; rfl
    · rw [if_neg (nI_ne0 (by omega) (by omega)), if_neg h0]; rfl
  intro j
  induction j with
  | zero =>
    intro m k g x14 hm hk
    have hm : m = ftLo what := hm
    have hlt : nI m + (-1) < nI (ftLo what) := by
      rw [hm]
      exact (show ∀ x, x ≤ 1 → nI x + (-1) < nI x by decide) _ hlo
    refine ⟨g, ?_⟩
    rw [h169, eX8_fits_169, if_pos hlt]
    unfold ftA
    have ek : ftHi P l what + 1 - ftLo what = k := by omega
    rw [ek, ← hm]
    by_cases h0 : what = 0
    · rw [if_pos (show nI what = 0 by rw [h0]; rfl), if_pos h0, if_pos h0, gC_40, aOp_s, m_well, aRI_mk, aOp_s]
    · rw [if_neg (nI_ne0 (by omega) (by omega)), if_neg h0]
      have hr : nI what - nI what / 2 * 2 = nI (what % 2) := pk_rem (a := what) (d := 2) (by omega) (by decide) (by decide)
      rw [hr]
      by_cases h1 : what % 2 = 1
      · rw [if_pos (show nI (what % 2) = 1 by rw [h1]; rfl), if_pos h1, gC_40, aOp_s, m_well, aRI_mk, aOp_s]
      · rw [if_neg (show ¬ nI (what % 2) = 1 from fun z => h1 ((nI_eq (b := 1) (by omega) (by decide)).mp z)), if_neg h1, gC_40, aOp_s, m_well, aRI_mk, aOp_s]
  | succ j ih =>
    intro m k g x14 hm hk
    obtain ⟨v, rfl⟩ : ∃ v, m = v + 1 := ⟨m - 1, by omega⟩
    obtain ⟨hB2, hB4, hpl, hv64⟩ := pB_ft hB (l := l) (what := what) (v := v) hl (by omega)
    have hng : ¬ nI v < nI (ftLo what) := nI_nlt (by omega) (by omega)
    have est : dC (ftQ P l what (fun k => S.2.2 43 (fr + k)) n) (k + 1) v = dC (ftQ P l what (fun k => S.2.2 43 (fr + k)) n) k (v + 1) + cond (ftQ P l what (fun k => S.2.2 43 (fr + k)) n v) 1 0 := rfl
    have esl : dL (ftQ P l what (fun k => S.2.2 43 (fr + k)) n) (k + 1) v = cond (ftQ P l what (fun k => S.2.2 43 (fr + k)) n v) (some v) (dL (ftQ P l what (fun k => S.2.2 43 (fr + k)) n) k (v + 1)) := rfl
    have ess : dS (ftQ P l what (fun k => S.2.2 43 (fr + k)) n) (k + 1) v = dS (ftQ P l what (fun k => S.2.2 43 (fr + k)) n) k (v + 1) ||| cond (ftQ P l what (fun k => S.2.2 43 (fr + k)) n v) (2 ^ v) 0 := rfl
    have ih1 := fun g x14 => ih v (k + 1) g x14 (by omega) (by omega)
    rw [h169, pk_m1, eX8_fits_169, if_neg hng]
    have fin : ∀ s0 : Bool, s0 = ftMay P l what v → ∃ f', AMV sa (d + 7) 167 205 [.ref (co + 40), .int (nI l), .int x2, .int x3, .int (nI n), .int (nI what), .int (nI fr), .int (nI (12 + 4 * l)), .int (nI (ftPl l what)), .int x9, .int (nI (if what = 0 then dS (ftQ P l what (fun k => S.2.2 43 (fr + k)) n) k (v + 1) else 0)), .int (nI (dC (ftQ P l what (fun k => S.2.2 43 (fr + k)) n) k (v + 1))), .int (bI (dL (ftQ P l what (fun k => S.2.2 43 (fr + k)) n) k (v + 1))), .int (nI v), x14] [.int (bv s0)] (mk h co (sA S 48 g)) = some (some (.int (ftA P l what (fun k => S.2.2 43 (fr + k)) n)), mk h co (sI (sA S 48 f') 40 4 0)) := by
      intro s0 hs0
      rw [eX8_fits_205]
      cases s0 with
      | false =>
        have eq : ftQ P l what (fun k => S.2.2 43 (fr + k)) n v = false := by unfold ftQ; rw [← hs0]; rfl
        have := ih1 g (.int (bv false))
        rw [est, esl, ess, eq] at this
        simp only [cond_false, Nat.add_zero, Nat.or_zero] at this
        rw [if_pos bvf]
        exact this
      | true =>
        obtain ⟨f1, hf1⟩ := m_weighsSo sa (d + 1) h co hE g (l := l) (fr := fr) (n := n) (pl := ftPl l what) (v := v) hl hfr hpl hB2 (by omega)
        rw [if_neg bvn, gC_40, aOp_s, hf1, aRI_mk, aOp_s]
        have eq : ftQ P l what (fun k => S.2.2 43 (fr + k)) n v = fT (pUp P (ftPl l what) v) l (fun k => S.2.2 43 (fr + k)) n := by unfold ftQ; rw [← hs0, Bool.true_and]
        have := ih1 f1 (.int (bv true))
        rw [est, esl, ess, eq] at this
        cases e : fT (pUp P (ftPl l what) v) l (fun k => S.2.2 43 (fr + k)) n with
        | false =>
          rw [e] at this
          simp only [cond_false, Nat.add_zero, Nat.or_zero] at this
          rw [if_pos bvf]
          exact this
        | true =>
          rw [e] at this
          simp only [cond_true] at this
          rw [if_neg bvn]
          by_cases h0 : what = 0
          · have hv5 : v ≤ 5 := by have : ftHi P l what = 5 := if_pos h0; omega
            rw [if_pos h0] at this
            have hsl : dS (ftQ P l what (fun k => S.2.2 43 (fr + k)) n) k (v + 1) < 64 := dS_lt _ _ _ (by have : ftHi P l what = 5 := if_pos h0; omega)
            rw [if_pos (show nI what = 0 by rw [h0]; rfl), eX8_fits_243, if_pos h0, n_fs _ hsl _ (by omega), nI_1]
            exact this
          · rw [if_neg h0] at this
            rw [if_neg (nI_ne0 (by omega) (by omega)), eX8_fits_243, if_neg h0, show nI 0 ||| (0 : Int32) = nI 0 from rfl, nI_1]
            exact this
    by_cases h0 : what = 0
    · rw [if_pos (show nI what = 0 by rw [h0]; rfl)]
      exact fin true (by unfold ftMay; rw [decide_eq_true h0]; rfl)
    · rw [if_neg (nI_ne0 (by omega) (by omega))]
      by_cases h2 : 2 < what
      · rw [if_pos (show (2 : Int32) < nI what from nI_lt (a := 2) h2 (by omega))]
        exact fin true (by unfold ftMay; rw [decide_eq_false h0, decide_eq_true h2]; rfl)
      · rw [if_neg (show ¬ (2 : Int32) < nI what from nI_nlt (a := 2) (by omega) (by decide)), gR_40_13, aOp_s, nI_1, show 12 + 4 * l + 1 = 13 + 4 * l by omega, pE_get (pE_sA48 hE g) h co (by omega), aOp_s, n_andn _ hv64 _ hwd]
        have hle : (v &&& (63 ^^^ P (13 + 4 * l))) ≤ v := Nat.and_le_left
        by_cases hc : v &&& (63 ^^^ P (13 + 4 * l)) = 0
        · rw [if_pos (show nI (v &&& (63 ^^^ P (13 + 4 * l))) = 0 by rw [hc]; rfl)]
          exact fin true (by unfold ftMay; rw [decide_eq_false h0, decide_eq_false h2, decide_eq_true hc]; rfl)
        · rw [if_neg (nI_ne0 (by omega) (by omega))]
          exact fin false (by unfold ftMay; rw [decide_eq_false h0, decide_eq_false h2, decide_eq_false hc]; rfl)
