/-! ===== the reference: more calls ===== -/
theorem bvf : bv false = 0 := rfl
theorem m_strap_no (sa : Nat → Nat) (d : Nat) (h : AH) (co : Nat) {S : ST} {P : PS} (hE : pE S 46 P) (hB : pB P) (x : Int32) (hz : P 3 = 0) : AMC sa (d + 5) 151 [.ref (co + 40), .int x] (mk h co S) = some (some (.int (-1000002)), mk h co S) := by
  rw [fX8_strap, eX8_strap_0, gC_40, aOp_s, m_isPost sa (d + 3) h co hE hB, aRI_mk, aOp_s, show decide (0 < P 3) = false from decide_eq_false (by omega), if_pos bvf]
theorem m_strap_bad (sa : Nat → Nat) (d : Nat) (h : AH) (co : Nat) {S : ST} {P : PS} (hE : pE S 46 P) (hB : pB P) (x : Int32) (hz : 0 < P 3) (hb : iL x 100 = false) : AMC sa (d + 5) 151 [.ref (co + 40), .int x] (mk h co S) = some (some (.int (-1000001)), mk h co S) := by
  rw [fX8_strap, eX8_strap_0, gC_40, aOp_s, m_isPost sa (d + 3) h co hE hB, aRI_mk, aOp_s, show decide (0 < P 3) = true from decide_eq_true hz, if_neg bvn, m_in, aRI_mk, aOp_s, show decide ((0 : Int32) ≤ x ∧ x ≤ 99) = iL x 100 from rfl, hb, if_pos bvf]
theorem m_strap_ok (sa : Nat → Nat) (d : Nat) (h : AH) (co : Nat) {S : ST} {P : PS} {A : Nat → PS} {n : Nat} (hE : pE S 46 P) (hB : pB P) (hA : aP S A n) {x : Nat} (hz : 0 < P 3) (hx : x < 100) : AMC sa (d + 5) 151 [.ref (co + 40), .int (nI x)] (mk h co S) = some (some (.int (nI (P 0))), mk h co (sM (nt S n) 46 (pUp P 0 x))) := by
  rw [fX8_strap, eX8_strap_0, gC_40, aOp_s, m_isPost sa (d + 3) h co hE hB, aRI_mk, aOp_s, show decide (0 < P 3) = true from decide_eq_true hz, if_neg bvn, m_in, aRI_mk, aOp_s, show decide ((0 : Int32) ≤ nI x ∧ nI x ≤ 99) = iL (nI x) 100 from rfl, iL_nI (by decide) hx, if_neg bvn, gC_40, aOp_s, show (0 : Int32) = nI 0 from rfl, m_sets sa (d + 1) h co hE hA (by decide), aRI_mk, aOp_s]
theorem m_limit_no (sa : Nat → Nat) (d : Nat) (h : AH) (co : Nat) {S : ST} {P : PS} (hE : pE S 46 P) (hB : pB P) (x : Int32) (hz : P 3 = 0) : AMC sa (d + 5) 152 [.ref (co + 40), .int x] (mk h co S) = some (some (.int (-1000002)), mk h co S) := by
  rw [fX8_limit, eX8_limit_0, gC_40, aOp_s, m_isPost sa (d + 3) h co hE hB, aRI_mk, aOp_s, show decide (0 < P 3) = false from decide_eq_false (by omega), if_pos bvf]
theorem m_limit_bad (sa : Nat → Nat) (d : Nat) (h : AH) (co : Nat) {S : ST} {P : PS} (hE : pE S 46 P) (hB : pB P) (x : Int32) (hz : 0 < P 3) (hb : iL x 61 = false) : AMC sa (d + 5) 152 [.ref (co + 40), .int x] (mk h co S) = some (some (.int (-1000001)), mk h co S) := by
  rw [fX8_limit, eX8_limit_0, gC_40, aOp_s, m_isPost sa (d + 3) h co hE hB, aRI_mk, aOp_s, show decide (0 < P 3) = true from decide_eq_true hz, if_neg bvn, m_in, aRI_mk, aOp_s, show decide ((0 : Int32) ≤ x ∧ x ≤ 60) = iL x 61 from rfl, hb, if_pos bvf]
theorem m_limit_ok (sa : Nat → Nat) (d : Nat) (h : AH) (co : Nat) {S : ST} {P : PS} {A : Nat → PS} {n : Nat} (hE : pE S 46 P) (hB : pB P) (hA : aP S A n) {x : Nat} (hz : 0 < P 3) (hx : x < 61) : AMC sa (d + 5) 152 [.ref (co + 40), .int (nI x)] (mk h co S) = some (some (.int (nI (P 1))), mk h co (sM (nt S n) 46 (pUp P 1 x))) := by
  rw [fX8_limit, eX8_limit_0, gC_40, aOp_s, m_isPost sa (d + 3) h co hE hB, aRI_mk, aOp_s, show decide (0 < P 3) = true from decide_eq_true hz, if_neg bvn, m_in, aRI_mk, aOp_s, show decide ((0 : Int32) ≤ nI x ∧ nI x ≤ 60) = iL (nI x) 61 from rfl, iL_nI (by decide) hx, if_neg bvn, gC_40, aOp_s, show (1 : Int32) = nI 1 from rfl, m_sets sa (d + 1) h co hE hA (by decide), aRI_mk, aOp_s]
/-- what letter(l, what) answers -/
def pLt (P : PS) (l : Nat) (w : Int32) : Int32 := if w = 0 then nI (P (13 + 4 * l)) else if w = 1 then nI (P (14 + 4 * l)) else if w = 2 then nI (pU P l) else if w = 3 then nI (pW P l) else if w = 4 then 1 - nI (P (15 + 4 * l)) else if w = 5 then nI (pBl P l) else -1000001
theorem m_letter_bad (sa : Nat → Nat) (d : Nat) (h : AH) (co : Nat) {S : ST} {P : PS} (hE : pE S 46 P) (x w : Int32) (hb : iL x (P 3) = false) : AMC sa (d + 6) 154 [.ref (co + 40), .int x, .int w] (mk h co S) = some (some (.int (-1000001)), mk h co S) := by
  rw [fX8_letter, eX8_letter_0, gC_40, aOp_s, m_isLetter sa (d + 3) h co hE, aRI_mk, aOp_s, hb, if_pos bvf]
theorem m_letter_ok (sa : Nat → Nat) (d : Nat) (h : AH) (co : Nat) {S : ST} {P : PS} (hE : pE S 46 P) (hB : pB P) {l : Nat} (hl : l < P 3) (w : Int32) : AMC sa (d + 6) 154 [.ref (co + 40), .int (nI l), .int w] (mk h co S) = some (some (.int (pLt P l w)), mk h co S) := by
  have b3 := hB.2.1
  rw [fX8_letter, eX8_letter_0, gC_40, aOp_s, m_isLetter sa (d + 3) h co hE, aRI_mk, aOp_s, iL_nI (by omega) hl, if_neg bvn]
  unfold pLt
  simp only [gR_40_13, aOp_s, ix1, ix2, ix3]
  rw [pE_get hE h co (j := 13 + 4 * l) (by omega), pE_get hE h co (j := 14 + 4 * l) (by omega), pE_get hE h co (j := 15 + 4 * l) (by omega), m_unsaid sa (d + 4) h co hE hB (by omega), m_weight sa (d + 2) h co hE hB (by omega), m_blurts sa (d + 1) h co hE hB (by omega)]
  simp only [aOp_s, aRI_mk]
  by_cases h0 : w = 0
  · rw [if_pos h0, if_pos h0]
  rw [if_neg h0, if_neg h0]
  by_cases h1 : w = 1
  · rw [if_pos h1, if_pos h1]
  rw [if_neg h1, if_neg h1]
  by_cases h2 : w = 2
  · rw [if_pos h2, if_pos h2]
  rw [if_neg h2, if_neg h2]
  by_cases h3 : w = 3
  · rw [if_pos h3, if_pos h3]
  rw [if_neg h3, if_neg h3]
  by_cases h4 : w = 4
  · rw [if_pos h4, if_pos h4]
  rw [if_neg h4, if_neg h4]
  by_cases h5 : w = 5
  · rw [if_pos h5, if_pos h5]
  rw [if_neg h5, if_neg h5]
theorem m_ounces_bad (sa : Nat → Nat) (d : Nat) (h : AH) (co : Nat) {S : ST} {P : PS} (hE : pE S 46 P) (x : Int32) (hb : iL x (P 2) = false) : AMC sa (d + 3) 155 [.ref (co + 40), .int x] (mk h co S) = some (some (.int (-1000001)), mk h co S) := by
  rw [fX8_ounces, eX8_ounces_0, gC_40, aOp_s, m_isWord sa d h co hE, aRI_mk, aOp_s, hb, if_pos bvf]
theorem m_ounces_ok (sa : Nat → Nat) (d : Nat) (h : AH) (co : Nat) {S : ST} {P : PS} (hE : pE S 46 P) (hB : pB P) {k : Nat} (hk : k < P 2) : AMC sa (d + 3) 155 [.ref (co + 40), .int (nI k)] (mk h co S) = some (some (.int (nI (P (6 + k)))), mk h co S) := by
  have b2 := hB.1
  rw [fX8_ounces, eX8_ounces_0, gC_40, aOp_s, m_isWord sa d h co hE, aRI_mk, aOp_s, iL_nI (by omega) hk, if_neg bvn, gR_40_13, aOp_s, ix6, pE_get hE h co (by omega), aOp_s]
/-- into tried, and n days on -/
theorem m_tried (sa : Nat → Nat) (d : Nat) (h : AH) (co : Nat) {S : ST} {P : PS} (hE : pE S 46 P) : AMC sa (d + 1) 112 [.ref (co + 46), .int 0, .ref (co + 48), .int 0] (mk h co S) = some (none, mk h co (sM S 48 P)) := m_copyP sa d h co hE (Or.inr (Or.inr rfl)) (by decide)
theorem pE_sM48 {S : ST} {P : PS} (hE : pE S 46 P) (Q : PS) : pE (sM S 48 Q) 46 P := ⟨hE.1, fun j hj => by
  show (sA S 48 _).2.2 46 j = _
  rw [sA_ne _ _ _ (by decide)]
  exact hE.2 j hj⟩
theorem m_ahead_bad (sa : Nat → Nat) (d : Nat) (h : AH) (co : Nat) {S : ST} {P : PS} (hE : pE S 46 P) (x y w : Int32) (hb : (iL x (P 3) && (iL y 61 && iL w 2)) = false) : AMC sa (d + 7) 157 [.ref (co + 40), .int x, .int y, .int w] (mk h co S) = some (some (.int (-1000001)), mk h co S) := by
  rw [fX8_ahead, eX8_ahead_0, gC_40, aOp_s, m_isLetter sa (d + 4) h co hE, aRI_mk, aOp_s]
  cases h1 : iL x (P 3) with
  | false => rw [if_pos bvf]
  | true =>
    rw [h1, Bool.true_and] at hb
    rw [if_neg bvn, m_in, aRI_mk, aOp_s, show decide ((0 : Int32) ≤ y ∧ y ≤ 60) = iL y 61 from rfl]
    cases h2 : iL y 61 with
    | false => rw [if_pos bvf]
    | true =>
      rw [h2, Bool.true_and] at hb
      rw [if_neg bvn, m_in, aRI_mk, aOp_s, show decide ((0 : Int32) ≤ w ∧ w ≤ 1) = iL w 2 from rfl, hb, if_pos bvf]
theorem m_ahead_ok (sa : Nat → Nat) (d : Nat) (h : AH) (co : Nat) {S : ST} {P : PS} (hE : pE S 46 P) (hB : pB P) {l y w : Nat} (hl : l < P 3) (hy : y < 61) (hw : w < 2) (h4 : P 4 ≤ 10000) : AMC sa (d + 7) 157 [.ref (co + 40), .int (nI l), .int (nI y), .int (nI w)] (mk h co S) = some (some (.int (nI (if w = 0 then pW (pDays P y) l else pDays P y (14 + 4 * l)))), mk h co (sM S 48 (pDays P y))) := by
  have b3 := hB.2.1
  obtain ⟨hQ, -⟩ := pDays_B hB y (by omega)
  have hE3 : pE (sM S 48 (pDays P y)) 48 (pDays P y) := pE_sM (Or.inr (Or.inr rfl)) _
  rw [fX8_ahead, eX8_ahead_0, gC_40, aOp_s, m_isLetter sa (d + 4) h co hE, aRI_mk, aOp_s, iL_nI (by omega) hl, if_neg bvn, m_in, aRI_mk, aOp_s, show decide ((0 : Int32) ≤ nI y ∧ nI y ≤ 60) = iL (nI y) 61 from rfl, iL_nI (by decide) hy, if_neg bvn, m_in, aRI_mk, aOp_s, show decide ((0 : Int32) ≤ nI w ∧ nI w ≤ 1) = iL (nI w) 2 from rfl, iL_nI (by decide) hw, if_neg bvn, gR_40_13, aOp_s, gR_40_15, aOp_s, m_tried sa (d + 5) h co hE, aRV_mk, aOp_s, gC_40, aOp_s, m_goesOn sa d h co (pE_sM (Or.inr (Or.inr rfl)) P) hB (by omega), aRV_mk, aOp_s, sM_sM]
  by_cases hz : w = 0
  · rw [if_pos (show nI w = 0 by rw [hz]; rfl), if_pos hz, gR_40_15, aOp_s, m_weight sa (d + 3) h co hE3 hQ (by omega), aRI_mk, aOp_s]
  · rw [if_neg (show ¬ nI w = 0 from nI_ne0 (by omega) (by omega)), if_neg hz, gR_40_15, aOp_s, ix2, pE_get hE3 h co (by omega), aOp_s]
theorem m_later_ok (sa : Nat → Nat) (d : Nat) (h : AH) (co : Nat) {S : ST} {P : PS} (hE : pE S 46 P) (hB : pB P) {y w : Nat} (hz : 0 < P 3) (hy : y < 61) (hw : w < 2) (h4 : P 4 ≤ 10000) : AMC sa (d + 7) 158 [.ref (co + 40), .int (nI y), .int (nI w)] (mk h co S) = some (some (.int (nI (if w = 0 then pSn (pDays P y) (pDays P y 3) else pDays P y 5))), mk h co (sM S 48 (pDays P y))) := by
  obtain ⟨hQ, -⟩ := pDays_B hB y (by omega)
  have hE3 : pE (sM S 48 (pDays P y)) 48 (pDays P y) := pE_sM (Or.inr (Or.inr rfl)) _
  rw [fX8_later, eX8_later_0, gC_40, aOp_s, m_isPost sa (d + 5) h co hE hB, aRI_mk, aOp_s, show decide (0 < P 3) = true from decide_eq_true hz, if_neg bvn, m_in, aRI_mk, aOp_s, show decide ((0 : Int32) ≤ nI y ∧ nI y ≤ 60) = iL (nI y) 61 from rfl, iL_nI (by decide) hy, if_neg bvn, m_in, aRI_mk, aOp_s, show decide ((0 : Int32) ≤ nI w ∧ nI w ≤ 1) = iL (nI w) 2 from rfl, iL_nI (by decide) hw, if_neg bvn, gR_40_13, aOp_s, gR_40_15, aOp_s, m_tried sa (d + 5) h co hE, aRV_mk, aOp_s, gC_40, aOp_s, m_goesOn sa d h co (pE_sM (Or.inr (Or.inr rfl)) P) hB (by omega), aRV_mk, aOp_s, sM_sM]
  by_cases hw0 : w = 0
  · rw [if_pos (show nI w = 0 by rw [hw0]; rfl), if_pos hw0, gR_40_15, aOp_s, m_sentOf sa (d + 5) h co hE3 hQ, aRI_mk, aOp_s]
  · rw [if_neg (show ¬ nI w = 0 from nI_ne0 (by omega) (by omega)), if_neg hw0, gR_40_15, aOp_s, show aIL (mk h co (sM S 48 (pDays P y))) (co + 48) 5 = some (nI (pDays P y 5)) from pE_get hE3 h co (j := 5) (by decide), aOp_s]
theorem m_later_no (sa : Nat → Nat) (d : Nat) (h : AH) (co : Nat) {S : ST} {P : PS} (hE : pE S 46 P) (hB : pB P) (y w : Int32) (hz : P 3 = 0) : AMC sa (d + 7) 158 [.ref (co + 40), .int y, .int w] (mk h co S) = some (some (.int (-1000002)), mk h co S) := by
  rw [fX8_later, eX8_later_0, gC_40, aOp_s, m_isPost sa (d + 5) h co hE hB, aRI_mk, aOp_s, show decide (0 < P 3) = false from decide_eq_false (by omega), if_pos bvf]
theorem m_later_bad (sa : Nat → Nat) (d : Nat) (h : AH) (co : Nat) {S : ST} {P : PS} (hE : pE S 46 P) (hB : pB P) (y w : Int32) (hz : 0 < P 3) (hb : (iL y 61 && iL w 2) = false) : AMC sa (d + 7) 158 [.ref (co + 40), .int y, .int w] (mk h co S) = some (some (.int (-1000001)), mk h co S) := by
  rw [fX8_later, eX8_later_0, gC_40, aOp_s, m_isPost sa (d + 5) h co hE hB, aRI_mk, aOp_s, show decide (0 < P 3) = true from decide_eq_true hz, if_neg bvn, m_in, aRI_mk, aOp_s, show decide ((0 : Int32) ≤ y ∧ y ≤ 60) = iL y 61 from rfl]
  cases h2 : iL y 61 with
  | false => rw [if_pos bvf]
  | true =>
    rw [h2, Bool.true_and] at hb
    rw [if_neg bvn, m_in, aRI_mk, aOp_s, show decide ((0 : Int32) ≤ w ∧ w ≤ 1) = iL w 2 from rfl, hb, if_pos bvf]
/-- behind how many days a letter is sent first -/
def pWh (P : PS) (l : Nat) : Nat → Nat → Option Nat
  | 0, _ => none
  | m + 1, k => if pDays P k (15 + 4 * l) = 1 then some k else pWh P l m (k + 1)
theorem m_when_bad (sa : Nat → Nat) (d : Nat) (h : AH) (co : Nat) {S : ST} {P : PS} (hE : pE S 46 P) (x : Int32) (hb : iL x (P 3) = false) : AMC sa (d + 6) 159 [.ref (co + 40), .int x] (mk h co S) = some (some (.int (-1000001)), mk h co S) := by
  rw [fX8_when, eX8_when_0, gC_40, aOp_s, m_isLetter sa (d + 3) h co hE, aRI_mk, aOp_s, hb, if_pos bvf]
theorem m_when_ok (sa : Nat → Nat) (d : Nat) (h : AH) (co : Nat) {S : ST} {P : PS} (hE : pE S 46 P) (hB : pB P) {l : Nat} (hl : l < P 3) (h4 : P 4 ≤ 10000) : ∃ Q, AMC sa (d + 6) 159 [.ref (co + 40), .int (nI l)] (mk h co S) = some (some (.int (bI (pWh P l 61 0))), mk h co (sM S 48 Q)) := by
  have b3 := hB.2.1
  have loop : ∀ m k, k + m = 61 → ∃ Q, AMV sa (d + 5) 159 26 [.ref (co + 40), .int (nI l), .int (nI k)] [] (mk h co (sM S 48 (pDays P k))) = some (some (.int (bI (pWh P l m k))), mk h co (sM S 48 Q)) := by
    intro m
    induction m with
    | zero =>
      intro k hk
      have hk : k = 61 := hk
      refine ⟨pDays P k, ?_⟩
      rw [eX8_when_26, if_pos (show (61 : Int32) ≤ nI k from nI_le (a := 61) (by omega) (by omega))]
      rfl
    | succ m ih =>
      intro k hk
      obtain ⟨hQ, -⟩ := pDays_B hB k (by omega)
      have hE3 : pE (sM S 48 (pDays P k)) 48 (pDays P k) := pE_sM (Or.inr (Or.inr rfl)) _
      have hse := (hQ.2.2.2.1 l (by omega)).2.2.2
      rw [eX8_when_26, if_neg (show ¬ (61 : Int32) ≤ nI k from nI_ge (b := 61) (by omega) (by decide)), gR_40_15, aOp_s, ix3, pE_get hE3 h co (by omega), aOp_s]
      by_cases h1 : pDays P k (15 + 4 * l) = 1
      · refine ⟨pDays P k, ?_⟩
        rw [if_pos (show nI (pDays P k (15 + 4 * l)) = 1 by rw [h1]; rfl), show pWh P l (m + 1) k = some k from if_pos h1]
        rfl
      · obtain ⟨Q, hq⟩ := ih (k + 1) (by omega)
        refine ⟨Q, ?_⟩
        rw [if_neg (show ¬ nI (pDays P k (15 + 4 * l)) = 1 from fun z => h1 ((nI_eq (b := 1) (by omega) (by decide)).mp z)), aOp_s, m_passes sa d h co hE3 hQ, aRV_mk, aOp_s, sM_sM, nI_1, show pWh P l (m + 1) k = pWh P l m (k + 1) from if_neg h1]
        exact hq
  obtain ⟨Q, hq⟩ := loop 61 0 rfl
  refine ⟨Q, ?_⟩
  rw [fX8_when, eX8_when_0, gC_40, aOp_s, m_isLetter sa (d + 3) h co hE, aRI_mk, aOp_s, iL_nI (by omega) hl, if_neg bvn, gR_40_13, aOp_s, gR_40_15, aOp_s, m_tried sa (d + 4) h co hE, aRV_mk, aOp_s]
  exact hq
