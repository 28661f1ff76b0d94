/-! ===== the reference: calls on the post ===== -/
def iL (x : Int32) (n : Nat) : Bool := decide (0 ≤ x ∧ x ≤ nI n - 1)
theorem iL_of {x : Int32} {n : Nat} (hn : n < 100000) (h : iL x n = true) : ∃ k, k < n ∧ x = nI k := by
  have h := of_decide_eq_true h
  obtain ⟨h1, h2⟩ := h
  have e : (nI n - 1).toInt = (n : Int) - 1 := by
    have := pk_sub_toInt (a := n) (b := 1) (by omega) (by decide)
    exact this
  have h2 : x.toInt ≤ (nI n - 1).toInt := Int32.le_iff_toInt_le.mp h2
  rw [e] at h2
  obtain ⟨j, hj, rfl⟩ := nI_of (x := x) (Int32.not_lt.mpr h1)
  have : (nI j).toInt = (j : Int) := nI_toInt hj
  exact ⟨j, by omega, rfl⟩
theorem iL_nI {k n : Nat} (hn : n < 100000) (h : k < n) : iL (nI k) n = true := by
  refine decide_eq_true ⟨nI_pos' (by omega), ?_⟩
  have e : (nI n - 1).toInt = (n : Int) - 1 := pk_sub_toInt (a := n) (b := 1) (by omega) (by decide)
  have e2 : (nI k).toInt = (k : Int) := nI_toInt (by omega)
  refine Int32.le_iff_toInt_le.mpr ?_
  rw [e, e2]
  omega
theorem m_in (sa : Nat → Nat) (d : Nat) (v lo hi : Int32) (h : AH) : AMC sa (d + 1) 107 [.int v, .int lo, .int hi] h = some (some (.int (bv (decide (lo ≤ v ∧ v ≤ hi)))), h) := by
  rw [ci_in]
  by_cases hc : lo ≤ v ∧ v ≤ hi
  · rw [if_pos hc, decide_eq_true hc]; rfl
  · rw [if_neg hc, decide_eq_false hc]; rfl
theorem bv_01 (b : Bool) : bv b = 0 ∨ bv b = 1 := by cases b <;> simp [bv]
theorem m_isLetter (sa : Nat → Nat) (d : Nat) (h : AH) (co : Nat) {S : ST} {P : PS} (hE : pE S 46 P) (x : Int32) : AMC sa (d + 2) 136 [.ref (co + 40), .int x] (mk h co S) = some (some (.int (bv (iL x (P 3)))), mk h co S) := by
  rw [fX8_isLetter, eX8_isLetter_0, gR_40_13, aOp_s, show aIL (mk h co S) (co + 46) 3 = some (nI (P 3)) from pE_get hE h co (j := 3) (by decide), aOp_s, m_in, aRI_mk, aOp_s]
  exact if_pos (bv_01 _)
theorem m_isWord (sa : Nat → Nat) (d : Nat) (h : AH) (co : Nat) {S : ST} {P : PS} (hE : pE S 46 P) (x : Int32) : AMC sa (d + 2) 137 [.ref (co + 40), .int x] (mk h co S) = some (some (.int (bv (iL x (P 2)))), mk h co S) := by
  rw [fX8_isWord, eX8_isWord_0, gR_40_13, aOp_s, show aIL (mk h co S) (co + 46) 2 = some (nI (P 2)) from pE_get hE h co (j := 2) (by decide), aOp_s, m_in, aRI_mk, aOp_s]
  exact if_pos (bv_01 _)
theorem pE_nt {S : ST} {P : PS} (hE : pE S 46 P) (n : Nat) : pE (nt S n) 46 P := ⟨hE.1, fun j hj => by
  show (sA S 49 _).2.2 46 j = _
  rw [sA_ne _ _ _ (by decide)]
  exact hE.2 j hj⟩
theorem bvn : ¬ (bv true = 0) := by decide
theorem m_say_bad (sa : Nat → Nat) (d : Nat) (h : AH) (co : Nat) {S : ST} {P : PS} (hE : pE S 46 P) (x y : Int32) (hb : (iL x (P 3) && iL y (P 2)) = false) : AMC sa (d + 5) 147 [.ref (co + 40), .int x, .int y] (mk h co S) = some (some (.int (-1000001)), mk h co S) := by
  rw [fX8_say, eX8_say_0, gC_40, aOp_s, m_isLetter sa (d + 2) h co hE, aRI_mk, aOp_s]
  cases h1 : iL x (P 3) with
  | false => rw [if_pos (show bv false = 0 from rfl)]
  | true =>
    rw [if_neg bvn, gC_40, aOp_s, m_isWord sa (d + 2) h co hE, aRI_mk, aOp_s]
    rw [h1, Bool.true_and] at hb
    rw [hb, if_pos (show bv false = 0 from rfl)]
theorem m_say_state (sa : Nat → Nat) (d : Nat) (h : AH) (co : Nat) {S : ST} {P : PS} (hE : pE S 46 P) (hB : pB P) {l k : Nat} (hl : l < P 3) (hk : k < P 2) (hb : (pU P l).testBit k = false) : AMC sa (d + 5) 147 [.ref (co + 40), .int (nI l), .int (nI k)] (mk h co S) = some (some (.int (-1000002)), mk h co S) := by
  have b2 := hB.1
  have b3 := hB.2.1
  have hu := pU_lt hB (l := l) (by omega)
  rw [fX8_say, eX8_say_0, gC_40, aOp_s, m_isLetter sa (d + 2) h co hE, aRI_mk, aOp_s, iL_nI (by omega) hl, if_neg bvn, gC_40, aOp_s, m_isWord sa (d + 2) h co hE, aRI_mk, aOp_s, iL_nI (by omega) hk, if_neg bvn, gR_40_13, aOp_s, m_unsaid sa (d + 3) h co hE hB (by omega), aRI_mk, aOp_s, m_has sa (d + 3) (by omega) (by omega), aRI_mk, aOp_s, hb, if_pos (show bv false = 0 from rfl)]
theorem pB_said {P : PS} (hB : pB P) (l : Nat) {x : Nat} (hx : x < 64) : pB (pUp P (14 + 4 * l) x) := by
  obtain ⟨b1, b2, b3, b4, b5, b6, b7, b8⟩ := hB
  have hn : ∀ j, j ≠ 14 + 4 * l → pUp P (14 + 4 * l) x j = P j := fun j hj => pUp_ne P _ hj
  refine ⟨by rw [hn 2 (by omega)]; exact b1, by rw [hn 3 (by omega)]; exact b2, fun k hk => by rw [hn (6 + k) (by omega)]; exact b3 k hk, fun q hq => ?_, by rw [hn 0 (by omega)]; exact b5, by rw [hn 1 (by omega)]; exact b6, by rw [hn 4 (by omega)]; exact b7, by rw [hn 5 (by omega)]; exact b8⟩
  obtain ⟨c1, c2, c3, c4⟩ := b4 q hq
  refine ⟨by rw [hn (12 + 4 * q) (by omega)]; exact c1, by rw [hn (13 + 4 * q) (by omega)]; exact c2, ?_, by rw [hn (15 + 4 * q) (by omega)]; exact c4⟩
  by_cases e : q = l
  · rw [e, pUp_at]; exact hx
  · rw [hn (14 + 4 * q) (by omega)]; exact c3
theorem pB_sent {P : PS} (hB : pB P) (l : Nat) {x : Nat} (hx : x ≤ 1) : pB (pUp P (15 + 4 * l) x) := by
  obtain ⟨b1, b2, b3, b4, b5, b6, b7, b8⟩ := hB
  have hn : ∀ j, j ≠ 15 + 4 * l → pUp P (15 + 4 * l) x j = P j := fun j hj => pUp_ne P _ hj
  refine ⟨by rw [hn 2 (by omega)]; exact b1, by rw [hn 3 (by omega)]; exact b2, fun k hk => by rw [hn (6 + k) (by omega)]; exact b3 k hk, fun q hq => ?_, by rw [hn 0 (by omega)]; exact b5, by rw [hn 1 (by omega)]; exact b6, by rw [hn 4 (by omega)]; exact b7, by rw [hn 5 (by omega)]; exact b8⟩
  obtain ⟨c1, c2, c3, c4⟩ := b4 q hq
  refine ⟨by rw [hn (12 + 4 * q) (by omega)]; exact c1, by rw [hn (13 + 4 * q) (by omega)]; exact c2, by rw [hn (14 + 4 * q) (by omega)]; exact c3, ?_⟩
  by_cases e : q = l
  · rw [e, pUp_at]; exact hx
  · rw [hn (15 + 4 * q) (by omega)]; exact c4
theorem n_pow64 : ∀ k, k < 6 → 2 ^ k < 64 := by decide
theorem m_say_ok (sa : Nat → Nat) (d : Nat) (h : AH) (co : Nat) {S : ST} {P : PS} {A : Nat → PS} {n : Nat} (hE : pE S 46 P) (hB : pB P) (hA : aP S A n) {l k : Nat} (hl : l < P 3) (hk : k < P 2) (hb : (pU P l).testBit k = true) : AMC sa (d + 5) 147 [.ref (co + 40), .int (nI l), .int (nI k)] (mk h co S) = some (some (.int (nI (pW (pUp P (14 + 4 * l) (P (14 + 4 * l) ||| 2 ^ k)) l))), mk h co (sM (nt S n) 46 (pUp P (14 + 4 * l) (P (14 + 4 * l) ||| 2 ^ k)))) := by
  have b2 := hB.1
  have b3 := hB.2.1
  have hu := pU_lt hB (l := l) (by omega)
  have hsd := (hB.2.2.2.1 l (by omega)).2.2.1
  have hpk := n_pow64 k (by omega)
  have hE2 := pE_nt hE n
  have hB2 := pB_said hB l (n_or64 _ hsd _ hpk)
  rw [fX8_say, eX8_say_0, gC_40, aOp_s, m_isLetter sa (d + 2) h co hE, aRI_mk, aOp_s, iL_nI (by omega) hl, if_neg bvn, gC_40, aOp_s, m_isWord sa (d + 2) h co hE, aRI_mk, aOp_s, iL_nI (by omega) hk, if_neg bvn, gR_40_13, aOp_s, m_unsaid sa (d + 3) h co hE hB (by omega), aRI_mk, aOp_s, m_has sa (d + 3) (by omega) (by omega), aRI_mk, aOp_s, hb, if_neg bvn, gC_40, aOp_s, m_notes sa (d + 2) h co hA.1 hA.2.1, aRV_mk, aOp_s, gR_40_13, aOp_s, ix2, pE_get hE2 h co (by omega), aOp_s, n_shl1 k (by omega), n_or _ (by omega) _ (by omega), pE_set hE2 h co (by omega), aOp_s, gR_40_13, aOp_s, m_weight sa (d + 1) h co (pE_sM hE.1 _) hB2 (by omega), aRI_mk, aOp_s]
theorem m_unsay_bad (sa : Nat → Nat) (d : Nat) (h : AH) (co : Nat) {S : ST} {P : PS} (hE : pE S 46 P) (x y : Int32) (hb : (iL x (P 3) && iL y (P 2)) = false) : AMC sa (d + 5) 148 [.ref (co + 40), .int x, .int y] (mk h co S) = some (some (.int (-1000001)), mk h co S) := by
  rw [fX8_unsay, eX8_unsay_0, gC_40, aOp_s, m_isLetter sa (d + 2) h co hE, aRI_mk, aOp_s]
  cases h1 : iL x (P 3) with
  | false => rw [if_pos (show bv false = 0 from rfl)]
  | true =>
    rw [if_neg bvn, gC_40, aOp_s, m_isWord sa (d + 2) h co hE, aRI_mk, aOp_s]
    rw [h1, Bool.true_and] at hb
    rw [hb, if_pos (show bv false = 0 from rfl)]
theorem m_unsay_state (sa : Nat → Nat) (d : Nat) (h : AH) (co : Nat) {S : ST} {P : PS} (hE : pE S 46 P) (hB : pB P) {l k : Nat} (hl : l < P 3) (hk : k < P 2) (hb : (P (14 + 4 * l)).testBit k = false) : AMC sa (d + 5) 148 [.ref (co + 40), .int (nI l), .int (nI k)] (mk h co S) = some (some (.int (-1000002)), mk h co S) := by
  have b2 := hB.1
  have b3 := hB.2.1
  have hsd := (hB.2.2.2.1 l (by omega)).2.2.1
  rw [fX8_unsay, eX8_unsay_0, gC_40, aOp_s, m_isLetter sa (d + 2) h co hE, aRI_mk, aOp_s, iL_nI (by omega) hl, if_neg bvn, gC_40, aOp_s, m_isWord sa (d + 2) h co hE, aRI_mk, aOp_s, iL_nI (by omega) hk, if_neg bvn, gR_40_13, aOp_s, ix2, pE_get hE h co (by omega), aOp_s, m_has sa (d + 3) (by omega) (by omega), aRI_mk, aOp_s, hb, if_pos (show bv false = 0 from rfl)]
theorem m_unsay_ok (sa : Nat → Nat) (d : Nat) (h : AH) (co : Nat) {S : ST} {P : PS} {A : Nat → PS} {n : Nat} (hE : pE S 46 P) (hB : pB P) (hA : aP S A n) {l k : Nat} (hl : l < P 3) (hk : k < P 2) (hb : (P (14 + 4 * l)).testBit k = true) : AMC sa (d + 5) 148 [.ref (co + 40), .int (nI l), .int (nI k)] (mk h co S) = some (some (.int (nI (pW (pUp P (14 + 4 * l) (P (14 + 4 * l) &&& (63 ^^^ 2 ^ k))) l))), mk h co (sM (nt S n) 46 (pUp P (14 + 4 * l) (P (14 + 4 * l) &&& (63 ^^^ 2 ^ k))))) := by
  have b2 := hB.1
  have b3 := hB.2.1
  have hsd := (hB.2.2.2.1 l (by omega)).2.2.1
  have hpk := n_pow64 k (by omega)
  have hE2 := pE_nt hE n
  have hB2 := pB_said hB l (n_lt64 _ hsd _ hpk).2.2
  rw [fX8_unsay, eX8_unsay_0, gC_40, aOp_s, m_isLetter sa (d + 2) h co hE, aRI_mk, aOp_s, iL_nI (by omega) hl, if_neg bvn, gC_40, aOp_s, m_isWord sa (d + 2) h co hE, aRI_mk, aOp_s, iL_nI (by omega) hk, if_neg bvn, gR_40_13, aOp_s, ix2, pE_get hE h co (by omega), aOp_s, m_has sa (d + 3) (by omega) (by omega), aRI_mk, aOp_s, hb, if_neg bvn, gC_40, aOp_s, m_notes sa (d + 2) h co hA.1 hA.2.1, aRV_mk, aOp_s, gR_40_13, aOp_s, pE_get hE2 h co (by omega), aOp_s, n_shl1 k (by omega), n_andn _ (by omega) _ (by omega), pE_set hE2 h co (by omega), aOp_s, gR_40_13, aOp_s, m_weight sa (d + 1) h co (pE_sM hE.1 _) hB2 (by omega), aRI_mk, aOp_s]
theorem m_back_bad (sa : Nat → Nat) (d : Nat) (h : AH) (co : Nat) {S : ST} {P : PS} (hE : pE S 46 P) (x : Int32) (hb : iL x (P 3) = false) : AMC sa (d + 5) 149 [.ref (co + 40), .int x] (mk h co S) = some (some (.int (-1000001)), mk h co S) := by
  rw [fX8_back, eX8_back_0, gC_40, aOp_s, m_isLetter sa (d + 2) h co hE, aRI_mk, aOp_s, hb, if_pos (show bv false = 0 from rfl)]
theorem m_back_state (sa : Nat → Nat) (d : Nat) (h : AH) (co : Nat) {S : ST} {P : PS} (hE : pE S 46 P) (hB : pB P) {l : Nat} (hl : l < P 3) (hb : P (15 + 4 * l) = 0) : AMC sa (d + 5) 149 [.ref (co + 40), .int (nI l)] (mk h co S) = some (some (.int (-1000002)), mk h co S) := by
  have b3 := hB.2.1
  rw [fX8_back, eX8_back_0, gC_40, aOp_s, m_isLetter sa (d + 2) h co hE, aRI_mk, aOp_s, iL_nI (by omega) hl, if_neg bvn, gR_40_13, aOp_s, ix3, pE_get hE h co (by omega), aOp_s, hb, if_pos (show nI 0 = 0 from rfl)]
theorem m_back_ok (sa : Nat → Nat) (d : Nat) (h : AH) (co : Nat) {S : ST} {P : PS} {A : Nat → PS} {n : Nat} (hE : pE S 46 P) (hB : pB P) (hA : aP S A n) {l : Nat} (hl : l < P 3) (hb : P (15 + 4 * l) = 1) : AMC sa (d + 5) 149 [.ref (co + 40), .int (nI l)] (mk h co S) = some (some (.int (nI (pW (pUp P (15 + 4 * l) 0) l))), mk h co (sM (nt S n) 46 (pUp P (15 + 4 * l) 0))) := by
  have b3 := hB.2.1
  have hE2 := pE_nt hE n
  rw [fX8_back, eX8_back_0, gC_40, aOp_s, m_isLetter sa (d + 2) h co hE, aRI_mk, aOp_s, iL_nI (by omega) hl, if_neg bvn, gR_40_13, aOp_s, ix3, pE_get hE h co (by omega), aOp_s, hb, if_neg (show ¬ nI 1 = 0 by decide), gC_40, aOp_s, m_notes sa (d + 2) h co hA.1 hA.2.1, aRV_mk, aOp_s, gR_40_13, aOp_s, show (0 : Int32) = nI 0 from rfl, pE_set hE2 h co (by omega), aOp_s, gR_40_13, aOp_s, m_weight sa (d + 1) h co (pE_sM hE.1 _) (pB_sent hB l (by decide)) (by omega), aRI_mk, aOp_s]
theorem m_sets (sa : Nat → Nat) (d : Nat) (h : AH) (co : Nat) {S : ST} {P : PS} {A : Nat → PS} {n : Nat} (hE : pE S 46 P) (hA : aP S A n) {w x : Nat} (hw : w < 40) : AMC sa (d + 3) 150 [.ref (co + 40), .int (nI w), .int (nI x)] (mk h co S) = some (some (.int (nI (P w))), mk h co (sM (nt S n) 46 (pUp P w x))) := by
  have hE2 := pE_nt hE n
  rw [fX8_sets, eX8_sets_0, gC_40, aOp_s, m_notes sa d h co hA.1 hA.2.1, aRV_mk, aOp_s, gR_40_13, aOp_s, pE_get hE2 h co hw, aOp_s, aOp_s, pE_set hE2 h co hw, aOp_s]
theorem m_undo_no (sa : Nat → Nat) (d : Nat) (h : AH) (co : Nat) {S : ST} {A : Nat → PS} (hA : aP S A 0) : AMC sa (d + 5) 153 [.ref (co + 40)] (mk h co S) = some (some (.int (-1000002)), mk h co S) := by
  rw [fX8_undo, eX8_undo_0, gI_40_17, aOp_s, hA.1, if_pos (show nI 0 = 0 from rfl)]
theorem m_undo_ok (sa : Nat → Nat) (d : Nat) (h : AH) (co : Nat) {S : ST} {A : Nat → PS} {n : Nat} (hA : aP S A (n + 1)) : AMC sa (d + 5) 153 [.ref (co + 40)] (mk h co S) = some (some (.int (nI n)), mk h co (sM (sI S 40 17 (nI n)) 46 (A n))) := by
  obtain ⟨h1, h2, h3⟩ := hA
  rw [fX8_undo, eX8_undo_0, gI_40_17, aOp_s, h1, if_neg (nI_ne0 (by omega) (by omega)), aOp_s, nI_pred, gP_40_17, aOp_s, gR_40_16, aOp_s, gI_40_17, aOp_s, sI_at, gR_40_13, aOp_s, show (40 : Int32) * nI n = nI (40 * n) from pk_mul 40 n, show (0 : Int32) = nI 0 from rfl, m_copies sa (d + 3) h co _ (by decide) (by decide) rfl (by decide) (by decide) rfl (by decide) (by show 40 * n + 40 ≤ 960; omega) (by decide) (by decide) (by decide), aRV_mk, aOp_s, gI_40_17, aOp_s, sA_I, sI_at]
  congr 3
  unfold sM
  congr 1
  funext j
  unfold va_cpy
  by_cases hj : j < 40
  · rw [if_pos (by omega), if_pos hj, Nat.sub_zero]
    exact h3 n (by omega) j hj
  · rw [if_neg (by omega), if_neg hj]
