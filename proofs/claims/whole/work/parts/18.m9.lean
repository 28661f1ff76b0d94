/-! ===== the reference: load, share, fits ===== -/
theorem n_andn7 : ∀ a, a < 128 → ∀ b, b < 128 → nI a &&& (nI b ^^^ (-1)) = nI (a &&& (127 ^^^ b)) := by decide +kernel
def pSm (P : PS) (f : Nat → Bool) : Nat → Nat
  | 0 => 0
  | k + 1 => pSm P f k + cond (f k) (pW P k) 0
def pOp (P : PS) : Nat := (2 ^ P 3 - 1) &&& (127 ^^^ pSn P (P 3))
def ldB (P : PS) (w n : Nat) (z : Nat × Nat) : Bool := decide (n &&& (127 ^^^ pOp P) = 0) && decide (pSm P n.testBit (P 3) ≤ w) && decide (z.2 < pSm P n.testBit (P 3) ∨ (pSm P n.testBit (P 3) = z.2 ∧ pC z.1 < pC n))
def pLd (P : PS) (w : Nat) : Nat → Nat × Nat
  | 0 => (0, 0)
  | n + 1 => cond (ldB P w n (pLd P w n)) (n, pSm P n.testBit (P 3)) (pLd P w n)
theorem pSm_le {P : PS} (hB : pB P) (f : Nat → Bool) : ∀ k, pSm P f k ≤ 108 * k
  | 0 => Nat.le_refl _
  | k + 1 => by
    have := pSm_le hB f k
    have h2 : pW P k ≤ 108 := pWB_le hB k _
    simp only [pSm]
    cases f k <;> simp <;> omega
theorem pOp_lt {P : PS} (hB : pB P) : pOp P < 128 := Nat.lt_of_le_of_lt Nat.and_le_left ((show ∀ k, k ≤ 7 → 2 ^ k - 1 < 128 by decide) _ hB.2.1)
theorem pLd_lt {P : PS} (hB : pB P) (w : Nat) : ∀ n, (pLd P w n).1 ≤ n ∧ (pLd P w n).2 ≤ 756
  | 0 => ⟨Nat.le_refl _, Nat.zero_le _⟩
  | n + 1 => by
    have ih := pLd_lt hB w n
    have h2 := pSm_le hB n.testBit (P 3)
    have h3 := hB.2.1
    simp only [pLd]
    cases ldB P w n (pLd P w n)
    · simp only [cond_false]; omega
    · simp only [cond_true]; omega
theorem m_waiting (sa : Nat → Nat) (d : Nat) (h : AH) (co : Nat) {S : ST} {P : PS} (hE : pE S 46 P) (hB : pB P) : AMC sa (d + 2) 162 [.ref (co + 40)] (mk h co S) = some (some (.int (nI (pOp P))), mk h co S) := by
  have b3 := hB.2.1
  have h1 := pSn_lt hB (P 3) b3
  have h2 := pow7 (P 3) b3
  have h3 := (show ∀ k, k ≤ 7 → 2 ^ k - 1 < 128 by decide) _ hB.2.1
  rw [fX8_waiting, eX8_waiting_0, gR_40_13, aOp_s, show aIL (mk h co S) (co + 46) 3 = some (nI (P 3)) from pE_get hE h co (j := 3) (by decide), aOp_s, aOp_s, m_sentOf sa d h co hE hB, aRI_mk, aOp_s]
  have e : (1 : Int32) <<< (nI (P 3) &&& 31) = nI (2 ^ P 3) := (show ∀ k, k ≤ 7 → (1 : Int32) <<< (nI k &&& 31) = nI (2 ^ k) by decide +kernel) _ b3
  dsimp only
  rw [e, show nI (2 ^ P 3) - 1 = nI (2 ^ P 3 - 1) from pk_sub (b := 1) Nat.one_le_two_pow, n_andn7 _ h3 _ (by omega)]
  rfl
theorem m_load_sum (sa : Nat → Nat) (d : Nat) (h : AH) (co : Nat) {S : ST} {P : PS} (hE : pE S 46 P) (hB : pB P) {s : Nat} (hs : s < 128) (x1 x2 x3 x4 x5 : Int32) : ∀ m k, k + m = P 3 → AMV sa (d + 3) 163 58 [.ref (co + 40), .int x1, .int x2, .int x3, .int x4, .int x5, .int (nI s), .int (nI (pSm P s.testBit k)), .int (nI k)] [] (mk h co S) = AMV sa (d + 3) 163 58 [.ref (co + 40), .int x1, .int x2, .int x3, .int x4, .int x5, .int (nI s), .int (nI (pSm P s.testBit (P 3))), .int (nI (P 3))] [] (mk h co S) := by
  have b3 := hB.2.1
  intro m
  induction m with
  | zero =>
    intro k hk
    have hk : k = P 3 := hk
    rw [hk]
  | succ m ih =>
    intro k hk
    rw [← ih (k + 1) (by omega), eX8_load_58, gR_40_13, aOp_s, show aIL (mk h co S) (co + 46) 3 = some (nI (P 3)) from pE_get hE h co (j := 3) (by decide), aOp_s, if_neg (nI_ge (by omega) (by omega)), m_has sa (d + 2) hs (by omega), aRI_mk, aOp_s]
    have e1 : pSm P s.testBit (k + 1) = pSm P s.testBit k + cond (s.testBit k) (pW P k) 0 := rfl
    cases hb : s.testBit k with
    | false =>
      rw [hb] at e1
      rw [if_pos bvf, eX8_load_94, show (0 : Int32) = nI 0 from rfl, nI_add, nI_1, e1]
      rfl
    | true =>
      rw [hb] at e1
      rw [if_neg bvn, gR_40_13, aOp_s, m_weight sa d h co hE hB (by omega), aRI_mk, aOp_s, eX8_load_94, nI_add, nI_1, e1]
      rfl
theorem m_load_loop (sa : Nat → Nat) (d : Nat) (h : AH) (co : Nat) {S : ST} {P : PS} (hE : pE S 46 P) (hB : pB P) {w what : Nat} (hw : w < 100) (hq : what < 2) : ∀ m k x7 x8, k + m = pOp P + 1 → AMV sa (d + 3) 163 46 [.ref (co + 40), .int (nI w), .int (nI what), .int (nI (pOp P)), .int (nI (pLd P w k).1), .int (nI (pLd P w k).2), .int (nI k), x7, x8] [] (mk h co S) = some (some (.int (nI (if what = 0 then (pLd P w (pOp P + 1)).1 else (pLd P w (pOp P + 1)).2))), mk h co S) := by
  have b3 := hB.2.1
  have ho := pOp_lt hB
  intro m
  induction m with
  | zero =>
    intro k x7 x8 hk
    have hk : k = pOp P + 1 := hk
    rw [eX8_load_46, if_pos (nI_lt (by omega) (by omega)), hk]
    by_cases h1 : what = 0
    · rw [if_pos (show nI what = 0 by rw [h1]; rfl), if_pos h1]
    · rw [if_neg (nI_ne0 (by omega) (by omega)), if_neg h1]
  | succ m ih =>
    intro k x7 x8 hk
    have hsm := pSm_le hB k.testBit (P 3)
    have hld := pLd_lt hB w k
    rw [eX8_load_46, if_neg (nI_nlt (by omega) (by omega)), show (0 : Int32) = nI (pSm P k.testBit 0) from rfl]
    rw [show nI (pSm P k.testBit 0) = nI 0 from rfl]
    have := m_load_sum sa d h co hE hB (s := k) (by omega) (nI w) (nI what) (nI (pOp P)) (nI (pLd P w k).1) (nI (pLd P w k).2) (P 3) 0 (by omega)
    rw [show pSm P k.testBit 0 = 0 from rfl] at this
    rw [this]
    have hn : (k &&& (127 ^^^ pOp P)) ≤ k := Nat.and_le_left
    have fin : ∀ s0 : Bool, s0 = decide ((pLd P w k).2 < pSm P k.testBit (P 3) ∨ (pSm P k.testBit (P 3) = (pLd P w k).2 ∧ pC (pLd P w k).1 < pC k)) → AMV sa (d + 3) 163 135 [.ref (co + 40), .int (nI w), .int (nI what), .int (nI (pOp P)), .int (nI (pLd P w k).1), .int (nI (pLd P w k).2), .int (nI k), .int (nI (pSm P k.testBit (P 3))), .int (nI (P 3))] [.int (bv s0)] (mk h co S) = some (some (.int (nI (if what = 0 then (pLd P w (pOp P + 1)).1 else (pLd P w (pOp P + 1)).2))), mk h co S) := by
      intro s0 hs0
      have e1 : pLd P w (k + 1) = cond (ldB P w k (pLd P w k)) (k, pSm P k.testBit (P 3)) (pLd P w k) := rfl
      have ihk := ih (k + 1) (.int (nI (pSm P k.testBit (P 3)))) (.int (bv s0)) (by omega)
      rw [e1] at ihk
      unfold ldB at ihk
      rw [← hs0] at ihk
      rw [eX8_load_135, n_andn7 _ (by omega) _ ho]
      by_cases hz : k &&& (127 ^^^ pOp P) = 0
      · rw [decide_eq_true hz, Bool.true_and] at ihk
        rw [if_pos (show nI (k &&& (127 ^^^ pOp P)) = 0 by rw [hz]; rfl)]
        by_cases hc : pSm P k.testBit (P 3) ≤ w
        · rw [decide_eq_true hc, Bool.true_and] at ihk
          rw [if_neg (nI_nlt hc (by omega))]
          cases s0 with
          | false => rw [if_pos bvf, nI_1]; exact ihk
          | true => rw [if_neg bvn, nI_1]; exact ihk
        · rw [decide_eq_false hc] at ihk
          rw [if_pos (nI_lt (by omega) (by omega)), nI_1]
          exact ihk
      · rw [decide_eq_false hz] at ihk
        rw [if_neg (nI_ne0 (by omega) (by omega)), nI_1]
        exact ihk
    rw [eX8_load_58, gR_40_13, aOp_s, show aIL (mk h co S) (co + 46) 3 = some (nI (P 3)) from pE_get hE h co (j := 3) (by decide), aOp_s, if_pos (nI_le (Nat.le_refl _) (by omega))]
    by_cases h1 : (pLd P w k).2 < pSm P k.testBit (P 3)
    · rw [if_pos (nI_lt h1 (by omega))]
      exact fin true (decide_eq_true (Or.inl h1)).symm
    · rw [if_neg (nI_nlt (by omega) (by omega))]
      by_cases h2 : pSm P k.testBit (P 3) = (pLd P w k).2
      · have c1 := pC_le k (by omega)
        have c2 := pC_le (pLd P w k).1 (by omega)
        rw [if_pos (by rw [h2]), m_ones sa (d + 2) (by omega), aRI_mk, aOp_s, m_ones sa (d + 2) (by omega), aRI_mk, aOp_s]
        by_cases h3 : pC k ≤ pC (pLd P w k).1
        · rw [if_pos (nI_le h3 (by omega))]
          exact fin false (decide_eq_false (by omega)).symm
        · rw [if_neg (nI_ge (by omega) (by omega))]
          exact fin true (decide_eq_true (Or.inr ⟨h2, by omega⟩)).symm
      · rw [if_neg (fun z => h2 ((nI_eq (by omega) (by omega)).mp z))]
        exact fin false (decide_eq_false (by omega)).symm
theorem m_load_ok (sa : Nat → Nat) (d : Nat) (h : AH) (co : Nat) {S : ST} {P : PS} (hE : pE S 46 P) (hB : pB P) {w what : Nat} (hz : 0 < P 3) (hw : w < 100) (hq : what < 2) : AMC sa (d + 4) 163 [.ref (co + 40), .int (nI w), .int (nI what)] (mk h co S) = some (some (.int (nI (if what = 0 then (pLd P w (pOp P + 1)).1 else (pLd P w (pOp P + 1)).2))), mk h co S) := by
  rw [fX8_load, eX8_load_0, gC_40, aOp_s, m_isPost sa (d + 2) h co hE hB, aRI_mk, aOp_s, show decide (0 < P 3) = true from decide_eq_true hz, if_neg bvn, m_in, aRI_mk, aOp_s, show decide ((0 : Int32) ≤ nI w ∧ nI w ≤ 99) = iL (nI w) 100 from rfl, iL_nI (by decide) hw, if_neg bvn, m_in, aRI_mk, aOp_s, show decide ((0 : Int32) ≤ nI what ∧ nI what ≤ 1) = iL (nI what) 2 from rfl, iL_nI (by decide) hq, if_neg bvn, gC_40, aOp_s, m_waiting sa (d + 1) h co hE hB, aRI_mk, aOp_s]
  exact m_load_loop sa d h co hE hB hw hq (pOp P + 1) 0 .null .null (by omega)
theorem m_load_no (sa : Nat → Nat) (d : Nat) (h : AH) (co : Nat) {S : ST} {P : PS} (hE : pE S 46 P) (hB : pB P) (x y : Int32) (hz : P 3 = 0) : AMC sa (d + 4) 163 [.ref (co + 40), .int x, .int y] (mk h co S) = some (some (.int (-1000002)), mk h co S) := by
  rw [fX8_load, eX8_load_0, gC_40, aOp_s, m_isPost sa (d + 2) h co hE hB, aRI_mk, aOp_s, show decide (0 < P 3) = false from decide_eq_false (by omega), if_pos bvf]
theorem m_load_bad (sa : Nat → Nat) (d : Nat) (h : AH) (co : Nat) {S : ST} {P : PS} (hE : pE S 46 P) (hB : pB P) (x y : Int32) (hz : 0 < P 3) (hb : (iL x 100 && iL y 2) = false) : AMC sa (d + 4) 163 [.ref (co + 40), .int x, .int y] (mk h co S) = some (some (.int (-1000001)), mk h co S) := by
  rw [fX8_load, eX8_load_0, gC_40, aOp_s, m_isPost sa (d + 2) h co hE hB, aRI_mk, aOp_s, show decide (0 < P 3) = true from decide_eq_true hz, if_neg bvn, m_in, aRI_mk, aOp_s, show decide ((0 : Int32) ≤ x ∧ x ≤ 99) = iL x 100 from rfl]
  cases h2 : iL x 100 with
  | false => rw [if_pos bvf]
  | true =>
    rw [h2, Bool.true_and] at hb
    rw [if_neg bvn, m_in, aRI_mk, aOp_s, show decide ((0 : Int32) ≤ y ∧ y ≤ 1) = iL y 2 from rfl, hb, if_pos bvf]
def pCl (P : PS) (l : Nat) : Nat := if P (15 + 4 * l) = 1 then 0 else pW P l
theorem pCl_le {P : PS} (hB : pB P) (l : Nat) : pCl P l ≤ 108 := by
  unfold pCl
  have : pW P l ≤ 108 := pWB_le hB l _
  split <;> omega
theorem m_claim (sa : Nat → Nat) (d : Nat) (h : AH) (co : Nat) {S : ST} {P : PS} (hE : pE S 46 P) (hB : pB P) {l : Nat} (hl : l < 7) : AMC sa (d + 4) 164 [.ref (co + 40), .int (nI l)] (mk h co S) = some (some (.int (nI (pCl P l))), mk h co S) := by
  have hse := (hB.2.2.2.1 l hl).2.2.2
  rw [fX8_claim, eX8_claim_0, gR_40_13, aOp_s, ix3, pE_get hE h co (by omega), aOp_s]
  unfold pCl
  by_cases h1 : P (15 + 4 * l) = 1
  · rw [if_pos (show nI (P (15 + 4 * l)) = 1 by rw [h1]; rfl), if_pos h1]; rfl
  · rw [if_neg (show ¬ nI (P (15 + 4 * l)) = 1 from fun z => h1 ((nI_eq (b := 1) (by omega) (by decide)).mp z)), if_neg h1, aOp_s, m_weight sa d h co hE hB hl, aRI_mk, aOp_s]
def pTo (P : PS) : Nat → Nat
  | 0 => 0
  | k + 1 => pTo P k + pCl P k
theorem pTo_le {P : PS} (hB : pB P) : ∀ k, pTo P k ≤ 108 * k
  | 0 => Nat.le_refl _
  | k + 1 => by have := pTo_le hB k; have := pCl_le hB k; simp only [pTo]; omega
theorem pTo_ge (P : PS) (l : Nat) : ∀ k, l < k → pCl P l ≤ pTo P k
  | 0, h => by omega
  | k + 1, h => by
    simp only [pTo]
    by_cases e : l = k
    · rw [e]; omega
    · have := pTo_ge P l k (by omega); omega
def shO (P : PS) (n : Nat) : Nat → Int32
  | 0 => nI n
  | k + 1 => shO P n k - (nI n * nI (pCl P k)) / nI (pTo P (P 3))
def shF (P : PS) (l : Nat) : Nat → Int32
  | 0 => 0
  | k + 1 => shF P l k + (if k < l ∧ 0 < pCl P k then 1 else 0)
def pSh (P : PS) (l n : Nat) : Int32 := if pCl P l = 0 then 0 else (nI n * nI (pCl P l)) / nI (pTo P (P 3)) + (if shO P n (P 3) ≤ shF P l (P 3) then 0 else 1)
theorem m_share_ok (sa : Nat → Nat) (d : Nat) (h : AH) (co : Nat) {S : ST} {P : PS} (hE : pE S 46 P) (hB : pB P) {l n : Nat} (hl : l < P 3) (hn : n < 1000) : AMC sa (d + 5) 165 [.ref (co + 40), .int (nI l), .int (nI n)] (mk h co S) = some (some (.int (pSh P l n)), mk h co S) := by
  have b3 := hB.2.1
  have g3 : aIL (mk h co S) (co + 46) 3 = some (nI (P 3)) := pE_get hE h co (j := 3) (by decide)
  have ht := pTo_le hB (P 3)
  have hcl := pCl_le hB l
  have lp2 : pCl P l ≠ 0 → ∀ m k, k + m = P 3 → AMV sa (d + 4) 165 72 [.ref (co + 40), .int (nI l), .int (nI n), .int (nI (pTo P (P 3))), .int (shO P n k), .int (shF P l k), .int (nI k)] [] (mk h co S) = some (some (.int (pSh P l n)), mk h co S) := by
    intro hne m
    have ht0 : pTo P (P 3) ≠ 0 := by have := pTo_ge P l (P 3) hl; omega
    have ht1 : ¬ nI (pTo P (P 3)) = 0 := nI_ne0 (by omega) (by omega)
    induction m with
    | zero =>
      intro k hk
      have hk : k = P 3 := hk
      rw [eX8_share_72, gR_40_13, aOp_s, g3, aOp_s, if_pos (nI_le (by omega) (by omega)), gC_40, aOp_s, m_claim sa d h co hE hB (by omega), aRI_mk, aOp_s, if_neg ht1, hk]
      unfold pSh
      rw [if_neg hne]
      by_cases hc : shO P n (P 3) ≤ shF P l (P 3)
      · rw [if_pos hc, if_pos hc]
      · rw [if_neg hc, if_neg hc]
    | succ m ih =>
      intro k hk
      have hck := pCl_le hB k
      rw [eX8_share_72, gR_40_13, aOp_s, g3, aOp_s, if_neg (nI_ge (by omega) (by omega)), gC_40, aOp_s, m_claim sa d h co hE hB (by omega), aRI_mk, aOp_s, if_neg ht1]
      have fin : ∀ v : Int32, v = (if k < l ∧ 0 < pCl P k then 1 else 0) → AMV sa (d + 4) 165 120 [.ref (co + 40), .int (nI l), .int (nI n), .int (nI (pTo P (P 3))), .int (shO P n k - (nI n * nI (pCl P k)) / nI (pTo P (P 3))), .int (shF P l k), .int (nI k)] [.int v, .int (shF P l k)] (mk h co S) = some (some (.int (pSh P l n)), mk h co S) := by
        intro v hv
        rw [eX8_share_120, nI_1, hv]
        exact ih (k + 1) (by omega)
      by_cases hkl : k < l
      · rw [if_neg (nI_ge hkl (by omega)), gC_40, aOp_s, m_claim sa d h co hE hB (by omega), aRI_mk, aOp_s]
        by_cases hp : 0 < pCl P k
        · rw [if_neg (nI_nle hp (by omega))]
          exact fin 1 (if_pos ⟨hkl, hp⟩).symm
        · rw [if_pos (show nI (pCl P k) ≤ 0 from nI_le (b := 0) (by omega) (by decide))]
          exact fin 0 (if_neg (fun z => hp z.2)).symm
      · rw [if_pos (nI_le (by omega) (by omega))]
        exact fin 0 (if_neg (fun z => hkl z.1)).symm
  have lp1 : ∀ m k, k + m = P 3 → AMV sa (d + 4) 165 27 [.ref (co + 40), .int (nI l), .int (nI n), .int (nI (pTo P k)), .int (nI k), .null, .null] [] (mk h co S) = some (some (.int (pSh P l n)), mk h co S) := by
    intro m
    induction m with
    | zero =>
      intro k hk
      have hk : k = P 3 := hk
      rw [eX8_share_27, gR_40_13, aOp_s, g3, aOp_s, if_pos (nI_le (by omega) (by omega)), gC_40, aOp_s, m_claim sa d h co hE hB (by omega), aRI_mk, aOp_s, hk]
      by_cases hz : pCl P l = 0
      · rw [if_pos (show nI (pCl P l) = 0 by rw [hz]; rfl)]
        unfold pSh
        rw [if_pos hz]
      · rw [if_neg (nI_ne0 (by omega) (by omega))]
        exact lp2 hz (P 3) 0 (by omega)
    | succ m ih =>
      intro k hk
      rw [eX8_share_27, gR_40_13, aOp_s, g3, aOp_s, if_neg (nI_ge (by omega) (by omega)), gC_40, aOp_s, m_claim sa d h co hE hB (by omega), aRI_mk, aOp_s, nI_add, nI_1]
      exact ih (k + 1) (by omega)
  rw [fX8_share, eX8_share_0, gC_40, aOp_s, m_isLetter sa (d + 2) h co hE, aRI_mk, aOp_s, iL_nI (by omega) hl, if_neg bvn, m_in, aRI_mk, aOp_s, show decide ((0 : Int32) ≤ nI n ∧ nI n ≤ 999) = iL (nI n) 1000 from rfl, iL_nI (by decide) hn, if_neg bvn]
  exact lp1 (P 3) 0 (by omega)
theorem m_share_bad (sa : Nat → Nat) (d : Nat) (h : AH) (co : Nat) {S : ST} {P : PS} (hE : pE S 46 P) (x z : Int32) (hb : (iL x (P 3) && iL z 1000) = false) : AMC sa (d + 5) 165 [.ref (co + 40), .int x, .int z] (mk h co S) = some (some (.int (-1000001)), mk h co S) := by
  rw [fX8_share, eX8_share_0, gC_40, aOp_s, m_isLetter sa (d + 2) h co hE, aRI_mk, aOp_s]
  cases h1 : iL x (P 3) with
  | false => rw [if_pos bvf]
  | true =>
    rw [h1, Bool.true_and] at hb
    rw [if_neg bvn, m_in, aRI_mk, aOp_s, show decide ((0 : Int32) ≤ z ∧ z ≤ 999) = iL z 1000 from rfl, hb, if_pos bvf]
