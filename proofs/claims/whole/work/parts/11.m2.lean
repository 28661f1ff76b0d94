/-! ===== the reference: the word that is blurted, a day ===== -/
def pBe (P : PS) (most : Bool) (b k : Nat) : Bool := cond most (decide (P (6 + b) < P (6 + k))) (decide (P (6 + k) < P (6 + b)))
def pBst (P : PS) (set : Nat) (most : Bool) : Nat → Option Nat
  | 0 => none
  | k + 1 => match pBst P set most k with
    | none => cond (set.testBit k) (some k) none
    | some b => cond (set.testBit k && pBe P most b k) (some k) (some b)
def pOne (P : PS) (set : Nat) (most : Bool) : Nat := match pBst P set most (P 2) with
  | none => 0
  | some b => 2 ^ b
theorem pBst_lt (P : PS) (set : Nat) (most : Bool) : ∀ k b, pBst P set most k = some b → b < k
  | 0, b, h => by cases h
  | k + 1, b, h => by
    have ih := pBst_lt P set most k
    simp only [pBst] at h
    cases e : pBst P set most k with
    | none =>
      rw [e] at h
      cases ht : set.testBit k <;> simp [ht] at h
      omega
    | some b' =>
      rw [e] at h
      have := ih _ e
      cases ht : (set.testBit k && pBe P most b' k) <;> simp only [ht, cond_true, cond_false, Option.some.injEq] at h <;> omega
def bI (b : Option Nat) : Int32 := match b with
  | none => -1000000
  | some b => nI b
theorem n_neN {b : Nat} (h : b < 1000000) : ¬ nI b = -1000000 := by
  intro z
  have h1 : (nI b).toInt = (b : Int) := nI_toInt (by omega)
  rw [z] at h1
  have h2 : (-1000000 : Int32).toInt = -1000000 := by decide
  omega
theorem m_oneOf (sa : Nat → Nat) (d : Nat) (h : AH) (co : Nat) {S : ST} {c : Nat} {P : PS} (hE : pE S c P) (hB : pB P) {set : Nat} (hs : set < 128) (most : Bool) : AMC sa (d + 2) 141 [.ref (co + c), .int (nI set), .int (bv most)] (mk h co S) = some (some (.int (nI (pOne P set most))), mk h co S) := by
  have h6 := hB.1
  have oz : ∀ k, k < 6 → P (6 + k) < 2 ^ 31 := fun k hk => by have := hB.2.2.1 k hk; omega
  have next : ∀ (k : Nat) (x5 : Value) (s0 : Bool) (b : Option Nat), k < 6 → AMV sa (d + 1) 141 64 [.ref (co + c), .int (nI set), .int (bv most), .int (bI b), .int (nI k), x5] [.int (bv s0)] (mk h co S) = AMV sa (d + 1) 141 6 [.ref (co + c), .int (nI set), .int (bv most), .int (bI (cond (set.testBit k && s0) (some k) b)), .int (nI (k + 1)), .int (bv s0)] [] (mk h co S) := by
    intro k x5 s0 b hk
    rw [eX8_oneOf_64, m_has sa d hs (by omega), aRI_mk, aOp_s]
    cases hb : set.testBit k with
    | true =>
      rw [if_neg (show ¬ (bv true = 0) by decide)]
      cases s0 with
      | true => rw [if_neg (show ¬ (bv true = 0) by decide), eX8_oneOf_86, nI_1]; rfl
      | false => rw [if_pos (show bv false = 0 from rfl), eX8_oneOf_86, nI_1]; rfl
    | false => rw [if_pos (show bv false = 0 from rfl), eX8_oneOf_86, nI_1]; rfl
  have g2 : aIL (mk h co S) (co + c) 2 = some (nI (P 2)) := pE_get hE h co (j := 2) (by decide)
  have loop : ∀ m k x5, k + m = P 2 → AMV sa (d + 1) 141 6 [.ref (co + c), .int (nI set), .int (bv most), .int (bI (pBst P set most k)), .int (nI k), x5] [] (mk h co S) = some (some (.int (nI (pOne P set most))), mk h co S) := by
    intro m
    induction m with
    | zero =>
      intro k x5 hk
      have hk : k = P 2 := hk
      rw [eX8_oneOf_6, g2, aOp_s, if_pos (nI_le (by omega) (by omega))]
      unfold pOne
      rw [← hk]
      cases e : pBst P set most k with
      | none => rw [if_pos (show bI none = -1000000 from rfl)]; rfl
      | some b =>
        have hb := pBst_lt P set most _ _ e
        rw [if_neg (show ¬ bI (some b) = -1000000 from n_neN (by omega)), show bI (some b) = nI b from rfl, n_shl1 b (by omega)]
    | succ m ih =>
      intro k x5 hk
      rw [eX8_oneOf_6, g2, aOp_s, if_neg (nI_ge (by omega) (by omega))]
      cases e : pBst P set most k with
      | none =>
        rw [if_pos (show bI none = -1000000 from rfl), show (1 : Int32) = bv true from rfl, next k x5 true none (by omega)]
        have e2 : pBst P set most (k + 1) = cond (set.testBit k && true) (some k) none := by
          simp only [pBst, e, Bool.and_true]
        rw [← e2]
        exact ih (k + 1) _ (by omega)
      | some b =>
        have hb := pBst_lt P set most _ _ e
        rw [if_neg (show ¬ bI (some b) = -1000000 from n_neN (by omega))]
        have fin : ∀ s0 : Bool, s0 = pBe P most b k → AMV sa (d + 1) 141 64 [.ref (co + c), .int (nI set), .int (bv most), .int (bI (some b)), .int (nI k), x5] [.int (bv s0)] (mk h co S) = some (some (.int (nI (pOne P set most))), mk h co S) := by
          intro s0 hs0
          rw [next k x5 s0 (some b) (by omega)]
          have e2 : pBst P set most (k + 1) = cond (set.testBit k && s0) (some k) (some b) := by
            simp only [pBst, e, hs0]
          rw [← e2]
          exact ih (k + 1) _ (by omega)
        have gk := pE_get hE h co (j := 6 + k) (by omega)
        have gb := pE_get hE h co (j := 6 + b) (by omega)
        rw [show bI (some b) = nI b from rfl, ix6, ix6, gk, gb]
        cases most with
        | true =>
          rw [if_neg (show ¬ bv true = 0 by decide), aOp_s, aOp_s]
          by_cases hc : P (6 + k) ≤ P (6 + b)
          · rw [if_pos (nI_le hc (oz b (by omega)))]
            exact fin false (by simp only [pBe, cond_true]; exact (decide_eq_false (by omega)).symm)
          · rw [if_neg (fun z => hc ((nI_leI (oz k (by omega)) (oz b (by omega))).mp z))]
            exact fin true (by simp only [pBe, cond_true]; exact (decide_eq_true (by omega)).symm)
        | false =>
          rw [if_pos (show bv false = 0 from rfl), aOp_s, aOp_s]
          by_cases hc : P (6 + b) ≤ P (6 + k)
          · rw [if_pos (nI_le hc (oz k (by omega)))]
            exact fin false (by simp only [pBe, cond_false]; exact (decide_eq_false (by omega)).symm)
          · rw [if_neg (fun z => hc ((nI_leI (oz b (by omega)) (oz k (by omega))).mp z))]
            exact fin true (by simp only [pBe, cond_false]; exact (decide_eq_true (by omega)).symm)
  rw [fX8_oneOf, eX8_oneOf_0]
  exact loop (P 2) 0 _ (by omega)
theorem pOne_lt {P : PS} (hB : pB P) (set : Nat) (most : Bool) : pOne P set most < 64 := by
  unfold pOne
  split
  · decide
  · rename_i b e
    have := pBst_lt P set most _ _ e
    have h6 := hB.1
    have hb : b < 6 := by omega
    exact (show ∀ b, b < 6 → 2 ^ b < 64 by decide) b hb
def pBl (P : PS) (l : Nat) : Nat := if pW P l ≤ P 1 then 0 else match P (12 + 4 * l) with
  | 1 => pOne P (pU P l) true
  | 2 => pOne P (pU P l) false
  | 3 => if P 4 % 2 = 0 then pOne P (pU P l) true else 0
  | 4 => 0
  | _ => pU P l
theorem pBl_lt {P : PS} (hB : pB P) {l : Nat} (hl : l < 7) : pBl P l < 64 := by
  unfold pBl
  split
  · decide
  · split
    · exact pOne_lt hB _ _
    · exact pOne_lt hB _ _
    · split
      · exact pOne_lt hB _ _
      · decide
    · decide
    · exact pU_lt hB hl
theorem m_blurts (sa : Nat → Nat) (d : Nat) (h : AH) (co : Nat) {S : ST} {c : Nat} {P : PS} (hE : pE S c P) (hB : pB P) {l : Nat} (hl : l < 7) : AMC sa (d + 4) 142 [.ref (co + c), .int (nI l)] (mk h co S) = some (some (.int (nI (pBl P l))), mk h co S) := by
  have hk5 := (hB.2.2.2.1 l hl).1
  have hu := pU_lt hB hl
  have h1 : P 1 ≤ 60 := hB.2.2.2.2.2.1
  have h4 : P 4 ≤ 100000 := hB.2.2.2.2.2.2.1
  have hw : pW P l ≤ 108 := pWB_le hB l _
  have o1 := m_oneOf sa (d + 1) h co hE hB (set := pU P l) (by omega) true
  have o2 := m_oneOf sa (d + 1) h co hE hB (set := pU P l) (by omega) false
  rw [bv_t] at o1
  rw [bv_f] at o2
  rw [fX8_blurts, eX8_blurts_0, m_unsaid sa (d + 2) h co hE hB hl, aRI_mk, aOp_s, m_weight sa d h co hE hB hl, aRI_mk, aOp_s, show aIL (mk h co S) (co + c) 1 = some (nI (P 1)) from pE_get hE h co (j := 1) (by decide), aOp_s]
  by_cases hc : pW P l ≤ P 1
  · rw [if_neg (nI_nlt hc (by omega)), show pBl P l = 0 from if_pos hc]; rfl
  · rw [if_pos (nI_lt (by omega) (by omega)), ix0, pE_get hE h co (by omega), aOp_s]
    have hv : P (12 + 4 * l) = 1 ∨ P (12 + 4 * l) = 2 ∨ P (12 + 4 * l) = 3 ∨ P (12 + 4 * l) = 4 ∨ P (12 + 4 * l) = 0 ∨ P (12 + 4 * l) = 5 := by omega
    rcases hv with e | e | e | e | e | e
    · have hp : pBl P l = pOne P (pU P l) true := by unfold pBl; rw [if_neg hc, e]; rfl
      rw [hp, e, if_pos (show nI 1 = 1 from rfl), o1, aRI_mk, aOp_s]
    · have hp : pBl P l = pOne P (pU P l) false := by unfold pBl; rw [if_neg hc, e]; rfl
      rw [hp, e, if_neg (by decide), if_pos (show nI 2 = 2 from rfl), o2, aRI_mk, aOp_s]
    · have hp : pBl P l = if P 4 % 2 = 0 then pOne P (pU P l) true else 0 := by unfold pBl; rw [if_neg hc, e]; rfl
      rw [hp, e, if_neg (by decide), if_neg (by decide), if_pos (show nI 3 = 3 from rfl), show aIL (mk h co S) (co + c) 4 = some (nI (P 4)) from pE_get hE h co (j := 4) (by decide), aOp_s]
      have hr : nI (P 4) - nI (P 4) / 2 * 2 = nI (P 4 % 2) := pk_rem (a := P 4) (d := 2) (by omega) (by decide) (by decide)
      rw [hr]
      by_cases hz : P 4 % 2 = 0
      · rw [if_pos (show nI (P 4 % 2) = 0 by rw [hz]; rfl), o1, aRI_mk, aOp_s, if_pos hz]
      · rw [if_neg (nI_ne0 (by omega) (by omega)), if_neg hz]; rfl
    · have hp : pBl P l = 0 := by unfold pBl; rw [if_neg hc, e]; rfl
      rw [hp, e, if_neg (by decide), if_neg (by decide), if_neg (by decide), if_pos (show nI 4 = 4 from rfl)]; rfl
    · have hp : pBl P l = pU P l := by unfold pBl; rw [if_neg hc, e]; rfl
      rw [hp, e, if_neg (by decide), if_neg (by decide), if_neg (by decide), if_neg (by decide)]
    · have hp : pBl P l = pU P l := by unfold pBl; rw [if_neg hc, e]; rfl
      rw [hp, e, if_neg (by decide), if_neg (by decide), if_neg (by decide), if_neg (by decide)]
