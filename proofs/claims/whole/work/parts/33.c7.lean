/-! ===== the class: loads, shares ===== -/
theorem pSm_0 (P : PS) : ∀ k, pSm P (Nat.testBit 0) k = 0
  | 0 => rfl
  | k + 1 => by
    show pSm P (Nat.testBit 0) k + cond (Nat.testBit 0 k) (pW P k) 0 = 0
    rw [pSm_0 P k, Nat.zero_testBit]
    rfl
theorem pLd_1 (P : PS) (w : Nat) : pLd P w 1 = (0, 0) := by
  show cond (ldB P w 0 (0, 0)) (0, pSm P (Nat.testBit 0) (P 3)) (0, 0) = (0, 0)
  rw [pSm_0]
  cases ldB P w 0 (0, 0) <;> rfl
theorem pLd_sm (P : PS) (w : Nat) : ∀ n, (pLd P w n).2 = pSm P (pLd P w n).1.testBit (P 3)
  | 0 => (pSm_0 P (P 3)).symm
  | n + 1 => by
    show (cond (ldB P w n (pLd P w n)) (n, pSm P n.testBit (P 3)) (pLd P w n)).2 = pSm P (cond (ldB P w n (pLd P w n)) (n, pSm P n.testBit (P 3)) (pLd P w n)).1.testBit (P 3)
    cases ldB P w n (pLd P w n) with
    | true => rfl
    | false => exact pLd_sm P w n
theorem pLd_ext {P : PS} (hB : pB P) (w : Nat) : ∀ m, pOp P + 1 + m ≤ 128 → pLd P w (pOp P + 1 + m) = pLd P w (pOp P + 1)
  | 0, _ => rfl
  | m + 1, h => by
    have ih := pLd_ext hB w m (by omega)
    show cond (ldB P w (pOp P + 1 + m) (pLd P w (pOp P + 1 + m))) (pOp P + 1 + m, pSm P (pOp P + 1 + m).testBit (P 3)) (pLd P w (pOp P + 1 + m)) = _
    have : ldB P w (pOp P + 1 + m) (pLd P w (pOp P + 1 + m)) = false := by
      unfold ldB
      rw [decide_eq_false (fun z => by have := n_sub7 (pOp P + 1 + m) (by omega) (pOp P) (pOp_lt hB) z; omega), Bool.false_and, Bool.false_and]
    rw [this]
    exact ih
theorem c_bestLoad (sa : Nat → Nat) (d : Nat) {h : AH} {co : Nat} {S : ST} {P : PS} (hE : cE h co S 17 P) (hB : pB P) (hK : pK P) {w : Nat} (hw : w < 100) : AMC sa (d + 4) 40 [.ref (co + 32), .ref (co + 17), .int (nI w)] (mk h co S) = some (some (.int (nI (pLd P w (pOp P + 1)).1)), mk h co S) := by
  have h7 := hB.2.1
  have hp7 := pow7 _ h7
  have hsn := pSn_lt hB (P 3) h7
  have hpo : 1 ≤ 2 ^ P 3 := Nat.one_le_two_pow
  have hopl : pOp P ≤ 2 ^ P 3 - 1 := Nat.and_le_left
  have shl : (1 : Int32) <<< (nI (P 3) &&& 31) = nI (2 ^ P 3) := (show ∀ k, k ≤ 7 → (1 : Int32) <<< (nI k &&& 31) = nI (2 ^ k) by decide +kernel) _ h7
  have fin : ∀ m k x6 x7, k + m = 2 ^ P 3 → AMV sa (d + 3) 40 8 [.ref (co + 32), .ref (co + 17), .int (nI w), .int (nI (pLd P w k).1), .int (nI (pLd P w k).2), .int (nI k), x6, x7] [] (mk h co S) = some (some (.int (nI (pLd P w (2 ^ P 3)).1)), mk h co S) := by
    intro m
    induction m with
    | zero =>
      intro k x6 x7 hk
      have hk : k = 2 ^ P 3 := hk
      rw [eX4_bestLoad_8, hk]
      by_cases h128 : 2 ^ P 3 = 128
      · rw [if_pos (show (128 : Int32) ≤ nI (2 ^ P 3) by rw [h128]; decide)]
      · rw [if_neg (show ¬ (128 : Int32) ≤ nI (2 ^ P 3) from nI_ge (b := 128) (by omega) (by decide)), gI_17_4, aOp_s, hE.2.2.1, shl, if_pos (nI_le (Nat.le_refl _) (by omega))]
    | succ m ih =>
      intro k x6 x7 hk
      have hkl : k < 2 ^ P 3 := by omega
      obtain ⟨l1, l2⟩ := pLd_lt hB w k
      have ep : pLd P w (k + 1) = cond (ldB P w k (pLd P w k)) (k, pSm P k.testBit (P 3)) (pLd P w k) := rfl
      have egs : k &&& (127 ^^^ pOp P) = k &&& pSn P (P 3) := n_gs7 h7 hkl
      have hsm := pSm_le hB k.testBit (P 3)
      have hand : k &&& pSn P (P 3) < 128 := Nat.lt_of_le_of_lt Nat.and_le_left (by omega)
      have st82 : ∀ (s : Nat) (b : Bool), s < 1000 → (pLd P w (k + 1) = if s ≤ w ∧ b = true then (k, s) else pLd P w k) → AMV sa (d + 3) 40 82 [.ref (co + 32), .ref (co + 17), .int (nI w), .int (nI (pLd P w k).1), .int (nI (pLd P w k).2), .int (nI k), .int (nI s), x7] [.int (bv b)] (mk h co S) = some (some (.int (nI (pLd P w (2 ^ P 3)).1)), mk h co S) := by
        intro s b hs e
        have ihk := ih (k + 1) (.int (nI s)) (.int (bv b)) (by omega)
        rw [eX4_bestLoad_82]
        by_cases hc : s ≤ w
        · rw [if_neg (nI_nlt hc (by omega))]
          cases b with
          | false =>
            rw [if_pos bvf, nI_1]
            rw [e, if_neg (fun z => by cases z.2)] at ihk
            exact ihk
          | true =>
            rw [if_neg bvn, nI_1]
            rw [e, if_pos ⟨hc, rfl⟩] at ihk
            exact ihk
        · rw [if_pos (nI_lt (by omega) (by omega)), nI_1]
          rw [e, if_neg (fun z => hc z.1)] at ihk
          exact ihk
      have st49 : ∀ s, s < 1000 → (pLd P w (k + 1) = if s ≤ w ∧ ((pLd P w k).2 < s ∨ (s = (pLd P w k).2 ∧ pC (pLd P w k).1 < pC k)) then (k, s) else pLd P w k) → AMV sa (d + 3) 40 49 [.ref (co + 32), .ref (co + 17), .int (nI w), .int (nI (pLd P w k).1), .int (nI (pLd P w k).2), .int (nI k), x6, x7] [.int (nI s)] (mk h co S) = some (some (.int (nI (pLd P w (2 ^ P 3)).1)), mk h co S) := by
        intro s hs e
        have p1 := pC_le k (by omega)
        have p2 := pC_le (pLd P w k).1 (by omega)
        rw [eX4_bestLoad_49]
        by_cases hc : (pLd P w k).2 < s
        · rw [if_pos (nI_lt hc (by omega))]
          exact st82 s true hs (by rw [e]; congr 1; exact propext ⟨fun z => ⟨z.1, rfl⟩, fun z => ⟨z.1, Or.inl hc⟩⟩)
        · rw [if_neg (nI_nlt (by omega) (by omega))]
          by_cases he : s = (pLd P w k).2
          · rw [if_pos (by rw [he]), c_bits sa (d + 2) (show k < 128 by omega), aRI_mk, aOp_s, c_bits sa (d + 2) (show (pLd P w k).1 < 128 by omega), aRI_mk, aOp_s]
            by_cases hb : pC k ≤ pC (pLd P w k).1
            · rw [if_pos (nI_le hb (by omega))]
              exact st82 s false hs (by rw [e, if_neg (fun z => by rcases z.2 with z | z <;> omega), if_neg (fun z => by cases z.2)])
            · rw [if_neg (nI_ge (by omega) (by omega))]
              exact st82 s true hs (by rw [e]; congr 1; exact propext ⟨fun z => ⟨z.1, rfl⟩, fun z => ⟨z.1, Or.inr ⟨he, by omega⟩⟩⟩)
          · rw [if_neg (fun z => he ((nI_eq (by omega) (by omega)).mp z))]
            exact st82 s false hs (by rw [e, if_neg (fun z => by rcases z.2 with z | z <;> omega), if_neg (fun z => by cases z.2)])
      rw [eX4_bestLoad_8, if_neg (show ¬ (128 : Int32) ≤ nI k from nI_ge (b := 128) (by omega) (by decide)), gI_17_4, aOp_s, hE.2.2.1, shl, if_neg (nI_ge (by omega) (by omega)), gI_17_5, aOp_s, hE.2.2.2.1, n_and _ (by omega) _ (by omega)]
      by_cases hc : k &&& pSn P (P 3) = 0
      · rw [if_pos (show nI (k &&& pSn P (P 3)) = 0 by rw [hc]; rfl), gC_17, aOp_s, c_together sa d hE hB hK (f := k.testBit) (fun j hj => n_bit0 k (by omega) j hj), aRI_mk, aOp_s]
        refine st49 _ (by omega) ?_
        rw [ep]
        unfold ldB
        rw [egs, decide_eq_true hc, Bool.true_and]
        by_cases a1 : pSm P k.testBit (P 3) ≤ w
        · rw [decide_eq_true a1, Bool.true_and]
          by_cases a2 : (pLd P w k).2 < pSm P k.testBit (P 3) ∨ (pSm P k.testBit (P 3) = (pLd P w k).2 ∧ pC (pLd P w k).1 < pC k)
          · rw [decide_eq_true a2, if_pos ⟨a1, a2⟩]; rfl
          · rw [decide_eq_false a2, if_neg (fun z => a2 z.2)]; rfl
        · rw [decide_eq_false a1, Bool.false_and, if_neg (fun z => a1 z.1)]; rfl
      · rw [if_neg (nI_ne0 (by omega) (by omega)), nI_1]
        refine st49 _ (by omega) ?_
        rw [ep, if_neg (fun z => by have := z.1; omega)]
        unfold ldB
        rw [egs, decide_eq_false hc, Bool.false_and, Bool.false_and]
        rfl
  have e := pLd_ext hB w (2 ^ P 3 - 1 - pOp P) (by omega)
  rw [show pOp P + 1 + (2 ^ P 3 - 1 - pOp P) = 2 ^ P 3 by omega] at e
  rw [fX4_bestLoad, eX4_bestLoad_0, ← e]
  have := fin (2 ^ P 3 - 1) 1 .null .null (by omega)
  rw [pLd_1] at this
  exact this
theorem pSm_To {P : PS} (hB : pB P) : ∀ k, k ≤ P 3 → pSm P (fun j => !((pSn P (P 3)).testBit j)) k = pTo P k
  | 0, _ => rfl
  | k + 1, hk => by
    have h7 := hB.2.1
    have hv := (hB.2.2.2.1 k (by omega)).2.2.2
    show pSm P (fun j => !((pSn P (P 3)).testBit j)) k + cond (!((pSn P (P 3)).testBit k)) (pW P k) 0 = pTo P k + pCl P k
    rw [pSm_To hB k (by omega), pSn_tb hB k (P 3) h7]
    unfold pCl
    by_cases he : P (15 + 4 * k) = 1
    · rw [if_pos he, decide_eq_true ⟨by omega, he⟩]; rfl
    · rw [if_neg he, decide_eq_false (fun z => he z.2)]; rfl
theorem c_share (sa : Nat → Nat) (d : Nat) {h : AH} {co : Nat} {S : ST} {P : PS} (hE : cE h co S 17 P) (hB : pB P) (hK : pK P) {l n : Nat} (hl : l < P 3) (hn : n < 1000) : AMC sa (d + 4) 41 [.ref (co + 32), .ref (co + 17), .int (nI l), .int (nI n)] (mk h co S) = some (some (.int (pSh P l n)), mk h co S) := by
  have h7 := hB.2.1
  have hp7 := pow7 _ h7
  have hsn := pSn_lt hB (P 3) h7
  have hto := pTo_le hB (P 3)
  have hge := pTo_ge P l (P 3) hl
  have hcl := pCl_le hB l
  have hv := (hB.2.2.2.1 l (by omega)).2.2.2
  have e1 := c_together sa d hE hB hK (x := nI (pSn P (P 3)) ^^^ (-1)) (f := fun j => !((pSn P (P 3)).testBit j)) (fun j hj => n_bitc _ (by omega) j hj)
  rw [pSm_To hB (P 3) (Nat.le_refl _)] at e1
  rw [fX4_shareOf, eX4_shareOf_0, gI_17_5, aOp_s, hE.2.2.2.1, gC_17, aOp_s, e1, aRI_mk, aOp_s, gC_17, aOp_s, c_waits sa (d + 2) hE hB hl, aRI_mk, aOp_s]
  by_cases hz : P (15 + 4 * l) = 0
  · have ecl : pCl P l = pW P l := if_neg (by omega)
    rw [decide_eq_true hz, if_neg bvn]
    by_cases ht : pTo P (P 3) = 0
    · rw [if_pos (show nI (pTo P (P 3)) = 0 by rw [ht]; rfl)]
      unfold pSh
      rw [if_pos (by omega)]
    · rw [if_neg (nI_ne0 (by omega) (by omega))]
      have loop : ∀ m k x8, k + m = P 3 → AMV sa (d + 3) 41 36 [.ref (co + 32), .ref (co + 17), .int (nI l), .int (nI n), .int (nI (pTo P (P 3))), .int (shO P n k), .int (shF P l k), .int (nI k), x8] [] (mk h co S) = some (some (.int (pSh P l n)), mk h co S) := by
        intro m
        induction m with
        | zero =>
          intro k x8 hk
          have hk : k = P 3 := hk
          subst hk
          rw [eX4_shareOf_36, gI_17_4, aOp_s, hE.2.2.1, if_pos (nI_le (Nat.le_refl _) (by omega)), gC_17, aOp_s, c_weight sa (d + 1) hE hB hK hl, aRI_mk, aOp_s, if_neg (nI_ne0 (by omega) (by omega))]
          unfold pSh
          rw [ecl]
          by_cases h0 : pW P l = 0
          · rw [if_pos h0, if_pos (show nI (pW P l) ≤ 0 by rw [h0]; decide), h0, pk_mul, Nat.mul_zero, pk_div (by decide) (by omega) (by omega), Nat.zero_div]
            rfl
          · rw [if_neg h0, if_neg (nI_nle (by omega) (by omega))]
            by_cases hc : shO P n (P 3) ≤ shF P l (P 3)
            · rw [if_pos hc, if_pos hc]
            · rw [if_neg hc, if_neg hc]
        | succ m ih =>
          intro k x8 hk
          have eO : shO P n (k + 1) = shO P n k - (nI n * nI (pCl P k)) / nI (pTo P (P 3)) := rfl
          have eF : shF P l (k + 1) = shF P l k + (if k < l ∧ 0 < pCl P k then 1 else 0) := rfl
          have hck := pCl_le hB k
          have hvk := (hB.2.2.2.1 k (by omega)).2.2.2
          have st : AMV sa (d + 3) 41 64 [.ref (co + 32), .ref (co + 17), .int (nI l), .int (nI n), .int (nI (pTo P (P 3))), .int (shO P n k), .int (shF P l k), .int (nI k), x8] [.int (nI (pCl P k))] (mk h co S) = some (some (.int (pSh P l n)), mk h co S) := by
            have ihk := ih (k + 1) (.int (nI (pCl P k))) (by omega)
            rw [eO, eF] at ihk
            rw [eX4_shareOf_64, if_neg (nI_ne0 (by omega) (by omega))]
            by_cases hkl : l ≤ k
            · rw [if_pos (nI_le hkl (by omega)), nI_1]
              rw [if_neg (fun z => by omega), Int32.add_zero] at ihk
              exact ihk
            · rw [if_neg (nI_ge (by omega) (by omega))]
              by_cases h0 : pCl P k = 0
              · rw [if_pos (show nI (pCl P k) ≤ 0 by rw [h0]; decide), nI_1]
                rw [if_neg (fun z => by omega), Int32.add_zero] at ihk
                exact ihk
              · rw [if_neg (nI_nle (by omega) (by omega)), nI_1]
                rw [if_pos ⟨by omega, by omega⟩] at ihk
                exact ihk
          rw [eX4_shareOf_36, gI_17_4, aOp_s, hE.2.2.1, if_neg (nI_ge (by omega) (by omega)), gC_17, aOp_s, c_waits sa (d + 2) hE hB (by omega), aRI_mk, aOp_s]
          by_cases hzk : P (15 + 4 * k) = 0
          · have eck : pCl P k = pW P k := if_neg (by omega)
            rw [eck] at st
            rw [decide_eq_true hzk, if_neg bvn, gC_17, aOp_s, c_weight sa (d + 1) hE hB hK (by omega), aRI_mk, aOp_s]
            exact st
          · have eck : pCl P k = 0 := if_pos (by omega)
            rw [eck] at st
            rw [decide_eq_false hzk, if_pos bvf]
            exact st
      exact loop (P 3) 0 _ (by omega)
  · rw [decide_eq_false hz, if_pos bvf]
    unfold pSh pCl
    rw [if_pos (show P (15 + 4 * l) = 1 by omega), if_pos rfl]
/-! ===== the class: what fits ===== -/
theorem c_hear (sa : Nat → Nat) (d : Nat) (h : AH) (co : Nat) (S : ST) {r i n : Nat} (hn : n ≤ 12) (hi : 40 * r + i + n ≤ 320) : ∃ S' : ST, AMC sa (d + 2) 42 [.ref (co + 32), .ref (co + 6), .int (nI r), .int (nI i), .int (nI n)] (mk h co S) = some (none, mk h co S') ∧ S'.1 32 2 = nI n ∧ (∀ j, j < n → S'.2.2 37 j = S.2.2 9 (40 * r + i + j)) ∧ fr 32 38 S S' := by
  have loop : ∀ m k S1, k + m = n → S1.1 32 2 = nI n → (∀ j, j < k → S1.2.2 37 j = S.2.2 9 (40 * r + i + j)) → fr 32 38 S S1 → ∃ S' : ST, AMV sa (d + 1) 42 14 [.ref (co + 32), .ref (co + 6), .int (nI r), .int (nI i), .int (nI n), .int (nI k)] [] (mk h co S1) = some (none, mk h co S') ∧ S'.1 32 2 = nI n ∧ (∀ j, j < n → S'.2.2 37 j = S.2.2 9 (40 * r + i + j)) ∧ fr 32 38 S S' := by
    intro m
    induction m with
    | zero =>
      intro k S1 hk e1 e2 hf
      have hk : k = n := hk
      refine ⟨S1, ?_, e1, by rw [← hk]; exact e2, hf⟩
      rw [eX4_hear_14, gI_32_2, aOp_s, e1, if_pos (nI_le (by omega) (by omega))]
    | succ m ih =>
      intro k S1 hk e1 e2 hf
      obtain ⟨S', g1, g2⟩ := ih (k + 1) (sA S1 37 (upd (S1.2.2 37) k (S.2.2 9 (40 * r + i + k)))) (by omega) e1 (fun j hj => by
        rw [sA_at]
        by_cases e : j = k
        · rw [e, pk_us]
        · rw [pk_un e]; exact e2 j (by omega)) (fr_A hf (by decide) (by decide) _)
      refine ⟨S', ?_, g2⟩
      rw [eX4_hear_14, gI_32_2, aOp_s, e1, if_neg (nI_ge (by omega) (by omega)), gR_32_1, aOp_s, gC_6, aOp_s, nI_add, c_item sa d h co S1 (by omega), aRI_mk, aOp_s, gS_37 _ _ _ _ _ (aIn_nI (by omega) (by decide)), aOp_s, nI_clamp (by omega), nI_1, (hf 9 (by decide)).2.2, show 40 * r + (i + k) = 40 * r + i + k by omega]
      exact g1
  have mn : (if (12 : Int32) < nI n then 12 else nI n) = nI n := if_neg (show ¬ (12 : Int32) < nI n from nI_nlt (a := 12) (by omega) (by decide))
  obtain ⟨S', g1, g2⟩ := loop n 0 (sI S 32 2 (nI n)) (by omega) (sI_at _ _ _ _) (fun j hj => by omega) (fr_I (fr_refl _ _ _) (by decide) (by decide) _ _)
  refine ⟨S', ?_, g2⟩
  rw [fX4_hear, eX4_hear_0, mn, gP_32_2, aOp_s]
  exact g1
theorem fT_false {P : PS} {l : Nat} {f : Nat → Int32} {k : Nat} (h : fT P l f k = false) : ∀ m, fT P l f (k + m) = false
  | 0 => h
  | m + 1 => by
    show (fT P l f (k + m) && decide (nI (pW (pDays P (k + m + 1)) l) = f (k + m))) = false
    rw [fT_false h m, Bool.false_and]
theorem c_isAsTold (sa : Nat → Nat) (d : Nat) {h : AH} {co : Nat} {S : ST} {Q : PS} (hE : cE h co S 33 Q) (hB : pB Q) (hK : pK Q) {l n : Nat} (hl : l < Q 3) (hn : n ≤ 12) (h4 : Q 4 ≤ 10000) {f : Nat → Int32} (e1 : S.1 32 2 = nI n) (e2 : ∀ j, j < n → S.2.2 37 j = f j) : ∃ S' : ST, AMC sa (d + 5) 43 [.ref (co + 32), .int (nI l)] (mk h co S) = some (some (.int (bv (fT Q l f n))), mk h co S') ∧ fr 33 37 S S' := by
  have h7 := hB.2.1
  have loop : ∀ m k S1, k + m = n → cE h co S1 33 (pDays Q k) → fr 33 37 S S1 → fT Q l f k = true → ∃ S' : ST, AMV sa (d + 4) 43 2 [.ref (co + 32), .int (nI l), .int (nI k)] [] (mk h co S1) = some (some (.int (bv (fT Q l f n))), mk h co S') ∧ fr 33 37 S S' := by
    intro m
    induction m with
    | zero =>
      intro k S1 hk hE1 hf ht
      have hk : k = n := hk
      refine ⟨S1, ?_, hf⟩
      rw [eX4_isAsTold_2, gI_32_2, aOp_s, (hf 32 (by decide)).1, e1, if_pos (nI_le (by omega) (by omega)), ← hk, ht]
      rfl
    | succ m ih =>
      intro k S1 hk hE1 hf ht
      obtain ⟨zB, z4⟩ := pDays_B hB k (by omega)
      obtain ⟨yB, y4⟩ := pDays_B hB (k + 1) (by omega)
      have y3 := pDays_3 hB (n := k + 1) (by omega)
      obtain ⟨S2, b, g1, g2, g3, -⟩ := c_passDay sa d hE1 zB (pK_days hK hB k (by omega))
      have hf2 := fr_trans hf g3
      have hwl : pW (pDays Q (k + 1)) l ≤ 108 := pWB_le yB l _
      rw [eX4_isAsTold_2, gI_32_2, aOp_s, (hf 32 (by decide)).1, e1, if_neg (nI_ge (by omega) (by omega)), gR_32_0, aOp_s, gC_33, aOp_s, g1, aRI_mk, aOp_s, gR_32_0, aOp_s, gC_33, aOp_s, c_weight sa (d + 2) (P := pDays Q (k + 1)) g2 yB (pK_days hK hB (k + 1) (by omega)) (by omega), aRI_mk, aOp_s, gR_32_1, aOp_s, gL_37 _ _ _ _ (aIn_nI (by omega) (by decide)), aOp_s, nI_clamp (by omega), (hf2 37 (by decide)).2.2, e2 k (by omega)]
      have ef : fT Q l f (k + 1) = (fT Q l f k && decide (nI (pW (pDays Q (k + 1)) l) = f k)) := rfl
      rw [ht, Bool.true_and] at ef
      by_cases hc : nI (pW (pDays Q (k + 1)) l) = f k
      · rw [if_pos hc, nI_1]
        exact ih (k + 1) S2 (by omega) g2 hf2 (by rw [ef]; exact decide_eq_true hc)
      · rw [if_neg hc]
        have := fT_false (show fT Q l f (k + 1) = false by rw [ef]; exact decide_eq_false hc) m
        rw [show k + 1 + m = n by omega] at this
        rw [this]
        exact ⟨S2, rfl, hf2⟩
  obtain ⟨S', g1, g2⟩ := loop n 0 S (by omega) hE (fr_refl _ _ _) rfl
  refine ⟨S', ?_, g2⟩
  rw [fX4_isAsTold, eX4_isAsTold_0]
  exact g1
theorem dC_add (q : Nat → Bool) : ∀ k j m, dC q (k + j) m = dC q k m + dC q j (m + k)
  | 0, j, m => by rw [Nat.zero_add]; show _ = 0 + dC q j m; rw [Nat.zero_add]
  | k + 1, j, m => by
    rw [show k + 1 + j = (k + j) + 1 by omega]
    show dC q (k + j) (m + 1) + cond (q m) 1 0 = (dC q k (m + 1) + cond (q m) 1 0) + dC q j (m + (k + 1))
    rw [dC_add q k j (m + 1), show m + 1 + k = m + (k + 1) by omega]
    omega
theorem dC_no (q : Nat → Bool) : ∀ k m, (∀ v, m ≤ v → v < m + k → q v = false) → dC q k m = 0
  | 0, _, _ => rfl
  | k + 1, m, h => by
    show dC q k (m + 1) + cond (q m) 1 0 = 0
    rw [dC_no q k (m + 1) (fun v h1 h2 => h v (by omega) (by omega)), h m (by omega) (by omega)]
    rfl
theorem dL_no (q : Nat → Bool) : ∀ k m, (∀ v, m ≤ v → v < m + k → q v = false) → dL q k m = none
  | 0, _, _ => rfl
  | k + 1, m, h => by
    show cond (q m) (some m) (dL q k (m + 1)) = none
    rw [dL_no q k (m + 1) (fun v h1 h2 => h v (by omega) (by omega)), h m (by omega) (by omega)]
    rfl
theorem dL_add (q : Nat → Bool) (j : Nat) : ∀ k m, (∀ v, m + k ≤ v → v < m + k + j → q v = false) → dL q (k + j) m = dL q k m
  | 0, m, h => by rw [Nat.zero_add]; exact dL_no q j m (fun v h1 h2 => h v (by omega) (by omega))
  | k + 1, m, h => by
    rw [show k + 1 + j = (k + j) + 1 by omega]
    show cond (q m) (some m) (dL q (k + j) (m + 1)) = cond (q m) (some m) (dL q k (m + 1))
    rw [dL_add q j k (m + 1) (fun v h1 h2 => h v (by omega) (by omega))]
theorem pK_ft {P : PS} (hK : pK P) (hB : pB P) {l what v : Nat} (hv : ftLo what ≤ v) : pK (pUp P (ftPl l what) v) := by
  have h7 := hB.2.1
  unfold ftPl
  unfold ftLo at hv
  by_cases h0 : what = 0
  · rw [if_pos h0] at hv ⊢
    intro i hi
    rw [pUp_ne _ _ (by omega)] at hi
    rw [pUp_ne P v (show 13 + 4 * i ≠ 12 + 4 * l by omega), pUp_ne P v (show 2 ≠ 12 + 4 * l by omega)]
    by_cases e : i = l
    · rw [e, pUp_at]; exact ⟨hv, (hK l (by omega)).2⟩
    · rw [pUp_ne _ _ (by omega)]; exact hK i hi
  · rw [if_neg h0]
    split
    · exact pK_up hK v ⟨by omega, by omega, fun i _ => by omega⟩ h7
    · exact pK_up hK v ⟨by omega, by omega, fun i _ => by omega⟩ h7
/-- a trial with one number changed, held against what is told -/
theorem c_trial (sa : Nat → Nat) (d : Nat) {h : AH} {co : Nat} {S : ST} {P : PS} (hE : cE h co S 17 P) (hB : pB P) (hK : pK P) {l n what v : Nat} (hl : l < P 3) (hn : n ≤ 12) (h4 : P 4 ≤ 10000) {f : Nat → Int32} (e1 : S.1 32 2 = nI n) (e2 : ∀ j, j < n → S.2.2 37 j = f j) (h1 : ftLo what ≤ v) (h2 : v ≤ ftHi P l what) {S1 S2 : ST} (g2 : cE h co S2 33 (pUp P (ftPl l what) v)) (g3 : fr 33 37 S S2) : ∃ S' : ST, AMC sa (d + 5) 43 [.ref (co + 32), .int (nI l)] (mk h co S2) = some (some (.int (bv (fT (pUp P (ftPl l what) v) l f n))), mk h co S') ∧ fr 33 37 S S' := by
  have h7 := hB.2.1
  obtain ⟨b1, b2, b3, b4⟩ := pB_ft hB (l := l) (what := what) (v := v) (by omega) h2
  have e3 : pUp P (ftPl l what) v 3 = P 3 := pUp_ne _ _ (by unfold ftPl; split <;> (try split) <;> omega)
  obtain ⟨S', k1, k2⟩ := c_isAsTold sa d g2 b1 (pK_ft hK hB h1) (l := l) (n := n) (by omega) hn (by omega) (f := f) (by rw [(g3 32 (by decide)).1]; exact e1) (fun j hj => by rw [(g3 37 (by decide)).2.2]; exact e2 j hj)
  exact ⟨S', k1, fr_trans g3 k2⟩
