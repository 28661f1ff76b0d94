/-! ===== the class: foretold ===== -/
theorem pDays_ne {P : PS} (hB : pB P) {j : Nat} (h4 : j ≠ 4) (h5 : j ≠ 5) (h : ∀ l, l < 7 → j ≠ 14 + 4 * l ∧ j ≠ 15 + 4 * l) : ∀ n, P 4 + n ≤ 100000 → pDays P n j = P j
  | 0, _ => rfl
  | n + 1, hn => by
    show pDay (pDays P n) j = P j
    rw [pDay_ne (pDays_B hB n (by omega)).1 h4 h5 h]
    exact pDays_ne hB h4 h5 h n (by omega)
theorem pDays_3 {P : PS} (hB : pB P) {n : Nat} (hn : P 4 + n ≤ 100000) : pDays P n 3 = P 3 := pDays_ne hB (by decide) (by decide) (fun l _ => by omega) n hn
theorem pK_days {P : PS} (hK : pK P) (hB : pB P) : ∀ k, P 4 + k ≤ 100000 → pK (pDays P k)
  | 0, _ => hK
  | k + 1, hk => pK_day (pK_days hK hB k (by omega)) (pDays_B hB k (by omega)).1
theorem q33 : qc 33 := Or.inr (Or.inr (Or.inr (Or.inr rfl)))
theorem c_try (sa : Nat → Nat) (d : Nat) {h : AH} {co : Nat} {S : ST} {P : PS} (hE : cE h co S 17 P) (hB : pB P) : ∃ S' : ST, AMC sa (d + 1) 12 [.ref (co + 33), .ref (co + 17)] (mk h co S) = some (none, mk h co S') ∧ cE h co S' 33 P ∧ fr 33 37 S S' := c_become sa d hE hB q33 (by decide)
theorem c_foretell (sa : Nat → Nat) (d : Nat) {h : AH} {co : Nat} {S : ST} {P : PS} (hE : cE h co S 17 P) (hB : pB P) (hK : pK P) {n : Nat} (hn : P 4 + n ≤ 100000) : ∃ S' : ST, AMC sa (d + 6) 35 [.ref (co + 32), .ref (co + 17), .int (nI n)] (mk h co S) = some (some (.ref (co + 33)), mk h co S') ∧ cE h co S' 33 (pDays P n) ∧ fr 33 37 S S' := by
  obtain ⟨S1, g1, g2, g3⟩ := c_try sa (d + 4) hE hB
  obtain ⟨S2, k1, k2, k3⟩ := c_passDays sa d g2 hB hK hn
  refine ⟨S2, ?_, k2, fr_trans g3 k3⟩
  rw [fX4_foretell, eX4_foretell_0, gR_32_0, aOp_s, gC_33, aOp_s, g1, aRV_mk, aOp_s, gR_32_0, aOp_s, gC_33, aOp_s, k1, aRV_mk, aOp_s, gR_32_0, aOp_s]
theorem c_when (sa : Nat → Nat) (d : Nat) {h : AH} {co : Nat} {S : ST} {P : PS} (hE : cE h co S 17 P) (hB : pB P) (hK : pK P) {l : Nat} (hl : l < P 3) (h4 : P 4 ≤ 10000) : ∃ S' : ST, AMC sa (d + 5) 36 [.ref (co + 32), .ref (co + 17), .int (nI l)] (mk h co S) = some (some (.int (bI (pWh P l 61 0))), mk h co S') ∧ fr 33 37 S S' := by
  have h7 := hB.2.1
  have loop : ∀ m k S1, k + m = 61 → cE h co S1 33 (pDays P k) → fr 33 37 S S1 → ∃ S' : ST, AMV sa (d + 4) 36 10 [.ref (co + 32), .ref (co + 17), .int (nI l), .int (nI k)] [] (mk h co S1) = some (some (.int (bI (pWh P l m k))), mk h co S') ∧ fr 33 37 S S' := by
    intro m
    induction m with
    | zero =>
      intro k S1 hk hE1 hf
      refine ⟨S1, ?_, hf⟩
      rw [eX4_daysUntilSent_10, if_pos (show (60 : Int32) < nI k from nI_lt (a := 60) (by omega) (by omega))]
      rfl
    | succ m ih =>
      intro k S1 hk hE1 hf
      obtain ⟨zB, z4⟩ := pDays_B hB k (by omega)
      have z3 := pDays_3 hB (n := k) (by omega)
      have hv := (zB.2.2.2.1 l (by omega)).2.2.2
      obtain ⟨S2, b, g1, g2, g3, -⟩ := c_passDay sa d hE1 zB (pK_days hK hB k (by omega))
      have ep : pWh P l (m + 1) k = if pDays P k (15 + 4 * l) = 1 then some k else pWh P l m (k + 1) := rfl
      rw [eX4_daysUntilSent_10, if_neg (show ¬ (60 : Int32) < nI k from nI_nlt (a := 60) (by omega) (by decide)), gR_32_0, aOp_s, gC_33, aOp_s, c_waits sa (d + 3) hE1 zB (by omega), aRI_mk, aOp_s, ep]
      by_cases hz : pDays P k (15 + 4 * l) = 1
      · rw [decide_eq_false (by omega), if_pos bvf, if_pos hz]
        exact ⟨S1, rfl, hf⟩
      · rw [decide_eq_true (by omega), if_neg bvn, gR_32_0, aOp_s, gC_33, aOp_s, g1, aRI_mk, aOp_s, nI_1, if_neg hz]
        exact ih (k + 1) S2 (by omega) g2 (fr_trans hf g3)
  obtain ⟨S1, g1, g2, g3⟩ := c_try sa (d + 3) hE hB
  obtain ⟨S', k1, k2⟩ := loop 61 0 S1 rfl g2 g3
  refine ⟨S', ?_, k2⟩
  rw [fX4_daysUntilSent, eX4_daysUntilSent_0, gR_32_0, aOp_s, gC_33, aOp_s, g1, aRV_mk, aOp_s]
  exact k1
/-! lighten -/
theorem n_say {a b s : Nat} (ha : a < 64) : a &&& (63 ^^^ (b ||| s)) = (a &&& (63 ^^^ b)) &&& (63 ^^^ s) := by
  refine Nat.eq_of_testBit_eq (fun i => ?_)
  rw [Nat.testBit_and, Nat.testBit_xor, Nat.testBit_or, Nat.testBit_and, Nat.testBit_and, Nat.testBit_xor, Nat.testBit_xor, show 63 = 2 ^ 6 - 1 from rfl, Nat.testBit_two_pow_sub_one]
  by_cases hi : i < 6
  · rw [decide_eq_true hi]
    cases a.testBit i <;> cases b.testBit i <;> cases s.testBit i <;> rfl
  · have hp : 2 ^ 6 ≤ 2 ^ i := Nat.pow_le_pow_right (by decide) (by omega)
    rw [Nat.testBit_lt_two_pow (show a < 2 ^ i by omega)]
    rfl
theorem pU_say {P : PS} (hB : pB P) {l s : Nat} (hl : l < 7) : pU (pSay P l s) l = pU P l &&& (63 ^^^ s) := by
  unfold pU pSay
  rw [pUp_ne _ _ (by omega), pUp_at, n_say (hB.2.2.2.1 l hl).2.1]
theorem pW_say {P : PS} (hB : pB P) (hK : pK P) {l s : Nat} (hl : l < P 3) : pW (pSay P l s) l = wg (P (12 + 4 * l)) (oS P (pU P l &&& (63 ^^^ s)) (P 2)) (decide (P (14 + 4 * l) ||| s = 0)) := by
  have h7 := hB.2.1
  have e12 : pSay P l s (12 + 4 * l) = P (12 + 4 * l) := pUp_ne _ _ (by omega)
  have e14 : pSay P l s (14 + 4 * l) = P (14 + 4 * l) ||| s := pUp_at _ _ _
  have e2 : pSay P l s 2 = P 2 := pUp_ne _ _ (by omega)
  unfold pW
  rw [pWB_wg (pSay P l s) l _ (by rw [e12]; exact (hK l hl).1) (by rw [e12]; exact (hB.2.2.2.1 l (by omega)).1), e12, e14, e2, pU_say hB (by omega), oS_ag (P := pSay P l s) (Q := P) (fun k hk => pUp_ne _ _ (by omega)) _ (P 2) hB.1]
theorem c_havingSaid (sa : Nat → Nat) (d : Nat) {h : AH} {co : Nat} {S : ST} {P : PS} (hE : cE h co S 17 P) (hB : pB P) (hK : pK P) {l s : Nat} (hl : l < P 3) (hs : s < 64) : AMC sa (d + 2) 38 [.ref (co + 17), .int (nI l), .int (nI s)] (mk h co S) = some (some (.int (nI (pW (pSay P l s) l))), mk h co S) := by
  have hq := hE.1
  have hL := hB.2.1
  have h6 := hB.1
  obtain ⟨a1, a2, a3, r, g⟩ := wE_get hE.2.1 hB
  obtain ⟨k1, k2, k3⟩ := hE.2.2.2.2.2.2.2.2 l hl
  have b4 := hB.2.2.2.1 l (by omega)
  have hu := pU_lt hB (l := l) (by omega)
  have hlt : pU P l &&& (63 ^^^ s) < 2 ^ P 2 := Nat.lt_of_le_of_lt Nat.and_le_left (pU_w hK hl)
  have ho := oS_le hB (pU P l &&& (63 ^^^ s)) (P 2) hB.1
  have cw := fun b => c_weigh sa d (hK l hl).1 b4.1 (p := oS P (pU P l &&& (63 ^^^ s)) (P 2)) (by omega) b (mk h co S)
  rw [fX4_weightHavingSaid, eX4_weightHavingSaid_0, gR_17_3, aOp_s, (r S).2.1, aOp_s, gC_17, aOp_s, c_unsaid sa d hE hB hl, aRI_mk, aOp_s, n_andn _ hu _ hs, (g S _ hlt).1, aOp_s, gR_17_0, aOp_s, show aIL (mk h co S) (co + 18) (nI l) = some (S.2.2 18 l) from qL (c := 17) hq h co S (j := 1) (by decide) (by decide) (by omega), aOp_s, gR_17_2, aOp_s, show aIL (mk h co S) (co + 20) (nI l) = some (S.2.2 20 l) from qL (c := 17) hq h co S (j := 3) (by decide) (by decide) (by omega), aOp_s, show S.2.2 18 l = nI (P (12 + 4 * l)) from k1, show S.2.2 20 l = nI (P (14 + 4 * l)) from k3, n_or _ (by omega) _ (by omega), pW_say hB hK hl]
  have hor := n_or64 _ b4.2.2.1 _ hs
  by_cases hz : P (14 + 4 * l) ||| s = 0
  · rw [if_pos (show nI (P (14 + 4 * l) ||| s) = 0 by rw [hz]; rfl), show (1 : Int32) = bv true from rfl, cw true, aRI_mk, aOp_s, decide_eq_true hz]
  · rw [if_neg (nI_ne0 (by omega) (by omega)), show AMC sa (d + 1) 17 [.int (nI (P (12 + 4 * l))), .int (nI (oS P (pU P l &&& (63 ^^^ s)) (P 2))), .int 0] (mk h co S) = _ from cw false, aRI_mk, aOp_s, decide_eq_false hz]
theorem n_sub6 : ∀ n, n < 64 → ∀ a, a < 64 → n &&& (63 ^^^ a) = 0 → n ≤ a := by decide +kernel
theorem n_sub7 : ∀ n, n < 128 → ∀ a, a < 128 → n &&& (127 ^^^ a) = 0 → n ≤ a := by decide +kernel
theorem pLi_ext {P : PS} (hB : pB P) {l : Nat} (hl : l < 7) (w : Nat) : ∀ m, pU P l + 1 + m ≤ 64 → pLi P l w (pU P l + 1 + m) = pLi P l w (pU P l + 1)
  | 0, _ => rfl
  | m + 1, h => by
    have ih := pLi_ext hB hl w m (by omega)
    show (if _ then some (pU P l + 1 + m) else pLi P l w (pU P l + 1 + m)) = _
    rw [if_neg (fun z => by have := n_sub6 (pU P l + 1 + m) (by omega) (pU P l) (pU_lt hB hl) z.1.1; omega), ih]
theorem pLi_64 {P : PS} (hB : pB P) {l : Nat} (hl : l < 7) (w : Nat) : pLi P l w 64 = pLi P l w (pU P l + 1) := by
  have hu := pU_lt hB hl
  have := pLi_ext hB hl w (63 - pU P l) (by omega)
  rw [show pU P l + 1 + (63 - pU P l) = 64 by omega] at this
  exact this
theorem c_fewest (sa : Nat → Nat) (d : Nat) {h : AH} {co : Nat} {S : ST} {P : PS} (hE : cE h co S 17 P) (hB : pB P) (hK : pK P) {l w : Nat} (hl : l < P 3) (hw : w < 100) : AMC sa (d + 3) 37 [.ref (co + 32), .ref (co + 17), .int (nI l), .int (nI w)] (mk h co S) = some (some (.int (bI (pLi P l w (pU P l + 1)))), mk h co S) := by
  have h7 := hB.2.1
  have hu := pU_lt hB (l := l) (by omega)
  have loop : ∀ m k x7, k + m = 64 → AMV sa (d + 2) 37 14 [.ref (co + 32), .ref (co + 17), .int (nI l), .int (nI w), .int (nI (pU P l)), .int (bI (pLi P l w k)), .int (nI k), x7] [] (mk h co S) = some (some (.int (bI (pLi P l w 64))), mk h co S) := by
    intro m
    induction m with
    | zero =>
      intro k x7 hk
      have hk : k = 64 := hk
      rw [eX4_fewestToSay_14, if_pos (show (64 : Int32) ≤ nI k from nI_le (a := 64) (by omega) (by omega)), hk]
    | succ m ih =>
      intro k x7 hk
      have ep : pLi P l w (k + 1) = if (k &&& (63 ^^^ pU P l) = 0 ∧ pFw (pLi P l w k) k = true) ∧ pW (pSay P l k) l ≤ w then some k else pLi P l w k := rfl
      have hkk := (n_lt64 k (by omega) _ hu).2.2
      have st : ∀ s0 : Bool, s0 = pFw (pLi P l w k) k → AMV sa (d + 2) 37 46 [.ref (co + 32), .ref (co + 17), .int (nI l), .int (nI w), .int (nI (pU P l)), .int (bI (pLi P l w k)), .int (nI k), x7] [.int (bv s0)] (mk h co S) = some (some (.int (bI (pLi P l w 64))), mk h co S) := by
        intro s0 hs0
        have ihk := ih (k + 1) (.int (bv s0)) (by omega)
        rw [eX4_fewestToSay_46, n_andn _ (by omega) _ hu]
        by_cases hc : k &&& (63 ^^^ pU P l) = 0
        · rw [if_pos (show nI (k &&& (63 ^^^ pU P l)) = 0 by rw [hc]; rfl)]
          cases s0 with
          | false =>
            rw [if_pos bvf, nI_1]
            rw [ep, if_neg (fun z => by rw [← hs0] at z; cases z.1.2)] at ihk
            exact ihk
          | true =>
            have hwl : pW (pSay P l k) l ≤ 108 := pWB_le (pB_said hB l (n_or64 _ (hB.2.2.2.1 l (by omega)).2.2.1 _ (by omega))) l _
            rw [if_neg bvn, c_havingSaid sa d hE hB hK hl (by omega), aRI_mk, aOp_s]
            by_cases hx : pW (pSay P l k) l ≤ w
            · rw [if_neg (nI_nlt hx (by omega)), nI_1]
              rw [ep, if_pos ⟨⟨hc, hs0.symm⟩, hx⟩] at ihk
              exact ihk
            · rw [if_pos (nI_lt (by omega) (by omega)), nI_1]
              rw [ep, if_neg (fun z => hx z.2)] at ihk
              exact ihk
        · rw [if_neg (nI_ne0 (by omega) (by omega)), nI_1]
          rw [ep, if_neg (fun z => hc z.1.1)] at ihk
          exact ihk
      rw [eX4_fewestToSay_14, if_neg (show ¬ (64 : Int32) ≤ nI k from nI_ge (b := 64) (by omega) (by decide))]
      cases e : pLi P l w k with
      | none =>
        rw [e] at st
        rw [if_pos (show bI none = -1000000 from rfl)]
        exact st true rfl
      | some b =>
        have hb := pLi_lt P l w k b e
        rw [e] at st
        rw [if_neg (show ¬ bI (some b) = -1000000 from n_neN (by omega)), c_bits sa (d + 1) (show k < 128 by omega), aRI_mk, aOp_s, show bI (some b) = nI b from rfl, c_bits sa (d + 1) (show b < 128 by omega), aRI_mk, aOp_s]
        have p1 := pC_le k (by omega)
        have p2 := pC_le b (by omega)
        by_cases hc : pC b ≤ pC k
        · rw [if_pos (nI_le hc (by omega))]
          exact st false (decide_eq_false (by omega)).symm
        · rw [if_neg (nI_ge (by omega) (by omega))]
          exact st true (decide_eq_true (by omega)).symm
  rw [fX4_fewestToSay, eX4_fewestToSay_0, gC_17, aOp_s, c_unsaid sa (d + 1) hE hB hl, aRI_mk, aOp_s, ← pLi_64 hB (by omega) w]
  exact loop 64 0 _ rfl
/-! guess -/
theorem n_gs {n k s : Nat} (hk : k ≤ 6) (hn : n < 2 ^ k) : n &&& (63 ^^^ ((2 ^ k - 1) &&& (63 ^^^ s))) = n &&& s := by
  refine Nat.eq_of_testBit_eq (fun i => ?_)
  rw [Nat.testBit_and, Nat.testBit_xor, Nat.testBit_and, Nat.testBit_xor, Nat.testBit_and, show 63 = 2 ^ 6 - 1 from rfl, Nat.testBit_two_pow_sub_one, Nat.testBit_two_pow_sub_one]
  by_cases hi : i < k
  · rw [decide_eq_true hi, decide_eq_true (show i < 6 by omega)]
    cases n.testBit i <;> cases s.testBit i <;> rfl
  · have hp : 2 ^ k ≤ 2 ^ i := Nat.pow_le_pow_right (by decide) (by omega)
    rw [Nat.testBit_lt_two_pow (show n < 2 ^ i by omega)]
    rfl
theorem n_gs7 {n k s : Nat} (hk : k ≤ 7) (hn : n < 2 ^ k) : n &&& (127 ^^^ ((2 ^ k - 1) &&& (127 ^^^ s))) = n &&& s := by
  refine Nat.eq_of_testBit_eq (fun i => ?_)
  rw [Nat.testBit_and, Nat.testBit_xor, Nat.testBit_and, Nat.testBit_xor, Nat.testBit_and, show 127 = 2 ^ 7 - 1 from rfl, Nat.testBit_two_pow_sub_one, Nat.testBit_two_pow_sub_one]
  by_cases hi : i < k
  · rw [decide_eq_true hi, decide_eq_true (show i < 7 by omega)]
    cases n.testBit i <;> cases s.testBit i <;> rfl
  · have hp : 2 ^ k ≤ 2 ^ i := Nat.pow_le_pow_right (by decide) (by omega)
    rw [Nat.testBit_lt_two_pow (show n < 2 ^ i by omega)]
    rfl
theorem n_nn : ∀ a, a < 64 → ∀ b, b < 64 → (a &&& (63 ^^^ b)) &&& b = 0 := by decide +kernel
theorem gI_sub (P : PS) (l u : Nat) (hu : gM P l u = true) : ∀ m, gI P l (u + 1 + m) &&& u = gI P l (u + 1 + m)
  | 0 => by
    show (gI P l u &&& cond (gM P l u) u (pAll P)) &&& u = gI P l u &&& cond (gM P l u) u (pAll P)
    rw [hu]
    show (gI P l u &&& u) &&& u = gI P l u &&& u
    rw [Nat.and_assoc, Nat.and_self]
  | m + 1 => by
    have ih := gI_sub P l u hu m
    show (gI P l (u + 1 + m) &&& cond (gM P l (u + 1 + m)) (u + 1 + m) (pAll P)) &&& u = gI P l (u + 1 + m) &&& cond (gM P l (u + 1 + m)) (u + 1 + m) (pAll P)
    generalize cond (gM P l (u + 1 + m)) (u + 1 + m) (pAll P) = x
    rw [Nat.and_assoc, Nat.and_comm x u, ← Nat.and_assoc, ih]
def gOp (P : PS) (l : Nat) : Nat := pAll P &&& (63 ^^^ P (14 + 4 * l))
theorem gI_op {P : PS} (hB : pB P) (hK : pK P) {l : Nat} (hl : l < P 3) : gI P l (pAll P + 1) &&& gOp P l = gI P l (pAll P + 1) := by
  have h7 := hB.2.1
  have b4 := hB.2.2.2.1 l (by omega)
  have hw := pU_w hK hl
  have hm : gM P l (pU P l) = true := by
    unfold gM
    rw [Bool.and_eq_true]
    exact ⟨decide_eq_true (n_nn _ b4.2.1 _ b4.2.2.1), decide_eq_true rfl⟩
  have ha : pAll P + 1 = 2 ^ P 2 := Nat.sub_add_cancel (Nat.one_le_two_pow)
  have := gI_sub P l (pU P l) hm (pAll P - pU P l)
  rw [show pU P l + 1 + (pAll P - pU P l) = pAll P + 1 by omega] at this
  have hs : pU P l &&& gOp P l = pU P l := by
    refine Nat.eq_of_testBit_eq (fun i => ?_)
    unfold gOp pU pAll
    rw [Nat.testBit_and, Nat.testBit_and, Nat.testBit_and, Nat.testBit_two_pow_sub_one]
    by_cases hi : i < P 2
    · rw [decide_eq_true hi]
      cases (P (13 + 4 * l)).testBit i <;> cases (63 ^^^ P (14 + 4 * l)).testBit i <;> rfl
    · have hp : 2 ^ P 2 ≤ 2 ^ i := Nat.pow_le_pow_right (by decide) (by omega)
      rw [Nat.testBit_lt_two_pow (show P (13 + 4 * l) < 2 ^ i by have := (hK l hl).2; omega)]
      rfl
  rw [← this, Nat.and_assoc, hs]
theorem c_alike (sa : Nat → Nat) (d : Nat) {h : AH} {co : Nat} {S : ST} {P : PS} (hE : cE h co S 17 P) (hB : pB P) (hK : pK P) {l what : Nat} (hl : l < P 3) (hq2 : what < 2) : AMC sa (d + 3) 39 [.ref (co + 32), .ref (co + 17), .int (nI l), .int (nI what)] (mk h co S) = some (some (.int (nI (if what = 0 then gN P l (pAll P + 1) else gI P l (pAll P + 1)))), mk h co S) := by
  have hq := hE.1
  have h7 := hB.2.1
  have h6 := hB.1
  obtain ⟨a1, a2, a3, r, g⟩ := wE_get hE.2.1 hB
  obtain ⟨k1, k2, k3⟩ := hE.2.2.2.2.2.2.2.2 l hl
  have b4 := hB.2.2.2.1 l (by omega)
  have hal := pAll_lt hB
  have ha : pAll P + 1 = 2 ^ P 2 := Nat.sub_add_cancel (Nat.one_le_two_pow)
  have h64 := p2_64 _ h6
  have hop : gOp P l < 64 := Nat.lt_of_le_of_lt Nat.and_le_left hal
  have hopl : gOp P l ≤ pAll P := Nat.and_le_left
  have aop : pAll P &&& gOp P l = gOp P l := by
    unfold gOp
    rw [← Nat.and_assoc, Nat.and_self]
  have hw : pW P l ≤ 108 := pWB_le hB l _
  have phase2 : ∀ m k, k + m = 64 → pAll P + 1 ≤ k → AMV sa (d + 2) 39 43 [.ref (co + 32), .ref (co + 17), .int (nI l), .int (nI what), .int (nI (P (14 + 4 * l))), .int (nI (gOp P l)), .int (nI (pW P l)), .int (nI (gN P l (pAll P + 1))), .int (nI (gI P l (pAll P + 1) &&& gOp P l)), .int (nI k)] [] (mk h co S) = some (some (.int (nI (if what = 0 then gN P l (pAll P + 1) else gI P l (pAll P + 1)))), mk h co S) := by
    intro m
    induction m with
    | zero =>
      intro k hk hk2
      have hk : k = 64 := hk
      rw [eX4_weighingAlike_43, if_pos (show (64 : Int32) ≤ nI k from nI_le (a := 64) (by omega) (by omega))]
      by_cases h0 : what = 0
      · rw [if_pos (show nI what = 0 by rw [h0]; rfl), if_pos h0]
      · rw [if_neg (nI_ne0 (by omega) (by omega)), if_neg h0, gI_op hB hK hl]
    | succ m ih =>
      intro k hk hk2
      have hne : k &&& (63 ^^^ gOp P l) ≠ 0 := fun z => by have := n_sub6 k (by omega) _ hop z; omega
      have hkk := (n_lt64 k (by omega) _ hop).2.2
      rw [eX4_weighingAlike_43, if_neg (show ¬ (64 : Int32) ≤ nI k from nI_ge (b := 64) (by omega) (by decide)), n_andn _ (by omega) _ hop, if_neg (nI_ne0 (by omega) (by omega)), nI_1]
      exact ih (k + 1) (by omega) (by omega)
  have phase1 : ∀ m k, k + m = pAll P + 1 → AMV sa (d + 2) 39 43 [.ref (co + 32), .ref (co + 17), .int (nI l), .int (nI what), .int (nI (P (14 + 4 * l))), .int (nI (gOp P l)), .int (nI (pW P l)), .int (nI (gN P l k)), .int (nI (gI P l k &&& gOp P l)), .int (nI k)] [] (mk h co S) = some (some (.int (nI (if what = 0 then gN P l (pAll P + 1) else gI P l (pAll P + 1)))), mk h co S) := by
    intro m
    induction m with
    | zero =>
      intro k hk
      have hk : k = pAll P + 1 := hk
      rw [hk]
      exact phase2 (63 - pAll P) (pAll P + 1) (by omega) (Nat.le_refl _)
    | succ m ih =>
      intro k hk
      have ihk := ih (k + 1) (by omega)
      have eN : gN P l (k + 1) = gN P l k + cond (gM P l k) 1 0 := rfl
      have eI : gI P l (k + 1) = gI P l k &&& cond (gM P l k) k (pAll P) := rfl
      have hk2 : k < 2 ^ P 2 := by omega
      have egs : k &&& (63 ^^^ gOp P l) = k &&& P (14 + 4 * l) := n_gs h6 hk2
      have hkk := (n_lt64 k (by omega) _ b4.2.2.1).1
      have no : gM P l k = false → AMV sa (d + 2) 39 43 [.ref (co + 32), .ref (co + 17), .int (nI l), .int (nI what), .int (nI (P (14 + 4 * l))), .int (nI (gOp P l)), .int (nI (pW P l)), .int (nI (gN P l k)), .int (nI (gI P l k &&& gOp P l)), .int (nI k + 1)] [] (mk h co S) = some (some (.int (nI (if what = 0 then gN P l (pAll P + 1) else gI P l (pAll P + 1)))), mk h co S) := by
        intro hm
        rw [eN, eI, hm] at ihk
        rw [cond_false, cond_false, Nat.add_zero, Nat.and_assoc, aop] at ihk
        rw [nI_1]
        exact ihk
      have yes : gM P l k = true → AMV sa (d + 2) 39 43 [.ref (co + 32), .ref (co + 17), .int (nI l), .int (nI what), .int (nI (P (14 + 4 * l))), .int (nI (gOp P l)), .int (nI (pW P l)), .int (nI (gN P l k) + 1), .int (nI (gI P l k &&& gOp P l) &&& nI k), .int (nI k + 1)] [] (mk h co S) = some (some (.int (nI (if what = 0 then gN P l (pAll P + 1) else gI P l (pAll P + 1)))), mk h co S) := by
        intro hm
        have hgi : gI P l k &&& gOp P l < 128 := Nat.lt_of_le_of_lt Nat.and_le_right (by omega)
        rw [eN, eI, hm] at ihk
        rw [cond_true, cond_true, Nat.and_assoc, Nat.and_comm k, ← Nat.and_assoc] at ihk
        rw [nI_1, nI_1, n_and _ hgi _ (by omega)]
        exact ihk
      rw [eX4_weighingAlike_43, if_neg (show ¬ (64 : Int32) ≤ nI k from nI_ge (b := 64) (by omega) (by decide)), n_andn _ (by omega) _ hop, egs]
      by_cases hc : k &&& P (14 + 4 * l) = 0
      · have ho := oS_le hB k (P 2) h6
        have cw := fun b => c_weigh sa (d + 1) (hK l hl).1 b4.1 (p := oS P k (P 2)) (by omega) b (mk h co S)
        have ew := pWB_wg P l k (hK l hl).1 b4.1
        have hwk : pWB P l k ≤ 108 := pWB_le hB l k
        rw [if_pos (show nI (k &&& P (14 + 4 * l)) = 0 by rw [hc]; rfl), gR_17_0, aOp_s, show aIL (mk h co S) (co + 18) (nI l) = some (S.2.2 18 l) from qL (c := 17) hq h co S (j := 1) (by decide) (by decide) (by omega), aOp_s, gR_17_3, aOp_s, (r S).2.1, aOp_s, (g S _ hk2).1, aOp_s, show S.2.2 18 l = nI (P (12 + 4 * l)) from k1]
        have fin : ∀ b : Bool, b = decide (P (14 + 4 * l) = 0) → AMV sa (d + 2) 39 86 [.ref (co + 32), .ref (co + 17), .int (nI l), .int (nI what), .int (nI (P (14 + 4 * l))), .int (nI (gOp P l)), .int (nI (pW P l)), .int (nI (gN P l k)), .int (nI (gI P l k &&& gOp P l)), .int (nI k)] [.int (bv b), .int (nI (oS P k (P 2))), .int (nI (P (12 + 4 * l)))] (mk h co S) = some (some (.int (nI (if what = 0 then gN P l (pAll P + 1) else gI P l (pAll P + 1)))), mk h co S) := by
          intro b hb
          rw [eX4_weighingAlike_86, cw b, aRI_mk, aOp_s, hb, ← ew]
          by_cases he : pWB P l k = pW P l
          · rw [if_pos (by rw [he])]
            exact yes (by unfold gM; rw [decide_eq_true hc, decide_eq_true he]; rfl)
          · rw [if_neg (fun z => he ((nI_eq (by omega) (by omega)).mp z))]
            exact no (by unfold gM; rw [decide_eq_false he, Bool.and_false])
        by_cases hz : P (14 + 4 * l) = 0
        · rw [if_pos (show nI (P (14 + 4 * l)) = 0 by rw [hz]; rfl)]
          exact fin true (decide_eq_true hz).symm
        · rw [if_neg (nI_ne0 (by omega) (by omega))]
          exact fin false (decide_eq_false hz).symm
      · rw [if_neg (nI_ne0 (by omega) (by omega))]
        exact no (by unfold gM; rw [decide_eq_false hc, Bool.false_and])
  have hall := n_all7 _ h6
  rw [fX4_weighingAlike, eX4_weighingAlike_0, gR_17_2, aOp_s, show aIL (mk h co S) (co + 20) (nI l) = some (S.2.2 20 l) from qL (c := 17) hq h co S (j := 3) (by decide) (by decide) (by omega), aOp_s, gR_17_3, aOp_s, (r S).1, aOp_s, gC_17, aOp_s, c_weight sa d hE hB hK hl, aRI_mk, aOp_s, show S.2.2 20 l = nI (P (14 + 4 * l)) from k3, hall.1, n_andn _ hall.2 _ b4.2.2.1]
  have := phase1 (pAll P + 1) 0 (by omega)
  rw [show gI P l 0 &&& gOp P l = gOp P l from aop] at this
  exact this
