/-! ===== the class: what fits, by kinds, by what was said, by limits ===== -/
theorem ftQ_0 (P : PS) (l : Nat) (f : Nat → Int32) (n v : Nat) : ftQ P l 0 f n v = fT (pUp P (ftPl l 0) v) l f n := by
  unfold ftQ ftMay
  rw [decide_eq_true rfl, Bool.true_or, Bool.true_and]
theorem ftQ_12 (P : PS) (l : Nat) (f : Nat → Int32) (n v : Nat) {what : Nat} (hw : what = 1 ∨ what = 2) : ftQ P l what f n v = (decide (v &&& (63 ^^^ P (13 + 4 * l)) = 0) && fT (pUp P (14 + 4 * l) v) l f n) := by
  unfold ftQ ftMay ftPl
  rw [decide_eq_false (show ¬ what = 0 by omega), Bool.false_or, decide_eq_false (show ¬ 2 < what by omega), Bool.false_or, if_neg (show ¬ what = 0 by omega), if_pos (show what < 3 by omega)]
theorem ftQ_34 (P : PS) (l : Nat) (f : Nat → Int32) (n v : Nat) {what : Nat} (hw : what = 3 ∨ what = 4) : ftQ P l what f n v = fT (pUp P 1 v) l f n := by
  unfold ftQ ftMay ftPl
  rw [decide_eq_true (show 2 < what by omega), Bool.true_or, Bool.or_true, Bool.true_and, if_neg (show ¬ what = 0 by omega), if_neg (show ¬ what < 3 by omega)]
theorem c_kinds (sa : Nat → Nat) (d : Nat) {h : AH} {co : Nat} {S : ST} {P : PS} (hE : cE h co S 17 P) (hB : pB P) (hK : pK P) {l n : Nat} (hl : l < P 3) (hn : n ≤ 12) (h4 : P 4 ≤ 10000) {f : Nat → Int32} (e1 : S.1 32 2 = nI n) (e2 : ∀ j, j < n → S.2.2 37 j = f j) : ∃ S' : ST, AMC sa (d + 6) 44 [.ref (co + 32), .ref (co + 17), .int (nI l)] (mk h co S) = some (some (.int (ftA P l 0 f n)), mk h co S') ∧ fr 33 37 S S' := by
  have h7 := hB.2.1
  have loop : ∀ k m acc S1, m + k = 6 → 1 ≤ m → acc < 64 → fr 33 37 S S1 → ∃ S' : ST, AMV sa (d + 5) 44 5 [.ref (co + 32), .ref (co + 17), .int (nI l), .int (nI acc), .int (nI m)] [] (mk h co S1) = some (some (.int (nI (acc ||| dS (ftQ P l 0 f n) k m))), mk h co S') ∧ fr 33 37 S S' := by
    intro k
    induction k with
    | zero =>
      intro m acc S1 hm h1 ha hf
      refine ⟨S1, ?_, hf⟩
      rw [eX4_fittingKinds_5, if_pos (show (5 : Int32) < nI m from nI_lt (a := 5) (by omega) (by omega)), show dS (ftQ P l 0 f n) 0 m = 0 from rfl, Nat.or_zero]
    | succ k ih =>
      intro m acc S1 hm h1 ha hf
      have hE1 : cE h co S1 17 P := cE_fr hE hf (by decide)
      obtain ⟨S2, g1, g2, g3⟩ := c_try sa (d + 4) hE1 hB
      have g4 := cE_kind g2 hB l m
      have g5 : fr 33 37 S (sA S2 (33 + 1) (upd (S2.2.2 (33 + 1)) l (nI m))) := fr_A (fr_trans hf g3) (by decide) (by decide) _
      obtain ⟨S3, k1, k2⟩ := c_trial sa d (S1 := S) hE hB hK hl hn h4 e1 e2 (what := 0) (v := m) h1 (show m ≤ 5 by omega) g4 g5
      have es : dS (ftQ P l 0 f n) (k + 1) m = dS (ftQ P l 0 f n) k (m + 1) ||| cond (ftQ P l 0 f n m) (2 ^ m) 0 := rfl
      rw [ftQ_0] at es
      rw [eX4_fittingKinds_5, if_neg (show ¬ (5 : Int32) < nI m from nI_nlt (a := 5) (by omega) (by decide)), gR_32_0, aOp_s, gC_33, aOp_s, g1, aRV_mk, aOp_s, gR_32_0, aOp_s, gR_33_0, aOp_s, show aIS (mk h co S2) (co + 34) (nI l) (nI m) = some (mk h co (sA S2 (33 + 1) (upd (S2.2.2 (33 + 1)) l (nI m)))) from qS q33 h co S2 (j := 1) (by decide) (by decide) (by omega) _, aOp_s, gC_32, aOp_s, k1, aRI_mk, aOp_s, es]
      cases hb : fT (pUp P (ftPl l 0) m) l f n with
      | false =>
        rw [if_pos bvf, nI_1, cond_false, Nat.or_zero]
        exact ih (m + 1) acc S3 (by omega) (by omega) ha k2
      | true =>
        rw [if_neg bvn, nI_1, n_fs acc ha m (by omega), cond_true, Nat.or_comm (dS _ k (m + 1)), ← Nat.or_assoc]
        exact ih (m + 1) (acc ||| 2 ^ m) S3 (by omega) (by omega) (n_or64 _ ha _ (n_lt6 m (by omega))) k2
  obtain ⟨S', g1, g2⟩ := loop 5 1 0 S rfl (by decide) (by decide) (fr_refl _ _ _)
  refine ⟨S', ?_, g2⟩
  rw [fX4_fittingKinds, eX4_fittingKinds_0]
  rw [Nat.zero_or] at g1
  exact g1
def rS (q : Nat → Bool) (b : Bool) (acc : Nat) (le : Option Nat) (k m : Nat) : Int32 := cond b (bI (if acc = 0 then dL q k m else le)) (nI (acc + dC q k m))
theorem rS_no {q : Nat → Bool} {m : Nat} (h : q m = false) (b : Bool) (acc : Nat) (le : Option Nat) (k : Nat) : rS q b acc le (k + 1) m = rS q b acc le k (m + 1) := by
  unfold rS
  rw [show dL q (k + 1) m = dL q k (m + 1) by show cond (q m) (some m) (dL q k (m + 1)) = _; rw [h]; rfl, show dC q (k + 1) m = dC q k (m + 1) by show dC q k (m + 1) + cond (q m) 1 0 = _; rw [h]; rfl]
theorem rS_yes {q : Nat → Bool} {m : Nat} (h : q m = true) (b : Bool) (acc : Nat) (le : Option Nat) (k : Nat) : rS q b acc le (k + 1) m = rS q b (acc + 1) (if acc = 0 then some m else le) k (m + 1) := by
  unfold rS
  rw [show dL q (k + 1) m = some m by show cond (q m) (some m) (dL q k (m + 1)) = _; rw [h]; rfl, show dC q (k + 1) m = dC q k (m + 1) + 1 by show dC q k (m + 1) + cond (q m) 1 0 = _; rw [h]; rfl, if_neg (show ¬ acc + 1 = 0 by omega), show acc + (dC q k (m + 1) + 1) = acc + 1 + dC q k (m + 1) by omega]
theorem rS_0 (q : Nat → Bool) (b : Bool) (acc : Nat) (le : Option Nat) (m : Nat) (h : acc = 0 → le = none) : rS q b acc le 0 m = cond b (bI le) (nI acc) := by
  unfold rS
  by_cases h0 : acc = 0
  · rw [if_pos h0, h h0]; rfl
  · rw [if_neg h0]; rfl
theorem c_saids (sa : Nat → Nat) (d : Nat) {h : AH} {co : Nat} {S : ST} {P : PS} (hE : cE h co S 17 P) (hB : pB P) (hK : pK P) {l n : Nat} (hl : l < P 3) (hn : n ≤ 12) (h4 : P 4 ≤ 10000) {f : Nat → Int32} (e1 : S.1 32 2 = nI n) (e2 : ∀ j, j < n → S.2.2 37 j = f j) {what : Nat} (hw : what = 1 ∨ what = 2) : ∃ S' : ST, AMC sa (d + 6) 45 [.ref (co + 32), .ref (co + 17), .int (nI l), .int (bv (decide (what = 2)))] (mk h co S) = some (some (.int (ftA P l what f n)), mk h co S') ∧ fr 33 37 S S' := by
  have h7 := hB.2.1
  have b4 := hB.2.2.2.1 l (by omega)
  have eLo : ftLo what = 0 := if_neg (by omega)
  have eHi : ftHi P l what = P (13 + 4 * l) := by unfold ftHi; rw [if_neg (by omega), if_pos (by omega)]
  have ePl : ftPl l what = 14 + 4 * l := by unfold ftPl; rw [if_neg (by omega), if_pos (by omega)]
  have loop : ∀ (b : Bool) k m acc (le : Option Nat) S1, m + k = 64 → acc ≤ m → (acc = 0 → le = none) → fr 33 37 S S1 → ∃ S' : ST, AMV sa (d + 5) 45 10 [.ref (co + 32), .ref (co + 17), .int (nI l), .int (bv b), .int (nI acc), .int (bI le), .int (nI m)] [] (mk h co S1) = some (some (.int (rS (ftQ P l what f n) b acc le k m)), mk h co S') ∧ fr 33 37 S S' := by
    intro b k
    induction k with
    | zero =>
      intro m acc le S1 hm ha hle hf
      refine ⟨S1, ?_, hf⟩
      rw [eX4_fittingSaids_10, if_pos (show (64 : Int32) ≤ nI m from nI_le (a := 64) (by omega) (by omega)), rS_0 _ _ _ _ _ hle]
      cases b with
      | false => rw [if_pos bvf]; rfl
      | true => rw [if_neg bvn]; rfl
    | succ k ih =>
      intro m acc le S1 hm ha hle hf
      have hE1 : cE h co S1 17 P := cE_fr hE hf (by decide)
      obtain ⟨j1, j2, j3⟩ := hE1.2.2.2.2.2.2.2.2 l hl
      have hqq := ftQ_12 P l f n m hw
      have hkk := (n_lt64 m (by omega) _ b4.2.1).2.2
      rw [eX4_fittingSaids_10, if_neg (show ¬ (64 : Int32) ≤ nI m from nI_ge (b := 64) (by omega) (by decide)), gR_17_1, aOp_s, show aIL (mk h co S1) (co + 19) (nI l) = some (S1.2.2 19 l) from qL (c := 17) hE.1 h co S1 (j := 2) (by decide) (by decide) (by omega), aOp_s, show S1.2.2 19 l = nI (P (13 + 4 * l)) from j2, n_andn _ (by omega) _ b4.2.1]
      by_cases hc : m &&& (63 ^^^ P (13 + 4 * l)) = 0
      · rw [decide_eq_true hc, Bool.true_and] at hqq
        have hmle := n_sub6 m (by omega) _ b4.2.1 hc
        obtain ⟨S2, g1, g2, g3⟩ := c_try sa (d + 4) hE1 hB
        have g4 := cE_said g2 hB l m
        have g5 : fr 33 37 S (sA S2 (33 + 3) (upd (S2.2.2 (33 + 3)) l (nI m))) := fr_A (fr_trans hf g3) (by decide) (by decide) _
        obtain ⟨S3, k1, k2⟩ := c_trial sa d (S1 := S) hE hB hK hl hn h4 e1 e2 (what := what) (v := m) (by omega) (by omega) (by rw [ePl]; exact g4) g5
        rw [ePl] at k1
        rw [if_pos (show nI (m &&& (63 ^^^ P (13 + 4 * l))) = 0 by rw [hc]; rfl), gR_32_0, aOp_s, gC_33, aOp_s, g1, aRV_mk, aOp_s, gR_32_0, aOp_s, gR_33_2, aOp_s, show aIS (mk h co S2) (co + 36) (nI l) (nI m) = some (mk h co (sA S2 (33 + 3) (upd (S2.2.2 (33 + 3)) l (nI m)))) from qS q33 h co S2 (j := 3) (by decide) (by decide) (by omega) _, aOp_s, gC_32, aOp_s, k1, aRI_mk, aOp_s]
        cases hb : fT (pUp P (14 + 4 * l) m) l f n with
        | false =>
          rw [hb] at hqq
          rw [if_pos bvf, nI_1, rS_no hqq]
          exact ih (m + 1) acc le S3 (by omega) (by omega) hle k2
        | true =>
          rw [hb] at hqq
          rw [if_neg bvn, rS_yes hqq]
          by_cases h0 : acc = 0
          · rw [if_pos (show nI acc = 0 by rw [h0]; rfl), eX4_fittingSaids_73, nI_1, nI_1, if_pos h0]
            exact ih (m + 1) (acc + 1) (some m) S3 (by omega) (by omega) (fun z => by omega) k2
          · rw [if_neg (nI_ne0 (by omega) (by omega)), eX4_fittingSaids_73, nI_1, nI_1, if_neg h0]
            exact ih (m + 1) (acc + 1) le S3 (by omega) (by omega) (fun z => by omega) k2
      · rw [decide_eq_false hc, Bool.false_and] at hqq
        rw [if_neg (nI_ne0 (by omega) (by omega)), nI_1, rS_no hqq]
        exact ih (m + 1) acc le S1 (by omega) (by omega) hle hf
  obtain ⟨S', g1, g2⟩ := loop (decide (what = 2)) 64 0 0 none S rfl (Nat.le_refl _) (fun _ => rfl) (fr_refl _ _ _)
  refine ⟨S', ?_, g2⟩
  have no : ∀ v, P (13 + 4 * l) + 1 ≤ v → v < 64 → ftQ P l what f n v = false := by
    intro v h1 h2
    rw [ftQ_12 P l f n v hw, decide_eq_false (fun z => by have := n_sub6 v h2 _ b4.2.1 z; omega), Bool.false_and]
  have eC : dC (ftQ P l what f n) 64 0 = dC (ftQ P l what f n) (P (13 + 4 * l) + 1) 0 := by
    have := dC_add (ftQ P l what f n) (P (13 + 4 * l) + 1) (63 - P (13 + 4 * l)) 0
    rw [show P (13 + 4 * l) + 1 + (63 - P (13 + 4 * l)) = 64 by omega, dC_no _ (63 - P (13 + 4 * l)) _ (fun v h1 h2 => no v (by omega) (by omega)), Nat.add_zero] at this
    exact this
  have eL : dL (ftQ P l what f n) 64 0 = dL (ftQ P l what f n) (P (13 + 4 * l) + 1) 0 := by
    have := dL_add (ftQ P l what f n) (63 - P (13 + 4 * l)) (P (13 + 4 * l) + 1) 0 (fun v h1 h2 => no v (by omega) (by omega))
    rw [show P (13 + 4 * l) + 1 + (63 - P (13 + 4 * l)) = 64 by omega] at this
    exact this
  have ea : rS (ftQ P l what f n) (decide (what = 2)) 0 none 64 0 = ftA P l what f n := by
    unfold rS ftA
    rw [if_pos rfl, eC, eL, eLo, eHi, if_neg (show ¬ what = 0 by omega), Nat.zero_add, Nat.sub_zero]
    rcases hw with rfl | rfl
    · rfl
    · rfl
  rw [fX4_fittingSaids, eX4_fittingSaids_0, ← ea]
  exact g1
theorem c_limits (sa : Nat → Nat) (d : Nat) {h : AH} {co : Nat} {S : ST} {P : PS} (hE : cE h co S 17 P) (hB : pB P) (hK : pK P) {l n : Nat} (hl : l < P 3) (hn : n ≤ 12) (h4 : P 4 ≤ 10000) {f : Nat → Int32} (e1 : S.1 32 2 = nI n) (e2 : ∀ j, j < n → S.2.2 37 j = f j) {what : Nat} (hw : what = 3 ∨ what = 4) : ∃ S' : ST, AMC sa (d + 6) 46 [.ref (co + 32), .ref (co + 17), .int (nI l), .int (bv (decide (what = 4)))] (mk h co S) = some (some (.int (ftA P l what f n)), mk h co S') ∧ fr 33 37 S S' := by
  have h7 := hB.2.1
  have eLo : ftLo what = 0 := if_neg (by omega)
  have eHi : ftHi P l what = 60 := by unfold ftHi; rw [if_neg (by omega), if_neg (by omega)]
  have ePl : ftPl l what = 1 := by unfold ftPl; rw [if_neg (by omega), if_neg (by omega)]
  have loop : ∀ (b : Bool) k m acc (le : Option Nat) S1, m + k = 61 → acc ≤ m → (acc = 0 → le = none) → fr 33 37 S S1 → ∃ S' : ST, AMV sa (d + 5) 46 10 [.ref (co + 32), .ref (co + 17), .int (nI l), .int (bv b), .int (nI acc), .int (bI le), .int (nI m)] [] (mk h co S1) = some (some (.int (rS (ftQ P l what f n) b acc le k m)), mk h co S') ∧ fr 33 37 S S' := by
    intro b k
    induction k with
    | zero =>
      intro m acc le S1 hm ha hle hf
      refine ⟨S1, ?_, hf⟩
      rw [eX4_fittingLimits_10, if_pos (show (60 : Int32) < nI m from nI_lt (a := 60) (by omega) (by omega)), rS_0 _ _ _ _ _ hle]
      cases b with
      | false => rw [if_pos bvf]; rfl
      | true => rw [if_neg bvn]; rfl
    | succ k ih =>
      intro m acc le S1 hm ha hle hf
      have hE1 : cE h co S1 17 P := cE_fr hE hf (by decide)
      have hqq := ftQ_34 P l f n m hw
      obtain ⟨S2, g1, g2, g3⟩ := c_try sa (d + 4) hE1 hB
      have g4 := cE_num g2 hB (k := 7) (j := 1) (Or.inr (Or.inl ⟨rfl, rfl⟩)) m
      have g5 : fr 33 37 S (sI S2 33 7 (nI m)) := fr_I (fr_trans hf g3) (by decide) (by decide) _ _
      obtain ⟨S3, k1, k2⟩ := c_trial sa d (S1 := S) hE hB hK hl hn h4 e1 e2 (what := what) (v := m) (by omega) (by omega) (by rw [ePl]; exact g4) g5
      rw [ePl] at k1
      rw [eX4_fittingLimits_10, if_neg (show ¬ (60 : Int32) < nI m from nI_nlt (a := 60) (by omega) (by decide)), gR_32_0, aOp_s, gC_33, aOp_s, g1, aRV_mk, aOp_s, gR_32_0, aOp_s, gP_33_7, aOp_s, gC_32, aOp_s, k1, aRI_mk, aOp_s]
      cases hb : fT (pUp P 1 m) l f n with
      | false =>
        rw [hb] at hqq
        rw [if_pos bvf, nI_1, rS_no hqq]
        exact ih (m + 1) acc le S3 (by omega) (by omega) hle k2
      | true =>
        rw [hb] at hqq
        rw [if_neg bvn, rS_yes hqq]
        by_cases h0 : acc = 0
        · rw [if_pos (show nI acc = 0 by rw [h0]; rfl), eX4_fittingLimits_54, nI_1, nI_1, if_pos h0]
          exact ih (m + 1) (acc + 1) (some m) S3 (by omega) (by omega) (fun z => by omega) k2
        · rw [if_neg (nI_ne0 (by omega) (by omega)), eX4_fittingLimits_54, nI_1, nI_1, if_neg h0]
          exact ih (m + 1) (acc + 1) le S3 (by omega) (by omega) (fun z => by omega) k2
  obtain ⟨S', g1, g2⟩ := loop (decide (what = 4)) 61 0 0 none S rfl (Nat.le_refl _) (fun _ => rfl) (fr_refl _ _ _)
  refine ⟨S', ?_, g2⟩
  have ea : rS (ftQ P l what f n) (decide (what = 4)) 0 none 61 0 = ftA P l what f n := by
    unfold rS ftA
    rw [if_pos rfl, eLo, eHi, if_neg (show ¬ what = 0 by omega), Nat.zero_add]
    rcases hw with rfl | rfl
    · rfl
    · rfl
  rw [fX4_fittingLimits, eX4_fittingLimits_0, ← ea]
  exact g1
/-! slips -/
def cB (s : Nat) : Nat → Nat
  | 0 => 0
  | k + 1 => cB s k + cond (s.testBit k) 1 0
theorem pC_cB : ∀ s, s < 128 → pC s = cB s 7 := by decide +kernel
theorem cB_ext {s k : Nat} (h : s < 2 ^ k) : ∀ m, cB s (k + m) = cB s k
  | 0 => rfl
  | m + 1 => by
    have hp : 2 ^ k ≤ 2 ^ (k + m) := Nat.pow_le_pow_right (by decide) (by omega)
    show cB s (k + m) + cond (s.testBit (k + m)) 1 0 = cB s k
    rw [cB_ext h m, Nat.testBit_lt_two_pow (show s < 2 ^ (k + m) by omega)]
    rfl
theorem pC_k {s k : Nat} (hk : k ≤ 6) (h : s < 2 ^ k) : pC s = cB s k := by
  have h64 := p2_64 k hk
  rw [pC_cB s (by omega), show 7 = k + (7 - k) by omega, cB_ext h]
theorem n_sb {s o : Nat} (h : s &&& (63 ^^^ o) = 0) {i : Nat} (hi : i < 6) (hs : s.testBit i = true) : o.testBit i = true := by
  have e : (s &&& (63 ^^^ o)).testBit i = false := by rw [h, Nat.zero_testBit]
  rw [Nat.testBit_and, Nat.testBit_xor, show 63 = 2 ^ 6 - 1 from rfl, Nat.testBit_two_pow_sub_one, hs, decide_eq_true hi] at e
  cases ho : o.testBit i with
  | true => rfl
  | false => rw [ho] at e; cases e
theorem slW_eq {op s c : Nat} (h : s &&& (63 ^^^ op) = 0) : ∀ k, k ≤ 6 → slW op s c k = c ^ cB s k * (10 - c) ^ cB (op &&& (63 ^^^ s)) k
  | 0, _ => rfl
  | k + 1, hk => by
    have ih := slW_eq (c := c) h k (by omega)
    have hb : (op &&& (63 ^^^ s)).testBit k = (op.testBit k && !(s.testBit k)) := by
      rw [Nat.testBit_and, Nat.testBit_xor, show 63 = 2 ^ 6 - 1 from rfl, Nat.testBit_two_pow_sub_one, decide_eq_true (show k < 6 by omega), Bool.true_xor]
    show slW op s c k * cond (op.testBit k) (cond (s.testBit k) c (10 - c)) 1 = c ^ (cB s k + cond (s.testBit k) 1 0) * (10 - c) ^ (cB (op &&& (63 ^^^ s)) k + cond ((op &&& (63 ^^^ s)).testBit k) 1 0)
    rw [ih, hb]
    cases hs : s.testBit k with
    | true =>
      rw [n_sb h (by omega) hs]
      show c ^ cB s k * (10 - c) ^ cB (op &&& (63 ^^^ s)) k * c = c ^ (cB s k + 1) * (10 - c) ^ cB (op &&& (63 ^^^ s)) k
      rw [Nat.pow_succ, Nat.mul_right_comm]
    | false =>
      cases ho : op.testBit k with
      | true =>
        show c ^ cB s k * (10 - c) ^ cB (op &&& (63 ^^^ s)) k * (10 - c) = c ^ cB s k * (10 - c) ^ (cB (op &&& (63 ^^^ s)) k + 1)
        rw [Nat.pow_succ, Nat.mul_assoc]
      | false =>
        show c ^ cB s k * (10 - c) ^ cB (op &&& (63 ^^^ s)) k * 1 = c ^ cB s k * (10 - c) ^ cB (op &&& (63 ^^^ s)) k
        rw [Nat.mul_one]
theorem slA_ext {P : PS} (hB : pB P) {l : Nat} (hl : l < 7) (w N c : Nat) : ∀ m, pU P l + 1 + m ≤ 64 → slA P l w N c (pU P l + 1 + m) = slA P l w N c (pU P l + 1)
  | 0, _ => rfl
  | m + 1, h => by
    have ih := slA_ext hB hl w N c m (by omega)
    show slA P l w N c (pU P l + 1 + m) + (if _ then _ else 0) = _
    rw [if_neg (fun z => by have := n_sub6 (pU P l + 1 + m) (by omega) (pU P l) (pU_lt hB hl) z.1; omega), ih, Nat.add_zero]
theorem slA_64 {P : PS} (hB : pB P) {l : Nat} (hl : l < 7) (w N c : Nat) : slA P l w N c 64 = slA P l w N c (pU P l + 1) := by
  have hu := pU_lt hB hl
  have := slA_ext hB hl w N c (63 - pU P l) (by omega)
  rw [show pU P l + 1 + (63 - pU P l) = 64 by omega] at this
  exact this
theorem c_light (sa : Nat → Nat) (d : Nat) {h : AH} {co : Nat} {S : ST} {P : PS} (hE : cE h co S 17 P) (hB : pB P) (hK : pK P) {l w N c : Nat} (hl : l < P 3) (hw : w < 100) (hN : N < 31) (hc : c < 11) (h4 : P 4 ≤ 10000) : ∃ S' : ST, AMC sa (d + 6) 47 [.ref (co + 32), .ref (co + 17), .int (nI l), .int (nI w), .int (nI N), .int (nI c)] (mk h co S) = some (some (.int (nI (slA P l w N c (pU P l + 1)))), mk h co S') ∧ fr 33 37 S S' := by
  have h7 := hB.2.1
  have h6 := hB.1
  have b4 := hB.2.2.2.1 l (by omega)
  have hu := pU_lt hB (l := l) (by omega)
  have huw := pU_w hK hl
  have loop : ∀ m k S1 x9, k + m = 64 → fr 33 37 S S1 → ∃ S' : ST, AMV sa (d + 5) 47 13 [.ref (co + 32), .ref (co + 17), .int (nI l), .int (nI w), .int (nI N), .int (nI c), .int (nI (pU P l)), .int (nI (slA P l w N c k)), .int (nI k), x9] [] (mk h co S1) = some (some (.int (nI (slA P l w N c 64))), mk h co S') ∧ fr 33 37 S S' := by
    intro m
    induction m with
    | zero =>
      intro k S1 x9 hk hf
      have hk : k = 64 := hk
      refine ⟨S1, ?_, hf⟩
      rw [eX4_lightCases_13, if_pos (show (64 : Int32) ≤ nI k from nI_le (a := 64) (by omega) (by omega)), hk]
    | succ m ih =>
      intro k S1 x9 hk hf
      have ea : slA P l w N c (k + 1) = slA P l w N c k + (if k &&& (63 ^^^ pU P l) = 0 ∧ pW (pDays (pSay P l k) N) l ≤ w then slW (pU P l) k c (P 2) else 0) := rfl
      have hkk := (n_lt64 k (by omega) _ hu).2.2
      rw [eX4_lightCases_13, if_neg (show ¬ (64 : Int32) ≤ nI k from nI_ge (b := 64) (by omega) (by decide)), n_andn _ (by omega) _ hu]
      by_cases hk0 : k &&& (63 ^^^ pU P l) = 0
      · have hE1 : cE h co S1 17 P := cE_fr hE hf (by decide)
        obtain ⟨S2, g1, g2, g3⟩ := c_try sa (d + 4) hE1 hB
        have hor : P (14 + 4 * l) ||| k < 64 := n_or64 _ b4.2.2.1 _ (by omega)
        have g4 : cE h co (sA S2 (33 + 3) (upd (S2.2.2 (33 + 3)) l (nI (P (14 + 4 * l) ||| k)))) 33 (pSay P l k) := cE_said g2 hB l _
        have g5 : fr 33 37 S (sA S2 (33 + 3) (upd (S2.2.2 (33 + 3)) l (nI (P (14 + 4 * l) ||| k)))) := fr_A (fr_trans hf g3) (by decide) (by decide) _
        have sB : pB (pSay P l k) := pB_said hB l hor
        have sK : pK (pSay P l k) := pK_up hK _ ⟨by omega, by omega, fun i _ => by omega⟩ h7
        have s4 : pSay P l k 4 = P 4 := pUp_ne _ _ (by omega)
        have s3 : pSay P l k 3 = P 3 := pUp_ne _ _ (by omega)
        obtain ⟨S3, k1, k2, k3⟩ := c_passDays sa d g4 sB sK (n := N) (by omega)
        have dB := (pDays_B sB N (by omega)).1
        have d3 := pDays_3 sB (n := N) (by omega)
        have hf3 := fr_trans g5 k3
        have hwl : pW (pDays (pSay P l k) N) l ≤ 108 := pWB_le dB l _
        obtain ⟨j1, j2, j3⟩ := g2.2.2.2.2.2.2.2.2 l hl
        rw [if_pos (show nI (k &&& (63 ^^^ pU P l)) = 0 by rw [hk0]; rfl), gR_32_0, aOp_s, gC_33, aOp_s, g1, aRV_mk, aOp_s, gR_32_0, aOp_s, gR_33_2, aOp_s, show aIL (mk h co S2) (co + 36) (nI l) = some (S2.2.2 (33 + 3) l) from qL q33 h co S2 (j := 3) (by decide) (by decide) (by omega), aOp_s, j3, n_or _ (by omega) _ (by omega), show aIS (mk h co S2) (co + 36) (nI l) (nI (P (14 + 4 * l) ||| k)) = some (mk h co (sA S2 (33 + 3) (upd (S2.2.2 (33 + 3)) l (nI (P (14 + 4 * l) ||| k))))) from qS q33 h co S2 (j := 3) (by decide) (by decide) (by omega) _, aOp_s, gR_32_0, aOp_s, gC_33, aOp_s, k1, aRV_mk, aOp_s, gR_32_0, aOp_s, gC_33, aOp_s, c_weight sa (d + 3) k2 dB (pK_days sK sB N (by omega)) (by omega), aRI_mk, aOp_s]
        by_cases hx : pW (pDays (pSay P l k) N) l ≤ w
        · rw [if_pos ⟨hk0, hx⟩] at ea
          have hk2 : k < 2 ^ P 2 := by
            have := n_sub6 k (by omega) _ hu hk0
            omega
          have hk3 : pU P l &&& (63 ^^^ k) < 2 ^ P 2 := Nat.lt_of_le_of_lt Nat.and_le_left huw
          have p1 := pC_le k (by omega)
          have hk4 : pU P l &&& (63 ^^^ k) < 128 := Nat.lt_of_le_of_lt Nat.and_le_left (show pU P l < 128 by omega)
          have p2 := pC_le (pU P l &&& (63 ^^^ k)) hk4
          have eW : slW (pU P l) k c (P 2) = c ^ pC k * (10 - c) ^ pC (pU P l &&& (63 ^^^ k)) := by
            rw [slW_eq hk0 (P 2) h6, pC_k h6 hk2, pC_k h6 hk3]
          rw [eW] at ea
          rw [if_neg (nI_nlt hx (by omega)), n_andn _ hu _ (by omega), c_bits sa (d + 4) hk4, aRI_mk, aOp_s, c_bits sa (d + 4) (show k < 128 by omega), aRI_mk, aOp_s, c_power sa (d + 4) c (by omega), aRI_mk, aOp_s, show (10 : Int32) - nI c = nI (10 - c) from pk_sub (a := 10) (by omega), c_power sa (d + 4) (10 - c) (by omega), aRI_mk, aOp_s, pk_mul, nI_add, nI_1, ← ea]
          exact ih (k + 1) S3 _ (by omega) hf3
        · rw [if_neg (fun z => hx z.2)] at ea
          have ea : slA P l w N c (k + 1) = slA P l w N c k := ea
          rw [if_pos (nI_lt (by omega) (by omega)), nI_1, ← ea]
          exact ih (k + 1) S3 _ (by omega) hf3
      · rw [if_neg (fun z => hk0 z.1)] at ea
        have ea : slA P l w N c (k + 1) = slA P l w N c k := ea
        rw [if_neg (nI_ne0 (by omega) (by omega)), nI_1, ← ea]
        exact ih (k + 1) S1 _ (by omega) hf
  obtain ⟨S', g1, g2⟩ := loop 64 0 S .null rfl (fr_refl _ _ _)
  refine ⟨S', ?_, g2⟩
  rw [fX4_lightCases, eX4_lightCases_0, gC_17, aOp_s, c_unsaid sa (d + 4) hE hB hl, aRI_mk, aOp_s, ← slA_64 hB (by omega) w N c]
  exact g1
/-! draws -/
theorem pK_dwJ {P : PS} (hK : pK P) (h7 : P 3 ≤ 7) (x j : Nat) : pK (dwJ P x j) := by
  have e15 : pK (pUp P (15 + 4 * j) 0) := pK_up hK _ ⟨by omega, by omega, fun i _ => by omega⟩ h7
  unfold dwJ
  split
  · split
    · exact pK_up e15 _ ⟨by omega, by omega, fun i _ => by omega⟩ (by rw [pUp_ne _ _ (by omega)]; exact h7)
    · exact e15
  · exact hK
theorem dwN_K {P : PS} (hB : pB P) (hK : pK P) {s : Nat} (hs : s < 2147483647) : ∀ k, P 4 + k ≤ 100000 → pK (dwN P s k).1
  | 0, _ => hK
  | k + 1, h => by
    obtain ⟨h1, h2, h3, h4⟩ := dwN_B hB hs k (by omega)
    have ih := dwN_K hB hK hs k (by omega)
    have hk1 : pK (pUp (dwN P s k).1 0 (lc (dwN P s k).2 % 30)) := pK_up ih _ ⟨by omega, by omega, fun i _ => by omega⟩ h1.2.1
    exact pK_day (pK_dwJ hk1 (by rw [pUp_ne _ _ (by omega)]; exact h1.2.1) _ _) (pB_dwJ (pB_strap h1 (by omega)) _ _)
theorem c_draw (sa : Nat → Nat) (d : Nat) {h : AH} {co : Nat} {S : ST} {P : PS} (hE : cE h co S 17 P) (hB : pB P) (hK : pK P) {n s : Nat} (hz : 0 < P 3) (hn : n < 61) (hs2 : s ≤ 999999) (h4 : P 4 ≤ 10000) : ∃ S' : ST, AMC sa (d + 5) 48 [.ref (co + 32), .ref (co + 17), .int (nI n), .int (nI s)] (mk h co S) = some (some (.ref (co + 33)), mk h co S') ∧ cE h co S' 33 (dwN P s n).1 ∧ fr 33 37 S S' := by
  have b3 := hB.2.1
  have loop : ∀ m k S1 x7, k + m = n → cE h co S1 33 (dwN P s k).1 → fr 33 37 S S1 → ∃ S' : ST, AMV sa (d + 4) 48 15 [.ref (co + 32), .ref (co + 17), .int (nI n), .int (nI s), .long (lN (dwN P s k).2), .null, .int (nI k), x7] [] (mk h co S1) = some (some (.ref (co + 33)), mk h co S') ∧ cE h co S' 33 (dwN P s n).1 ∧ fr 33 37 S S' := by
    intro m
    induction m with
    | zero =>
      intro k S1 x7 hk hE1 hf
      have hk : k = n := hk
      refine ⟨S1, ?_, by rw [← hk]; exact hE1, hf⟩
      rw [eX4_draw_15, if_pos (nI_le (by omega) (by omega)), gR_32_0, aOp_s]
    | succ m ih =>
      intro k S1 x7 hk hE1 hf
      obtain ⟨q1, q2, q3, q4⟩ := dwN_B hB (s := s) (by omega) k (by omega)
      have qK := dwN_K hB hK (s := s) (by omega) k (by omega)
      have ihk := ih (k + 1)
      have es : dwN P s (k + 1) = (dw (dwN P s k).1 (lc (dwN P s k).2), lc (dwN P s k).2) := rfl
      rw [es] at ihk
      generalize hZ : dwN P s k = Z at *
      obtain ⟨Q, x⟩ := Z
      dsimp only at *
      have hx1 : lc x < 2147483647 := Nat.mod_lt _ (by decide)
      rw [eX4_draw_15, if_neg (nI_ge (by omega) (by omega)), if_neg (show ¬ lN 2147483647 = 0 by decide), lN_mul, pk_lRem (by omega) (by decide) (by decide), eX4_draw_31, gR_32_0, aOp_s, if_neg (show ¬ lN 30 = 0 by decide)]
      rw [show x * 16807 % 2147483647 = lc x from rfl]
      generalize lc x = y at *
      have hp1 : pB (pUp Q 0 (y % 30)) := pB_strap q1 (by omega)
      have kp1 : pK (pUp Q 0 (y % 30)) := pK_up qK _ ⟨by omega, by omega, fun i _ => by omega⟩ q1.2.1
      have c1 : cE h co (sI S1 33 6 (nI (y % 30))) 33 (pUp Q 0 (y % 30)) := cE_num hE1 q1 (Or.inl ⟨rfl, rfl⟩) _
      have f1 : fr 33 37 S (sI S1 33 6 (nI (y % 30))) := fr_I hf (by decide) (by decide) _ _
      have e3 : pUp Q 0 (y % 30) 3 = Q 3 := pUp_ne _ _ (by decide)
      rw [pk_lRem (by omega) (by decide) (by decide), eX4_draw_43, lN_i, gP_33_6, aOp_s, if_neg (show ¬ lN 3 = 0 by decide), pk_lRem (by omega) (by decide) (by decide), eX4_draw_53]
      generalize sI S1 33 6 (nI (y % 30)) = S2 at *
      have hj : y % Q 3 < Q 3 := Nat.mod_lt _ (by omega)
      have fin : ∀ S3 x7, cE h co S3 33 (dwJ (pUp Q 0 (y % 30)) y (y % Q 3)) → fr 33 37 S S3 → ∃ S' : ST, AMV sa (d + 4) 48 126 [.ref (co + 32), .ref (co + 17), .int (nI n), .int (nI s), .long (lN y), .null, .int (nI k), x7] [] (mk h co S3) = some (some (.ref (co + 33)), mk h co S') ∧ cE h co S' 33 (dwN P s n).1 ∧ fr 33 37 S S' := by
        intro S3 x7 c3 f3
        obtain ⟨S4, b, g1, g2, g3, -⟩ := c_passDay sa d c3 (pB_dwJ hp1 _ _) (pK_dwJ kp1 (by rw [e3]; exact q1.2.1) _ _)
        rw [eX4_draw_126, gR_32_0, aOp_s, gC_33, aOp_s, g1, aRI_mk, aOp_s, nI_1]
        exact ihk S4 _ (by omega) g2 (fr_trans f3 g3)
      by_cases h3 : y % 3 = 0
      · obtain ⟨S3, g1, g2, g3⟩ := c_takeReturned sa (d + 3) c1 hp1 (l := y % Q 3) (by omega)
        have f3 := fr_trans f1 g3
        have rB : pB (pUp (pUp Q 0 (y % 30)) (15 + 4 * (y % Q 3)) 0) := pB_sent hp1 _ (by decide)
        rw [if_pos ((n_cmp (by omega)).mpr h3), gR_32_0, aOp_s, gI_33_4, aOp_s, c1.2.2.1, e3, if_neg (nI_nle (by omega) (by omega)), aOp_s, gI_33_4, aOp_s, c1.2.2.1, e3, nI_l (by omega), if_neg (show ¬ lN (Q 3) = 0 from fun z => by have := (pk_lEQ (a := Q 3) (b := 0) (by omega) (by decide)).mp z; omega), pk_lRem (by omega) (by omega) (by omega), eX4_draw_79, lN_i, gR_32_0, aOp_s, gC_33, aOp_s, g1, aRV_mk, aOp_s, gR_32_0, aOp_s, gR_33_2, aOp_s, if_neg (show ¬ lN 2 = 0 by decide), pk_lRem (by omega) (by decide) (by decide), eX4_draw_106]
        have wr : ∀ x : Int32, aIS (mk h co S3) (co + 36) (nI (y % Q 3)) x = some (mk h co (sA S3 (33 + 3) (upd (S3.2.2 (33 + 3)) (y % Q 3) x))) := fun x => qS q33 h co S3 (j := 3) (by decide) (by decide) (by omega) x
        by_cases h2 : y % 2 = 0
        · rw [if_pos ((n_cmp (by omega)).mpr h2), wr, aOp_s]
          refine fin _ _ ?_ (fr_A f3 (by decide) (by decide) _)
          unfold dwJ
          rw [if_pos h3, if_pos h2]
          exact cE_said g2 rB _ 0
        · have g4 := cE_said g2 rB (y % Q 3) (pUp (pUp Q 0 (y % 30)) (15 + 4 * (y % Q 3)) 0 (14 + 4 * (y % Q 3)))
          rw [pUp_self] at g4
          obtain ⟨j1, j2, j3⟩ := g2.2.2.2.2.2.2.2.2 (y % Q 3) (by rw [pUp_ne _ _ (by omega), e3]; exact hj)
          rw [if_neg (fun z => h2 ((n_cmp (by omega)).mp z)), gR_32_0, aOp_s, gR_33_2, aOp_s, show aIL (mk h co S3) (co + 36) (nI (y % Q 3)) = some (S3.2.2 (33 + 3) (y % Q 3)) from qL q33 h co S3 (j := 3) (by decide) (by decide) (by omega), aOp_s, wr, aOp_s, j3]
          refine fin _ _ ?_ (fr_A f3 (by decide) (by decide) _)
          unfold dwJ
          rw [if_pos h3, if_neg h2]
          exact g4
      · rw [if_neg (fun z => h3 ((n_cmp (by omega)).mp z))]
        refine fin _ _ ?_ f1
        unfold dwJ
        rw [if_neg h3]
        exact c1
  obtain ⟨S1, g1, g2, g3⟩ := c_try sa (d + 3) hE hB
  obtain ⟨S', k1, k2⟩ := loop n 0 S1 .null (by omega) g2 g3
  refine ⟨S', ?_, k2⟩
  rw [fX4_draw, eX4_draw_0, gR_32_0, aOp_s, gC_33, aOp_s, g1, aRV_mk, aOp_s, nI_l (by omega)]
  exact k1
