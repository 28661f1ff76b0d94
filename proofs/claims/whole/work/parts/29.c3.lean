/-! ===== the class: a day, days, becoming another ===== -/
theorem c_day101 (sa : Nat → Nat) (d : Nat) (x0 : Nat) (bb tk : Bool) (x2 x3 : Int32) {b : Nat} (hb : b < 64) (x5 : Int32) (H : AH) : AMV sa d 20 101 [.ref x0, .int (bv bb), .int x2, .int x3, .int (nI b), .int x5, .int (bv tk)] [] H = AMV sa d 20 9 [.ref x0, .int (bv (bb || (tk || decide (b ≠ 0)))), .int x2, .int (x3 + 1), .int (nI b), .int x5, .int (bv tk)] [] H := by
  rw [eX2_passDay_101]
  cases bb with
  | true => rw [if_neg bvn, eX2_passDay_120]; rfl
  | false =>
    rw [if_pos bvf]
    cases tk with
    | true => rw [if_neg bvn, eX2_passDay_120]; rfl
    | false =>
      rw [if_pos bvf]
      by_cases hz : b = 0
      · rw [if_pos (show nI b = 0 by rw [hz]; rfl), eX2_passDay_120, hz]; rfl
      · rw [if_neg (nI_ne0 (by omega) (by omega)), eX2_passDay_120, decide_eq_true hz]; rfl
theorem pK_of {P Q : PS} (hK : pK P) (e3 : Q 3 = P 3) (e2 : Q 2 = P 2) (e : ∀ l, l < P 3 → Q (12 + 4 * l) = P (12 + 4 * l) ∧ Q (13 + 4 * l) = P (13 + 4 * l)) : pK Q := fun l hl => by
  rw [e3] at hl
  rw [e2, (e l hl).1, (e l hl).2]
  exact hK l hl
theorem pK_up {P : PS} (hK : pK P) {j : Nat} (x : Nat) (hj : j ≠ 3 ∧ j ≠ 2 ∧ ∀ l, l < 7 → j ≠ 12 + 4 * l ∧ j ≠ 13 + 4 * l) (h7 : P 3 ≤ 7) : pK (pUp P j x) := pK_of hK (pUp_ne _ _ (by omega)) (pUp_ne _ _ (by omega)) (fun l hl => ⟨pUp_ne _ _ (fun z => (hj.2.2 l (by omega)).1 z.symm), pUp_ne _ _ (fun z => (hj.2.2 l (by omega)).2 z.symm)⟩)
theorem pK_day {P : PS} (hK : pK P) (hB : pB P) : pK (pDay P) := pK_of hK (pDay_ne hB (by decide) (by decide) (fun l _ => by omega)) (pDay_ne hB (by decide) (by decide) (fun l _ => by omega)) (fun l _ => ⟨pDay_ne hB (by omega) (by omega) (fun i _ => by omega), pDay_ne hB (by omega) (by omega) (fun i _ => by omega)⟩)
theorem c_passDay (sa : Nat → Nat) (d : Nat) {h : AH} {co : Nat} {S : ST} {c : Nat} {P : PS} (hE : cE h co S c P) (hB : pB P) (hK : pK P) : ∃ (S' : ST) (b : Bool), AMC sa (d + 4) 20 [.ref (co + c)] (mk h co S) = some (some (.int (bv b)), mk h co S') ∧ cE h co S' c (pDay P) ∧ fr c (c + 4) S S' ∧ (b = false → ∀ l, l < P 3 → qt P l) := by
  have hq := hE.1
  have hL : P 3 ≤ 7 := hB.2.1
  have h0 : P 0 ≤ 99 := hB.2.2.2.2.1
  have hv : ∀ l, l < 7 → P (15 + 4 * l) ≤ 1 := fun l hl => (hB.2.2.2.1 l hl).2.2.2
  have loop : ∀ m k S1 bb x4 x5 x6, k + m = P 3 → cE h co S1 c (pFz (P, P 0) k).1 → fr c (c + 4) S S1 → (bb = false → ∀ l, l < k → qt P l) → ∃ (S' : ST) (b : Bool), AMV sa (d + 3) 20 9 [.ref (co + c), .int (bv bb), .int (nI (pFz (P, P 0) k).2), .int (nI k), x4, x5, x6] [] (mk h co S1) = some (some (.int (bv b)), mk h co S') ∧ cE h co S' c (pDay P) ∧ fr c (c + 4) S S' ∧ (b = false → ∀ l, l < P 3 → qt P l) := by
    intro m
    induction m with
    | zero =>
      intro k S1 bb x4 x5 x6 hk hE1 hf hqt
      have hk : k = P 3 := hk
      obtain ⟨zB, zle, zn⟩ := pFz_B hB (k := k) (by omega)
      have z3 : (pFz (P, P 0) k).1 3 = P 3 := zn 3 (by decide) (fun l _ => by omega)
      have z4 : (pFz (P, P 0) k).1 4 = P 4 := zn 4 (by decide) (fun l _ => by omega)
      refine ⟨sI S1 c 8 (nI (P 4 + 1)), bb, ?_, ?_, fr_I hf (by omega) (by omega) _ _, fun hb l hl => hqt hb l (by omega)⟩
      · rw [eX2_passDay_9, qI4 hq, aOp_s, hE1.2.2.1, z3, if_pos (nI_le (by omega) (by omega)), qI8 hq, aOp_s, hE1.2.2.2.2.2.2.1, z4, nI_1, qP8 hq, aOp_s]
        exact if_pos (bv_01 _)
      · rw [pDay_fz hB.1, ← hk]
        exact cE_num hE1 zB (Or.inr (Or.inr (Or.inl ⟨rfl, rfl⟩))) _
    | succ m ih =>
      intro k S1 bb x4 x5 x6 hk hE1 hf hqt
      obtain ⟨zB, zle, zn⟩ := pFz_B hB (k := k) (by omega)
      have z3 : (pFz (P, P 0) k).1 3 = P 3 := zn 3 (by decide) (fun l _ => by omega)
      have z2 : (pFz (P, P 0) k).1 2 = P 2 := zn 2 (by decide) (fun l _ => by omega)
      have zK : pK (pFz (P, P 0) k).1 := pK_of hK z3 z2 (fun l hl => ⟨zn _ (by omega) (fun i _ => by omega), zn _ (by omega) (fun i _ => by omega)⟩)
      have z15 : (pFz (P, P 0) k).1 (15 + 4 * k) = P (15 + 4 * k) := zn _ (by omega) (fun i _ => by omega)
      have est : pFz (P, P 0) (k + 1) = p2 (p1 (pFz (P, P 0) k).1 k, (pFz (P, P 0) k).2) k := rfl
      have qall : bb = false → pFz (P, P 0) k = (P, P 0) := fun hb => qt_all hv k (by omega) (hqt hb)
      have ihk := fun S1 bb x4 x5 x6 => ih (k + 1) S1 bb x4 x5 x6 (by omega)
      rw [est] at ihk
      generalize pFz (P, P 0) k = Z at *
      obtain ⟨Q, t⟩ := Z
      have zB : pB Q := zB
      have zle : t ≤ P 0 := zle
      have z3 : Q 3 = P 3 := z3
      have zK : pK Q := zK
      have hE1 : cE h co S1 c Q := hE1
      have z15 : Q (15 + 4 * k) = P (15 + 4 * k) := z15
      have hkQ : k < Q 3 := by omega
      have hk7 : k < 7 := by omega
      show ∃ (S' : ST) (b : Bool), AMV sa (d + 3) 20 9 [.ref (co + c), .int (bv bb), .int (nI t), .int (nI k), x4, x5, x6] [] (mk h co S1) = _ ∧ _
      rw [eX2_passDay_9, qI4 hq, aOp_s, hE1.2.2.1, z3, if_neg (nI_ge (by omega) (by omega)), qC hq, aOp_s, c_waits sa (d + 2) hE1 zB hkQ, aRI_mk, aOp_s]
      by_cases hz : Q (15 + 4 * k) = 0
      · rw [decide_eq_true hz, if_neg bvn, qC hq, aOp_s, c_blurt sa d hE1 zB zK hkQ, aRI_mk, aOp_s, qR2 hq, aOp_s]
        obtain ⟨k1, k2, k3⟩ := hE1.2.2.2.2.2.2.2.2 k hkQ
        have hbl := pBl_lt zB hk7
        have hsd := (zB.2.2.2.1 k hk7).2.2.1
        have e1 : p1 Q k = pUp Q (14 + 4 * k) (Q (14 + 4 * k) ||| pBl Q k) := by
          unfold p1
          rw [if_neg (by omega)]
        have hE2 : cE h co (sA S1 (c + 3) (upd (S1.2.2 (c + 3)) k (nI (Q (14 + 4 * k) ||| pBl Q k)))) c (p1 Q k) := by
          rw [e1]; exact cE_said hE1 zB k _
        have hf2 : fr c (c + 4) S (sA S1 (c + 3) (upd (S1.2.2 (c + 3)) k (nI (Q (14 + 4 * k) ||| pBl Q k)))) := fr_A hf (by omega) (by omega) _
        rw [qL hq h co S1 (by decide) (by decide) hk7, aOp_s, k3, n_or _ (by omega) _ (by omega), qS hq h co S1 (by decide) (by decide) hk7, aOp_s]
        generalize sA S1 (c + 3) (upd (S1.2.2 (c + 3)) k (nI (Q (14 + 4 * k) ||| pBl Q k))) = S2 at *
        have p1B := pB_p1 zB hk7
        have p13 : p1 Q k 3 = P 3 := (pUp_ne _ _ (by omega)).trans z3
        have p115 : p1 Q k (15 + 4 * k) = 0 := (pUp_ne _ _ (by omega)).trans hz
        have p1K : pK (p1 Q k) := pK_up zK _ ⟨by omega, by omega, fun l _ => ⟨by omega, by omega⟩⟩ (by omega)
        have hw : pW (p1 Q k) k ≤ 108 := pWB_le p1B k _
        have h5 : p1 Q k 5 ≤ 99999 := p1B.2.2.2.2.2.2.2
        rw [qC hq, aOp_s, c_weight sa (d + 1) hE2 p1B p1K (by omega), aRI_mk, aOp_s]
        have nq : ∀ tk : Bool, tk = decide (pW (p1 Q k) k ≤ t) → (bb || (tk || decide (pBl Q k ≠ 0))) = false → ∀ l, l < k + 1 → qt P l := by
          intro tk htk hb l hl
          rw [Bool.or_eq_false_iff, Bool.or_eq_false_iff] at hb
          obtain ⟨b1, b2, b3⟩ := hb
          have eZ := qall b1
          injection eZ with eQ et
          subst eQ
          subst et
          by_cases hlk : l < k
          · exact hqt b1 l hlk
          · have : l = k := by omega
            subst this
            have b0 : pBl Q l = 0 := by
              have := of_decide_eq_false b3
              omega
            intro _
            refine ⟨b0, ?_⟩
            rw [htk, p1_0 (Or.inr b0)] at b2
            have := of_decide_eq_false b2
            omega
        by_cases hc : pW (p1 Q k) k ≤ t
        · have ep : p2 (p1 Q k, t) k = (pUp (pUp (p1 Q k) (15 + 4 * k) 1) 5 (if p1 Q k 5 + pW (p1 Q k) k ≤ 99999 then p1 Q k 5 + pW (p1 Q k) k else 99999), t - pW (p1 Q k) k) := if_pos ⟨p115, hc⟩
          dsimp only at ihk
          rw [ep] at ihk
          have hsn := pSn_lt p1B (p1 Q k 3) (by omega)
          have h7p := pow7 (p1 Q k 3) (by omega)
          have hE3 : cE h co (sI S2 c 5 (nI (pSn (p1 Q k) (p1 Q k 3) ||| 2 ^ k))) c (pUp (p1 Q k) (15 + 4 * k) 1) := cE_sent hE2 p1B k 1 (pSn_on p1B (by omega)).symm
          have e5 : pUp (p1 Q k) (15 + 4 * k) 1 5 = p1 Q k 5 := pUp_ne _ _ (by omega)
          have pv : (if (99999 : Int32) < nI (p1 Q k 5 + pW (p1 Q k) k) then 99999 else nI (p1 Q k 5 + pW (p1 Q k) k)) = nI (if p1 Q k 5 + pW (p1 Q k) k ≤ 99999 then p1 Q k 5 + pW (p1 Q k) k else 99999) := by
            by_cases hp : p1 Q k 5 + pW (p1 Q k) k ≤ 99999
            · rw [if_neg (show ¬ (99999 : Int32) < nI (p1 Q k 5 + pW (p1 Q k) k) from fun z => absurd ((nI_ltI (a := 99999) (by decide) (by omega)).mp z) (by omega)), if_pos hp]
            · rw [if_pos (show (99999 : Int32) < nI (p1 Q k 5 + pW (p1 Q k) k) from nI_lt (a := 99999) (by omega) (by omega)), if_neg hp]; rfl
          obtain ⟨S', b, g1, g2, g3, g4⟩ := ihk (sI (sI S2 c 5 (nI (pSn (p1 Q k) (p1 Q k 3) ||| 2 ^ k))) c 9 (nI (if p1 Q k 5 + pW (p1 Q k) k ≤ 99999 then p1 Q k 5 + pW (p1 Q k) k else 99999))) (bb || (true || decide (pBl Q k ≠ 0))) (.int (nI (pBl Q k))) (.int (nI (pW (p1 Q k) k))) (.int (bv true)) (cE_num hE3 (pB_sent p1B k (by decide)) (Or.inr (Or.inr (Or.inr ⟨rfl, rfl⟩))) _) (fr_I (fr_I hf2 (by omega) (by omega) _ _) (by omega) (by omega) _ _) (nq true (decide_eq_true hc).symm)
          refine ⟨S', b, ?_, g2, g3, g4⟩
          rw [if_neg (nI_nlt hc (by omega)), eX2_passDay_61, if_neg (by decide), qI5 hq, aOp_s, hE2.2.2.2.1, n_shl1 k hk7, n_or _ (by omega) _ (by have := (show ∀ k, k < 7 → 2 ^ k < 128 by decide) k hk7; omega), qP5 hq, aOp_s, qI9 hq, aOp_s, sI_ne _ _ (by omega), hE2.2.2.2.2.2.2.2.1, nI_add, pv, qP9 hq, aOp_s, pk_sub hc, show (1 : Int32) = bv true from rfl, c_day101 sa (d + 3) (co + c) bb true _ _ hbl, show bv true = (1 : Int32) from rfl, nI_1]
          exact g1
        · have ep : p2 (p1 Q k, t) k = (p1 Q k, t) := p2_0 (Or.inr (show t < pW (p1 Q k) k by omega))
          dsimp only at ihk
          rw [ep] at ihk
          obtain ⟨S', b, g1, g2, g3, g4⟩ := ihk S2 (bb || (false || decide (pBl Q k ≠ 0))) (.int (nI (pBl Q k))) (.int (nI (pW (p1 Q k) k))) (.int (bv false)) hE2 hf2 (nq false (decide_eq_false hc).symm)
          refine ⟨S', b, ?_, g2, g3, g4⟩
          rw [if_pos (nI_lt (by omega) (by omega)), eX2_passDay_61, if_pos rfl, show (0 : Int32) = bv false from rfl, c_day101 sa (d + 3) (co + c) bb false _ _ hbl, nI_1]
          exact g1
      · have hv1 : Q (15 + 4 * k) = 1 := by have := (zB.2.2.2.1 k hk7).2.2.2; omega
        have ep : p2 (p1 Q k, t) k = (Q, t) := by
          rw [p1_0 (Or.inl hv1)]
          exact p2_0 (Or.inl hz)
        dsimp only at ihk
        rw [ep] at ihk
        rw [decide_eq_false hz, if_pos bvf, nI_1]
        refine ihk S1 bb x4 x5 x6 hE1 hf (fun hb l hl => ?_)
        by_cases hlk : l < k
        · exact hqt hb l hlk
        · have : l = k := by omega
          subst this
          intro z
          rw [← z15] at z
          exact absurd z hz
  obtain ⟨S', b, g1, g2, g3, g4⟩ := loop (P 3) 0 S false .null .null .null (by omega) hE (fr_refl _ _ _) (fun _ l hl => by omega)
  refine ⟨S', b, ?_, g2, g3, g4⟩
  rw [fX2_passDay, eX2_passDay_0, qI6 hq, aOp_s, hE.2.2.2.2.1]
  exact g1
theorem c_passDays (sa : Nat → Nat) (d : Nat) {h : AH} {co : Nat} {S : ST} {c : Nat} {P : PS} (hE : cE h co S c P) (hB : pB P) (hK : pK P) {n : Nat} (hn : P 4 + n ≤ 100000) : ∃ S' : ST, AMC sa (d + 5) 21 [.ref (co + c), .int (nI n)] (mk h co S) = some (none, mk h co S') ∧ cE h co S' c (pDays P n) ∧ fr c (c + 4) S S' := by
  have hq := hE.1
  have kds : ∀ k, P 4 + k ≤ 100000 → pK (pDays P k) := by
    intro k
    induction k with
    | zero => intro _; exact hK
    | succ k ih => intro hk; exact pK_day (ih (by omega)) (pDays_B hB k (by omega)).1
  have loop : ∀ m k S1 x4 x5, k + m = n → cE h co S1 c (pDays P k) → fr c (c + 4) S S1 → ∃ S' : ST, AMV sa (d + 4) 21 9 [.ref (co + c), .int (nI n), .int (nI (P 4 + n)), .int (nI k), x4, x5] [] (mk h co S1) = some (none, mk h co S') ∧ cE h co S' c (pDays P n) ∧ fr c (c + 4) S S' := by
    intro m
    induction m with
    | zero =>
      intro k S1 x4 x5 hk hE1 hf
      have hk : k = n := hk
      refine ⟨S1, ?_, by rw [← hk]; exact hE1, hf⟩
      rw [eX2_passDays_9, if_pos (nI_le (by omega) (by omega))]
    | succ m ih =>
      intro k S1 x4 x5 hk hE1 hf
      obtain ⟨zB, z4⟩ := pDays_B hB k (by omega)
      have zK := kds k (by omega)
      obtain ⟨S2, b, g1, g2, g3, g4⟩ := c_passDay sa d hE1 zB zK
      have hf2 := fr_trans hf g3
      have hr : nI (pDays P k 4) - nI (pDays P k 4) / 2 * 2 = nI (pDays P k 4 % 2) := pk_rem (a := pDays P k 4) (d := 2) (by omega) (by decide) (by decide)
      rw [eX2_passDays_9, if_neg (nI_ge (by omega) (by omega)), qI8 hq, aOp_s, hE1.2.2.2.2.2.2.1, hr]
      by_cases he : pDays P k 4 % 2 = 0
      · rw [if_pos (show nI (pDays P k 4 % 2) = 0 by rw [he]; rfl), eX2_passDays_28, qC hq, aOp_s, g1, aRI_mk, aOp_s, if_neg (by decide)]
        cases b with
        | false =>
          rw [if_pos bvf, qP8 hq, aOp_s]
          have hqt := g4 rfl
          have hv : ∀ l, l < 7 → pDays P k (15 + 4 * l) ≤ 1 := fun l hl => (zB.2.2.2.1 l hl).2.2.2
          have e1 : pDay (pDays P k) = _ := qt_day zB.1 zB.2.1 hv hqt
          have e2 : pDays (pDays P k) (m + 1) = _ := qt_days zB.1 zB.2.1 hv hqt he (m + 1)
          rw [pDays_add, hk] at e2
          refine ⟨_, rfl, ?_, fr_I hf2 (by omega) (by omega) _ _⟩
          rw [e2]
          have := cE_num g2 (pB_day zB (by omega)) (Or.inr (Or.inr (Or.inl ⟨rfl, rfl⟩))) (P 4 + n)
          rw [e1, pUp_pUp] at this
          rw [show pDays P k 4 + (m + 1) = P 4 + n by omega]
          exact this
        | true =>
          rw [if_neg bvn, nI_1]
          exact ih (k + 1) S2 _ _ (by omega) g2 hf2
      · rw [if_neg (nI_ne0 (by omega) (by omega)), eX2_passDays_28, qC hq, aOp_s, g1, aRI_mk, aOp_s, if_pos rfl, nI_1]
        exact ih (k + 1) S2 _ _ (by omega) g2 hf2
  obtain ⟨S', g1, g2, g3⟩ := loop n 0 S .null .null (by omega) hE (fr_refl _ _ _)
  refine ⟨S', ?_, g2, g3⟩
  rw [fX2_passDays, eX2_passDays_0, qI8 hq, aOp_s, hE.2.2.2.2.2.2.1, nI_add]
  exact g1
theorem c_become (sa : Nat → Nat) (d : Nat) {h : AH} {co : Nat} {S : ST} {c e : Nat} {P : PS} (hE : cE h co S e P) (hB : pB P) (hq : qc c) (hne : c ≠ e) : ∃ S' : ST, AMC sa (d + 1) 12 [.ref (co + c), .ref (co + e)] (mk h co S) = some (none, mk h co S') ∧ cE h co S' c P ∧ fr c (c + 4) S S' := by
  have hqe := hE.1
  have h7 := hB.2.1
  have far : c + 4 ≤ e ∨ e + 4 ≤ c := by
    rcases hq with rfl | rfl | rfl | rfl | rfl <;> rcases hqe with rfl | rfl | rfl | rfl | rfl <;> omega
  obtain ⟨x1, x2, x3, x4⟩ := q_arr hq (j := 1) (by decide) (by decide)
  obtain ⟨y1, y2, y3, y4⟩ := q_arr hq (j := 2) (by decide) (by decide)
  obtain ⟨z1, z2, z3, z4⟩ := q_arr hq (j := 3) (by decide) (by decide)
  obtain ⟨x1', x2', x3', x4'⟩ := q_arr hqe (j := 1) (by decide) (by decide)
  obtain ⟨y1', y2', y3', y4'⟩ := q_arr hqe (j := 2) (by decide) (by decide)
  obtain ⟨z1', z2', z3', z4'⟩ := q_arr hqe (j := 3) (by decide) (by decide)
  have cp : ∀ (S : ST) (j : Nat), 1 ≤ j → j ≤ 3 → aCpy (mk h co S) (co + (e + j)) 0 (co + (c + j)) 0 7 = some (mk h co (sA S (c + j) (va_cpy (S.2.2 (e + j)) (S.2.2 (c + j)) 0 0 7))) := by
    intro S j j1 j3
    obtain ⟨x1, x2, x3, x4⟩ := q_arr hq j1 j3
    obtain ⟨y1, y2, y3, y4⟩ := q_arr hqe j1 j3
    exact g_CP (sp := 0) (dp := 0) (n := 7) y3 y4 y1 x3 x4 x1 (by rw [y2]; decide) (by rw [x2]; decide) (by rw [y2]; decide) (by rw [x2]; decide)
  obtain ⟨T3, hT3⟩ : ∃ T, T = sP S c (S.2.1 e) := ⟨_, rfl⟩
  obtain ⟨T4, hT4⟩ : ∃ T, T = sI T3 c 4 (S.1 e 4) := ⟨_, rfl⟩
  obtain ⟨T5, hT5⟩ : ∃ T, T = sI T4 c 5 (S.1 e 5) := ⟨_, rfl⟩
  obtain ⟨T6, hT6⟩ : ∃ T, T = sI T5 c 6 (S.1 e 6) := ⟨_, rfl⟩
  obtain ⟨T7, hT7⟩ : ∃ T, T = sI T6 c 7 (S.1 e 7) := ⟨_, rfl⟩
  obtain ⟨T8, hT8⟩ : ∃ T, T = sI T7 c 8 (S.1 e 8) := ⟨_, rfl⟩
  obtain ⟨T9, hT9⟩ : ∃ T, T = sI T8 c 9 (S.1 e 9) := ⟨_, rfl⟩
  have f3 : fr c (c + 4) S T3 := by rw [hT3]; exact fr_P (fr_refl _ _ _) (by omega) (by omega) _
  have f4 : fr c (c + 4) S T4 := by rw [hT4]; exact fr_I f3 (by omega) (by omega) _ _
  have f5 : fr c (c + 4) S T5 := by rw [hT5]; exact fr_I f4 (by omega) (by omega) _ _
  have f6 : fr c (c + 4) S T6 := by rw [hT6]; exact fr_I f5 (by omega) (by omega) _ _
  have f7 : fr c (c + 4) S T7 := by rw [hT7]; exact fr_I f6 (by omega) (by omega) _ _
  have f8 : fr c (c + 4) S T8 := by rw [hT8]; exact fr_I f7 (by omega) (by omega) _ _
  have f9 : fr c (c + 4) S T9 := by rw [hT9]; exact fr_I f8 (by omega) (by omega) _ _
  have rd : ∀ T, fr c (c + 4) S T → T.1 e = S.1 e := fun T hT => (hT e (by omega)).1
  have ra : ∀ T, fr c (c + 4) S T → ∀ j, j ≤ 3 → T.2.2 (e + j) = S.2.2 (e + j) := fun T hT j hj => (hT (e + j) (by omega)).2.2
  have a9 : T9.2.2 = S.2.2 := by rw [hT9, hT8, hT7, hT6, hT5, hT4, hT3]; rfl
  obtain ⟨U1, hU1⟩ : ∃ T, T = sA T9 (c + 1) (va_cpy (S.2.2 (e + 1)) (S.2.2 (c + 1)) 0 0 7) := ⟨_, rfl⟩
  obtain ⟨U2, hU2⟩ : ∃ T, T = sA U1 (c + 2) (va_cpy (S.2.2 (e + 2)) (S.2.2 (c + 2)) 0 0 7) := ⟨_, rfl⟩
  obtain ⟨U3, hU3⟩ : ∃ T, T = sA U2 (c + 3) (va_cpy (S.2.2 (e + 3)) (S.2.2 (c + 3)) 0 0 7) := ⟨_, rfl⟩
  have u1 : fr c (c + 4) S U1 := by rw [hU1]; exact fr_A f9 (by omega) (by omega) _
  have u2 : fr c (c + 4) S U2 := by rw [hU2]; exact fr_A u1 (by omega) (by omega) _
  have u3 : fr c (c + 4) S U3 := by rw [hU3]; exact fr_A u2 (by omega) (by omega) _
  have b2 : U1.2.2 (c + 2) = S.2.2 (c + 2) := by rw [hU1, sA_ne _ _ _ (by omega), a9]
  have b3 : U2.2.2 (c + 3) = S.2.2 (c + 3) := by rw [hU2, sA_ne _ _ _ (by omega), hU1, sA_ne _ _ _ (by omega), a9]
  refine ⟨U3, ?_, ?_, u3⟩
  · rw [fX2_become, eX2_become_0, qR3 hqe, aOp_s, qW hq, aOp_s, ← hT3, qI4 hqe, aOp_s, rd T3 f3, qP4 hq, aOp_s, ← hT4, qI5 hqe, aOp_s, rd T4 f4, qP5 hq, aOp_s, ← hT5, qI6 hqe, aOp_s, rd T5 f5, qP6 hq, aOp_s, ← hT6, qI7 hqe, aOp_s, rd T6 f6, qP7 hq, aOp_s, ← hT7, qI8 hqe, aOp_s, rd T7 f7, qP8 hq, aOp_s, ← hT8, qI9 hqe, aOp_s, rd T8 f8, qP9 hq, aOp_s, ← hT9, qR0 hqe, aOp_s, qR0 hq, aOp_s, cp _ 1 (by decide) (by decide), aOp_s, a9, ← hU1, qR1 hqe, aOp_s, qR1 hq, aOp_s, cp _ 2 (by decide) (by decide), aOp_s, ra U1 u1 2 (by decide), b2, ← hU2, qR2 hqe, aOp_s, qR2 hq, aOp_s, cp _ 3 (by decide) (by decide), aOp_s, ra U2 u2 3 (by decide), b3, ← hU3]
  · obtain ⟨q, w, e4, e5, e6, e7, e8, e9, ea⟩ := hE
    have v1 : U3.1 = T9.1 := by rw [hU3, hU2, hU1]; rfl
    have v2 : U3.2.1 = T3.2.1 := by rw [hU3, hU2, hU1, hT9, hT8, hT7, hT6, hT5, hT4]; rfl
    refine ⟨hq, ?_, ?_, ?_, ?_, ?_, ?_, ?_, fun l hl => ?_⟩
    · rw [v2, hT3]
      show wE h co (if c = c then S.2.1 e else S.2.1 c) P
      rw [if_pos rfl]; exact w
    · rw [v1, hT9, sI_ne _ _ (by omega), hT8, sI_ne _ _ (by omega), hT7, sI_ne _ _ (by omega), hT6, sI_ne _ _ (by omega), hT5, sI_ne _ _ (by omega), hT4, sI_at]; exact e4
    · rw [v1, hT9, sI_ne _ _ (by omega), hT8, sI_ne _ _ (by omega), hT7, sI_ne _ _ (by omega), hT6, sI_ne _ _ (by omega), hT5, sI_at]; exact e5
    · rw [v1, hT9, sI_ne _ _ (by omega), hT8, sI_ne _ _ (by omega), hT7, sI_ne _ _ (by omega), hT6, sI_at]; exact e6
    · rw [v1, hT9, sI_ne _ _ (by omega), hT8, sI_ne _ _ (by omega), hT7, sI_at]; exact e7
    · rw [v1, hT9, sI_ne _ _ (by omega), hT8, sI_at]; exact e8
    · rw [v1, hT9, sI_at]; exact e9
    · obtain ⟨k1, k2, k3⟩ := ea l hl
      rw [hU3, sA_ne _ _ _ (show c + 1 ≠ c + 3 by omega), sA_ne _ _ _ (show c + 2 ≠ c + 3 by omega), sA_at, hU2, sA_ne _ _ _ (show c + 1 ≠ c + 2 by omega), sA_at, hU1, sA_at, pk_cpy_in (Nat.zero_le _) (by omega), pk_cpy_in (Nat.zero_le _) (by omega), pk_cpy_in (Nat.zero_le _) (by omega), Nat.zero_add, Nat.sub_zero]
      exact ⟨k1, k2, k3⟩
