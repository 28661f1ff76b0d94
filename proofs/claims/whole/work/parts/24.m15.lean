/-! ===== the reference's reading, token by token ===== -/
abbrev ZS : Type := Nat × Nat × PS
def rZ (S : ST) (T : Nat → Nat) (n : Nat) (fk : Int32) (Z : ZS) : Prop := pE S 47 Z.2.2 ∧ Z.2.2 2 ≤ 6 ∧ Z.2.2 3 ≤ 7 ∧ tT S 45 40 6 T n ∧ (Z.1 = 0 → S.1 40 8 = -1 ∧ S.1 40 7 = fk ∧ tkR S T n Z.2.1) ∧ (Z.1 ≠ 0 → Z.1 ≤ 3 ∧ S.1 40 8 = nI Z.2.1 ∧ Z.2.1 ≤ n ∧ S.1 40 7 = nI Z.1)
def zTk (T : Nat → Nat) (n : Nat) (b : Bool) (k : Nat) (Z : ZS) : ZS := if Z.1 = 0 then cond b (0, tkE T n Z.2.1, Z.2.2) (k, Z.2.1, Z.2.2) else Z
def zNu (T : Nat → Nat) (n lo hi : Nat) (Z : ZS) : Nat × ZS := if Z.1 = 0 then (if tkT T n Z.2.1 = 2 then (if lo ≤ nv T n Z.2.1 ∧ nv T n Z.2.1 ≤ hi then (nv T n Z.2.1, (0, tkE T n Z.2.1, Z.2.2)) else (0, (2, Z.2.1, Z.2.2))) else (0, (1, Z.2.1, Z.2.2))) else (0, Z)
theorem tk2 {T : Nat → Nat} {n p : Nat} (h : tkT T n p = 2) : dg T n p = true ∧ nf T n p < 3 ∧ tkV T n p = nI (nv T n p) ∧ nv T n p ≤ 99 := by
  unfold tkT at h
  by_cases h1 : p < n
  · rw [if_pos h1] at h
    cases hd : dg T n p with
    | false =>
      rw [hd, cond_false] at h
      split at h
      · omega
      · split at h
        · omega
        · split at h <;> omega
    | true =>
      rw [hd, cond_true] at h
      by_cases h3 : nf T n p < 3
      · refine ⟨rfl, h3, ?_, ?_⟩
        · unfold tkV
          rw [if_pos h1, hd, cond_true]
        · have := dg_lt hd
          unfold nv
          cases hd2 : dg T n (p + 1) with
          | false => rw [cond_false]; omega
          | true => rw [cond_true]; have := dg_lt hd2; omega
      · rw [if_neg h3] at h; omega
  · rw [if_neg h1] at h; omega
theorem m_isWell (sa : Nat → Nat) (d : Nat) (h : AH) (co : Nat) {S : ST} {T : Nat → Nat} {n : Nat} {fk : Int32} {Z : ZS} (hZ : rZ S T n fk Z) : AMC sa (d + 1) 124 [.ref (co + 40)] (mk h co S) = some (some (.int (bv (decide (Z.1 = 0)))), mk h co S) := by
  obtain ⟨z1, z2, z3, z4, z5, z6⟩ := hZ
  have hn := z4.2.1
  rw [fX8_isWell, eX8_isWell_0, gI_40_8, aOp_s]
  by_cases h0 : Z.1 = 0
  · rw [(z5 h0).1, if_neg (by decide), decide_eq_true h0]; rfl
  · rw [(z6 h0).2.1, if_pos (nI_pos' (by have := (z6 h0).2.2.1; omega)), decide_eq_false h0]; rfl
theorem m_takes (sa : Nat → Nat) (d : Nat) (h : AH) (co : Nat) {S : ST} {T : Nat → Nat} {n : Nat} {fk : Int32} {Z : ZS} (hZ : rZ S T n fk Z) (b : Bool) {k : Nat} (hk : 1 ≤ k) (hk3 : k ≤ 3) (ht : Z.1 = 0 → b = true → 1 ≤ tkT T n Z.2.1 ∧ tkT T n Z.2.1 ≤ 4) : ∃ S', AMC sa (d + 3) 125 [.ref (co + 40), .int (bv b), .int (nI k)] (mk h co S) = some (some (.int (if Z.1 = 0 ∧ b = true then tkV T n Z.2.1 else 0)), mk h co S') ∧ rZ S' T n fk (zTk T n b k Z) ∧ fP S S' := by
  have hZ0 := hZ
  obtain ⟨z1, z2, z3, z4, z5, z6⟩ := hZ
  rw [fX8_takes, eX8_takes_0, gC_40, aOp_s, m_isWell sa (d + 1) h co hZ0, aRI_mk, aOp_s]
  unfold zTk
  by_cases h0 : Z.1 = 0
  · obtain ⟨w1, w2, w3⟩ := z5 h0
    rw [decide_eq_true h0, if_neg bvn, if_pos h0]
    cases b with
    | false =>
      refine ⟨sI (sI S 40 8 (nI Z.2.1)) 40 7 (nI k), ?_, ⟨z1, z2, z3, z4, fun z => absurd z (by show k ≠ 0; omega), fun _ => ⟨hk3, rfl, w3.1, rfl⟩⟩, fP_trans (fP_sI S _ (by decide) (by decide)) (fP_sI _ _ (by decide) (by decide))⟩
      rw [if_pos bvf, gI_40_10, aOp_s, w3.2.1, gP_40_8, aOp_s, gP_40_7, aOp_s, if_neg (fun z => by cases z.2)]
    | true =>
      obtain ⟨t1, t2⟩ := ht h0 rfl
      obtain ⟨q1, q2⟩ := w3.2.2.2.2 t1 t2
      obtain ⟨S', g1, g2, g3, g4, g5, g6⟩ := m_advances sa d h co z4 q2 q1
      refine ⟨S', ?_, ⟨⟨z1.1, fun j hj => by rw [g6]; exact z1.2 j hj⟩, z2, z3, tT_fP z4 g3, fun _ => ⟨g5.trans w1, g4.trans w2, g2⟩, fun z => absurd rfl z⟩, g3⟩
      rw [if_neg bvn, gI_40_12, aOp_s, w3.2.2.2.1, gC_40, aOp_s, g1, aRV_mk, aOp_s, if_pos ⟨h0, rfl⟩]
  · refine ⟨S, ?_, by rw [if_neg h0]; exact hZ0, fP_refl S⟩
    rw [decide_eq_false h0, if_pos bvf, if_neg (fun z => h0 z.1)]
theorem m_figure (sa : Nat → Nat) (d : Nat) (h : AH) (co : Nat) {S : ST} {T : Nat → Nat} {n : Nat} {fk : Int32} {Z : ZS} (hZ : rZ S T n fk Z) {lo hi : Nat} (hlo : lo < 1000) (hhi : hi < 1000) : ∃ S', AMC sa (d + 4) 126 [.ref (co + 40), .int (nI lo), .int (nI hi)] (mk h co S) = some (some (.int (nI (zNu T n lo hi Z).1)), mk h co S') ∧ rZ S' T n fk (zNu T n lo hi Z).2 ∧ fP S S' := by
  have hZ0 := hZ
  obtain ⟨z1, z2, z3, z4, z5, z6⟩ := hZ
  have e22 : ∀ b : Bool, b = decide (nI lo ≤ S.1 40 12 ∧ S.1 40 12 ≤ nI hi) → (Z.1 = 0 → tkT T n Z.2.1 = 2) → ∃ S', AMV sa (d + 3) 126 22 [.ref (co + 40), .int (nI lo), .int (nI hi)] [] (mk h co S) = some (some (.int (if Z.1 = 0 ∧ b = true then tkV T n Z.2.1 else 0)), mk h co S') ∧ rZ S' T n fk (zTk T n b 2 Z) ∧ fP S S' := by
    intro b hb h2
    obtain ⟨S', g1, g2, g3⟩ := m_takes sa d h co hZ0 b (k := 2) (by decide) (by decide) (fun q _ => by rw [h2 q]; decide)
    refine ⟨S', ?_, g2, g3⟩
    rw [eX8_figure_22, gI_40_12, aOp_s, m_in, aRI_mk, aOp_s, ← hb, gC_40, aOp_s, show (2 : Int32) = nI 2 from rfl, g1, aRI_mk, aOp_s]
  rw [fX8_figure, eX8_figure_0, gC_40, aOp_s, m_isWell sa (d + 2) h co hZ0, aRI_mk, aOp_s]
  unfold zNu
  by_cases h0 : Z.1 = 0
  · obtain ⟨w1, w2, w3⟩ := z5 h0
    rw [decide_eq_true h0, if_neg bvn, if_pos h0, gI_40_11, aOp_s, w3.2.2.1]
    by_cases h2 : tkT T n Z.2.1 = 2
    · obtain ⟨t1, t2, t3, t4⟩ := tk2 h2
      rw [if_pos (show nI (tkT T n Z.2.1) = 2 by rw [h2]; rfl), if_pos h2]
      have e12 : S.1 40 12 = nI (nv T n Z.2.1) := w3.2.2.2.1.trans t3
      by_cases hr : lo ≤ nv T n Z.2.1 ∧ nv T n Z.2.1 ≤ hi
      · obtain ⟨S', g1, g2, g3⟩ := e22 true (by rw [e12]; exact (decide_eq_true ⟨nI_le hr.1 (by omega), nI_le hr.2 (by omega)⟩).symm) (fun _ => h2)
        refine ⟨S', ?_, ?_, g3⟩
        · rw [g1, if_pos ⟨h0, rfl⟩, if_pos hr, t3]
        · unfold zTk at g2
          rw [if_pos h0, cond_true] at g2
          rw [if_pos hr]
          exact g2
      · obtain ⟨S', g1, g2, g3⟩ := e22 false (by rw [e12]; exact (decide_eq_false (fun z => hr ⟨(nI_leI (by omega) (by omega)).mp z.1, (nI_leI (by omega) (by omega)).mp z.2⟩)).symm) (fun _ => h2)
        refine ⟨S', ?_, ?_, g3⟩
        · rw [g1, if_neg (fun z => by cases z.2), if_neg hr]; rfl
        · unfold zTk at g2
          rw [if_pos h0, cond_false] at g2
          rw [if_neg hr]
          exact g2
    · have ht5 : tkT T n Z.2.1 ≤ 5 := by
        unfold tkT
        split
        · cases dg T n Z.2.1
          · simp only [cond_false]; split
            · decide
            · split
              · decide
              · split <;> decide
          · simp only [cond_true]; split <;> decide
        · decide
      obtain ⟨S', g1, g2, g3⟩ := m_takes sa d h co hZ0 false (k := 1) (by decide) (by decide) (fun _ q => by cases q)
      refine ⟨S', ?_, ?_, g3⟩
      · rw [if_neg (show ¬ nI (tkT T n Z.2.1) = 2 from fun z => h2 ((nI_eq (b := 2) (by omega) (by decide)).mp z)), gC_40, aOp_s, show AMC sa (d + 3) 125 [.ref (co + 40), .int 0, .int 1] (mk h co S) = _ from g1, aRI_mk, aOp_s, if_neg (fun z => by cases z.2), if_neg h2]
        rfl
      · unfold zTk at g2
        rw [if_pos h0, cond_false] at g2
        rw [if_neg h2]
        exact g2
  · obtain ⟨S', g1, g2, g3⟩ := e22 _ rfl (fun q => absurd q h0)
    refine ⟨S', ?_, ?_, g3⟩
    · rw [decide_eq_false h0, if_pos bvf, g1, if_neg (fun z => h0 z.1), if_neg h0]
      rfl
    · unfold zTk at g2
      rw [if_neg h0] at g2
      rw [if_neg h0]
      exact g2
theorem tk5 (T : Nat → Nat) (n p : Nat) : tkT T n p ≤ 5 := by
  unfold tkT
  split
  · cases dg T n p
    · simp only [cond_false]; split
      · decide
      · split
        · decide
        · split <;> decide
    · simp only [cond_true]; split <;> decide
  · decide
/-- a token of sort c is due -/
theorem tokB {S : ST} {T : Nat → Nat} {n : Nat} {fk : Int32} {Z : ZS} (hZ : rZ S T n fk Z) {c : Nat} (hc : c < 10) (k : Nat) : ∃ b : Bool, (S.1 40 11 = nI c ↔ b = true) ∧ zTk T n b k Z = zTk T n (decide (tkT T n Z.2.1 = c)) k Z ∧ (Z.1 = 0 → b = true → tkT T n Z.2.1 = c) := by
  by_cases h0 : Z.1 = 0
  · have e := (hZ.2.2.2.2.1 h0).2.2.2.2.1
    have h5 := tk5 T n Z.2.1
    refine ⟨decide (tkT T n Z.2.1 = c), ?_, rfl, fun _ q => of_decide_eq_true q⟩
    rw [e, decide_eq_true_eq]
    exact nI_eq (by omega) (by omega)
  · refine ⟨decide (S.1 40 11 = nI c), by rw [decide_eq_true_eq], ?_, fun q => absurd q h0⟩
    unfold zTk
    rw [if_neg h0, if_neg h0]
theorem m_follows (sa : Nat → Nat) (d : Nat) (h : AH) (co : Nat) {S : ST} {T : Nat → Nat} {n : Nat} {fk : Int32} {Z : ZS} (hZ : rZ S T n fk Z) {lo hi : Nat} (hlo : lo < 1000) (hhi : hi < 1000) : ∃ S', AMC sa (d + 5) 128 [.ref (co + 40), .int (nI lo), .int (nI hi)] (mk h co S) = some (some (.int (nI (zNu T n lo hi (zTk T n (decide (tkT T n Z.2.1 = 3)) 1 Z)).1)), mk h co S') ∧ rZ S' T n fk (zNu T n lo hi (zTk T n (decide (tkT T n Z.2.1 = 3)) 1 Z)).2 ∧ fP S S' := by
  obtain ⟨b, b1, b2, b3⟩ := tokB hZ (c := 3) (by decide) 1
  obtain ⟨S1, g1, g2, g3⟩ := m_takes sa (d + 1) h co hZ b (k := 1) (by decide) (by decide) (fun q1 q2 => by rw [b3 q1 q2]; decide)
  rw [b2] at g2
  obtain ⟨S2, g4, g5, g6⟩ := m_figure sa d h co g2 hlo hhi
  refine ⟨S2, ?_, g5, fP_trans g3 g6⟩
  have e14 : AMV sa (d + 4) 128 14 [.ref (co + 40), .int (nI lo), .int (nI hi)] [.int (bv b), .ref (co + 40)] (mk h co S) = some (some (.int (nI (zNu T n lo hi (zTk T n (decide (tkT T n Z.2.1 = 3)) 1 Z)).1)), mk h co S2) := by
    rw [eX8_follows_14, gC_40, aOp_s, show (1 : Int32) = nI 1 from rfl, g1, aRI_mk, aOp_s, gC_40, aOp_s, g4, aRI_mk, aOp_s]
  rw [fX8_follows, eX8_follows_0, gI_40_11, aOp_s]
  cases b with
  | true => rw [if_pos (show S.1 40 11 = 3 from b1.mpr rfl)]; exact e14
  | false => rw [if_neg (show ¬ S.1 40 11 = 3 from fun z => by cases b1.mp z)]; exact e14
theorem m_must (sa : Nat → Nat) (d : Nat) (h : AH) (co : Nat) {S : ST} {T : Nat → Nat} {n : Nat} {fk : Int32} {Z : ZS} (hZ : rZ S T n fk Z) (b : Bool) : ∃ S', AMC sa (d + 4) 132 [.ref (co + 40), .int (bv b)] (mk h co S) = some (none, mk h co S') ∧ rZ S' T n fk (cond b Z (zTk T n false 1 Z)) ∧ fP S S' := by
  rw [fX8_must, eX8_must_0, gC_40, aOp_s, m_isWell sa (d + 2) h co hZ, aRI_mk, aOp_s]
  by_cases h0 : Z.1 = 0
  · rw [decide_eq_true h0, if_neg bvn]
    cases b with
    | true => exact ⟨S, by rw [if_neg bvn], hZ, fP_refl S⟩
    | false =>
      obtain ⟨S', g1, g2, g3⟩ := m_takes sa d h co hZ false (k := 1) (by decide) (by decide) (fun _ q => by cases q)
      refine ⟨S', ?_, g2, g3⟩
      rw [if_pos bvf, gC_40, aOp_s, show AMC sa (d + 3) 125 [.ref (co + 40), .int 0, .int 1] (mk h co S) = _ from g1, aRI_mk, aOp_s]
  · refine ⟨S, by rw [decide_eq_false h0, if_pos bvf], ?_, fP_refl S⟩
    cases b with
    | true => exact hZ
    | false =>
      show rZ S T n fk (zTk T n false 1 Z)
      unfold zTk
      rw [if_neg h0]
      exact hZ
/-! words -/
def isC (T : Nat → Nat) (n p x : Nat) : Bool := decide (p < n) && decide (T p = x)
theorem isC_tk {T : Nat → Nat} {n p x : Nat} (hx : 97 ≤ x) (hx2 : x ≤ 122) (h : isC T n p x = true) : tkT T n p = 1 ∧ tkV T n p = nI x ∧ tkE T n p = p + 1 ∧ p < n ∧ T p = x := by
  unfold isC at h
  simp only [Bool.and_eq_true, decide_eq_true_eq] at h
  obtain ⟨h1, h2⟩ := h
  have hd : dg T n p = false := by
    unfold dg
    rw [decide_eq_false (show ¬ T p ≤ 57 by omega)]
    simp
  refine ⟨?_, ?_, ?_, h1, h2⟩
  · unfold tkT
    rw [if_pos h1, hd, cond_false, if_pos (by omega)]
  · unfold tkV
    rw [if_pos h1, hd, cond_false, h2]
  · unfold tkE
    rw [hd, cond_false]
theorem isC_of {T : Nat → Nat} {n p x : Nat} (hx : x < 256) (hT : p < n → T p < 256) (h1 : tkT T n p = 1) : (tkV T n p = nI x) ↔ isC T n p x = true := by
  unfold tkT at h1
  unfold tkV isC
  by_cases hp : p < n
  · rw [if_pos hp] at h1 ⊢
    have := hT hp
    cases hd : dg T n p with
    | true =>
      rw [hd, cond_true] at h1
      split at h1 <;> omega
    | false =>
      rw [cond_false, decide_eq_true hp, Bool.true_and, decide_eq_true_eq]
      exact nI_eq (by omega) (by omega)
  · rw [if_neg hp] at h1; omega
def zW (T : Nat → Nat) (n : Nat) (Z : ZS) : ZS :=
  let A := zNu T n 1 9 (zTk T n (decide (Z.2.2 2 < 6)) 3 Z)
  let B := zTk T n (decide (tkT T n A.2.2.1 = 4)) 1 A.2
  if B.1 = 0 then (0, B.2.1, pUp (pUp B.2.2 (6 + Z.2.2 2) A.1) 2 (Z.2.2 2 + 1)) else B
theorem zTk_Q (T : Nat → Nat) (n : Nat) (b : Bool) (k : Nat) (Z : ZS) : (zTk T n b k Z).2.2 = Z.2.2 := by
  unfold zTk
  split
  · cases b <;> rfl
  · rfl
theorem zNu_Q (T : Nat → Nat) (n lo hi : Nat) (Z : ZS) : (zNu T n lo hi Z).2.2.2 = Z.2.2 := by
  unfold zNu
  split
  · split
    · split <;> rfl
    · rfl
  · rfl
theorem zTk_1 {T : Nat → Nat} {n k : Nat} {b : Bool} {Z : ZS} (hk : 1 ≤ k) (h : (zTk T n b k Z).1 = 0) : Z.1 = 0 ∧ b = true := by
  unfold zTk at h
  by_cases h0 : Z.1 = 0
  · rw [if_pos h0] at h
    cases b with
    | true => exact ⟨h0, rfl⟩
    | false => rw [cond_false] at h; have h : k = 0 := h; omega
  · rw [if_neg h0] at h; exact absurd h h0
theorem rZ_Q {S : ST} {T : Nat → Nat} {n : Nat} {fk : Int32} {Z : ZS} (hZ : rZ S T n fk Z) (h0 : Z.1 = 0) {Q : PS} (h2 : Q 2 ≤ 6) (h3 : Q 3 ≤ 7) : rZ (sM S 47 Q) T n fk (0, Z.2.1, Q) := by
  obtain ⟨z1, z2, z3, z4, z5, z6⟩ := hZ
  exact ⟨pE_sM (Or.inr (Or.inl rfl)) Q, h2, h3, z4, fun _ => z5 h0, fun z => absurd rfl z⟩
theorem m_readsWord (sa : Nat → Nat) (d : Nat) (h : AH) (co : Nat) {S : ST} {T : Nat → Nat} {n : Nat} {fk : Int32} {Z : ZS} (hZ : rZ S T n fk Z) (h0 : Z.1 = 0) (ho : isC T n Z.2.1 111 = true) : ∃ S', AMC sa (d + 5) 129 [.ref (co + 40)] (mk h co S) = some (none, mk h co S') ∧ rZ S' T n fk (zW T n Z) ∧ fP S S' := by
  obtain ⟨o1, o2, o3, o4, o5⟩ := isC_tk (by decide) (by decide) ho
  have hW := hZ.2.1
  have g2i : aIL (mk h co S) (co + 47) 2 = some (nI (Z.2.2 2)) := pE_get hZ.1 h co (j := 2) (by decide)
  obtain ⟨S1, g1, g2, g3⟩ := m_takes sa (d + 1) h co hZ (decide (Z.2.2 2 < 6)) (k := 3) (by decide) (by decide) (fun _ _ => by rw [o1]; decide)
  have q1 := zTk_Q T n (decide (Z.2.2 2 < 6)) 3 Z
  have g2i1 : aIL (mk h co S1) (co + 47) 2 = some (nI (Z.2.2 2)) := by have := pE_get g2.1 h co (j := 2) (by decide); rw [q1] at this; exact this
  obtain ⟨S2, g4, g5, g6⟩ := m_figure sa d h co g2 (lo := 1) (hi := 9) (by decide) (by decide)
  have q2 := zNu_Q T n 1 9 (zTk T n (decide (Z.2.2 2 < 6)) 3 Z)
  obtain ⟨b, b1, b2, b3⟩ := tokB g5 (c := 4) (by decide) 1
  obtain ⟨S3, g7, g8, g9⟩ := m_takes sa (d + 1) h co g5 b (k := 1) (by decide) (by decide) (fun q1 q2 => by rw [b3 q1 q2]; decide)
  rw [b2] at g8
  have q3 := zTk_Q T n (decide (tkT T n (zNu T n 1 9 (zTk T n (decide (Z.2.2 2 < 6)) 3 Z)).2.2.1 = 4)) 1 (zNu T n 1 9 (zTk T n (decide (Z.2.2 2 < 6)) 3 Z)).2
  have hfr := fP_trans g3 (fP_trans g6 g9)
  have key : ∃ S', (∀ kx : Int32, (Z.2.2 2 < 6 → kx = nI (6 + Z.2.2 2)) → AMV sa (d + 4) 129 69 [.ref (co + 40), .int kx, .int (nI (zNu T n 1 9 (zTk T n (decide (Z.2.2 2 < 6)) 3 Z)).1)] [.int (bv b), .ref (co + 40)] (mk h co S2) = some (none, mk h co S')) ∧ rZ S' T n fk (zW T n Z) ∧ fP S S' := by
    have ezw : zW T n Z = (if (zTk T n (decide (tkT T n (zNu T n 1 9 (zTk T n (decide (Z.2.2 2 < 6)) 3 Z)).2.2.1 = 4)) 1 (zNu T n 1 9 (zTk T n (decide (Z.2.2 2 < 6)) 3 Z)).2).1 = 0 then (0, (zTk T n (decide (tkT T n (zNu T n 1 9 (zTk T n (decide (Z.2.2 2 < 6)) 3 Z)).2.2.1 = 4)) 1 (zNu T n 1 9 (zTk T n (decide (Z.2.2 2 < 6)) 3 Z)).2).2.1, pUp (pUp (zTk T n (decide (tkT T n (zNu T n 1 9 (zTk T n (decide (Z.2.2 2 < 6)) 3 Z)).2.2.1 = 4)) 1 (zNu T n 1 9 (zTk T n (decide (Z.2.2 2 < 6)) 3 Z)).2).2.2 (6 + Z.2.2 2) (zNu T n 1 9 (zTk T n (decide (Z.2.2 2 < 6)) 3 Z)).1) 2 (Z.2.2 2 + 1)) else zTk T n (decide (tkT T n (zNu T n 1 9 (zTk T n (decide (Z.2.2 2 < 6)) 3 Z)).2.2.1 = 4)) 1 (zNu T n 1 9 (zTk T n (decide (Z.2.2 2 < 6)) 3 Z)).2) := rfl
    rw [q2, q1] at q3
    have g1x : AMC sa (d + 4) 125 [.ref (co + 40), .int (bv b), .int 1] (mk h co S2) = _ := g7
    by_cases hB : (zTk T n (decide (tkT T n (zNu T n 1 9 (zTk T n (decide (Z.2.2 2 < 6)) 3 Z)).2.2.1 = 4)) 1 (zNu T n 1 9 (zTk T n (decide (Z.2.2 2 < 6)) 3 Z)).2).1 = 0
    · rw [if_pos hB] at ezw
      have hA : (zNu T n 1 9 (zTk T n (decide (Z.2.2 2 < 6)) 3 Z)).2.1 = 0 := (zTk_1 (by decide) hB).1
      have hw6 : Z.2.2 2 < 6 := by
        have hT1 : (zTk T n (decide (Z.2.2 2 < 6)) 3 Z).1 = 0 := by
          unfold zNu at hA
          by_cases e : (zTk T n (decide (Z.2.2 2 < 6)) 3 Z).1 = 0
          · exact e
          · rw [if_neg e] at hA; exact hA
        exact of_decide_eq_true (zTk_1 (by decide) hT1).2
      have hE3 : pE S3 47 Z.2.2 := by have := g8.1; rw [q3] at this; exact this
      have hE4 : pE (sM S3 47 (pUp Z.2.2 (6 + Z.2.2 2) (zNu T n 1 9 (zTk T n (decide (Z.2.2 2 < 6)) 3 Z)).1)) 47 (pUp Z.2.2 (6 + Z.2.2 2) (zNu T n 1 9 (zTk T n (decide (Z.2.2 2 < 6)) 3 Z)).1) := pE_sM (Or.inr (Or.inl rfl)) _
      have e2 : (pUp Z.2.2 (6 + Z.2.2 2) (zNu T n 1 9 (zTk T n (decide (Z.2.2 2 < 6)) 3 Z)).1) 2 = Z.2.2 2 := pUp_ne _ _ (by omega)
      have e3 : (pUp (pUp Z.2.2 (6 + Z.2.2 2) (zNu T n 1 9 (zTk T n (decide (Z.2.2 2 < 6)) 3 Z)).1) 2 (Z.2.2 2 + 1)) 3 = Z.2.2 3 := by rw [pUp_ne _ _ (by decide), pUp_ne _ _ (by omega)]
      have h37 : Z.2.2 3 ≤ 7 := hZ.2.2.1
      refine ⟨sM S3 47 (pUp (pUp Z.2.2 (6 + Z.2.2 2) (zNu T n 1 9 (zTk T n (decide (Z.2.2 2 < 6)) 3 Z)).1) 2 (Z.2.2 2 + 1)), fun kx hkx => ?_, ?_, fP_trans hfr (fP_sM _ _)⟩
      · rw [hkx hw6, eX8_readsWord_69, gC_40, aOp_s, g1x, aRI_mk, aOp_s, gC_40, aOp_s, m_isWell sa (d + 3) h co g8, aRI_mk, aOp_s, decide_eq_true hB, if_neg bvn, gR_40_14, aOp_s, pE_set hE3 h co (by omega), aOp_s, gR_40_14, aOp_s, show aIL _ (co + 47) 2 = _ from pE_get hE4 h co (j := 2) (by decide), aOp_s, e2, nI_1, show (2 : Int32) = nI 2 from rfl, pE_set hE4 h co (by decide), aOp_s, sM_sM]
      · rw [ezw, q3]
        exact rZ_Q g8 hB (by rw [pUp_at]; omega) (by rw [e3]; exact h37)
    · rw [if_neg hB] at ezw
      refine ⟨S3, fun kx hkx => ?_, by rw [ezw]; exact g8, hfr⟩
      rw [eX8_readsWord_69, gC_40, aOp_s, g1x, aRI_mk, aOp_s, gC_40, aOp_s, m_isWell sa (d + 3) h co g8, aRI_mk, aOp_s, decide_eq_false hB, if_pos bvf]
  obtain ⟨S', k1, k2, k3⟩ := key
  refine ⟨S', ?_, k2, k3⟩
  have e45 : ∀ s1 : Int32, (Z.2.2 2 < 6 → s1 = nI (Z.2.2 2)) → AMV sa (d + 4) 129 45 [.ref (co + 40), .null, .null] [.int s1, .int 6] (mk h co S1) = some (none, mk h co S') := by
    intro s1 hs1
    have kk := k1 (6 + s1) (fun q => by rw [hs1 q, ix6])
    rw [eX8_readsWord_45, gC_40, aOp_s, show AMC sa (d + 4) 126 [.ref (co + 40), .int 1, .int 9] (mk h co S1) = _ from g4, aRI_mk, aOp_s, gI_40_11, aOp_s]
    cases b with
    | true => rw [if_pos (show S2.1 40 11 = 4 from b1.mpr rfl)]; exact kk
    | false => rw [if_neg (show ¬ S2.1 40 11 = 4 from fun z => by cases b1.mp z)]; exact kk
  have e17 : AMV sa (d + 4) 129 17 [.ref (co + 40), .null, .null] [.int (bv (decide (Z.2.2 2 < 6))), .ref (co + 40)] (mk h co S) = some (none, mk h co S') := by
    rw [eX8_readsWord_17, gC_40, aOp_s, show AMC sa (d + 4) 125 [.ref (co + 40), .int (bv (decide (Z.2.2 2 < 6))), .int 3] (mk h co S) = _ from g1, aRI_mk, aOp_s, gR_40_14, aOp_s, g2i1, aOp_s]
    by_cases h6 : Z.2.2 2 < 6
    · rw [if_neg (show ¬ (6 : Int32) ≤ nI (Z.2.2 2) from nI_ge (b := 6) h6 (by decide)), aOp_s]
      dsimp only
      rw [g2i1, aOp_s]
      exact e45 _ (fun _ => rfl)
    · rw [if_pos (show (6 : Int32) ≤ nI (Z.2.2 2) from nI_le (a := 6) (by omega) (by omega))]
      exact e45 _ (fun q => absurd q h6)
  rw [fX8_readsWord, eX8_readsWord_0, gR_40_14, aOp_s, g2i, aOp_s]
  by_cases h6 : Z.2.2 2 < 6
  · rw [decide_eq_true h6] at e17
    rw [if_neg (show ¬ (6 : Int32) ≤ nI (Z.2.2 2) from nI_ge (b := 6) h6 (by decide))]
    exact e17
  · rw [decide_eq_false h6] at e17
    rw [if_pos (show (6 : Int32) ≤ nI (Z.2.2 2) from nI_le (a := 6) (by omega) (by omega))]
    exact e17
