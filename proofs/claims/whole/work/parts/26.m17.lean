/-! ===== the reference: post ===== -/
def zWs (T : Nat → Nat) (n : Nat) : Nat → ZS → ZS
  | 0, Z => Z
  | m + 1, Z => if Z.1 = 0 ∧ isC T n Z.2.1 111 = true then zWs T n m (zW T n Z) else Z
def zLs (T : Nat → Nat) (n : Nat) : Nat → ZS → ZS
  | 0, Z => Z
  | m + 1, Z => if Z.1 = 0 ∧ 0 < kB T n Z.2.1 then zLs T n m (zL T n Z) else Z
def zMu (T : Nat → Nat) (n : Nat) (b : Bool) (Z : ZS) : ZS := cond b Z (zTk T n false 1 Z)
def zSet (Z : ZS) (j v : Nat) : ZS := (Z.1, Z.2.1, pUp Z.2.2 j v)
def zLaw (T : Nat → Nat) (n : Nat) : ZS :=
  let A := zNu T n 0 99 (zTk T n (isC T n 0 112) 1 (0, 0, fun _ => 0))
  let B := zSet A.2 0 A.1
  let C := zNu T n 0 60 (zTk T n (decide (tkT T n B.2.1 = 3)) 1 B)
  let D := zSet C.2 1 C.1
  zTk T n (decide (tkT T n D.2.1 = 4)) 1 D
def zAll (T : Nat → Nat) (n : Nat) : ZS :=
  let E := zLaw T n
  let F := zWs T n 7 (zMu T n (isC T n E.2.1 111) E)
  let G := zLs T n 8 (zMu T n (decide (0 < kB T n F.2.1)) F)
  zMu T n (decide (n ≤ G.2.1)) G
theorem zMu_0 {T : Nat → Nat} {n : Nat} {b : Bool} {Z : ZS} (h : Z.1 ≠ 0) : zMu T n b Z = Z := by
  unfold zMu
  cases b with
  | true => rfl
  | false => rw [cond_false]; unfold zTk; rw [if_neg h]
theorem zMu_Q (T : Nat → Nat) (n : Nat) (b : Bool) (Z : ZS) : (zMu T n b Z).2.2 = Z.2.2 := by
  unfold zMu
  cases b with
  | true => rfl
  | false => rw [cond_false, zTk_Q]
theorem zW_2 {T : Nat → Nat} {n : Nat} {Z : ZS} (h : (zW T n Z).1 = 0) : (zW T n Z).2.2 2 = Z.2.2 2 + 1 := by
  have e : zW T n Z = (let A := zNu T n 1 9 (zTk T n (decide (Z.2.2 2 < 6)) 3 Z); let B := zTk T n (decide (tkT T n A.2.2.1 = 4)) 1 A.2; if B.1 = 0 then (0, B.2.1, pUp (pUp B.2.2 (6 + Z.2.2 2) A.1) 2 (Z.2.2 2 + 1)) else B) := rfl
  dsimp only at e
  generalize zNu T n 1 9 (zTk T n (decide (Z.2.2 2 < 6)) 3 Z) = A at *
  generalize zTk T n (decide (tkT T n A.2.2.1 = 4)) 1 A.2 = B at *
  by_cases hB : B.1 = 0
  · rw [if_pos hB] at e
    rw [e]
    exact pUp_at (pUp B.2.2 (6 + Z.2.2 2) A.1) 2 (Z.2.2 2 + 1)
  · rw [if_neg hB] at e
    rw [e] at h
    exact absurd h hB
theorem zL_3 {T : Nat → Nat} {n : Nat} {Z : ZS} (h : (zL T n Z).1 = 0) : (zL T n Z).2.2 3 = Z.2.2 3 + 1 := by
  have e : zL T n Z = (let A := zNu T n 0 (2 ^ Z.2.2 2 - 1) (zTk T n (decide (Z.2.2 3 < 7)) 3 Z); let B := zPt T n A.1 A.2; let C := zTk T n (decide (tkT T n B.2.2.1 = 4)) 1 B.2; if C.1 = 0 then (0, C.2.1, pUp (pUp (pUp (pUp C.2.2 (12 + 4 * Z.2.2 3) (kB T n Z.2.1)) (13 + 4 * Z.2.2 3) A.1) (14 + 4 * Z.2.2 3) B.1) 3 (Z.2.2 3 + 1)) else C) := rfl
  dsimp only at e
  generalize zNu T n 0 (2 ^ Z.2.2 2 - 1) (zTk T n (decide (Z.2.2 3 < 7)) 3 Z) = A at *
  generalize zPt T n A.1 A.2 = B at *
  generalize zTk T n (decide (tkT T n B.2.2.1 = 4)) 1 B.2 = C at *
  by_cases hC : C.1 = 0
  · rw [if_pos hC] at e
    rw [e]
    exact pUp_at (pUp (pUp (pUp C.2.2 (12 + 4 * Z.2.2 3) (kB T n Z.2.1)) (13 + 4 * Z.2.2 3) A.1) (14 + 4 * Z.2.2 3) B.1) 3 (Z.2.2 3 + 1)
  · rw [if_neg hC] at e
    rw [e] at h
    exact absurd h hC
theorem m_words_loop (sa : Nat → Nat) (d : Nat) (h : AH) (co : Nat) {T : Nat → Nat} {n : Nat} {fk : Int32} (x1 : Int32) : ∀ m S Z, rZ S T n fk Z → (Z.1 = 0 → Z.2.2 2 + m = 7) → ∃ S', AMV sa (d + 6) 133 134 [.ref (co + 40), .int x1] [] (mk h co S) = AMV sa (d + 6) 133 165 [.ref (co + 40), .int x1] [] (mk h co S') ∧ rZ S' T n fk (zWs T n m Z) ∧ fP S S' := by
  intro m
  induction m with
  | zero =>
    intro S Z hZ hm
    by_cases h0 : Z.1 = 0
    · have := hm h0; have := hZ.2.1; omega
    · refine ⟨S, ?_, hZ, fP_refl S⟩
      rw [eX8_post_134, gC_40, aOp_s, m_isWell sa (d + 5) h co hZ, aRI_mk, aOp_s, decide_eq_false h0, if_pos bvf]
  | succ m ih =>
    intro S Z hZ hm
    by_cases h0 : Z.1 = 0
    · obtain ⟨w1, w2, w3⟩ := hZ.2.2.2.2.1 h0
      have hb : Z.2.1 < n → T Z.2.1 < 256 := fun q => (hZ.2.2.2.1.2.2 _ q).2
      have h5 := tk5 T n Z.2.1
      rw [eX8_post_134, gC_40, aOp_s, m_isWell sa (d + 5) h co hZ, aRI_mk, aOp_s, decide_eq_true h0, if_neg bvn, gI_40_11, aOp_s, w3.2.2.1]
      cases ho : isC T n Z.2.1 111 with
      | true =>
        obtain ⟨o1, o2, o3, o4, o5⟩ := isC_tk (by decide) (by decide) ho
        obtain ⟨S1, g1, g2, g3⟩ := m_readsWord sa (d + 1) h co hZ h0 ho
        obtain ⟨S', k1, k2, k3⟩ := ih S1 (zW T n Z) g2 (fun q => by rw [zW_2 q]; have := hm h0; omega)
        refine ⟨S', ?_, ?_, fP_trans g3 k3⟩
        · rw [if_pos (show nI (tkT T n Z.2.1) = 1 by rw [o1]; rfl), gI_40_12, aOp_s, w3.2.2.2.1, if_pos (show tkV T n Z.2.1 = 111 by rw [o2]; rfl), gC_40, aOp_s, g1, aRV_mk, aOp_s]
          exact k1
        · show rZ S' T n fk (if Z.1 = 0 ∧ isC T n Z.2.1 111 = true then zWs T n m (zW T n Z) else Z)
          rw [if_pos ⟨h0, ho⟩]
          exact k2
      | false =>
        refine ⟨S, ?_, ?_, fP_refl S⟩
        · by_cases h1 : tkT T n Z.2.1 = 1
          · rw [if_pos (show nI (tkT T n Z.2.1) = 1 by rw [h1]; rfl), gI_40_12, aOp_s, w3.2.2.2.1, if_neg (show ¬ tkV T n Z.2.1 = 111 from fun z => by rw [(isC_of (x := 111) (by decide) hb h1).mp z] at ho; cases ho)]
          · rw [if_neg (show ¬ nI (tkT T n Z.2.1) = 1 from fun z => h1 ((nI_eq (b := 1) (by omega) (by decide)).mp z))]
        · show rZ S T n fk (if Z.1 = 0 ∧ isC T n Z.2.1 111 = true then zWs T n m (zW T n Z) else Z)
          rw [if_neg (fun z => by rw [ho] at z; cases z.2)]
          exact hZ
    · refine ⟨S, ?_, ?_, fP_refl S⟩
      · rw [eX8_post_134, gC_40, aOp_s, m_isWell sa (d + 5) h co hZ, aRI_mk, aOp_s, decide_eq_false h0, if_pos bvf]
      · show rZ S T n fk (if Z.1 = 0 ∧ isC T n Z.2.1 111 = true then zWs T n m (zW T n Z) else Z)
        rw [if_neg (fun z => h0 z.1)]
        exact hZ
theorem tk1 {T : Nat → Nat} {n p : Nat} (h : tkT T n p = 1) : p < n ∧ tkV T n p = nI (T p) := by
  unfold tkT at h
  unfold tkV
  by_cases hp : p < n
  · rw [if_pos hp] at h ⊢
    cases hd : dg T n p with
    | true => rw [hd, cond_true] at h; split at h <;> omega
    | false => exact ⟨hp, rfl⟩
  · rw [if_neg hp] at h; omega
theorem m_letters_loop (sa : Nat → Nat) (d : Nat) (h : AH) (co : Nat) {T : Nat → Nat} {n : Nat} {fk : Int32} (x1 : Int32) : ∀ m S Z, rZ S T n fk Z → (Z.1 = 0 → Z.2.2 3 + m = 8) → ∃ S', AMV sa (d + 6) 133 192 [.ref (co + 40), .int x1] [] (mk h co S) = AMV sa (d + 6) 133 224 [.ref (co + 40), .int x1] [] (mk h co S') ∧ rZ S' T n fk (zLs T n m Z) ∧ fP S S' := by
  intro m
  induction m with
  | zero =>
    intro S Z hZ hm
    by_cases h0 : Z.1 = 0
    · have := hm h0; have := hZ.2.2.1; omega
    · refine ⟨S, ?_, hZ, fP_refl S⟩
      rw [eX8_post_192, gC_40, aOp_s, m_isWell sa (d + 5) h co hZ, aRI_mk, aOp_s, decide_eq_false h0, if_pos bvf]
  | succ m ih =>
    intro S Z hZ hm
    by_cases h0 : Z.1 = 0
    · obtain ⟨w1, w2, w3⟩ := hZ.2.2.2.2.1 h0
      have hb : Z.2.1 < n → T Z.2.1 < 256 := fun q => (hZ.2.2.2.1.2.2 _ q).2
      have h5 := tk5 T n Z.2.1
      rw [eX8_post_192, gC_40, aOp_s, m_isWell sa (d + 5) h co hZ, aRI_mk, aOp_s, decide_eq_true h0, if_neg bvn, gI_40_11, aOp_s, w3.2.2.1]
      by_cases ho : 0 < kB T n Z.2.1
      · obtain ⟨p1, p2, p3, p4⟩ := kB_tk ho
        obtain ⟨o1, o2, o3, o4, o5⟩ := isC_tk p2 p3 p1
        have hk5 := kd_le (T Z.2.1)
        obtain ⟨S1, g1, g2, g3⟩ := m_readsLetter sa d h co hZ h0 ho
        obtain ⟨S', k1, k2, k3⟩ := ih S1 (zL T n Z) g2 (fun q => by rw [zL_3 q]; have := hm h0; omega)
        refine ⟨S', ?_, ?_, fP_trans g3 k3⟩
        · rw [if_pos (show nI (tkT T n Z.2.1) = 1 by rw [o1]; rfl), gI_40_12, aOp_s, w3.2.2.2.1, o2, m_kindOf sa (d + 5) (by have := hb o4; omega), aRI_mk, aOp_s, if_neg (nI_nle (by omega) (by omega)), gC_40, aOp_s, g1, aRV_mk, aOp_s]
          exact k1
        · show rZ S' T n fk (if Z.1 = 0 ∧ 0 < kB T n Z.2.1 then zLs T n m (zL T n Z) else Z)
          rw [if_pos ⟨h0, ho⟩]
          exact k2
      · refine ⟨S, ?_, ?_, fP_refl S⟩
        · by_cases h1 : tkT T n Z.2.1 = 1
          · obtain ⟨c1, c2⟩ := tk1 h1
            have hk0 : kd (T Z.2.1) = 0 := by have : kB T n Z.2.1 = kd (T Z.2.1) := if_pos c1; omega
            rw [if_pos (show nI (tkT T n Z.2.1) = 1 by rw [h1]; rfl), gI_40_12, aOp_s, w3.2.2.2.1, c2, m_kindOf sa (d + 5) (by have := hb c1; omega), aRI_mk, aOp_s, hk0, if_pos (show nI 0 ≤ 0 by decide)]
          · rw [if_neg (show ¬ nI (tkT T n Z.2.1) = 1 from fun z => h1 ((nI_eq (b := 1) (by omega) (by decide)).mp z))]
        · show rZ S T n fk (if Z.1 = 0 ∧ 0 < kB T n Z.2.1 then zLs T n m (zL T n Z) else Z)
          rw [if_neg (fun z => ho z.2)]
          exact hZ
    · refine ⟨S, ?_, ?_, fP_refl S⟩
      · rw [eX8_post_192, gC_40, aOp_s, m_isWell sa (d + 5) h co hZ, aRI_mk, aOp_s, decide_eq_false h0, if_pos bvf]
      · show rZ S T n fk (if Z.1 = 0 ∧ 0 < kB T n Z.2.1 then zLs T n m (zL T n Z) else Z)
        rw [if_neg (fun z => h0 z.1)]
        exact hZ
theorem zSet_r {S : ST} {T : Nat → Nat} {n : Nat} {fk : Int32} {Z : ZS} (hZ : rZ S T n fk Z) {j v : Nat} (hj : j < 2) : rZ (sM S 47 (pUp Z.2.2 j v)) T n fk (zSet Z j v) := by
  obtain ⟨z1, z2, z3, z4, z5, z6⟩ := hZ
  exact ⟨pE_sM (Or.inr (Or.inl rfl)) _, by show (pUp Z.2.2 j v) 2 ≤ 6; rw [pUp_ne _ _ (by omega)]; exact z2, by show (pUp Z.2.2 j v) 3 ≤ 7; rw [pUp_ne _ _ (by omega)]; exact z3, z4, z5, z6⟩
theorem zWs_3 (T : Nat → Nat) (n : Nat) : ∀ m Z, (zWs T n m Z).2.2 3 = Z.2.2 3
  | 0, Z => rfl
  | m + 1, Z => by
    show (if Z.1 = 0 ∧ isC T n Z.2.1 111 = true then zWs T n m (zW T n Z) else Z).2.2 3 = _
    split
    · rw [zWs_3 T n m (zW T n Z)]
      have e : zW T n Z = (let A := zNu T n 1 9 (zTk T n (decide (Z.2.2 2 < 6)) 3 Z); let B := zTk T n (decide (tkT T n A.2.2.1 = 4)) 1 A.2; if B.1 = 0 then (0, B.2.1, pUp (pUp B.2.2 (6 + Z.2.2 2) A.1) 2 (Z.2.2 2 + 1)) else B) := rfl
      dsimp only at e
      have q1 := zTk_Q T n (decide (Z.2.2 2 < 6)) 3 Z
      have q2 := zNu_Q T n 1 9 (zTk T n (decide (Z.2.2 2 < 6)) 3 Z)
      rw [q1] at q2
      generalize zNu T n 1 9 (zTk T n (decide (Z.2.2 2 < 6)) 3 Z) = A at *
      have q3 := zTk_Q T n (decide (tkT T n A.2.2.1 = 4)) 1 A.2
      rw [q2] at q3
      generalize zTk T n (decide (tkT T n A.2.2.1 = 4)) 1 A.2 = B at *
      by_cases hB : B.1 = 0
      · rw [if_pos hB] at e
        rw [e]
        show (pUp (pUp B.2.2 (6 + Z.2.2 2) A.1) 2 (Z.2.2 2 + 1)) 3 = _
        rw [pUp_ne _ _ (by decide), pUp_ne _ _ (by omega), q3]
      · rw [if_neg hB] at e
        rw [e, q3]
    · rfl
theorem zLaw_Q (T : Nat → Nat) (n : Nat) : (zLaw T n).2.2 2 = 0 ∧ (zLaw T n).2.2 3 = 0 := by
  unfold zLaw
  dsimp only
  rw [zTk_Q]
  unfold zSet
  dsimp only
  rw [zNu_Q, zTk_Q]
  dsimp only
  rw [zNu_Q, zTk_Q]
  exact ⟨rfl, rfl⟩
/-- how post ends: a fault, or a post -/
theorem m_post (sa : Nat → Nat) (d : Nat) (h : AH) (co : Nat) {S : ST} {T : Nat → Nat} {n : Nat} (hT : tT S 45 40 6 T n) : ∃ S', fP S S' ∧
    (((zAll T n).1 ≠ 0 ∧ (zAll T n).1 ≤ 3 ∧ (zAll T n).2.1 ≤ n ∧ S'.1 40 7 = nI (zAll T n).1 ∧ AMC sa (d + 7) 133 [.ref (co + 40)] (mk h co S) = some (some (.int ((-1000100) - nI (zAll T n).2.1)), mk h co (sI S' 40 6 0))) ∨
     ((zAll T n).1 = 0 ∧ S'.1 40 7 = S.1 40 7 ∧ (zAll T n).2.2 3 ≤ 7 ∧ (zAll T n).2.2 2 ≤ 6 ∧ AMC sa (d + 7) 133 [.ref (co + 40)] (mk h co S) = some (some (.int (nI ((zAll T n).2.2 3))), mk h co (sI (sM (sI S' 40 6 0) 46 (zAll T n).2.2) 40 17 0)))) := by
  have hn := hT.2.1
  -- zeros
  have lz : ∀ m k (f : Nat → Int32), k + m = 40 → (∀ j, j < k → f j = nI 0) → ∃ f', (∀ j, j < 40 → f' j = nI 0) ∧ AMV sa (d + 6) 133 2 [.ref (co + 40), .int (nI k)] [] (mk h co (sA S 47 f)) = AMV sa (d + 6) 133 2 [.ref (co + 40), .int (nI 40)] [] (mk h co (sA S 47 f')) := by
    intro m
    induction m with
    | zero =>
      intro k f hk hf
      have hk : k = 40 := hk
      subst hk
      exact ⟨f, hf, rfl⟩
    | succ m ih =>
      intro k f hk hf
      obtain ⟨f', g1, g2⟩ := ih (k + 1) (upd f k 0) (by omega) (fun j hj => by
        by_cases e : j = k
        · rw [e, pk_us]; rfl
        · rw [pk_un e]; exact hf j (by omega))
      refine ⟨f', g1, ?_⟩
      rw [eX8_post_2, if_neg (show ¬ (40 : Int32) ≤ nI k from nI_ge (b := 40) (by omega) (by decide)), gR_40_14, aOp_s, gS_47 _ _ _ _ _ (aIn_nI (by omega) (by decide)), aOp_s, nI_clamp (by omega), sA_at, sA_sA, nI_1]
      exact g2
  obtain ⟨f', z1, z2⟩ := lz 40 0 (S.2.2 47) rfl (fun j hj => by omega)
  rw [sA_self] at z2
  have fr0 : fP S (sA S 47 f') := ⟨rfl, fun _ hc => sA_ne _ _ _ hc, fun _ _ _ => rfl⟩
  have fr1 : fP S (sI (sI (sA S 47 f') 40 9 0) 40 8 (-1)) := fP_trans fr0 (fP_trans (fP_sI _ _ (by decide) (by decide)) (fP_sI _ _ (by decide) (by decide)))
  obtain ⟨S1, a1, a2, a3, a4, a5, a6⟩ := m_advances sa (d + 4) h co (a := 0) (tT_fP hT fr1) (Nat.zero_le _) (show (sI (sI (sA S 47 f') 40 9 0) 40 8 (-1)).1 40 9 = nI 0 from rfl)
  have hZ0 : rZ S1 T n (S.1 40 7) (0, 0, fun _ => 0) := ⟨⟨Or.inr (Or.inl rfl), fun j hj => by
      rw [a6]
      show (sA S 47 f').2.2 47 j = _
      rw [sA_at]
      exact z1 j hj⟩, Nat.zero_le _, Nat.zero_le _, tT_fP (tT_fP hT fr1) a3, fun _ => ⟨a5, a4, a2⟩, fun z => absurd rfl z⟩
  have fr2 : fP S S1 := fP_trans fr1 a3
  -- the law
  have hb0 : 0 < n → T 0 < 256 := fun q => (hT.2.2 0 q).2
  have h50 := tk5 T n 0
  obtain ⟨S2, g1, g2, g3⟩ := m_takes sa (d + 3) h co hZ0 (isC T n 0 112) (k := 1) (by decide) (by decide) (fun _ q => by rw [(isC_tk (by decide) (by decide) q).1]; decide)
  obtain ⟨S3, g4, g5, g6⟩ := m_figure sa (d + 2) h co g2 (lo := 0) (hi := 99) (by decide) (by decide)
  have eL : zLaw T n = (let A := zNu T n 0 99 (zTk T n (isC T n 0 112) 1 (0, 0, fun _ => 0)); let B := zSet A.2 0 A.1; let C := zNu T n 0 60 (zTk T n (decide (tkT T n B.2.1 = 3)) 1 B); let D := zSet C.2 1 C.1; zTk T n (decide (tkT T n D.2.1 = 4)) 1 D) := rfl
  have eLQ := zLaw_Q T n
  generalize zNu T n 0 99 (zTk T n (isC T n 0 112) 1 (0, 0, fun _ => 0)) = A at *
  dsimp only at eL
  have g7 := zSet_r g5 (j := 0) (v := A.1) (by decide)
  have i1 : aIS (mk h co S3) (co + 47) 0 (nI A.1) = some (mk h co (sM S3 47 (pUp A.2.2.2 0 A.1))) := pE_set g5.1 h co (j := 0) (by decide)
  generalize zSet A.2 0 A.1 = B at *
  obtain ⟨S4, g8, g9, g10⟩ := m_follows sa (d + 1) h co g7 (lo := 0) (hi := 60) (by decide) (by decide)
  generalize zNu T n 0 60 (zTk T n (decide (tkT T n B.2.1 = 3)) 1 B) = C at *
  have g11 := zSet_r g9 (j := 1) (v := C.1) (by decide)
  have i2 : aIS (mk h co S4) (co + 47) 1 (nI C.1) = some (mk h co (sM S4 47 (pUp C.2.2.2 1 C.1))) := pE_set g9.1 h co (j := 1) (by decide)
  generalize zSet C.2 1 C.1 = D at *
  obtain ⟨b, b1, b2, b3⟩ := tokB g11 (c := 4) (by decide) 1
  obtain ⟨S5, g12, g13, g14⟩ := m_takes sa (d + 3) h co g11 b (k := 1) (by decide) (by decide) (fun q1 q2 => by rw [b3 q1 q2]; decide)
  rw [b2, ← eL] at g13
  have fr5 : fP S S5 := fP_trans fr2 (fP_trans g3 (fP_trans g6 (fP_trans (fP_sM _ _) (fP_trans g10 (fP_trans (fP_sM _ _) g14)))))
  have eAll : zAll T n = (let E := zLaw T n; let F := zWs T n 7 (zMu T n (isC T n E.2.1 111) E); let G := zLs T n 8 (zMu T n (decide (0 < kB T n F.2.1)) F); zMu T n (decide (n ≤ G.2.1)) G) := rfl
  generalize zLaw T n = E at *
  dsimp only at eAll
  -- must o
  have mo : ∃ S6 b6, (∀ x1 : Int32, AMV sa (d + 6) 133 103 [.ref (co + 40), .int x1] [.int (bv b), .ref (co + 40)] (mk h co (sM S4 47 (pUp C.2.2.2 1 C.1))) = AMV sa (d + 6) 133 134 [.ref (co + 40), .int x1] [] (mk h co S6)) ∧ rZ S6 T n (S.1 40 7) (zMu T n b6 E) ∧ zMu T n b6 E = zMu T n (isC T n E.2.1 111) E ∧ fP S5 S6 := by
    have mk6 : ∀ b6 : Bool, (E.1 = 0 → b6 = isC T n E.2.1 111) → (∀ x1 : Int32, ∀ S6, AMC sa (d + 6) 132 [.ref (co + 40), .int (bv b6)] (mk h co S5) = some (none, mk h co S6) → AMV sa (d + 6) 133 103 [.ref (co + 40), .int x1] [.int (bv b), .ref (co + 40)] (mk h co (sM S4 47 (pUp C.2.2.2 1 C.1))) = AMV sa (d + 6) 133 134 [.ref (co + 40), .int x1] [] (mk h co S6)) → ∃ S6 b6, (∀ x1 : Int32, AMV sa (d + 6) 133 103 [.ref (co + 40), .int x1] [.int (bv b), .ref (co + 40)] (mk h co (sM S4 47 (pUp C.2.2.2 1 C.1))) = AMV sa (d + 6) 133 134 [.ref (co + 40), .int x1] [] (mk h co S6)) ∧ rZ S6 T n (S.1 40 7) (zMu T n b6 E) ∧ zMu T n b6 E = zMu T n (isC T n E.2.1 111) E ∧ fP S5 S6 := by
      intro b6 hb6 hgo
      obtain ⟨S6, k1, k2, k3⟩ := m_must sa (d + 2) h co g13 b6
      refine ⟨S6, b6, fun x1 => hgo x1 S6 k1, k2, ?_, k3⟩
      by_cases h0 : E.1 = 0
      · rw [hb6 h0]
      · rw [zMu_0 h0, zMu_0 h0]
    have start : ∀ x1 : Int32, AMV sa (d + 6) 133 103 [.ref (co + 40), .int x1] [.int (bv b), .ref (co + 40)] (mk h co (sM S4 47 (pUp C.2.2.2 1 C.1))) = (if S5.1 40 11 = 1 then (if S5.1 40 12 = 111 then aOp (aRV (AMC sa (d + 6) 132 [.ref (co + 40), .int (bv true)] (mk h co S5))) (fun h4 => AMV sa (d + 6) 133 134 [.ref (co + 40), .int x1] [] h4) else aOp (aRV (AMC sa (d + 6) 132 [.ref (co + 40), .int (bv false)] (mk h co S5))) (fun h4 => AMV sa (d + 6) 133 134 [.ref (co + 40), .int x1] [] h4)) else aOp (aRV (AMC sa (d + 6) 132 [.ref (co + 40), .int (bv false)] (mk h co S5))) (fun h4 => AMV sa (d + 6) 133 134 [.ref (co + 40), .int x1] [] h4)) := by
      intro x1
      rw [eX8_post_103, gC_40, aOp_s, show AMC sa (d + 6) 125 [.ref (co + 40), .int (bv b), .int 1] (mk h co (sM S4 47 (pUp C.2.2.2 1 C.1))) = _ from g12, aRI_mk, aOp_s, gI_40_11, aOp_s, gI_40_12, aOp_s, gC_40, aOp_s, aOp_s]
      rfl
    have h5E := tk5 T n E.2.1
    by_cases h11 : S5.1 40 11 = 1
    · by_cases h12 : S5.1 40 12 = 111
      · refine mk6 true (fun q => ?_) (fun x1 S6 k1 => by rw [start, if_pos h11, if_pos h12, k1, aRV_mk, aOp_s])
        obtain ⟨w1, w2, w3⟩ := g13.2.2.2.2.1 q
        have ht : tkT T n E.2.1 = 1 := (nI_eq (b := 1) (by omega) (by decide)).mp (w3.2.2.1.symm.trans h11)
        exact ((isC_of (x := 111) (by decide) (fun q => (hT.2.2 _ q).2) ht).mp (w3.2.2.2.1.symm.trans h12)).symm
      · refine mk6 false (fun q => ?_) (fun x1 S6 k1 => by rw [start, if_pos h11, if_neg h12, k1, aRV_mk, aOp_s])
        obtain ⟨w1, w2, w3⟩ := g13.2.2.2.2.1 q
        have ht : tkT T n E.2.1 = 1 := (nI_eq (b := 1) (by omega) (by decide)).mp (w3.2.2.1.symm.trans h11)
        cases hc : isC T n E.2.1 111 with
        | false => rfl
        | true => exact absurd (w3.2.2.2.1.trans ((isC_of (x := 111) (by decide) (fun q => (hT.2.2 _ q).2) ht).mpr hc)) h12
    · refine mk6 false (fun q => ?_) (fun x1 S6 k1 => by rw [start, if_neg h11, k1, aRV_mk, aOp_s])
      obtain ⟨w1, w2, w3⟩ := g13.2.2.2.2.1 q
      cases hc : isC T n E.2.1 111 with
      | false => rfl
      | true => exact absurd (w3.2.2.1.trans (by rw [(isC_tk (by decide) (by decide) hc).1]; rfl)) h11
  obtain ⟨S6, b6, m1, m2, m3, m4⟩ := mo
  rw [m3] at m2
  have e62 : (zMu T n (isC T n E.2.1 111) E).2.2 2 = 0 := by rw [zMu_Q]; exact eLQ.1
  have e63 : (zMu T n (isC T n E.2.1 111) E).2.2 3 = 0 := by rw [zMu_Q]; exact eLQ.2
  generalize zMu T n (isC T n E.2.1 111) E = E2 at *
  obtain ⟨S7, n1, n2, n3⟩ := m_words_loop sa d h co (nI 40) 7 S6 E2 m2 (fun _ => by rw [e62])
  have e73 := zWs_3 T n 7 E2
  rw [e63] at e73
  generalize zWs T n 7 E2 = F at *
  -- must letter
  have ml : ∃ S8, (∀ x1 : Int32, AMV sa (d + 6) 133 165 [.ref (co + 40), .int x1] [] (mk h co S7) = AMV sa (d + 6) 133 192 [.ref (co + 40), .int x1] [] (mk h co S8)) ∧ rZ S8 T n (S.1 40 7) (zMu T n (decide (0 < kB T n F.2.1)) F) ∧ fP S7 S8 := by
    have mk6 : ∀ b6 : Bool, (F.1 = 0 → b6 = decide (0 < kB T n F.2.1)) → (∀ x1 : Int32, ∀ S6, AMC sa (d + 6) 132 [.ref (co + 40), .int (bv b6)] (mk h co S7) = some (none, mk h co S6) → AMV sa (d + 6) 133 165 [.ref (co + 40), .int x1] [] (mk h co S7) = AMV sa (d + 6) 133 192 [.ref (co + 40), .int x1] [] (mk h co S6)) → ∃ S8, (∀ x1 : Int32, AMV sa (d + 6) 133 165 [.ref (co + 40), .int x1] [] (mk h co S7) = AMV sa (d + 6) 133 192 [.ref (co + 40), .int x1] [] (mk h co S8)) ∧ rZ S8 T n (S.1 40 7) (zMu T n (decide (0 < kB T n F.2.1)) F) ∧ fP S7 S8 := by
      intro b6 hb6 hgo
      obtain ⟨S6, k1, k2, k3⟩ := m_must sa (d + 2) h co n2 b6
      refine ⟨S6, fun x1 => hgo x1 S6 k1, ?_, k3⟩
      have e : zMu T n b6 F = zMu T n (decide (0 < kB T n F.2.1)) F := by
        by_cases h0 : F.1 = 0
        · rw [hb6 h0]
        · rw [zMu_0 h0, zMu_0 h0]
      rw [← e]
      exact k2
    have h5E := tk5 T n F.2.1
    by_cases h11 : S7.1 40 11 = 1
    · obtain ⟨y, hy⟩ := ci_kindOf sa (d + 5) (S7.1 40 12) (mk h co S7)
      have hkd : F.1 = 0 → y = nI (kB T n F.2.1) := by
        intro q
        obtain ⟨w1, w2, w3⟩ := n2.2.2.2.2.1 q
        have ht : tkT T n F.2.1 = 1 := (nI_eq (b := 1) (by omega) (by decide)).mp (w3.2.2.1.symm.trans h11)
        obtain ⟨c1, c2⟩ := tk1 ht
        rw [w3.2.2.2.1, c2, m_kindOf sa (d + 5) (by have := (hT.2.2 _ c1).2; omega)] at hy
        have e : kB T n F.2.1 = kd (T F.2.1) := if_pos c1
        rw [e]
        injection hy with hy
        injection hy with hy _
        injection hy with hy
        injection hy with hy
        exact hy.symm
      by_cases hy0 : y ≤ 0
      · refine mk6 false (fun q => ?_) (fun x1 S6 k1 => by
          rw [eX8_post_165, gI_40_11, aOp_s, if_pos h11, gI_40_12, aOp_s, hy, aRI_mk, aOp_s, if_pos hy0, gC_40, aOp_s, show AMC sa (d + 6) 132 [.ref (co + 40), .int 0] (mk h co S7) = _ from k1, aRV_mk, aOp_s])
        have hk5 : kB T n F.2.1 ≤ 5 := by unfold kB; split; exact kd_le _; decide
        rw [hkd q] at hy0
        exact (decide_eq_false (fun z => absurd hy0 (nI_nle z (by omega)))).symm
      · refine mk6 true (fun q => ?_) (fun x1 S6 k1 => by
          rw [eX8_post_165, gI_40_11, aOp_s, if_pos h11, gI_40_12, aOp_s, hy, aRI_mk, aOp_s, if_neg hy0, gC_40, aOp_s, show AMC sa (d + 6) 132 [.ref (co + 40), .int 1] (mk h co S7) = _ from k1, aRV_mk, aOp_s])
        rw [hkd q] at hy0
        refine (decide_eq_true ?_).symm
        rcases Nat.eq_zero_or_pos (kB T n F.2.1) with e | e
        · rw [e] at hy0; exact absurd (show nI 0 ≤ 0 by decide) hy0
        · exact e
    · refine mk6 false (fun q => ?_) (fun x1 S6 k1 => by
        rw [eX8_post_165, gI_40_11, aOp_s, if_neg h11, gC_40, aOp_s, show AMC sa (d + 6) 132 [.ref (co + 40), .int 0] (mk h co S7) = _ from k1, aRV_mk, aOp_s])
      obtain ⟨w1, w2, w3⟩ := n2.2.2.2.2.1 q
      refine (decide_eq_false (fun z => h11 ?_)).symm
      obtain ⟨p1, p2, p3, p4⟩ := kB_tk z
      rw [w3.2.2.1, (isC_tk p2 p3 p1).1]
      rfl
  obtain ⟨S8, l1, l2, l3⟩ := ml
  have e83 : (zMu T n (decide (0 < kB T n F.2.1)) F).2.2 3 = 0 := by rw [zMu_Q]; exact e73
  generalize zMu T n (decide (0 < kB T n F.2.1)) F = F2 at *
  obtain ⟨S9, r1, r2, r3⟩ := m_letters_loop sa d h co (nI 40) 8 S8 F2 l2 (fun _ => by rw [e83])
  generalize zLs T n 8 F2 = G at *
  -- the end
  obtain ⟨c, c1, c2, c3⟩ := tokB r2 (c := 0) (by decide) 1
  obtain ⟨S10, t1, t2, t3⟩ := m_must sa (d + 2) h co r2 c
  have eG : zMu T n c G = zAll T n := by
    rw [eAll]
    by_cases h0 : G.1 = 0
    · have h5G := tk5 T n G.2.1
      have e : c = decide (n ≤ G.2.1) := by
        obtain ⟨w1, w2, w3⟩ := r2.2.2.2.2.1 h0
        by_cases hh : n ≤ G.2.1
        · rw [decide_eq_true hh]
          refine c1.mp ?_
          rw [w3.2.2.1]
          unfold tkT
          rw [if_neg (by omega)]
        · rw [decide_eq_false hh]
          cases c with
          | false => rfl
          | true =>
            exfalso
            have e0 := c3 h0 rfl
            unfold tkT at e0
            rw [if_pos (by omega)] at e0
            cases hd : dg T n G.2.1 with
            | true => rw [hd, cond_true] at e0; split at e0 <;> omega
            | false =>
              rw [hd, cond_false] at e0
              split at e0
              · omega
              · split at e0
                · omega
                · split at e0 <;> omega
      rw [e]
    · rw [zMu_0 h0, zMu_0 h0]
  have t2 : rZ S10 T n (S.1 40 7) (zMu T n c G) := t2
  rw [eG] at t2
  have fr10 : fP S S10 := fP_trans fr5 (fP_trans m4 (fP_trans n3 (fP_trans l3 (fP_trans r3 t3))))
  have run : AMC sa (d + 7) 133 [.ref (co + 40)] (mk h co S) = AMV sa (d + 6) 133 237 [.ref (co + 40), .int (nI 40)] [.int (bv c), .ref (co + 40)] (mk h co S9) := by
    have e58 : AMV sa (d + 6) 133 58 [.ref (co + 40), .int (nI 40)] [.int (bv (isC T n 0 112)), .ref (co + 40)] (mk h co S1) = AMV sa (d + 6) 133 237 [.ref (co + 40), .int (nI 40)] [.int (bv c), .ref (co + 40)] (mk h co S9) := by
      have e103 : AMV sa (d + 6) 133 103 [.ref (co + 40), .int (nI 40)] [.int (bv b), .ref (co + 40)] (mk h co (sM S4 47 (pUp C.2.2.2 1 C.1))) = AMV sa (d + 6) 133 237 [.ref (co + 40), .int (nI 40)] [.int (bv c), .ref (co + 40)] (mk h co S9) := by
        rw [m1, n1, l1, r1, eX8_post_224, gI_40_11, aOp_s]
        cases c with
        | true => rw [if_pos (show S9.1 40 11 = 0 from c1.mpr rfl)]; rfl
        | false => rw [if_neg (show ¬ S9.1 40 11 = 0 from fun z => by cases c1.mp z)]; rfl
      rw [eX8_post_58, gC_40, aOp_s, show AMC sa (d + 6) 125 [.ref (co + 40), .int (bv (isC T n 0 112)), .int 1] (mk h co S1) = _ from g1, aRI_mk, aOp_s, gR_40_14, aOp_s, gC_40, aOp_s, show AMC sa (d + 6) 126 [.ref (co + 40), .int 0, .int 99] (mk h co S2) = _ from g4, aRI_mk, aOp_s, i1, aOp_s, gR_40_14, aOp_s, gC_40, aOp_s, show AMC sa (d + 6) 128 [.ref (co + 40), .int 0, .int 60] (mk h co (sM S3 47 (pUp A.2.2.2 0 A.1))) = _ from g8, aRI_mk, aOp_s, i2, aOp_s, gI_40_11, aOp_s]
      cases b with
      | true => rw [if_pos (show (sM S4 47 (pUp C.2.2.2 1 C.1)).1 40 11 = 4 from b1.mpr rfl)]; exact e103
      | false => rw [if_neg (show ¬ (sM S4 47 (pUp C.2.2.2 1 C.1)).1 40 11 = 4 from fun z => by cases b1.mp z)]; exact e103
    obtain ⟨w1, w2, w3⟩ := hZ0.2.2.2.2.1 rfl
    have w3' : tkR S1 T n 0 := w3
    rw [fX8_post, eX8_post_0, show (0 : Int32) = nI 0 from rfl, z2, eX8_post_2, if_pos (show (40 : Int32) ≤ nI 40 by decide), gP_40_9, aOp_s, gP_40_8, aOp_s, gC_40, aOp_s, a1, aRV_mk, aOp_s, gI_40_11, aOp_s, w3'.2.2.1]
    by_cases ht : tkT T n 0 = 1
    · rw [if_pos (show nI (tkT T n 0) = 1 by rw [ht]; rfl), gI_40_12, aOp_s, w3'.2.2.2.1]
      cases hc : isC T n 0 112 with
      | true =>
        rw [hc] at e58
        rw [if_pos (show tkV T n 0 = 112 from (isC_of (x := 112) (by decide) hb0 ht).mpr hc)]
        exact e58
      | false =>
        rw [hc] at e58
        rw [if_neg (show ¬ tkV T n 0 = 112 from fun z => by rw [(isC_of (x := 112) (by decide) hb0 ht).mp z] at hc; cases hc)]
        exact e58
    · have hc : isC T n 0 112 = false := by
        cases hc : isC T n 0 112 with
        | false => rfl
        | true => exact absurd (isC_tk (by decide) (by decide) hc).1 ht
      rw [hc] at e58
      rw [if_neg (show ¬ nI (tkT T n 0) = 1 from fun z => ht ((nI_eq (b := 1) (by omega) (by decide)).mp z))]
      exact e58
  refine ⟨S10, fr10, ?_⟩
  have hW : ∀ x, AMC sa (d + 6) 124 [.ref (co + 40)] (mk h co (sI S10 40 6 x)) = some (some (.int (bv (decide ((zAll T n).1 = 0)))), mk h co (sI S10 40 6 x)) := by
    intro x
    rw [fX8_isWell, eX8_isWell_0, gI_40_8, aOp_s, show (sI S10 40 6 x).1 40 8 = S10.1 40 8 from rfl]
    by_cases h0 : (zAll T n).1 = 0
    · rw [(t2.2.2.2.2.1 h0).1, if_neg (by decide), decide_eq_true h0]; rfl
    · rw [(t2.2.2.2.2.2 h0).2.1, if_pos (nI_pos' (by have := (t2.2.2.2.2.2 h0).2.2.1; omega)), decide_eq_false h0]; rfl
  by_cases h0 : (zAll T n).1 = 0
  · refine Or.inr ⟨h0, (t2.2.2.2.2.1 h0).2.1, t2.2.2.1, t2.2.1, ?_⟩
    have hE : pE (sI S10 40 6 0) 47 (zAll T n).2.2 := t2.1
    have hE2 : pE (sI (sM (sI S10 40 6 0) 46 (zAll T n).2.2) 40 17 0) 46 (zAll T n).2.2 := pE_sM (Or.inl rfl) _
    rw [run, eX8_post_237, gC_40, aOp_s, t1, aRV_mk, aOp_s, gP_40_6, aOp_s, gC_40, aOp_s, hW, aRI_mk, aOp_s, decide_eq_true h0, if_neg bvn, gR_40_14, aOp_s, gR_40_13, aOp_s, m_copyP sa (d + 5) h co hE (Or.inl rfl) (by decide), aRV_mk, aOp_s, gP_40_17, aOp_s, gR_40_13, aOp_s, show aIL _ (co + 46) 3 = _ from pE_get hE2 h co (j := 3) (by decide), aOp_s]
  · obtain ⟨y1, y2, y3, y4⟩ := t2.2.2.2.2.2 h0
    refine Or.inl ⟨h0, y1, y3, y4, ?_⟩
    rw [run, eX8_post_237, gC_40, aOp_s, t1, aRV_mk, aOp_s, gP_40_6, aOp_s, gC_40, aOp_s, hW, aRI_mk, aOp_s, decide_eq_false h0, if_pos bvf, gI_40_8, aOp_s, show (sI S10 40 6 0).1 40 8 = S10.1 40 8 from rfl, y2]
