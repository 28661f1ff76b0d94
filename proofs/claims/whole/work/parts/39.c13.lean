/-! ===== the class: a post read ===== -/
def cW (S : ST) (Q : PS) : Prop := S.1 10 4 = nI (Q 2) ∧ ∀ k, k < Q 2 → S.2.2 12 k = nI (Q (6 + k))
def cDr (S : ST) (Q : PS) : Prop := S.1 13 4 = nI (Q 3) ∧ S.1 13 5 = 0 ∧ S.1 13 6 = nI (Q 0) ∧ S.1 13 7 = nI (Q 1) ∧ S.1 13 8 = 0 ∧ S.1 13 9 = 0 ∧ ∀ l, l < Q 3 → S.2.2 14 l = nI (Q (12 + 4 * l)) ∧ S.2.2 15 l = nI (Q (13 + 4 * l)) ∧ S.2.2 16 l = nI (Q (14 + 4 * l))
theorem cW_fC {S S' : ST} {Q : PS} (h : cW S Q) (hf : fC S S') : cW S' Q := ⟨(hf.2 10 4 (by omega)).trans h.1, fun k hk => by rw [hf.1]; exact h.2 k hk⟩
theorem cDr_fr {S S' : ST} {Q : PS} (h : cDr S Q) (hf : fr 10 13 S S') : cDr S' Q := by
  unfold cDr
  rw [(hf 13 (by decide)).1, (hf 14 (by decide)).2.2, (hf 15 (by decide)).2.2, (hf 16 (by decide)).2.2]
  exact h
theorem cZ_Q {S : ST} {T : Nat → Nat} {n : Nat} {Z Y : ZS} (h : cZ S T n Z) (e1 : Y.1 = Z.1) (e2 : Y.2.1 = Z.2.1) : cZ S T n Y := by
  unfold cZ
  rw [e1, e2]
  exact h
theorem cZ_of {S S' : ST} {T : Nat → Nat} {n : Nat} {Z : ZS} (h : cZ S T n Z) (e11 : S'.2.2 11 = S.2.2 11) (e2 : S'.1 10 2 = S.1 10 2) (e3 : S'.1 10 3 = S.1 10 3) (e5 : S'.1 10 5 = S.1 10 5) (e6 : S'.1 10 6 = S.1 10 6) : cZ S' T n Z := by
  obtain ⟨⟨t1, t2, t3⟩, a1, a2, a3, a4, a5⟩ := h
  exact ⟨⟨e2.trans t1, t2, fun j hj => by rw [e11]; exact t3 j hj⟩, e5.trans a1, a2, a3, fun z => e3.trans (a4 z), fun z => e6.trans (a5 z)⟩
theorem c_begin (sa : Nat → Nat) (d : Nat) (h : AH) (co : Nat) (S : ST) (x y : Int32) : AMC sa (d + 1) 10 [.ref (co + 13), .int x, .int y] (mk h co S) = some (none, mk h co (sI (sI (sI (sI (sI (sI S 13 4 0) 13 5 0) 13 6 x) 13 7 y) 13 8 0) 13 9 0)) := by
  rw [fX2_begin, eX2_begin_0, gP_13_4, aOp_s, gP_13_5, aOp_s, gP_13_6, aOp_s, gP_13_7, aOp_s, gP_13_8, aOp_s, gP_13_9, aOp_s]
theorem c_readLaw (sa : Nat → Nat) (d : Nat) (h : AH) (co : Nat) {S : ST} {T : Nat → Nat} {n : Nat} (hZ : cZ S T n (0, 0, fun _ => 0)) : ∃ S' : ST, AMC sa (d + 3) 53 [.ref (co + 10), .ref (co + 13)] (mk h co S) = some (none, mk h co S') ∧ cZ S' T n (zLaw T n) ∧ S'.1 10 4 = S.1 10 4 ∧ cDr S' (zLaw T n).2.2 ∧ fr 10 17 S S' := by
  obtain ⟨S1, a1, a2, a3⟩ := c_skip sa d h co hZ (x := 112) (by decide) (by decide)
  obtain ⟨S2, b1, b2, b3⟩ := c_number sa d h co a2 (lo := 0) (hi := 99) (by decide) (by decide)
  obtain ⟨A, hA⟩ : ∃ A, A = zNu T n 0 99 (zTk T n (isC T n 0 112) 1 (0, 0, fun _ => 0)) := ⟨_, rfl⟩
  dsimp only at b1 b2
  rw [← hA] at b1 b2
  have b4 : cZ S2 T n (zSet A.2 0 A.1) := cZ_Q b2 rfl rfl
  obtain ⟨S3, c1, c2, c3⟩ := c_skip sa d h co b4 (x := 44) (by decide) (by decide)
  rw [isC_44] at c2
  obtain ⟨S4, d1, d2, d3⟩ := c_number sa d h co c2 (lo := 0) (hi := 60) (by decide) (by decide)
  obtain ⟨C, hC⟩ : ∃ C, C = zNu T n 0 60 (zTk T n (decide (tkT T n (zSet A.2 0 A.1).2.1 = 3)) 1 (zSet A.2 0 A.1)) := ⟨_, rfl⟩
  rw [← hC] at d1 d2
  have d4 : cZ S4 T n (zSet C.2 1 C.1) := cZ_Q d2 rfl rfl
  obtain ⟨S5, e1, e2, e3⟩ := c_skip sa d h co d4 (x := 59) (by decide) (by decide)
  rw [isC_59] at e2
  have eL : zLaw T n = zTk T n (decide (tkT T n (zSet C.2 1 C.1).2.1 = 4)) 1 (zSet C.2 1 C.1) := by rw [hC, hA]; rfl
  have eQ : (zLaw T n).2.2 = pUp (pUp (fun _ => 0) 0 A.1) 1 C.1 := by
    rw [eL, zTk_Q]
    show pUp C.2.2.2 1 C.1 = _
    rw [hC, zNu_Q, zTk_Q]
    show pUp (pUp A.2.2.2 0 A.1) 1 _ = _
    rw [hA, zNu_Q, zTk_Q]
  have fc := fC_trans (fC_trans (fC_trans (fC_trans a3 b3) c3) d3) e3
  obtain ⟨S6, hS6⟩ : ∃ S6, S6 = sI (sI (sI (sI (sI (sI S5 13 4 0) 13 5 0) 13 6 (nI A.1)) 13 7 (nI C.1)) 13 8 0) 13 9 0 := ⟨_, rfl⟩
  have n10 : ∀ b, S6.1 10 b = S5.1 10 b := fun b => by rw [hS6, sI_ne _ _ (by omega), sI_ne _ _ (by omega), sI_ne _ _ (by omega), sI_ne _ _ (by omega), sI_ne _ _ (by omega), sI_ne _ _ (by omega)]
  have f6 : fr 13 17 S5 S6 := by
    rw [hS6]
    exact fr_I (fr_I (fr_I (fr_I (fr_I (fr_I (fr_refl _ _ _) (by decide) (by decide) _ _) (by decide) (by decide) _ _) (by decide) (by decide) _ _) (by decide) (by decide) _ _) (by decide) (by decide) _ _) (by decide) (by decide) _ _
  refine ⟨S6, ?_, ?_, ?_, ?_, ?_⟩
  · rw [fX5_readLaw, eX5_readLaw_0, gC_10, aOp_s, show AMC sa (d + 2) 58 [.ref (co + 10), .int 112] (mk h co S) = _ from a1, aRV_mk, aOp_s, gC_10, aOp_s, show AMC sa (d + 2) 57 [.ref (co + 10), .int 0, .int 99] (mk h co S1) = _ from b1, aRI_mk, aOp_s, gC_10, aOp_s, show AMC sa (d + 2) 58 [.ref (co + 10), .int 44] (mk h co S2) = _ from c1, aRV_mk, aOp_s, gC_10, aOp_s, show AMC sa (d + 2) 57 [.ref (co + 10), .int 0, .int 60] (mk h co S3) = _ from d1, aRI_mk, aOp_s, gC_10, aOp_s, show AMC sa (d + 2) 58 [.ref (co + 10), .int 59] (mk h co S4) = _ from e1, aRV_mk, aOp_s, gC_13, aOp_s, c_begin, aRV_mk, aOp_s, ← hS6]
  · rw [eL]
    exact cZ_of e2 (f6 11 (by decide)).2.2 (n10 2) (n10 3) (n10 5) (n10 6)
  · rw [n10 4]; exact fc.2 10 4 (by omega)
  · rw [eQ]
    have q0 : pUp (pUp (fun _ => 0) 0 A.1) 1 C.1 0 = A.1 := by rw [pUp_ne _ _ (by decide), pUp_at]
    have q3 : pUp (pUp (fun _ => 0) 0 A.1) 1 C.1 3 = 0 := by rw [pUp_ne _ _ (by decide), pUp_ne _ _ (by decide)]
    refine ⟨?_, ?_, ?_, ?_, ?_, ?_, fun l hl => ?_⟩
    · rw [q3, hS6, sI_ne _ _ (by decide), sI_ne _ _ (by decide), sI_ne _ _ (by decide), sI_ne _ _ (by decide), sI_ne _ _ (by decide), sI_at]; rfl
    · rw [hS6, sI_ne _ _ (by decide), sI_ne _ _ (by decide), sI_ne _ _ (by decide), sI_ne _ _ (by decide), sI_at]
    · rw [q0, hS6, sI_ne _ _ (by decide), sI_ne _ _ (by decide), sI_ne _ _ (by decide), sI_at]
    · rw [pUp_at, hS6, sI_ne _ _ (by decide), sI_ne _ _ (by decide), sI_at]
    · rw [hS6, sI_ne _ _ (by decide), sI_at]
    · rw [hS6, sI_at]
    · rw [q3] at hl; omega
  · exact fr_trans (fr_mono (fC_fr fc) (by decide) (by decide)) (fr_mono f6 (by decide) (by decide))
theorem c_w91 (sa : Nat → Nat) (d : Nat) (h : AH) (co : Nat) {S : ST} {T : Nat → Nat} {n : Nat} {Z : ZS} (hZ : cZ S T n Z) (x1 : Int32) (hQ : Z.1 = 0 → Z.2.2 2 ≤ 6 ∧ S.1 10 4 = nI (Z.2.2 2)) : ∃ S' : ST, AMV sa (d + 1) 54 91 [.ref (co + 10), .int x1] [] (mk h co S) = some (none, mk h co S') ∧ cZ S' T n (zMu T n (decide (Z.2.2 2 ≠ 0)) Z) ∧ fC S S' := by
  obtain ⟨S1, f1, f2, f3⟩ := c_fail sa d h co hZ (k := 1) (by decide) (by decide)
  rw [eX5_readWords_91, gI_10_4, aOp_s]
  have yes : (aOp (aFI (mk h co S) (co + 10) 5 3) fun v2 => aOp (aCl (mk h co S) (co + 10) 5) fun _ => aOp (aRV (AMC sa (d + 1) 61 [.ref (co + 10), .int 1, .int v2] (mk h co S))) fun h3 => some ((none : Option Value), h3)) = some (none, mk h co S1) := by
    rw [gI_10_3, aOp_s, gC_10, aOp_s, show AMC sa (d + 1) 61 [.ref (co + 10), .int 1, .int (S.1 10 3)] (mk h co S) = _ from f1, aRV_mk, aOp_s]
  by_cases h0 : Z.1 = 0
  · obtain ⟨q1, q2⟩ := hQ h0
    rw [q2]
    by_cases hc : Z.2.2 2 = 0
    · rw [if_pos (show nI (Z.2.2 2) = 0 by rw [hc]; rfl), yes, decide_eq_false (fun z => z hc)]
      exact ⟨S1, rfl, f2, f3⟩
    · rw [if_neg (nI_ne0 (by omega) (by omega)), decide_eq_true hc]
      exact ⟨S, rfl, hZ, fC_refl S⟩
  · rw [zMu_0 h0]
    have f2 : cZ S1 T n Z := by
      unfold zTk at f2
      rw [if_neg h0] at f2
      exact f2
    by_cases hc : S.1 10 4 = 0
    · rw [if_pos hc, yes]
      exact ⟨S1, rfl, f2, f3⟩
    · rw [if_neg hc]
      exact ⟨S, rfl, hZ, fC_refl S⟩
theorem bB_111 {S : ST} {T : Nat → Nat} {n : Nat} {Z : ZS} (hZ : cZ S T n Z) {x : Nat} (hx : x < 256) : bB T n Z.2.1 = nI x ↔ isC T n Z.2.1 x = true := by
  have h100 := hZ.1.2.1
  unfold bB isC
  by_cases hp : Z.2.1 < n
  · have := (hZ.1.2.2 _ hp).2
    rw [if_pos hp, decide_eq_true hp, Bool.true_and]
    exact ⟨fun z => decide_eq_true ((nI_eq (by omega) (by omega)).mp z), fun z => by rw [of_decide_eq_true z]⟩
  · rw [if_neg hp, decide_eq_false hp, Bool.false_and]
    exact ⟨fun z => absurd z.symm (n_nem (by omega)), fun z => by cases z⟩
theorem c_wloop (sa : Nat → Nat) (d : Nat) (h : AH) (co : Nat) {T : Nat → Nat} {n : Nat} : ∀ m turn S Z, turn + m = 7 → cZ S T n Z → (Z.1 = 0 → Z.2.2 2 = turn ∧ turn ≤ 6 ∧ cW S Z.2.2) → ∃ S' : ST, AMV sa (d + 2) 54 2 [.ref (co + 10), .int (nI turn)] [] (mk h co S) = some (none, mk h co S') ∧ cZ S' T n (zMu T n (decide ((zWs T n m Z).2.2 2 ≠ 0)) (zWs T n m Z)) ∧ ((zMu T n (decide ((zWs T n m Z).2.2 2 ≠ 0)) (zWs T n m Z)).1 = 0 → cW S' (zWs T n m Z).2.2) ∧ fr 10 13 S S' := by
  intro m
  induction m with
  | zero =>
    intro turn S Z ht hZ hQ
    obtain ⟨S1, g1, g2, g3⟩ := c_w91 sa (d + 1) h co hZ (nI turn) (fun z => by have := (hQ z).2.1; omega)
    refine ⟨S1, ?_, g2, fun z => ?_, fC_fr g3⟩
    · rw [eX5_readWords_2, if_pos (show (6 : Int32) < nI turn from nI_lt (a := 6) (by omega) (by omega))]
      exact g1
    · have := (zMu_1 z).2.2
      have := (hQ this).2.1
      omega
  | succ m ih =>
    intro turn S Z ht hZ hQ
    have e : zWs T n (m + 1) Z = if Z.1 = 0 ∧ isC T n Z.2.1 111 = true then zWs T n m (zW T n Z) else Z := rfl
    have ex : (¬ (Z.1 = 0 ∧ isC T n Z.2.1 111 = true)) → ∃ S' : ST, AMV sa (d + 2) 54 91 [.ref (co + 10), .int (nI turn)] [] (mk h co S) = some (none, mk h co S') ∧ cZ S' T n (zMu T n (decide ((zWs T n (m + 1) Z).2.2 2 ≠ 0)) (zWs T n (m + 1) Z)) ∧ ((zMu T n (decide ((zWs T n (m + 1) Z).2.2 2 ≠ 0)) (zWs T n (m + 1) Z)).1 = 0 → cW S' (zWs T n (m + 1) Z).2.2) ∧ fr 10 13 S S' := by
      intro hc
      rw [e, if_neg hc]
      obtain ⟨S1, g1, g2, g3⟩ := c_w91 sa (d + 1) h co hZ (nI turn) (fun z => ⟨by have := hQ z; omega, (hQ z).2.2.1⟩)
      exact ⟨S1, g1, g2, fun z => cW_fC (hQ (zMu_1 z).2.2).2.2 g3, fC_fr g3⟩
    rw [eX5_readWords_2, if_neg (show ¬ (6 : Int32) < nI turn from nI_nlt (a := 6) (by omega) (by decide)), gI_10_5, aOp_s, hZ.2.1]
    by_cases h0 : Z.1 = 0
    · obtain ⟨q1, q2, q3⟩ := hQ h0
      have hp := hZ.2.2.2.1
      have e3 := hZ.2.2.2.2.1 h0
      have h100 := hZ.1.2.1
      rw [if_pos (show nI Z.1 = 0 by rw [h0]; rfl), gC_10, aOp_s, c_next sa (d + 1) h co hZ, aRI_mk, aOp_s, if_pos h0]
      cases hc : isC T n Z.2.1 111 with
      | false =>
        rw [if_neg (fun z => by rw [(bB_111 hZ (x := 111) (by decide)).mp z] at hc; cases hc)]
        exact ex (fun z => by rw [hc] at z; cases z.2)
      | true =>
        obtain ⟨t1, t2, t3⟩ := isC_E (by decide) hc
        rw [hc] at e
        rw [if_pos ⟨h0, rfl⟩] at e
        rw [if_pos (show bB T n Z.2.1 = 111 from (bB_111 hZ (x := 111) (by decide)).mpr hc), gI_10_4, aOp_s, q3.1, e]
        by_cases h6 : Z.2.2 2 < 6
        · obtain ⟨a1, a2⟩ := c_at sa hZ h0 (p := Z.2.1 + 1) (by omega) Z.2.2
          obtain ⟨S2, b1, b2, b3⟩ := c_number sa d h co a1 (lo := 1) (hi := 9) (by decide) (by decide)
          obtain ⟨A, hA⟩ : ∃ A, A = zNu T n 1 9 (0, Z.2.1 + 1, Z.2.2) := ⟨_, rfl⟩
          rw [← hA] at b1 b2
          have w2 : S2.1 10 4 = nI (Z.2.2 2) := ((fC_trans a2 b3).2 10 4 (by omega)).trans q3.1
          obtain ⟨S3, hS3⟩ : ∃ S3, S3 = sA S2 12 (upd (S2.2.2 12) (Z.2.2 2) (nI A.1)) := ⟨_, rfl⟩
          obtain ⟨S4, hS4⟩ : ∃ S4, S4 = sI S3 10 4 (nI (Z.2.2 2 + 1)) := ⟨_, rfl⟩
          have w3 : S3.1 = S2.1 := by rw [hS3]; rfl
          have c4 : cZ S4 T n A.2 := by
            refine cZ_of b2 ?_ ?_ ?_ ?_ ?_
            · rw [hS4, hS3]; rfl
            · rw [hS4, sI_ne _ _ (by decide), w3]
            · rw [hS4, sI_ne _ _ (by decide), w3]
            · rw [hS4, sI_ne _ _ (by decide), w3]
            · rw [hS4, sI_ne _ _ (by decide), w3]
          obtain ⟨S5, d1, d2, d3⟩ := c_skip sa d h co c4 (x := 59) (by decide) (by decide)
          rw [isC_59] at d2
          obtain ⟨B, hB⟩ : ∃ B, B = zTk T n (decide (tkT T n A.2.2.1 = 4)) 1 A.2 := ⟨_, rfl⟩
          rw [← hB] at d2
          have eT : zTk T n (decide (Z.2.2 2 < 6)) 3 Z = (0, Z.2.1 + 1, Z.2.2) := by
            unfold zTk
            rw [if_pos h0, decide_eq_true h6, cond_true, t1]
          have eZ : zW T n Z = if B.1 = 0 then (0, B.2.1, pUp (pUp B.2.2 (6 + Z.2.2 2) A.1) 2 (Z.2.2 2 + 1)) else B := by
            rw [hB, hA, ← eT]; rfl
          have BQ : B.2.2 = Z.2.2 := by rw [hB, zTk_Q, hA, zNu_Q]
          have d4 : cZ S5 T n (zW T n Z) := by
            rw [eZ]
            by_cases hb : B.1 = 0
            · rw [if_pos hb]; exact cZ_Q d2 hb.symm rfl
            · rw [if_neg hb]; exact d2
          have fr5 : fr 10 13 S S5 := by
            refine fr_trans (fr_trans (fC_fr (fC_trans a2 b3)) ?_) (fC_fr d3)
            rw [hS4, hS3]
            exact fr_I (fr_A (fr_refl _ _ _) (by decide) (by decide) _) (by decide) (by decide) _ _
          obtain ⟨S', g1, g2, g3, g4⟩ := ih (turn + 1) S5 (zW T n Z) (by omega) d4 (fun z => by
            have hb : B.1 = 0 := by
              by_cases hb : B.1 = 0
              · exact hb
              · rw [eZ, if_neg hb] at z; exact absurd z hb
            refine ⟨by rw [zW_2 z, q1], by omega, ?_⟩
            rw [eZ, if_pos hb]
            show cW S5 (pUp (pUp B.2.2 (6 + Z.2.2 2) A.1) 2 (Z.2.2 2 + 1))
            rw [BQ]
            refine cW_fC ⟨?_, fun k hk => ?_⟩ d3
            · rw [pUp_at, hS4, sI_at]
            · rw [pUp_at] at hk
              rw [hS4, sI_A, hS3, sA_at, pUp_ne _ _ (show 6 + k ≠ 2 by omega)]
              by_cases ek : k = Z.2.2 2
              · rw [ek, pk_us, pUp_at]
              · rw [pk_un ek, pUp_ne _ _ (by omega), (fC_trans a2 b3).1]
                exact q3.2 k (by omega))
          refine ⟨S', ?_, g2, g3, fr_trans fr5 g4⟩
          rw [if_pos (show nI (Z.2.2 2) < 6 from nI_lt (b := 6) h6 (by decide)), gI_10_3, aOp_s, e3, nI_1, gP_10_3, aOp_s, gR_10_1, aOp_s, gI_10_4, aOp_s, gC_10, aOp_s, show AMC sa (d + 2) 57 [.ref (co + 10), .int 1, .int 9] (mk h co (sI S 10 3 (nI (Z.2.1 + 1)))) = _ from b1, aRI_mk, aOp_s, show (sI S 10 3 (nI (Z.2.1 + 1))).1 10 4 = nI (Z.2.2 2) from (a2.2 10 4 (by omega)).trans q3.1, gS_12 _ _ _ _ _ (aIn_nI h6 (by decide)), aOp_s, nI_clamp (by omega), ← hS3, gI_10_4, aOp_s, w3, w2, nI_1, gP_10_4, aOp_s, ← hS4, gC_10, aOp_s, show AMC sa (d + 2) 58 [.ref (co + 10), .int 59] (mk h co S4) = _ from d1, aRV_mk, aOp_s, nI_1]
          exact g1
        · obtain ⟨S1, f1, f2, f3⟩ := c_fail_at sa (d + 1) h co hZ h0 (k := 3) (p := Z.2.1) (by decide) (by decide) hp Z.2.2
          have eT : zTk T n (decide (Z.2.2 2 < 6)) 3 Z = (3, Z.2.1, Z.2.2) := by
            unfold zTk
            rw [if_pos h0, decide_eq_false h6]
            rfl
          have eN : zNu T n 1 9 (3, Z.2.1, Z.2.2) = (0, (3, Z.2.1, Z.2.2)) := by
            unfold zNu
            exact if_neg (fun z => by cases z)
          have eZ : zW T n Z = (3, Z.2.1, Z.2.2) := by
            unfold zW
            dsimp only
            rw [eT, eN]
            dsimp only
            unfold zTk
            dsimp only
            rw [if_neg (show ¬ (3 = 0) by decide)]
            exact if_neg (fun z => by cases z)
          have z3 : ((3, Z.2.1, Z.2.2) : ZS).1 ≠ 0 := show (3 : Nat) ≠ 0 by decide
          rw [if_neg (show ¬ nI (Z.2.2 2) < 6 from nI_nlt (b := 6) (by omega) (by omega)), gI_10_3, aOp_s, e3, gC_10, aOp_s, show AMC sa (d + 2) 61 [.ref (co + 10), .int 3, .int (nI Z.2.1)] (mk h co S) = _ from f1, aRV_mk, aOp_s, eZ, zWs_st T n z3, zMu_0 z3]
          exact ⟨S1, rfl, f2, fun z => absurd z z3, fC_fr f3⟩
    · rw [if_neg (nI_ne0 (by omega) (by have := hZ.2.2.1; omega))]
      exact ex (fun z => h0 z.1)
theorem c_readWords (sa : Nat → Nat) (d : Nat) (h : AH) (co : Nat) {S : ST} {T : Nat → Nat} {n : Nat} {E : ZS} (hZ : cZ S T n E) (h2 : E.2.2 2 = 0) (h4 : S.1 10 4 = 0) : ∃ S' : ST, AMC sa (d + 3) 54 [.ref (co + 10)] (mk h co S) = some (none, mk h co S') ∧ cZ S' T n (zWs T n 7 (zMu T n (isC T n E.2.1 111) E)) ∧ ((zWs T n 7 (zMu T n (isC T n E.2.1 111) E)).1 = 0 → cW S' (zWs T n 7 (zMu T n (isC T n E.2.1 111) E)).2.2) ∧ fr 10 13 S S' := by
  obtain ⟨S', g1, g2, g3, g4⟩ := c_wloop sa d h co (T := T) (n := n) 7 0 S E rfl hZ (fun _ => ⟨h2, by decide, by rw [h2]; exact h4, fun k hk => by omega⟩)
  have eQ : (zWs T n 7 E).2.2 = (zWs T n 7 (zMu T n (isC T n E.2.1 111) E)).2.2 := by
    rw [← zWs_eq h2, zMu_Q]
  rw [zWs_eq h2] at g2 g3
  rw [eQ] at g3
  refine ⟨S', ?_, g2, g3, g4⟩
  rw [fX5_readWords, eX5_readWords_0]
  exact g1
theorem c_kindOf (sa : Nat → Nat) (d : Nat) {S : ST} {T : Nat → Nat} {n : Nat} {Z : ZS} (hZ : cZ S T n Z) (h : AH) : AMC sa (d + 1) 62 [.int (bB T n Z.2.1)] h = some (some (.int (nI (kB T n Z.2.1))), h) := by
  have h100 := hZ.1.2.1
  rw [fX5_kindOf, eX5_kindOf_0]
  unfold bB kB
  by_cases hp : Z.2.1 < n
  · have h256 := (hZ.1.2.2 _ hp).2
    rw [if_pos hp, if_pos hp]
    unfold kd
    have eq : ∀ k : Nat, k < 256 → (nI (T Z.2.1) = nI k ↔ T Z.2.1 = k) := fun k hk => nI_eq (by omega) (by omega)
    by_cases a1 : T Z.2.1 = 98
    · rw [if_pos (show nI (T Z.2.1) = 98 by rw [a1]; rfl), a1]; rfl
    rw [if_neg (show ¬ nI (T Z.2.1) = 98 from fun z => a1 ((eq 98 (by decide)).mp z))]
    by_cases a2 : T Z.2.1 = 99
    · rw [if_pos (show nI (T Z.2.1) = 99 by rw [a2]; rfl), a2]; rfl
    rw [if_neg (show ¬ nI (T Z.2.1) = 99 from fun z => a2 ((eq 99 (by decide)).mp z))]
    by_cases a3 : T Z.2.1 = 108
    · rw [if_pos (show nI (T Z.2.1) = 108 by rw [a3]; rfl), a3]; rfl
    rw [if_neg (show ¬ nI (T Z.2.1) = 108 from fun z => a3 ((eq 108 (by decide)).mp z))]
    by_cases a4 : T Z.2.1 = 118
    · rw [if_pos (show nI (T Z.2.1) = 118 by rw [a4]; rfl), a4]; rfl
    rw [if_neg (show ¬ nI (T Z.2.1) = 118 from fun z => a4 ((eq 118 (by decide)).mp z))]
    by_cases a5 : T Z.2.1 = 119
    · rw [if_pos (show nI (T Z.2.1) = 119 by rw [a5]; rfl), a5]; rfl
    rw [if_neg (show ¬ nI (T Z.2.1) = 119 from fun z => a5 ((eq 119 (by decide)).mp z)), if_neg a3, if_neg a4, if_neg a1, if_neg a2, if_neg a5]
    rfl
  · rw [if_neg hp, if_neg hp, if_neg (by decide), if_neg (by decide), if_neg (by decide), if_neg (by decide), if_neg (by decide)]
    rfl
theorem c_add (sa : Nat → Nat) (d : Nat) (h : AH) (co : Nat) {S : ST} {L : Nat} (e : S.1 13 4 = nI L) (hL : L < 7) (x y z : Int32) : AMC sa (d + 1) 11 [.ref (co + 13), .int x, .int y, .int z] (mk h co S) = some (none, mk h co (sI (sA (sA (sA S 14 (upd (S.2.2 14) L x)) 15 (upd (S.2.2 15) L y)) 16 (upd (S.2.2 16) L z)) 13 4 (nI (L + 1)))) := by
  rw [fX2_add, eX2_add_0, gI_13_4, aOp_s, e, if_neg (show ¬ (7 : Int32) ≤ nI L from nI_ge (b := 7) hL (by decide)), gR_13_0, aOp_s, aOp_s, gS_14 _ _ _ _ _ (aIn_nI hL (by decide)), aOp_s, nI_clamp (by omega), gR_13_1, aOp_s, gI_13_4, aOp_s, sA_I, e, gS_15 _ _ _ _ _ (aIn_nI hL (by decide)), aOp_s, nI_clamp (by omega), gR_13_2, aOp_s, gI_13_4, aOp_s, sA_I, sA_I, e, gS_16 _ _ _ _ _ (aIn_nI hL (by decide)), aOp_s, nI_clamp (by omega), gI_13_4, aOp_s, sA_I, sA_I, sA_I, e, nI_1, gP_13_4, aOp_s]
  rfl
theorem c_l111 (sa : Nat → Nat) (d : Nat) (h : AH) (co : Nat) {S : ST} {T : Nat → Nat} {n : Nat} {Z : ZS} (hZ : cZ S T n Z) (x1 : Int32) (x3 x4 x5 : Value) (hQ : Z.1 = 0 → Z.2.2 3 ≤ 7 ∧ S.1 13 4 = nI (Z.2.2 3)) : ∃ S' : ST, AMV sa (d + 1) 55 111 [.ref (co + 10), .ref (co + 13), .int x1, x3, x4, x5] [] (mk h co S) = some (none, mk h co S') ∧ cZ S' T n (zMu T n (decide (Z.2.2 3 ≠ 0)) Z) ∧ fC S S' := by
  obtain ⟨S1, f1, f2, f3⟩ := c_fail sa d h co hZ (k := 1) (by decide) (by decide)
  rw [eX5_readLetters_111, gI_13_4, aOp_s]
  have yes : (aOp (aFI (mk h co S) (co + 10) 5 3) fun v2 => aOp (aCl (mk h co S) (co + 10) 5) fun _ => aOp (aRV (AMC sa (d + 1) 61 [.ref (co + 10), .int 1, .int v2] (mk h co S))) fun h3 => some ((none : Option Value), h3)) = some (none, mk h co S1) := by
    rw [gI_10_3, aOp_s, gC_10, aOp_s, show AMC sa (d + 1) 61 [.ref (co + 10), .int 1, .int (S.1 10 3)] (mk h co S) = _ from f1, aRV_mk, aOp_s]
  by_cases h0 : Z.1 = 0
  · obtain ⟨q1, q2⟩ := hQ h0
    rw [q2]
    by_cases hc : Z.2.2 3 = 0
    · rw [if_pos (show nI (Z.2.2 3) = 0 by rw [hc]; rfl), yes, decide_eq_false (fun z => z hc)]
      exact ⟨S1, rfl, f2, f3⟩
    · rw [if_neg (nI_ne0 (by omega) (by omega)), decide_eq_true hc]
      exact ⟨S, rfl, hZ, fC_refl S⟩
  · rw [zMu_0 h0]
    have f2 : cZ S1 T n Z := by
      unfold zTk at f2
      rw [if_neg h0] at f2
      exact f2
    by_cases hc : S.1 13 4 = 0
    · rw [if_pos hc, yes]
      exact ⟨S1, rfl, f2, f3⟩
    · rw [if_neg hc]
      exact ⟨S, rfl, hZ, fC_refl S⟩
/-- the ounces read stay -/
def fL (S S' : ST) : Prop := fr 10 17 S S' ∧ S'.2.2 12 = S.2.2 12 ∧ S'.1 10 4 = S.1 10 4
theorem fL_trans {S S' S'' : ST} (h1 : fL S S') (h2 : fL S' S'') : fL S S'' := ⟨fr_trans h1.1 h2.1, h2.2.1.trans h1.2.1, h2.2.2.trans h1.2.2⟩
theorem fL_C {S S' : ST} (h : fC S S') : fL S S' := ⟨fr_mono (fC_fr h) (by decide) (by decide), by rw [h.1], h.2 10 4 (by omega)⟩
theorem c_lloop (sa : Nat → Nat) (d : Nat) (h : AH) (co : Nat) {T : Nat → Nat} {n : Nat} : ∀ m turn S Z x3 x4 x5, turn + m = 8 → cZ S T n Z → (Z.1 = 0 → Z.2.2 3 = turn ∧ turn ≤ 7 ∧ Z.2.2 2 ≤ 6 ∧ S.1 10 4 = nI (Z.2.2 2) ∧ cDr S Z.2.2) → ∃ S' : ST, AMV sa (d + 3) 55 2 [.ref (co + 10), .ref (co + 13), .int (nI turn), x3, x4, x5] [] (mk h co S) = some (none, mk h co S') ∧ cZ S' T n (zMu T n (decide ((zLs T n m Z).2.2 3 ≠ 0)) (zLs T n m Z)) ∧ ((zMu T n (decide ((zLs T n m Z).2.2 3 ≠ 0)) (zLs T n m Z)).1 = 0 → cDr S' (zLs T n m Z).2.2) ∧ fL S S' := by
  intro m
  induction m with
  | zero =>
    intro turn S Z x3 x4 x5 ht hZ hQ
    obtain ⟨S1, g1, g2, g3⟩ := c_l111 sa (d + 2) h co hZ (nI turn) x3 x4 x5 (fun z => by have := (hQ z).2.1; omega)
    refine ⟨S1, ?_, g2, fun z => ?_, fL_C g3⟩
    · rw [eX5_readLetters_2, if_pos (show (7 : Int32) < nI turn from nI_lt (a := 7) (by omega) (by omega))]
      exact g1
    · have := (zMu_1 z).2.2
      have := (hQ this).2.1
      omega
  | succ m ih =>
    intro turn S Z x3 x4 x5 ht hZ hQ
    have e : zLs T n (m + 1) Z = if Z.1 = 0 ∧ 0 < kB T n Z.2.1 then zLs T n m (zL T n Z) else Z := rfl
    have ex : (¬ (Z.1 = 0 ∧ 0 < kB T n Z.2.1)) → ∃ S' : ST, AMV sa (d + 3) 55 111 [.ref (co + 10), .ref (co + 13), .int (nI turn), x3, x4, x5] [] (mk h co S) = some (none, mk h co S') ∧ cZ S' T n (zMu T n (decide ((zLs T n (m + 1) Z).2.2 3 ≠ 0)) (zLs T n (m + 1) Z)) ∧ ((zMu T n (decide ((zLs T n (m + 1) Z).2.2 3 ≠ 0)) (zLs T n (m + 1) Z)).1 = 0 → cDr S' (zLs T n (m + 1) Z).2.2) ∧ fL S S' := by
      intro hc
      rw [e, if_neg hc]
      obtain ⟨S1, g1, g2, g3⟩ := c_l111 sa (d + 2) h co hZ (nI turn) x3 x4 x5 (fun z => ⟨by have := hQ z; omega, (hQ z).2.2.2.2.1⟩)
      exact ⟨S1, g1, g2, fun z => cDr_fr (hQ (zMu_1 z).2.2).2.2.2.2 (fC_fr g3), fL_C g3⟩
    rw [eX5_readLetters_2, if_neg (show ¬ (7 : Int32) < nI turn from nI_nlt (a := 7) (by omega) (by decide)), gI_10_5, aOp_s, hZ.2.1]
    by_cases h0 : Z.1 = 0
    · obtain ⟨q1, q2, q26, q4, q5⟩ := hQ h0
      have hp := hZ.2.2.2.1
      have e3 := hZ.2.2.2.2.1 h0
      have h100 := hZ.1.2.1
      have hk5 : kB T n Z.2.1 ≤ 5 := by
        unfold kB
        split
        · exact kd_le _
        · decide
      rw [if_pos (show nI Z.1 = 0 by rw [h0]; rfl), gC_10, aOp_s, c_next sa (d + 2) h co hZ, aRI_mk, aOp_s, if_pos h0, c_kindOf sa (d + 2) hZ, aRI_mk, aOp_s]
      by_cases hc : 0 < kB T n Z.2.1
      · have hpn : Z.2.1 < n := by
          unfold kB at hc
          by_cases q : Z.2.1 < n
          · exact q
          · rw [if_neg q] at hc; omega
        obtain ⟨kc, k97, k122, kk⟩ := kB_tk hc
        obtain ⟨t1, -, -⟩ := isC_E (x := T Z.2.1) (by omega) kc
        rw [if_pos ⟨h0, hc⟩] at e
        rw [if_neg (nI_ne0 hc (by omega)), gI_13_4, aOp_s, q5.1, e]
        by_cases h7 : Z.2.2 3 < 7
        · obtain ⟨a1, a2⟩ := c_at sa hZ h0 (p := Z.2.1 + 1) (by omega) Z.2.2
          have hall := n_all7 _ q26
          obtain ⟨S2, b1, b2, b3⟩ := c_readSet sa d h co a1 (x := nI (2 ^ Z.2.2 2 - 1)) hall.2 (fun _ => rfl)
          obtain ⟨s1, s2⟩ := zSt_w (T := T) (n := n) q26 (0, Z.2.1 + 1, Z.2.2)
          obtain ⟨U, hU⟩ : ∃ U, U = zSt T n (2 ^ Z.2.2 2 - 1) (0, Z.2.1 + 1, Z.2.2) := ⟨_, rfl⟩
          obtain ⟨A, hA⟩ : ∃ A, A = zNu T n 0 (2 ^ Z.2.2 2 - 1) (0, Z.2.1 + 1, Z.2.2) := ⟨_, rfl⟩
          rw [← hU] at b1 b2 s1 s2
          rw [← hA] at s1 s2
          rw [s1] at b2
          have hA63 : A.1 < 64 := by
            have : A.1 ≤ 2 ^ Z.2.2 2 - 1 := by rw [hA]; exact zNu_le
            omega
          obtain ⟨S3, c1, c2, c3⟩ := c_skip sa (d + 1) h co b2 (x := 44) (by decide) (by decide)
          rw [isC_44] at c2
          obtain ⟨K, hK⟩ : ∃ K, K = zTk T n (decide (tkT T n A.2.2.1 = 3)) 1 A.2 := ⟨_, rfl⟩
          rw [← hK] at c2
          have hKA : K.1 = 0 → A.2.1 = 0 := fun z => by rw [hK] at z; exact (zTk_1 (by decide) z).1
          obtain ⟨S4, d1, d2, d3⟩ := c_readSet sa d h co c2 (x := nI U.1) hA63 (fun z => by rw [s2 (hKA z)])
          obtain ⟨v1, v2⟩ := zSt_p (T := T) (n := n) hA63 K
          obtain ⟨V, hV⟩ : ∃ V, V = zSt T n A.1 K := ⟨_, rfl⟩
          rw [← hV] at d1 d2 v1 v2
          have eB : zPt T n A.1 A.2 = zNu T n 0 63 (cond (decide (tkT T n K.2.1 = 2) && !(decide (nv T n K.2.1 &&& (127 ^^^ A.1) = 0))) (zTk T n false 2 K) K) := by rw [hK]; rfl
          rw [← eB] at v1 v2
          obtain ⟨B, hB⟩ : ∃ B, B = zPt T n A.1 A.2 := ⟨_, rfl⟩
          rw [← hB] at v1 v2
          rw [v1] at d2
          obtain ⟨S5, f1, f2, f3⟩ := c_skip sa (d + 1) h co d2 (x := 59) (by decide) (by decide)
          rw [isC_59] at f2
          obtain ⟨C, hC⟩ : ∃ C, C = zTk T n (decide (tkT T n B.2.2.1 = 4)) 1 B.2 := ⟨_, rfl⟩
          rw [← hC] at f2
          have fc := fC_trans (fC_trans (fC_trans (fC_trans a2 b3) c3) d3) f3
          have l5 : S5.1 13 4 = nI (Z.2.2 3) := (fc.2 13 4 (by omega)).trans q5.1
          obtain ⟨S6, hS6⟩ : ∃ S6, S6 = sI (sA (sA (sA S5 14 (upd (S5.2.2 14) (Z.2.2 3) (nI (kB T n Z.2.1)))) 15 (upd (S5.2.2 15) (Z.2.2 3) (nI U.1))) 16 (upd (S5.2.2 16) (Z.2.2 3) (nI V.1))) 13 4 (nI (Z.2.2 3 + 1)) := ⟨_, rfl⟩
          have n10 : ∀ b, S6.1 10 b = S5.1 10 b := fun b => by rw [hS6, sI_ne _ _ (by omega)]; rfl
          have f6 : fr 13 17 S5 S6 := by
            rw [hS6]
            exact fr_I (fr_A (fr_A (fr_A (fr_refl _ _ _) (by decide) (by decide) _) (by decide) (by decide) _) (by decide) (by decide) _) (by decide) (by decide) _ _
          have fL6 : fL S S6 := fL_trans (fL_C fc) ⟨fr_mono f6 (by decide) (by decide), (f6 12 (by decide)).2.2, n10 4⟩
          have eT : zTk T n (decide (Z.2.2 3 < 7)) 3 Z = (0, Z.2.1 + 1, Z.2.2) := by
            unfold zTk
            rw [if_pos h0, decide_eq_true h7, cond_true, t1]
          have eZ : zL T n Z = if C.1 = 0 then (0, C.2.1, pUp (pUp (pUp (pUp C.2.2 (12 + 4 * Z.2.2 3) (kB T n Z.2.1)) (13 + 4 * Z.2.2 3) A.1) (14 + 4 * Z.2.2 3) B.1) 3 (Z.2.2 3 + 1)) else C := by
            rw [hC, hB, hA, ← eT]; rfl
          have CQ : C.2.2 = Z.2.2 := by rw [hC, zTk_Q, hB, zPt_Q, hA, zNu_Q]
          have z6 : cZ S6 T n (zL T n Z) := by
            refine cZ_of (S := S5) ?_ (f6 11 (by decide)).2.2 (n10 2) (n10 3) (n10 5) (n10 6)
            rw [eZ]
            by_cases hb : C.1 = 0
            · rw [if_pos hb]; exact cZ_Q f2 hb.symm rfl
            · rw [if_neg hb]; exact f2
          obtain ⟨S', g1, g2, g3, g4⟩ := ih (turn + 1) S6 (zL T n Z) (.int (nI (kB T n Z.2.1))) (.int (nI U.1)) (.int (nI V.1)) (by omega) z6 (fun z => by
            have hb : C.1 = 0 := by
              by_cases hb : C.1 = 0
              · exact hb
              · rw [eZ, if_neg hb] at z; exact absurd z hb
            have hb2 : B.2.1 = 0 := by rw [hC] at hb; exact (zTk_1 (by decide) hb).1
            have ha2 : A.2.1 = 0 := by rw [hB] at hb2; exact zPt_1 hb2
            have eU := s2 ha2
            have eV := v2 hb2
            obtain ⟨p1, p2, p3, p4, p5, p6, p7⟩ := q5
            rw [eZ, if_pos hb]
            dsimp only
            rw [CQ]
            obtain ⟨L, hL⟩ : ∃ L, L = Z.2.2 3 := ⟨_, rfl⟩
            rw [← hL] at hS6 h7 q1 p1 p7 ⊢
            have r2 : pUp (pUp (pUp (pUp Z.2.2 (12 + 4 * L) (kB T n Z.2.1)) (13 + 4 * L) A.1) (14 + 4 * L) B.1) 3 (L + 1) 2 = Z.2.2 2 := by rw [pUp_ne _ _ (by omega), pUp_ne _ _ (by omega), pUp_ne _ _ (by omega), pUp_ne _ _ (by omega)]
            have r0 : pUp (pUp (pUp (pUp Z.2.2 (12 + 4 * L) (kB T n Z.2.1)) (13 + 4 * L) A.1) (14 + 4 * L) B.1) 3 (L + 1) 0 = Z.2.2 0 := by rw [pUp_ne _ _ (by omega), pUp_ne _ _ (by omega), pUp_ne _ _ (by omega), pUp_ne _ _ (by omega)]
            have r1 : pUp (pUp (pUp (pUp Z.2.2 (12 + 4 * L) (kB T n Z.2.1)) (13 + 4 * L) A.1) (14 + 4 * L) B.1) 3 (L + 1) 1 = Z.2.2 1 := by rw [pUp_ne _ _ (by omega), pUp_ne _ _ (by omega), pUp_ne _ _ (by omega), pUp_ne _ _ (by omega)]
            have s13 : ∀ b, b ≠ 4 → S6.1 13 b = S.1 13 b := fun b hb4 => by
              rw [hS6, sI_ne _ _ (by omega)]
              exact fc.2 13 b (by omega)
            refine ⟨by rw [pUp_at, q1], by omega, by rw [r2]; exact q26, by rw [r2]; exact fL6.2.2.trans q4, ?_, (s13 5 (by decide)).trans p2, by rw [r0]; exact (s13 6 (by decide)).trans p3, by rw [r1]; exact (s13 7 (by decide)).trans p4, (s13 8 (by decide)).trans p5, (s13 9 (by decide)).trans p6, fun l hl => ?_⟩
            · rw [pUp_at, hS6, sI_at]
            · rw [pUp_at] at hl
              have x14 : S6.2.2 14 = upd (S5.2.2 14) L (nI (kB T n Z.2.1)) := by rw [hS6, sI_A, sA_ne _ _ _ (by decide), sA_ne _ _ _ (by decide), sA_at]
              have x15 : S6.2.2 15 = upd (S5.2.2 15) L (nI U.1) := by rw [hS6, sI_A, sA_ne _ _ _ (by decide), sA_at]
              have x16 : S6.2.2 16 = upd (S5.2.2 16) L (nI V.1) := by rw [hS6, sI_A, sA_at]
              rw [x14, x15, x16, fc.1]
              by_cases el : l = L
              · rw [el, pk_us, pk_us, pk_us, eU, eV]
                refine ⟨?_, ?_, ?_⟩
                · rw [pUp_ne _ _ (by omega), pUp_ne _ _ (by omega), pUp_ne _ _ (by omega), pUp_at]
                · rw [pUp_ne _ _ (by omega), pUp_ne _ _ (by omega), pUp_at]
                · rw [pUp_ne _ _ (by omega), pUp_at]
              · rw [pk_un el, pk_un el, pk_un el]
                obtain ⟨y1, y2, y3⟩ := p7 l (by omega)
                refine ⟨?_, ?_, ?_⟩
                · rw [pUp_ne _ _ (by omega), pUp_ne _ _ (by omega), pUp_ne _ _ (by omega), pUp_ne _ _ (by omega)]; exact y1
                · rw [pUp_ne _ _ (by omega), pUp_ne _ _ (by omega), pUp_ne _ _ (by omega), pUp_ne _ _ (by omega)]; exact y2
                · rw [pUp_ne _ _ (by omega), pUp_ne _ _ (by omega), pUp_ne _ _ (by omega), pUp_ne _ _ (by omega)]; exact y3)
          refine ⟨S', ?_, g2, g3, fL_trans fL6 g4⟩
          rw [if_pos (show nI (Z.2.2 3) < 7 from nI_lt (b := 7) h7 (by decide)), gC_10, aOp_s, c_next sa (d + 2) h co hZ, aRI_mk, aOp_s, if_pos h0, c_kindOf sa (d + 2) hZ, aRI_mk, aOp_s, gI_10_3, aOp_s, e3, nI_1, gP_10_3, aOp_s, gI_10_4, aOp_s, show (sI S 10 3 (nI (Z.2.1 + 1))).1 10 4 = nI (Z.2.2 2) from (a2.2 10 4 (by omega)).trans q4, hall.1, gC_10, aOp_s, b1, aRI_mk, aOp_s, gC_10, aOp_s, show AMC sa (d + 3) 58 [.ref (co + 10), .int 44] (mk h co S2) = _ from c1, aRV_mk, aOp_s, gC_10, aOp_s, d1, aRI_mk, aOp_s, gC_10, aOp_s, show AMC sa (d + 3) 58 [.ref (co + 10), .int 59] (mk h co S4) = _ from f1, aRV_mk, aOp_s, gC_13, aOp_s, c_add sa (d + 2) h co l5 h7, aRV_mk, aOp_s, ← hS6, nI_1]
          exact g1
        · obtain ⟨S1, f1, f2, f3⟩ := c_fail_at sa (d + 2) h co hZ h0 (k := 3) (p := Z.2.1) (by decide) (by decide) hp Z.2.2
          have eT : zTk T n (decide (Z.2.2 3 < 7)) 3 Z = (3, Z.2.1, Z.2.2) := by
            unfold zTk
            rw [if_pos h0, decide_eq_false h7]
            rfl
          have z3 : ((3, Z.2.1, Z.2.2) : ZS).1 ≠ 0 := show (3 : Nat) ≠ 0 by decide
          have eN : ∀ lo hi, zNu T n lo hi (3, Z.2.1, Z.2.2) = (0, (3, Z.2.1, Z.2.2)) := fun lo hi => if_neg z3
          have eK : ∀ b k, zTk T n b k (3, Z.2.1, Z.2.2) = (3, Z.2.1, Z.2.2) := fun b k => if_neg z3
          have ec : ∀ b : Bool, cond b ((3, Z.2.1, Z.2.2) : ZS) (3, Z.2.1, Z.2.2) = (3, Z.2.1, Z.2.2) := fun b => by cases b <;> rfl
          have eP : ∀ a, zPt T n a (3, Z.2.1, Z.2.2) = (0, (3, Z.2.1, Z.2.2)) := by
            intro a
            unfold zPt
            simp only [eK, ec, eN]
          have eZ : zL T n Z = (3, Z.2.1, Z.2.2) := by
            unfold zL
            simp only [eT, eN, eP, eK]
            exact if_neg z3
          rw [if_neg (show ¬ nI (Z.2.2 3) < 7 from nI_nlt (b := 7) (by omega) (by omega)), gI_10_3, aOp_s, e3, gC_10, aOp_s, show AMC sa (d + 3) 61 [.ref (co + 10), .int 3, .int (nI Z.2.1)] (mk h co S) = _ from f1, aRV_mk, aOp_s, eZ, zLs_st T n z3, zMu_0 z3]
          exact ⟨S1, rfl, f2, fun z => absurd z z3, fL_C f3⟩
      · rw [if_pos (show nI (kB T n Z.2.1) = 0 by rw [show kB T n Z.2.1 = 0 by omega]; rfl)]
        exact ex (fun z => hc z.2)
    · rw [if_neg (nI_ne0 (by omega) (by have := hZ.2.2.1; omega))]
      exact ex (fun z => h0 z.1)
