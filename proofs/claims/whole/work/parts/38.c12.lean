/-! ===== a tape well read gives a good post ===== -/
def zG (Q : PS) : Prop := pB Q ∧ pK Q ∧ Q 4 = 0 ∧ Q 5 = 0 ∧ ∀ l, l < 7 → Q (15 + 4 * l) = 0
theorem zW_of {T : Nat → Nat} {n : Nat} {Z : ZS} (h : (zW T n Z).1 = 0) : ∃ v p', v ≤ 9 ∧ Z.2.2 2 < 6 ∧ zW T n Z = (0, p', pUp (pUp Z.2.2 (6 + Z.2.2 2) v) 2 (Z.2.2 2 + 1)) := by
  unfold zW at h ⊢
  dsimp only at h ⊢
  by_cases hb : (zTk T n (decide (tkT T n (zNu T n 1 9 (zTk T n (decide (Z.2.2 2 < 6)) 3 Z)).2.2.1 = 4)) 1 (zNu T n 1 9 (zTk T n (decide (Z.2.2 2 < 6)) 3 Z)).2).1 = 0
  · rw [if_pos hb, zTk_Q, zNu_Q, zTk_Q]
    have h1 := (zTk_1 (by decide) hb).1
    have h2 := (zNu_1 h1).1
    have h3 := (zTk_1 (by decide) h2).2
    exact ⟨_, _, zNu_le, of_decide_eq_true h3, rfl⟩
  · rw [if_neg hb] at h
    exact absurd h hb
theorem zL_of {T : Nat → Nat} {n : Nat} {Z : ZS} (h : (zL T n Z).1 = 0) : ∃ wo sd p', wo ≤ 2 ^ Z.2.2 2 - 1 ∧ sd ≤ 63 ∧ Z.2.2 3 < 7 ∧ zL T n Z = (0, p', pUp (pUp (pUp (pUp Z.2.2 (12 + 4 * Z.2.2 3) (kB T n Z.2.1)) (13 + 4 * Z.2.2 3) wo) (14 + 4 * Z.2.2 3) sd) 3 (Z.2.2 3 + 1)) := by
  unfold zL at h ⊢
  dsimp only at h ⊢
  by_cases hb : (zTk T n (decide (tkT T n (zPt T n (zNu T n 0 (2 ^ Z.2.2 2 - 1) (zTk T n (decide (Z.2.2 3 < 7)) 3 Z)).1 (zNu T n 0 (2 ^ Z.2.2 2 - 1) (zTk T n (decide (Z.2.2 3 < 7)) 3 Z)).2).2.2.1 = 4)) 1 (zPt T n (zNu T n 0 (2 ^ Z.2.2 2 - 1) (zTk T n (decide (Z.2.2 3 < 7)) 3 Z)).1 (zNu T n 0 (2 ^ Z.2.2 2 - 1) (zTk T n (decide (Z.2.2 3 < 7)) 3 Z)).2).2).1 = 0
  · rw [if_pos hb, zTk_Q, zPt_Q, zNu_Q, zTk_Q]
    have h1 := (zTk_1 (by decide) hb).1
    have h2 := zPt_1 h1
    have h3 := (zNu_1 h2).1
    have h4 := (zTk_1 (by decide) h3).2
    refine ⟨_, _, _, zNu_le, ?_, of_decide_eq_true h4, rfl⟩
    unfold zPt
    exact zNu_le
  · rw [if_neg hb] at h
    exact absurd h hb
theorem zG_law (T : Nat → Nat) (n : Nat) : zG (zLaw T n).2.2 := by
  unfold zLaw
  dsimp only
  rw [zTk_Q]
  unfold zSet
  dsimp only
  rw [zNu_Q, zTk_Q]
  dsimp only
  rw [zNu_Q, zTk_Q]
  dsimp only
  have ha : (zNu T n 0 99 (zTk T n (isC T n 0 112) 1 (0, 0, fun _ => 0))).1 ≤ 99 := zNu_le
  generalize (zNu T n 0 99 (zTk T n (isC T n 0 112) 1 (0, 0, fun _ => 0))).1 = x at *
  have hc : ∀ Z, (zNu T n 0 60 Z).1 ≤ 60 := fun Z => zNu_le
  generalize hy : (zNu T n 0 60 _).1 = y
  have hy60 : y ≤ 60 := by rw [← hy]; exact hc _
  have e : ∀ j, 2 ≤ j → pUp (pUp (fun _ => 0) 0 x) 1 y j = 0 := fun j hj => (pUp_ne _ _ (by omega)).trans (pUp_ne _ _ (by omega))
  refine ⟨⟨by rw [e 2 (by decide)]; decide, by rw [e 3 (by decide)]; decide, fun k _ => by rw [e (6 + k) (by omega)]; decide, fun l _ => ?_, ?_, ?_, by rw [e 4 (by decide)]; decide, by rw [e 5 (by decide)]; decide⟩, fun l hl => ?_, e 4 (by decide), e 5 (by decide), fun l _ => e _ (by omega)⟩
  · rw [e (12 + 4 * l) (by omega), e (13 + 4 * l) (by omega), e (14 + 4 * l) (by omega), e (15 + 4 * l) (by omega)]
    decide
  · rw [pUp_ne _ _ (by decide), pUp_at]; exact ha
  · rw [pUp_at]; exact hy60
  · rw [e 3 (by decide)] at hl
    omega
theorem zG_zW {T : Nat → Nat} {n : Nat} {Z : ZS} (hg : zG Z.2.2) (h3 : Z.2.2 3 = 0) (h : (zW T n Z).1 = 0) : zG (zW T n Z).2.2 ∧ (zW T n Z).2.2 3 = 0 := by
  obtain ⟨v, p', hv, h6, e⟩ := zW_of h
  rw [e]
  dsimp only
  obtain ⟨⟨b1, b2, b3, b4, b5, b6, b7, b8⟩, gk, g4, g5, g15⟩ := hg
  have ne : ∀ j, j ≠ 2 → j ≠ 6 + Z.2.2 2 → pUp (pUp Z.2.2 (6 + Z.2.2 2) v) 2 (Z.2.2 2 + 1) j = Z.2.2 j := fun j h1 h2 => (pUp_ne _ _ h1).trans (pUp_ne _ _ h2)
  have q3 : pUp (pUp Z.2.2 (6 + Z.2.2 2) v) 2 (Z.2.2 2 + 1) 3 = 0 := (ne 3 (by omega) (by omega)).trans h3
  refine ⟨⟨⟨by rw [pUp_at]; omega, by rw [q3]; decide, fun k hk => ?_, fun l hl => ?_, by rw [ne 0 (by omega) (by omega)]; exact b5, by rw [ne 1 (by omega) (by omega)]; exact b6, by rw [ne 4 (by omega) (by omega)]; exact b7, by rw [ne 5 (by omega) (by omega)]; exact b8⟩, fun l hl => ?_, (ne 4 (by omega) (by omega)).trans g4, (ne 5 (by omega) (by omega)).trans g5, fun l hl => (ne _ (by omega) (by omega)).trans (g15 l hl)⟩, q3⟩
  · rw [pUp_ne _ _ (by omega)]
    by_cases ek : k = Z.2.2 2
    · rw [ek, pUp_at]; exact hv
    · rw [pUp_ne _ _ (by omega)]; exact b3 k hk
  · rw [ne (12 + 4 * l) (by omega) (by omega), ne (13 + 4 * l) (by omega) (by omega), ne (14 + 4 * l) (by omega) (by omega), ne (15 + 4 * l) (by omega) (by omega)]
    exact b4 l hl
  · have hl : l < pUp (pUp Z.2.2 (6 + Z.2.2 2) v) 2 (Z.2.2 2 + 1) 3 := hl
    rw [q3] at hl
    omega
theorem zG_zWs (T : Nat → Nat) (n : Nat) : ∀ m Z, zG Z.2.2 → Z.2.2 3 = 0 → (zWs T n m Z).1 = 0 → zG (zWs T n m Z).2.2 ∧ (zWs T n m Z).2.2 3 = 0
  | 0, Z, hg, h3, _ => ⟨hg, h3⟩
  | m + 1, Z, hg, h3, h => by
    have e : zWs T n (m + 1) Z = if Z.1 = 0 ∧ isC T n Z.2.1 111 = true then zWs T n m (zW T n Z) else Z := rfl
    rw [e] at h ⊢
    by_cases hc : Z.1 = 0 ∧ isC T n Z.2.1 111 = true
    · rw [if_pos hc] at h ⊢
      by_cases h0 : (zW T n Z).1 = 0
      · obtain ⟨g1, g2⟩ := zG_zW hg h3 h0
        exact zG_zWs T n m _ g1 g2 h
      · have : zWs T n m (zW T n Z) = zW T n Z := by
          cases m with
          | zero => rfl
          | succ m => exact if_neg (fun z => h0 z.1)
        rw [this] at h
        exact absurd h h0
    · rw [if_neg hc]
      exact ⟨hg, h3⟩
theorem zG_zL {T : Nat → Nat} {n : Nat} {Z : ZS} (hg : zG Z.2.2) (hk : 0 < kB T n Z.2.1) (h : (zL T n Z).1 = 0) : zG (zL T n Z).2.2 := by
  obtain ⟨wo, sd, p', h1, h2, h7, e⟩ := zL_of h
  rw [e]
  obtain ⟨⟨b1, b2, b3, b4, b5, b6, b7, b8⟩, gk, g4, g5, g15⟩ := hg
  have hk5 : kB T n Z.2.1 ≤ 5 := by
    unfold kB
    split
    · exact kd_le _
    · decide
  obtain ⟨L, hL⟩ : ∃ L, L = Z.2.2 3 := ⟨_, rfl⟩
  obtain ⟨kk, hkk⟩ : ∃ k, k = kB T n Z.2.1 := ⟨_, rfl⟩
  rw [← hL] at h7 b2 ⊢
  rw [← hkk] at hk hk5 ⊢
  obtain ⟨Q, hQ⟩ : ∃ Q, Q = pUp (pUp (pUp (pUp Z.2.2 (12 + 4 * L) kk) (13 + 4 * L) wo) (14 + 4 * L) sd) 3 (L + 1) := ⟨_, rfl⟩
  have ne : ∀ j, j ≠ 3 → j ≠ 12 + 4 * L → j ≠ 13 + 4 * L → j ≠ 14 + 4 * L → Q j = Z.2.2 j := fun j a1 a2 a3 a4 => by rw [hQ, pUp_ne _ _ a1, pUp_ne _ _ a4, pUp_ne _ _ a3, pUp_ne _ _ a2]
  have q3 : Q 3 = L + 1 := by rw [hQ, pUp_at]
  have q12 : Q (12 + 4 * L) = kk := by rw [hQ, pUp_ne _ _ (by omega), pUp_ne _ _ (by omega), pUp_ne _ _ (by omega), pUp_at]
  have q13 : Q (13 + 4 * L) = wo := by rw [hQ, pUp_ne _ _ (by omega), pUp_ne _ _ (by omega), pUp_at]
  have q14 : Q (14 + 4 * L) = sd := by rw [hQ, pUp_ne _ _ (by omega), pUp_at]
  have h64 := p2_64 _ b1
  have hp1 : 1 ≤ 2 ^ Z.2.2 2 := Nat.one_le_two_pow
  show zG (pUp (pUp (pUp (pUp Z.2.2 (12 + 4 * L) kk) (13 + 4 * L) wo) (14 + 4 * L) sd) 3 (L + 1))
  rw [← hQ]
  refine ⟨⟨by rw [ne 2 (by omega) (by omega) (by omega) (by omega)]; exact b1, by rw [q3]; omega, fun k hk => by rw [ne (6 + k) (by omega) (by omega) (by omega) (by omega)]; exact b3 k hk, fun l hl => ?_, by rw [ne 0 (by omega) (by omega) (by omega) (by omega)]; exact b5, by rw [ne 1 (by omega) (by omega) (by omega) (by omega)]; exact b6, by rw [ne 4 (by omega) (by omega) (by omega) (by omega)]; exact b7, by rw [ne 5 (by omega) (by omega) (by omega) (by omega)]; exact b8⟩, fun l hl => ?_, (ne 4 (by omega) (by omega) (by omega) (by omega)).trans g4, (ne 5 (by omega) (by omega) (by omega) (by omega)).trans g5, fun l hl => (ne _ (by omega) (by omega) (by omega) (by omega)).trans (g15 l hl)⟩
  · by_cases el : l = L
    · rw [el, q12, q13, q14, ne (15 + 4 * L) (by omega) (by omega) (by omega) (by omega)]
      have := (b4 L (by omega)).2.2.2
      omega
    · rw [ne (12 + 4 * l) (by omega) (by omega) (by omega) (by omega), ne (13 + 4 * l) (by omega) (by omega) (by omega) (by omega), ne (14 + 4 * l) (by omega) (by omega) (by omega) (by omega), ne (15 + 4 * l) (by omega) (by omega) (by omega) (by omega)]
      exact b4 l hl
  · rw [q3] at hl
    rw [ne 2 (by omega) (by omega) (by omega) (by omega)]
    by_cases el : l = L
    · rw [el, q12, q13]; omega
    · rw [ne (12 + 4 * l) (by omega) (by omega) (by omega) (by omega), ne (13 + 4 * l) (by omega) (by omega) (by omega) (by omega)]
      exact gk l (by omega)
theorem zLs_st (T : Nat → Nat) (n : Nat) {Z : ZS} (h0 : Z.1 ≠ 0) : ∀ m, zLs T n m Z = Z
  | 0 => rfl
  | _ + 1 => if_neg (fun z => h0 z.1)
theorem zWs_st (T : Nat → Nat) (n : Nat) {Z : ZS} (h0 : Z.1 ≠ 0) : ∀ m, zWs T n m Z = Z
  | 0 => rfl
  | _ + 1 => if_neg (fun z => h0 z.1)
theorem zG_zLs (T : Nat → Nat) (n : Nat) : ∀ m Z, zG Z.2.2 → (zLs T n m Z).1 = 0 → zG (zLs T n m Z).2.2
  | 0, Z, hg, _ => hg
  | m + 1, Z, hg, h => by
    have e : zLs T n (m + 1) Z = if Z.1 = 0 ∧ 0 < kB T n Z.2.1 then zLs T n m (zL T n Z) else Z := rfl
    rw [e] at h ⊢
    by_cases hc : Z.1 = 0 ∧ 0 < kB T n Z.2.1
    · rw [if_pos hc] at h ⊢
      by_cases h0 : (zL T n Z).1 = 0
      · exact zG_zLs T n m _ (zG_zL hg hc.2 h0) h
      · rw [zLs_st T n h0] at h
        exact absurd h h0
    · rw [if_neg hc]
      exact hg
theorem zMu_1 {T : Nat → Nat} {n : Nat} {b : Bool} {Z : ZS} (h : (zMu T n b Z).1 = 0) : b = true ∧ zMu T n b Z = Z ∧ Z.1 = 0 := by
  unfold zMu at h ⊢
  cases b with
  | true => exact ⟨rfl, rfl, h⟩
  | false => exact absurd (zTk_1 (by decide) h).2 (by decide)
theorem zG_all {T : Nat → Nat} {n : Nat} (h : (zAll T n).1 = 0) : zG (zAll T n).2.2 := by
  unfold zAll at h ⊢
  dsimp only at h ⊢
  obtain ⟨-, e1, h1⟩ := zMu_1 h
  rw [e1]
  have hm : (zMu T n (decide (0 < kB T n (zWs T n 7 (zMu T n (isC T n (zLaw T n).2.1 111) (zLaw T n))).2.1)) (zWs T n 7 (zMu T n (isC T n (zLaw T n).2.1 111) (zLaw T n)))).1 = 0 := by
    by_cases h0 : (zMu T n (decide (0 < kB T n (zWs T n 7 (zMu T n (isC T n (zLaw T n).2.1 111) (zLaw T n))).2.1)) (zWs T n 7 (zMu T n (isC T n (zLaw T n).2.1 111) (zLaw T n)))).1 = 0
    · exact h0
    · rw [zLs_st T n h0] at h1
      exact absurd h1 h0
  obtain ⟨-, e2, h2⟩ := zMu_1 hm
  refine zG_zLs T n 8 _ ?_ h1
  rw [e2]
  refine (zG_zWs T n 7 _ ?_ ?_ h2).1
  · rw [zMu_Q]; exact zG_law T n
  · rw [zMu_Q]; exact (zLaw_Q T n).2
/-! the order of the class's tests -/
theorem zWs_2 (T : Nat → Nat) (n : Nat) : ∀ m Z, (zWs T n m Z).1 = 0 → Z.2.2 2 ≤ (zWs T n m Z).2.2 2
  | 0, _, _ => Nat.le_refl _
  | m + 1, Z, h => by
    have e : zWs T n (m + 1) Z = if Z.1 = 0 ∧ isC T n Z.2.1 111 = true then zWs T n m (zW T n Z) else Z := rfl
    rw [e] at h ⊢
    by_cases hc : Z.1 = 0 ∧ isC T n Z.2.1 111 = true
    · rw [if_pos hc] at h ⊢
      by_cases h0 : (zW T n Z).1 = 0
      · have := zWs_2 T n m _ h
        rw [zW_2 h0] at this
        omega
      · rw [zWs_st T n h0] at h
        exact absurd h h0
    · rw [if_neg hc]
      exact Nat.le_refl _
theorem zLs_3 (T : Nat → Nat) (n : Nat) : ∀ m Z, (zLs T n m Z).1 = 0 → Z.2.2 3 ≤ (zLs T n m Z).2.2 3
  | 0, _, _ => Nat.le_refl _
  | m + 1, Z, h => by
    have e : zLs T n (m + 1) Z = if Z.1 = 0 ∧ 0 < kB T n Z.2.1 then zLs T n m (zL T n Z) else Z := rfl
    rw [e] at h ⊢
    by_cases hc : Z.1 = 0 ∧ 0 < kB T n Z.2.1
    · rw [if_pos hc] at h ⊢
      by_cases h0 : (zL T n Z).1 = 0
      · have := zLs_3 T n m _ h
        rw [zL_3 h0] at this
        omega
      · rw [zLs_st T n h0] at h
        exact absurd h h0
    · rw [if_neg hc]
      exact Nat.le_refl _
theorem zWs_eq {T : Nat → Nat} {n : Nat} {E : ZS} (h2 : E.2.2 2 = 0) : zMu T n (decide ((zWs T n 7 E).2.2 2 ≠ 0)) (zWs T n 7 E) = zWs T n 7 (zMu T n (isC T n E.2.1 111) E) := by
  by_cases h0 : E.1 = 0
  · cases hc : isC T n E.2.1 111 with
    | true =>
      have e : zWs T n 7 E = zWs T n 6 (zW T n E) := if_pos ⟨h0, hc⟩
      show _ = zWs T n 7 E
      by_cases hf : (zWs T n 7 E).1 = 0
      · have hw : (zW T n E).1 = 0 := by
          by_cases hw : (zW T n E).1 = 0
          · exact hw
          · rw [e, zWs_st T n hw] at hf
            exact absurd hf hw
        have h1 := zWs_2 T n 6 _ (by rw [← e]; exact hf)
        rw [zW_2 hw, ← e] at h1
        rw [decide_eq_true (show (zWs T n 7 E).2.2 2 ≠ 0 by omega)]
        rfl
      · exact zMu_0 hf
    | false =>
      have e : zWs T n 7 E = E := if_neg (fun z => by rw [hc] at z; cases z.2)
      rw [e, h2, decide_eq_false (fun z => z rfl)]
      show zTk T n false 1 E = zWs T n 7 (zTk T n false 1 E)
      have e1 : zTk T n false 1 E = (1, E.2.1, E.2.2) := by
        unfold zTk
        rw [if_pos h0]
        rfl
      rw [e1, zWs_st T n (show ((1, E.2.1, E.2.2) : ZS).1 ≠ 0 by show (1 : Nat) ≠ 0; decide)]
  · rw [zMu_0 (b := isC T n E.2.1 111) h0, zWs_st T n h0]
    exact zMu_0 h0
theorem zLs_eq {T : Nat → Nat} {n : Nat} {E : ZS} (h2 : E.2.2 3 = 0) : zMu T n (decide ((zLs T n 8 E).2.2 3 ≠ 0)) (zLs T n 8 E) = zLs T n 8 (zMu T n (decide (0 < kB T n E.2.1)) E) := by
  by_cases h0 : E.1 = 0
  · by_cases hc : 0 < kB T n E.2.1
    · rw [decide_eq_true hc]
      have e : zLs T n 8 E = zLs T n 7 (zL T n E) := if_pos ⟨h0, hc⟩
      show _ = zLs T n 8 E
      by_cases hf : (zLs T n 8 E).1 = 0
      · have hw : (zL T n E).1 = 0 := by
          by_cases hw : (zL T n E).1 = 0
          · exact hw
          · rw [e, zLs_st T n hw] at hf
            exact absurd hf hw
        have h1 := zLs_3 T n 7 _ (by rw [← e]; exact hf)
        rw [zL_3 hw, ← e] at h1
        rw [decide_eq_true (show (zLs T n 8 E).2.2 3 ≠ 0 by omega)]
        rfl
      · exact zMu_0 hf
    · rw [decide_eq_false hc]
      have e : zLs T n 8 E = E := if_neg (fun z => hc z.2)
      rw [e, h2, decide_eq_false (fun z => z rfl)]
      show zTk T n false 1 E = zLs T n 8 (zTk T n false 1 E)
      have e1 : zTk T n false 1 E = (1, E.2.1, E.2.2) := by
        unfold zTk
        rw [if_pos h0]
        rfl
      rw [e1, zLs_st T n (show ((1, E.2.1, E.2.2) : ZS).1 ≠ 0 by show (1 : Nat) ≠ 0; decide)]
  · rw [zMu_0 (b := decide (0 < kB T n E.2.1)) h0, zLs_st T n h0]
    exact zMu_0 h0
