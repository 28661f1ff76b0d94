/-! ===== the reference: acts ===== -/
def shf (f : Nat → Int32) (k : Nat) : Nat → Int32 := fun j => if j < k then f (j + 40) else f j
theorem shf_0 (f : Nat → Int32) : shf f 0 = f := by
  funext j
  unfold shf
  rw [if_neg (by omega)]
theorem shf_s (f : Nat → Int32) (k : Nat) : upd (shf f k) k (f (k + 40)) = shf f (k + 1) := by
  funext j
  unfold upd shf
  by_cases h : j = k
  · rw [if_pos h, if_pos (by omega), h]
  · rw [if_neg h]
    by_cases h2 : j < k
    · rw [if_pos h2, if_pos (by omega)]
    · rw [if_neg h2, if_neg (by omega)]
def ntA (n : Nat) : Nat := if n = 24 then 23 else n
def nt (S : ST) (n : Nat) : ST := sI (sA S 49 (va_cpy (S.2.2 46) (if n = 24 then shf (S.2.2 49) 920 else S.2.2 49) 0 (40 * ntA n) 40)) 40 17 (nI (ntA n + 1))
theorem sI_A (S : ST) (c k : Nat) (x : Int32) : (sI S c k x).2.2 = S.2.2 := rfl
theorem sA_I (S : ST) (c : Nat) (f : Nat → Int32) : (sA S c f).1 = S.1 := rfl
theorem sI_at (S : ST) (c k : Nat) (x : Int32) : (sI S c k x).1 c k = x := if_pos ⟨rfl, rfl⟩
theorem sI_ne (S : ST) {c k c' k' : Nat} (x : Int32) (h : ¬ (c' = c ∧ k' = k)) : (sI S c k x).1 c' k' = S.1 c' k' := if_neg h
theorem sI_sI (S : ST) (c k : Nat) (x y : Int32) : sI (sI S c k x) c k y = sI S c k y := by
  refine Prod.ext ?_ rfl
  funext a b
  show (if a = c ∧ b = k then y else if a = c ∧ b = k then x else S.1 a b) = (if a = c ∧ b = k then y else S.1 a b)
  by_cases h : a = c ∧ b = k
  · rw [if_pos h, if_pos h]
  · rw [if_neg h, if_neg h, if_neg h]
theorem sA_sI (S : ST) (c a k : Nat) (x : Int32) (f : Nat → Int32) : sA (sI S a k x) c f = sI (sA S c f) a k x := rfl
theorem m_notes (sa : Nat → Nat) (d : Nat) (h : AH) (co : Nat) {S : ST} {n : Nat} (hn : S.1 40 17 = nI n) (h24 : n ≤ 24) : AMC sa (d + 2) 145 [.ref (co + 40)] (mk h co S) = some (none, mk h co (nt S n)) := by
  have tail : ∀ (S : ST) (k : Nat) (x1 : Value), k < 24 → S.1 40 17 = nI k → AMV sa (d + 1) 145 49 [.ref (co + 40), x1] [] (mk h co S) = some (none, mk h co (sI (sA S 49 (va_cpy (S.2.2 46) (S.2.2 49) 0 (40 * k) 40)) 40 17 (nI (k + 1)))) := by
    intro S k x1 hk hS
    rw [eX8_notes_49, gR_40_13, aOp_s, gR_40_16, aOp_s, gI_40_17, aOp_s, hS, show (40 : Int32) * nI k = nI (40 * k) from pk_mul 40 k, show (0 : Int32) = nI 0 from rfl, m_copies sa d h co S (by decide) (by decide) rfl (by decide) (by decide) rfl (by decide) (by decide) (by show 40 * k + 40 ≤ 960; omega) (by decide) (by decide), aRV_mk, aOp_s, gI_40_17, aOp_s, gP_40_17, aOp_s, sA_I, hS, nI_1]
  have shift : ∀ m k, k + m = 920 → AMV sa (d + 1) 145 11 [.ref (co + 40), .int (nI k)] [] (mk h co (sA S 49 (shf (S.2.2 49) k))) = AMV sa (d + 1) 145 49 [.ref (co + 40), .int (nI 920)] [] (mk h co (sI (sA S 49 (shf (S.2.2 49) 920)) 40 17 (nI n - 1))) := by
    intro m
    induction m with
    | zero =>
      intro k hk
      have hk : k = 920 := hk
      rw [eX8_notes_11, if_pos (show (920 : Int32) ≤ nI k from nI_le (a := 920) (by omega) (by omega)), gI_40_17, aOp_s, gP_40_17, aOp_s, sA_I, hn, hk]
    | succ m ih =>
      intro k hk
      rw [eX8_notes_11, if_neg (show ¬ (920 : Int32) ≤ nI k from nI_ge (b := 920) (by omega) (by decide)), gR_40_16, aOp_s, aOp_s, show nI k + 40 = nI (k + 40) from nI_add k 40, gL_49 _ _ _ _ (aIn_nI (by omega) (by decide)), aOp_s, gS_49 _ _ _ _ _ (aIn_nI (by omega) (by decide)), aOp_s, nI_clamp (by omega), nI_clamp (by omega), sA_at, sA_sA, show shf (S.2.2 49) k (k + 40) = S.2.2 49 (k + 40) from if_neg (by omega), shf_s, nI_1]
      exact ih (k + 1) (by omega)
  rw [fX8_notes, eX8_notes_0, gI_40_17, aOp_s, hn]
  unfold nt ntA
  by_cases h1 : n = 24
  · rw [if_pos (show nI n = 24 by rw [h1]; rfl), if_pos h1, if_pos h1]
    have := shift 920 0 rfl
    rw [shf_0, sA_self] at this
    rw [show (0 : Int32) = nI 0 from rfl, this, h1, show nI 24 - 1 = nI 23 from rfl, tail _ 23 _ (by decide) (sI_at _ _ _ _), sI_A, sA_ne _ _ _ (by decide), sA_at, sA_sI, sI_sI, sA_sA]
  · rw [if_neg (show ¬ nI n = 24 from fun z => h1 ((nI_eq (b := 24) (by omega) (by decide)).mp z)), if_neg h1, if_neg h1, tail S n _ (by omega) hn]
/-- what the acts' array holds -/
def aP (S : ST) (A : Nat → PS) (n : Nat) : Prop := S.1 40 17 = nI n ∧ n ≤ 24 ∧ ∀ k, k < n → ∀ j, j < 40 → S.2.2 49 (40 * k + j) = nI (A k j)
def ntP (A : Nat → PS) (n : Nat) (P : PS) : Nat → PS := fun k => if n = 24 then (if k = 23 then P else A (k + 1)) else (if k = n then P else A k)
theorem aP_nt {S : ST} {A : Nat → PS} {n : Nat} {P : PS} (hA : aP S A n) (hE : pE S 46 P) : aP (nt S n) (ntP A n P) (ntA n + 1) := by
  obtain ⟨h1, h2, h3⟩ := hA
  refine ⟨sI_at _ _ _ _, by unfold ntA; split <;> omega, fun k hk j hj => ?_⟩
  show (sA S 49 _).2.2 49 (40 * k + j) = _
  rw [sA_at]
  unfold va_cpy ntP
  by_cases e : n = 24
  · have e2 : ntA n = 23 := if_pos e
    rw [e2] at hk ⊢
    rw [if_pos e, if_pos e]
    by_cases hk3 : k = 23
    · rw [if_pos (by omega), if_pos hk3, hk3, show 0 + (40 * 23 + j - 40 * 23) = j by omega]
      exact hE.2 j hj
    · rw [if_neg (by omega), if_neg hk3]
      show (if 40 * k + j < 920 then S.2.2 49 (40 * k + j + 40) else _) = _
      rw [if_pos (by omega), show 40 * k + j + 40 = 40 * (k + 1) + j by omega]
      exact h3 (k + 1) (by omega) j hj
  · have e2 : ntA n = n := if_neg e
    rw [e2] at hk ⊢
    rw [if_neg e, if_neg e]
    by_cases hk3 : k = n
    · rw [if_pos (by omega), if_pos hk3, hk3, show 0 + (40 * n + j - 40 * n) = j by omega]
      exact hE.2 j hj
    · rw [if_neg (by omega), if_neg hk3]
      exact h3 k (by omega) j hj
theorem m_isPost (sa : Nat → Nat) (d : Nat) (h : AH) (co : Nat) {S : ST} {P : PS} (hE : pE S 46 P) (hB : pB P) : AMC sa (d + 1) 135 [.ref (co + 40)] (mk h co S) = some (some (.int (bv (decide (0 < P 3)))), mk h co S) := by
  have hL : P 3 ≤ 7 := hB.2.1
  rw [fX8_isPost, eX8_isPost_0, gR_40_13, aOp_s, show aIL (mk h co S) (co + 46) 3 = some (nI (P 3)) from pE_get hE h co (j := 3) (by decide), aOp_s]
  by_cases hz : P 3 = 0
  · rw [if_pos (show nI (P 3) ≤ 0 by rw [hz]; decide), show decide (0 < P 3) = false from decide_eq_false (by omega)]; rfl
  · rw [if_neg (show ¬ nI (P 3) ≤ 0 from nI_nle (by omega) (by omega)), show decide (0 < P 3) = true from decide_eq_true (by omega)]; rfl
