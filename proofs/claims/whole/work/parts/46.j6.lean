/-! ===== the law's loop ===== -/
def sc (h : AH) (co b L : Nat) (xs : Nat → Int32) : Prop := oK h co b ∧ h.2.2 b = some (.inr (.inl (2, L, xs)))
theorem sc_gr {h h' : AH} {co b L : Nat} {xs : Nat → Int32} (hs : sc h co b L xs) (hg : gr h h') : sc h' co b L xs := ⟨oK_gr hs.1 hg, (hg.2 _ hs.1.2).trans hs.2⟩
theorem sc_len {h : AH} {co b L : Nat} {xs : Nat → Int32} (hs : sc h co b L xs) (S : ST) : aLen (mk h co S) b = some (nI L) := by
  unfold aLen
  rw [mk_out h co S _ hs.1.1, hs.2]
  rfl
theorem sc_get {h : AH} {co b L : Nat} {xs : Nat → Int32} (hs : sc h co b L xs) (hL : L ≤ 3072) (S : ST) {i : Nat} (hi : i < L) : aIL (mk h co S) b (nI i) = some (xs i) := by
  unfold aIL
  rw [mk_out h co S _ hs.1.1, hs.2]
  refine (if_pos ⟨aIn_nI hi (show L < 2 ^ 31 by omega), show (2 : Nat) ≠ 1 by decide⟩).trans ?_
  rw [nI_clamp (by omega)]
set_option maxHeartbeats 4000000 in
theorem law_step {sa : Nat → Nat} {h : AH} {co N b L k : Nat} {xs : Nat → Int32} {S : ST} (hJ : JJ sa h co N S) (hN : N ≤ 600) (hs : sc h co b L xs) (hL : L ≤ 3072) (hk : 6 * k + 6 ≤ L) : ∃ (h' : AH) (S' : ST), AMV sa 20 188 18 [.ref b, .ref co, .ref (co + 40), .int (nI (6 * k))] [] (mk h co S) = AMV sa 20 188 18 [.ref b, .ref co, .ref (co + 40), .int (nI (6 * k + 6))] [] (mk h' co S') ∧ JJ sa h' co (N + 1) S' ∧ gr h h' ∧ h'.1 ≤ h.1 + 4 ∧ h'.2.1 ≤ h.2.1 + 196 := by
  have i1 : nI (6 * k) + 1 = nI (6 * k + 1) := nI_add _ 1
  have i2 : nI (6 * k) + 2 = nI (6 * k + 2) := nI_add _ 2
  have i3 : nI (6 * k) + 3 = nI (6 * k + 3) := nI_add _ 3
  have i4 : nI (6 * k) + 4 = nI (6 * k + 4) := nI_add _ 4
  have i5 : nI (6 * k) + 5 = nI (6 * k + 5) := nI_add _ 5
  have i6 : nI (6 * k) + 6 = nI (6 * k + 6) := nI_add _ 6
  have lt : ¬ nI L - 6 < nI (6 * k) := by
    have e : (nI L - 6).toInt = (L : Int) - 6 := pk_sub_toInt (a := L) (b := 6) (by omega) (by decide)
    have e2 : (nI (6 * k)).toInt = ((6 * k : Nat) : Int) := nI_toInt (by omega)
    intro z
    have := Int32.lt_iff_toInt_lt.mp z
    rw [e, e2] at this
    omega
  have g : ∀ (h' : AH), gr h h' → ∀ (S : ST) (i : Nat), i < 6 → aIL (mk h' co S) b (nI (6 * k + i)) = some (xs (6 * k + i)) := fun h' hg S i hi => sc_get (sc_gr hs hg) hL S (by omega)
  rw [eL_law_18, sc_len hs S, aOp_s, if_neg lt, sc_get hs hL S (show 6 * k < L by omega), aOp_s, i1, i2, i3, i4, i5, i6]
  by_cases e0 : xs (6 * k) &&& 63 = 0
  · obtain ⟨v, h', S1, S2, k1, k2, k3, k4, k5, k6⟩ := k_row hJ (xs (6 * k + 1)) (xs (6 * k + 2)) (xs (6 * k + 3))
    refine ⟨h', S2, ?_, k3, k4, k5, k6⟩
    rw [if_pos e0, g h (gr_refl h) S 1 (by decide), aOp_s, g h (gr_refl h) S 2 (by decide), aOp_s, g h (gr_refl h) S 3 (by decide), aOp_s, gC_0, aOp_s, k1, aRI_mk, aOp_s, g h' k4 S1 1 (by decide), aOp_s, g h' k4 S1 2 (by decide), aOp_s, g h' k4 S1 3 (by decide), aOp_s, gC_40, aOp_s, k2, aRI_mk, aOp_s, if_pos rfl]
  rw [if_neg e0]
  by_cases e1 : xs (6 * k) &&& 63 = 1
  · obtain ⟨v, h', S1, S2, k1, k2, k3, k4, k5, k6⟩ := k_set hJ (xs (6 * k + 1)) (xs (6 * k + 2)) (xs (6 * k + 3))
    refine ⟨h', S2, ?_, k3, k4, k5, k6⟩
    rw [if_pos e1, g h (gr_refl h) S 1 (by decide), aOp_s, g h (gr_refl h) S 2 (by decide), aOp_s, g h (gr_refl h) S 3 (by decide), aOp_s, gC_0, aOp_s, k1, aRI_mk, aOp_s, g h' k4 S1 1 (by decide), aOp_s, g h' k4 S1 2 (by decide), aOp_s, g h' k4 S1 3 (by decide), aOp_s, gC_40, aOp_s, k2, aRI_mk, aOp_s, if_pos rfl]
  rw [if_neg e1]
  by_cases e2 : xs (6 * k) &&& 63 = 2
  · obtain ⟨v, h', S1, S2, k1, k2, k3, k4, k5, k6⟩ := k_copy hJ (xs (6 * k + 1)) (xs (6 * k + 2)) (xs (6 * k + 3)) (xs (6 * k + 4)) (xs (6 * k + 5))
    refine ⟨h', S2, ?_, k3, k4, k5, k6⟩
    rw [if_pos e2, g h (gr_refl h) S 1 (by decide), aOp_s, g h (gr_refl h) S 2 (by decide), aOp_s, g h (gr_refl h) S 3 (by decide), aOp_s, g h (gr_refl h) S 4 (by decide), aOp_s, g h (gr_refl h) S 5 (by decide), aOp_s, gC_0, aOp_s, k1, aRI_mk, aOp_s, g h' k4 S1 1 (by decide), aOp_s, g h' k4 S1 2 (by decide), aOp_s, g h' k4 S1 3 (by decide), aOp_s, g h' k4 S1 4 (by decide), aOp_s, g h' k4 S1 5 (by decide), aOp_s, gC_40, aOp_s, k2, aRI_mk, aOp_s, if_pos rfl]
  rw [if_neg e2]
  by_cases e3 : xs (6 * k) &&& 63 = 3
  · obtain ⟨v, h', S1, S2, k1, k2, k3, k4, k5, k6⟩ := k_drop hJ (xs (6 * k + 1))
    refine ⟨h', S2, ?_, k3, k4, k5, k6⟩
    rw [if_pos e3, g h (gr_refl h) S 1 (by decide), aOp_s, gC_0, aOp_s, k1, aRI_mk, aOp_s, g h' k4 S1 1 (by decide), aOp_s, gC_40, aOp_s, k2, aRI_mk, aOp_s, if_pos rfl]
  rw [if_neg e3]
  by_cases e4 : xs (6 * k) &&& 63 = 4
  · obtain ⟨v, h', S1, S2, k1, k2, k3, k4, k5, k6⟩ := k_feed hJ (xs (6 * k + 1))
    refine ⟨h', S2, ?_, k3, k4, k5, k6⟩
    rw [if_pos e4, g h (gr_refl h) S 1 (by decide), aOp_s, gC_0, aOp_s, k1, aRI_mk, aOp_s, g h' k4 S1 1 (by decide), aOp_s, gC_40, aOp_s, k2, aRI_mk, aOp_s, if_pos rfl]
  rw [if_neg e4]
  by_cases e5 : xs (6 * k) &&& 63 = 5
  · obtain ⟨v, h', S1, S2, k1, k2, k3, k4, k5, k6⟩ := k_post hJ 
    refine ⟨h', S2, ?_, k3, k4, k5, k6⟩
    rw [if_pos e5, gC_0, aOp_s, k1, aRI_mk, aOp_s, gC_40, aOp_s, k2, aRI_mk, aOp_s, if_pos rfl]
  rw [if_neg e5]
  by_cases e6 : xs (6 * k) &&& 63 = 6
  · obtain ⟨v, h', S1, S2, k1, k2, k3, k4, k5, k6⟩ := k_fault hJ 
    refine ⟨h', S2, ?_, k3, k4, k5, k6⟩
    rw [if_pos e6, gC_0, aOp_s, k1, aRI_mk, aOp_s, gC_40, aOp_s, k2, aRI_mk, aOp_s, if_pos rfl]
  rw [if_neg e6]
  by_cases e7 : xs (6 * k) &&& 63 = 7
  · obtain ⟨v, h', S1, S2, k1, k2, k3, k4, k5, k6⟩ := k_days hJ (xs (6 * k + 1))
    refine ⟨h', S2, ?_, k3, k4, k5, k6⟩
    rw [if_pos e7, g h (gr_refl h) S 1 (by decide), aOp_s, gC_0, aOp_s, k1, aRI_mk, aOp_s, g h' k4 S1 1 (by decide), aOp_s, gC_40, aOp_s, k2, aRI_mk, aOp_s, if_pos rfl]
  rw [if_neg e7]
  by_cases e8 : xs (6 * k) &&& 63 = 8
  · obtain ⟨v, h', S1, S2, k1, k2, k3, k4, k5, k6⟩ := k_say hJ (xs (6 * k + 1)) (xs (6 * k + 2))
    refine ⟨h', S2, ?_, k3, k4, k5, k6⟩
    rw [if_pos e8, g h (gr_refl h) S 1 (by decide), aOp_s, g h (gr_refl h) S 2 (by decide), aOp_s, gC_0, aOp_s, k1, aRI_mk, aOp_s, g h' k4 S1 1 (by decide), aOp_s, g h' k4 S1 2 (by decide), aOp_s, gC_40, aOp_s, k2, aRI_mk, aOp_s, if_pos rfl]
  rw [if_neg e8]
  by_cases e9 : xs (6 * k) &&& 63 = 9
  · obtain ⟨v, h', S1, S2, k1, k2, k3, k4, k5, k6⟩ := k_unsay hJ (xs (6 * k + 1)) (xs (6 * k + 2))
    refine ⟨h', S2, ?_, k3, k4, k5, k6⟩
    rw [if_pos e9, g h (gr_refl h) S 1 (by decide), aOp_s, g h (gr_refl h) S 2 (by decide), aOp_s, gC_0, aOp_s, k1, aRI_mk, aOp_s, g h' k4 S1 1 (by decide), aOp_s, g h' k4 S1 2 (by decide), aOp_s, gC_40, aOp_s, k2, aRI_mk, aOp_s, if_pos rfl]
  rw [if_neg e9]
  by_cases e10 : xs (6 * k) &&& 63 = 10
  · obtain ⟨v, h', S1, S2, k1, k2, k3, k4, k5, k6⟩ := k_back hJ (xs (6 * k + 1))
    refine ⟨h', S2, ?_, k3, k4, k5, k6⟩
    rw [if_pos e10, g h (gr_refl h) S 1 (by decide), aOp_s, gC_0, aOp_s, k1, aRI_mk, aOp_s, g h' k4 S1 1 (by decide), aOp_s, gC_40, aOp_s, k2, aRI_mk, aOp_s, if_pos rfl]
  rw [if_neg e10]
  by_cases e11 : xs (6 * k) &&& 63 = 11
  · obtain ⟨v, h', S1, S2, k1, k2, k3, k4, k5, k6⟩ := k_strap hJ (xs (6 * k + 1))
    refine ⟨h', S2, ?_, k3, k4, k5, k6⟩
    rw [if_pos e11, g h (gr_refl h) S 1 (by decide), aOp_s, gC_0, aOp_s, k1, aRI_mk, aOp_s, g h' k4 S1 1 (by decide), aOp_s, gC_40, aOp_s, k2, aRI_mk, aOp_s, if_pos rfl]
  rw [if_neg e11]
  by_cases e12 : xs (6 * k) &&& 63 = 12
  · obtain ⟨v, h', S1, S2, k1, k2, k3, k4, k5, k6⟩ := k_limit hJ (xs (6 * k + 1))
    refine ⟨h', S2, ?_, k3, k4, k5, k6⟩
    rw [if_pos e12, g h (gr_refl h) S 1 (by decide), aOp_s, gC_0, aOp_s, k1, aRI_mk, aOp_s, g h' k4 S1 1 (by decide), aOp_s, gC_40, aOp_s, k2, aRI_mk, aOp_s, if_pos rfl]
  rw [if_neg e12]
  by_cases e13 : xs (6 * k) &&& 63 = 13
  · obtain ⟨v, h', S1, S2, k1, k2, k3, k4, k5, k6⟩ := k_undo hJ 
    refine ⟨h', S2, ?_, k3, k4, k5, k6⟩
    rw [if_pos e13, gC_0, aOp_s, k1, aRI_mk, aOp_s, gC_40, aOp_s, k2, aRI_mk, aOp_s, if_pos rfl]
  rw [if_neg e13]
  by_cases e14 : xs (6 * k) &&& 63 = 14
  · obtain ⟨v, h', S1, S2, k1, k2, k3, k4, k5, k6⟩ := k_letter hJ (xs (6 * k + 1)) (xs (6 * k + 2))
    refine ⟨h', S2, ?_, k3, k4, k5, k6⟩
    rw [if_pos e14, g h (gr_refl h) S 1 (by decide), aOp_s, g h (gr_refl h) S 2 (by decide), aOp_s, gC_0, aOp_s, k1, aRI_mk, aOp_s, g h' k4 S1 1 (by decide), aOp_s, g h' k4 S1 2 (by decide), aOp_s, gC_40, aOp_s, k2, aRI_mk, aOp_s, if_pos rfl]
  rw [if_neg e14]
  by_cases e15 : xs (6 * k) &&& 63 = 15
  · obtain ⟨v, h', S1, S2, k1, k2, k3, k4, k5, k6⟩ := k_ounces hJ (xs (6 * k + 1))
    refine ⟨h', S2, ?_, k3, k4, k5, k6⟩
    rw [if_pos e15, g h (gr_refl h) S 1 (by decide), aOp_s, gC_0, aOp_s, k1, aRI_mk, aOp_s, g h' k4 S1 1 (by decide), aOp_s, gC_40, aOp_s, k2, aRI_mk, aOp_s, if_pos rfl]
  rw [if_neg e15]
  by_cases e16 : xs (6 * k) &&& 63 = 16
  · obtain ⟨v, h', S1, S2, k1, k2, k3, k4, k5, k6⟩ := k_ahead hJ (xs (6 * k + 1)) (xs (6 * k + 2)) (xs (6 * k + 3))
    refine ⟨h', S2, ?_, k3, k4, k5, k6⟩
    rw [if_pos e16, g h (gr_refl h) S 1 (by decide), aOp_s, g h (gr_refl h) S 2 (by decide), aOp_s, g h (gr_refl h) S 3 (by decide), aOp_s, gC_0, aOp_s, k1, aRI_mk, aOp_s, g h' k4 S1 1 (by decide), aOp_s, g h' k4 S1 2 (by decide), aOp_s, g h' k4 S1 3 (by decide), aOp_s, gC_40, aOp_s, k2, aRI_mk, aOp_s, if_pos rfl]
  rw [if_neg e16]
  by_cases e17 : xs (6 * k) &&& 63 = 17
  · obtain ⟨v, h', S1, S2, k1, k2, k3, k4, k5, k6⟩ := k_later hJ (xs (6 * k + 1)) (xs (6 * k + 2))
    refine ⟨h', S2, ?_, k3, k4, k5, k6⟩
    rw [if_pos e17, g h (gr_refl h) S 1 (by decide), aOp_s, g h (gr_refl h) S 2 (by decide), aOp_s, gC_0, aOp_s, k1, aRI_mk, aOp_s, g h' k4 S1 1 (by decide), aOp_s, g h' k4 S1 2 (by decide), aOp_s, gC_40, aOp_s, k2, aRI_mk, aOp_s, if_pos rfl]
  rw [if_neg e17]
  by_cases e18 : xs (6 * k) &&& 63 = 18
  · obtain ⟨v, h', S1, S2, k1, k2, k3, k4, k5, k6⟩ := k_when hJ (xs (6 * k + 1))
    refine ⟨h', S2, ?_, k3, k4, k5, k6⟩
    rw [if_pos e18, g h (gr_refl h) S 1 (by decide), aOp_s, gC_0, aOp_s, k1, aRI_mk, aOp_s, g h' k4 S1 1 (by decide), aOp_s, gC_40, aOp_s, k2, aRI_mk, aOp_s, eL_law_726, if_pos rfl, i6]
  rw [if_neg e18]
  by_cases e19 : xs (6 * k) &&& 63 = 19
  · obtain ⟨v, h', S1, S2, k1, k2, k3, k4, k5, k6⟩ := k_lighten hJ (xs (6 * k + 1)) (xs (6 * k + 2)) (xs (6 * k + 3))
    refine ⟨h', S2, ?_, k3, k4, k5, k6⟩
    rw [if_pos e19, g h (gr_refl h) S 1 (by decide), aOp_s, g h (gr_refl h) S 2 (by decide), aOp_s, g h (gr_refl h) S 3 (by decide), aOp_s, gC_0, aOp_s, k1, aRI_mk, aOp_s, g h' k4 S1 1 (by decide), aOp_s, g h' k4 S1 2 (by decide), aOp_s, g h' k4 S1 3 (by decide), aOp_s, gC_40, aOp_s, k2, aRI_mk, aOp_s, eL_law_769, if_pos rfl, i6]
  rw [if_neg e19]
  by_cases e20 : xs (6 * k) &&& 63 = 20
  · obtain ⟨v, h', S1, S2, k1, k2, k3, k4, k5, k6⟩ := k_guess hJ (xs (6 * k + 1)) (xs (6 * k + 2))
    refine ⟨h', S2, ?_, k3, k4, k5, k6⟩
    rw [if_pos e20, g h (gr_refl h) S 1 (by decide), aOp_s, g h (gr_refl h) S 2 (by decide), aOp_s, gC_0, aOp_s, k1, aRI_mk, aOp_s, g h' k4 S1 1 (by decide), aOp_s, g h' k4 S1 2 (by decide), aOp_s, gC_40, aOp_s, k2, aRI_mk, aOp_s, eL_law_802, if_pos rfl, i6]
  rw [if_neg e20]
  by_cases e21 : xs (6 * k) &&& 63 = 21
  · obtain ⟨v, h', S1, S2, k1, k2, k3, k4, k5, k6⟩ := k_load hJ (xs (6 * k + 1)) (xs (6 * k + 2))
    refine ⟨h', S2, ?_, k3, k4, k5, k6⟩
    rw [if_pos e21, g h (gr_refl h) S 1 (by decide), aOp_s, g h (gr_refl h) S 2 (by decide), aOp_s, gC_0, aOp_s, k1, aRI_mk, aOp_s, g h' k4 S1 1 (by decide), aOp_s, g h' k4 S1 2 (by decide), aOp_s, gC_40, aOp_s, k2, aRI_mk, aOp_s, eL_law_835, if_pos rfl, i6]
  rw [if_neg e21]
  by_cases e22 : xs (6 * k) &&& 63 = 22
  · obtain ⟨v, h', S1, S2, k1, k2, k3, k4, k5, k6⟩ := k_share hJ (xs (6 * k + 1)) (xs (6 * k + 2))
    refine ⟨h', S2, ?_, k3, k4, k5, k6⟩
    rw [if_pos e22, g h (gr_refl h) S 1 (by decide), aOp_s, g h (gr_refl h) S 2 (by decide), aOp_s, gC_0, aOp_s, k1, aRI_mk, aOp_s, g h' k4 S1 1 (by decide), aOp_s, g h' k4 S1 2 (by decide), aOp_s, gC_40, aOp_s, k2, aRI_mk, aOp_s, eL_law_868, if_pos rfl, i6]
  rw [if_neg e22]
  by_cases e23 : xs (6 * k) &&& 63 = 23
  · obtain ⟨v, h', S1, S2, k1, k2, k3, k4, k5, k6⟩ := k_fits hJ (xs (6 * k + 1)) (xs (6 * k + 2)) (xs (6 * k + 3)) (xs (6 * k + 4)) (xs (6 * k + 5))
    refine ⟨h', S2, ?_, k3, k4, k5, k6⟩
    rw [if_pos e23, g h (gr_refl h) S 1 (by decide), aOp_s, g h (gr_refl h) S 2 (by decide), aOp_s, g h (gr_refl h) S 3 (by decide), aOp_s, g h (gr_refl h) S 4 (by decide), aOp_s, g h (gr_refl h) S 5 (by decide), aOp_s, gC_0, aOp_s, k1, aRI_mk, aOp_s, g h' k4 S1 1 (by decide), aOp_s, g h' k4 S1 2 (by decide), aOp_s, g h' k4 S1 3 (by decide), aOp_s, g h' k4 S1 4 (by decide), aOp_s, g h' k4 S1 5 (by decide), aOp_s, gC_40, aOp_s, k2, aRI_mk, aOp_s, eL_law_931, if_pos rfl, i6]
  rw [if_neg e23]
  by_cases e24 : xs (6 * k) &&& 63 = 24
  · obtain ⟨v, h', S1, S2, k1, k2, k3, k4, k5, k6⟩ := k_slips hJ (xs (6 * k + 1)) (xs (6 * k + 2)) (xs (6 * k + 3)) (xs (6 * k + 4)) (xs (6 * k + 5))
    refine ⟨h', S2, ?_, k3, k4, k5, k6⟩
    rw [if_pos e24, g h (gr_refl h) S 1 (by decide), aOp_s, g h (gr_refl h) S 2 (by decide), aOp_s, g h (gr_refl h) S 3 (by decide), aOp_s, g h (gr_refl h) S 4 (by decide), aOp_s, g h (gr_refl h) S 5 (by decide), aOp_s, gC_0, aOp_s, k1, aRI_mk, aOp_s, g h' k4 S1 1 (by decide), aOp_s, g h' k4 S1 2 (by decide), aOp_s, g h' k4 S1 3 (by decide), aOp_s, g h' k4 S1 4 (by decide), aOp_s, g h' k4 S1 5 (by decide), aOp_s, gC_40, aOp_s, k2, aRI_mk, aOp_s, eL_law_994, if_pos rfl, i6]
  rw [if_neg e24]
  by_cases e25 : xs (6 * k) &&& 63 = 25
  · obtain ⟨v, h', S1, S2, k1, k2, k3, k4, k5, k6⟩ := k_drawn hJ hN (xs (6 * k + 1)) (xs (6 * k + 2)) (xs (6 * k + 3))
    refine ⟨h', S2, ?_, k3, k4, k5, k6⟩
    rw [if_pos e25, g h (gr_refl h) S 1 (by decide), aOp_s, g h (gr_refl h) S 2 (by decide), aOp_s, g h (gr_refl h) S 3 (by decide), aOp_s, gC_0, aOp_s, k1, aRI_mk, aOp_s, g h' k4 S1 1 (by decide), aOp_s, g h' k4 S1 2 (by decide), aOp_s, g h' k4 S1 3 (by decide), aOp_s, gC_40, aOp_s, k2, aRI_mk, aOp_s, eL_law_1037, if_pos rfl, i6]
  rw [if_neg e25]
  by_cases e26 : xs (6 * k) &&& 63 = 26
  · obtain ⟨v, h', S1, S2, k1, k2, k3, k4, k5, k6⟩ := k_image hJ (xs (6 * k + 1))
    refine ⟨h', S2, ?_, k3, k4, k5, k6⟩
    rw [if_pos e26, g h (gr_refl h) S 1 (by decide), aOp_s, gC_0, aOp_s, k1, aRI_mk, aOp_s, g h' k4 S1 1 (by decide), aOp_s, gC_40, aOp_s, k2, aRI_mk, aOp_s, eL_law_1060, if_pos rfl, i6]
  rw [if_neg e26]
  by_cases e27 : xs (6 * k) &&& 63 = 27
  · obtain ⟨v, h', S1, S2, k1, k2, k3, k4, k5, k6⟩ := k_restore hJ (xs (6 * k + 1))
    refine ⟨h', S2, ?_, k3, k4, k5, k6⟩
    rw [if_pos e27, g h (gr_refl h) S 1 (by decide), aOp_s, gC_0, aOp_s, k1, aRI_mk, aOp_s, g h' k4 S1 1 (by decide), aOp_s, gC_40, aOp_s, k2, aRI_mk, aOp_s, eL_law_1083, if_pos rfl, i6]
  rw [if_neg e27]
  by_cases e28 : xs (6 * k) &&& 63 = 28
  · obtain ⟨v, h', S1, S2, k1, k2, k3, k4, k5, k6⟩ := k_kind hJ (xs (6 * k + 1))
    refine ⟨h', S2, ?_, k3, k4, k5, k6⟩
    rw [if_pos e28, g h (gr_refl h) S 1 (by decide), aOp_s, gC_0, aOp_s, k1, aRI_mk, aOp_s, g h' k4 S1 1 (by decide), aOp_s, gC_40, aOp_s, k2, aRI_mk, aOp_s, eL_law_1106, if_pos rfl, i6]
  rw [if_neg e28]
  by_cases e29 : xs (6 * k) &&& 63 = 29
  · obtain ⟨v, h', S1, S2, k1, k2, k3, k4, k5, k6⟩ := k_as hJ (xs (6 * k + 1)) (xs (6 * k + 2))
    refine ⟨h', S2, ?_, k3, k4, k5, k6⟩
    rw [if_pos e29, g h (gr_refl h) S 1 (by decide), aOp_s, g h (gr_refl h) S 2 (by decide), aOp_s, gC_0, aOp_s, k1, aRI_mk, aOp_s, g h' k4 S1 1 (by decide), aOp_s, g h' k4 S1 2 (by decide), aOp_s, gC_40, aOp_s, k2, aRI_mk, aOp_s, eL_law_1139, if_pos rfl, i6]
  rw [if_neg e29]
  by_cases e30 : xs (6 * k) &&& 63 = 30
  · obtain ⟨v, h', S1, S2, k1, k2, k3, k4, k5, k6⟩ := k_ask hJ (xs (6 * k + 1)) (xs (6 * k + 2))
    refine ⟨h', S2, ?_, k3, k4, k5, k6⟩
    rw [if_pos e30, g h (gr_refl h) S 1 (by decide), aOp_s, g h (gr_refl h) S 2 (by decide), aOp_s, gC_0, aOp_s, k1, aRI_mk, aOp_s, g h' k4 S1 1 (by decide), aOp_s, g h' k4 S1 2 (by decide), aOp_s, gC_40, aOp_s, k2, aRI_mk, aOp_s, eL_law_1172, if_pos rfl, i6]
  rw [if_neg e30]
  by_cases e31 : xs (6 * k) &&& 63 = 31
  · obtain ⟨v, h', S1, S2, k1, k2, k3, k4, k5, k6⟩ := k_trace hJ (xs (6 * k + 1))
    refine ⟨h', S2, ?_, k3, k4, k5, k6⟩
    rw [if_pos e31, g h (gr_refl h) S 1 (by decide), aOp_s, gC_0, aOp_s, k1, aRI_mk, aOp_s, g h' k4 S1 1 (by decide), aOp_s, gC_40, aOp_s, k2, aRI_mk, aOp_s, eL_law_1195, if_pos rfl, i6]
  rw [if_neg e31]
  by_cases e32 : xs (6 * k) &&& 63 = 32
  · obtain ⟨v, h', S1, S2, k1, k2, k3, k4, k5, k6⟩ := k_count hJ (xs (6 * k + 1))
    refine ⟨h', S2, ?_, k3, k4, k5, k6⟩
    rw [if_pos e32, g h (gr_refl h) S 1 (by decide), aOp_s, gC_0, aOp_s, k1, aRI_mk, aOp_s, g h' k4 S1 1 (by decide), aOp_s, gC_40, aOp_s, k2, aRI_mk, aOp_s, eL_law_1218, if_pos rfl, i6]
  rw [if_neg e32]
  by_cases e33 : xs (6 * k) &&& 63 = 33
  · obtain ⟨v, h', S1, S2, k1, k2, k3, k4, k5, k6⟩ := k_status hJ 
    refine ⟨h', S2, ?_, k3, k4, k5, k6⟩
    rw [if_pos e33, gC_0, aOp_s, k1, aRI_mk, aOp_s, gC_40, aOp_s, k2, aRI_mk, aOp_s, eL_law_1231, if_pos rfl, i6]
  rw [if_neg e33]
  exact ⟨h, S, rfl, JJ_mono hJ, gr_refl h, by omega, by omega⟩
theorem law_loop {sa : Nat → Nat} {co b L X Y : Nat} {xs : Nat → Int32} (hL : L ≤ 3072) : ∀ m k h S, k + m = L / 6 → JJ sa h co k S → sc h co b L xs → h.1 ≤ X + 4 * k → h.2.1 ≤ Y + 196 * k → ∃ g : AH, AMV sa 20 188 18 [.ref b, .ref co, .ref (co + 40), .int (nI (6 * k))] [] (mk h co S) = some (some (.int 1), g) ∧ g.1 ≤ X + 4 * (L / 6) ∧ g.2.1 ≤ Y + 196 * (L / 6) := by
  intro m
  induction m with
  | zero =>
    intro k h S hk hJ hs h1 h2
    have hk : k = L / 6 := hk
    refine ⟨mk h co S, ?_, by show h.1 ≤ _; omega, by show h.2.1 ≤ _; omega⟩
    have e : (nI L - 6).toInt = (L : Int) - 6 := pk_sub_toInt (a := L) (b := 6) (by omega) (by decide)
    have e2 : (nI (6 * k)).toInt = ((6 * k : Nat) : Int) := nI_toInt (by omega)
    rw [eL_law_18, sc_len hs S, aOp_s, if_pos (Int32.lt_iff_toInt_lt.mpr (by rw [e, e2]; omega))]
  | succ m ih =>
    intro k h S hk hJ hs h1 h2
    obtain ⟨h', S', e, j, g, a1, a2⟩ := law_step (k := k) hJ (by omega) hs hL (by omega)
    rw [e]
    exact ih (k + 1) h' S' (by omega) j (sc_gr hs g) (by omega) (by omega)
