/-! ===== calls: acts ===== -/
def pA (a : Nat) : Prop := a < 17 ∨ (21 ≤ a ∧ a < 30) ∨ 32 ≤ a
theorem nt_1 (S : ST) (n : Nat) {b : Nat} (hb : b ≠ 17) : (nt S n).1 40 b = S.1 40 b := by
  unfold nt
  rw [sI_ne _ _ (by omega)]
  rfl
theorem sA_fr {lo hi : Nat} {S S' : ST} (h : fr lo hi S S') (hd : (17 ≤ lo ∧ hi ≤ 21) ∨ (30 ≤ lo ∧ hi ≤ 32)) : sm pA S S' := sm_fr h (fun a ha => by unfold pA at ha; omega)
theorem JO_A {h : AH} {co : Nat} {S S' : ST} {I : Nat → PS} {ln sz : Nat → Nat} {it : Nat → Nat → Int32} {T : Nat → Nat} {len : Nat} {st ft : Int32} {tr : Nat → Int32} {tn : Nat} (hJ : JO h co S I ln sz it T len st ft tr tn) (hf : sm pA S S') : JO h co S' I ln sz it T len st ft tr tn := JO_sm hJ (sm_mono hf (fun a ha => by unfold pO at ha; unfold pA; omega))
theorem JM_A {P : PS} {A : Nat → PS} {n : Nat} {I : Nat → PS} {ln sz : Nat → Nat} {it : Nat → Nat → Int32} {T : Nat → Nat} {len : Nat} {st ft : Int32} {tr : Nat → Int32} {tn : Nat} {S S' : ST} (hJ : JM S P A n I ln sz it T len st ft tr tn) (hf : sm pA S S') : JM S' P A n I ln sz it T len st ft tr tn := JM_sm hJ (sm_mono hf (fun a ha => by unfold pM at ha; unfold pA; omega))
theorem ok_act {sa : Nat → Nat} {h : AH} {co N : Nat} {S S1 : ST} {P : PS} {A : Nat → PS} {n : Nat} {I : Nat → PS} {ln sz : Nat → Nat} {it : Nat → Nat → Int32} {T : Nat → Nat} {len : Nat} {st ft : Int32} {tr : Nat → Int32} {tn : Nat} (h1 : cE h co S 17 P ∧ cA S P A n) (h2 : JO h co S I ln sz it T len st ft tr tn) (h3 : JM S P A n I ln sz it T len st ft tr tn) (h4 : JG P A n I N) (h5 : sT sa h co) (h6 : co + 53 ≤ h.1) {jc : Nat} {as : List Value} {jm : Nat} {bs : List Value} {v : Int32} {P' : PS} (e1 : AMC sa 20 jc as (mk h co S) = some (some (.int v), mk h co S1)) (k1 : cE h co S1 17 P') (k2 : cA S1 P (ntP A n P) (ntA n + 1)) (f1 : sm pA S S1) (e2 : AMC sa 20 jm bs (mk h co S1) = some (some (.int v), mk h co (sM (nt S1 n) 46 P'))) (hg : gA P P') (hd : gd (N + 1) P') : OK2 sa h co N S jc as jm bs := by
  obtain ⟨q1, q2, q3, q4, q5, q6, q7, q8⟩ := JM_A h3 f1
  have hn : n ≤ 24 := q2.2.1
  refine ok_mk e1 e2 k1 (cA_3 k2 hg.2.1) (JO_A h2 f1) ⟨pE_sM (Or.inl rfl) P', aP_sM46 (aP_nt q2 q1) P', q3, q4, ⟨(nt_1 S1 n (by decide)).trans q5.1, q5.2.1, q5.2.2⟩, (nt_1 S1 n (by decide)).trans q6, (nt_1 S1 n (by decide)).trans q7, ⟨(nt_1 S1 n (by decide)).trans q8.1, q8.2.1, q8.2.2⟩⟩ (sL_fr (fr_M (fr_nt S1 n) (by decide) (by decide) P') (by decide)) (JG_act (JG_mono h4 (by omega)) hn hg hd) h5 h6
theorem k_say {sa : Nat → Nat} {h : AH} {co N : Nat} {S : ST} (hJ : JJ sa h co N S) (x y : Int32) : OK2 sa h co N S 73 [.ref co, .int x, .int y] 147 [.ref (co + 40), .int x, .int y] := by
  obtain ⟨P, A, n, I, ln, sz, it, T, len, st, ft, tr, tn, h1, h2, h3, h4, h5, h6⟩ := id hJ
  obtain ⟨hB, hK, h9, hp⟩ := id h4.1
  have h7 := hB.2.1
  have h6' := hB.1
  cases hb : iL x (P 3) && iL y (P 2) with
  | false =>
    refine ok_same hJ ?_ (m_say_bad sa 15 h co h3.1 x y hb)
    show AMC sa (19 + 1) 73 _ _ = _
    rw [fX7_say, eX7_say_0, gC_0, aOp_s, c_hasNo sa 17 h1.1, aRI_mk, aOp_s]
    cases hx : iL x (P 3) with
    | false => exact if_neg nb_f
    | true =>
      rw [hx, Bool.true_and] at hb
      rw [if_pos nb_t, gC_0, aOp_s, c_hasNoWord sa 17 h1.1 hB, aRI_mk, aOp_s, hb]
      exact if_neg nb_f
  | true =>
    rw [Bool.and_eq_true] at hb
    obtain ⟨l, hl, rfl⟩ := iL_of (by omega) hb.1
    obtain ⟨k, hk, rfl⟩ := iL_of (by omega) hb.2
    have hu := pU_lt hB (l := l) (by omega)
    have nb := n_bit0 (pU P l) (by omega) k (by omega)
    have pre : ∀ R, (if (nI (pU P l) >>> (nI k &&& 31)) &&& 1 = 0 then some (some (Value.int (-1000002)), mk h co S) else aOp (aFR (mk h co S) co 7 5) fun v5 => aOp (aFR (mk h co S) co 7 3) fun v6 => aOp (aCl (mk h co S) v5 0) fun _ => aOp (aRV (AMC sa 19 2 [.ref v5, .ref v6] (mk h co S))) fun h7 => aOp (aFR h7 co 7 3) fun v8 => aOp (aFR h7 v8 2 2) fun v9 => aOp (aIL h7 v9 (nI l)) fun v10 => aOp (aIS h7 v9 (nI l) (v10 ||| (1 <<< (nI k &&& 31)))) fun h11 => aOp (aFR h11 co 7 3) fun v12 => aOp (aCl h11 v12 2) fun _ => aOp (aRI (AMC sa 19 16 [.ref v12, .int (nI l)] h11)) fun z13 => some (some (Value.int z13.1), z13.2)) = R → AMC sa 20 73 [.ref co, .int (nI l), .int (nI k)] (mk h co S) = R := by
      intro R hR
      show AMC sa (19 + 1) 73 _ _ = _
      rw [fX7_say, eX7_say_0, gC_0, aOp_s, c_hasNo sa 17 h1.1, aRI_mk, aOp_s, hb.1, if_pos nb_t, gC_0, aOp_s, c_hasNoWord sa 17 h1.1 hB, aRI_mk, aOp_s, hb.2, if_pos nb_t, gR_0_3, aOp_s, gC_17, aOp_s, c_unsaid sa 18 h1.1 hB hl, aRI_mk, aOp_s]
      exact hR
    cases ht : (pU P l).testBit k with
    | false => exact ok_same hJ (pre _ (if_pos (nb.mpr ht))) (m_say_state sa 15 h co h3.1 hB hl hk ht)
    | true =>
      obtain ⟨S1, a1, a2, a3⟩ := c_keep sa 18 h1.1 hB h1.2
      have hE1 : cE h co S1 17 P := cE_fr h1.1 a3 (by decide)
      have b4 := hB.2.2.2.1 l (by omega)
      have h2k := n_pow64 k (by omega)
      have hor := n_or64 _ b4.2.2.1 _ h2k
      obtain ⟨j1, j2, j3⟩ := hE1.2.2.2.2.2.2.2.2 l hl
      have hE2 := cE_said hE1 hB l (P (14 + 4 * l) ||| 2 ^ k)
      have hB2 : pB (pUp P (14 + 4 * l) (P (14 + 4 * l) ||| 2 ^ k)) := pB_said hB l hor
      have hK2 : pK (pUp P (14 + 4 * l) (P (14 + 4 * l) ||| 2 ^ k)) := pK_up hK _ ⟨by omega, by omega, fun i _ => by omega⟩ h7
      have f2 : sm pA S (sA S1 (17 + 3) (upd (S1.2.2 (17 + 3)) l (nI (P (14 + 4 * l) ||| 2 ^ k)))) := sm_trans (sA_fr a3 (by decide)) (sA_fr (fr_A (fr_refl 17 21 S1) (by decide) (by decide) _) (by decide))
      refine ok_act h1 h2 h3 h4 h5 h6 (pre _ ?_) hE2 (cA_fr a2 (fr_A (fr_refl 17 21 S1) (c := 17 + 3) (by decide) (by decide) _) (by decide)) f2 (m_say_ok sa 15 h co (JM_A h3 f2).1 hB (JM_A h3 f2).2.1 hl hk ht) (gA_up P _ (Or.inr (Or.inr (Or.inr (Or.inr ⟨l, by omega, Or.inl rfl⟩))))) ⟨hB2, hK2, by rw [pUp_ne _ _ (by omega)]; exact h9, pay_mono (pay_up hp _ (by omega) (fun i _ => by omega)) (by omega)⟩
      rw [if_neg (fun z => by rw [nb.mp z] at ht; cases ht), gR_0_5, aOp_s, gR_0_3, aOp_s, gC_30, aOp_s, a1, aRV_mk, aOp_s, gR_0_3, aOp_s, gR_17_2, aOp_s, show aIL (mk h co S1) (co + 20) (nI l) = some (S1.2.2 (17 + 3) l) from qL hE1.1 h co S1 (j := 3) (by decide) (by decide) (by omega), aOp_s, j3, n_shl1 k (by omega), n_or _ (by omega) _ (by omega), show aIS (mk h co S1) (co + 20) (nI l) (nI (P (14 + 4 * l) ||| 2 ^ k)) = some (mk h co (sA S1 (17 + 3) (upd (S1.2.2 (17 + 3)) l (nI (P (14 + 4 * l) ||| 2 ^ k))))) from qS hE1.1 h co S1 (j := 3) (by decide) (by decide) (by omega) _, aOp_s, gR_0_3, aOp_s, gC_17, aOp_s, c_weight sa 17 hE2 hB2 hK2 (by rw [pUp_ne _ _ (by omega)]; exact hl), aRI_mk, aOp_s]
theorem k_unsay {sa : Nat → Nat} {h : AH} {co N : Nat} {S : ST} (hJ : JJ sa h co N S) (x y : Int32) : OK2 sa h co N S 74 [.ref co, .int x, .int y] 148 [.ref (co + 40), .int x, .int y] := by
  obtain ⟨P, A, n, I, ln, sz, it, T, len, st, ft, tr, tn, h1, h2, h3, h4, h5, h6⟩ := id hJ
  obtain ⟨hB, hK, h9, hp⟩ := id h4.1
  have h7 := hB.2.1
  have h6' := hB.1
  cases hb : iL x (P 3) && iL y (P 2) with
  | false =>
    refine ok_same hJ ?_ (m_unsay_bad sa 15 h co h3.1 x y hb)
    show AMC sa (19 + 1) 74 _ _ = _
    rw [fX7_unsay, eX7_unsay_0, gC_0, aOp_s, c_hasNo sa 17 h1.1, aRI_mk, aOp_s]
    cases hx : iL x (P 3) with
    | false => exact if_neg nb_f
    | true =>
      rw [hx, Bool.true_and] at hb
      rw [if_pos nb_t, gC_0, aOp_s, c_hasNoWord sa 17 h1.1 hB, aRI_mk, aOp_s, hb]
      exact if_neg nb_f
  | true =>
    rw [Bool.and_eq_true] at hb
    obtain ⟨l, hl, rfl⟩ := iL_of (by omega) hb.1
    obtain ⟨k, hk, rfl⟩ := iL_of (by omega) hb.2
    have b4 := hB.2.2.2.1 l (by omega)
    have nb := n_bit0 (P (14 + 4 * l)) (by omega) k (by omega)
    obtain ⟨i1, i2, i3⟩ := h1.1.2.2.2.2.2.2.2.2 l hl
    have pre : ∀ R, (if (nI (P (14 + 4 * l)) >>> (nI k &&& 31)) &&& 1 = 0 then some (some (Value.int (-1000002)), mk h co S) else aOp (aFR (mk h co S) co 7 5) fun v6 => aOp (aFR (mk h co S) co 7 3) fun v7 => aOp (aCl (mk h co S) v6 0) fun _ => aOp (aRV (AMC sa 19 2 [.ref v6, .ref v7] (mk h co S))) fun h8 => aOp (aFR h8 co 7 3) fun v9 => aOp (aFR h8 v9 2 2) fun v10 => aOp (aIL h8 v10 (nI l)) fun v11 => aOp (aIS h8 v10 (nI l) (v11 &&& ((1 <<< (nI k &&& 31)) ^^^ (-1)))) fun h12 => aOp (aFR h12 co 7 3) fun v13 => aOp (aCl h12 v13 2) fun _ => aOp (aRI (AMC sa 19 16 [.ref v13, .int (nI l)] h12)) fun z14 => some (some (Value.int z14.1), z14.2)) = R → AMC sa 20 74 [.ref co, .int (nI l), .int (nI k)] (mk h co S) = R := by
      intro R hR
      show AMC sa (19 + 1) 74 _ _ = _
      rw [fX7_unsay, eX7_unsay_0, gC_0, aOp_s, c_hasNo sa 17 h1.1, aRI_mk, aOp_s, hb.1, if_pos nb_t, gC_0, aOp_s, c_hasNoWord sa 17 h1.1 hB, aRI_mk, aOp_s, hb.2, if_pos nb_t, gR_0_3, aOp_s, gR_17_2, aOp_s, show aIL (mk h co S) (co + 20) (nI l) = some (S.2.2 (17 + 3) l) from qL h1.1.1 h co S (j := 3) (by decide) (by decide) (by omega), aOp_s, i3]
      simp only [gR_0_3] at hR
      exact hR
    cases ht : (P (14 + 4 * l)).testBit k with
    | false => exact ok_same hJ (pre _ (if_pos (nb.mpr ht))) (m_unsay_state sa 15 h co h3.1 hB hl hk ht)
    | true =>
      obtain ⟨S1, a1, a2, a3⟩ := c_keep sa 18 h1.1 hB h1.2
      have hE1 : cE h co S1 17 P := cE_fr h1.1 a3 (by decide)
      have h2k := n_pow64 k (by omega)
      have hor := (n_lt64 _ b4.2.2.1 _ h2k).2.2
      obtain ⟨j1, j2, j3⟩ := hE1.2.2.2.2.2.2.2.2 l hl
      have hE2 := cE_said hE1 hB l (P (14 + 4 * l) &&& (63 ^^^ 2 ^ k))
      have hB2 : pB (pUp P (14 + 4 * l) (P (14 + 4 * l) &&& (63 ^^^ 2 ^ k))) := pB_said hB l hor
      have hK2 : pK (pUp P (14 + 4 * l) (P (14 + 4 * l) &&& (63 ^^^ 2 ^ k))) := pK_up hK _ ⟨by omega, by omega, fun i _ => by omega⟩ h7
      have f2 : sm pA S (sA S1 (17 + 3) (upd (S1.2.2 (17 + 3)) l (nI (P (14 + 4 * l) &&& (63 ^^^ 2 ^ k))))) := sm_trans (sA_fr a3 (by decide)) (sA_fr (fr_A (fr_refl 17 21 S1) (by decide) (by decide) _) (by decide))
      refine ok_act h1 h2 h3 h4 h5 h6 (pre _ ?_) hE2 (cA_fr a2 (fr_A (fr_refl 17 21 S1) (c := 17 + 3) (by decide) (by decide) _) (by decide)) f2 (m_unsay_ok sa 15 h co (JM_A h3 f2).1 hB (JM_A h3 f2).2.1 hl hk ht) (gA_up P _ (Or.inr (Or.inr (Or.inr (Or.inr ⟨l, by omega, Or.inl rfl⟩))))) ⟨hB2, hK2, by rw [pUp_ne _ _ (by omega)]; exact h9, pay_mono (pay_up hp _ (by omega) (fun i _ => by omega)) (by omega)⟩
      rw [if_neg (fun z => by rw [nb.mp z] at ht; cases ht), gR_0_5, aOp_s, gR_0_3, aOp_s, gC_30, aOp_s, a1, aRV_mk, aOp_s, gR_0_3, aOp_s, gR_17_2, aOp_s, show aIL (mk h co S1) (co + 20) (nI l) = some (S1.2.2 (17 + 3) l) from qL hE1.1 h co S1 (j := 3) (by decide) (by decide) (by omega), aOp_s, j3, n_shl1 k (by omega), n_andn _ b4.2.2.1 _ h2k, show aIS (mk h co S1) (co + 20) (nI l) (nI (P (14 + 4 * l) &&& (63 ^^^ 2 ^ k))) = some (mk h co (sA S1 (17 + 3) (upd (S1.2.2 (17 + 3)) l (nI (P (14 + 4 * l) &&& (63 ^^^ 2 ^ k)))))) from qS hE1.1 h co S1 (j := 3) (by decide) (by decide) (by omega) _, aOp_s, gR_0_3, aOp_s, gC_17, aOp_s, c_weight sa 17 hE2 hB2 hK2 (by rw [pUp_ne _ _ (by omega)]; exact hl), aRI_mk, aOp_s]
theorem k_back {sa : Nat → Nat} {h : AH} {co N : Nat} {S : ST} (hJ : JJ sa h co N S) (x : Int32) : OK2 sa h co N S 75 [.ref co, .int x] 149 [.ref (co + 40), .int x] := by
  obtain ⟨P, A, n, I, ln, sz, it, T, len, st, ft, tr, tn, h1, h2, h3, h4, h5, h6⟩ := id hJ
  obtain ⟨hB, hK, h9, hp⟩ := id h4.1
  have h7 := hB.2.1
  cases hb : iL x (P 3) with
  | false =>
    refine ok_same hJ ?_ (m_back_bad sa 15 h co h3.1 x hb)
    show AMC sa (19 + 1) 75 _ _ = _
    rw [fX7_back, eX7_back_0, gC_0, aOp_s, c_hasNo sa 17 h1.1, aRI_mk, aOp_s, hb]
    exact if_neg nb_f
  | true =>
    obtain ⟨l, hl, rfl⟩ := iL_of (by omega) hb
    have hv := (hB.2.2.2.1 l (by omega)).2.2.2
    by_cases hz : P (15 + 4 * l) = 0
    · refine ok_same hJ ?_ (m_back_state sa 15 h co h3.1 hB hl hz)
      show AMC sa (19 + 1) 75 _ _ = _
      rw [fX7_back, eX7_back_0, gC_0, aOp_s, c_hasNo sa 17 h1.1, aRI_mk, aOp_s, hb, if_pos nb_t, gR_0_3, aOp_s, gC_17, aOp_s, c_waits sa 18 h1.1 hB hl, aRI_mk, aOp_s, decide_eq_true hz, if_neg bvn]
    · obtain ⟨S1, a1, a2, a3⟩ := c_keep sa 18 h1.1 hB h1.2
      have hE1 : cE h co S1 17 P := cE_fr h1.1 a3 (by decide)
      obtain ⟨S2, b1, b2, b3⟩ := c_takeReturned sa 18 hE1 hB hl
      have hB2 : pB (pUp P (15 + 4 * l) 0) := pB_sent hB l (by decide)
      have hK2 : pK (pUp P (15 + 4 * l) 0) := pK_up hK _ ⟨by omega, by omega, fun i _ => by omega⟩ h7
      have f2 : sm pA S S2 := sm_trans (sA_fr a3 (by decide)) (sA_fr b3 (by decide))
      refine ok_act h1 h2 h3 h4 h5 h6 ?_ b2 (cA_fr a2 b3 (by decide)) f2 (m_back_ok sa 15 h co (JM_A h3 f2).1 hB (JM_A h3 f2).2.1 hl (by omega)) (gA_up P _ (Or.inr (Or.inr (Or.inr (Or.inr ⟨l, by omega, Or.inr rfl⟩))))) ⟨hB2, hK2, by rw [pUp_ne _ _ (by omega)]; exact h9, pay_off hp l⟩
      show AMC sa (19 + 1) 75 _ _ = _
      rw [fX7_back, eX7_back_0, gC_0, aOp_s, c_hasNo sa 17 h1.1, aRI_mk, aOp_s, hb, if_pos nb_t, gR_0_3, aOp_s, gC_17, aOp_s, c_waits sa 18 h1.1 hB hl, aRI_mk, aOp_s, decide_eq_false hz, if_pos bvf, gR_0_5, aOp_s, gR_0_3, aOp_s, gC_30, aOp_s, a1, aRV_mk, aOp_s, gR_0_3, aOp_s, gC_17, aOp_s, b1, aRV_mk, aOp_s, gR_0_3, aOp_s, gC_17, aOp_s, c_weight sa 17 b2 hB2 hK2 (by rw [pUp_ne _ _ (by omega)]; exact hl), aRI_mk, aOp_s]
theorem k_strap {sa : Nat → Nat} {h : AH} {co N : Nat} {S : ST} (hJ : JJ sa h co N S) (x : Int32) : OK2 sa h co N S 76 [.ref co, .int x] 151 [.ref (co + 40), .int x] := by
  obtain ⟨P, A, n, I, ln, sz, it, T, len, st, ft, tr, tn, h1, h2, h3, h4, h5, h6⟩ := id hJ
  obtain ⟨hB, hK, h9, hp⟩ := id h4.1
  have h7 := hB.2.1
  by_cases hz : P 3 = 0
  · refine ok_same hJ ?_ (m_strap_no sa 15 h co h3.1 hB x hz)
    show AMC sa (19 + 1) 76 _ _ = _
    rw [fX7_strap, eX7_strap_0, gC_0, aOp_s, c_hasNoPost sa 18 h1.1 hB, aRI_mk, aOp_s, decide_eq_true hz, if_neg bvn]
  · cases hb : iL x 100 with
    | false =>
      refine ok_same hJ ?_ (m_strap_bad sa 15 h co h3.1 hB x (by omega) hb)
      show AMC sa (19 + 1) 76 _ _ = _
      rw [fX7_strap, eX7_strap_0, gC_0, aOp_s, c_hasNoPost sa 18 h1.1 hB, aRI_mk, aOp_s, decide_eq_false hz, if_pos bvf, c_out sa 18, aRI_mk, aOp_s, show iB x 0 99 = iL x 100 from rfl, hb]
      exact if_neg nb_f
    | true =>
      obtain ⟨v, hv, rfl⟩ := iL_of (by decide) hb
      obtain ⟨S1, a1, a2, a3⟩ := c_keep sa 18 h1.1 hB h1.2
      have hE1 : cE h co S1 17 P := cE_fr h1.1 a3 (by decide)
      have hE2 : cE h co (sI S1 17 6 (nI v)) 17 (pUp P 0 v) := cE_num hE1 hB (by omega) v
      have f3 : fr 17 21 S1 (sI S1 17 6 (nI v)) := fr_I (fr_refl _ _ _) (by decide) (by decide) _ _
      have f2 : sm pA S (sI S1 17 6 (nI v)) := sm_trans (sA_fr a3 (by decide)) (sA_fr f3 (by decide))
      refine ok_act h1 h2 h3 h4 h5 h6 ?_ hE2 (cA_fr a2 f3 (by decide)) f2 (m_strap_ok sa 15 h co (JM_A h3 f2).1 hB (JM_A h3 f2).2.1 (by omega) hv) (gA_up P _ (by omega)) ⟨pB_strap hB (by omega), pK_up hK _ ⟨by omega, by omega, fun i _ => by omega⟩ h7, by rw [pUp_ne _ _ (by omega)]; exact h9, pay_mono (pay_up hp _ (by omega) (fun i _ => by omega)) (by omega)⟩
      show AMC sa (19 + 1) 76 _ _ = _
      rw [fX7_strap, eX7_strap_0, gC_0, aOp_s, c_hasNoPost sa 18 h1.1 hB, aRI_mk, aOp_s, decide_eq_false hz, if_pos bvf, c_out sa 18, aRI_mk, aOp_s, show iB (nI v) 0 99 = iL (nI v) 100 from rfl, hb, if_pos nb_t, gR_0_5, aOp_s, gR_0_3, aOp_s, gC_30, aOp_s, a1, aRV_mk, aOp_s, gR_0_3, aOp_s, gI_17_6, aOp_s, aOp_s, gP_17_6, aOp_s, hE1.2.2.2.2.1]
theorem k_limit {sa : Nat → Nat} {h : AH} {co N : Nat} {S : ST} (hJ : JJ sa h co N S) (x : Int32) : OK2 sa h co N S 77 [.ref co, .int x] 152 [.ref (co + 40), .int x] := by
  obtain ⟨P, A, n, I, ln, sz, it, T, len, st, ft, tr, tn, h1, h2, h3, h4, h5, h6⟩ := id hJ
  obtain ⟨hB, hK, h9, hp⟩ := id h4.1
  have h7 := hB.2.1
  by_cases hz : P 3 = 0
  · refine ok_same hJ ?_ (m_limit_no sa 15 h co h3.1 hB x hz)
    show AMC sa (19 + 1) 77 _ _ = _
    rw [fX7_limit, eX7_limit_0, gC_0, aOp_s, c_hasNoPost sa 18 h1.1 hB, aRI_mk, aOp_s, decide_eq_true hz, if_neg bvn]
  · cases hb : iL x 61 with
    | false =>
      refine ok_same hJ ?_ (m_limit_bad sa 15 h co h3.1 hB x (by omega) hb)
      show AMC sa (19 + 1) 77 _ _ = _
      rw [fX7_limit, eX7_limit_0, gC_0, aOp_s, c_hasNoPost sa 18 h1.1 hB, aRI_mk, aOp_s, decide_eq_false hz, if_pos bvf, c_out sa 18, aRI_mk, aOp_s, show iB x 0 60 = iL x 61 from rfl, hb]
      exact if_neg nb_f
    | true =>
      obtain ⟨v, hv, rfl⟩ := iL_of (by decide) hb
      obtain ⟨S1, a1, a2, a3⟩ := c_keep sa 18 h1.1 hB h1.2
      have hE1 : cE h co S1 17 P := cE_fr h1.1 a3 (by decide)
      have hE2 : cE h co (sI S1 17 7 (nI v)) 17 (pUp P 1 v) := cE_num hE1 hB (by omega) v
      have f3 : fr 17 21 S1 (sI S1 17 7 (nI v)) := fr_I (fr_refl _ _ _) (by decide) (by decide) _ _
      have f2 : sm pA S (sI S1 17 7 (nI v)) := sm_trans (sA_fr a3 (by decide)) (sA_fr f3 (by decide))
      refine ok_act h1 h2 h3 h4 h5 h6 ?_ hE2 (cA_fr a2 f3 (by decide)) f2 (m_limit_ok sa 15 h co (JM_A h3 f2).1 hB (JM_A h3 f2).2.1 (by omega) hv) (gA_up P _ (by omega)) ⟨pB_limit hB (by omega), pK_up hK _ ⟨by omega, by omega, fun i _ => by omega⟩ h7, by rw [pUp_ne _ _ (by omega)]; exact h9, pay_mono (pay_up hp _ (by omega) (fun i _ => by omega)) (by omega)⟩
      show AMC sa (19 + 1) 77 _ _ = _
      rw [fX7_limit, eX7_limit_0, gC_0, aOp_s, c_hasNoPost sa 18 h1.1 hB, aRI_mk, aOp_s, decide_eq_false hz, if_pos bvf, c_out sa 18, aRI_mk, aOp_s, show iB (nI v) 0 60 = iL (nI v) 61 from rfl, hb, if_pos nb_t, gR_0_5, aOp_s, gR_0_3, aOp_s, gC_30, aOp_s, a1, aRV_mk, aOp_s, gR_0_3, aOp_s, gI_17_7, aOp_s, aOp_s, gP_17_7, aOp_s, hE1.2.2.2.2.2.1]
theorem k_undo {sa : Nat → Nat} {h : AH} {co N : Nat} {S : ST} (hJ : JJ sa h co N S) : OK2 sa h co N S 78 [.ref co] 153 [.ref (co + 40)] := by
  obtain ⟨P, A, n, I, ln, sz, it, T, len, st, ft, tr, tn, h1, h2, h3, h4, h5, h6⟩ := id hJ
  obtain ⟨hB, hK, h9, hp⟩ := id h4.1
  obtain ⟨nx, n1, n2, n3, n4, n5⟩ := id h1.2
  cases n with
  | zero =>
    refine ok_same hJ ?_ (m_undo_no sa 15 h co h3.2.1)
    show AMC sa (19 + 1) 78 _ _ = _
    rw [fX7_undo, eX7_undo_0, gR_0_5, aOp_s, gI_30_2, aOp_s, n4, if_pos (show nI 0 = 0 from rfl)]
  | succ m =>
    obtain ⟨gm, gam⟩ := h4.2.1 m (by omega)
    obtain ⟨U, S1, a1, a2, a3, a4, a5⟩ := c_takeBack sa 18 h1.1 hB h1.2 gam
    have f1 : sm pA S S1 := sm_trans (sA_fr a2 (by decide)) (sA_fr a3 (by decide))
    obtain ⟨q1, q2, q3, q4, q5, q6, q7, q8⟩ := JM_A h3 f1
    have e2 := m_undo_ok sa 15 h co q2
    have c17 : ∀ b, b ≠ 17 → (sI S1 40 17 (nI m)).1 40 b = S1.1 40 b := fun b hb => sI_ne _ _ (by omega)
    obtain ⟨-, -, -, -, r4, -⟩ := id a5
    refine ok_mk ?_ e2 a4 a5 (JO_A h2 f1) ⟨pE_sM (Or.inl rfl) (A m), ⟨sI_at S1 40 17 (nI m), by omega, fun k hk j hj => q2.2.2 k (by omega) j hj⟩, q3, q4, ⟨(c17 6 (by decide)).trans q5.1, q5.2.1, q5.2.2⟩, (c17 4 (by decide)).trans q6, (c17 7 (by decide)).trans q7, ⟨(c17 21 (by decide)).trans q8.1, q8.2.1, q8.2.2⟩⟩ (sL_fr (fr_M (fr_I (fr_refl 40 53 S1) (by decide) (by decide) _ _) (by decide) (by decide) (A m)) (by decide)) ⟨gd_mono gm (by omega), fun k hk => ⟨gd_mono (h4.2.1 k (by omega)).1 (by omega), gA_ch gam (h4.2.1 k (by omega)).2⟩, fun k hk => gd_mono (h4.2.2 k hk) (by omega)⟩ h5 h6
    show AMC sa (19 + 1) 78 _ _ = _
    rw [fX7_undo, eX7_undo_0, gR_0_5, aOp_s, gI_30_2, aOp_s, n4, if_neg (nI_ne0 (by omega) (by omega)), aOp_s, gR_0_3, aOp_s, gC_30, aOp_s, a1, aRV_mk, aOp_s, gR_0_5, aOp_s, gI_30_2, aOp_s, r4]
/-! days -/
theorem c_days_loop (sa : Nat → Nat) (d : Nat) (h : AH) (co X : Nat) (hX : X < 100) : ∀ m k S P A n, k + m = X → cE h co S 17 P → cA S P A n → pB P → pK P → P 4 + m ≤ 100000 → ∃ S' : ST, AMV sa (d + 4) 72 43 [.ref co, .int (nI X), .int (nI k)] [] (mk h co S) = some (some (.int (nI (pSn (dyR (P, A, n) m).1 ((dyR (P, A, n) m).1 3)))), mk h co S') ∧ cE h co S' 17 (dyR (P, A, n) m).1 ∧ cA S' (dyR (P, A, n) m).1 (dyR (P, A, n) m).2.1 (dyR (P, A, n) m).2.2 ∧ sm pA S S' := by
  intro m
  induction m with
  | zero =>
    intro k S P A n hk hE hA hB hK h4
    have hk : k = X := hk
    refine ⟨S, ?_, hE, hA, fun a _ => ⟨rfl, rfl, rfl⟩⟩
    rw [eX7_days_43, if_pos (nI_le (by omega) (by omega)), gR_0_3, aOp_s, gI_17_5, aOp_s, hE.2.2.2.1]
    rfl
  | succ m ih =>
    intro k S P A n hk hE hA hB hK h4
    obtain ⟨S1, a1, a2, a3⟩ := c_keep sa (d + 3) hE hB hA
    have hE1 : cE h co S1 17 P := cE_fr hE a3 (by decide)
    obtain ⟨S2, b, b1, b2, b3, -⟩ := c_passDay sa d hE1 hB hK
    obtain ⟨S', g1, g2, g3, g4⟩ := ih (k + 1) S2 (pDay P) (ntP A n P) (ntA n + 1) (by omega) b2 (cA_3 (cA_fr a2 b3 (by decide)) (gA_day hB).2.1) (pB_day hB (by omega)) (pK_day hK hB) (by rw [pDay_4]; omega)
    refine ⟨S', ?_, g2, g3, sm_trans (sm_trans (sA_fr a3 (by decide)) (sA_fr b3 (by decide))) g4⟩
    rw [eX7_days_43, if_neg (nI_ge (by omega) (by omega)), gR_0_5, aOp_s, gR_0_3, aOp_s, gC_30, aOp_s, a1, aRV_mk, aOp_s, gR_0_3, aOp_s, gC_17, aOp_s, b1, aRI_mk, aOp_s, nI_1]
    exact g1
theorem dyR_J {I : Nat → PS} {N : Nat} : ∀ m P A n, JG P A n I N → n ≤ 24 → P 4 + m ≤ 9999 → JG (dyR (P, A, n) m).1 (dyR (P, A, n) m).2.1 (dyR (P, A, n) m).2.2 I N
  | 0, _, _, _, h, _, _ => h
  | m + 1, P, A, n, h, hn, h4 => by
    obtain ⟨hB, hK, h9, hp⟩ := id h.1
    have h4' : pDay P 4 = P 4 + 1 := pDay_4 P
    exact dyR_J m (pDay P) (ntP A n P) (ntA n + 1) (JG_act h hn (gA_day hB) ⟨pB_day hB (by omega), pK_day hK hB, by omega, pay_day hB hp⟩) (by unfold ntA; split <;> omega) (by omega)
theorem k_days {sa : Nat → Nat} {h : AH} {co N : Nat} {S : ST} (hJ : JJ sa h co N S) (x : Int32) : OK2 sa h co N S 72 [.ref co, .int x] 146 [.ref (co + 40), .int x] := by
  obtain ⟨P, A, n, I, ln, sz, it, T, len, st, ft, tr, tn, h1, h2, h3, h4, h5, h6⟩ := id hJ
  obtain ⟨hB, hK, h9, hp⟩ := id h4.1
  have h7 := hB.2.1
  by_cases hz : P 3 = 0
  · refine ok_same hJ ?_ (m_days_no sa 14 h co h3.1 hB x hz)
    show AMC sa (19 + 1) 72 _ _ = _
    rw [fX7_days, eX7_days_0, gC_0, aOp_s, c_hasNoPost sa 18 h1.1 hB, aRI_mk, aOp_s, decide_eq_true hz, if_neg bvn]
  · cases hb : iB x 1 24 with
    | false =>
      refine ok_same hJ ?_ (m_days_bad sa 14 h co h3.1 hB x (by omega) hb)
      show AMC sa (19 + 1) 72 _ _ = _
      rw [fX7_days, eX7_days_0, gC_0, aOp_s, c_hasNoPost sa 18 h1.1 hB, aRI_mk, aOp_s, decide_eq_false hz, if_pos bvf, c_out sa 18, aRI_mk, aOp_s, hb]
      exact if_neg nb_f
    | true =>
      obtain ⟨k, k1, k2, rfl⟩ := iB_of (lo := 1) (hi := 24) (by decide) (by decide) hb
      have pre : AMC sa 20 72 [.ref co, .int (nI k)] (mk h co S) = if nI k ≤ nI (9999 - P 4) then AMV sa 19 72 43 [.ref co, .int (nI k), .int 0] [] (mk h co S) else some (some (.int (-1000003)), mk h co S) := by
        show AMC sa (19 + 1) 72 _ _ = _
        rw [fX7_days, eX7_days_0, gC_0, aOp_s, c_hasNoPost sa 18 h1.1 hB, aRI_mk, aOp_s, decide_eq_false hz, if_pos bvf, c_out sa 18, aRI_mk, aOp_s, hb, if_pos nb_t, gR_0_3, aOp_s, gI_17_8, aOp_s, h1.1.2.2.2.2.2.2.1, show (9999 : Int32) - nI (P 4) = nI (9999 - P 4) from pk_sub (a := 9999) h9, eX7_days_35]
      by_cases hf : 9999 < P 4 + k
      · refine ok_same hJ ?_ (m_days_full sa 14 h co h3.1 hB (by omega) k1 k2 hf)
        rw [pre, if_neg (nI_ge (by omega) (by omega))]
      · obtain ⟨S1, a1, a2, a3, a4⟩ := c_days_loop sa 15 h co k (by omega) k 0 S P A n (by omega) h1.1 h1.2 hB hK (by omega)
        obtain ⟨q1, q2, q3, q4, q5, q6, q7, q8⟩ := JM_A h3 a4
        obtain ⟨S2, b1, b2, b3, b4⟩ := m_days_ok sa 14 h co q1 hB q2 (x := k) (by omega) k1 k2 (by omega)
        have c40 : ∀ b, b ≠ 17 → S2.1 40 b = S1.1 40 b := fun b hb => b4.2.2 40 b (by omega)
        have ca : ∀ a, a ≠ 46 → a ≠ 49 → S2.2.2 a = S1.2.2 a := fun a x1 x2 => b4.2.1 a x1 x2
        refine ok_mk ?_ b1 a2 a3 (JO_A h2 a4) ⟨b2, b3, ?_, ?_, ?_, (c40 4 (by decide)).trans q6, (c40 7 (by decide)).trans q7, ?_⟩ (sL_fr (fr_fM b4) (by decide)) (JG_mono (dyR_J k P A n h4 h3.2.1.2.1 (by omega)) (by omega)) h5 h6
        · rw [pre, if_pos (nI_le (by omega) (by omega))]
          exact a1
        · unfold mI; rw [ca 51 (by decide) (by decide), ca 50 (by decide) (by decide)]; exact q3
        · unfold rR; rw [ca 41 (by decide) (by decide), ca (41 + 1) (by decide) (by decide), ca (41 + 2) (by decide) (by decide)]; exact q4
        · unfold tT; rw [c40 6 (by decide), ca 45 (by decide) (by decide)]; exact q5
        · unfold tC; rw [c40 21 (by decide), ca 52 (by decide) (by decide)]; exact q8
