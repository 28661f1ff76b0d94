/-! ===== calls: foretold ===== -/
theorem ok_q {sa : Nat → Nat} {h : AH} {co N : Nat} {S S1 : ST} {P : PS} {A : Nat → PS} {n : Nat} {I : Nat → PS} {ln sz : Nat → Nat} {it : Nat → Nat → Int32} {T : Nat → Nat} {len : Nat} {st ft : Int32} {tr : Nat → Int32} {tn : Nat} (h1 : cE h co S 17 P ∧ cA S P A n) (h2 : JO h co S I ln sz it T len st ft tr tn) (h3 : JM S P A n I ln sz it T len st ft tr tn) (h4 : JG P A n I N) (h5 : sT sa h co) (h6 : co + 53 ≤ h.1) {jc : Nat} {as : List Value} {jm : Nat} {bs : List Value} {v : Int32} {f : Nat → Int32} (e1 : AMC sa 20 jc as (mk h co S) = some (some (.int v), mk h co S1)) (f1 : fr 32 38 S S1) (e2 : AMC sa 20 jm bs (mk h co S1) = some (some (.int v), mk h co (sA S1 48 f))) : OK2 sa h co N S jc as jm bs := by
  obtain ⟨q1, q2, q3, q4, q5, q6, q7, q8⟩ := JM_sm h3 (sM_fr f1 (by decide))
  exact ok_mk e1 e2 (cE_fr h1.1 f1 (by decide)) (cA_fr h1.2 f1 (by decide)) (JO_sm h2 (sm_fr f1 (fun a ha => by unfold pO at ha; omega))) ⟨pE_sA48 q1 f, q2, q3, q4, q5, q6, q7, q8⟩ (sL_fr (fr_A (fr_refl 40 53 S1) (by decide) (by decide) _) (by decide)) (JG_mono h4 (by omega)) h5 h6
theorem k_ahead {sa : Nat → Nat} {h : AH} {co N : Nat} {S : ST} (hJ : JJ sa h co N S) (x y w : Int32) : OK2 sa h co N S 81 [.ref co, .int x, .int y, .int w] 157 [.ref (co + 40), .int x, .int y, .int w] := by
  obtain ⟨P, A, n, I, ln, sz, it, T, len, st, ft, tr, tn, h1, h2, h3, h4, h5, h6⟩ := id hJ
  obtain ⟨hB, hK, h9, hp⟩ := id h4.1
  have h7 := hB.2.1
  cases hb : iL x (P 3) && (iL y 61 && iL w 2) with
  | false =>
    refine ok_same hJ ?_ (m_ahead_bad sa 13 h co h3.1 x y w hb)
    show AMC sa (19 + 1) 81 _ _ = _
    rw [fX7_ahead, eX7_ahead_0, gC_0, aOp_s, c_hasNo sa 17 h1.1, aRI_mk, aOp_s]
    cases hx : iL x (P 3) with
    | false => exact if_neg nb_f
    | true =>
      rw [hx, Bool.true_and] at hb
      rw [if_pos nb_t, c_out sa 18, aRI_mk, aOp_s, show iB y 0 60 = iL y 61 from rfl]
      cases hy : iL y 61 with
      | false => exact if_neg nb_f
      | true =>
        rw [hy, Bool.true_and] at hb
        rw [if_pos nb_t, c_out sa 18, aRI_mk, aOp_s, show iB w 0 1 = iL w 2 from rfl, hb]
        exact if_neg nb_f
  | true =>
    rw [Bool.and_eq_true, Bool.and_eq_true] at hb
    obtain ⟨l, hl, rfl⟩ := iL_of (by omega) hb.1
    obtain ⟨d, hd, rfl⟩ := iL_of (by decide) hb.2.1
    obtain ⟨q, hq, rfl⟩ := iL_of (by decide) hb.2.2
    obtain ⟨S1, a1, a2, a3⟩ := c_foretell sa 13 h1.1 hB hK (n := d) (by omega)
    have dB := (pDays_B hB d (by omega)).1
    have d3 := pDays_3 hB (n := d) (by omega)
    have f1 : fr 32 38 S S1 := fr_mono a3 (by decide) (by decide)
    refine ok_q h1 h2 h3 h4 h5 h6 ?_ f1 (m_ahead_ok sa 13 h co (JM_sm h3 (sM_fr f1 (by decide))).1 hB hl hd hq (by omega))
    show AMC sa (19 + 1) 81 _ _ = _
    rw [fX7_ahead, eX7_ahead_0, gC_0, aOp_s, c_hasNo sa 17 h1.1, aRI_mk, aOp_s, hb.1, if_pos nb_t, c_out sa 18, aRI_mk, aOp_s, show iB (nI d) 0 60 = iL (nI d) 61 from rfl, hb.2.1, if_pos nb_t, c_out sa 18, aRI_mk, aOp_s, show iB (nI q) 0 1 = iL (nI q) 2 from rfl, hb.2.2, if_pos nb_t, gR_0_6, aOp_s, gR_0_3, aOp_s, gC_32, aOp_s, a1, aRR_mk, aOp_s]
    by_cases h0 : q = 0
    · rw [if_pos (show nI q = 0 by rw [h0]; rfl), if_pos h0, gC_33, aOp_s, c_weight sa 17 a2 dB (pK_days hK hB d (by omega)) (by omega), aRI_mk, aOp_s]
    · rw [if_neg (nI_ne0 (by omega) (by omega)), if_neg h0, gR_33_2, aOp_s, show aIL (mk h co S1) (co + 36) (nI l) = some (S1.2.2 (33 + 3) l) from qL q33 h co S1 (j := 3) (by decide) (by decide) (by omega), aOp_s, (a2.2.2.2.2.2.2.2.2 l (by omega)).2.2]
theorem k_later {sa : Nat → Nat} {h : AH} {co N : Nat} {S : ST} (hJ : JJ sa h co N S) (y w : Int32) : OK2 sa h co N S 82 [.ref co, .int y, .int w] 158 [.ref (co + 40), .int y, .int w] := by
  obtain ⟨P, A, n, I, ln, sz, it, T, len, st, ft, tr, tn, h1, h2, h3, h4, h5, h6⟩ := id hJ
  obtain ⟨hB, hK, h9, hp⟩ := id h4.1
  have h7 := hB.2.1
  by_cases hz : P 3 = 0
  · refine ok_same hJ ?_ (m_later_no sa 13 h co h3.1 hB y w hz)
    show AMC sa (19 + 1) 82 _ _ = _
    rw [fX7_later, eX7_later_0, gC_0, aOp_s, c_hasNoPost sa 18 h1.1 hB, aRI_mk, aOp_s, decide_eq_true hz, if_neg bvn]
  · cases hb : iL y 61 && iL w 2 with
    | false =>
      refine ok_same hJ ?_ (m_later_bad sa 13 h co h3.1 hB y w (by omega) hb)
      show AMC sa (19 + 1) 82 _ _ = _
      rw [fX7_later, eX7_later_0, gC_0, aOp_s, c_hasNoPost sa 18 h1.1 hB, aRI_mk, aOp_s, decide_eq_false hz, if_pos bvf, c_out sa 18, aRI_mk, aOp_s, show iB y 0 60 = iL y 61 from rfl]
      cases hy : iL y 61 with
      | false => exact if_neg nb_f
      | true =>
        rw [hy, Bool.true_and] at hb
        rw [if_pos nb_t, c_out sa 18, aRI_mk, aOp_s, show iB w 0 1 = iL w 2 from rfl, hb]
        exact if_neg nb_f
    | true =>
      rw [Bool.and_eq_true] at hb
      obtain ⟨d, hd, rfl⟩ := iL_of (by decide) hb.1
      obtain ⟨q, hq, rfl⟩ := iL_of (by decide) hb.2
      obtain ⟨S1, a1, a2, a3⟩ := c_foretell sa 13 h1.1 hB hK (n := d) (by omega)
      have f1 : fr 32 38 S S1 := fr_mono a3 (by decide) (by decide)
      refine ok_q h1 h2 h3 h4 h5 h6 ?_ f1 (m_later_ok sa 13 h co (JM_sm h3 (sM_fr f1 (by decide))).1 hB (by omega) hd hq (by omega))
      show AMC sa (19 + 1) 82 _ _ = _
      rw [fX7_later, eX7_later_0, gC_0, aOp_s, c_hasNoPost sa 18 h1.1 hB, aRI_mk, aOp_s, decide_eq_false hz, if_pos bvf, c_out sa 18, aRI_mk, aOp_s, show iB (nI d) 0 60 = iL (nI d) 61 from rfl, hb.1, if_pos nb_t, c_out sa 18, aRI_mk, aOp_s, show iB (nI q) 0 1 = iL (nI q) 2 from rfl, hb.2, if_pos nb_t, gR_0_6, aOp_s, gR_0_3, aOp_s, gC_32, aOp_s, a1, aRR_mk, aOp_s]
      by_cases h0 : q = 0
      · rw [if_pos (show nI q = 0 by rw [h0]; rfl), if_pos h0, gI_33_5, aOp_s, a2.2.2.2.1]
      · rw [if_neg (nI_ne0 (by omega) (by omega)), if_neg h0, gI_33_9, aOp_s, a2.2.2.2.2.2.2.2.1]
theorem k_when {sa : Nat → Nat} {h : AH} {co N : Nat} {S : ST} (hJ : JJ sa h co N S) (x : Int32) : OK2 sa h co N S 83 [.ref co, .int x] 159 [.ref (co + 40), .int x] := by
  obtain ⟨P, A, n, I, ln, sz, it, T, len, st, ft, tr, tn, h1, h2, h3, h4, h5, h6⟩ := id hJ
  obtain ⟨hB, hK, h9, hp⟩ := id h4.1
  have h7 := hB.2.1
  cases hb : iL x (P 3) with
  | false =>
    refine ok_same hJ ?_ (m_when_bad sa 14 h co h3.1 x hb)
    show AMC sa (19 + 1) 83 _ _ = _
    rw [fX7_when, eX7_when_0, gC_0, aOp_s, c_hasNo sa 17 h1.1, aRI_mk, aOp_s, hb]
    exact if_neg nb_f
  | true =>
    obtain ⟨l, hl, rfl⟩ := iL_of (by omega) hb
    obtain ⟨S1, a1, a3⟩ := c_when sa 14 h1.1 hB hK hl (by omega)
    have f1 : fr 32 38 S S1 := fr_mono a3 (by decide) (by decide)
    obtain ⟨Q, e2⟩ := m_when_ok sa 14 h co (JM_sm h3 (sM_fr f1 (by decide))).1 hB hl (by omega)
    refine ok_q h1 h2 h3 h4 h5 h6 ?_ f1 e2
    show AMC sa (19 + 1) 83 _ _ = _
    rw [fX7_when, eX7_when_0, gC_0, aOp_s, c_hasNo sa 17 h1.1, aRI_mk, aOp_s, hb, if_pos nb_t, gR_0_6, aOp_s, gR_0_3, aOp_s, gC_32, aOp_s, a1, aRI_mk, aOp_s]
theorem k_lighten {sa : Nat → Nat} {h : AH} {co N : Nat} {S : ST} (hJ : JJ sa h co N S) (x y w : Int32) : OK2 sa h co N S 84 [.ref co, .int x, .int y, .int w] 160 [.ref (co + 40), .int x, .int y, .int w] := by
  obtain ⟨P, A, n, I, ln, sz, it, T, len, st, ft, tr, tn, h1, h2, h3, h4, h5, h6⟩ := id hJ
  obtain ⟨hB, hK, h9, hp⟩ := id h4.1
  have h7 := hB.2.1
  cases hb : iL x (P 3) && (iL y 100 && iL w 2) with
  | false =>
    refine ok_same hJ ?_ (m_lighten_bad sa 16 h co h3.1 x y w hb)
    show AMC sa (19 + 1) 84 _ _ = _
    rw [fX7_lighten, eX7_lighten_0, gC_0, aOp_s, c_hasNo sa 17 h1.1, aRI_mk, aOp_s]
    cases hx : iL x (P 3) with
    | false => exact if_neg nb_f
    | true =>
      rw [hx, Bool.true_and] at hb
      rw [if_pos nb_t, c_out sa 18, aRI_mk, aOp_s, show iB y 0 99 = iL y 100 from rfl]
      cases hy : iL y 100 with
      | false => exact if_neg nb_f
      | true =>
        rw [hy, Bool.true_and] at hb
        rw [if_pos nb_t, c_out sa 18, aRI_mk, aOp_s, show iB w 0 1 = iL w 2 from rfl, hb]
        exact if_neg nb_f
  | true =>
    rw [Bool.and_eq_true, Bool.and_eq_true] at hb
    obtain ⟨l, hl, rfl⟩ := iL_of (by omega) hb.1
    obtain ⟨d, hd, rfl⟩ := iL_of (by decide) hb.2.1
    obtain ⟨q, hq, rfl⟩ := iL_of (by decide) hb.2.2
    have hu := pU_lt hB (l := l) (by omega)
    obtain ⟨f', e2⟩ := m_lighten_ok sa 16 h co h3.1 hB hl hd hq
    refine ok_q h1 h2 h3 h4 h5 h6 ?_ (fr_refl _ _ _) e2
    show AMC sa (19 + 1) 84 _ _ = _
    rw [fX7_lighten, eX7_lighten_0, gC_0, aOp_s, c_hasNo sa 17 h1.1, aRI_mk, aOp_s, hb.1, if_pos nb_t, c_out sa 18, aRI_mk, aOp_s, show iB (nI d) 0 99 = iL (nI d) 100 from rfl, hb.2.1, if_pos nb_t, c_out sa 18, aRI_mk, aOp_s, show iB (nI q) 0 1 = iL (nI q) 2 from rfl, hb.2.2, if_pos nb_t, gR_0_6, aOp_s, gR_0_3, aOp_s, gC_32, aOp_s, c_fewest sa 16 h1.1 hB hK hl hd, aRI_mk, aOp_s]
    cases e : pLi P l d (pU P l + 1) with
    | none => rw [if_pos (show bI none = -1000000 from rfl)]; rfl
    | some b =>
      have hbl := pLi_lt P l d _ b e
      rw [if_neg (show ¬ bI (some b) = -1000000 from n_neN (by omega))]
      show (if nI q = 1 then some (some (Value.int (nI b)), mk h co S) else aOp (aRI (AMC sa 19 185 [.int (nI b)] (mk h co S))) fun z7 => some (some (Value.int z7.1), z7.2)) = some (some (.int (if q = 1 then nI b else nI (pC b))), mk h co S)
      by_cases h1' : q = 1
      · rw [if_pos (show nI q = 1 by rw [h1']; rfl), if_pos h1']
      · rw [if_neg (show ¬ nI q = 1 from fun z => h1' ((nI_eq (b := 1) (by omega) (by decide)).mp z)), if_neg h1', c_bits sa 18 (show b < 128 by omega), aRI_mk, aOp_s]
theorem k_guess {sa : Nat → Nat} {h : AH} {co N : Nat} {S : ST} (hJ : JJ sa h co N S) (x w : Int32) : OK2 sa h co N S 85 [.ref co, .int x, .int w] 161 [.ref (co + 40), .int x, .int w] := by
  obtain ⟨P, A, n, I, ln, sz, it, T, len, st, ft, tr, tn, h1, h2, h3, h4, h5, h6⟩ := id hJ
  obtain ⟨hB, hK, h9, hp⟩ := id h4.1
  have h7 := hB.2.1
  cases hb : iL x (P 3) && iL w 2 with
  | false =>
    refine ok_same hJ ?_ (m_guess_bad sa 16 h co h3.1 x w hb)
    show AMC sa (19 + 1) 85 _ _ = _
    rw [fX7_guess, eX7_guess_0, gC_0, aOp_s, c_hasNo sa 17 h1.1, aRI_mk, aOp_s]
    cases hx : iL x (P 3) with
    | false => exact if_neg nb_f
    | true =>
      rw [hx, Bool.true_and] at hb
      rw [if_pos nb_t, c_out sa 18, aRI_mk, aOp_s, show iB w 0 1 = iL w 2 from rfl, hb]
      exact if_neg nb_f
  | true =>
    rw [Bool.and_eq_true] at hb
    obtain ⟨l, hl, rfl⟩ := iL_of (by omega) hb.1
    obtain ⟨q, hq, rfl⟩ := iL_of (by decide) hb.2
    refine ok_same hJ ?_ (m_guess_ok sa 16 h co h3.1 hB hl hq)
    show AMC sa (19 + 1) 85 _ _ = _
    rw [fX7_guess, eX7_guess_0, gC_0, aOp_s, c_hasNo sa 17 h1.1, aRI_mk, aOp_s, hb.1, if_pos nb_t, c_out sa 18, aRI_mk, aOp_s, show iB (nI q) 0 1 = iL (nI q) 2 from rfl, hb.2, if_pos nb_t, gR_0_6, aOp_s, gR_0_3, aOp_s, gC_32, aOp_s, c_alike sa 16 h1.1 hB hK hl hq, aRI_mk, aOp_s]
theorem pLd_s {P : PS} (hB : pB P) (w n : Nat) : (pLd P w (n + 1)).1 ≤ n := by
  have := (pLd_lt hB w n).1
  show (cond (ldB P w n (pLd P w n)) (n, pSm P n.testBit (P 3)) (pLd P w n)).1 ≤ n
  cases ldB P w n (pLd P w n) with
  | true => exact Nat.le_refl _
  | false => exact this
theorem k_load {sa : Nat → Nat} {h : AH} {co N : Nat} {S : ST} (hJ : JJ sa h co N S) (y w : Int32) : OK2 sa h co N S 86 [.ref co, .int y, .int w] 163 [.ref (co + 40), .int y, .int w] := by
  obtain ⟨P, A, n, I, ln, sz, it, T, len, st, ft, tr, tn, h1, h2, h3, h4, h5, h6⟩ := id hJ
  obtain ⟨hB, hK, h9, hp⟩ := id h4.1
  have h7 := hB.2.1
  by_cases hz : P 3 = 0
  · refine ok_same hJ ?_ (m_load_no sa 16 h co h3.1 hB y w hz)
    show AMC sa (19 + 1) 86 _ _ = _
    rw [fX7_load, eX7_load_0, gC_0, aOp_s, c_hasNoPost sa 18 h1.1 hB, aRI_mk, aOp_s, decide_eq_true hz, if_neg bvn]
  · cases hb : iL y 100 && iL w 2 with
    | false =>
      refine ok_same hJ ?_ (m_load_bad sa 16 h co h3.1 hB y w (by omega) hb)
      show AMC sa (19 + 1) 86 _ _ = _
      rw [fX7_load, eX7_load_0, gC_0, aOp_s, c_hasNoPost sa 18 h1.1 hB, aRI_mk, aOp_s, decide_eq_false hz, if_pos bvf, c_out sa 18, aRI_mk, aOp_s, show iB y 0 99 = iL y 100 from rfl]
      cases hy : iL y 100 with
      | false => exact if_neg nb_f
      | true =>
        rw [hy, Bool.true_and] at hb
        rw [if_pos nb_t, c_out sa 18, aRI_mk, aOp_s, show iB w 0 1 = iL w 2 from rfl, hb]
        exact if_neg nb_f
    | true =>
      rw [Bool.and_eq_true] at hb
      obtain ⟨d, hd, rfl⟩ := iL_of (by decide) hb.1
      obtain ⟨q, hq, rfl⟩ := iL_of (by decide) hb.2
      have hop := pOp_lt hB
      have hls := pLd_s hB d (pOp P)
      refine ok_same hJ ?_ (m_load_ok sa 16 h co h3.1 hB (by omega) hd hq)
      show AMC sa (19 + 1) 86 _ _ = _
      rw [fX7_load, eX7_load_0, gC_0, aOp_s, c_hasNoPost sa 18 h1.1 hB, aRI_mk, aOp_s, decide_eq_false hz, if_pos bvf, c_out sa 18, aRI_mk, aOp_s, show iB (nI d) 0 99 = iL (nI d) 100 from rfl, hb.1, if_pos nb_t, c_out sa 18, aRI_mk, aOp_s, show iB (nI q) 0 1 = iL (nI q) 2 from rfl, hb.2, if_pos nb_t, gR_0_6, aOp_s, gR_0_3, aOp_s, gC_32, aOp_s, c_bestLoad sa 15 h1.1 hB hK hd, aRI_mk, aOp_s]
      by_cases h0 : q = 0
      · rw [if_pos (show nI q = 0 by rw [h0]; rfl), if_pos h0]
      · rw [if_neg (nI_ne0 (by omega) (by omega)), if_neg h0, gR_0_3, aOp_s, gC_17, aOp_s, c_together sa 16 h1.1 hB hK (f := (pLd P d (pOp P + 1)).1.testBit) (fun j hj => n_bit0 _ (by omega) j hj), aRI_mk, aOp_s, ← pLd_sm]
theorem k_share {sa : Nat → Nat} {h : AH} {co N : Nat} {S : ST} (hJ : JJ sa h co N S) (x y : Int32) : OK2 sa h co N S 87 [.ref co, .int x, .int y] 165 [.ref (co + 40), .int x, .int y] := by
  obtain ⟨P, A, n, I, ln, sz, it, T, len, st, ft, tr, tn, h1, h2, h3, h4, h5, h6⟩ := id hJ
  obtain ⟨hB, hK, h9, hp⟩ := id h4.1
  have h7 := hB.2.1
  cases hb : iL x (P 3) && iL y 1000 with
  | false =>
    refine ok_same hJ ?_ (m_share_bad sa 15 h co h3.1 x y hb)
    show AMC sa (19 + 1) 87 _ _ = _
    rw [fX7_share, eX7_share_0, gC_0, aOp_s, c_hasNo sa 17 h1.1, aRI_mk, aOp_s]
    cases hx : iL x (P 3) with
    | false => exact if_neg nb_f
    | true =>
      rw [hx, Bool.true_and] at hb
      rw [if_pos nb_t, c_out sa 18, aRI_mk, aOp_s, show iB y 0 999 = iL y 1000 from rfl, hb]
      exact if_neg nb_f
  | true =>
    rw [Bool.and_eq_true] at hb
    obtain ⟨l, hl, rfl⟩ := iL_of (by omega) hb.1
    obtain ⟨m, hm, rfl⟩ := iL_of (by decide) hb.2
    refine ok_same hJ ?_ (m_share_ok sa 15 h co h3.1 hB hl hm)
    show AMC sa (19 + 1) 87 _ _ = _
    rw [fX7_share, eX7_share_0, gC_0, aOp_s, c_hasNo sa 17 h1.1, aRI_mk, aOp_s, hb.1, if_pos nb_t, c_out sa 18, aRI_mk, aOp_s, show iB (nI m) 0 999 = iL (nI m) 1000 from rfl, hb.2, if_pos nb_t, gR_0_6, aOp_s, gR_0_3, aOp_s, gC_32, aOp_s, c_share sa 15 h1.1 hB hK hl hm, aRI_mk, aOp_s]
theorem k_slips {sa : Nat → Nat} {h : AH} {co N : Nat} {S : ST} (hJ : JJ sa h co N S) (x w m c q : Int32) : OK2 sa h co N S 89 [.ref co, .int x, .int w, .int m, .int c, .int q] 168 [.ref (co + 40), .int x, .int w, .int m, .int c, .int q] := by
  obtain ⟨P, A, n, I, ln, sz, it, T, len, st, ft, tr, tn, h1, h2, h3, h4, h5, h6⟩ := id hJ
  obtain ⟨hB, hK, h9, hp⟩ := id h4.1
  have h7 := hB.2.1
  cases hb : iL x (P 3) && (iL w 100 && (iL m 31 && (iL c 11 && iL q 2))) with
  | false =>
    refine ok_same hJ ?_ (m_slips_bad sa 13 h co h3.1 x w m c q hb)
    show AMC sa (19 + 1) 89 _ _ = _
    rw [fX7_slips, eX7_slips_0, gC_0, aOp_s, c_hasNo sa 17 h1.1, aRI_mk, aOp_s]
    cases hx : iL x (P 3) with
    | false => exact if_neg nb_f
    | true =>
      rw [hx, Bool.true_and] at hb
      rw [if_pos nb_t, c_out sa 18, aRI_mk, aOp_s, show iB w 0 99 = iL w 100 from rfl]
      cases hy : iL w 100 with
      | false => exact if_neg nb_f
      | true =>
        rw [hy, Bool.true_and] at hb
        rw [if_pos nb_t, c_out sa 18, aRI_mk, aOp_s, show iB m 0 30 = iL m 31 from rfl]
        cases hm : iL m 31 with
        | false => exact if_neg nb_f
        | true =>
          rw [hm, Bool.true_and] at hb
          rw [if_pos nb_t, c_out sa 18, aRI_mk, aOp_s, show iB c 0 10 = iL c 11 from rfl]
          cases hc : iL c 11 with
          | false => exact if_neg nb_f
          | true =>
            rw [hc, Bool.true_and] at hb
            rw [if_pos nb_t, c_out sa 18, aRI_mk, aOp_s, show iB q 0 1 = iL q 2 from rfl, hb]
            exact if_neg nb_f
  | true =>
    rw [Bool.and_eq_true, Bool.and_eq_true, Bool.and_eq_true, Bool.and_eq_true] at hb
    obtain ⟨l, hl, rfl⟩ := iL_of (by omega) hb.1
    obtain ⟨w, hw, rfl⟩ := iL_of (by decide) hb.2.1
    obtain ⟨m, hm, rfl⟩ := iL_of (by decide) hb.2.2.1
    obtain ⟨c, hc, rfl⟩ := iL_of (by decide) hb.2.2.2.1
    obtain ⟨q, hq, rfl⟩ := iL_of (by decide) hb.2.2.2.2
    obtain ⟨S1, a1, a3⟩ := c_light sa 13 h1.1 hB hK hl hw hm hc (by omega)
    have f1 : fr 32 38 S S1 := fr_mono a3 (by decide) (by decide)
    obtain ⟨f', e2⟩ := m_slips_ok sa 13 h co (JM_sm h3 (sM_fr f1 (by decide))).1 hB hl hw hm hc hq (by omega)
    have hE1 : cE h co S1 17 P := cE_fr h1.1 a3 (by decide)
    have hu := pU_lt hB (l := l) (by omega)
    have hcu := pC6 (pU P l) hu
    have hbl := p10 _ hcu
    have hb1 : 1 ≤ 10 ^ pC (pU P l) := Nat.one_le_pow _ _ (by decide)
    have hal := slA_le hB l w m (c := c) (by omega) (pU P l + 1)
    have hg : 0 < Nat.gcd (10 ^ pC (pU P l)) (slA P l w m c (pU P l + 1)) := Nat.gcd_pos_of_pos_left _ (by omega)
    have hg2 : Nat.gcd (10 ^ pC (pU P l)) (slA P l w m c (pU P l + 1)) ≤ 10 ^ pC (pU P l) := Nat.gcd_le_left _ (by omega)
    refine ok_q h1 h2 h3 h4 h5 h6 ?_ f1 e2
    have at109 : ∀ s, s < 2 ^ 31 → AMV sa 19 89 109 [.ref co, .int (nI l), .int (nI w), .int (nI m), .int (nI c), .int (nI q), .int (nI (slA P l w m c (pU P l + 1))), .int (nI (10 ^ pC (pU P l))), .int (nI (Nat.gcd (10 ^ pC (pU P l)) (slA P l w m c (pU P l + 1))))] [.int (nI s)] (mk h co S1) = some (some (.int (nI (s / Nat.gcd (slA P l w m c (pU P l + 1)) (slB P l)))), mk h co S1) := by
      intro s hs
      rw [eX7_slips_109, if_neg (nI_ne0 hg (by omega)), if_neg (nI_ne0 hg (by omega)), pk_div hs hg (by omega), Nat.gcd_comm]
      rfl
    show AMC sa (19 + 1) 89 _ _ = _
    rw [fX7_slips, eX7_slips_0, gC_0, aOp_s, c_hasNo sa 17 h1.1, aRI_mk, aOp_s, hb.1, if_pos nb_t, c_out sa 18, aRI_mk, aOp_s, show iB (nI w) 0 99 = iL (nI w) 100 from rfl, hb.2.1, if_pos nb_t, c_out sa 18, aRI_mk, aOp_s, show iB (nI m) 0 30 = iL (nI m) 31 from rfl, hb.2.2.1, if_pos nb_t, c_out sa 18, aRI_mk, aOp_s, show iB (nI c) 0 10 = iL (nI c) 11 from rfl, hb.2.2.2.1, if_pos nb_t, c_out sa 18, aRI_mk, aOp_s, show iB (nI q) 0 1 = iL (nI q) 2 from rfl, hb.2.2.2.2, if_pos nb_t, gR_0_6, aOp_s, gR_0_3, aOp_s, gC_32, aOp_s, a1, aRI_mk, aOp_s, gR_0_3, aOp_s, gC_17, aOp_s, c_unsaid sa 18 hE1 hB hl, aRI_mk, aOp_s, c_bits sa 18 (show pU P l < 128 by omega), aRI_mk, aOp_s, show AMC sa 19 104 [.int 10, .int (nI (pC (pU P l)))] (mk h co S1) = _ from c_power sa 18 10 (by omega) _, aRI_mk, aOp_s, c_commonDivisor sa 18 _ (show 10 ^ pC (pU P l) < 2 ^ 31 by omega) (show slA P l w m c (pU P l + 1) < 2 ^ 31 by omega), aRI_mk, aOp_s]
    unfold slR
    by_cases h0 : q = 0
    · rw [if_pos (show nI q = 0 by rw [h0]; rfl), if_pos h0]
      exact at109 _ (by omega)
    · rw [if_neg (nI_ne0 (by omega) (by omega)), if_neg h0]
      exact at109 _ (by omega)
theorem k_drawn {sa : Nat → Nat} {h : AH} {co N : Nat} {S : ST} (hJ : JJ sa h co N S) (hN : N ≤ 600) (x y w : Int32) : OK2 sa h co N S 90 [.ref co, .int x, .int y, .int w] 169 [.ref (co + 40), .int x, .int y, .int w] := by
  obtain ⟨P, A, n, I, ln, sz, it, T, len, st, ft, tr, tn, h1, h2, h3, h4, h5, h6⟩ := id hJ
  obtain ⟨hB, hK, h9, hp⟩ := id h4.1
  have h7 := hB.2.1
  by_cases hz : P 3 = 0
  · refine ok_same hJ ?_ (m_drawn_no sa 14 h co h3.1 hB x y w hz)
    show AMC sa (19 + 1) 90 _ _ = _
    rw [fX7_drawn, eX7_drawn_0, gC_0, aOp_s, c_hasNoPost sa 18 h1.1 hB, aRI_mk, aOp_s, decide_eq_true hz, if_neg bvn]
  · cases hb : iL x 61 && (iB y 1 999999 && iL w 2) with
    | false =>
      refine ok_same hJ ?_ (m_drawn_bad sa 14 h co h3.1 hB x y w (by omega) hb)
      show AMC sa (19 + 1) 90 _ _ = _
      rw [fX7_drawn, eX7_drawn_0, gC_0, aOp_s, c_hasNoPost sa 18 h1.1 hB, aRI_mk, aOp_s, decide_eq_false hz, if_pos bvf, c_out sa 18, aRI_mk, aOp_s, show iB x 0 60 = iL x 61 from rfl]
      cases hx : iL x 61 with
      | false => exact if_neg nb_f
      | true =>
        rw [hx, Bool.true_and] at hb
        rw [if_pos nb_t, c_out sa 18, aRI_mk, aOp_s]
        cases hy : iB y 1 999999 with
        | false => exact if_neg nb_f
        | true =>
          rw [hy, Bool.true_and] at hb
          rw [if_pos nb_t, c_out sa 18, aRI_mk, aOp_s, show iB w 0 1 = iL w 2 from rfl, hb]
          exact if_neg nb_f
    | true =>
      rw [Bool.and_eq_true, Bool.and_eq_true] at hb
      obtain ⟨m, hm, rfl⟩ := iL_of (by decide) hb.1
      obtain ⟨s, s1, s2, rfl⟩ := iB_of (lo := 1) (hi := 999999) (by decide) (by decide) hb.2.1
      obtain ⟨q, hq, rfl⟩ := iL_of (by decide) hb.2.2
      obtain ⟨S1, a1, a2, a3⟩ := c_draw sa 14 h1.1 hB hK (n := m) (s := s) (by omega) hm s2 (by omega)
      have f1 : fr 32 38 S S1 := fr_mono a3 (by decide) (by decide)
      obtain ⟨f', e2⟩ := m_drawn_ok sa 14 h co (JM_sm h3 (sM_fr f1 (by decide))).1 hB (n := m) (s := s) (what := q) (by omega) hm s1 s2 hq (by omega)
      have hE1 : cE h co S1 17 P := cE_fr h1.1 a3 (by decide)
      obtain ⟨r1, r2, r3⟩ := r5_dwN (e := P 5) (P := P) (Q := pUp P 5 0) ⟨0, rfl, by omega⟩ hB hp (s := s) (by omega) m (by omega) (by omega)
      obtain ⟨q1, q2, q3, q4⟩ := dwN_B hB (s := s) (by omega) m (by omega)
      have e3 : (dwN (pUp P 5 0) s m).1 3 = (dwN P s m).1 3 := r5_ne r1 (by decide)
      have e5 : (dwN P s m).1 5 = (dwN (pUp P 5 0) s m).1 5 + P 5 := by
        obtain ⟨y, y1, y2⟩ := r1
        rw [y2, y1, pUp_at]
      have eS : pSn (dwN P s m).1 ((dwN P s m).1 3) = pSn (dwN (pUp P 5 0) s m).1 ((dwN (pUp P 5 0) s m).1 3) := by
        rw [e3]
        exact pSn_ag _ (fun l _ => (r5_ne r1 (by omega)).symm)
      have hps := pSn_lt q1 ((dwN P s m).1 3) q1.2.1
      have hp7 := pow7 _ q1.2.1
      refine ok_q h1 h2 h3 h4 h5 h6 ?_ f1 e2
      show AMC sa (19 + 1) 90 _ _ = _
      rw [fX7_drawn, eX7_drawn_0, gC_0, aOp_s, c_hasNoPost sa 18 h1.1 hB, aRI_mk, aOp_s, decide_eq_false hz, if_pos bvf, c_out sa 18, aRI_mk, aOp_s, show iB (nI m) 0 60 = iL (nI m) 61 from rfl, hb.1, if_pos nb_t, c_out sa 18, aRI_mk, aOp_s, show iB (nI s) 1 999999 = true from hb.2.1, if_pos nb_t, c_out sa 18, aRI_mk, aOp_s, show iB (nI q) 0 1 = iL (nI q) 2 from rfl, hb.2.2, if_pos nb_t, gR_0_6, aOp_s, gR_0_3, aOp_s, gC_32, aOp_s, a1, aRR_mk, aOp_s]
      by_cases h0 : q = 0
      · rw [if_pos (show nI q = 0 by rw [h0]; rfl), if_pos h0, gI_33_9, aOp_s, gR_0_3, aOp_s, gI_17_9, aOp_s, a2.2.2.2.2.2.2.2.1, hE1.2.2.2.2.2.2.2.1, e5, pk_sub (by omega), Nat.add_sub_cancel]
      · rw [if_neg (nI_ne0 (by omega) (by omega)), if_neg h0, gI_33_5, aOp_s, a2.2.2.2.1, c_bits sa 18 (show pSn (dwN P s m).1 ((dwN P s m).1 3) < 128 by omega), aRI_mk, aOp_s, eS]
