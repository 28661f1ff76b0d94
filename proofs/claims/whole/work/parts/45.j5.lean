/-! ===== calls: what fits, images, post ===== -/
theorem k_fits {sa : Nat → Nat} {h : AH} {co N : Nat} {S : ST} (hJ : JJ sa h co N S) (x y i m q : Int32) : OK2 sa h co N S 88 [.ref co, .int x, .int y, .int i, .int m, .int q] 167 [.ref (co + 40), .int x, .int y, .int i, .int m, .int q] := by
  obtain ⟨P, A, n, I, ln, sz, it, T, len, st, ft, tr, tn, h1, h2, h3, h4, h5, h6⟩ := id hJ
  obtain ⟨hB, hK, h9, hp⟩ := id h4.1
  have h7 := hB.2.1
  cases hb : iL x (P 3) && (iL y 8 && (iB m 1 12 && iL q 5)) with
  | false =>
    refine ok_same hJ ?_ (m_fits_bad sa 12 h co h3.1 x y i m q hb)
    show AMC sa (19 + 1) 88 _ _ = _
    rw [fX7_fits, eX7_fits_0, gC_0, aOp_s, c_hasNo sa 17 h1.1, aRI_mk, aOp_s]
    cases hx : iL x (P 3) with
    | false => exact if_neg nb_f
    | true =>
      rw [hx, Bool.true_and] at hb
      rw [if_pos nb_t, c_isNamed sa 18, aRI_mk, aOp_s]
      cases hy : iL y 8 with
      | false => exact if_pos bvf
      | true =>
        rw [hy, Bool.true_and] at hb
        rw [if_neg bvn, c_out sa 18, aRI_mk, aOp_s]
        cases hm : iB m 1 12 with
        | false => exact if_neg nb_f
        | true =>
          rw [hm, Bool.true_and] at hb
          rw [if_pos nb_t, c_out sa 18, aRI_mk, aOp_s, show iB q 0 4 = iL q 5 from rfl, hb]
          exact if_neg nb_f
  | true =>
    rw [Bool.and_eq_true, Bool.and_eq_true, Bool.and_eq_true] at hb
    obtain ⟨l, hl, rfl⟩ := iL_of (by omega) hb.1
    obtain ⟨r, hr, rfl⟩ := iL_of (by decide) hb.2.1
    obtain ⟨m, m1, m2, rfl⟩ := iB_of (lo := 1) (hi := 12) (by decide) (by decide) hb.2.2.1
    obtain ⟨q, hq, rfl⟩ := iL_of (by decide) hb.2.2.2
    by_cases hm : ln r = 3
    · refine ok_st2 h1 h2 h3 h4 h5 h6 ?_ (fun z => m_fits_null sa 12 h co z.1 hB z.2.2.2.1 i hl hr m1 m2 hq hm)
      show AMC sa (19 + 1) 88 _ _ = _
      rw [fX7_fits, eX7_fits_0, gC_0, aOp_s, c_hasNo sa 17 h1.1, aRI_mk, aOp_s, hb.1, if_pos nb_t, c_isNamed sa 18, aRI_mk, aOp_s, hb.2.1, if_neg bvn, c_out sa 18, aRI_mk, aOp_s, show iB (nI m) 1 12 = true from hb.2.2.1, if_pos nb_t, c_out sa 18, aRI_mk, aOp_s, show iB (nI q) 0 4 = iL (nI q) 5 from rfl, hb.2.2.2, if_pos nb_t, gR_0_0, aOp_s, gC_6, aOp_s, c_isMissing sa 18 h co h2.2.2.1 hr, aRI_mk, aOp_s, decide_eq_true hm, if_neg bvn, gC_0, aOp_s, c_found sa 18, aRI_mk, aOp_s]
      rfl
    · cases hp2 : rPt (sz r) i (nI m) with
      | false =>
        refine ok_st2 h1 h2 h3 h4 h5 h6 ?_ (fun z => m_fits_place sa 12 h co z.1 hB z.2.2.2.1 i hl hr m1 m2 hq hm hp2)
        show AMC sa (19 + 1) 88 _ _ = _
        rw [fX7_fits, eX7_fits_0, gC_0, aOp_s, c_hasNo sa 17 h1.1, aRI_mk, aOp_s, hb.1, if_pos nb_t, c_isNamed sa 18, aRI_mk, aOp_s, hb.2.1, if_neg bvn, c_out sa 18, aRI_mk, aOp_s, show iB (nI m) 1 12 = true from hb.2.2.1, if_pos nb_t, c_out sa 18, aRI_mk, aOp_s, show iB (nI q) 0 4 = iL (nI q) 5 from rfl, hb.2.2.2, if_pos nb_t, gR_0_0, aOp_s, gC_6, aOp_s, c_isMissing sa 18 h co h2.2.2.1 hr, aRI_mk, aOp_s, decide_eq_false hm, if_pos bvf, gR_0_0, aOp_s, gC_6, aOp_s, c_covers sa 18 h co h2.2.2.1 hr, aRI_mk, aOp_s, hp2, if_pos bvf, gC_0, aOp_s, c_found sa 18, aRI_mk, aOp_s]
        rfl
      | true =>
        obtain ⟨i', m', ei, em, s1, s2, s3⟩ := rPt_of hp2
        have em : m = m' := (nI_eq (by omega) s3).mp em
        subst em
        subst ei
        have sz1 := (h2.2.2.1 r hr).2.1
        obtain ⟨S0, hS0⟩ : ∃ S0, S0 = sI S 0 9 0 := ⟨_, rfl⟩
        have f0 : fr 0 1 S S0 := by rw [hS0]; exact fr_I (fr_refl _ _ _) (by decide) (by decide) _ _
        obtain ⟨S1, a1, a2, a3, a4⟩ := c_hear sa 17 h co S0 (r := r) (i := i') (n := m) m2 (by omega)
        have hE1 : cE h co S1 17 P := cE_fr (cE_fr h1.1 f0 (by decide)) a4 (by decide)
        have told : ∀ j, j < m → S1.2.2 37 j = (fun k => S.2.2 43 (40 * r + i' + k)) j := by
          intro j hj
          rw [a3 j hj, (f0 9 (by decide)).2.2]
          show S.2.2 9 (40 * r + i' + j) = S.2.2 43 (40 * r + i' + j)
          have e1 := (h2.2.2.1 r hr).2.2.2.2 (i' + j) (by omega)
          have e2 := (h3.2.2.2.1 r hr).2.2.2.2 (i' + j) (by omega)
          rw [show 40 * r + i' + j = 40 * r + (i' + j) by omega]
          exact e1.trans e2.symm
        have main : ∃ S2 : ST, AMC sa 20 88 [.ref co, .int (nI l), .int (nI r), .int (nI i'), .int (nI m), .int (nI q)] (mk h co S) = some (some (.int (ftA P l q (fun k => S.2.2 43 (40 * r + i' + k)) m)), mk h co S2) ∧ fr 33 37 S1 S2 := by
          have pre : ∀ R, (if nI q = 0 then aOp (aFR (mk h co S1) co 7 6) fun v14 => aOp (aFR (mk h co S1) co 7 3) fun v15 => aOp (aCl (mk h co S1) v14 4) fun _ => aOp (aRI (AMC sa 19 44 [.ref v14, .ref v15, .int (nI l)] (mk h co S1))) fun z16 => some (some (Value.int z16.1), z16.2) else if nI q = 1 then aOp (aFR (mk h co S1) co 7 6) fun v17 => aOp (aFR (mk h co S1) co 7 3) fun v18 => aOp (aCl (mk h co S1) v17 4) fun _ => aOp (aRI (AMC sa 19 45 [.ref v17, .ref v18, .int (nI l), .int 0] (mk h co S1))) fun z19 => some (some (Value.int z19.1), z19.2) else if nI q = 2 then aOp (aFR (mk h co S1) co 7 6) fun v20 => aOp (aFR (mk h co S1) co 7 3) fun v21 => aOp (aCl (mk h co S1) v20 4) fun _ => aOp (aRI (AMC sa 19 45 [.ref v20, .ref v21, .int (nI l), .int 1] (mk h co S1))) fun z22 => some (some (Value.int z22.1), z22.2) else if nI q = 3 then aOp (aFR (mk h co S1) co 7 6) fun v23 => aOp (aFR (mk h co S1) co 7 3) fun v24 => aOp (aCl (mk h co S1) v23 4) fun _ => aOp (aRI (AMC sa 19 46 [.ref v23, .ref v24, .int (nI l), .int 0] (mk h co S1))) fun z25 => some (some (Value.int z25.1), z25.2) else aOp (aFR (mk h co S1) co 7 6) fun v26 => aOp (aFR (mk h co S1) co 7 3) fun v27 => aOp (aCl (mk h co S1) v26 4) fun _ => aOp (aRI (AMC sa 19 46 [.ref v26, .ref v27, .int (nI l), .int 1] (mk h co S1))) fun z28 => some (some (Value.int z28.1), z28.2)) = R → AMC sa 20 88 [.ref co, .int (nI l), .int (nI r), .int (nI i'), .int (nI m), .int (nI q)] (mk h co S) = R := by
            intro R hR
            show AMC sa (19 + 1) 88 _ _ = _
            rw [fX7_fits, eX7_fits_0, gC_0, aOp_s, c_hasNo sa 17 h1.1, aRI_mk, aOp_s, hb.1, if_pos nb_t, c_isNamed sa 18, aRI_mk, aOp_s, hb.2.1, if_neg bvn, c_out sa 18, aRI_mk, aOp_s, show iB (nI m) 1 12 = true from hb.2.2.1, if_pos nb_t, c_out sa 18, aRI_mk, aOp_s, show iB (nI q) 0 4 = iL (nI q) 5 from rfl, hb.2.2.2, if_pos nb_t, gR_0_0, aOp_s, gC_6, aOp_s, c_isMissing sa 18 h co h2.2.2.1 hr, aRI_mk, aOp_s, decide_eq_false hm, if_pos bvf, gR_0_0, aOp_s, gC_6, aOp_s, c_covers sa 18 h co h2.2.2.1 hr, aRI_mk, aOp_s, hp2, if_neg bvn, gP_0_9, aOp_s, ← hS0, gR_0_6, aOp_s, gR_0_0, aOp_s, gC_32, aOp_s, a1, aRV_mk, aOp_s]
            exact hR
          have hq' : q = 0 ∨ q = 1 ∨ q = 2 ∨ q = 3 ∨ q = 4 := by omega
          rcases hq' with rfl | rfl | rfl | rfl | rfl
          · obtain ⟨S2, b1, b2⟩ := c_kinds sa 13 hE1 hB hK hl m2 (by omega) a2 told
            refine ⟨S2, pre _ ?_, b2⟩
            rw [if_pos (show nI 0 = 0 from rfl), gR_0_6, aOp_s, gR_0_3, aOp_s, gC_32, aOp_s, b1, aRI_mk, aOp_s]
          · obtain ⟨S2, b1, b2⟩ := c_saids sa 13 hE1 hB hK hl m2 (by omega) a2 told (what := 1) (Or.inl rfl)
            refine ⟨S2, pre _ ?_, b2⟩
            rw [if_neg (by decide), if_pos (show nI 1 = 1 from rfl), gR_0_6, aOp_s, gR_0_3, aOp_s, gC_32, aOp_s, show AMC sa 19 45 [.ref (co + 32), .ref (co + 17), .int (nI l), .int 0] (mk h co S1) = _ from b1, aRI_mk, aOp_s]
          · obtain ⟨S2, b1, b2⟩ := c_saids sa 13 hE1 hB hK hl m2 (by omega) a2 told (what := 2) (Or.inr rfl)
            refine ⟨S2, pre _ ?_, b2⟩
            rw [if_neg (by decide), if_neg (by decide), if_pos (show nI 2 = 2 from rfl), gR_0_6, aOp_s, gR_0_3, aOp_s, gC_32, aOp_s, show AMC sa 19 45 [.ref (co + 32), .ref (co + 17), .int (nI l), .int 1] (mk h co S1) = _ from b1, aRI_mk, aOp_s]
          · obtain ⟨S2, b1, b2⟩ := c_limits sa 13 hE1 hB hK hl m2 (by omega) a2 told (what := 3) (Or.inl rfl)
            refine ⟨S2, pre _ ?_, b2⟩
            rw [if_neg (by decide), if_neg (by decide), if_neg (by decide), if_pos (show nI 3 = 3 from rfl), gR_0_6, aOp_s, gR_0_3, aOp_s, gC_32, aOp_s, show AMC sa 19 46 [.ref (co + 32), .ref (co + 17), .int (nI l), .int 0] (mk h co S1) = _ from b1, aRI_mk, aOp_s]
          · obtain ⟨S2, b1, b2⟩ := c_limits sa 13 hE1 hB hK hl m2 (by omega) a2 told (what := 4) (Or.inr rfl)
            refine ⟨S2, pre _ ?_, b2⟩
            rw [if_neg (by decide), if_neg (by decide), if_neg (by decide), if_neg (by decide), gR_0_6, aOp_s, gR_0_3, aOp_s, gC_32, aOp_s, show AMC sa 19 46 [.ref (co + 32), .ref (co + 17), .int (nI l), .int 1] (mk h co S1) = _ from b1, aRI_mk, aOp_s]
        obtain ⟨S2, b1, b2⟩ := main
        have f2 : fr 32 38 S0 S2 := fr_trans a4 (fr_mono b2 (by decide) (by decide))
        obtain ⟨q1, q2, q3, q4, q5, q6, q7, q8⟩ := JM_sm (JM_sm h3 (sM_fr f0 (by decide))) (sM_fr f2 (by decide))
        obtain ⟨f', e2⟩ := m_fits_ok sa 12 h co q1 hB q4 (i := i') hl hr m1 m2 hq hm s1 (by omega)
        have e43 : (fun k => S2.2.2 43 (40 * r + i' + k)) = (fun k => S.2.2 43 (40 * r + i' + k)) := by
          funext k
          rw [(f2 43 (by decide)).2.2, (f0 43 (by decide)).2.2]
        rw [e43] at e2
        have g0 : sm (fun a => 1 ≤ a ∧ (a < 32 ∨ 38 ≤ a)) S S2 := fun a ha => ⟨(f2 a (by omega)).1.trans (f0 a (by omega)).1, (f2 a (by omega)).2.1.trans (f0 a (by omega)).2.1, (f2 a (by omega)).2.2.trans (f0 a (by omega)).2.2⟩
        obtain ⟨o1, o2, o3, o4, o5, o6, o7⟩ := h2
        have s09 : S2.1 0 9 = 0 := by rw [(f2 0 (by decide)).1, hS0, sI_at]
        have s08 : S2.1 0 8 = S.1 0 8 := by rw [(f2 0 (by decide)).1, hS0, sI_ne _ _ (by decide)]
        refine ok_mk b1 e2 (P := P) (A := A) (n := n) (I := I) (ln := ln) (sz := sz) (it := it) (T := T) (len := len) (st := 0) (ft := ft) (tr := tr) (tn := tn) (cE_sm h1.1 g0 (fun a x1 x2 => by omega)) (cA_sm h1.2 g0 (by decide) (by decide)) ⟨cE_sm o1 g0 (fun a x1 x2 => by omega), cE_sm o2 g0 (fun a x1 x2 => by omega), rR_sm o3 g0 (by decide) (by decide) (by decide), tT_sm o4 g0 (by decide) (by decide), s09, s08.trans o6, tC_sm o7 g0 (by decide) (by decide)⟩ ?_ (sL_fr (fr_I (fr_A (fr_refl 40 53 S2) (by decide) (by decide) _) (by decide) (by decide) _ _) (by decide)) (JG_mono h4 (by omega)) h5 h6
        have c4 : ∀ b, b ≠ 4 → (sI (sA S2 48 f') 40 4 0).1 40 b = S2.1 40 b := fun b hb => (sI_ne _ _ (by omega)).trans rfl
        exact ⟨⟨q1.1, q1.2⟩, ⟨(c4 17 (by decide)).trans q2.1, q2.2.1, q2.2.2⟩, q3, q4, ⟨(c4 6 (by decide)).trans q5.1, q5.2.1, q5.2.2⟩, sI_at _ _ _ _, (c4 7 (by decide)).trans q7, ⟨(c4 21 (by decide)).trans q8.1, q8.2.1, q8.2.2⟩⟩
/-! images -/
theorem gRL0 (h : AH) (co : Nat) (S : ST) : aRL (mk h co S) (co + 21) (nI 0) = some (co + 22) := by
  unfold aRL
  rw [mk_get h co S 21 (Or.inr (by decide)) (by decide)]
  rfl
theorem gRL1 (h : AH) (co : Nat) (S : ST) : aRL (mk h co S) (co + 21) (nI 1) = some (co + 26) := by
  unfold aRL
  rw [mk_get h co S 21 (Or.inr (by decide)) (by decide)]
  rfl
theorem k_image {sa : Nat → Nat} {h : AH} {co N : Nat} {S : ST} (hJ : JJ sa h co N S) (x : Int32) : OK2 sa h co N S 91 [.ref co, .int x] 170 [.ref (co + 40), .int x] := by
  obtain ⟨P, A, n, I, ln, sz, it, T, len, st, ft, tr, tn, h1, h2, h3, h4, h5, h6⟩ := id hJ
  obtain ⟨hB, hK, h9, hp⟩ := id h4.1
  cases hb : iL x 2 with
  | false =>
    refine ok_same hJ ?_ (m_image_bad sa 17 h co S x hb)
    show AMC sa (19 + 1) 91 _ _ = _
    rw [fX7_image, eX7_image_0, c_out sa 18, aRI_mk, aOp_s, show iB x 0 1 = iL x 2 from rfl, hb]
    exact if_neg nb_f
  | true =>
    obtain ⟨k, hk, rfl⟩ := iL_of (by decide) hb
    by_cases hz : P 3 = 0
    · refine ok_same hJ ?_ (m_image_no sa 17 h co h3.1 hB hk hz)
      show AMC sa (19 + 1) 91 _ _ = _
      rw [fX7_image, eX7_image_0, c_out sa 18, aRI_mk, aOp_s, show iB (nI k) 0 1 = iL (nI k) 2 from rfl, hb, if_pos nb_t, gC_0, aOp_s, c_hasNoPost sa 18 h1.1 hB, aRI_mk, aOp_s, decide_eq_true hz, if_neg bvn]
    · have main : ∃ S1 : ST, AMC sa 20 91 [.ref co, .int (nI k)] (mk h co S) = some (some (.int 1), mk h co S1) ∧ cE h co S1 22 (iU I k P 0) ∧ cE h co S1 26 (iU I k P 1) ∧ fr 22 30 S S1 := by
        have hk' : k = 0 ∨ k = 1 := by omega
        rcases hk' with rfl | rfl
        · obtain ⟨S1, a1, a2, a3⟩ := c_become sa 18 h1.1 hB (c := 22) (Or.inr (Or.inr (Or.inl rfl))) (by decide)
          refine ⟨S1, ?_, a2, cE_fr h2.2.1 a3 (by decide), fr_mono a3 (by decide) (by decide)⟩
          show AMC sa (19 + 1) 91 _ _ = _
          rw [fX7_image, eX7_image_0, c_out sa 18, aRI_mk, aOp_s, show iB (nI 0) 0 1 = iL (nI 0) 2 from rfl, hb, if_pos nb_t, gC_0, aOp_s, c_hasNoPost sa 18 h1.1 hB, aRI_mk, aOp_s, decide_eq_false hz, if_pos bvf, gR_0_4, aOp_s, gRL0, aOp_s, gR_0_3, aOp_s, gC_22, aOp_s, a1, aRV_mk, aOp_s]
        · obtain ⟨S1, a1, a2, a3⟩ := c_become sa 18 h1.1 hB (c := 26) (Or.inr (Or.inr (Or.inr (Or.inl rfl)))) (by decide)
          refine ⟨S1, ?_, cE_fr h2.1 a3 (by decide), a2, fr_mono a3 (by decide) (by decide)⟩
          show AMC sa (19 + 1) 91 _ _ = _
          rw [fX7_image, eX7_image_0, c_out sa 18, aRI_mk, aOp_s, show iB (nI 1) 0 1 = iL (nI 1) 2 from rfl, hb, if_pos nb_t, gC_0, aOp_s, c_hasNoPost sa 18 h1.1 hB, aRI_mk, aOp_s, decide_eq_false hz, if_pos bvf, gR_0_4, aOp_s, gRL1, aOp_s, gR_0_3, aOp_s, gC_26, aOp_s, a1, aRV_mk, aOp_s]
      obtain ⟨S1, a1, a2, a3, a4⟩ := main
      obtain ⟨q1, q2, q3, q4, q5, q6, q7, q8⟩ := JM_sm h3 (sM_fr a4 (by decide))
      have g0 : sm (fun a => a < 22 ∨ 30 ≤ a) S S1 := sm_fr a4 (fun a ha => ha)
      obtain ⟨o1, o2, o3, o4, o5, o6, o7⟩ := h2
      refine ok_mk a1 (m_image_ok sa 17 h co q1 hB hk (by omega)) (P := P) (A := A) (n := n) (I := iU I k P) (ln := ln) (sz := sz) (it := it) (T := T) (len := len) (st := st) (ft := ft) (tr := tr) (tn := tn) (cE_fr h1.1 a4 (by decide)) (cA_fr h1.2 a4 (by decide)) ⟨a2, a3, rR_sm o3 g0 (by decide) (by decide) (by decide), tT_sm o4 g0 (by decide) (by decide), by rw [(g0 0 (by decide)).1]; exact o5, by rw [(g0 0 (by decide)).1]; exact o6, tC_sm o7 g0 (by decide) (by decide)⟩ ⟨q1, q2, mI_image q3 q1 (by omega) k, q4, q5, q6, q7, q8⟩ (sL_fr (fr_A (fr_A (fr_refl 40 53 S1) (by decide) (by decide) _) (by decide) (by decide) _) (by decide)) ⟨gd_mono h4.1 (by omega), fun j hj => ⟨gd_mono (h4.2.1 j hj).1 (by omega), (h4.2.1 j hj).2⟩, fun j hj => ?_⟩ h5 h6
      by_cases ej : j = k
      · rw [ej, iU_at]; exact gd_mono h4.1 (by omega)
      · rw [iU_ne _ _ ej]; exact gd_mono (h4.2.2 j hj) (by omega)
theorem k_restore {sa : Nat → Nat} {h : AH} {co N : Nat} {S : ST} (hJ : JJ sa h co N S) (x : Int32) : OK2 sa h co N S 92 [.ref co, .int x] 171 [.ref (co + 40), .int x] := by
  obtain ⟨P, A, n, I, ln, sz, it, T, len, st, ft, tr, tn, h1, h2, h3, h4, h5, h6⟩ := id hJ
  cases hb : iL x 2 with
  | false =>
    refine ok_same hJ ?_ (m_restore_bad sa 17 h co S x hb)
    show AMC sa (19 + 1) 92 _ _ = _
    rw [fX7_restore, eX7_restore_0, c_out sa 18, aRI_mk, aOp_s, show iB x 0 1 = iL x 2 from rfl, hb]
    exact if_neg nb_f
  | true =>
    obtain ⟨k, hk, rfl⟩ := iL_of (by decide) hb
    obtain ⟨gB, gK, g9, gp⟩ := id (h4.2.2 k hk)
    have g7 := gB.2.1
    have pre : ∃ c, (c = 22 ∨ c = 26) ∧ cE h co S c (I k) ∧ ∀ T, aRL (mk h co T) (co + 21) (nI k) = some (co + c) := by
      have hk' : k = 0 ∨ k = 1 := by omega
      rcases hk' with rfl | rfl
      · exact ⟨22, Or.inl rfl, h2.1, fun T => gRL0 h co T⟩
      · exact ⟨26, Or.inr rfl, h2.2.1, fun T => gRL1 h co T⟩
    obtain ⟨c, hc, hE, hr⟩ := pre
    have hq := hE.1
    by_cases hz : I k 3 = 0
    · refine ok_same hJ ?_ (m_restore_no sa 17 h co h3.2.2.1 hk hz)
      show AMC sa (19 + 1) 92 _ _ = _
      rw [fX7_restore, eX7_restore_0, c_out sa 18, aRI_mk, aOp_s, show iB (nI k) 0 1 = iL (nI k) 2 from rfl, hb, if_pos nb_t, gR_0_4, aOp_s, hr, aOp_s, qI4 hq, aOp_s, hE.2.2.1, if_pos (show nI (I k 3) = 0 by rw [hz]; rfl)]
    · obtain ⟨S1, a1, a2, a3⟩ := c_become sa 18 hE gB (c := 17) (Or.inr (Or.inl rfl)) (by rcases hc with rfl | rfl <;> decide)
      have f2 : fr 30 32 S1 (sI S1 30 2 0) := fr_I (fr_refl _ _ _) (by decide) (by decide) _ _
      have f3 : sm pA S (sI S1 30 2 0) := sm_trans (sA_fr a3 (by decide)) (sA_fr f2 (by decide))
      obtain ⟨q1, q2, q3, q4, q5, q6, q7, q8⟩ := JM_A h3 f3
      have c17 : ∀ b, b ≠ 17 → (sI (sM (sI S1 30 2 0) 46 (I k)) 40 17 0).1 40 b = (sI S1 30 2 0).1 40 b := fun b hb => (sI_ne _ _ (by omega)).trans rfl
      refine ok_mk ?_ (m_restore_ok sa 17 h co q3 hk (by omega)) (P := I k) (A := A) (n := 0) (I := I) (ln := ln) (sz := sz) (it := it) (T := T) (len := len) (st := st) (ft := ft) (tr := tr) (tn := tn) (cE_fr a2 f2 (by decide)) (cA_forget (cA_fr h1.2 a3 (by decide)) _ _) (JO_A h2 f3) ⟨pE_sM (Or.inl rfl) (I k), ⟨sI_at _ _ _ _, by decide, fun j hj => by omega⟩, q3, q4, ⟨(c17 6 (by decide)).trans q5.1, q5.2.1, q5.2.2⟩, (c17 4 (by decide)).trans q6, (c17 7 (by decide)).trans q7, ⟨(c17 21 (by decide)).trans q8.1, q8.2.1, q8.2.2⟩⟩ (sL_fr (fr_I (fr_M (fr_refl 40 53 _) (by decide) (by decide) (I k)) (by decide) (by decide) _ _) (by decide)) ⟨gd_mono (h4.2.2 k hk) (by omega), fun j hj => by omega, fun j hj => gd_mono (h4.2.2 j hj) (by omega)⟩ h5 h6
      show AMC sa (19 + 1) 92 _ _ = _
      rw [fX7_restore, eX7_restore_0, c_out sa 18, aRI_mk, aOp_s, show iB (nI k) 0 1 = iL (nI k) 2 from rfl, hb, if_pos nb_t, gR_0_4, aOp_s, hr, aOp_s, qI4 hq, aOp_s, hE.2.2.1, if_neg (nI_ne0 (by omega) (by omega)), gR_0_3, aOp_s, aOp_s, hr, aOp_s, gC_17, aOp_s, a1, aRV_mk, aOp_s, gR_0_5, aOp_s, gC_30, aOp_s, c_forget sa 18, aRV_mk, aOp_s]
/-! post -/
theorem cw_0 {P : PS} (k : Nat) : cw P k ≤ k := cw_le P k
theorem k_post {sa : Nat → Nat} {h : AH} {co N : Nat} {S : ST} (hJ : JJ sa h co N S) : OK2 sa h co N S 70 [.ref co] 133 [.ref (co + 40)] := by
  obtain ⟨P, A, n, I, ln, sz, it, T, len, st, ft, tr, tn, h1, h2, h3, h4, h5, h6⟩ := id hJ
  obtain ⟨o1, o2, o3, o4, o5, o6, o7⟩ := id h2
  rcases c_post sa 14 o4 h6 with ⟨z0, U, a1, a2, a3⟩ | ⟨z0, hg, h', U, V, a1, a2, a3, a4, a5, a6, a7, a8⟩
  · have f2 : fr 0 1 U (sI U 0 8 (nI (zAll T len).1)) := fr_I (fr_refl _ _ _) (by decide) (by decide) _ _
    have mm := JM_sm (JM_sm h3 (sM_fr a3 (by decide))) (sM_fr f2 (by decide))
    obtain ⟨q1, q2, q3, q4, q5, q6, q7, q8⟩ := mm
    have g0 : sm (fun a => 1 ≤ a ∧ (a < 10 ∨ 17 ≤ a)) S (sI U 0 8 (nI (zAll T len).1)) := fun a ha => ⟨(f2 a (by omega)).1.trans (a3 a (by omega)).1, (f2 a (by omega)).2.1.trans (a3 a (by omega)).2.1, (f2 a (by omega)).2.2.trans (a3 a (by omega)).2.2⟩
    obtain ⟨S2, b1, b2⟩ := m_post sa 13 h co q5
    rcases b2 with ⟨y0, y1, y2, y3, y4⟩ | ⟨y0, -⟩
    · have fM' : fr 40 53 (sI U 0 8 (nI (zAll T len).1)) (sI S2 40 6 0) := fr_I (fr_fP b1) (by decide) (by decide) _ _
      have c6 : ∀ b, b ≠ 6 → (sI S2 40 6 0).1 40 b = S2.1 40 b := fun b hb => sI_ne _ _ (by omega)
      have cf : ∀ b, ¬ (7 ≤ b ∧ b ≤ 12) → S2.1 40 b = (sI U 0 8 (nI (zAll T len).1)).1 40 b := fun b hb => b1.2.2 40 b (by omega)
      have ca : ∀ a, a ≠ 47 → S2.2.2 a = (sI U 0 8 (nI (zAll T len).1)).2.2 a := fun a ha => b1.2.1 a ha
      refine ok_mk a1 y4 (P := P) (A := A) (n := n) (I := I) (ln := ln) (sz := sz) (it := it) (T := T) (len := 0) (st := st) (ft := nI (zAll T len).1) (tr := tr) (tn := tn) (cE_sm h1.1 g0 (fun a x1 x2 => by omega)) (cA_sm h1.2 g0 (by decide) (by decide)) ⟨cE_sm o1 g0 (fun a x1 x2 => by omega), cE_sm o2 g0 (fun a x1 x2 => by omega), rR_sm o3 g0 (by decide) (by decide) (by decide), ⟨(sI_ne _ _ (by decide)).trans a2, by decide, fun j hj => by omega⟩, ?_, sI_at _ _ _ _, tC_sm o7 g0 (by decide) (by decide)⟩ ⟨⟨q1.1, fun j hj => ?_⟩, ?_, ?_, ?_, ⟨sI_at _ _ _ _, by decide, fun j hj => by omega⟩, ?_, (c6 7 (by decide)).trans y3, ?_⟩ (sL_fr fM' (by decide)) (JG_mono h4 (by omega)) h5 h6
      · rw [sI_ne _ _ (by decide), (a3 0 (by decide)).1]; exact o5
      · show S2.2.2 46 j = _
        rw [ca 46 (by decide)]; exact q1.2 j hj
      · unfold aP
        rw [c6 17 (by decide), cf 17 (by decide)]
        show _ ∧ _ ∧ ∀ k, k < n → ∀ j, j < 40 → S2.2.2 49 (40 * k + j) = _
        rw [ca 49 (by decide)]; exact q2
      · show mI S2 I
        unfold mI; rw [ca 51 (by decide), ca 50 (by decide)]; exact q3
      · show rR S2 41 (-1000000) ln sz it
        unfold rR; rw [ca 41 (by decide), ca (41 + 1) (by decide), ca (41 + 2) (by decide)]; exact q4
      · rw [c6 4 (by decide), cf 4 (by decide)]; exact q6
      · unfold tC
        rw [c6 21 (by decide), cf 21 (by decide)]
        show _ ∧ _ ∧ ∀ j, j < tn → S2.2.2 52 j = tr j
        rw [ca 52 (by decide)]; exact q8
    · exact absurd y0 z0
  · have f3 : fr 30 32 V (sI V 30 2 0) := fr_I (fr_refl _ _ _) (by decide) (by decide) _ _
    have mm := JM_sm (JM_sm (JM_sm h3 (sM_fr a4 (by decide))) (sM_fr a5 (by decide))) (sM_fr f3 (by decide))
    obtain ⟨q1, q2, q3, q4, q5, q6, q7, q8⟩ := mm
    have g0 : sm (fun a => a < 10 ∨ (21 ≤ a ∧ a < 30) ∨ 32 ≤ a) S (sI V 30 2 0) := fun a ha => ⟨(f3 a (by omega)).1.trans ((a5 a (by omega)).1.trans (a4 a (by omega)).1), (f3 a (by omega)).2.1.trans ((a5 a (by omega)).2.1.trans (a4 a (by omega)).2.1), (f3 a (by omega)).2.2.trans ((a5 a (by omega)).2.2.trans (a4 a (by omega)).2.2)⟩
    obtain ⟨S2, b1, b2⟩ := m_post sa 13 h' co q5
    rcases b2 with ⟨y0, -⟩ | ⟨-, y1, y2, y3, y4⟩
    · exact absurd z0 y0
    · obtain ⟨S3, hS3⟩ : ∃ S3, S3 = sI (sM (sI S2 40 6 0) 46 (zAll T len).2.2) 40 17 0 := ⟨_, rfl⟩
      have fM' : fr 40 53 (sI V 30 2 0) S3 := by
        rw [hS3]
        exact fr_I (fr_M (fr_I (fr_fP b1) (by decide) (by decide) _ _) (by decide) (by decide) _) (by decide) (by decide) _ _
      have c1 : ∀ b, b ≠ 6 → b ≠ 17 → S3.1 40 b = S2.1 40 b := fun b hb hb2 => by
        rw [hS3, sI_ne _ _ (by omega)]
        show (sI S2 40 6 0).1 40 b = _
        rw [sI_ne _ _ (by omega)]
      have cf : ∀ b, ¬ (7 ≤ b ∧ b ≤ 12) → S2.1 40 b = (sI V 30 2 0).1 40 b := fun b hb => b1.2.2 40 b (by omega)
      have ca : ∀ a, a ≠ 47 → a ≠ 46 → S3.2.2 a = (sI V 30 2 0).2.2 a := fun a ha hb => by
        rw [hS3]
        show (sM (sI S2 40 6 0) 46 (zAll T len).2.2).2.2 a = _
        rw [show (sM (sI S2 40 6 0) 46 (zAll T len).2.2).2.2 a = S2.2.2 a from sA_ne _ _ _ hb]
        exact b1.2.1 a ha
      rw [← hS3] at y4
      have hpay : pay (N + 1) (zAll T len).2.2 := by
        unfold pay
        have := cw_le (zAll T len).2.2 7
        rw [hg.2.2.2.1]
        omega
      have hgd : gd (N + 1) (zAll T len).2.2 := ⟨hg.1, hg.2.1, by rw [hg.2.2.1]; decide, hpay⟩
      have kL := sL_fr fM' (by decide)
      refine ⟨_, h', sI V 30 2 0, S3, a1, y4, ⟨(zAll T len).2.2, A, 0, I, ln, sz, it, T, 0, st, ft, tr, tn, ⟨cE_sm (cE_fr a2 f3 (by decide)) kL (fun a x1 x2 => by unfold pL; omega), cA_sm (cA_forget (cA_fr (cA_fr h1.2 a4 (by decide)) a5 (by decide)) _ A) kL (by unfold pL; decide) (by unfold pL; decide)⟩, JO_sm ⟨cE_sm (cE_gr o1 a6) g0 (fun a x1 x2 => by omega), cE_sm (cE_gr o2 a6) g0 (fun a x1 x2 => by omega), rR_sm o3 g0 (by decide) (by decide) (by decide), ⟨?_, by decide, fun j hj => by omega⟩, ?_, ?_, tC_sm o7 g0 (by decide) (by decide)⟩ (sm_mono kL (fun a ha => by unfold pO at ha; unfold pL; omega)), ⟨?_, ?_, ?_, ?_, ?_, ?_, ?_, ?_⟩, ⟨hgd, fun j hj => by omega, fun j hj => gd_mono (h4.2.2 j hj) (by omega)⟩, sT_gr h5 a6, by have := a6.1; omega⟩, a6, by omega, by omega⟩
      · rw [(f3 10 (by decide)).1, (a5 10 (by decide)).1]; exact a3
      · rw [(g0 0 (by decide)).1]; exact o5
      · rw [(g0 0 (by decide)).1]; exact o6
      · rw [hS3]
        exact ⟨Or.inl rfl, fun j hj => (pE_sM (S := sI S2 40 6 0) (Or.inl rfl) (zAll T len).2.2).2 j hj⟩
      · rw [hS3]
        exact ⟨sI_at _ _ _ _, by decide, fun j hj => by omega⟩
      · unfold mI; rw [ca 51 (by decide) (by decide), ca 50 (by decide) (by decide)]; exact q3
      · unfold rR; rw [ca 41 (by decide) (by decide), ca (41 + 1) (by decide) (by decide), ca (41 + 2) (by decide) (by decide)]; exact q4
      · refine ⟨?_, by decide, fun j hj => by omega⟩
        rw [hS3, sI_ne _ _ (by decide)]
        show (sI S2 40 6 0).1 40 6 = _
        rw [sI_at]
        rfl
      · rw [c1 4 (by decide) (by decide), cf 4 (by decide)]; exact q6
      · rw [c1 7 (by decide) (by decide), y1]; exact q7
      · unfold tC; rw [c1 21 (by decide) (by decide), cf 21 (by decide), ca 52 (by decide) (by decide)]; exact q8
