/-! ===== calls: rows, the tape's end, kinds, asked ===== -/
theorem ok_st2 {sa : Nat → Nat} {h : AH} {co N : Nat} {S : ST} {P : PS} {A : Nat → PS} {n : Nat} {I : Nat → PS} {ln sz : Nat → Nat} {it : Nat → Nat → Int32} {T : Nat → Nat} {len : Nat} {st ft : Int32} {tr : Nat → Int32} {tn : Nat} (h1 : cE h co S 17 P ∧ cA S P A n) (h2 : JO h co S I ln sz it T len st ft tr tn) (h3 : JM S P A n I ln sz it T len st ft tr tn) (h4 : JG P A n I N) (h5 : sT sa h co) (h6 : co + 53 ≤ h.1) {jc : Nat} {as : List Value} {jm : Nat} {bs : List Value} {v x : Int32} (e1 : AMC sa 20 jc as (mk h co S) = some (some (.int v), mk h co (sI S 0 9 x))) (e2 : JM (sI S 0 9 x) P A n I ln sz it T len st ft tr tn → AMC sa 20 jm bs (mk h co (sI S 0 9 x)) = some (some (.int v), mk h co (sI (sI S 0 9 x) 40 4 x))) : OK2 sa h co N S jc as jm bs := by
  have f1 : fr 0 1 S (sI S 0 9 x) := fr_I (fr_refl _ _ _) (by decide) (by decide) _ _
  have m1 := JM_sm h3 (sM_fr f1 (by decide))
  have f2 : fr 40 53 (sI S 0 9 x) (sI (sI S 0 9 x) 40 4 x) := fr_I (fr_refl _ _ _) (by decide) (by decide) _ _
  have e2 := e2 m1
  obtain ⟨o1, o2, o3, o4, o5, o6, o7⟩ := h2
  obtain ⟨q1, q2, q3, q4, q5, q6, q7, q8⟩ := m1
  exact ok_mk e1 e2 (cE_fr h1.1 f1 (by decide)) (cA_fr h1.2 f1 (by decide)) ⟨cE_fr o1 f1 (by decide), cE_fr o2 f1 (by decide), o3, o4, sI_at _ _ _ _, (sI_ne _ _ (by decide)).trans o6, o7⟩ ⟨q1, q2, q3, q4, q5, sI_at _ _ _ _, (sI_ne _ _ (by decide)).trans q7, q8⟩ (sL_fr f2 (by decide)) (JG_mono h4 (by omega)) h5 h6
/-- rows changed, all well -/
theorem ok_rows {sa : Nat → Nat} {h : AH} {co N : Nat} {S S1 S2 : ST} {P : PS} {A : Nat → PS} {n : Nat} {I : Nat → PS} {ln sz : Nat → Nat} {it : Nat → Nat → Int32} {T : Nat → Nat} {len : Nat} {st ft : Int32} {tr : Nat → Int32} {tn : Nat} (h1 : cE h co S 17 P ∧ cA S P A n) (h2 : JO h co S I ln sz it T len st ft tr tn) (h3 : JM S P A n I ln sz it T len st ft tr tn) (h4 : JG P A n I N) (h5 : sT sa h co) (h6 : co + 53 ≤ h.1) {jc : Nat} {as : List Value} {jm : Nat} {bs : List Value} {v : Int32} (e1 : AMC sa 20 jc as (mk h co S) = some (some (.int v), mk h co S1)) (f1 : fr 0 10 S S1) (s9 : S1.1 0 9 = 0) (s8 : S1.1 0 8 = S.1 0 8) {ln' sz' : Nat → Nat} {it' : Nat → Nat → Int32} (r1 : rR S1 7 (-1) ln' sz' it') (e2 : AMC sa 20 jm bs (mk h co S1) = some (some (.int v), mk h co S2)) (f2 : fr 40 45 S1 S2) (m4 : S2.1 40 4 = 0) (mo : ∀ b, b ≠ 4 → S2.1 40 b = S1.1 40 b) (r2 : rR S2 41 (-1000000) ln' sz' it') : OK2 sa h co N S jc as jm bs := by
  obtain ⟨q1, q2, q3, q4, q5, q6, q7, q8⟩ := JM_sm h3 (sM_fr f1 (by decide))
  obtain ⟨o1, o2, o3, o4, o5, o6, o7⟩ := h2
  have g : sm (fun a => 10 ≤ a) S S1 := sm_fr f1 (fun a ha => by omega)
  have g2 : sm (fun a => 45 ≤ a) S1 S2 := sm_fr f2 (fun a ha => by omega)
  have gl : ∀ a, 45 ≤ a → S2.2.2 a = S1.2.2 a := fun a ha => (g2 a ha).2.2
  refine ok_mk e1 e2 (P := P) (A := A) (n := n) (I := I) (ln := ln') (sz := sz') (it := it') (T := T) (len := len) (st := 0) (ft := ft) (tr := tr) (tn := tn) (cE_fr h1.1 f1 (by decide)) (cA_fr h1.2 f1 (by decide)) ⟨cE_fr o1 f1 (by decide), cE_fr o2 f1 (by decide), r1, tT_sm o4 g (by decide) (by decide), s9, s8.trans o6, tC_sm o7 g (by decide) (by decide)⟩ ?_ (sL_fr f2 (by decide)) (JG_mono h4 (by omega)) h5 h6
  refine ⟨⟨q1.1, fun j hj => by rw [gl 46 (by decide)]; exact q1.2 j hj⟩, ?_, ?_, r2, ?_, m4, by rw [mo 7 (by decide)]; exact q7, ?_⟩
  · unfold aP; rw [mo 17 (by decide), gl 49 (by decide)]; exact q2
  · unfold mI; rw [gl 51 (by decide), gl 50 (by decide)]; exact q3
  · unfold tT; rw [mo 6 (by decide), gl 45 (by decide)]; exact q5
  · unfold tC; rw [mo 21 (by decide), gl 52 (by decide)]; exact q8
theorem k_row {sa : Nat → Nat} {h : AH} {co N : Nat} {S : ST} (hJ : JJ sa h co N S) (x y z : Int32) : OK2 sa h co N S 65 [.ref co, .int x, .int y, .int z] 116 [.ref (co + 40), .int x, .int y, .int z] := by
  obtain ⟨P, A, n, I, ln, sz, it, T, len, st, ft, tr, tn, h1, h2, h3, h4, h5, h6⟩ := id hJ
  cases hb : iL x 8 && (iL y 3 && decide (z ≤ 40)) with
  | false => exact ok_same hJ (c_row_bad sa 17 h co S x y z hb) (m_row_bad sa 17 h co S x y z hb)
  | true =>
    rw [Bool.and_eq_true, Bool.and_eq_true] at hb
    obtain ⟨r, hr, rfl⟩ := iL_of (by decide) hb.1
    obtain ⟨l, hl, rfl⟩ := iL_of (by decide) hb.2.1
    have hz := of_decide_eq_true hb.2.2
    by_cases h0 : 0 ≤ z
    · obtain ⟨k, hk, rfl⟩ := nI_of2 (M := 40) (n := 40) (by decide) (Int32.not_lt.mpr h0) hz
      refine ok_rows h1 h2 h3 h4 h5 h6 (c_row_ok sa 17 h co S hr hl hk) (fr_A (fr_A (fr_A (fr_I (fr_refl _ _ _) (by decide) (by decide) _ _) (by decide) (by decide) _) (by decide) (by decide) _) (by decide) (by decide) _) (sI_at S 0 9 0) (sI_ne S (c := 0) (k := 9) (c' := 0) (k' := 8) 0 (by decide)) (rF_row h2.2.2.1 hr hl hk (Nat.le_refl _) hk) (m_row_ok sa 17 h co _ hr hl hk) (fr_I (fr_A (fr_A (fr_A (fr_refl _ _ _) (by decide) (by decide) _) (by decide) (by decide) _) (by decide) (by decide) _) (by decide) (by decide) _ _) (sI_at _ _ _ _) (fun b hb => sI_ne _ _ (by omega)) ?_
      exact rF_row h3.2.2.2.1 hr hl hk hk (Nat.le_refl _)
    · exact ok_st2 h1 h2 h3 h4 h5 h6 (c_row_size sa 17 h co S hr hl hz h0) (fun _ => m_row_size sa 17 h co _ hr hl hz h0)
theorem k_set {sa : Nat → Nat} {h : AH} {co N : Nat} {S : ST} (hJ : JJ sa h co N S) (x i v : Int32) : OK2 sa h co N S 66 [.ref co, .int x, .int i, .int v] 117 [.ref (co + 40), .int x, .int i, .int v] := by
  obtain ⟨P, A, n, I, ln, sz, it, T, len, st, ft, tr, tn, h1, h2, h3, h4, h5, h6⟩ := id hJ
  cases hb : iL x 8 with
  | false => exact ok_same hJ (c_set_bad sa 17 h co S x i v hb) (m_set_bad sa 17 h co S x i v hb)
  | true =>
    obtain ⟨r, hr, rfl⟩ := iL_of (by decide) hb
    have hs := (h2.2.2.1 r hr).2.1
    by_cases hm : ln r = 3
    · exact ok_st2 h1 h2 h3 h4 h5 h6 (c_set_null sa 17 h co h2.2.2.1 hr i v hm) (fun m => m_set_null sa 17 h co m.2.2.2.1 hr i v hm)
    · cases hi : iL i (sz r) with
      | false => exact ok_st2 h1 h2 h3 h4 h5 h6 (c_set_place sa 17 h co h2.2.2.1 hr i v hm hi) (fun m => m_set_place sa 17 h co m.2.2.2.1 hr i v hm hi)
      | true =>
        obtain ⟨k, hk, rfl⟩ := iL_of (by omega) hi
        have f1 : fr 0 10 S (sA (sI S 0 9 0) 9 (upd (S.2.2 9) (40 * r + k) (rCut (ln r) v))) := fr_A (fr_I (fr_refl _ _ _) (by decide) (by decide) _ _) (by decide) (by decide) _
        refine ok_rows h1 h2 h3 h4 h5 h6 (c_set_ok sa 17 h co h2.2.2.1 hr v hm hk) f1 (sI_at S 0 9 0) (sI_ne S (c := 0) (k := 9) (c' := 0) (k' := 8) 0 (by decide)) (rF_set h2.2.2.1 hr (by omega) _) (m_set_ok sa 17 h co (JM_sm h3 (sM_fr f1 (by decide))).2.2.2.1 hr v hm hk) (fr_I (fr_A (fr_refl _ _ _) (by decide) (by decide) _) (by decide) (by decide) _ _) (sI_at _ _ _ _) (fun b hb => sI_ne _ _ (by omega)) ?_
        exact rF_set h3.2.2.2.1 hr (by omega) _
theorem k_copy {sa : Nat → Nat} {h : AH} {co N : Nat} {S : ST} (hJ : JJ sa h co N S) (a i b j m : Int32) : OK2 sa h co N S 67 [.ref co, .int a, .int i, .int b, .int j, .int m] 119 [.ref (co + 40), .int a, .int i, .int b, .int j, .int m] := by
  obtain ⟨P, A, n, I, ln, sz, it, T, len, st, ft, tr, tn, h1, h2, h3, h4, h5, h6⟩ := id hJ
  cases hb : iL a 8 && iL b 8 with
  | false => exact ok_same hJ (c_copy_bad sa 17 h co S a i b j m hb) (m_copy_bad sa 17 h co S a i b j m hb)
  | true =>
    rw [Bool.and_eq_true] at hb
    obtain ⟨r, hr, rfl⟩ := iL_of (by decide) hb.1
    obtain ⟨q, hq, rfl⟩ := iL_of (by decide) hb.2
    by_cases hm : ln r = 3 ∨ ln q = 3
    · exact ok_st2 h1 h2 h3 h4 h5 h6 (c_copy_null sa 17 h co h2.2.2.1 hr hq i j m hm) (fun z => m_copy_null sa 17 h co z.2.2.2.1 hr hq i j m hm)
    · have m1 : ln r ≠ 3 := fun z => hm (Or.inl z)
      have m2 : ln q ≠ 3 := fun z => hm (Or.inr z)
      by_cases hl : ln r = ln q
      · cases hp : rPt (sz r) i m && rPt (sz q) j m with
        | false =>
          have c1 := c_copy_go sa 17 h co h2.2.2.1 hr hq i j m m1 hl
          rw [hp] at c1
          refine ok_st2 h1 h2 h3 h4 h5 h6 c1 (fun z => ?_)
          have c2 := m_copy_go sa 17 h co z.2.2.2.1 hr hq i j m m1 hl
          rw [hp] at c2
          exact c2
        | true =>
          rw [Bool.and_eq_true] at hp
          obtain ⟨i', m', rfl, rfl, s1, s2, s3⟩ := rPt_of hp.1
          obtain ⟨j', m'', rfl, em, s4, s5, s6⟩ := rPt_of hp.2
          have em : m' = m'' := (nI_eq s3 s6).mp em
          subst em
          have f1 : fr 0 10 S (sA (sI S 0 9 0) 9 (va_cpy (S.2.2 9) (S.2.2 9) (40 * r + i') (40 * q + j') m')) := fr_A (fr_I (fr_refl _ _ _) (by decide) (by decide) _ _) (by decide) (by decide) _
          obtain ⟨f, ef⟩ := m_copy_ok sa 17 h co (JM_sm h3 (sM_fr f1 (by decide))).2.2.2.1 hr hq m1 hl s1 s4
          refine ok_rows h1 h2 h3 h4 h5 h6 (c_copy_ok sa 17 h co h2.2.2.1 hr hq m1 hl s1 s4) f1 (sI_at S 0 9 0) (sI_ne S (c := 0) (k := 9) (c' := 0) (k' := 8) 0 (by decide)) (rF_copy h2.2.2.1 hr hq s1 s4) ef (fr_I (fr_A (fr_A (fr_refl _ _ _) (by decide) (by decide) _) (by decide) (by decide) _) (by decide) (by decide) _ _) (sI_at _ _ _ _) (fun b hb => sI_ne _ _ (by omega)) ?_
          exact rF_copy h3.2.2.2.1 hr hq s1 s4
      · exact ok_st2 h1 h2 h3 h4 h5 h6 (c_copy_store sa 17 h co h2.2.2.1 hr hq i j m m1 m2 hl) (fun z => m_copy_store sa 17 h co z.2.2.2.1 hr hq i j m m1 m2 hl)
theorem k_drop {sa : Nat → Nat} {h : AH} {co N : Nat} {S : ST} (hJ : JJ sa h co N S) (x : Int32) : OK2 sa h co N S 68 [.ref co, .int x] 120 [.ref (co + 40), .int x] := by
  obtain ⟨P, A, n, I, ln, sz, it, T, len, st, ft, tr, tn, h1, h2, h3, h4, h5, h6⟩ := id hJ
  cases hb : iL x 8 with
  | false => exact ok_same hJ (c_drop_bad sa 17 h co S x hb) (m_drop_bad sa 17 h co S x hb)
  | true =>
    obtain ⟨r, hr, rfl⟩ := iL_of (by decide) hb
    by_cases hm : ln r = 3
    · exact ok_st2 h1 h2 h3 h4 h5 h6 (c_drop_null sa 17 h co h2.2.2.1 hr hm) (fun m => m_drop_null sa 17 h co m.2.2.2.1 hr hm)
    · have f1 : fr 0 10 S (sA (sI S 0 9 0) 7 (upd (S.2.2 7) r (-1))) := fr_A (fr_I (fr_refl _ _ _) (by decide) (by decide) _ _) (by decide) (by decide) _
      refine ok_rows h1 h2 h3 h4 h5 h6 (c_drop_ok sa 17 h co h2.2.2.1 hr hm) f1 (sI_at S 0 9 0) (sI_ne S (c := 0) (k := 9) (c' := 0) (k' := 8) 0 (by decide)) (rF_drop h2.2.2.1 r) (m_drop_ok sa 17 h co (JM_sm h3 (sM_fr f1 (by decide))).2.2.2.1 hr hm) (fr_I (fr_A (fr_refl _ _ _) (by decide) (by decide) _) (by decide) (by decide) _ _) (sI_at _ _ _ _) (fun b hb => sI_ne _ _ (by omega)) ?_
      exact rF_drop h3.2.2.2.1 r
theorem k_feed {sa : Nat → Nat} {h : AH} {co N : Nat} {S : ST} (hJ : JJ sa h co N S) (x : Int32) : OK2 sa h co N S 69 [.ref co, .int x] 121 [.ref (co + 40), .int x] := by
  obtain ⟨P, A, n, I, ln, sz, it, T, len, st, ft, tr, tn, h1, h2, h3, h4, h5, h6⟩ := id hJ
  cases hb : iL x 256 with
  | false => exact ok_same hJ (c_feed_bad sa 17 h co S x hb) (m_feed_bad sa 17 h co S x hb)
  | true =>
    obtain ⟨b, hb2, rfl⟩ := iL_of (by decide) hb
    by_cases hl : len = 100
    · subst hl
      exact ok_same hJ (c_feed_full sa 17 h co h2.2.2.2.1 hb2) (m_feed_full sa 17 h co h3.2.2.2.2.1 hb2)
    · have hl' : len < 100 := by have := h2.2.2.2.1.2.1; omega
      have f1 : fr 10 12 S (sI (sA S 11 (upd (S.2.2 11) len (nI b))) 10 2 (nI (len + 1))) := fr_I (fr_A (fr_refl _ _ _) (by decide) (by decide) _) (by decide) (by decide) _ _
      obtain ⟨q1, q2, q3, q4, q5, q6, q7, q8⟩ := JM_sm h3 (sM_fr f1 (by decide))
      obtain ⟨o1, o2, o3, o4, o5, o6, o7⟩ := h2
      refine ok_mk (c_feed_ok sa 17 h co o4 hl' hb2) (m_feed_ok sa 17 h co q5 hl' hb2) (P := P) (A := A) (n := n) (I := I) (ln := ln) (sz := sz) (it := it) (T := pUp T len b) (len := len + 1) (st := st) (ft := ft) (tr := tr) (tn := tn) (cE_fr h1.1 f1 (by decide)) (cA_fr h1.2 f1 (by decide)) ⟨cE_fr o1 f1 (by decide), cE_fr o2 f1 (by decide), o3, tT_feed o4 hl' hb2 (sI_at _ _ _ _) rfl, (sI_ne _ _ (by decide)).trans o5, (sI_ne _ _ (by decide)).trans o6, ⟨(sI_ne _ _ (by decide)).trans o7.1, o7.2.1, o7.2.2⟩⟩ ?_ (sL_fr (fr_I (fr_A (fr_refl 40 53 _) (by decide) (by decide) _) (by decide) (by decide) _ _) (by decide)) (JG_mono h4 (by omega)) h5 h6
      exact ⟨q1, ⟨(sI_ne _ _ (by decide)).trans q2.1, q2.2.1, q2.2.2⟩, q3, q4, tT_feed q5 hl' hb2 (sI_at _ _ _ _) rfl, (sI_ne _ _ (by decide)).trans q6, (sI_ne _ _ (by decide)).trans q7, ⟨(sI_ne _ _ (by decide)).trans q8.1, q8.2.1, q8.2.2⟩⟩
/-! letters as they are -/
theorem nb_t : bv (!true) = 0 := rfl
theorem nb_f : ¬ bv (!false) = 0 := by decide
theorem k_kind {sa : Nat → Nat} {h : AH} {co N : Nat} {S : ST} (hJ : JJ sa h co N S) (x : Int32) : OK2 sa h co N S 93 [.ref co, .int x] 173 [.ref (co + 40), .int x] := by
  obtain ⟨P, A, n, I, ln, sz, it, T, len, st, ft, tr, tn, h1, h2, h3, h4, h5, h6⟩ := id hJ
  have h7 := h4.1.1.2.1
  cases hb : iL x (P 3) with
  | false =>
    refine ok_same hJ ?_ (m_kind_bad sa 17 h co h3.1 x hb)
    show AMC sa (19 + 1) 93 _ _ = _
    rw [fX7_kind, eX7_kind_0, gC_0, aOp_s, c_hasNo sa 17 h1.1, aRI_mk, aOp_s, hb]
    exact if_neg nb_f
  | true =>
    obtain ⟨l, hl, rfl⟩ := iL_of (by omega) hb
    refine ok_same hJ ?_ (m_kind_ok sa 17 h co h3.1 h4.1.1 hl)
    show AMC sa (19 + 1) 93 _ _ = _
    rw [fX7_kind, eX7_kind_0, gC_0, aOp_s, c_hasNo sa 17 h1.1, aRI_mk, aOp_s, hb, if_pos nb_t, gR_0_3, aOp_s, gR_17_0, aOp_s, show aIL (mk h co S) (co + 18) (nI l) = some (S.2.2 18 l) from qL (c := 17) h1.1.1 h co S (j := 1) (by decide) (by decide) (by omega), aOp_s, show S.2.2 18 l = nI (P (12 + 4 * l)) from (h1.1.2.2.2.2.2.2.2.2 l hl).1]
theorem k_ounces {sa : Nat → Nat} {h : AH} {co N : Nat} {S : ST} (hJ : JJ sa h co N S) (x : Int32) : OK2 sa h co N S 80 [.ref co, .int x] 155 [.ref (co + 40), .int x] := by
  obtain ⟨P, A, n, I, ln, sz, it, T, len, st, ft, tr, tn, h1, h2, h3, h4, h5, h6⟩ := id hJ
  have h6' := h4.1.1.1
  cases hb : iL x (P 2) with
  | false =>
    refine ok_same hJ ?_ (m_ounces_bad sa 17 h co h3.1 x hb)
    show AMC sa (19 + 1) 80 _ _ = _
    rw [fX7_ounces, eX7_ounces_0, gC_0, aOp_s, c_hasNoWord sa 17 h1.1 h4.1.1, aRI_mk, aOp_s, hb]
    exact if_neg nb_f
  | true =>
    obtain ⟨k, hk, rfl⟩ := iL_of (by omega) hb
    obtain ⟨a1, a2, a3, r, g⟩ := wE_get h1.1.2.1 h4.1.1
    have hp : 2 ^ k < 2 ^ P 2 := Nat.pow_lt_pow_right (by decide) hk
    refine ok_same hJ ?_ (m_ounces_ok sa 17 h co h3.1 h4.1.1 hk)
    show AMC sa (19 + 1) 80 _ _ = _
    rw [fX7_ounces, eX7_ounces_0, gC_0, aOp_s, c_hasNoWord sa 17 h1.1 h4.1.1, aRI_mk, aOp_s, hb, if_pos nb_t, gR_0_3, aOp_s, gR_17_3, aOp_s, (r S).2.1, aOp_s, n_shl1 k (by omega), (g S _ hp).1, aOp_s, oS_pow P h6' hk]
theorem k_letter {sa : Nat → Nat} {h : AH} {co N : Nat} {S : ST} (hJ : JJ sa h co N S) (x w : Int32) : OK2 sa h co N S 79 [.ref co, .int x, .int w] 154 [.ref (co + 40), .int x, .int w] := by
  obtain ⟨P, A, n, I, ln, sz, it, T, len, st, ft, tr, tn, h1, h2, h3, h4, h5, h6⟩ := id hJ
  have h7 := h4.1.1.2.1
  cases hb : iL x (P 3) with
  | false =>
    refine ok_same hJ ?_ (m_letter_bad sa 14 h co h3.1 x w hb)
    show AMC sa (19 + 1) 79 _ _ = _
    rw [fX7_letter, eX7_letter_0, gC_0, aOp_s, c_hasNo sa 17 h1.1, aRI_mk, aOp_s, hb]
    exact if_neg nb_f
  | true =>
    obtain ⟨l, hl, rfl⟩ := iL_of (by omega) hb
    refine ok_same hJ ?_ (m_letter_ok sa 14 h co h3.1 h4.1.1 hl w)
    obtain ⟨j1, j2, j3⟩ := h1.1.2.2.2.2.2.2.2.2 l hl
    have hv := (h4.1.1.2.2.2.1 l (by omega)).2.2.2
    show AMC sa (19 + 1) 79 _ _ = _
    rw [fX7_letter, eX7_letter_0, gC_0, aOp_s, c_hasNo sa 17 h1.1, aRI_mk, aOp_s, hb, if_pos nb_t]
    simp only [gR_0_3, gR_17_1, gR_17_2, aOp_s]
    rw [show aIL (mk h co S) (co + 19) (nI l) = some (S.2.2 19 l) from qL (c := 17) h1.1.1 h co S (j := 2) (by decide) (by decide) (by omega), show aIL (mk h co S) (co + 20) (nI l) = some (S.2.2 20 l) from qL (c := 17) h1.1.1 h co S (j := 3) (by decide) (by decide) (by omega), gC_17, c_unsaid sa 18 h1.1 h4.1.1 hl, c_weight sa 17 h1.1 h4.1.1 h4.1.2.1 hl, c_waits sa 18 h1.1 h4.1.1 hl, c_blurt sa 16 h1.1 h4.1.1 h4.1.2.1 hl, show S.2.2 19 l = nI (P (13 + 4 * l)) from j2, show S.2.2 20 l = nI (P (14 + 4 * l)) from j3]
    simp only [aOp_s, aRI_mk]
    unfold pLt
    by_cases a0 : w = 0
    · rw [if_pos a0, if_pos a0]
    rw [if_neg a0, if_neg a0]
    by_cases a1 : w = 1
    · rw [if_pos a1, if_pos a1]
    rw [if_neg a1, if_neg a1]
    by_cases a2 : w = 2
    · rw [if_pos a2, if_pos a2]
    rw [if_neg a2, if_neg a2]
    by_cases a3 : w = 3
    · rw [if_pos a3, if_pos a3]
    rw [if_neg a3, if_neg a3]
    by_cases a4 : w = 4
    · rw [if_pos a4, if_pos a4]
      by_cases hz : P (15 + 4 * l) = 0
      · rw [decide_eq_true hz, if_neg bvn, hz]; rfl
      · rw [decide_eq_false hz, if_pos bvf, show P (15 + 4 * l) = 1 by omega]; rfl
    rw [if_neg a4, if_neg a4]
    by_cases a5 : w = 5
    · rw [if_pos a5, if_pos a5]
    rw [if_neg a5, if_neg a5]
theorem k_as {sa : Nat → Nat} {h : AH} {co N : Nat} {S : ST} (hJ : JJ sa h co N S) (x y : Int32) : OK2 sa h co N S 94 [.ref co, .int x, .int y] 174 [.ref (co + 40), .int x, .int y] := by
  obtain ⟨P, A, n, I, ln, sz, it, T, len, st, ft, tr, tn, h1, h2, h3, h4, h5, h6⟩ := id hJ
  have h7 := h4.1.1.2.1
  cases hb : iL x (P 3) && iL y 6 with
  | false =>
    refine ok_same hJ ?_ (m_as_bad sa 17 h co h3.1 x y hb)
    show AMC sa (19 + 1) 94 _ _ = _
    rw [fX7_as, eX7_as_0, gC_0, aOp_s, c_hasNo sa 17 h1.1, aRI_mk, aOp_s]
    cases hx : iL x (P 3) with
    | false => exact if_neg nb_f
    | true =>
      rw [hx, Bool.true_and] at hb
      rw [if_pos nb_t, c_out sa 18, aRI_mk, aOp_s, show iB y 0 5 = iL y 6 from rfl, hb]
      exact if_neg nb_f
  | true =>
    rw [Bool.and_eq_true] at hb
    obtain ⟨l, hl, rfl⟩ := iL_of (by omega) hb.1
    obtain ⟨k, hk, rfl⟩ := iL_of (by decide) hb.2
    have b4 := h4.1.1.2.2.2.1 l (by omega)
    have k1 := (h4.1.2.1 l hl).1
    have mm := fun (S' : ST) (hE : pE S' 46 P) => m_as_ok sa 17 h co hE h4.1.1 hl hk
    have pre : AMC sa 20 94 [.ref co, .int (nI l), .int (nI k)] (mk h co S) = cond (kIs (P (12 + 4 * l)) k) (some (some (.int (nI l)), mk h co (sI S 0 9 0))) (some (some (.int (-1000013)), mk h co (sI S 0 9 3))) := by
      show AMC sa (19 + 1) 94 _ _ = _
      rw [fX7_as, eX7_as_0, gC_0, aOp_s, c_hasNo sa 17 h1.1, aRI_mk, aOp_s, hb.1, if_pos nb_t, c_out sa 18, aRI_mk, aOp_s, show iB (nI k) 0 5 = iL (nI k) 6 from rfl, hb.2, if_pos nb_t, gR_0_3, aOp_s, gR_17_0, aOp_s, show aIL (mk h co S) (co + 18) (nI l) = some (S.2.2 18 l) from qL (c := 17) h1.1.1 h co S (j := 1) (by decide) (by decide) (by omega), aOp_s, show S.2.2 18 l = nI (P (12 + 4 * l)) from (h1.1.2.2.2.2.2.2.2.2 l hl).1, c_isA sa 18 S h5 k1 b4.1 hk, aRI_mk, aOp_s]
      cases kIs (P (12 + 4 * l)) k with
      | false =>
        rw [if_pos bvf, gC_0, aOp_s, c_found sa 18, aRI_mk, aOp_s]
        rfl
      | true =>
        rw [if_neg bvn, gP_0_9, aOp_s]
        rfl
    cases hk2 : kIs (P (12 + 4 * l)) k with
    | false =>
      rw [hk2] at pre mm
      exact ok_st2 h1 h2 h3 h4 h5 h6 pre (fun m => mm _ m.1)
    | true =>
      rw [hk2] at pre mm
      exact ok_st2 h1 h2 h3 h4 h5 h6 pre (fun m => mm _ m.1)
theorem ak_len (k w : Nat) : (akL k w).length ≤ 16 := by
  unfold akL psL csL pmL
  by_cases a : w = 0
  · rw [if_pos a]
    by_cases b : k < 4
    · rw [if_pos b]
      by_cases c : k = 2
      · rw [if_pos c, if_neg (by omega), if_pos c]; decide
      · rw [if_neg c, if_neg c]
        split <;> decide
    · rw [if_neg b]
      split <;> decide
  · rw [if_neg a]
    by_cases b : k < 4
    · rw [if_pos b]
      split
      · decide
      · split <;> decide
    · rw [if_neg b]
      split <;> decide
theorem k_ask {sa : Nat → Nat} {h : AH} {co N : Nat} {S : ST} (hJ : JJ sa h co N S) (x y : Int32) : OK2 sa h co N S 95 [.ref co, .int x, .int y] 180 [.ref (co + 40), .int x, .int y] := by
  obtain ⟨P, A, n, I, ln, sz, it, T, len, st, ft, tr, tn, h1, h2, h3, h4, h5, h6⟩ := id hJ
  have h7 := h4.1.1.2.1
  cases hb : iL x (P 3) && iL y 2 with
  | false =>
    refine ok_same hJ ?_ (m_ask_bad sa 16 h co h3.1 x y hb)
    show AMC sa (19 + 1) 95 _ _ = _
    rw [fX7_ask, eX7_ask_0, gC_0, aOp_s, c_hasNo sa 17 h1.1, aRI_mk, aOp_s]
    cases hx : iL x (P 3) with
    | false => exact if_neg nb_f
    | true =>
      rw [hx, Bool.true_and] at hb
      rw [if_pos nb_t, c_out sa 18, aRI_mk, aOp_s, show iB y 0 1 = iL y 2 from rfl, hb]
      exact if_neg nb_f
  | true =>
    rw [Bool.and_eq_true] at hb
    obtain ⟨l, hl, rfl⟩ := iL_of (by omega) hb.1
    obtain ⟨w, hw, rfl⟩ := iL_of (by decide) hb.2
    have pre : AMC sa 20 95 [.ref co, .int (nI l), .int (nI w)] (mk h co S) = some (some (.int (akV P l (P (12 + 4 * l)) w)), mk h co (lvL (sI S 38 1 0) 0 (akL (P (12 + 4 * l)) w))) := by
      show AMC sa (19 + 1) 95 _ _ = _
      rw [fX7_ask, eX7_ask_0, gC_0, aOp_s, c_hasNo sa 17 h1.1, aRI_mk, aOp_s, hb.1, if_pos nb_t, c_out sa 18, aRI_mk, aOp_s, show iB (nI w) 0 1 = iL (nI w) 2 from rfl, hb.2, if_pos nb_t, gR_0_7, aOp_s, gR_0_3, aOp_s, gC_38, aOp_s, c_answer sa 12 h5 h1.1 h4.1.1 h4.1.2.1 hl hw, aRI_mk, aOp_s]
    have f1 : fr 38 40 S (lvL (sI S 38 1 0) 0 (akL (P (12 + 4 * l)) w)) := fr_trans (fr_I (fr_refl _ _ _) (by decide) (by decide) _ _) (lvL_fr _ _ _)
    have mm := JM_sm h3 (sM_fr f1 (by decide))
    have al := ak_len (P (12 + 4 * l)) w
    have e2 := m_ask_ok sa 16 h co mm.1 h4.1.1 hl hw
    obtain ⟨o1, o2, o3, o4, o5, o6, o7⟩ := h2
    obtain ⟨q1, q2, q3, q4, q5, q6, q7, q8⟩ := mm
    generalize hS1 : lvL (sI S 38 1 0) 0 (akL (P (12 + 4 * l)) w) = S1 at *
    have g : sm (fun a => a < 38) S S1 := sm_fr f1 (fun a ha => Or.inl ha)
    have b1 := bsL_fr (sI S1 40 21 0) 0 (akL (P (12 + 4 * l)) w)
    have f2 : fr 40 53 S1 (bsL (sI S1 40 21 0) 0 (akL (P (12 + 4 * l)) w)) := fun a ha => ⟨funext fun b => by rw [b1.2.2 a b (by omega), sI_ne _ _ (by omega)], by rw [b1.1]; rfl, by rw [b1.2.1 a (by omega)]; rfl⟩
    refine ok_mk pre e2 (P := P) (A := A) (n := n) (I := I) (ln := ln) (sz := sz) (it := it) (T := T) (len := len) (st := st) (ft := ft) (tr := fun j => nI ((akL (P (12 + 4 * l)) w).getD j 0)) (tn := (akL (P (12 + 4 * l)) w).length) (cE_fr h1.1 f1 (by decide)) (cA_fr h1.2 f1 (by decide)) ⟨cE_fr o1 f1 (by decide), cE_fr o2 f1 (by decide), rR_sm o3 g (by decide) (by decide) (by decide), tT_sm o4 g (by decide) (by decide), by rw [(g 0 (by decide)).1]; exact o5, by rw [(g 0 (by decide)).1]; exact o6, ?_, al, fun j hj => ?_⟩ ?_ (sL_fr f2 (by decide)) (JG_mono h4 (by omega)) h5 h6
    · rw [← hS1, lvL_1 (S := sI S 38 1 0) (n := 0) (sI_at _ _ _ _), Nat.zero_add]
    · rw [← hS1, lvL_at, if_pos ⟨Nat.zero_le _, by omega⟩, Nat.sub_zero]
    · have c40 : ∀ b, b ≠ 21 → (bsL (sI S1 40 21 0) 0 (akL (P (12 + 4 * l)) w)).1 40 b = S1.1 40 b := fun b hb => by rw [b1.2.2 40 b (by omega), sI_ne _ _ (by omega)]
      have ca : ∀ a, a ≠ 52 → (bsL (sI S1 40 21 0) 0 (akL (P (12 + 4 * l)) w)).2.2 a = S1.2.2 a := fun a ha => by rw [b1.2.1 a ha]; rfl
      refine ⟨⟨q1.1, fun j hj => by rw [ca 46 (by decide)]; exact q1.2 j hj⟩, ?_, ?_, ?_, ?_, by rw [c40 4 (by decide)]; exact q6, by rw [c40 7 (by decide)]; exact q7, ?_, al, fun j hj => ?_⟩
      · unfold aP; rw [c40 17 (by decide), ca 49 (by decide)]; exact q2
      · unfold mI; rw [ca 51 (by decide), ca 50 (by decide)]; exact q3
      · unfold rR; rw [ca 41 (by decide), ca (41 + 1) (by decide), ca (41 + 2) (by decide)]; exact q4
      · unfold tT; rw [c40 6 (by decide), ca 45 (by decide)]; exact q5
      · rw [bsL_21 (S := sI S1 40 21 0) (n := 0) (sI_at _ _ _ _), Nat.zero_add]
      · rw [bsL_at, if_pos ⟨Nat.zero_le _, by omega⟩, Nat.sub_zero]
