/-! ===== the class: post ===== -/
theorem zW_j (T : Nat → Nat) (n : Nat) (Z : ZS) {j : Nat} (hj : j < 6) (h2 : j ≠ 2) : (zW T n Z).2.2 j = Z.2.2 j := by
  unfold zW
  dsimp only
  split
  · rw [zTk_Q, zNu_Q, zTk_Q]
    dsimp only
    rw [pUp_ne _ _ h2, pUp_ne _ _ (by omega)]
  · rw [zTk_Q, zNu_Q, zTk_Q]
theorem zWs_j (T : Nat → Nat) (n : Nat) {j : Nat} (hj : j < 6) (h2 : j ≠ 2) : ∀ m Z, (zWs T n m Z).2.2 j = Z.2.2 j
  | 0, _ => rfl
  | m + 1, Z => by
    show (if Z.1 = 0 ∧ isC T n Z.2.1 111 = true then zWs T n m (zW T n Z) else Z).2.2 j = _
    split
    · rw [zWs_j T n hj h2 m (zW T n Z), zW_j T n Z hj h2]
    · rfl
theorem zL_j (T : Nat → Nat) (n : Nat) (Z : ZS) {j : Nat} (hj : j < 12) (h3 : j ≠ 3) : (zL T n Z).2.2 j = Z.2.2 j := by
  unfold zL
  dsimp only
  split
  · rw [zTk_Q, zPt_Q, zNu_Q, zTk_Q]
    dsimp only
    rw [pUp_ne _ _ h3, pUp_ne _ _ (by omega), pUp_ne _ _ (by omega), pUp_ne _ _ (by omega)]
  · rw [zTk_Q, zPt_Q, zNu_Q, zTk_Q]
theorem zLs_j (T : Nat → Nat) (n : Nat) {j : Nat} (hj : j < 12) (h3 : j ≠ 3) : ∀ m Z, (zLs T n m Z).2.2 j = Z.2.2 j
  | 0, _ => rfl
  | m + 1, Z => by
    show (if Z.1 = 0 ∧ 0 < kB T n Z.2.1 then zLs T n m (zL T n Z) else Z).2.2 j = _
    split
    · rw [zLs_j T n hj h3 m (zL T n Z), zL_j T n Z hj h3]
    · rfl
theorem cDr_Q {S : ST} {P Q : PS} (h : cDr S P) (h0 : P 3 = 0) (e3 : Q 3 = 0) (e0 : Q 0 = P 0) (e1 : Q 1 = P 1) : cDr S Q := by
  obtain ⟨p1, p2, p3, p4, p5, p6, p7⟩ := h
  exact ⟨by rw [e3, ← h0]; exact p1, p2, by rw [e0]; exact p3, by rw [e1]; exact p4, p5, p6, fun l hl => by omega⟩
theorem c_readLetters (sa : Nat → Nat) (d : Nat) (h : AH) (co : Nat) {S : ST} {T : Nat → Nat} {n : Nat} {F : ZS} (hZ : cZ S T n F) (h3 : F.2.2 3 = 0) (hQ : F.1 = 0 → F.2.2 2 ≤ 6 ∧ S.1 10 4 = nI (F.2.2 2) ∧ cDr S F.2.2) : ∃ S' : ST, AMC sa (d + 4) 55 [.ref (co + 10), .ref (co + 13)] (mk h co S) = some (none, mk h co S') ∧ cZ S' T n (zLs T n 8 (zMu T n (decide (0 < kB T n F.2.1)) F)) ∧ ((zLs T n 8 (zMu T n (decide (0 < kB T n F.2.1)) F)).1 = 0 → cDr S' (zLs T n 8 (zMu T n (decide (0 < kB T n F.2.1)) F)).2.2) ∧ fL S S' := by
  obtain ⟨S', g1, g2, g3, g4⟩ := c_lloop sa d h co (T := T) (n := n) 8 0 S F .null .null .null rfl hZ (fun z => ⟨h3, by decide, hQ z⟩)
  have eQ : (zLs T n 8 F).2.2 = (zLs T n 8 (zMu T n (decide (0 < kB T n F.2.1)) F)).2.2 := by
    rw [← zLs_eq h3, zMu_Q]
  rw [zLs_eq h3] at g2 g3
  rw [eQ] at g3
  refine ⟨S', ?_, g2, g3, g4⟩
  rw [fX5_readLetters, eX5_readLetters_0]
  exact g1
def gr (h h' : AH) : Prop := h.1 ≤ h'.1 ∧ ∀ x, x < h.1 → h'.2.2 x = h.2.2 x
theorem gr_refl (h : AH) : gr h h := ⟨Nat.le_refl _, fun _ _ => rfl⟩
theorem oK_gr {h h' : AH} {co x : Nat} (hx : oK h co x) (hg : gr h h') : oK h' co x := ⟨hx.1, Nat.lt_of_lt_of_le hx.2 hg.1⟩
theorem wE_gr {h h' : AH} {co w : Nat} {P : PS} (hw : wE h co w P) (hg : gr h h') : wE h' co w P := by
  obtain ⟨a1, a2, a3, f1, f2, f3, o0, o1, o2, o3, e0, e1, e2, e3, hf⟩ := hw
  exact ⟨a1, a2, a3, f1, f2, f3, oK_gr o0 hg, oK_gr o1 hg, oK_gr o2 hg, oK_gr o3 hg, (hg.2 _ o0.2).trans e0, (hg.2 _ o1.2).trans e1, (hg.2 _ o2.2).trans e2, (hg.2 _ o3.2).trans e3, hf⟩
theorem cE_gr {h h' : AH} {co : Nat} {S : ST} {c : Nat} {P : PS} (hE : cE h co S c P) (hg : gr h h') : cE h' co S c P := ⟨hE.1, wE_gr hE.2.1 hg, hE.2.2⟩
theorem sT_gr {sa : Nat → Nat} {h h' : AH} {co : Nat} (hs : sT sa h co) (hg : gr h h') : sT sa h' co := fun k hk => by
  obtain ⟨o, f, e, hf⟩ := hs k hk
  exact ⟨oK_gr o hg, f, (hg.2 _ o.2).trans e, hf⟩
theorem pSn_0 {P : PS} : ∀ k, (∀ l, l < k → P (15 + 4 * l) = 0) → pSn P k = 0
  | 0, _ => rfl
  | k + 1, h => by
    show pSn P k ||| P (15 + 4 * k) * 2 ^ k = 0
    rw [pSn_0 k (fun l hl => h l (by omega)), h k (by omega), Nat.zero_mul]
    rfl
theorem c_readInto (sa : Nat → Nat) (d : Nat) {h : AH} {co : Nat} {S : ST} {T : Nat → Nat} {n : Nat} (hT : tT S 11 10 2 T n) (hh : co + 53 ≤ h.1) :
    ((zAll T n).1 ≠ 0 ∧ ∃ S' : ST, AMC sa (d + 5) 52 [.ref (co + 10), .ref (co + 13)] (mk h co S) = some (some (.int 0), mk h co S') ∧ S'.1 10 5 = nI (zAll T n).1 ∧ S'.1 10 6 = nI (zAll T n).2.1 ∧ S'.1 10 2 = 0 ∧ fr 10 17 S S') ∨
    ((zAll T n).1 = 0 ∧ ∃ (h' : AH) (S' : ST), AMC sa (d + 5) 52 [.ref (co + 10), .ref (co + 13)] (mk h co S) = some (some (.int 1), mk h' co S') ∧ cE h' co S' 13 (zAll T n).2.2 ∧ S'.1 10 2 = 0 ∧ fr 10 17 S S' ∧ gr h h' ∧ h'.1 = h.1 + 4 ∧ h'.2.1 = h.2.1 + 196) := by
  obtain ⟨S1, hS1⟩ : ∃ S1, S1 = sI (sI (sI S 10 3 0) 10 4 0) 10 5 0 := ⟨_, rfl⟩
  have z1 : cZ S1 T n (0, 0, fun _ => 0) := by
    rw [hS1]
    exact ⟨⟨((sI_ne _ _ (by decide)).trans (sI_ne _ _ (by decide))).trans ((sI_ne _ _ (by decide)).trans hT.1), hT.2.1, hT.2.2⟩, sI_at _ _ _ _, by show 0 ≤ 3; decide, Nat.zero_le _, fun _ => ((sI_ne _ _ (by decide)).trans (sI_ne _ _ (by decide))).trans (sI_at _ _ _ _), fun z => absurd rfl z⟩
  have f1 : fr 10 17 S S1 := by rw [hS1]; exact fr_I (fr_I (fr_I (fr_refl _ _ _) (by decide) (by decide) _ _) (by decide) (by decide) _ _) (by decide) (by decide) _ _
  have w1 : S1.1 10 4 = 0 := by rw [hS1, sI_ne _ _ (by decide), sI_at]
  obtain ⟨S2, a1, a2, a3, a4, a5⟩ := c_readLaw sa (d + 1) h co z1
  obtain ⟨l2, l3⟩ := zLaw_Q T n
  obtain ⟨S3, b1, b2, b3, b4⟩ := c_readWords sa (d + 1) h co a2 l2 (a3.trans w1)
  obtain ⟨F, hF⟩ : ∃ F, F = zWs T n 7 (zMu T n (isC T n (zLaw T n).2.1 111) (zLaw T n)) := ⟨_, rfl⟩
  rw [← hF] at b2 b3
  have F3 : F.2.2 3 = 0 := by rw [hF, zWs_3, zMu_Q]; exact l3
  have F0 : F.2.2 0 = (zLaw T n).2.2 0 := by rw [hF, zWs_j T n (by decide) (by decide), zMu_Q]
  have F1 : F.2.2 1 = (zLaw T n).2.2 1 := by rw [hF, zWs_j T n (by decide) (by decide), zMu_Q]
  have FG : F.1 = 0 → zG F.2.2 := fun z => by
    rw [hF] at z ⊢
    exact (zG_zWs T n 7 _ (by rw [zMu_Q]; exact zG_law T n) (by rw [zMu_Q]; exact l3) z).1
  obtain ⟨S4, c1, c2, c3, c4⟩ := c_readLetters sa d h co b2 F3 (fun z => ⟨(FG z).1.1, (b3 z).1, cDr_Q (cDr_fr a4 b4) l3 F3 F0 F1⟩)
  obtain ⟨G, hG⟩ : ∃ G, G = zLs T n 8 (zMu T n (decide (0 < kB T n F.2.1)) F) := ⟨_, rfl⟩
  rw [← hG] at c2 c3
  have GF : G.1 = 0 → F.1 = 0 := fun z => by
    rw [hG] at z
    by_cases h0 : (zMu T n (decide (0 < kB T n F.2.1)) F).1 = 0
    · exact (zMu_1 h0).2.2
    · rw [zLs_st T n h0] at z; exact absurd z h0
  have Gj : ∀ j, j < 12 → j ≠ 3 → G.2.2 j = F.2.2 j := fun j h1 h2 => by rw [hG, zLs_j T n h1 h2, zMu_Q]
  have eA : zAll T n = zMu T n (decide (n ≤ G.2.1)) G := by rw [hG, hF]; rfl
  have f4 : fr 10 17 S S4 := fr_trans (fr_trans (fr_trans f1 a5) (fr_mono b4 (by decide) (by decide))) c4.1
  -- the end of the tape
  have fin : ∃ S5 : ST, fC S4 S5 ∧ cZ S5 T n (zAll T n) ∧ AMC sa (d + 5) 52 [.ref (co + 10), .ref (co + 13)] (mk h co S) = AMV sa (d + 4) 52 46 [.ref (co + 10), .ref (co + 13)] [] (mk h co S5) := by
    obtain ⟨R, hR⟩ : ∃ R : AR, R = (if (if G.1 = 0 then bB T n G.2.1 else -1) = -1 then AMV sa (d + 4) 52 46 [.ref (co + 10), .ref (co + 13)] [] (mk h co S4) else aOp (aFI (mk h co S4) (co + 10) 5 3) fun v8 => aOp (aCl (mk h co S4) (co + 10) 5) fun _ => aOp (aRV (AMC sa (d + 4) 61 [.ref (co + 10), .int 1, .int v8] (mk h co S4))) fun h9 => AMV sa (d + 4) 52 46 [.ref (co + 10), .ref (co + 13)] [] h9) := ⟨_, rfl⟩
    have pre : AMC sa (d + 5) 52 [.ref (co + 10), .ref (co + 13)] (mk h co S) = R := by
      rw [fX5_readInto, eX5_readInto_0, gP_10_3, aOp_s, gP_10_4, aOp_s, gP_10_5, aOp_s, ← hS1, gC_10, aOp_s, a1, aRV_mk, aOp_s, gC_10, aOp_s, b1, aRV_mk, aOp_s, gC_10, aOp_s, c1, aRV_mk, aOp_s, gC_10, aOp_s, c_next sa (d + 3) h co c2, aRI_mk, aOp_s]
      exact hR.symm
    rw [pre, hR, eA]
    have h100 := c2.1.2.1
    by_cases h0 : G.1 = 0
    · rw [if_pos h0]
      unfold bB
      by_cases hp : G.2.1 < n
      · obtain ⟨S5, u1, u2, u3⟩ := c_fail sa (d + 3) h co c2 (k := 1) (by decide) (by decide)
        have h256 := (c2.1.2.2 _ hp).2
        rw [if_pos hp, if_neg (n_nem (by omega)), gI_10_3, aOp_s, gC_10, aOp_s, show AMC sa (d + 4) 61 [.ref (co + 10), .int 1, .int (S4.1 10 3)] (mk h co S4) = _ from u1, aRV_mk, aOp_s, decide_eq_false (show ¬ n ≤ G.2.1 by omega)]
        exact ⟨S5, u3, u2, rfl⟩
      · rw [if_neg hp, if_pos rfl, decide_eq_true (show n ≤ G.2.1 by omega)]
        exact ⟨S4, fC_refl _, c2, rfl⟩
    · rw [if_neg h0, if_pos rfl, zMu_0 h0]
      exact ⟨S4, fC_refl _, c2, rfl⟩
  obtain ⟨S5, k1, k2, k3⟩ := fin
  have f5 : fr 10 17 S S5 := fr_trans f4 (fr_mono (fC_fr k1) (by decide) (by decide))
  obtain ⟨S6, hS6⟩ : ∃ S6, S6 = sI S5 10 2 0 := ⟨_, rfl⟩
  have f6 : fr 10 17 S S6 := by rw [hS6]; exact fr_I f5 (by decide) (by decide) _ _
  have s62 : S6.1 10 2 = 0 := by rw [hS6, sI_at]
  have s6 : ∀ a b, ¬ (a = 10 ∧ b = 2) → S6.1 a b = S5.1 a b := fun a b hab => by rw [hS6, sI_ne _ _ hab]
  rw [k3, eX5_readInto_46, gP_10_2, aOp_s, ← hS6, gI_10_5, aOp_s, s6 10 5 (by decide), k2.2.1]
  by_cases h0 : (zAll T n).1 = 0
  · right
    have hg := zG_all h0
    have G0 : G.1 = 0 := by rw [eA] at h0; exact (zMu_1 h0).2.2
    have eQ : (zAll T n).2.2 = G.2.2 := by rw [eA, zMu_Q]
    have cl := c3 G0
    have cw3 := b3 (GF G0)
    obtain ⟨P, hP⟩ : ∃ P, P = (zAll T n).2.2 := ⟨_, rfl⟩
    rw [← hP] at hg eQ ⊢
    have p2 : P 2 = F.2.2 2 := by rw [eQ]; exact Gj 2 (by decide) (by decide)
    have hc2 : S6.1 10 4 = nI (P 2) := by rw [s6 10 4 (by decide), k1.2 10 4 (by omega), c4.2.2, p2]; exact cw3.1
    have a12 : S6.2.2 12 = S3.2.2 12 := by rw [hS6, sI_A, k1.1, c4.2.1]
    obtain ⟨h1, hh1⟩ : ∃ h1, h1 = aMk h 4 (.inl (6, [.int 0, .null, .null, .null])) := ⟨_, rfl⟩
    have hm : aMk (mk h co S6) 4 (.inl (6, [.int 0, .null, .null, .null])) = mk h1 co S6 := by rw [hh1]; exact aMk_mk hh S6 _ _
    have h11 : h1.1 = h.1 + 1 := by rw [hh1]; rfl
    have e0 : (mk h1 co S6).2.2 h.1 = some (.inl (6, [.int 0, .null, .null, .null])) := by
      rw [mk_out _ _ _ _ (by omega), hh1]
      exact if_pos rfl
    have ea : (mk h1 co S6).2.2 (co + 12) = some (.inr (.inl (0, 6, S6.2.2 12))) := g_arr (c := 12) (Or.inr (by decide)) (by decide) rfl
    obtain ⟨g1, g2, g3, w1, w2⟩ := c_words sa (d + 2) (H := mk h1 co S6) (w := h.1) (a := co + 12) (P := P) e0 ea (by show h.1 < h1.1; omega) (by show co + 12 < h1.1; omega) hg.1.1 (fun k hk => ⟨hg.1.2.2.1 k (by have := hg.1.1; omega), by rw [a12, cw3.2 k (by omega), eQ, Gj (6 + k) (by have := hg.1.1; omega) (by omega)]⟩)
    rw [HW_mk (by omega) S6 (by omega)] at w1
    obtain ⟨h', hh'⟩ : ∃ h', h' = HW h1 h.1 (P 2) g1 g2 g3 := ⟨_, rfl⟩
    rw [← hh'] at w1
    have h'1 : h'.1 = h.1 + 4 := by rw [hh']; show h1.1 + 3 = _; omega
    have gro : gr h h' := by
      refine ⟨by omega, fun x hx => ?_⟩
      rw [hh', HW_o (by omega) (Or.inl (by omega)), hh1, mk_at (by omega)]
    refine ⟨h0, h', sP S6 13 h.1, ?_, ?_, s62, fr_P f6 (by decide) (by decide) _, gro, h'1, ?_⟩
    · rw [if_pos (show nI (zAll T n).1 = 0 by rw [h0]; rfl), hm, gR_10_1, aOp_s, gI_10_4, aOp_s, hc2]
      show aOp (aRV (AMC sa (d + 4) 63 [.ref h.1, .ref (co + 12), .int (nI (P 2))] (mk h1 co S6))) _ = _
      rw [w1, aRV_mk, aOp_s]
      show aOp (aFP (mk h' co S6) (co + 13) 2 3 (.ref h.1)) _ = _
      rw [gW_13, aOp_s]
    · obtain ⟨q1, q2, q3, q4, q5, q6, q7⟩ := cl
      rw [← eQ] at q1 q3 q4 q7
      have s13 : ∀ b, S6.1 13 b = S4.1 13 b := fun b => by rw [s6 13 b (by omega), k1.2 13 b (by omega)]
      have ar : S6.2 = S4.2 := by rw [hS6]; exact k1.1
      have oo : ∀ x, h.1 ≤ x → x < h.1 + 4 → oK h' co x := fun x x1 x2 => ⟨by omega, by omega⟩
      refine ⟨Or.inl rfl, ?_, (s13 4).trans q1, ?_, (s13 6).trans q3, (s13 7).trans q4, ?_, ?_, fun l hl => ?_⟩
      · show wE h' co (if 13 = 13 then h.1 else S6.2.1 13) P
        rw [if_pos rfl]
        refine ⟨h1.1, h1.1 + 1, h1.1 + 2, g1, g2, g3, oo _ (by omega) (by omega), oo _ (by omega) (by omega), oo _ (by omega) (by omega), oo _ (by omega) (by omega), ?_, ?_, ?_, ?_, w2⟩
        · rw [hh']; exact HW_w _ _ _ _ _ _
        · rw [hh']; exact HW_1 (by omega) _ _ _ _
        · rw [hh']; exact HW_2 (by omega) _ _ _ _
        · rw [hh']; exact HW_3 (by omega) _ _ _ _
      · rw [pSn_0 (P 3) (fun l hl => hg.2.2.2.2 l (by have := hg.1.2.1; omega))]
        exact (s13 5).trans q2
      · rw [hg.2.2.1]; exact (s13 8).trans q5
      · rw [hg.2.2.2.1]; exact (s13 9).trans q6
      · show S6.2.2 14 l = _ ∧ S6.2.2 15 l = _ ∧ S6.2.2 16 l = _
        rw [ar]
        exact q7 l hl
    · rw [hh']
      show h1.2.1 + 192 = _
      rw [hh1]
      rfl
  · left
    refine ⟨h0, S6, ?_, ?_, ?_, s62, f6⟩
    · rw [if_neg (nI_ne0 (by omega) (by have := k2.2.2.1; omega))]
    · rw [s6 10 5 (by decide)]; exact k2.2.1
    · rw [s6 10 6 (by decide)]; exact k2.2.2.2.2.2 h0
theorem c_post (sa : Nat → Nat) (d : Nat) {h : AH} {co : Nat} {S : ST} {T : Nat → Nat} {n : Nat} (hT : tT S 11 10 2 T n) (hh : co + 53 ≤ h.1) :
    ((zAll T n).1 ≠ 0 ∧ ∃ U : ST, AMC sa (d + 6) 70 [.ref co] (mk h co S) = some (some (.int ((-1000100) - nI (zAll T n).2.1)), mk h co (sI U 0 8 (nI (zAll T n).1))) ∧ U.1 10 2 = 0 ∧ fr 10 17 S U) ∨
    ((zAll T n).1 = 0 ∧ zG (zAll T n).2.2 ∧ ∃ (h' : AH) (U V : ST), AMC sa (d + 6) 70 [.ref co] (mk h co S) = some (some (.int (nI ((zAll T n).2.2 3))), mk h' co (sI V 30 2 0)) ∧ cE h' co V 17 (zAll T n).2.2 ∧ U.1 10 2 = 0 ∧ fr 10 17 S U ∧ fr 17 21 U V ∧ gr h h' ∧ h'.1 = h.1 + 4 ∧ h'.2.1 = h.2.1 + 196) := by
  rcases c_readInto sa d hT hh with ⟨h0, S', a1, a2, a3, a4, a5⟩ | ⟨h0, h', S', a1, a2, a3, a4, a5, a6, a7⟩
  · left
    refine ⟨h0, S', ?_, a4, a5⟩
    rw [fX7_post, eX7_post_0, gR_0_1, aOp_s, gR_0_2, aOp_s, gC_10, aOp_s, a1, aRI_mk, aOp_s, if_pos rfl, gR_0_1, aOp_s, gI_10_5, aOp_s, a2, gP_0_8, aOp_s, gR_0_1, aOp_s, gI_10_6, aOp_s, sI_ne _ _ (by decide), a3]
  · right
    have hg := zG_all h0
    obtain ⟨V, b1, b2, b3⟩ := c_become sa (d + 4) a2 hg.1 (c := 17) (Or.inr (Or.inl rfl)) (by decide)
    refine ⟨h0, hg, h', S', V, ?_, b2, a3, a4, b3, a5, a6, a7⟩
    rw [fX7_post, eX7_post_0, gR_0_1, aOp_s, gR_0_2, aOp_s, gC_10, aOp_s, a1, aRI_mk, aOp_s, if_neg (show ¬ ((1 : Int32) = 0) by decide), gR_0_3, aOp_s, gR_0_2, aOp_s, gC_17, aOp_s, b1, aRV_mk, aOp_s, gR_0_5, aOp_s, gC_30, aOp_s, c_forget, aRV_mk, aOp_s, gR_0_3, aOp_s, gI_17_4, aOp_s, sI_ne _ _ (by decide), b2.2.2.1]
