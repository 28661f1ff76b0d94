/-! ===== the reference: fits, slips, drawn ===== -/
theorem m_fits_bad (sa : Nat → Nat) (d : Nat) (h : AH) (co : Nat) {S : ST} {P : PS} (hE : pE S 46 P) (x r i n w : Int32) (hb : (iL x (P 3) && (iL r 8 && (iB n 1 12 && iL w 5))) = false) : AMC sa (d + 8) 167 [.ref (co + 40), .int x, .int r, .int i, .int n, .int w] (mk h co S) = some (some (.int (-1000001)), mk h co S) := by
  rw [fX8_fits, eX8_fits_0, gC_40, aOp_s, m_isLetter sa (d + 5) h co hE, aRI_mk, aOp_s]
  cases h1 : iL x (P 3) with
  | false => rw [if_pos bvf]
  | true =>
    rw [h1, Bool.true_and] at hb
    rw [if_neg bvn, m_isRow sa (d + 5), aRI_mk, aOp_s]
    cases h2 : iL r 8 with
    | false => rw [if_pos bvf]
    | true =>
      rw [h2, Bool.true_and] at hb
      rw [if_neg bvn, m_in, aRI_mk, aOp_s, show decide ((1 : Int32) ≤ n ∧ n ≤ 12) = iB n 1 12 from rfl]
      cases h3 : iB n 1 12 with
      | false => rw [if_pos bvf]
      | true =>
        rw [h3, Bool.true_and] at hb
        rw [if_neg bvn, m_in, aRI_mk, aOp_s, show decide ((0 : Int32) ≤ w ∧ w ≤ 4) = iL w 5 from rfl, hb, if_pos bvf]
theorem m_fits_null (sa : Nat → Nat) (d : Nat) (h : AH) (co : Nat) {S : ST} {P : PS} (hE : pE S 46 P) (hB : pB P) {ln sz : Nat → Nat} {it : Nat → Nat → Int32} (hR : rR S 41 (-1000000) ln sz it) {l r n w : Nat} (i : Int32) (hl : l < P 3) (hr : r < 8) (h1 : 1 ≤ n) (h2 : n ≤ 12) (hw : w < 5) (hm : ln r = 3) : AMC sa (d + 8) 167 [.ref (co + 40), .int (nI l), .int (nI r), .int i, .int (nI n), .int (nI w)] (mk h co S) = some (some (.int (-1000011)), mk h co (sI S 40 4 1)) := by
  have b3 := hB.2.1
  rw [fX8_fits, eX8_fits_0, gC_40, aOp_s, m_isLetter sa (d + 5) h co hE, aRI_mk, aOp_s, iL_nI (by omega) hl, if_neg bvn, m_isRow sa (d + 5), aRI_mk, aOp_s, iL_nI (by decide) hr, if_neg bvn, m_in, aRI_mk, aOp_s, show decide ((1 : Int32) ≤ nI n ∧ nI n ≤ 12) = true from iB_nI h1 h2 (by decide), if_neg bvn, m_in, aRI_mk, aOp_s, show decide ((0 : Int32) ≤ nI w ∧ nI w ≤ 4) = iL (nI w) 5 from rfl, iL_nI (by decide) hw, if_neg bvn, gC_40, aOp_s, m_isMissing sa (d + 6) h co hR hr, aRI_mk, aOp_s, decide_eq_true hm, if_neg bvn, gC_40, aOp_s, m_found, aRI_mk, aOp_s]
  rfl
theorem m_fits_place (sa : Nat → Nat) (d : Nat) (h : AH) (co : Nat) {S : ST} {P : PS} (hE : pE S 46 P) (hB : pB P) {ln sz : Nat → Nat} {it : Nat → Nat → Int32} (hR : rR S 41 (-1000000) ln sz it) {l r n w : Nat} (i : Int32) (hl : l < P 3) (hr : r < 8) (h1 : 1 ≤ n) (h2 : n ≤ 12) (hw : w < 5) (hm : ln r ≠ 3) (hp : rPt (sz r) i (nI n) = false) : AMC sa (d + 8) 167 [.ref (co + 40), .int (nI l), .int (nI r), .int i, .int (nI n), .int (nI w)] (mk h co S) = some (some (.int (-1000012)), mk h co (sI S 40 4 2)) := by
  have b3 := hB.2.1
  rw [fX8_fits, eX8_fits_0, gC_40, aOp_s, m_isLetter sa (d + 5) h co hE, aRI_mk, aOp_s, iL_nI (by omega) hl, if_neg bvn, m_isRow sa (d + 5), aRI_mk, aOp_s, iL_nI (by decide) hr, if_neg bvn, m_in, aRI_mk, aOp_s, show decide ((1 : Int32) ≤ nI n ∧ nI n ≤ 12) = true from iB_nI h1 h2 (by decide), if_neg bvn, m_in, aRI_mk, aOp_s, show decide ((0 : Int32) ≤ nI w ∧ nI w ≤ 4) = iL (nI w) 5 from rfl, iL_nI (by decide) hw, if_neg bvn, gC_40, aOp_s, m_isMissing sa (d + 6) h co hR hr, aRI_mk, aOp_s, decide_eq_false hm, if_pos bvf, gC_40, aOp_s, m_isPart sa (d + 6) h co hR hr, aRI_mk, aOp_s, hp, if_pos bvf, gC_40, aOp_s, m_found, aRI_mk, aOp_s]
  rfl
theorem rPt_nI {s a b : Nat} (ha : a < 2 ^ 31) (hb : b < 2 ^ 31) : rPt s (nI a) (nI b) = decide (a + b ≤ s) := by
  unfold rPt
  rw [nI_toInt ha, nI_toInt hb]
  by_cases hc : a + b ≤ s
  · rw [decide_eq_true hc, decide_eq_true (by omega)]
  · rw [decide_eq_false hc, decide_eq_false (by omega)]
theorem rPt_of {s : Nat} {i n : Int32} (h : rPt s i n = true) : ∃ a b, i = nI a ∧ n = nI b ∧ a + b ≤ s ∧ a < 2 ^ 31 ∧ b < 2 ^ 31 := by
  obtain ⟨h1, h2, h3⟩ := of_decide_eq_true h
  obtain ⟨a, ha, rfl⟩ := nI_of (i0_le.mpr h1)
  obtain ⟨b, hb, rfl⟩ := nI_of (i0_le.mpr h2)
  rw [nI_toInt ha, nI_toInt hb] at h3
  exact ⟨a, b, rfl, rfl, by omega, ha, hb⟩
theorem m_fits_ok (sa : Nat → Nat) (d : Nat) (h : AH) (co : Nat) {S : ST} {P : PS} (hE : pE S 46 P) (hB : pB P) {ln sz : Nat → Nat} {it : Nat → Nat → Int32} (hR : rR S 41 (-1000000) ln sz it) {l r n w i : Nat} (hl : l < P 3) (hr : r < 8) (h1 : 1 ≤ n) (h2 : n ≤ 12) (hw : w < 5) (hm : ln r ≠ 3) (hp : i + n ≤ sz r) (h4 : P 4 ≤ 10000) : ∃ f', AMC sa (d + 8) 167 [.ref (co + 40), .int (nI l), .int (nI r), .int (nI i), .int (nI n), .int (nI w)] (mk h co S) = some (some (.int (ftA P l w (fun k => S.2.2 43 (40 * r + i + k)) n)), mk h co (sI (sA S 48 f') 40 4 0)) := by
  have b3 := hB.2.1
  have hs := (hR r hr).2.1
  have efr : (40 : Int32) * nI r + nI i = nI (40 * r + i) := by rw [show (40 : Int32) = nI 40 from rfl, pk_mul, nI_add]
  have hhi : ftHi P l w ≤ 63 := by
    have hwd := (hB.2.2.2.1 l (by omega)).2.1
    unfold ftHi
    split
    · decide
    · split <;> omega
  have hlo : ftLo w ≤ ftHi P l w + 1 := by unfold ftLo; split <;> omega
  obtain ⟨f', hf⟩ := m_fits_loop sa d h co hE hB (l := l) (n := n) (what := w) (fr := 40 * r + i) (nI r) (nI i) (by omega) h2 hw (by omega) h4 (nI (ftHi P l w)) (ftHi P l w + 1 - ftLo w) (ftHi P l w + 1) 0 (S.2.2 48) .null (by omega) (by omega)
  refine ⟨f', ?_⟩
  rw [sA_self, pk_m1] at hf
  rw [fX8_fits, eX8_fits_0, gC_40, aOp_s, m_isLetter sa (d + 5) h co hE, aRI_mk, aOp_s, iL_nI (by omega) hl, if_neg bvn, m_isRow sa (d + 5), aRI_mk, aOp_s, iL_nI (by decide) hr, if_neg bvn, m_in, aRI_mk, aOp_s, show decide ((1 : Int32) ≤ nI n ∧ nI n ≤ 12) = true from iB_nI h1 h2 (by decide), if_neg bvn, m_in, aRI_mk, aOp_s, show decide ((0 : Int32) ≤ nI w ∧ nI w ≤ 4) = iL (nI w) 5 from rfl, iL_nI (by decide) hw, if_neg bvn, gC_40, aOp_s, m_isMissing sa (d + 6) h co hR hr, aRI_mk, aOp_s, decide_eq_false hm, if_pos bvf, gC_40, aOp_s, m_isPart sa (d + 6) h co hR hr, aRI_mk, aOp_s, rPt_nI (by omega) (by omega), decide_eq_true hp, if_neg bvn, efr, ix0]
  have e110 : ∀ pl, AMV sa (d + 7) 167 110 [.ref (co + 40), .int (nI l), .int (nI r), .int (nI i), .int (nI n), .int (nI w), .int (nI (40 * r + i)), .int (nI (12 + 4 * l)), .null, .null, .null, .null, .null, .null, .null] [.int pl] (mk h co S) = AMV sa (d + 7) 167 157 [.ref (co + 40), .int (nI l), .int (nI r), .int (nI i), .int (nI n), .int (nI w), .int (nI (40 * r + i)), .int (nI (12 + 4 * l)), .int pl, .int (nI (ftHi P l w)), .int 0, .int 0, .int (-1000000), .int (nI (ftHi P l w)), .null] [] (mk h co S) := by
    intro pl
    rw [eX8_fits_110]
    unfold ftHi
    by_cases h0 : w = 0
    · rw [if_pos (show nI w = 0 by rw [h0]; rfl), if_pos h0, eX8_fits_141]; rfl
    · rw [if_neg (nI_ne0 (by omega) (by omega)), if_neg h0]
      by_cases h3 : w < 3
      · rw [if_neg (show ¬ (3 : Int32) ≤ nI w from nI_ge (b := 3) h3 (by decide)), if_pos h3, gR_40_13, aOp_s, nI_1, show 12 + 4 * l + 1 = 13 + 4 * l by omega, pE_get hE h co (by omega), aOp_s, eX8_fits_141]
      · rw [if_pos (show (3 : Int32) ≤ nI w from nI_le (a := 3) (by omega) (by omega)), if_neg h3, eX8_fits_141]; rfl
  have hf2 : AMV sa (d + 7) 167 157 [.ref (co + 40), .int (nI l), .int (nI r), .int (nI i), .int (nI n), .int (nI w), .int (nI (40 * r + i)), .int (nI (12 + 4 * l)), .int (nI (ftPl l w)), .int (nI (ftHi P l w)), .int 0, .int 0, .int (-1000000), .int (nI (ftHi P l w)), .null] [] (mk h co S) = some (some (.int (ftA P l w (fun k => S.2.2 43 (40 * r + i + k)) n)), mk h co (sI (sA S 48 f') 40 4 0)) := by
    rw [← hf]
    congr 1
    by_cases h0 : w = 0
    · rw [if_pos h0]; rfl
    · rw [if_neg h0]; rfl
  have e2 : nI (12 + 4 * l) + 2 = nI (14 + 4 * l) := by rw [show (2 : Int32) = nI 2 from rfl, nI_add, show 12 + 4 * l + 2 = 14 + 4 * l by omega]
  by_cases h0 : w = 0
  · rw [if_pos (show nI w = 0 by rw [h0]; rfl), e110]
    rw [show ftPl l w = 12 + 4 * l from if_pos h0] at hf2
    exact hf2
  · rw [if_neg (nI_ne0 (by omega) (by omega))]
    by_cases h3 : w < 3
    · rw [if_neg (show ¬ (3 : Int32) ≤ nI w from nI_ge (b := 3) h3 (by decide)), e2, e110]
      rw [show ftPl l w = 14 + 4 * l from (if_neg h0).trans (if_pos h3)] at hf2
      exact hf2
    · rw [if_pos (show (3 : Int32) ≤ nI w from nI_le (a := 3) (by omega) (by omega)), e110]
      rw [show ftPl l w = 1 from (if_neg h0).trans (if_neg h3)] at hf2
      exact hf2
/-! slips -/
def slW (op set c : Nat) : Nat → Nat
  | 0 => 1
  | k + 1 => slW op set c k * cond (op.testBit k) (cond (set.testBit k) c (10 - c)) 1
theorem slW_le (op set : Nat) {c : Nat} (hc : c ≤ 10) : ∀ k, slW op set c k ≤ 10 ^ k
  | 0 => Nat.le_refl _
  | k + 1 => by
    have ih := slW_le op set hc k
    simp only [slW]
    rw [Nat.pow_succ]
    refine Nat.mul_le_mul ih ?_
    cases op.testBit k
    · show 1 ≤ 10; decide
    · cases set.testBit k
      · show 10 - c ≤ 10; omega
      · exact hc
def slA (P : PS) (l w N c : Nat) : Nat → Nat
  | 0 => 0
  | n + 1 => slA P l w N c n + (if n &&& (63 ^^^ pU P l) = 0 ∧ pW (pDays (pSay P l n) N) l ≤ w then slW (pU P l) n c (P 2) else 0)
theorem p10 : ∀ k, k ≤ 6 → 10 ^ k ≤ 1000000 := by decide
theorem slA_le {P : PS} (hB : pB P) (l w N : Nat) {c : Nat} (hc : c ≤ 10) : ∀ n, slA P l w N c n ≤ 1000000 * n
  | 0 => Nat.le_refl _
  | n + 1 => by
    have ih := slA_le hB l w N hc n
    have h2 := slW_le (pU P l) n hc (P 2)
    have h3 := p10 (P 2) hB.1
    simp only [slA]
    split <;> omega
def slB (P : PS) (l : Nat) : Nat := 10 ^ pC (pU P l)
def slR (P : PS) (l w N c what : Nat) : Nat := (if what = 0 then slA P l w N c (pU P l + 1) else slB P l) / Nat.gcd (slA P l w N c (pU P l + 1)) (slB P l)
theorem gcd_st (x y : Nat) : Nat.gcd x y = Nat.gcd y (x % y) := by
  rw [Nat.gcd_comm x y, Nat.gcd_rec y x, Nat.gcd_comm]
theorem pC6 : ∀ s, s < 64 → pC s ≤ 6 := by decide +kernel
theorem m_slips_gcd (sa : Nat → Nat) (d : Nat) (H : AH) {A B what : Nat} (x0 : Nat) (x1 x2 x3 x4 x6 : Int32) (hA : A < 2 ^ 31) (hB : B < 2 ^ 31) (hq : what < 2) : ∀ y x x11, x < 2 ^ 31 → y < 2 ^ 31 → 0 < Nat.gcd x y → AMV sa d 168 249 [.ref x0, .int x1, .int x2, .int x3, .int x4, .int (nI what), .int x6, .int (nI A), .int (nI B), .int (nI x), .int (nI y), x11] [] H = some (some (.int (nI ((if what = 0 then A else B) / Nat.gcd x y))), H) := by
  intro y
  induction y using Nat.strongRecOn with
  | ind y ih =>
    intro x x11 hx hy hg
    rw [eX8_slips_249]
    by_cases h0 : y = 0
    · subst h0
      rw [Nat.gcd_zero_right] at hg ⊢
      rw [if_pos (show nI 0 = 0 from rfl), if_neg (nI_ne0 hg hx), if_neg (nI_ne0 hg hx), pk_div hA hg hx, pk_div hB hg hx]
      by_cases h1 : what = 0
      · rw [if_pos (show nI what = 0 by rw [h1]; rfl), if_pos h1]
      · rw [if_neg (nI_ne0 (by omega) (by omega)), if_neg h1]
    · have hy0 : 0 < y := by omega
      rw [if_neg (nI_ne0 hy0 hy), if_neg (nI_ne0 hy0 hy), pk_rem hx hy0 hy, gcd_st x y]
      rw [gcd_st x y] at hg
      have hm := Nat.mod_lt x hy0
      exact ih (x % y) hm y _ hy (by omega) hg
theorem m_slips_ok (sa : Nat → Nat) (d : Nat) (h : AH) (co : Nat) {S : ST} {P : PS} (hE : pE S 46 P) (hB : pB P) {l w n c what : Nat} (hl : l < P 3) (hw : w < 100) (hn : n < 31) (hc : c < 11) (hq : what < 2) (h4 : P 4 ≤ 10000) : ∃ f', AMC sa (d + 7) 168 [.ref (co + 40), .int (nI l), .int (nI w), .int (nI n), .int (nI c), .int (nI what)] (mk h co S) = some (some (.int (nI (slR P l w n c what))), mk h co (sA S 48 f')) := by
  have b3 := hB.2.1
  have b2 := hB.1
  have hu := pU_lt hB (l := l) (by omega)
  have hsd := (hB.2.2.2.1 l (by omega)).2.2.1
  have hpc := pC6 _ hu
  have hBb : slB P l ≤ 1000000 := p10 _ hpc
  have hAb := slA_le hB l w n (c := c) (by omega) (pU P l + 1)
  have lp3 : ∀ set, set < 64 → ∀ (x7 x8 : Int32) (g : Nat → Int32) m k, k + m = P 2 → AMV sa (d + 6) 168 120 [.ref (co + 40), .int (nI l), .int (nI w), .int (nI n), .int (nI c), .int (nI what), .int (nI (pU P l)), .int x7, .int x8, .int (nI set), .int (nI (slW (pU P l) set c k)), .int (nI k)] [] (mk h co (sA S 48 g)) = AMV sa (d + 6) 168 120 [.ref (co + 40), .int (nI l), .int (nI w), .int (nI n), .int (nI c), .int (nI what), .int (nI (pU P l)), .int x7, .int x8, .int (nI set), .int (nI (slW (pU P l) set c (P 2))), .int (nI (P 2))] [] (mk h co (sA S 48 g)) := by
    intro set hset x7 x8 g m
    induction m with
    | zero =>
      intro k hk
      have hk : k = P 2 := hk
      rw [hk]
    | succ m ih =>
      intro k hk
      have e1 : slW (pU P l) set c (k + 1) = slW (pU P l) set c k * cond ((pU P l).testBit k) (cond (set.testBit k) c (10 - c)) 1 := rfl
      rw [← ih (k + 1) (by omega), eX8_slips_120, gR_40_13, aOp_s, show aIL (mk h co (sA S 48 g)) (co + 46) 2 = some (nI (P 2)) from pE_get (pE_sA48 hE g) h co (j := 2) (by decide), aOp_s, if_neg (nI_ge (by omega) (by omega)), m_has sa (d + 5) (by omega) (by omega), aRI_mk, aOp_s, e1]
      cases hb : (pU P l).testBit k with
      | false => rw [if_pos bvf, eX8_slips_167, show (1 : Int32) = nI 1 from rfl, pk_mul, nI_add]; rfl
      | true =>
        rw [if_neg bvn, m_has sa (d + 5) (by omega) (by omega), aRI_mk, aOp_s]
        cases hb2 : set.testBit k with
        | false => rw [if_pos bvf, eX8_slips_167, show (10 : Int32) = nI 10 from rfl, pk_sub (by omega), pk_mul, nI_1]; rfl
        | true => rw [if_neg bvn, eX8_slips_167, pk_mul, nI_1]; rfl
  have lp2 : ∀ m k g x10 x11, k + m = pU P l + 1 → ∃ f', AMV sa (d + 6) 168 97 [.ref (co + 40), .int (nI l), .int (nI w), .int (nI n), .int (nI c), .int (nI what), .int (nI (pU P l)), .int (nI (slA P l w n c k)), .int (nI (slB P l)), .int (nI k), x10, x11] [] (mk h co (sA S 48 g)) = some (some (.int (nI (slR P l w n c what))), mk h co (sA S 48 f')) := by
    intro m
    induction m with
    | zero =>
      intro k g x10 x11 hk
      have hk : k = pU P l + 1 := hk
      refine ⟨g, ?_⟩
      have hgp : 0 < Nat.gcd (slA P l w n c (pU P l + 1)) (slB P l) := Nat.gcd_pos_of_pos_right _ (Nat.pow_pos (by decide))
      rw [eX8_slips_97, if_pos (nI_lt (by omega) (by omega)), hk]
      exact m_slips_gcd sa (d + 6) _ _ _ _ _ _ _ (by omega) (by omega) hq _ _ _ (by omega) (by omega) hgp
    | succ m ih =>
      intro k g x10 x11 hk
      have e1 : slA P l w n c (k + 1) = slA P l w n c k + (if k &&& (63 ^^^ pU P l) = 0 ∧ pW (pDays (pSay P l k) n) l ≤ w then slW (pU P l) k c (P 2) else 0) := rfl
      rw [eX8_slips_97, if_neg (nI_nlt (by omega) (by omega)), n_andn _ (by omega) _ hu]
      have hle : (k &&& (63 ^^^ pU P l)) ≤ k := Nat.and_le_left
      by_cases hs : k &&& (63 ^^^ pU P l) = 0
      · have hB2 : pB (pSay P l k) := pB_said hB l (n_or64 _ hsd _ (by omega))
        have h44 : (pSay P l k) 4 = P 4 := pUp_ne _ _ (by omega)
        obtain ⟨hQ, -⟩ := pDays_B hB2 n (by omega)
        have hE3 : pE (sM (sA S 48 g) 48 P) 48 P := pE_sM (Or.inr (Or.inr rfl)) P
        have e2 : sM (sM (sA S 48 g) 48 P) 48 (pSay P l k) = sA S 48 (sM8 S g (pSay P l k)) := by rw [sM_sM, sM_48]
        have hE4 : pE (sA S 48 (sM8 S g (pSay P l k))) 48 (pSay P l k) := by rw [← sM_48]; exact pE_sM (Or.inr (Or.inr rfl)) _
        have e3 := sM_48 S (sM8 S g (pSay P l k)) (pDays (pSay P l k) n)
        have hE5 : pE (sA S 48 (sM8 S (sM8 S g (pSay P l k)) (pDays (pSay P l k) n))) 48 (pDays (pSay P l k) n) := by rw [← sM_48]; exact pE_sM (Or.inr (Or.inr rfl)) _
        have hw2 : pW (pDays (pSay P l k) n) l ≤ 108 := pWB_le hQ l _
        rw [if_pos (show nI (k &&& (63 ^^^ pU P l)) = 0 by rw [hs]; rfl)]
        have e4 := lp3 k (by omega) (nI (slA P l w n c k)) (nI (slB P l)) g (P 2) 0 (by omega)
        rw [show slW (pU P l) k c 0 = 1 from rfl] at e4
        rw [show (1 : Int32) = nI 1 from rfl, show (0 : Int32) = nI 0 from rfl, e4, eX8_slips_120, gR_40_13, aOp_s, show aIL (mk h co (sA S 48 g)) (co + 46) 2 = some (nI (P 2)) from pE_get (pE_sA48 hE g) h co (j := 2) (by decide), aOp_s, if_pos (nI_le (Nat.le_refl _) (by omega)), aOp_s, gR_40_15, aOp_s, m_tried sa (d + 5) h co (pE_sA48 hE g), aRV_mk, aOp_s, gR_40_15, aOp_s, ix2, pE_get hE3 h co (by omega), aOp_s, n_or _ (by omega) _ (by omega), pE_set hE3 h co (by omega), aOp_s, show pUp P (14 + 4 * l) (P (14 + 4 * l) ||| k) = pSay P l k from rfl, e2, gC_40, aOp_s, m_goesOn sa d h co hE4 hB2 (by omega), aRV_mk, aOp_s, e3, gR_40_15, aOp_s, m_weight sa (d + 3) h co hE5 hQ (by omega), aRI_mk, aOp_s]
        by_cases hcw : pW (pDays (pSay P l k) n) l ≤ w
        · rw [if_pos ⟨hs, hcw⟩] at e1
          have := ih (k + 1) (sM8 S (sM8 S g (pSay P l k)) (pDays (pSay P l k) n)) (.int (nI (slW (pU P l) k c (P 2)))) (.int (nI (P 2))) (by omega)
          rw [e1] at this
          rw [if_neg (nI_nlt hcw (by omega)), eX8_slips_232, nI_add, nI_1]
          exact this
        · rw [if_neg (fun z => hcw z.2)] at e1
          have := ih (k + 1) (sM8 S (sM8 S g (pSay P l k)) (pDays (pSay P l k) n)) (.int (nI (slW (pU P l) k c (P 2)))) (.int (nI (P 2))) (by omega)
          rw [e1] at this
          rw [if_pos (nI_lt (by omega) (by omega)), eX8_slips_232, show (0 : Int32) = nI 0 from rfl, nI_add, nI_1]
          exact this
      · rw [if_neg (fun z => hs z.1)] at e1
        have := ih (k + 1) g x10 x11 (by omega)
        rw [e1, Nat.add_zero] at this
        rw [if_neg (nI_ne0 (by omega) (by omega)), nI_1]
        exact this
  have lp1 : ∀ m k, k + m = pC (pU P l) → AMV sa (d + 6) 168 71 [.ref (co + 40), .int (nI l), .int (nI w), .int (nI n), .int (nI c), .int (nI what), .int (nI (pU P l)), .int 0, .int (nI (10 ^ k)), .int (nI k), .null, .null] [] (mk h co S) = AMV sa (d + 6) 168 97 [.ref (co + 40), .int (nI l), .int (nI w), .int (nI n), .int (nI c), .int (nI what), .int (nI (pU P l)), .int 0, .int (nI (slB P l)), .int 0, .null, .null] [] (mk h co S) := by
    intro m
    induction m with
    | zero =>
      intro k hk
      have hk : k = pC (pU P l) := hk
      rw [eX8_slips_71, m_ones sa (d + 5) (by omega), aRI_mk, aOp_s, if_pos (nI_le (by omega) (by omega)), hk]
      rfl
    | succ m ih =>
      intro k hk
      rw [eX8_slips_71, m_ones sa (d + 5) (by omega), aRI_mk, aOp_s, if_neg (nI_ge (by omega) (by omega)), show (10 : Int32) = nI 10 from rfl, pk_mul, nI_1, ← Nat.pow_succ]
      exact ih (k + 1) (by omega)
  obtain ⟨f', hf⟩ := lp2 (pU P l + 1) 0 (S.2.2 48) .null .null (by omega)
  rw [sA_self] at hf
  refine ⟨f', ?_⟩
  rw [fX8_slips, eX8_slips_0, gC_40, aOp_s, m_isLetter sa (d + 4) h co hE, aRI_mk, aOp_s, iL_nI (by omega) hl, if_neg bvn, m_in, aRI_mk, aOp_s, show decide ((0 : Int32) ≤ nI w ∧ nI w ≤ 99) = iL (nI w) 100 from rfl, iL_nI (by decide) hw, if_neg bvn, m_in, aRI_mk, aOp_s, show decide ((0 : Int32) ≤ nI n ∧ nI n ≤ 30) = iL (nI n) 31 from rfl, iL_nI (by decide) hn, if_neg bvn, m_in, aRI_mk, aOp_s, show decide ((0 : Int32) ≤ nI c ∧ nI c ≤ 10) = iL (nI c) 11 from rfl, iL_nI (by decide) hc, if_neg bvn, m_in, aRI_mk, aOp_s, show decide ((0 : Int32) ≤ nI what ∧ nI what ≤ 1) = iL (nI what) 2 from rfl, iL_nI (by decide) hq, if_neg bvn, gR_40_13, aOp_s, m_unsaid sa (d + 5) h co hE hB (by omega), aRI_mk, aOp_s]
  have := lp1 (pC (pU P l)) 0 (by omega)
  exact this.trans hf
theorem m_slips_bad (sa : Nat → Nat) (d : Nat) (h : AH) (co : Nat) {S : ST} {P : PS} (hE : pE S 46 P) (x w n c z : Int32) (hb : (iL x (P 3) && (iL w 100 && (iL n 31 && (iL c 11 && iL z 2)))) = false) : AMC sa (d + 7) 168 [.ref (co + 40), .int x, .int w, .int n, .int c, .int z] (mk h co S) = some (some (.int (-1000001)), mk h co S) := by
  rw [fX8_slips, eX8_slips_0, gC_40, aOp_s, m_isLetter sa (d + 4) h co hE, aRI_mk, aOp_s]
  cases h1 : iL x (P 3) with
  | false => rw [if_pos bvf]
  | true =>
    rw [h1, Bool.true_and] at hb
    rw [if_neg bvn, m_in, aRI_mk, aOp_s, show decide ((0 : Int32) ≤ w ∧ w ≤ 99) = iL w 100 from rfl]
    cases h2 : iL w 100 with
    | false => rw [if_pos bvf]
    | true =>
      rw [h2, Bool.true_and] at hb
      rw [if_neg bvn, m_in, aRI_mk, aOp_s, show decide ((0 : Int32) ≤ n ∧ n ≤ 30) = iL n 31 from rfl]
      cases h3 : iL n 31 with
      | false => rw [if_pos bvf]
      | true =>
        rw [h3, Bool.true_and] at hb
        rw [if_neg bvn, m_in, aRI_mk, aOp_s, show decide ((0 : Int32) ≤ c ∧ c ≤ 10) = iL c 11 from rfl]
        cases h4 : iL c 11 with
        | false => rw [if_pos bvf]
        | true =>
          rw [h4, Bool.true_and] at hb
          rw [if_neg bvn, m_in, aRI_mk, aOp_s, show decide ((0 : Int32) ≤ z ∧ z ≤ 1) = iL z 2 from rfl, hb, if_pos bvf]
/-! drawn -/
theorem n_cmp {a : Nat} (ha : a < 2 ^ 63) : lg_cmp (lN a) (lN 0) = 0 ↔ a = 0 := by
  unfold lg_cmp
  by_cases h : a = 0
  · subst h
    rw [if_neg (show ¬ lN 0 > lN 0 by decide), if_pos rfl]
    simp
  · rw [if_pos (show lN a > lN 0 from (pk_lLT (by decide) ha).mpr (by omega))]
    exact ⟨fun z => absurd z (by decide), fun z => absurd z h⟩
def lc (x : Nat) : Nat := x * 16807 % 2147483647
def dwJ (P : PS) (x j : Nat) : PS := if x % 3 = 0 then (if x % 2 = 0 then pUp (pUp P (15 + 4 * j) 0) (14 + 4 * j) 0 else pUp P (15 + 4 * j) 0) else P
def dw (P : PS) (x : Nat) : PS := pDay (dwJ (pUp P 0 (x % 30)) x (x % P 3))
def dwN (P : PS) (s : Nat) : Nat → PS × Nat
  | 0 => (P, s)
  | k + 1 => (dw (dwN P s k).1 (lc (dwN P s k).2), lc (dwN P s k).2)
theorem pUp_self (P : PS) (j : Nat) : pUp P j (P j) = P := by
  funext k
  unfold pUp
  by_cases h : k = j
  · rw [if_pos h, h]
  · rw [if_neg h]
theorem pB_dwJ {P : PS} (hB : pB P) (x j : Nat) : pB (dwJ P x j) := by
  unfold dwJ
  split
  · split
    · exact pB_said (pB_sent hB j (by decide)) j (by decide)
    · exact pB_sent hB j (by decide)
  · exact hB
theorem dwJ_ne (P : PS) (x j k : Nat) (h1 : k ≠ 14 + 4 * j) (h2 : k ≠ 15 + 4 * j) : dwJ P x j k = P k := by
  unfold dwJ
  split
  · split
    · rw [pUp_ne _ _ h1, pUp_ne _ _ h2]
    · rw [pUp_ne _ _ h2]
  · rfl
theorem dw_B {P : PS} (hB : pB P) (h4 : P 4 < 100000) (x : Nat) : pB (dw P x) ∧ dw P x 4 = P 4 + 1 ∧ dw P x 3 = P 3 := by
  have h1 : pB (pUp P 0 (x % 30)) := pB_strap hB (by omega)
  have h2 := pB_dwJ h1 x (x % P 3)
  have e4 : dwJ (pUp P 0 (x % 30)) x (x % P 3) 4 = P 4 := by rw [dwJ_ne _ _ _ _ (by omega) (by omega), pUp_ne _ _ (by decide)]
  have e3 : dwJ (pUp P 0 (x % 30)) x (x % P 3) 3 = P 3 := by rw [dwJ_ne _ _ _ _ (by omega) (by omega), pUp_ne _ _ (by decide)]
  refine ⟨pB_day h2 (by rw [e4]; exact h4), by unfold dw; rw [pDay_4, e4], ?_⟩
  unfold dw
  rw [pDay_ne h2 (by decide) (by decide) (fun l _ => by omega), e3]
theorem dwN_B {P : PS} (hB : pB P) {s : Nat} (hs : s < 2147483647) : ∀ k, P 4 + k ≤ 100000 → pB (dwN P s k).1 ∧ (dwN P s k).1 4 = P 4 + k ∧ (dwN P s k).1 3 = P 3 ∧ (dwN P s k).2 < 2147483647
  | 0, _ => ⟨hB, rfl, rfl, hs⟩
  | k + 1, h => by
    obtain ⟨h1, h2, h3, h4⟩ := dwN_B hB hs k (by omega)
    obtain ⟨c1, c2, c3⟩ := dw_B h1 (by omega) (lc (dwN P s k).2)
    exact ⟨c1, by show dw _ _ 4 = _; rw [c2]; omega, by show dw _ _ 3 = _; rw [c3, h3], Nat.mod_lt _ (by decide)⟩
theorem m_drawn_ok (sa : Nat → Nat) (d : Nat) (h : AH) (co : Nat) {S : ST} {P : PS} (hE : pE S 46 P) (hB : pB P) {n s what : Nat} (hz : 0 < P 3) (hn : n < 61) (hs1 : 1 ≤ s) (hs2 : s ≤ 999999) (hq : what < 2) (h4 : P 4 ≤ 10000) : ∃ f', AMC sa (d + 6) 169 [.ref (co + 40), .int (nI n), .int (nI s), .int (nI what)] (mk h co S) = some (some (.int (nI (if what = 0 then (dwN (pUp P 5 0) s n).1 5 else pC (pSn (dwN (pUp P 5 0) s n).1 ((dwN (pUp P 5 0) s n).1 3))))), mk h co (sA S 48 f')) := by
  have b3 := hB.2.1
  have hB0 : pB (pUp P 5 0) := by
    obtain ⟨b1, b2, b3, b4, b5, b6, b7, b8⟩ := hB
    have hn : ∀ j, j ≠ 5 → pUp P 5 0 j = P j := fun j hj => pUp_ne P _ hj
    refine ⟨by rw [hn 2 (by omega)]; exact b1, by rw [hn 3 (by omega)]; exact b2, fun k hk => by rw [hn (6 + k) (by omega)]; exact b3 k hk, fun q hq => ?_, by rw [hn 0 (by omega)]; exact b5, by rw [hn 1 (by omega)]; exact b6, by rw [hn 4 (by omega)]; exact b7, by rw [pUp_at]; decide⟩
    rw [hn (12 + 4 * q) (by omega), hn (13 + 4 * q) (by omega), hn (14 + 4 * q) (by omega), hn (15 + 4 * q) (by omega)]
    exact b4 q hq
  have e04 : (pUp P 5 0) 4 = P 4 := pUp_ne _ _ (by decide)
  have e03 : (pUp P 5 0) 3 = P 3 := pUp_ne _ _ (by decide)
  have t48 : ∀ f (Q : PS), ∃ f', sM (sA S 48 f) 48 Q = sA S 48 f' ∧ pE (sA S 48 f') 48 Q := fun f Q => ⟨_, sM_48 S f Q, by rw [← sM_48]; exact pE_sM (Or.inr (Or.inr rfl)) _⟩
  have loop : ∀ m k f x7, k + m = n → pE (sA S 48 f) 48 (dwN (pUp P 5 0) s k).1 → ∃ f', AMV sa (d + 5) 169 69 [.ref (co + 40), .int (nI n), .int (nI s), .int (nI what), .long (lN (dwN (pUp P 5 0) s k).2), .null, .int (nI k), x7] [] (mk h co (sA S 48 f)) = some (some (.int (nI (if what = 0 then (dwN (pUp P 5 0) s n).1 5 else pC (pSn (dwN (pUp P 5 0) s n).1 ((dwN (pUp P 5 0) s n).1 3))))), mk h co (sA S 48 f')) := by
    intro m
    induction m with
    | zero =>
      intro k f x7 hk hf
      have hk : k = n := hk
      subst hk
      obtain ⟨q1, q2, q3, q4⟩ := dwN_B hB0 (s := s) (by omega) k (by omega)
      refine ⟨f, ?_⟩
      rw [eX8_drawn_69, if_pos (nI_le (Nat.le_refl _) (by omega))]
      by_cases h0 : what = 0
      · rw [if_pos (show nI what = 0 by rw [h0]; rfl), if_pos h0, gR_40_15, aOp_s, show aIL (mk h co (sA S 48 f)) (co + 48) 5 = some (nI ((dwN (pUp P 5 0) s k).1 5)) from pE_get hf h co (j := 5) (by decide), aOp_s]
      · have hps := pSn_lt q1 ((dwN (pUp P 5 0) s k).1 3) q1.2.1
        have hp7 := pow7 _ q1.2.1
        rw [if_neg (nI_ne0 (by omega) (by omega)), if_neg h0, gR_40_15, aOp_s, m_sentOf sa (d + 4) h co hf q1, aRI_mk, aOp_s, m_ones sa (d + 4) (by omega), aRI_mk, aOp_s]
    | succ m ih =>
      intro k f x7 hk hf
      obtain ⟨q1, q2, q3, q4⟩ := dwN_B hB0 (s := s) (by omega) k (by omega)
      have ihk := ih (k + 1)
      have es : dwN (pUp P 5 0) s (k + 1) = (dw (dwN (pUp P 5 0) s k).1 (lc (dwN (pUp P 5 0) s k).2), lc (dwN (pUp P 5 0) s k).2) := rfl
      rw [es] at ihk
      generalize hZ : dwN (pUp P 5 0) s k = Z at *
      obtain ⟨Q, x⟩ := Z
      dsimp only at *
      have hx1 : lc x < 2147483647 := Nat.mod_lt _ (by decide)
      rw [eX8_drawn_69, if_neg (nI_ge (by omega) (by omega)), if_neg (show ¬ lN 2147483647 = 0 by decide), lN_mul, pk_lRem (by omega) (by decide) (by decide), eX8_drawn_85, gR_40_15, aOp_s, if_neg (show ¬ lN 30 = 0 by decide)]
      rw [show x * 16807 % 2147483647 = lc x from rfl]
      generalize lc x = y at *
      obtain ⟨f1, e1, p1⟩ := t48 f (pUp Q 0 (y % 30))
      have hp1 : pB (pUp Q 0 (y % 30)) := pB_strap q1 (by omega)
      have g1 : aIS (mk h co (sA S 48 f)) (co + 48) 0 (nI (y % 30)) = some (mk h co (sA S 48 f1)) := by
        rw [show (0 : Int32) = nI 0 from rfl, pE_set hf h co (by decide), e1]
      rw [pk_lRem (by omega) (by decide) (by decide), eX8_drawn_98, lN_i, g1, aOp_s, gR_40_13, aOp_s, show aIL (mk h co (sA S 48 f1)) (co + 46) 3 = some (nI (P 3)) from pE_get (pE_sA48 hE f1) h co (j := 3) (by decide), aOp_s, nI_l (by omega), if_neg (show ¬ lN (P 3) = 0 from fun z => by have := (pk_lEQ (a := P 3) (b := 0) (by omega) (by decide)).mp z; omega), pk_lRem (by omega) hz (by omega), eX8_drawn_113, if_neg (show ¬ lN 3 = 0 by decide), lN_i, ix0, pk_lRem (by omega) (by decide) (by decide), eX8_drawn_124]
      have hj : y % P 3 < P 3 := Nat.mod_lt _ hz
      have eQ3 : Q 3 = P 3 := q3.trans e03
      have fin : ∀ f3, pE (sA S 48 f3) 48 (dwJ (pUp Q 0 (y % 30)) y (y % P 3)) → ∃ f', AMV sa (d + 5) 169 172 [.ref (co + 40), .int (nI n), .int (nI s), .int (nI what), .long (lN y), .null, .int (nI k), .int (nI (12 + 4 * (y % P 3)))] [] (mk h co (sA S 48 f3)) = some (some (.int (nI (if what = 0 then (dwN (pUp P 5 0) s n).1 5 else pC (pSn (dwN (pUp P 5 0) s n).1 ((dwN (pUp P 5 0) s n).1 3))))), mk h co (sA S 48 f')) := by
        intro f3 p3
        obtain ⟨f4, e4, p4⟩ := t48 f3 (pDay (dwJ (pUp Q 0 (y % 30)) y (y % P 3)))
        rw [eX8_drawn_172, gR_40_15, aOp_s, m_passes sa d h co p3 (pB_dwJ hp1 _ _), aRV_mk, aOp_s, e4, nI_1]
        refine ihk f4 _ (by omega) ?_
        unfold dw
        rw [eQ3]
        exact p4
      by_cases h3 : y % 3 = 0
      · rw [if_pos ((n_cmp (by omega)).mpr h3)]
        obtain ⟨f2, e2, p2⟩ := t48 f1 (pUp (pUp Q 0 (y % 30)) (15 + 4 * (y % P 3)) 0)
        have i3 : nI (12 + 4 * (y % P 3)) + 3 = nI (15 + 4 * (y % P 3)) := by rw [show (3 : Int32) = nI 3 from rfl, nI_add, show 12 + 4 * (y % P 3) + 3 = 15 + 4 * (y % P 3) by omega]
        have i2 : nI (12 + 4 * (y % P 3)) + 2 = nI (14 + 4 * (y % P 3)) := by rw [show (2 : Int32) = nI 2 from rfl, nI_add, show 12 + 4 * (y % P 3) + 2 = 14 + 4 * (y % P 3) by omega]
        have g2 : aIS (mk h co (sA S 48 f1)) (co + 48) (nI (15 + 4 * (y % P 3))) 0 = some (mk h co (sA S 48 f2)) := by
          rw [show (0 : Int32) = nI 0 from rfl, pE_set p1 h co (by omega), e2]
        rw [gR_40_15, aOp_s, i3, g2, aOp_s, gR_40_15, aOp_s, if_neg (show ¬ lN 2 = 0 by decide), i2, pk_lRem (by omega) (by decide) (by decide), eX8_drawn_153]
        by_cases h2 : y % 2 = 0
        · obtain ⟨f3, e3, p3⟩ := t48 f2 (pUp (pUp (pUp Q 0 (y % 30)) (15 + 4 * (y % P 3)) 0) (14 + 4 * (y % P 3)) 0)
          have g3 : aIS (mk h co (sA S 48 f2)) (co + 48) (nI (14 + 4 * (y % P 3))) 0 = some (mk h co (sA S 48 f3)) := by
            rw [show (0 : Int32) = nI 0 from rfl, pE_set p2 h co (by omega), e3]
          rw [if_pos ((n_cmp (by omega)).mpr h2), g3, aOp_s]
          refine fin f3 ?_
          unfold dwJ
          rw [if_pos h3, if_pos h2]
          exact p3
        · obtain ⟨f3, e3, p3⟩ := t48 f2 (pUp (pUp Q 0 (y % 30)) (15 + 4 * (y % P 3)) 0)
          rw [if_neg (fun z => h2 ((n_cmp (by omega)).mp z)), gR_40_15, aOp_s, i2, pE_get p2 h co (by omega), aOp_s, pE_set p2 h co (by omega), aOp_s, pUp_self, e3]
          refine fin f3 ?_
          unfold dwJ
          rw [if_pos h3, if_neg h2]
          exact p3
      · rw [if_neg (fun z => h3 ((n_cmp (by omega)).mp z))]
        refine fin f1 ?_
        unfold dwJ
        rw [if_neg h3]
        exact p1
  obtain ⟨f1, e1, p1⟩ := t48 (S.2.2 48) P
  rw [sA_self] at e1
  obtain ⟨f2, e2, p2⟩ := t48 f1 (pUp P 5 0)
  obtain ⟨f', hf⟩ := loop n 0 f2 .null (by omega) p2
  refine ⟨f', ?_⟩
  have g1 : aIS (mk h co (sA S 48 f1)) (co + 48) 5 0 = some (mk h co (sA S 48 f2)) := by
    rw [show (0 : Int32) = nI 0 from rfl, show (5 : Int32) = nI 5 from rfl, pE_set p1 h co (by decide), e2]
  rw [fX8_drawn, eX8_drawn_0, gC_40, aOp_s, m_isPost sa (d + 4) h co hE hB, aRI_mk, aOp_s, show decide (0 < P 3) = true from decide_eq_true hz, if_neg bvn, m_in, aRI_mk, aOp_s, show decide ((0 : Int32) ≤ nI n ∧ nI n ≤ 60) = iL (nI n) 61 from rfl, iL_nI (by decide) hn, if_neg bvn, m_in, aRI_mk, aOp_s, show decide ((1 : Int32) ≤ nI s ∧ nI s ≤ 999999) = true from iB_nI hs1 hs2 (by decide), if_neg bvn, m_in, aRI_mk, aOp_s, show decide ((0 : Int32) ≤ nI what ∧ nI what ≤ 1) = iL (nI what) 2 from rfl, iL_nI (by decide) hq, if_neg bvn, gR_40_13, aOp_s, gR_40_15, aOp_s, m_tried sa (d + 4) h co hE, aRV_mk, aOp_s, e1, gR_40_15, aOp_s, g1, aOp_s, nI_l (by omega)]
  exact hf
theorem m_drawn_no (sa : Nat → Nat) (d : Nat) (h : AH) (co : Nat) {S : ST} {P : PS} (hE : pE S 46 P) (hB : pB P) (x y z : Int32) (hz : P 3 = 0) : AMC sa (d + 6) 169 [.ref (co + 40), .int x, .int y, .int z] (mk h co S) = some (some (.int (-1000002)), mk h co S) := by
  rw [fX8_drawn, eX8_drawn_0, gC_40, aOp_s, m_isPost sa (d + 4) h co hE hB, aRI_mk, aOp_s, show decide (0 < P 3) = false from decide_eq_false (by omega), if_pos bvf]
theorem m_drawn_bad (sa : Nat → Nat) (d : Nat) (h : AH) (co : Nat) {S : ST} {P : PS} (hE : pE S 46 P) (hB : pB P) (x y z : Int32) (hz : 0 < P 3) (hb : (iL x 61 && (iB y 1 999999 && iL z 2)) = false) : AMC sa (d + 6) 169 [.ref (co + 40), .int x, .int y, .int z] (mk h co S) = some (some (.int (-1000001)), mk h co S) := by
  rw [fX8_drawn, eX8_drawn_0, gC_40, aOp_s, m_isPost sa (d + 4) h co hE hB, aRI_mk, aOp_s, show decide (0 < P 3) = true from decide_eq_true hz, if_neg bvn, m_in, aRI_mk, aOp_s, show decide ((0 : Int32) ≤ x ∧ x ≤ 60) = iL x 61 from rfl]
  cases h2 : iL x 61 with
  | false => rw [if_pos bvf]
  | true =>
    rw [h2, Bool.true_and] at hb
    rw [if_neg bvn, m_in, aRI_mk, aOp_s, show decide ((1 : Int32) ≤ y ∧ y ≤ 999999) = iB y 1 999999 from rfl]
    cases h3 : iB y 1 999999 with
    | false => rw [if_pos bvf]
    | true =>
      rw [h3, Bool.true_and] at hb
      rw [if_neg bvn, m_in, aRI_mk, aOp_s, show decide ((0 : Int32) ≤ z ∧ z ≤ 1) = iL z 2 from rfl, hb, if_pos bvf]
