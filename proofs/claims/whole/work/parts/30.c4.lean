/-! ===== the class: small methods ===== -/
theorem c_out (sa : Nat → Nat) (d : Nat) (v lo hi : Int32) (h : AH) : AMC sa (d + 1) 103 [.int v, .int lo, .int hi] h = some (some (.int (bv (!(iB v lo hi)))), h) := by
  rw [fX7_isOutside, eX7_isOutside_0]
  unfold iB
  by_cases h1 : v < lo
  · rw [if_pos h1, decide_eq_false (fun z => absurd h1 (Int32.not_lt.mpr z.1))]; rfl
  · rw [if_neg h1]
    by_cases h2 : v ≤ hi
    · rw [if_pos h2, decide_eq_true ⟨Int32.not_lt.mp h1, h2⟩]; rfl
    · rw [if_neg h2, decide_eq_false (fun z => h2 z.2)]; rfl
theorem c_hasNoPost (sa : Nat → Nat) (d : Nat) {h : AH} {co : Nat} {S : ST} {P : PS} (hE : cE h co S 17 P) (hB : pB P) : AMC sa (d + 1) 100 [.ref co] (mk h co S) = some (some (.int (bv (decide (P 3 = 0)))), mk h co S) := by
  have h7 := hB.2.1
  rw [fX7_hasNoPost, eX7_hasNoPost_0, gR_0_3, aOp_s, gI_17_4, aOp_s, hE.2.2.1]
  by_cases hz : P 3 = 0
  · rw [if_pos (show nI (P 3) = 0 by rw [hz]; rfl), decide_eq_true hz]; rfl
  · rw [if_neg (nI_ne0 (by omega) (by omega)), decide_eq_false hz]; rfl
theorem c_hasNo (sa : Nat → Nat) (d : Nat) {h : AH} {co : Nat} {S : ST} {P : PS} (hE : cE h co S 17 P) (x : Int32) : AMC sa (d + 2) 101 [.ref co, .int x] (mk h co S) = some (some (.int (bv (!(iL x (P 3))))), mk h co S) := by
  rw [fX7_hasNo, eX7_hasNo_0, gR_0_3, aOp_s, gI_17_4, aOp_s, hE.2.2.1, c_out, aRI_mk, aOp_s]
  exact if_pos (bv_01 _)
theorem c_hasNoWord (sa : Nat → Nat) (d : Nat) {h : AH} {co : Nat} {S : ST} {P : PS} (hE : cE h co S 17 P) (hB : pB P) (x : Int32) : AMC sa (d + 2) 102 [.ref co, .int x] (mk h co S) = some (some (.int (bv (!(iL x (P 2))))), mk h co S) := by
  obtain ⟨a1, a2, a3, r, g⟩ := wE_get hE.2.1 hB
  rw [fX7_hasNoWord, eX7_hasNoWord_0, gR_0_3, aOp_s, gR_17_3, aOp_s, (r S).1, aOp_s, c_out, aRI_mk, aOp_s]
  exact if_pos (bv_01 _)
theorem c_found (sa : Nat → Nat) (d : Nat) (h : AH) (co : Nat) (S : ST) (x : Int32) : AMC sa (d + 1) 99 [.ref co, .int x] (mk h co S) = some (some (.int ((-1000010) - x)), mk h co (sI S 0 9 x)) := by
  rw [fX7_found, eX7_found_0, gP_0_9, aOp_s]
theorem c_bits (sa : Nat → Nat) (d : Nat) {s : Nat} (hs : s < 128) (h : AH) : AMC sa (d + 1) 185 [.int (nI s)] h = some (some (.int (nI (pC s))), h) := by
  rw [fJ6_bitCount, eJ6_bitCount_0]
  refine congrArg (fun z => some (some (Value.int z), h)) (?_ : _ = nI (pC s))
  revert s
  decide +kernel
theorem c_ntz (sa : Nat → Nat) (d : Nat) {k : Nat} (hk : k < 6) (h : AH) : AMC sa (d + 1) 184 [.int (nI (2 ^ k))] h = some (some (.int (nI k)), h) := by
  have hv : k = 0 ∨ k = 1 ∨ k = 2 ∨ k = 3 ∨ k = 4 ∨ k = 5 := by omega
  rw [fJ6_numberOfTrailingZeros, eJ6_numberOfTrailingZeros_0]
  rcases hv with rfl | rfl | rfl | rfl | rfl | rfl
  · rw [if_neg (by decide +kernel)]
    exact congrArg (fun z => some (some (Value.int z), h)) (by decide +kernel)
  · rw [if_pos (by decide +kernel), if_pos (by decide +kernel), eJ6_numberOfTrailingZeros_34, if_pos (by decide +kernel), eJ6_numberOfTrailingZeros_49, if_pos (by decide +kernel), eJ6_numberOfTrailingZeros_62, if_pos (by decide +kernel), eJ6_numberOfTrailingZeros_74]
    exact congrArg (fun z => some (some (Value.int z), h)) (by decide +kernel)
  · rw [if_pos (by decide +kernel), if_pos (by decide +kernel), eJ6_numberOfTrailingZeros_34, if_pos (by decide +kernel), eJ6_numberOfTrailingZeros_49, if_pos (by decide +kernel), eJ6_numberOfTrailingZeros_62, if_pos (by decide +kernel), eJ6_numberOfTrailingZeros_74]
    exact congrArg (fun z => some (some (Value.int z), h)) (by decide +kernel)
  · rw [if_pos (by decide +kernel), if_pos (by decide +kernel), eJ6_numberOfTrailingZeros_34, if_pos (by decide +kernel), eJ6_numberOfTrailingZeros_49, if_pos (by decide +kernel), eJ6_numberOfTrailingZeros_62, if_neg (by decide +kernel), eJ6_numberOfTrailingZeros_74]
    exact congrArg (fun z => some (some (Value.int z), h)) (by decide +kernel)
  · rw [if_pos (by decide +kernel), if_pos (by decide +kernel), eJ6_numberOfTrailingZeros_34, if_pos (by decide +kernel), eJ6_numberOfTrailingZeros_49, if_pos (by decide +kernel), eJ6_numberOfTrailingZeros_62, if_neg (by decide +kernel), eJ6_numberOfTrailingZeros_74]
    exact congrArg (fun z => some (some (Value.int z), h)) (by decide +kernel)
  · rw [if_pos (by decide +kernel), if_pos (by decide +kernel), eJ6_numberOfTrailingZeros_34, if_pos (by decide +kernel), eJ6_numberOfTrailingZeros_49, if_neg (by decide +kernel), eJ6_numberOfTrailingZeros_62, if_pos (by decide +kernel), eJ6_numberOfTrailingZeros_74]
    exact congrArg (fun z => some (some (Value.int z), h)) (by decide +kernel)
theorem c_power (sa : Nat → Nat) (d : Nat) (b : Nat) {n : Nat} (hn : n < 1000) (h : AH) : AMC sa (d + 1) 104 [.int (nI b), .int (nI n)] h = some (some (.int (nI (b ^ n))), h) := by
  have loop : ∀ m k, k + m = n → AMV sa d 104 4 [.int (nI b), .int (nI n), .int (nI (b ^ k)), .int (nI k)] [] h = some (some (.int (nI (b ^ n))), h) := by
    intro m
    induction m with
    | zero =>
      intro k hk
      have hk : k = n := hk
      rw [eX7_power_4, if_pos (nI_le (by omega) (by omega)), hk]
    | succ m ih =>
      intro k hk
      rw [eX7_power_4, if_neg (nI_ge (by omega) (by omega)), pk_mul, nI_1, ← Nat.pow_succ]
      exact ih (k + 1) (by omega)
  rw [fX7_power, eX7_power_0]
  exact loop n 0 (by omega)
theorem c_gcd (sa : Nat → Nat) (d : Nat) (h : AH) (x0 x1 : Int32) : ∀ m t a b x5, a < 2 ^ 31 → b < 2 ^ m → b < 2 ^ 31 → t + 2 * m ≤ 98 → AMV sa d 105 7 [.int x0, .int x1, .int (nI a), .int (nI b), .int (nI t), x5] [] h = some (some (.int (nI (Nat.gcd a b))), h) := by
  intro m
  induction m with
  | zero =>
    intro t a b x5 ha hb hb2 ht
    have hb : b = 0 := by omega
    subst hb
    rw [eX7_commonDivisor_7, if_neg (show ¬ (100 : Int32) ≤ nI t from nI_ge (b := 100) (by omega) (by decide)), if_pos (show nI 0 = 0 from rfl), Nat.gcd_zero_right]
  | succ m ih =>
    intro t a b x5 ha hb hb2 ht
    by_cases h0 : b = 0
    · subst h0
      rw [eX7_commonDivisor_7, if_neg (show ¬ (100 : Int32) ≤ nI t from nI_ge (b := 100) (by omega) (by decide)), if_pos (show nI 0 = 0 from rfl), Nat.gcd_zero_right]
    · have hr : a % b < b := Nat.mod_lt _ (by omega)
      rw [eX7_commonDivisor_7, if_neg (show ¬ (100 : Int32) ≤ nI t from nI_ge (b := 100) (by omega) (by decide)), if_neg (nI_ne0 (by omega) hb2), if_neg (nI_ne0 (by omega) hb2), pk_rem ha (by omega) hb2, nI_1, gcd_st a b]
      by_cases h1 : a % b = 0
      · rw [h1, eX7_commonDivisor_7, if_neg (show ¬ (100 : Int32) ≤ nI (t + 1) from nI_ge (b := 100) (by omega) (by decide)), if_pos (show nI 0 = 0 from rfl), Nat.gcd_zero_right]
      · have hr2 : b % (a % b) < a % b := Nat.mod_lt _ (by omega)
        have e := Nat.div_add_mod b (a % b)
        have hq : 1 ≤ b / (a % b) := Nat.div_pos (by omega) (by omega)
        have hm : a % b ≤ a % b * (b / (a % b)) := Nat.le_mul_of_pos_right _ hq
        rw [eX7_commonDivisor_7, if_neg (show ¬ (100 : Int32) ≤ nI (t + 1) from nI_ge (b := 100) (by omega) (by decide)), if_neg (nI_ne0 (by omega) (by omega)), if_neg (nI_ne0 (by omega) (by omega)), pk_rem hb2 (by omega) (by omega), nI_1, gcd_st b (a % b)]
        refine ih (t + 1 + 1) (a % b) (b % (a % b)) _ (by omega) ?_ (by omega) (by omega)
        rw [Nat.pow_succ] at hb
        omega
theorem c_commonDivisor (sa : Nat → Nat) (d : Nat) (h : AH) {a b : Nat} (ha : a < 2 ^ 31) (hb : b < 2 ^ 31) : AMC sa (d + 1) 105 [.int (nI a), .int (nI b)] h = some (some (.int (nI (Nat.gcd a b))), h) := by
  rw [fX7_commonDivisor, eX7_commonDivisor_0]
  exact c_gcd sa d h _ _ 31 0 a b _ ha hb hb (by decide)
theorem c_takeReturned (sa : Nat → Nat) (d : Nat) {h : AH} {co : Nat} {S : ST} {c : Nat} {P : PS} (hE : cE h co S c P) (hB : pB P) {l : Nat} (hl : l < P 3) : ∃ S' : ST, AMC sa (d + 1) 14 [.ref (co + c), .int (nI l)] (mk h co S) = some (none, mk h co S') ∧ cE h co S' c (pUp P (15 + 4 * l) 0) ∧ fr c (c + 4) S S' := by
  have hq := hE.1
  have h7 := hB.2.1
  have hs := pSn_lt hB (P 3) h7
  have hp := pow7 _ h7
  have h2 := (show ∀ k, k < 7 → 2 ^ k < 128 by decide) l (by omega)
  refine ⟨sI S c 5 (nI (pSn P (P 3) &&& (127 ^^^ 2 ^ l))), ?_, cE_sent hE hB l 0 (pSn_off hB hl).symm, fr_I (fr_refl _ _ _) (by omega) (by omega) _ _⟩
  rw [fX2_takeReturned, eX2_takeReturned_0, qI5 hq, aOp_s, hE.2.2.2.1, n_shl1 l (by omega), n_andn7 _ (by omega) _ h2, qP5 hq, aOp_s]
theorem c_together (sa : Nat → Nat) (d : Nat) {h : AH} {co : Nat} {S : ST} {c : Nat} {P : PS} (hE : cE h co S c P) (hB : pB P) (hK : pK P) {x : Int32} {f : Nat → Bool} (hf : ∀ k, k < 7 → ((x >>> (nI k &&& 31)) &&& 1 = 0 ↔ f k = false)) : AMC sa (d + 3) 18 [.ref (co + c), .int x] (mk h co S) = some (some (.int (nI (pSm P f (P 3)))), mk h co S) := by
  have hq := hE.1
  have h7 := hB.2.1
  have loop : ∀ m k, k + m = P 3 → AMV sa (d + 2) 18 4 [.ref (co + c), .int x, .int (nI (pSm P f k)), .int (nI k)] [] (mk h co S) = some (some (.int (nI (pSm P f (P 3)))), mk h co S) := by
    intro m
    induction m with
    | zero =>
      intro k hk
      have hk : k = P 3 := hk
      rw [eX2_weightTogether_4, qI4 hq, aOp_s, hE.2.2.1, if_pos (nI_le (by omega) (by omega)), hk]
    | succ m ih =>
      intro k hk
      have ihk := ih (k + 1) (by omega)
      rw [eX2_weightTogether_4, qI4 hq, aOp_s, hE.2.2.1, if_neg (nI_ge (by omega) (by omega))]
      cases hfk : f k with
      | false =>
        have e : pSm P f (k + 1) = pSm P f k := by simp only [pSm, hfk, cond_false, Nat.add_zero]
        rw [e] at ihk
        rw [if_pos ((hf k (by omega)).mpr hfk), nI_1]
        exact ihk
      | true =>
        have e : pSm P f (k + 1) = pSm P f k + pW P k := by simp only [pSm, hfk, cond_true]
        rw [e] at ihk
        rw [if_neg (fun z => by rw [(hf k (by omega)).mp z] at hfk; cases hfk), qC hq, aOp_s, c_weight sa d hE hB hK (by omega), aRI_mk, aOp_s, nI_add, nI_1]
        exact ihk
  rw [fX2_weightTogether, eX2_weightTogether_0]
  exact loop (P 3) 0 (by omega)
theorem n_bitc : ∀ s, s < 128 → ∀ k, k < 7 → ((((nI s ^^^ (-1)) >>> (nI k &&& 31)) &&& 1 = 0) ↔ (!(s.testBit k)) = false) := by decide +kernel
/-! ===== the class: acts ===== -/
def aE (f : Nat → Int32) (o L : Nat) (Q : PS) : Prop := (∀ l, l < L → f (o + l) = nI (Q (14 + 4 * l))) ∧ f (o + 7) = nI (pSn Q L) ∧ f (o + 8) = nI (Q 0) ∧ f (o + 9) = nI (Q 1) ∧ f (o + 10) = nI (Q 4) ∧ f (o + 11) = nI (Q 5)
theorem aE_of {f g : Nat → Int32} {o L : Nat} {Q : PS} (h : aE f o L Q) (hL : L ≤ 7) (e : ∀ j, j < 12 → g (o + j) = f (o + j)) : aE g o L Q := ⟨fun l hl => (e l (by omega)).trans (h.1 l hl), (e 7 (by decide)).trans h.2.1, (e 8 (by decide)).trans h.2.2.1, (e 9 (by decide)).trans h.2.2.2.1, (e 10 (by decide)).trans h.2.2.2.2.1, (e 11 (by decide)).trans h.2.2.2.2.2⟩
def cA (S : ST) (P : PS) (A : Nat → PS) (n : Nat) : Prop := ∃ nx, nx < 24 ∧ n ≤ 24 ∧ S.1 30 1 = nI nx ∧ S.1 30 2 = nI n ∧ ∀ k, k < n → aE (S.2.2 31) (12 * ((nx + 24 - n + k) % 24)) (P 3) (A k)
def gA (P Q : PS) : Prop := Q 2 = P 2 ∧ Q 3 = P 3 ∧ (∀ k, k < 6 → Q (6 + k) = P (6 + k)) ∧ ∀ l, l < 7 → Q (12 + 4 * l) = P (12 + 4 * l) ∧ Q (13 + 4 * l) = P (13 + 4 * l)
theorem cA_fr {S S' : ST} {P : PS} {A : Nat → PS} {n lo hi : Nat} (hA : cA S P A n) (hf : fr lo hi S S') (hd : hi ≤ 30 ∨ 32 ≤ lo) : cA S' P A n := by
  obtain ⟨nx, h1, h2, e1, e2, ea⟩ := hA
  refine ⟨nx, h1, h2, by rw [(hf 30 (by omega)).1]; exact e1, by rw [(hf 30 (by omega)).1]; exact e2, fun k hk => ?_⟩
  rw [(hf 31 (by omega)).2.2]
  exact ea k hk
theorem cA_3 {S : ST} {P Q : PS} {A : Nat → PS} {n : Nat} (hA : cA S P A n) (e : Q 3 = P 3) : cA S Q A n := by
  unfold cA
  rw [e]
  exact hA
theorem c_forget (sa : Nat → Nat) (d : Nat) (h : AH) (co : Nat) (S : ST) : AMC sa (d + 1) 1 [.ref (co + 30)] (mk h co S) = some (none, mk h co (sI S 30 2 0)) := by
  rw [fX0_forget, eX0_forget_0, gP_30_2, aOp_s]
theorem cA_forget {S : ST} {P : PS} {A : Nat → PS} {n : Nat} (hA : cA S P A n) (Q : PS) (B : Nat → PS) : cA (sI S 30 2 0) Q B 0 := by
  obtain ⟨nx, h1, h2, e1, e2, ea⟩ := hA
  exact ⟨nx, h1, by decide, (sI_ne _ _ (by omega)).trans e1, sI_at _ _ _ _, fun k hk => by omega⟩
theorem c_keep (sa : Nat → Nat) (d : Nat) {h : AH} {co : Nat} {S : ST} {P : PS} {A : Nat → PS} {n : Nat} (hE : cE h co S 17 P) (hB : pB P) (hA : cA S P A n) : ∃ S' : ST, AMC sa (d + 1) 2 [.ref (co + 30), .ref (co + 17)] (mk h co S) = some (none, mk h co S') ∧ cA S' P (ntP A n P) (ntA n + 1) ∧ fr 30 32 S S' := by
  obtain ⟨nx, h1, h2, e1, e2, ea⟩ := hA
  have h7 := hB.2.1
  obtain ⟨q, w, c4, c5, c6, c7, c8, c9, cl⟩ := hE
  obtain ⟨f0, hf0⟩ : ∃ f, f = va_cpy (S.2.2 20) (S.2.2 31) 0 (12 * nx) 7 := ⟨_, rfl⟩
  obtain ⟨f1, hf1⟩ : ∃ f, f = upd f0 (12 * nx + 7) (nI (pSn P (P 3))) := ⟨_, rfl⟩
  obtain ⟨f2, hf2⟩ : ∃ f, f = upd f1 (12 * nx + 8) (nI (P 0)) := ⟨_, rfl⟩
  obtain ⟨f3, hf3⟩ : ∃ f, f = upd f2 (12 * nx + 9) (nI (P 1)) := ⟨_, rfl⟩
  obtain ⟨f4, hf4⟩ : ∃ f, f = upd f3 (12 * nx + 10) (nI (P 4)) := ⟨_, rfl⟩
  obtain ⟨f5, hf5⟩ : ∃ f, f = upd f4 (12 * nx + 11) (nI (P 5)) := ⟨_, rfl⟩
  have st : ∀ (f : Nat → Int32) (j : Nat) (x : Int32), j < 288 → aIS (mk h co (sA S 31 f)) (co + 31) (nI j) x = some (mk h co (sA S 31 (upd f j x))) := by
    intro f j x hj
    rw [gS_31 _ _ _ _ _ (aIn_nI hj (by decide)), nI_clamp (by omega), sA_at, sA_sA]
  have cp : aCpy (mk h co S) (co + 20) 0 (co + 31) (nI (12 * nx)) 7 = some (mk h co (sA S 31 f0)) := by
    rw [hf0]
    exact g_CP (sp := 0) (n := 7) (by decide) (by decide) rfl (by decide) (by decide) rfl (by decide) (by show 12 * nx + 7 ≤ 288; omega) (by decide) (by decide)
  have p12 : nI nx * 12 = nI (12 * nx) := by rw [show nI nx * 12 = nI (nx * 12) from pk_mul nx 12, Nat.mul_comm]
  have i7 : nI (12 * nx) + 7 = nI (12 * nx + 7) := nI_add _ 7
  have i8 : nI (12 * nx + 7) + 1 = nI (12 * nx + 8) := nI_add _ 1
  have i9 : nI (12 * nx + 7) + 2 = nI (12 * nx + 9) := nI_add _ 2
  have i10 : nI (12 * nx + 7) + 3 = nI (12 * nx + 10) := nI_add _ 3
  have i11 : nI (12 * nx + 7) + 4 = nI (12 * nx + 11) := nI_add _ 4
  have rm : nI (nx + 1) - nI (nx + 1) / 24 * 24 = nI ((nx + 1) % 24) := pk_rem (a := nx + 1) (d := 24) (by omega) (by decide) (by decide)
  have mn : (if (24 : Int32) < nI (n + 1) then 24 else nI (n + 1)) = nI (ntA n + 1) := by
    unfold ntA
    by_cases hn : n = 24
    · rw [hn]; decide
    · rw [if_neg (show ¬ (24 : Int32) < nI (n + 1) from nI_nlt (b := n + 1) (a := 24) (by omega) (by decide)), if_neg hn]
  have out : ∀ j, (j < 12 * nx ∨ 12 * nx + 12 ≤ j) → f5 j = S.2.2 31 j := by
    intro j hj
    rw [hf5, pk_un (by omega), hf4, pk_un (by omega), hf3, pk_un (by omega), hf2, pk_un (by omega), hf1, pk_un (by omega), hf0, pk_cpy_out (by omega)]
  have own : aE f5 (12 * nx) (P 3) P := by
    refine ⟨fun l hl => ?_, ?_, ?_, ?_, ?_, ?_⟩
    · rw [hf5, pk_un (by omega), hf4, pk_un (by omega), hf3, pk_un (by omega), hf2, pk_un (by omega), hf1, pk_un (by omega), hf0, pk_cpy_in (by omega) (by omega), show 0 + (12 * nx + l - 12 * nx) = l by omega]
      exact (cl l hl).2.2
    · rw [hf5, pk_un (by omega), hf4, pk_un (by omega), hf3, pk_un (by omega), hf2, pk_un (by omega), hf1, pk_us]
    · rw [hf5, pk_un (by omega), hf4, pk_un (by omega), hf3, pk_un (by omega), hf2, pk_us]
    · rw [hf5, pk_un (by omega), hf4, pk_un (by omega), hf3, pk_us]
    · rw [hf5, pk_un (by omega), hf4, pk_us]
    · rw [hf5, pk_us]
  refine ⟨sI (sI (sA S 31 f5) 30 1 (nI ((nx + 1) % 24))) 30 2 (nI (ntA n + 1)), ?_, ⟨(nx + 1) % 24, by omega, by unfold ntA; split <;> omega, (sI_ne _ _ (by omega)).trans (sI_at _ _ _ _), sI_at _ _ _ _, fun k hk => ?_⟩, fr_I (fr_I (fr_A (fr_refl _ _ _) (by decide) (by decide) _) (by decide) (by decide) _ _) (by decide) (by decide) _ _⟩
  · rw [fX0_keep, eX0_keep_0, gI_30_1, aOp_s, gR_17_2, aOp_s, gR_30_0, aOp_s, e1, p12, cp, aOp_s, gR_30_0, aOp_s, gI_17_5, aOp_s, i7, st _ _ _ (by omega), aOp_s, sA_I, c5, ← hf1, gR_30_0, aOp_s, gI_17_6, aOp_s, i8, st _ _ _ (by omega), aOp_s, sA_I, c6, ← hf2, gR_30_0, aOp_s, gI_17_7, aOp_s, i9, st _ _ _ (by omega), aOp_s, sA_I, c7, ← hf3, gR_30_0, aOp_s, gI_17_8, aOp_s, i10, st _ _ _ (by omega), aOp_s, sA_I, c8, ← hf4, gR_30_0, aOp_s, gI_17_9, aOp_s, i11, st _ _ _ (by omega), aOp_s, sA_I, c9, ← hf5, gI_30_1, aOp_s, sA_I, e1, nI_1, rm, gP_30_1, aOp_s, gI_30_2, aOp_s, sI_ne _ _ (by decide), sA_I, e2, nI_1, mn, gP_30_2, aOp_s]
  · show aE ((sA S 31 f5).2.2 31) _ _ _
    rw [sA_at]
    unfold ntP
    by_cases hn : n = 24
    · have en : ntA n = 23 := if_pos hn
      rw [en] at hk ⊢
      rw [if_pos hn]
      by_cases hk3 : k = 23
      · rw [if_pos hk3, show ((nx + 1) % 24 + 24 - (23 + 1) + k) % 24 = nx by omega]
        exact own
      · rw [if_neg hk3]
        have := ea (k + 1) (by omega)
        rw [show ((nx + 1) % 24 + 24 - (23 + 1) + k) % 24 = (nx + 24 - n + (k + 1)) % 24 by omega]
        exact aE_of this h7 (fun j hj => out _ (by omega))
    · have en : ntA n = n := if_neg hn
      rw [en] at hk ⊢
      rw [if_neg hn]
      by_cases hk3 : k = n
      · rw [if_pos hk3, show ((nx + 1) % 24 + 24 - (n + 1) + k) % 24 = nx by omega]
        exact own
      · rw [if_neg hk3]
        have := ea k (by omega)
        rw [show ((nx + 1) % 24 + 24 - (n + 1) + k) % 24 = (nx + 24 - n + k) % 24 by omega]
        exact aE_of this h7 (fun j hj => out _ (by omega))
theorem c_takeBack (sa : Nat → Nat) (d : Nat) {h : AH} {co : Nat} {S : ST} {P : PS} {A : Nat → PS} {n : Nat} (hE : cE h co S 17 P) (hB : pB P) (hA : cA S P A (n + 1)) (hg : gA P (A n)) : ∃ T S' : ST, AMC sa (d + 1) 3 [.ref (co + 30), .ref (co + 17)] (mk h co S) = some (none, mk h co S') ∧ fr 30 32 S T ∧ fr 17 21 T S' ∧ cE h co S' 17 (A n) ∧ cA S' (A n) A n := by
  obtain ⟨nx, h1, h2, e1, e2, ea⟩ := hA
  have h7 := hB.2.1
  obtain ⟨g2, g3, g6, gl⟩ := hg
  obtain ⟨q, hq⟩ : ∃ q, q = (nx + 23) % 24 := ⟨_, rfl⟩
  have hq24 : q < 24 := by omega
  obtain ⟨a1, a2, a3, a4, a5, a6⟩ := ea n (by omega)
  rw [show (nx + 24 - (n + 1) + n) % 24 = q by omega] at a1 a2 a3 a4 a5 a6
  obtain ⟨T, hT⟩ : ∃ T, T = sI (sI S 30 2 (nI n)) 30 1 (nI q) := ⟨_, rfl⟩
  have fT : fr 30 32 S T := by rw [hT]; exact fr_I (fr_I (fr_refl _ _ _) (by decide) (by decide) _ _) (by decide) (by decide) _ _
  have T31 : T.2.2 31 = S.2.2 31 := by rw [hT]; rfl
  obtain ⟨U0, hU0⟩ : ∃ U, U = sA T 20 (va_cpy (T.2.2 31) (T.2.2 20) (12 * q) 0 7) := ⟨_, rfl⟩
  obtain ⟨U1, hU1⟩ : ∃ U, U = sI U0 17 5 (nI (pSn (A n) (P 3))) := ⟨_, rfl⟩
  obtain ⟨U2, hU2⟩ : ∃ U, U = sI U1 17 6 (nI (A n 0)) := ⟨_, rfl⟩
  obtain ⟨U3, hU3⟩ : ∃ U, U = sI U2 17 7 (nI (A n 1)) := ⟨_, rfl⟩
  obtain ⟨U4, hU4⟩ : ∃ U, U = sI U3 17 8 (nI (A n 4)) := ⟨_, rfl⟩
  obtain ⟨U5, hU5⟩ : ∃ U, U = sI U4 17 9 (nI (A n 5)) := ⟨_, rfl⟩
  have f0 : fr 17 21 T U0 := by rw [hU0]; exact fr_A (fr_refl _ _ _) (by decide) (by decide) _
  have f1 : fr 17 21 T U1 := by rw [hU1]; exact fr_I f0 (by decide) (by decide) _ _
  have f2 : fr 17 21 T U2 := by rw [hU2]; exact fr_I f1 (by decide) (by decide) _ _
  have f3 : fr 17 21 T U3 := by rw [hU3]; exact fr_I f2 (by decide) (by decide) _ _
  have f4 : fr 17 21 T U4 := by rw [hU4]; exact fr_I f3 (by decide) (by decide) _ _
  have f5 : fr 17 21 T U5 := by rw [hU5]; exact fr_I f4 (by decide) (by decide) _ _
  have ld : ∀ U, fr 17 21 T U → ∀ j, j < 12 → aIL (mk h co U) (co + 31) (nI (12 * q + j)) = some (S.2.2 31 (12 * q + j)) := by
    intro U hU j hj
    rw [gL_31 _ _ _ _ (aIn_nI (by omega) (by decide)), nI_clamp (by omega), (hU 31 (by decide)).2.2, T31]
  have cp : aCpy (mk h co T) (co + 31) (nI (12 * q)) (co + 20) 0 7 = some (mk h co U0) := by
    rw [hU0]
    exact g_CP (dp := 0) (n := 7) (by decide) (by decide) rfl (by decide) (by decide) rfl (by show 12 * q + 7 ≤ 288; omega) (by decide) (by decide) (by decide)
  have p12 : nI q * 12 = nI (12 * q) := by rw [show nI q * 12 = nI (q * 12) from pk_mul q 12, Nat.mul_comm]
  have i7 : nI (12 * q) + 7 = nI (12 * q + 7) := nI_add _ 7
  have i8 : nI (12 * q + 7) + 1 = nI (12 * q + 8) := nI_add _ 1
  have i9 : nI (12 * q + 7) + 2 = nI (12 * q + 9) := nI_add _ 2
  have i10 : nI (12 * q + 7) + 3 = nI (12 * q + 10) := nI_add _ 3
  have i11 : nI (12 * q + 7) + 4 = nI (12 * q + 11) := nI_add _ 4
  have s24 : nI nx + 24 - 1 = nI (nx + 23) := by rw [show nI nx + 24 = nI (nx + 24) from nI_add nx 24]; exact nI_pred (nx + 23)
  have rm : nI (nx + 23) - nI (nx + 23) / 24 * 24 = nI q := by rw [hq]; exact pk_rem (a := nx + 23) (d := 24) (by omega) (by decide) (by decide)
  have v1 : U5.2.1 = S.2.1 := by rw [hU5, hU4, hU3, hU2, hU1, hU0, hT]; rfl
  refine ⟨T, U5, ?_, fT, f5, ?_, ?_⟩
  · rw [fX0_takeBack, eX0_takeBack_0, gI_30_2, aOp_s, e2, if_neg (nI_ne0 (by omega) (by omega)), aOp_s, nI_pred, gP_30_2, aOp_s, gI_30_1, aOp_s, sI_ne _ _ (by decide), e1, s24, rm, gP_30_1, aOp_s, ← hT, gI_30_1, aOp_s, show T.1 30 1 = nI q by rw [hT]; exact sI_at _ _ _ _, p12, gR_30_0, aOp_s, gR_17_2, aOp_s, cp, aOp_s, gR_30_0, aOp_s, i7, ld U0 f0 7 (by decide), aOp_s, a2, gP_17_5, aOp_s, ← hU1, gR_30_0, aOp_s, i8, ld U1 f1 8 (by decide), aOp_s, a3, gP_17_6, aOp_s, ← hU2, gR_30_0, aOp_s, i9, ld U2 f2 9 (by decide), aOp_s, a4, gP_17_7, aOp_s, ← hU3, gR_30_0, aOp_s, i10, ld U3 f3 10 (by decide), aOp_s, a5, gP_17_8, aOp_s, ← hU4, gR_30_0, aOp_s, i11, ld U4 f4 11 (by decide), aOp_s, a6, gP_17_9, aOp_s, ← hU5]
  · have w1 : U5.1 17 4 = S.1 17 4 := by rw [hU5, sI_ne _ _ (by decide), hU4, sI_ne _ _ (by decide), hU3, sI_ne _ _ (by decide), hU2, sI_ne _ _ (by decide), hU1, sI_ne _ _ (by decide), hU0, sA_I, (fT 17 (by decide)).1]
    refine cE_of hE hB.1 (by rw [v1]) g2.symm g3.symm (fun k hk => (g6 k hk).symm) w1 ?_ ?_ ?_ ?_ ?_ (fun l hl => ?_)
    · rw [hU5, sI_ne _ _ (by decide), hU4, sI_ne _ _ (by decide), hU3, sI_ne _ _ (by decide), hU2, sI_ne _ _ (by decide), hU1, sI_at, g3]
    · rw [hU5, sI_ne _ _ (by decide), hU4, sI_ne _ _ (by decide), hU3, sI_ne _ _ (by decide), hU2, sI_at]
    · rw [hU5, sI_ne _ _ (by decide), hU4, sI_ne _ _ (by decide), hU3, sI_at]
    · rw [hU5, sI_ne _ _ (by decide), hU4, sI_at]
    · rw [hU5, sI_at]
    · obtain ⟨k1, k2, k3⟩ := hE.2.2.2.2.2.2.2.2 l hl
      have z : U5.2.2 = U0.2.2 := by rw [hU5, hU4, hU3, hU2, hU1]; rfl
      rw [z, hU0, sA_ne _ _ _ (by decide), sA_ne _ _ _ (by decide), sA_at, (fT 18 (by decide)).2.2, (fT 19 (by decide)).2.2, T31, pk_cpy_in (Nat.zero_le _) (by omega), (gl l (by omega)).1, (gl l (by omega)).2]
      exact ⟨k1, k2, by rw [Nat.sub_zero]; exact a1 l hl⟩
  · refine ⟨q, hq24, by omega, ?_, ?_, fun k hk => ?_⟩
    · rw [(f5 30 (by decide)).1, hT, sI_at]
    · rw [(f5 30 (by decide)).1, hT, sI_ne _ _ (by decide), sI_at]
    · rw [(f5 31 (by decide)).2.2, T31, g3, show (q + 24 - n + k) % 24 = (nx + 24 - (n + 1) + k) % 24 by omega]
      exact ea k (by omega)
