/-! ===== the reference: sent letters, copies, days on ===== -/
theorem n_shlb : ∀ b, b < 2 → ∀ k, k < 7 → nI b <<< (nI k &&& 31) = nI (b * 2 ^ k) := by decide +kernel
def pSn (P : PS) : Nat → Nat
  | 0 => 0
  | k + 1 => pSn P k ||| (P (15 + 4 * k) * 2 ^ k)
theorem n_or7 : ∀ k, k < 7 → ∀ a, a < 2 ^ k → ∀ b, b < 2 → (a ||| (b * 2 ^ k)) < 2 ^ (k + 1) := by decide +kernel
theorem pSn_lt {P : PS} (hB : pB P) : ∀ k, k ≤ 7 → pSn P k < 2 ^ k
  | 0, _ => Nat.zero_lt_one
  | k + 1, h => n_or7 k (by omega) _ (pSn_lt hB k (by omega)) _ (by have := (hB.2.2.2.1 k (by omega)).2.2.2; omega)
theorem pow7 : ∀ k, k ≤ 7 → 2 ^ k ≤ 128 := by decide
theorem m_sentOf (sa : Nat → Nat) (d : Nat) (h : AH) (co : Nat) {S : ST} {c : Nat} {P : PS} (hE : pE S c P) (hB : pB P) : AMC sa (d + 1) 144 [.ref (co + c)] (mk h co S) = some (some (.int (nI (pSn P (P 3)))), mk h co S) := by
  have hL : P 3 ≤ 7 := hB.2.1
  have g3 : aIL (mk h co S) (co + c) 3 = some (nI (P 3)) := pE_get hE h co (j := 3) (by decide)
  have loop : ∀ m k, k + m = P 3 → AMV sa d 144 4 [.ref (co + c), .int (nI (pSn P k)), .int (nI k)] [] (mk h co S) = some (some (.int (nI (pSn P (P 3)))), mk h co S) := by
    intro m
    induction m with
    | zero =>
      intro k hk
      have hk : k = P 3 := hk
      rw [eX8_sentOf_4, g3, aOp_s, if_pos (nI_le (by omega) (by omega)), hk]
    | succ m ih =>
      intro k hk
      have hse := (hB.2.2.2.1 k (by omega)).2.2.2
      have h1 := pSn_lt hB k (by omega)
      have h2 := pSn_lt hB (k + 1) (by omega)
      have p1 := pow7 k (by omega)
      have hb : P (15 + 4 * k) * 2 ^ k < 128 := by
        have : P (15 + 4 * k) = 0 ∨ P (15 + 4 * k) = 1 := by omega
        have p2 := (show ∀ k, k < 7 → 2 ^ k < 128 by decide) k (by omega)
        rcases this with e | e <;> rw [e] <;> omega
      rw [eX8_sentOf_4, g3, aOp_s, if_neg (nI_ge (by omega) (by omega)), ix3, pE_get hE h co (by omega), aOp_s, n_shlb _ (by omega) _ (by omega), n_or _ (by omega) _ hb, nI_1]
      exact ih (k + 1) (by omega)
  rw [fX8_sentOf, eX8_sentOf_0]
  exact loop (P 3) 0 (by omega)
theorem cpy_0 (f g : Nat → Int32) (a b : Nat) : va_cpy f g a b 0 = g := by
  funext k
  unfold va_cpy
  rw [if_neg (by omega)]
theorem cpy_s (f g : Nat → Int32) (a b n : Nat) : upd (va_cpy f g a b n) (b + n) (f (a + n)) = va_cpy f g a b (n + 1) := by
  funext k
  unfold upd va_cpy
  by_cases hk : k = b + n
  · rw [if_pos hk, if_pos (by omega), hk, Nat.add_sub_cancel_left]
  · rw [if_neg hk]
    by_cases hr : b ≤ k ∧ k < b + n
    · rw [if_pos hr, if_pos (by omega)]
    · rw [if_neg hr, if_neg (by omega)]
theorem m_copies (sa : Nat → Nat) (d : Nat) (h : AH) (co : Nat) (S : ST) {cf ct a b : Nat} (hf : 6 ≤ cf) (hf2 : cf < 53) (hfk : cK cf = 1) (ht : 6 ≤ ct) (ht2 : ct < 53) (htk : cK ct = 1) (hne : cf ≠ ct) (ha : a + 40 ≤ cN cf) (hb : b + 40 ≤ cN ct) (hna : cN cf < 100000) (hnb : cN ct < 100000) :
    AMC sa (d + 1) 112 [.ref (co + cf), .int (nI a), .ref (co + ct), .int (nI b)] (mk h co S) = some (none, mk h co (sA S ct (va_cpy (S.2.2 cf) (S.2.2 ct) a b 40))) := by
  have loop : ∀ m k, k + m = 40 → AMV sa d 112 3 [.ref (co + cf), .int (nI a), .ref (co + ct), .int (nI b), .int (nI k)] [] (mk h co (sA S ct (va_cpy (S.2.2 cf) (S.2.2 ct) a b k))) = some (none, mk h co (sA S ct (va_cpy (S.2.2 cf) (S.2.2 ct) a b 40))) := by
    intro m
    induction m with
    | zero =>
      intro k hk
      have hk : k = 40 := hk
      rw [eX8_copies_3, if_pos (show (40 : Int32) ≤ nI k from nI_le (a := 40) (by omega) (by omega)), hk]
    | succ m ih =>
      intro k hk
      rw [eX8_copies_3, if_neg (show ¬ (40 : Int32) ≤ nI k from nI_ge (b := 40) (by omega) (by decide)), nI_add, nI_add, g_IL (Or.inr hf) hf2 hfk (aIn_nI (by omega) (by omega)), aOp_s, nI_clamp (by omega), sA_ne _ _ _ hne, g_IS (Or.inr ht) ht2 htk (aIn_nI (by omega) (by omega)), aOp_s, nI_clamp (by omega), sA_at, sA_sA, cpy_s, nI_1]
      exact ih (k + 1) (by omega)
  rw [fX8_copies, eX8_copies_0]
  have := loop 40 0 rfl
  rw [cpy_0, sA_self] at this
  exact this
/-- now or another into tried -/
theorem pE_cpy {S : ST} {c : Nat} {P : PS} (hE : pE S c P) {ct : Nat} (hct : ct = 46 ∨ ct = 47 ∨ ct = 48) : sA S ct (va_cpy (S.2.2 c) (S.2.2 ct) 0 0 40) = sM S ct P := by
  unfold sM
  congr 1
  funext j
  unfold va_cpy
  by_cases hj : j < 40
  · rw [if_pos (by omega), if_pos hj, Nat.sub_zero, Nat.zero_add, hE.2 j hj]
  · rw [if_neg (by omega), if_neg hj]
theorem m_copyP (sa : Nat → Nat) (d : Nat) (h : AH) (co : Nat) {S : ST} {c : Nat} {P : PS} (hE : pE S c P) {ct : Nat} (hct : ct = 46 ∨ ct = 47 ∨ ct = 48) (hne : c ≠ ct) : AMC sa (d + 1) 112 [.ref (co + c), .int 0, .ref (co + ct), .int 0] (mk h co S) = some (none, mk h co (sM S ct P)) := by
  have hc := hE.1
  rw [show (0 : Int32) = nI 0 from rfl, m_copies sa d h co S (by omega) (by omega) (by rcases hc with rfl | rfl | rfl <;> rfl) (by omega) (by omega) (by rcases hct with rfl | rfl | rfl <;> rfl) hne (by rcases hc with rfl | rfl | rfl <;> decide) (by rcases hct with rfl | rfl | rfl <;> decide) (by rcases hc with rfl | rfl | rfl <;> decide) (by rcases hct with rfl | rfl | rfl <;> decide), pE_cpy hE hct]
theorem pDay_ne {P : PS} (hB : pB P) {j : Nat} (h4 : j ≠ 4) (h5 : j ≠ 5) (h : ∀ l, l < 7 → j ≠ 14 + 4 * l ∧ j ≠ 15 + 4 * l) : pDay P j = P j := by
  have hL : P 3 ≤ 7 := hB.2.1
  obtain ⟨hA, hAn⟩ := pPh1_B hB (P 3) hL
  obtain ⟨-, -, hn⟩ := pPh2_B (Z := (pPh1 P (P 3), P 0)) hA (P 3) hL
  unfold pDay
  rw [pUp_ne _ _ h4, hn j h5 (fun l hl => (h l (by omega)).2)]
  exact hAn j (fun l hl => (h l (by omega)).1)
theorem pDay_4 (P : PS) : pDay P 4 = P 4 + 1 := pUp_at _ _ _
theorem pB_day {P : PS} (hB : pB P) (h4 : P 4 < 100000) : pB (pDay P) := by
  have hL : P 3 ≤ 7 := hB.2.1
  obtain ⟨hA, -⟩ := pPh1_B hB (P 3) hL
  obtain ⟨hZ, -, -⟩ := pPh2_B (Z := (pPh1 P (P 3), P 0)) hA (P 3) hL
  obtain ⟨b1, b2, b3, b4, b5, b6, b7, b8⟩ := hZ
  have hn : ∀ j, j ≠ 4 → pDay P j = (pPh2 (pPh1 P (P 3), P 0) (P 3)).1 j := fun j hj => pUp_ne _ _ hj
  refine ⟨by rw [hn 2 (by decide)]; exact b1, by rw [hn 3 (by decide)]; exact b2, fun k hk => by rw [hn (6 + k) (by omega)]; exact b3 k hk, fun q hq => ?_, by rw [hn 0 (by decide)]; exact b5, by rw [hn 1 (by decide)]; exact b6, by rw [pDay_4]; omega, by rw [hn 5 (by decide)]; exact b8⟩
  rw [hn (12 + 4 * q) (by omega), hn (13 + 4 * q) (by omega), hn (14 + 4 * q) (by omega), hn (15 + 4 * q) (by omega)]
  exact b4 q hq
def pDays (P : PS) : Nat → PS
  | 0 => P
  | n + 1 => pDay (pDays P n)
theorem pDays_B {P : PS} (hB : pB P) : ∀ n, P 4 + n ≤ 100000 → pB (pDays P n) ∧ pDays P n 4 = P 4 + n
  | 0, _ => ⟨hB, rfl⟩
  | n + 1, h => by
    obtain ⟨h1, h2⟩ := pDays_B hB n (by omega)
    exact ⟨pB_day h1 (by omega), (pDay_4 _).trans (by omega)⟩
theorem m_goesOn (sa : Nat → Nat) (d : Nat) (h : AH) (co : Nat) {S : ST} {P : PS} (hE : pE S 48 P) (hB : pB P) {n : Nat} (hn : P 4 + n ≤ 100000) : AMC sa (d + 6) 156 [.ref (co + 40), .int (nI n)] (mk h co S) = some (none, mk h co (sM S 48 (pDays P n))) := by
  have loop : ∀ m k, k + m = n → AMV sa (d + 5) 156 2 [.ref (co + 40), .int (nI n), .int (nI k)] [] (mk h co (sM S 48 (pDays P k))) = some (none, mk h co (sM S 48 (pDays P n))) := by
    intro m
    induction m with
    | zero =>
      intro k hk
      have hk : k = n := hk
      rw [eX8_goesOn_2, if_pos (nI_le (by omega) (by omega)), hk]
    | succ m ih =>
      intro k hk
      obtain ⟨hQ, h4⟩ := pDays_B hB k (by omega)
      rw [eX8_goesOn_2, if_neg (nI_ge (by omega) (by omega)), gR_40_15, aOp_s, m_passes sa d h co (pE_sM (Or.inr (Or.inr rfl)) _) hQ, aRV_mk, aOp_s, sM_sM, nI_1]
      exact ih (k + 1) (by omega)
  rw [fX8_goesOn, eX8_goesOn_0]
  have := loop n 0 (by omega)
  rw [show pDays P 0 = P from rfl, sM_self hE] at this
  exact this
