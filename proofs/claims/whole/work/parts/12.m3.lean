/-! ===== the reference: a day ===== -/
def sM (S : ST) (c : Nat) (P : PS) : ST := sA S c (fun j => if j < 40 then nI (P j) else S.2.2 c j)
theorem sA_sA (S : ST) (c : Nat) (f g : Nat → Int32) : sA (sA S c f) c g = sA S c g := by
  refine Prod.ext rfl (Prod.ext rfl ?_)
  funext a
  show (if a = c then g else if a = c then f else S.2.2 a) = (if a = c then g else S.2.2 a)
  by_cases h : a = c
  · rw [if_pos h, if_pos h]
  · rw [if_neg h, if_neg h, if_neg h]
theorem sA_at (S : ST) (c : Nat) (f : Nat → Int32) : (sA S c f).2.2 c = f := if_pos rfl
theorem sA_ne (S : ST) (c : Nat) (f : Nat → Int32) {b : Nat} (h : b ≠ c) : (sA S c f).2.2 b = S.2.2 b := if_neg h
theorem sA_self (S : ST) (c : Nat) : sA S c (S.2.2 c) = S := by
  refine Prod.ext rfl (Prod.ext rfl ?_)
  funext a
  show (if a = c then S.2.2 c else S.2.2 a) = S.2.2 a
  by_cases h : a = c
  · rw [if_pos h, h]
  · rw [if_neg h]
theorem sM_sM (S : ST) (c : Nat) (P Q : PS) : sM (sM S c P) c Q = sM S c Q := by
  unfold sM
  rw [sA_sA]
  congr 1
  funext j
  by_cases h : j < 40
  · rw [if_pos h, if_pos h]
  · rw [if_neg h, if_neg h, sA_at, if_neg h]
theorem pE_sM {S : ST} {c : Nat} (hc : c = 46 ∨ c = 47 ∨ c = 48) (P : PS) : pE (sM S c P) c P := ⟨hc, fun j hj => by
  unfold sM
  rw [sA_at, if_pos hj]⟩
theorem sM_self {S : ST} {c : Nat} {P : PS} (hE : pE S c P) : sM S c P = S := by
  unfold sM
  rw [show (fun j => if j < 40 then nI (P j) else S.2.2 c j) = S.2.2 c from ?_, sA_self]
  funext j
  by_cases h : j < 40
  · rw [if_pos h, hE.2 j h]
  · rw [if_neg h]
theorem sM_upd {S : ST} {c : Nat} {P : PS} (hE : pE S c P) {j x : Nat} (hj : j < 40) : sA S c (upd (S.2.2 c) j (nI x)) = sM S c (pUp P j x) := by
  unfold sM
  congr 1
  funext k
  unfold upd pUp
  by_cases hk : k = j
  · rw [if_pos hk, if_pos (by omega), if_pos hk]
  · rw [if_neg hk, if_neg hk]
    by_cases h : k < 40
    · rw [if_pos h, hE.2 k h]
    · rw [if_neg h]
theorem pE_set {S : ST} {c : Nat} {P : PS} (hE : pE S c P) (h : AH) (co : Nat) {j x : Nat} (hj : j < 40) : aIS (mk h co S) (co + c) (nI j) (nI x) = some (mk h co (sM S c (pUp P j x))) := by
  rw [pE_put hE h co hj, sM_upd hE hj]
def p1 (P : PS) (l : Nat) : PS := pUp P (14 + 4 * l) (P (14 + 4 * l) ||| (if P (15 + 4 * l) = 1 then 0 else pBl P l))
def pPh1 (P : PS) : Nat → PS
  | 0 => P
  | k + 1 => p1 (pPh1 P k) k
def p2 (Z : PS × Nat) (l : Nat) : PS × Nat := if Z.1 (15 + 4 * l) = 0 ∧ pW Z.1 l ≤ Z.2 then (pUp (pUp Z.1 (15 + 4 * l) 1) 5 (if Z.1 5 + pW Z.1 l ≤ 99999 then Z.1 5 + pW Z.1 l else 99999), Z.2 - pW Z.1 l) else Z
def pPh2 (Z : PS × Nat) : Nat → PS × Nat
  | 0 => Z
  | k + 1 => p2 (pPh2 Z k) k
def pDay (P : PS) : PS := pUp (pPh2 (pPh1 P (P 3), P 0) (P 3)).1 4 (P 4 + 1)
theorem pUp_at (P : PS) (j x : Nat) : pUp P j x j = x := if_pos rfl
theorem pUp_ne (P : PS) {j k : Nat} (x : Nat) (h : k ≠ j) : pUp P j x k = P k := if_neg h
theorem n_or64 : ∀ a, a < 64 → ∀ b, b < 64 → (a ||| b) < 64 := by decide +kernel
theorem pB_p1 {P : PS} (hB : pB P) {l : Nat} (hl : l < 7) : pB (p1 P l) := by
  have hb : (if P (15 + 4 * l) = 1 then 0 else pBl P l) < 64 := by
    split
    · decide
    · exact pBl_lt hB hl
  obtain ⟨b1, b2, b3, b4, b5, b6, b7, b8⟩ := hB
  have hn : ∀ j, j ≠ 14 + 4 * l → p1 P l j = P j := fun j hj => pUp_ne P _ hj
  refine ⟨by rw [hn 2 (by omega)]; exact b1, by rw [hn 3 (by omega)]; exact b2, fun k hk => by rw [hn (6 + k) (by omega)]; exact b3 k hk, fun q hq => ?_, by rw [hn 0 (by omega)]; exact b5, by rw [hn 1 (by omega)]; exact b6, by rw [hn 4 (by omega)]; exact b7, by rw [hn 5 (by omega)]; exact b8⟩
  obtain ⟨c1, c2, c3, c4⟩ := b4 q hq
  refine ⟨by rw [hn (12 + 4 * q) (by omega)]; exact c1, by rw [hn (13 + 4 * q) (by omega)]; exact c2, ?_, by rw [hn (15 + 4 * q) (by omega)]; exact c4⟩
  by_cases e : q = l
  · subst e
    rw [show p1 P q (14 + 4 * q) = _ from pUp_at P _ _]
    exact n_or64 _ c3 _ hb
  · rw [hn (14 + 4 * q) (by omega)]; exact c3
theorem pPh1_B {P : PS} (hB : pB P) : ∀ k, k ≤ 7 → pB (pPh1 P k) ∧ ∀ j, (∀ l, l < k → j ≠ 14 + 4 * l) → pPh1 P k j = P j
  | 0, _ => ⟨hB, fun _ _ => rfl⟩
  | k + 1, h => by
    obtain ⟨h1, h2⟩ := pPh1_B hB k (by omega)
    refine ⟨pB_p1 h1 (by omega), fun j hj => ?_⟩
    rw [show pPh1 P (k + 1) j = pPh1 P k j from pUp_ne _ _ (hj k (by omega))]
    exact h2 j (fun l hl => hj l (by omega))
theorem pB_p2 {Z : PS × Nat} (hB : pB Z.1) {l : Nat} (hl : l < 7) : pB (p2 Z l).1 := by
  unfold p2
  split
  · have hw := pWB_le hB l (pU Z.1 l)
    obtain ⟨b1, b2, b3, b4, b5, b6, b7, b8⟩ := hB
    have hp : (if Z.1 5 + pW Z.1 l ≤ 99999 then Z.1 5 + pW Z.1 l else 99999) ≤ 99999 := by split <;> omega
    have hn : ∀ j, j ≠ 5 → j ≠ 15 + 4 * l → (pUp (pUp Z.1 (15 + 4 * l) 1) 5 (if Z.1 5 + pW Z.1 l ≤ 99999 then Z.1 5 + pW Z.1 l else 99999)) j = Z.1 j := fun j h1 h2 => (pUp_ne _ _ h1).trans (pUp_ne _ _ h2)
    show pB (pUp (pUp Z.1 (15 + 4 * l) 1) 5 (if Z.1 5 + pW Z.1 l ≤ 99999 then Z.1 5 + pW Z.1 l else 99999))
    refine ⟨by rw [hn 2 (by omega) (by omega)]; exact b1, by rw [hn 3 (by omega) (by omega)]; exact b2, fun k hk => by rw [hn (6 + k) (by omega) (by omega)]; exact b3 k hk, fun q hq => ?_, by rw [hn 0 (by omega) (by omega)]; exact b5, by rw [hn 1 (by omega) (by omega)]; exact b6, by rw [hn 4 (by omega) (by omega)]; exact b7, by rw [pUp_at]; exact hp⟩
    obtain ⟨c1, c2, c3, c4⟩ := b4 q hq
    refine ⟨by rw [hn (12 + 4 * q) (by omega) (by omega)]; exact c1, by rw [hn (13 + 4 * q) (by omega) (by omega)]; exact c2, by rw [hn (14 + 4 * q) (by omega) (by omega)]; exact c3, ?_⟩
    by_cases e : q = l
    · subst e
      rw [pUp_ne _ _ (show 15 + 4 * q ≠ 5 by omega), pUp_at]
      exact Nat.le_refl 1
    · rw [hn (15 + 4 * q) (by omega) (by omega)]; exact c4
  · exact hB
theorem p2_ne (Z : PS × Nat) (l j : Nat) (h1 : j ≠ 5) (h2 : j ≠ 15 + 4 * l) : (p2 Z l).1 j = Z.1 j := by
  unfold p2
  split
  · exact (pUp_ne _ _ h1).trans (pUp_ne _ _ h2)
  · rfl
theorem p2_le (Z : PS × Nat) (l : Nat) : (p2 Z l).2 ≤ Z.2 := by
  unfold p2
  split
  · exact Nat.sub_le _ _
  · exact Nat.le_refl _
theorem pPh2_B {Z : PS × Nat} (hB : pB Z.1) : ∀ k, k ≤ 7 → pB (pPh2 Z k).1 ∧ (pPh2 Z k).2 ≤ Z.2 ∧ ∀ j, j ≠ 5 → (∀ l, l < k → j ≠ 15 + 4 * l) → (pPh2 Z k).1 j = Z.1 j
  | 0, _ => ⟨hB, Nat.le_refl _, fun _ _ _ => rfl⟩
  | k + 1, h => by
    obtain ⟨h1, h2, h3⟩ := pPh2_B hB k (by omega)
    refine ⟨pB_p2 h1 (by omega), Nat.le_trans (p2_le _ _) h2, fun j hj hl => ?_⟩
    rw [show (pPh2 Z (k + 1)).1 j = (pPh2 Z k).1 j from p2_ne _ _ _ hj (hl k (by omega))]
    exact h3 j hj (fun l hl' => hl l (by omega))
theorem m_passes (sa : Nat → Nat) (d : Nat) (h : AH) (co : Nat) {S : ST} {c : Nat} {P : PS} (hE : pE S c P) (hB : pB P) : AMC sa (d + 5) 143 [.ref (co + c)] (mk h co S) = some (none, mk h co (sM S c (pDay P))) := by
  have hc := hE.1
  have hL : P 3 ≤ 7 := hB.2.1
  have l1 : ∀ m k, k + m = P 3 → AMV sa (d + 4) 143 2 [.ref (co + c), .int (nI k), .null, .null] [] (mk h co (sM S c (pPh1 P k))) = AMV sa (d + 4) 143 57 [.ref (co + c), .int (nI (P 0)), .int 0, .null] [] (mk h co (sM S c (pPh1 P (P 3)))) := by
    intro m
    induction m with
    | zero =>
      intro k hk
      have hk : k = P 3 := hk
      obtain ⟨hQ, hn⟩ := pPh1_B hB k (by omega)
      have hE2 : pE (sM S c (pPh1 P k)) c (pPh1 P k) := pE_sM hc _
      rw [eX8_passes_2, show aIL (mk h co (sM S c (pPh1 P k))) (co + c) 3 = some (nI (pPh1 P k 3)) from pE_get hE2 h co (j := 3) (by decide), aOp_s, hn 3 (fun l _ => by omega), if_pos (nI_le (by omega) (by omega)), show aIL (mk h co (sM S c (pPh1 P k))) (co + c) 0 = some (nI (pPh1 P k 0)) from pE_get hE2 h co (j := 0) (by decide), aOp_s, hn 0 (fun l _ => by omega), hk]
    | succ m ih =>
      intro k hk
      obtain ⟨hQ, hn⟩ := pPh1_B hB k (by omega)
      have hE2 : pE (sM S c (pPh1 P k)) c (pPh1 P k) := pE_sM hc _
      have hk7 : k < 7 := by omega
      have hsd := (hQ.2.2.2.1 k hk7).2.2.1
      have hse := (hQ.2.2.2.1 k hk7).2.2.2
      rw [eX8_passes_2, show aIL (mk h co (sM S c (pPh1 P k))) (co + c) 3 = some (nI (pPh1 P k 3)) from pE_get hE2 h co (j := 3) (by decide), aOp_s, hn 3 (fun l _ => by omega), if_neg (nI_ge (by omega) (by omega)), ix2, ix3, pE_get hE2 h co (by omega), aOp_s, pE_get hE2 h co (by omega), aOp_s]
      have step : ∀ b, b < 64 → b = (if pPh1 P k (15 + 4 * k) = 1 then 0 else pBl (pPh1 P k) k) → AMV sa (d + 4) 143 43 [.ref (co + c), .int (nI k), .null, .null] [.int (nI b), .int (nI (pPh1 P k (14 + 4 * k))), .int (nI (14 + 4 * k)), .ref (co + c)] (mk h co (sM S c (pPh1 P k))) = AMV sa (d + 4) 143 57 [.ref (co + c), .int (nI (P 0)), .int 0, .null] [] (mk h co (sM S c (pPh1 P (P 3)))) := by
        intro b hb eb
        rw [eX8_passes_43, n_or _ (by omega) _ (by omega), pE_set hE2 h co (by omega), aOp_s, sM_sM, nI_1, eb]
        exact ih (k + 1) (by omega)
      by_cases h1 : pPh1 P k (15 + 4 * k) = 1
      · rw [if_pos (show nI (pPh1 P k (15 + 4 * k)) = 1 by rw [h1]; rfl)]
        exact step 0 (by decide) (if_pos h1).symm
      · rw [if_neg (show ¬ nI (pPh1 P k (15 + 4 * k)) = 1 from fun z => h1 ((nI_eq (b := 1) (by omega) (by decide)).mp z)), m_blurts sa d h co hE2 hQ hk7, aRI_mk, aOp_s]
        exact step _ (pBl_lt hQ hk7) (if_neg h1).symm
  obtain ⟨hA, hAn⟩ := pPh1_B hB (P 3) hL
  have l2 : ∀ m k x3, k + m = P 3 → AMV sa (d + 4) 143 57 [.ref (co + c), .int (nI (pPh2 (pPh1 P (P 3), P 0) k).2), .int (nI k), x3] [] (mk h co (sM S c (pPh2 (pPh1 P (P 3), P 0) k).1)) = some (none, mk h co (sM S c (pDay P))) := by
    intro m
    induction m with
    | zero =>
      intro k x3 hk
      have hk : k = P 3 := hk
      obtain ⟨hQ, hle, hn⟩ := pPh2_B (Z := (pPh1 P (P 3), P 0)) hA k (by omega)
      have hE2 : pE (sM S c (pPh2 (pPh1 P (P 3), P 0) k).1) c (pPh2 (pPh1 P (P 3), P 0) k).1 := pE_sM hc _
      have e3 : (pPh2 (pPh1 P (P 3), P 0) k).1 3 = P 3 := (hn 3 (by decide) (fun l _ => by omega)).trans (hAn 3 (fun l _ => by omega))
      have e4 : (pPh2 (pPh1 P (P 3), P 0) k).1 4 = P 4 := (hn 4 (by decide) (fun l _ => by omega)).trans (hAn 4 (fun l _ => by omega))
      rw [eX8_passes_57, show aIL _ (co + c) 3 = some (nI _) from pE_get hE2 h co (j := 3) (by decide), aOp_s, e3, if_pos (nI_le (by omega) (by omega)), show aIL _ (co + c) 4 = some (nI _) from pE_get hE2 h co (j := 4) (by decide), aOp_s, e4, nI_1, show (4 : Int32) = nI 4 from rfl, pE_set hE2 h co (by decide), aOp_s, sM_sM, hk]
      rfl
    | succ m ih =>
      intro k x3 hk
      obtain ⟨hQ, hle, hn⟩ := pPh2_B (Z := (pPh1 P (P 3), P 0)) hA k (by omega)
      have e3 : (pPh2 (pPh1 P (P 3), P 0) k).1 3 = P 3 := (hn 3 (by decide) (fun l _ => by omega)).trans (hAn 3 (fun l _ => by omega))
      have ihk := ih (k + 1)
      have est : pPh2 (pPh1 P (P 3), P 0) (k + 1) = p2 (pPh2 (pPh1 P (P 3), P 0) k) k := rfl
      rw [est] at ihk
      generalize pPh2 (pPh1 P (P 3), P 0) k = Z at *
      obtain ⟨Q, lf⟩ := Z
      have hQ : pB Q := hQ
      have hle : lf ≤ P 0 := hle
      have h0 : P 0 ≤ 99 := hB.2.2.2.2.1
      have h5 : Q 5 ≤ 99999 := hQ.2.2.2.2.2.2.2
      have hE2 : pE (sM S c Q) c Q := pE_sM hc _
      have hk7 : k < 7 := by omega
      have hse := (hQ.2.2.2.1 k hk7).2.2.2
      have hw : pW Q k ≤ 108 := pWB_le hQ k _
      show AMV sa (d + 4) 143 57 [.ref (co + c), .int (nI lf), .int (nI k), x3] [] (mk h co (sM S c Q)) = _
      rw [eX8_passes_57, show aIL (mk h co (sM S c Q)) (co + c) 3 = some (nI (Q 3)) from pE_get hE2 h co (j := 3) (by decide), aOp_s, show Q 3 = P 3 from e3, if_neg (nI_ge (by omega) (by omega)), m_weight sa (d + 1) h co hE2 hQ hk7, aRI_mk, aOp_s, ix3, pE_get hE2 h co (by omega), aOp_s]
      by_cases hz : Q (15 + 4 * k) = 0
      · rw [if_pos (show nI (Q (15 + 4 * k)) = 0 by rw [hz]; rfl)]
        by_cases hcw : pW Q k ≤ lf
        · have ep : p2 (Q, lf) k = (pUp (pUp Q (15 + 4 * k) 1) 5 (if Q 5 + pW Q k ≤ 99999 then Q 5 + pW Q k else 99999), lf - pW Q k) := if_pos ⟨hz, hcw⟩
          rw [ep] at ihk
          have hE3 : pE (sM S c (pUp Q (15 + 4 * k) 1)) c (pUp Q (15 + 4 * k) 1) := pE_sM hc _
          have e5 : pUp Q (15 + 4 * k) 1 5 = Q 5 := pUp_ne _ _ (by omega)
          have g5 : aIL (mk h co (sM S c (pUp Q (15 + 4 * k) 1))) (co + c) 5 = some (nI (Q 5)) := by
            rw [← e5]; exact pE_get hE3 h co (j := 5) (by decide)
          rw [if_neg (nI_nlt hcw (by omega)), show (1 : Int32) = nI 1 from rfl, pE_set hE2 h co (by omega), aOp_s, sM_sM, g5, aOp_s, nI_add]
          have fin : ∀ v, v = (if Q 5 + pW Q k ≤ 99999 then Q 5 + pW Q k else 99999) → AMV sa (d + 4) 143 125 [.ref (co + c), .int (nI lf - nI (pW Q k)), .int (nI k), .int (nI (pW Q k))] [.int (nI v), .int 5, .ref (co + c)] (mk h co (sM S c (pUp Q (15 + 4 * k) 1))) = some (none, mk h co (sM S c (pDay P))) := by
            intro v hv
            rw [eX8_passes_125, show (5 : Int32) = nI 5 from rfl, pE_set hE3 h co (by decide), aOp_s, sM_sM, pk_sub hcw, nI_1, hv]
            exact ihk _ (by omega)
          by_cases hp : Q 5 + pW Q k ≤ 99999
          · rw [if_pos (show nI (Q 5 + pW Q k) ≤ 99999 from nI_le (b := 99999) hp (by decide)), aOp_s]
            dsimp only
            rw [nI_add]
            exact fin _ (if_pos hp).symm
          · rw [if_neg (show ¬ nI (Q 5 + pW Q k) ≤ 99999 from fun z => hp ((nI_leI (b := 99999) (by omega) (by decide)).mp z))]
            exact fin 99999 (if_neg hp).symm
        · have ep : p2 (Q, lf) k = (Q, lf) := if_neg (fun z => hcw z.2)
          rw [ep] at ihk
          rw [if_pos (nI_lt (by omega) (by omega)), nI_1]
          exact ihk _ (by omega)
      · have ep : p2 (Q, lf) k = (Q, lf) := if_neg (fun z => hz z.1)
        rw [ep] at ihk
        rw [if_neg (nI_ne0 (by omega) (by omega)), nI_1]
        exact ihk _ (by omega)
  rw [fX8_passes, eX8_passes_0]
  have := l1 (P 3) 0 (by omega)
  rw [show pPh1 P 0 = P from rfl, sM_self hE] at this
  rw [show (0 : Int32) = nI 0 from rfl, this]
  exact l2 (P 3) 0 _ (by omega)
