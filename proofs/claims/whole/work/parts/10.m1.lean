/-! ===== numbers and bits ===== -/
theorem n_andn : ∀ a, a < 64 → ∀ b, b < 64 → nI a &&& (nI b ^^^ (-1)) = nI (a &&& (63 ^^^ b)) := by decide +kernel
theorem n_bit : ∀ s, s < 128 → ∀ k, k < 7 → (((nI s >>> (nI k &&& 31)) &&& 1 = 1) ↔ s.testBit k = true) := by decide +kernel
theorem n_or : ∀ a, a < 128 → ∀ b, b < 128 → nI a ||| nI b = nI (a ||| b) := by decide +kernel
theorem n_lt64 : ∀ a, a < 64 → ∀ b, b < 64 → (a &&& b) < 64 ∧ (a ||| b) < 64 ∧ (a &&& (63 ^^^ b)) < 64 := by decide +kernel
theorem n_shl1 : ∀ k, k < 7 → (1 : Int32) <<< (nI k &&& 31) = nI (2 ^ k) := by decide +kernel
theorem ix0 (l : Nat) : 12 + 4 * nI l = nI (12 + 4 * l) := by
  rw [show (12 : Int32) = nI 12 from rfl, show (4 : Int32) = nI 4 from rfl, pk_mul, nI_add]
theorem ix1 (l : Nat) : (12 + 4 * nI l) + 1 = nI (13 + 4 * l) := by
  rw [ix0, nI_1, show 12 + 4 * l + 1 = 13 + 4 * l by omega]
theorem ix2 (l : Nat) : (12 + 4 * nI l) + 2 = nI (14 + 4 * l) := by
  rw [ix0, show (2 : Int32) = nI 2 from rfl, nI_add, show 12 + 4 * l + 2 = 14 + 4 * l by omega]
theorem ix3 (l : Nat) : (12 + 4 * nI l) + 3 = nI (15 + 4 * l) := by
  rw [ix0, show (3 : Int32) = nI 3 from rfl, nI_add, show 12 + 4 * l + 3 = 15 + 4 * l by omega]
theorem ix6 (k : Nat) : 6 + nI k = nI (6 + k) := by rw [show (6 : Int32) = nI 6 from rfl, nI_add]
theorem aIn_nI {k n : Nat} (h : k < n) (hn : n < 2 ^ 31) : aIn (nI k) n = true := by
  unfold aIn
  rw [Bool.and_eq_true, Bool.not_eq_true', decide_eq_false_iff_not, nI_clamp (by omega)]
  exact ⟨nI_pos (by omega), Nat.ble_eq_true_of_le h⟩
/-! ===== a post as forty numbers ===== -/
abbrev PS : Type := Nat → Nat
def pU (P : PS) (l : Nat) : Nat := P (13 + 4 * l) &&& (63 ^^^ P (14 + 4 * l))
def oS (P : PS) (set : Nat) : Nat → Nat
  | 0 => 0
  | k + 1 => oS P set k + (if set.testBit k = true then P (6 + k) else 0)
def pWB (P : PS) (l set : Nat) : Nat := match P (12 + 4 * l) with
  | 1 => oS P set (P 2)
  | 2 => 2 * oS P set (P 2)
  | 3 => if P (14 + 4 * l) = 0 then oS P set (P 2) + 1 else oS P set (P 2)
  | 4 => oS P set (P 2) / 2
  | _ => oS P set (P 2) / 2 - 5
def pW (P : PS) (l : Nat) : Nat := pWB P l (pU P l)
def pB (P : PS) : Prop := P 2 ≤ 6 ∧ P 3 ≤ 7 ∧ (∀ k, k < 6 → P (6 + k) ≤ 9) ∧ (∀ l, l < 7 → P (12 + 4 * l) ≤ 5 ∧ P (13 + 4 * l) < 64 ∧ P (14 + 4 * l) < 64 ∧ P (15 + 4 * l) ≤ 1) ∧ P 0 ≤ 99 ∧ P 1 ≤ 60 ∧ P 4 ≤ 100000 ∧ P 5 ≤ 99999
theorem oS_le {P : PS} (hB : pB P) (set : Nat) : ∀ k, k ≤ 6 → oS P set k ≤ 9 * k
  | 0, _ => Nat.le_refl _
  | k + 1, h => by
    have := oS_le hB set k (by omega)
    have h2 := hB.2.2.1 k (by omega)
    simp only [oS]
    split <;> omega
theorem pU_lt {P : PS} (hB : pB P) {l : Nat} (hl : l < 7) : pU P l < 64 := (n_lt64 _ (hB.2.2.2.1 l hl).2.1 _ (hB.2.2.2.1 l hl).2.2.1).2.2
theorem pWB_le {P : PS} (hB : pB P) (l set : Nat) : pWB P l set ≤ 108 := by
  have := oS_le hB set (P 2) hB.1
  have h2 := hB.1
  unfold pWB
  split
  · omega
  · omega
  · split <;> omega
  · omega
  · omega
/-- array c of the reference holds P -/
def pE (S : ST) (c : Nat) (P : PS) : Prop := (c = 46 ∨ c = 47 ∨ c = 48) ∧ ∀ j, j < 40 → S.2.2 c j = nI (P j)
theorem pE_get {S : ST} {c : Nat} {P : PS} (hE : pE S c P) (h : AH) (co : Nat) {j : Nat} (hj : j < 40) : aIL (mk h co S) (co + c) (nI j) = some (nI (P j)) := by
  obtain ⟨hc, hE⟩ := hE
  rw [g_IL (by rcases hc with rfl | rfl | rfl <;> decide) (by rcases hc with rfl | rfl | rfl <;> decide) (by rcases hc with rfl | rfl | rfl <;> rfl) (by rw [show cN c = 40 by rcases hc with rfl | rfl | rfl <;> rfl]; exact aIn_nI hj (by decide)), nI_clamp (by omega), hE j hj]
theorem pE_put {S : ST} {c : Nat} {P : PS} (hE : pE S c P) (h : AH) (co : Nat) {j : Nat} (hj : j < 40) (x : Int32) : aIS (mk h co S) (co + c) (nI j) x = some (mk h co (sA S c (upd (S.2.2 c) j x))) := by
  obtain ⟨hc, hE⟩ := hE
  rw [g_IS (by rcases hc with rfl | rfl | rfl <;> decide) (by rcases hc with rfl | rfl | rfl <;> decide) (by rcases hc with rfl | rfl | rfl <;> rfl) (by rw [show cN c = 40 by rcases hc with rfl | rfl | rfl <;> rfl]; exact aIn_nI hj (by decide)), nI_clamp (by omega)]
def pUp (P : PS) (j x : Nat) : PS := fun k => if k = j then x else P k
theorem pE_upd {S : ST} {c : Nat} {P : PS} (hE : pE S c P) (j x : Nat) : pE (sA S c (upd (S.2.2 c) j (nI x))) c (pUp P j x) := by
  refine ⟨hE.1, fun k hk => ?_⟩
  show (if c = c then upd (S.2.2 c) j (nI x) else _) k = _
  rw [if_pos rfl]
  unfold upd pUp
  by_cases hkj : k = j
  · rw [if_pos hkj, if_pos hkj]
  · rw [if_neg hkj, if_neg hkj]; exact hE.2 k hk
/-! ===== the reference's small methods ===== -/
theorem ci_in (sa : Nat → Nat) (d : Nat) (v lo hi : Int32) (h : AH) : AMC sa (d + 1) 107 [.int v, .int lo, .int hi] h = some (some (.int (if lo ≤ v ∧ v ≤ hi then 1 else 0)), h) := by
  rw [fX8_in, eX8_in_0]
  by_cases h1 : v < lo
  · rw [if_pos h1, if_neg (fun z => absurd h1 (Int32.not_lt.mpr z.1))]
  · rw [if_neg h1]
    by_cases h2 : hi < v
    · rw [if_pos h2, if_neg (fun z => absurd h2 (Int32.not_lt.mpr z.2))]
    · rw [if_neg h2, if_pos ⟨Int32.not_lt.mp h1, Int32.not_lt.mp h2⟩]
theorem ci_has (sa : Nat → Nat) (d : Nat) (s k : Int32) (h : AH) : AMC sa (d + 1) 108 [.int s, .int k] h = some (some (.int (if (s >>> (k &&& 31)) &&& 1 = 1 then 1 else 0)), h) := by
  rw [fX8_has, eX8_has_0]
  split <;> rfl
def bv (b : Bool) : Int32 := cond b 1 0
theorem bv_t : bv true = 1 := rfl
theorem bv_f : bv false = 0 := rfl
theorem m_has (sa : Nat → Nat) (d : Nat) {s k : Nat} (hs : s < 128) (hk : k < 7) (h : AH) : AMC sa (d + 1) 108 [.int (nI s), .int (nI k)] h = some (some (.int (bv (s.testBit k))), h) := by
  rw [ci_has]
  congr 3
  cases hb : s.testBit k with
  | true => rw [if_pos ((n_bit s hs k hk).mpr hb)]; rfl
  | false => rw [if_neg (fun z => by rw [(n_bit s hs k hk).mp z] at hb; cases hb)]; rfl
def mOnes (s : Int32) : Int32 := (0 : Int32) + ((s >>> ((0 : Int32) &&& 31)) &&& 1) + ((s >>> ((0 + 1 : Int32) &&& 31)) &&& 1) + ((s >>> ((0 + 1 + 1 : Int32) &&& 31)) &&& 1) + ((s >>> ((0 + 1 + 1 + 1 : Int32) &&& 31)) &&& 1) + ((s >>> ((0 + 1 + 1 + 1 + 1 : Int32) &&& 31)) &&& 1) + ((s >>> ((0 + 1 + 1 + 1 + 1 + 1 : Int32) &&& 31)) &&& 1) + ((s >>> ((0 + 1 + 1 + 1 + 1 + 1 + 1 : Int32) &&& 31)) &&& 1)
theorem ci_ones (sa : Nat → Nat) (d : Nat) (s : Int32) (h : AH) : AMC sa (d + 1) 109 [.int s] h = some (some (.int (mOnes s)), h) := by
  rw [fX8_ones, eX8_ones_0]
  iterate 7 rw [eX8_ones_4, if_neg (by decide)]
  rw [eX8_ones_4, if_pos (by decide)]
  rfl
def pC (s : Nat) : Nat := (List.range 7).foldl (fun n k => if s.testBit k = true then n + 1 else n) 0
theorem n_ones : ∀ s, s < 128 → mOnes (nI s) = nI (pC s) := by decide +kernel
theorem m_ones (sa : Nat → Nat) (d : Nat) {s : Nat} (hs : s < 128) (h : AH) : AMC sa (d + 1) 109 [.int (nI s)] h = some (some (.int (nI (pC s))), h) := by
  rw [ci_ones, n_ones s hs]
theorem m_found (sa : Nat → Nat) (d : Nat) (h : AH) (co : Nat) (S : ST) (x : Int32) : AMC sa (d + 1) 110 [.ref (co + 40), .int x] (mk h co S) = some (some (.int ((-1000010) - x)), mk h co (sI S 40 4 x)) := by
  rw [fX8_found, eX8_found_0, gP_40_4, aOp_s]
theorem m_well (sa : Nat → Nat) (d : Nat) (h : AH) (co : Nat) (S : ST) (x : Int32) : AMC sa (d + 1) 111 [.ref (co + 40), .int x] (mk h co S) = some (some (.int x), mk h co (sI S 40 4 0)) := by
  rw [fX8_well, eX8_well_0, gP_40_4, aOp_s]
theorem m_unsaid (sa : Nat → Nat) (d : Nat) (h : AH) (co : Nat) {S : ST} {c : Nat} {P : PS} (hE : pE S c P) (hB : pB P) {l : Nat} (hl : l < 7) : AMC sa (d + 1) 138 [.ref (co + c), .int (nI l)] (mk h co S) = some (some (.int (nI (pU P l))), mk h co S) := by
  rw [fX8_unsaid, eX8_unsaid_0, ix1, ix2, pE_get hE h co (by omega), aOp_s, pE_get hE h co (by omega), aOp_s, n_andn _ (hB.2.2.2.1 l hl).2.1 _ (hB.2.2.2.1 l hl).2.2.1]
  rfl
theorem m_weightBy (sa : Nat → Nat) (d : Nat) (h : AH) (co : Nat) {S : ST} {c : Nat} {P : PS} (hE : pE S c P) (hB : pB P) {l set : Nat} (hl : l < 7) (hs : set < 128) : AMC sa (d + 2) 139 [.ref (co + c), .int (nI l), .int (nI set)] (mk h co S) = some (some (.int (nI (pWB P l set))), mk h co S) := by
  have loop : ∀ m k, k + m = P 2 → AMV sa (d + 1) 139 5 [.ref (co + c), .int (nI l), .int (nI set), .int (nI (oS P set k)), .int (nI k)] [] (mk h co S) = some (some (.int (nI (pWB P l set))), mk h co S) := by
    have h6 := hB.1
    intro m
    induction m with
    | zero =>
      intro k hk
      have hk : k = P 2 := hk
      subst hk
      have ho := oS_le hB set (P 2) h6
      have hk5 := (hB.2.2.2.1 l hl).1
      rw [eX8_weightBy_5, show (2 : Int32) = nI 2 from rfl, pE_get hE h co (by decide), aOp_s, if_pos (nI_le (Nat.le_refl _) (by omega)), ix0, pE_get hE h co (by omega), aOp_s, show (1 : Int32) = nI 1 from rfl, show (3 : Int32) = nI 3 from rfl, show (4 : Int32) = nI 4 from rfl, show (5 : Int32) = nI 5 from rfl]
      have hv : P (12 + 4 * l) = 1 ∨ P (12 + 4 * l) = 2 ∨ P (12 + 4 * l) = 3 ∨ P (12 + 4 * l) = 4 ∨ P (12 + 4 * l) = 0 ∨ P (12 + 4 * l) = 5 := by omega
      have last : pWB P l set = oS P set (P 2) / 2 - 5 → (if nI (oS P set (P 2)) / nI 2 ≤ nI 5 then some (some (Value.int 0), mk h co S) else some (some (Value.int (nI (oS P set (P 2)) / nI 2 - nI 5)), mk h co S)) = some (some (Value.int (nI (pWB P l set))), mk h co S) := by
        intro hp
        rw [hp, pk_div (by omega) (by decide) (by decide)]
        by_cases h5 : oS P set (P 2) / 2 ≤ 5
        · rw [if_pos (nI_le h5 (by decide)), show oS P set (P 2) / 2 - 5 = 0 by omega]; rfl
        · rw [if_neg (fun z => h5 ((nI_leI (by omega) (by decide)).mp z)), pk_sub (by omega)]
      rcases hv with e | e | e | e | e | e
      · have hp : pWB P l set = oS P set (P 2) := by unfold pWB; rw [e]; rfl
        rw [hp, e, if_pos rfl]
      · have hp : pWB P l set = 2 * oS P set (P 2) := by unfold pWB; rw [e]; rfl
        rw [hp, e, if_neg (by decide), if_pos rfl, pk_mul]
      · have hp : pWB P l set = if P (14 + 4 * l) = 0 then oS P set (P 2) + 1 else oS P set (P 2) := by unfold pWB; rw [e]; rfl
        rw [hp, e, if_neg (by decide), if_neg (by decide), if_pos rfl, nI_add, show 12 + 4 * l + 2 = 14 + 4 * l by omega, pE_get hE h co (by omega), aOp_s]
        by_cases hz : P (14 + 4 * l) = 0
        · rw [hz, if_pos rfl, if_pos (show nI 0 = (0 : Int32) from rfl), nI_add]
        · rw [if_neg (nI_ne0 (by omega) (by have := (hB.2.2.2.1 l hl).2.2.1; omega)), if_neg hz]
      · have hp : pWB P l set = oS P set (P 2) / 2 := by unfold pWB; rw [e]; rfl
        rw [hp, e, if_neg (by decide), if_neg (by decide), if_neg (by decide), if_pos rfl, pk_div (by omega) (by decide) (by decide)]
      · rw [e, if_neg (by decide), if_neg (by decide), if_neg (by decide), if_neg (by decide)]
        exact last (by unfold pWB; rw [e]; rfl)
      · rw [e, if_neg (by decide), if_neg (by decide), if_neg (by decide), if_neg (by decide)]
        exact last (by unfold pWB; rw [e]; rfl)
    | succ m ih =>
      intro k hk
      have ho := oS_le hB set (P 2) h6
      have hk6 : k < 6 := by omega
      rw [eX8_weightBy_5, show (2 : Int32) = nI 2 from rfl, pE_get hE h co (by decide), aOp_s, if_neg (nI_ge (by omega) (by omega)), m_has sa d hs (by omega), aRI_mk, aOp_s]
      have e1 : oS P set (k + 1) = oS P set k + (if set.testBit k = true then P (6 + k) else 0) := rfl
      by_cases hb : set.testBit k = true
      · rw [if_pos hb] at e1
        rw [hb, if_neg (show ¬ (bv true = 0) by decide), ix6, pE_get hE h co (by omega), aOp_s, eX8_weightBy_34, nI_add, nI_1, ← e1]
        exact ih (k + 1) (by omega)
      · rw [if_neg hb] at e1
        rw [show set.testBit k = false by simpa using hb, if_pos (show bv false = 0 from rfl), eX8_weightBy_34, show (0 : Int32) = nI 0 from rfl, nI_add, nI_1, ← e1]
        exact ih (k + 1) (by omega)
  rw [fX8_weightBy, eX8_weightBy_0]
  exact loop (P 2) 0 (by omega)
theorem m_weight (sa : Nat → Nat) (d : Nat) (h : AH) (co : Nat) {S : ST} {c : Nat} {P : PS} (hE : pE S c P) (hB : pB P) {l : Nat} (hl : l < 7) : AMC sa (d + 3) 140 [.ref (co + c), .int (nI l)] (mk h co S) = some (some (.int (nI (pW P l))), mk h co S) := by
  rw [fX8_weight, eX8_weight_0, m_unsaid sa (d + 1) h co hE hB hl, aRI_mk, aOp_s, m_weightBy sa d h co hE hB hl (by have := pU_lt hB hl; omega), aRI_mk, aOp_s]
  rfl
