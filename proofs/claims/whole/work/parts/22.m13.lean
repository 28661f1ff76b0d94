/-! ===== the reference: images, kinds, asked, counts ===== -/
theorem gZS_51 (h : AH) (co : Nat) (S : ST) (i x : Int32) (hi : aIn i 2 = true) (hx : x = 0 ∨ x = 1) : aZS (mk h co S) (co + 51) i x = some (mk h co (sA S 51 (upd (S.2.2 51) i.toNatClampNeg x))) := by
  unfold aZS
  rw [mk_get h co S 51 (Or.inr (by decide)) (by decide)]
  show (if aIn i 2 = true ∧ (1 : Nat) = 1 ∧ (x = 0 ∨ x = 1) then some _ else none) = _
  rw [if_pos ⟨hi, rfl, hx⟩]
  congr 1
  exact mk_up h co S _ 51 _ (Or.inr (by decide)) (by decide) rfl (fun y hy => ⟨rfl, rfl, if_neg hy⟩)
theorem gZL_51 (h : AH) (co : Nat) (S : ST) (i : Int32) (hi : aIn i 2 = true) : aZL (mk h co S) (co + 51) i = some (S.2.2 51 i.toNatClampNeg) := by
  unfold aZL
  rw [mk_get h co S 51 (Or.inr (by decide)) (by decide)]
  show (if aIn i 2 = true ∧ (1 : Nat) = 1 then some _ else none) = _
  rw [if_pos ⟨hi, rfl⟩]
/-- the images of the reference -/
def mI (S : ST) (I : Nat → PS) : Prop := ∀ k, k < 2 → S.2.2 51 k = bv (decide (0 < I k 3)) ∧ (0 < I k 3 → ∀ j, j < 40 → S.2.2 50 (40 * k + j) = nI (I k j))
theorem m_image_bad (sa : Nat → Nat) (d : Nat) (h : AH) (co : Nat) (S : ST) (x : Int32) (hb : iL x 2 = false) : AMC sa (d + 3) 170 [.ref (co + 40), .int x] (mk h co S) = some (some (.int (-1000001)), mk h co S) := by
  rw [fX8_image, eX8_image_0, m_in, aRI_mk, aOp_s, show decide ((0 : Int32) ≤ x ∧ x ≤ 1) = iL x 2 from rfl, hb, if_pos bvf]
theorem m_image_no (sa : Nat → Nat) (d : Nat) (h : AH) (co : Nat) {S : ST} {P : PS} (hE : pE S 46 P) (hB : pB P) {k : Nat} (hk : k < 2) (hz : P 3 = 0) : AMC sa (d + 3) 170 [.ref (co + 40), .int (nI k)] (mk h co S) = some (some (.int (-1000002)), mk h co S) := by
  rw [fX8_image, eX8_image_0, m_in, aRI_mk, aOp_s, show decide ((0 : Int32) ≤ nI k ∧ nI k ≤ 1) = iL (nI k) 2 from rfl, iL_nI (by decide) hk, if_neg bvn, gC_40, aOp_s, m_isPost sa (d + 1) h co hE hB, aRI_mk, aOp_s, show decide (0 < P 3) = false from decide_eq_false (by omega), if_pos bvf]
theorem m_image_ok (sa : Nat → Nat) (d : Nat) (h : AH) (co : Nat) {S : ST} {P : PS} (hE : pE S 46 P) (hB : pB P) {k : Nat} (hk : k < 2) (hz : 0 < P 3) : AMC sa (d + 3) 170 [.ref (co + 40), .int (nI k)] (mk h co S) = some (some (.int 1), mk h co (sA (sA S 50 (va_cpy (S.2.2 46) (S.2.2 50) 0 (40 * k) 40)) 51 (upd (S.2.2 51) k 1))) := by
  rw [fX8_image, eX8_image_0, m_in, aRI_mk, aOp_s, show decide ((0 : Int32) ≤ nI k ∧ nI k ≤ 1) = iL (nI k) 2 from rfl, iL_nI (by decide) hk, if_neg bvn, gC_40, aOp_s, m_isPost sa (d + 1) h co hE hB, aRI_mk, aOp_s, show decide (0 < P 3) = true from decide_eq_true hz, if_neg bvn, gR_40_13, aOp_s, gR_40_18, aOp_s, show (40 : Int32) * nI k = nI (40 * k) from pk_mul 40 k, show (0 : Int32) = nI 0 from rfl, m_copies sa (d + 1) h co S (by decide) (by decide) rfl (by decide) (by decide) rfl (by decide) (by decide) (by show 40 * k + 40 ≤ 80; omega) (by decide) (by decide), aRV_mk, aOp_s, gR_40_19, aOp_s, gZS_51 _ _ _ _ _ (aIn_nI hk (by decide)) (Or.inr rfl), aOp_s, nI_clamp (by omega)]
  rfl
def iU (I : Nat → PS) (k : Nat) (P : PS) : Nat → PS := fun q => if q = k then P else I q
theorem iU_at (I : Nat → PS) (k : Nat) (P : PS) : iU I k P k = P := if_pos rfl
theorem iU_ne (I : Nat → PS) {k q : Nat} (P : PS) (h : q ≠ k) : iU I k P q = I q := if_neg h
theorem mI_image {S : ST} {I : Nat → PS} (hI : mI S I) {P : PS} (hE : pE S 46 P) (hz : 0 < P 3) (k : Nat) : mI (sA (sA S 50 (va_cpy (S.2.2 46) (S.2.2 50) 0 (40 * k) 40)) 51 (upd (S.2.2 51) k 1)) (iU I k P) := by
  intro q hq
  by_cases e : q = k
  · subst e
    refine ⟨?_, fun _ j hj => ?_⟩
    · show upd (S.2.2 51) q 1 q = _
      rw [pk_us, iU_at, decide_eq_true hz]; rfl
    · show va_cpy (S.2.2 46) (S.2.2 50) 0 (40 * q) 40 (40 * q + j) = _
      rw [pk_cpy_in (by omega) (by omega), iU_at, show 0 + (40 * q + j - 40 * q) = j by omega]
      exact hE.2 j hj
  · obtain ⟨h1, h2⟩ := hI q hq
    rw [iU_ne _ _ e]
    refine ⟨?_, fun h3 j hj => ?_⟩
    · show upd (S.2.2 51) k 1 q = _
      rw [pk_un e]; exact h1
    · show va_cpy (S.2.2 46) (S.2.2 50) 0 (40 * k) 40 (40 * q + j) = _
      rw [pk_cpy_out (by omega)]
      exact h2 h3 j hj
theorem m_restore_bad (sa : Nat → Nat) (d : Nat) (h : AH) (co : Nat) (S : ST) (x : Int32) (hb : iL x 2 = false) : AMC sa (d + 3) 171 [.ref (co + 40), .int x] (mk h co S) = some (some (.int (-1000001)), mk h co S) := by
  rw [fX8_restore, eX8_restore_0, m_in, aRI_mk, aOp_s, show decide ((0 : Int32) ≤ x ∧ x ≤ 1) = iL x 2 from rfl, hb, if_pos bvf]
theorem m_restore_no (sa : Nat → Nat) (d : Nat) (h : AH) (co : Nat) {S : ST} {I : Nat → PS} (hI : mI S I) {k : Nat} (hk : k < 2) (hz : I k 3 = 0) : AMC sa (d + 3) 171 [.ref (co + 40), .int (nI k)] (mk h co S) = some (some (.int (-1000002)), mk h co S) := by
  rw [fX8_restore, eX8_restore_0, m_in, aRI_mk, aOp_s, show decide ((0 : Int32) ≤ nI k ∧ nI k ≤ 1) = iL (nI k) 2 from rfl, iL_nI (by decide) hk, if_neg bvn, gR_40_19, aOp_s, gZL_51 _ _ _ _ (aIn_nI hk (by decide)), aOp_s, nI_clamp (by omega), (hI k hk).1, decide_eq_false (by omega), if_pos bvf]
theorem m_restore_ok (sa : Nat → Nat) (d : Nat) (h : AH) (co : Nat) {S : ST} {I : Nat → PS} (hI : mI S I) {k : Nat} (hk : k < 2) (hz : 0 < I k 3) : AMC sa (d + 3) 171 [.ref (co + 40), .int (nI k)] (mk h co S) = some (some (.int 1), mk h co (sI (sM S 46 (I k)) 40 17 0)) := by
  obtain ⟨h1, h2⟩ := hI k hk
  rw [fX8_restore, eX8_restore_0, m_in, aRI_mk, aOp_s, show decide ((0 : Int32) ≤ nI k ∧ nI k ≤ 1) = iL (nI k) 2 from rfl, iL_nI (by decide) hk, if_neg bvn, gR_40_19, aOp_s, gZL_51 _ _ _ _ (aIn_nI hk (by decide)), aOp_s, nI_clamp (by omega), h1, decide_eq_true hz, if_neg bvn, gR_40_18, aOp_s, gR_40_13, aOp_s, show (40 : Int32) * nI k = nI (40 * k) from pk_mul 40 k, show (0 : Int32) = nI 0 from rfl, m_copies sa (d + 1) h co S (by decide) (by decide) rfl (by decide) (by decide) rfl (by decide) (by show 40 * k + 40 ≤ 80; omega) (by decide) (by decide) (by decide), aRV_mk, aOp_s, gP_40_17, aOp_s]
  congr 4
  unfold sM
  congr 1
  funext j
  by_cases hj : j < 40
  · rw [pk_cpy_in (by omega) (by omega), if_pos hj, Nat.sub_zero]
    exact h2 hz j hj
  · rw [pk_cpy_out (by omega), if_neg hj]
theorem m_kindIn (sa : Nat → Nat) (d : Nat) (h : AH) (co : Nat) {S : ST} {P : PS} (hE : pE S 46 P) {l : Nat} (hl : l < 7) : AMC sa (d + 1) 172 [.ref (co + 40), .int (nI l)] (mk h co S) = some (some (.int (nI (P (12 + 4 * l)))), mk h co S) := by
  rw [fX8_kindIn, eX8_kindIn_0, gR_40_13, aOp_s, ix0, pE_get hE h co (by omega), aOp_s]
theorem m_kind_bad (sa : Nat → Nat) (d : Nat) (h : AH) (co : Nat) {S : ST} {P : PS} (hE : pE S 46 P) (x : Int32) (hb : iL x (P 3) = false) : AMC sa (d + 3) 173 [.ref (co + 40), .int x] (mk h co S) = some (some (.int (-1000001)), mk h co S) := by
  rw [fX8_kind, eX8_kind_0, gC_40, aOp_s, m_isLetter sa d h co hE, aRI_mk, aOp_s, hb, if_pos bvf]
theorem m_kind_ok (sa : Nat → Nat) (d : Nat) (h : AH) (co : Nat) {S : ST} {P : PS} (hE : pE S 46 P) (hB : pB P) {l : Nat} (hl : l < P 3) : AMC sa (d + 3) 173 [.ref (co + 40), .int (nI l)] (mk h co S) = some (some (.int (nI (P (12 + 4 * l)))), mk h co S) := by
  have b3 := hB.2.1
  rw [fX8_kind, eX8_kind_0, gC_40, aOp_s, m_isLetter sa d h co hE, aRI_mk, aOp_s, iL_nI (by omega) hl, if_neg bvn, gC_40, aOp_s, m_kindIn sa (d + 1) h co hE (by omega), aRI_mk, aOp_s]
theorem m_as_bad (sa : Nat → Nat) (d : Nat) (h : AH) (co : Nat) {S : ST} {P : PS} (hE : pE S 46 P) (x z : Int32) (hb : (iL x (P 3) && iL z 6) = false) : AMC sa (d + 3) 174 [.ref (co + 40), .int x, .int z] (mk h co S) = some (some (.int (-1000001)), mk h co S) := by
  rw [fX8_as, eX8_as_0, gC_40, aOp_s, m_isLetter sa d h co hE, aRI_mk, aOp_s]
  cases h1 : iL x (P 3) with
  | false => rw [if_pos bvf]
  | true =>
    rw [h1, Bool.true_and] at hb
    rw [if_neg bvn, m_in, aRI_mk, aOp_s, show decide ((0 : Int32) ≤ z ∧ z ≤ 5) = iL z 6 from rfl, hb, if_pos bvf]
def kIs (its kind : Nat) : Bool := decide (kind = 0) || (decide (kind = its) || ((decide (kind = 1) && decide (its < 4)) || (decide (kind = 4) && decide (its = 5))))
theorem m_as_ok (sa : Nat → Nat) (d : Nat) (h : AH) (co : Nat) {S : ST} {P : PS} (hE : pE S 46 P) (hB : pB P) {l k : Nat} (hl : l < P 3) (hk : k < 6) : AMC sa (d + 3) 174 [.ref (co + 40), .int (nI l), .int (nI k)] (mk h co S) = cond (kIs (P (12 + 4 * l)) k) (some (some (.int (nI l)), mk h co (sI S 40 4 0))) (some (some (.int (-1000013)), mk h co (sI S 40 4 3))) := by
  have b3 := hB.2.1
  have hk5 := (hB.2.2.2.1 l (by omega)).1
  have e60 : ∀ s0 : Bool, AMV sa (d + 2) 174 60 [.ref (co + 40), .int (nI l), .int (nI k), .int (nI (P (12 + 4 * l))), .null] [.int (bv s0)] (mk h co S) = cond s0 (some (some (.int (nI l)), mk h co (sI S 40 4 0))) (some (some (.int (-1000013)), mk h co (sI S 40 4 3))) := by
    intro s0
    rw [eX8_as_60]
    cases s0 with
    | false => rw [if_pos bvf, gC_40, aOp_s, m_found, aRI_mk, aOp_s]; rfl
    | true => rw [if_neg bvn, gC_40, aOp_s, m_well, aRI_mk, aOp_s]; rfl
  rw [fX8_as, eX8_as_0, gC_40, aOp_s, m_isLetter sa d h co hE, aRI_mk, aOp_s, iL_nI (by omega) hl, if_neg bvn, m_in, aRI_mk, aOp_s, show decide ((0 : Int32) ≤ nI k ∧ nI k ≤ 5) = iL (nI k) 6 from rfl, iL_nI (by decide) hk, if_neg bvn, gC_40, aOp_s, m_kindIn sa (d + 1) h co hE (by omega), aRI_mk, aOp_s, show (1 : Int32) = bv true from rfl, e60]
  generalize P (12 + 4 * l) = its at *
  have e45 : AMV sa (d + 2) 174 45 [.ref (co + 40), .int (nI l), .int (nI k), .int (nI its), .null] [] (mk h co S) = cond (decide (k = 4) && decide (its = 5)) (some (some (.int (nI l)), mk h co (sI S 40 4 0))) (some (some (.int (-1000013)), mk h co (sI S 40 4 3))) := by
    have et := e60 true
    have ef := e60 false
    rw [bv_t] at et
    rw [bv_f] at ef
    rw [eX8_as_45, et, ef]
    by_cases h4 : k = 4
    · rw [if_pos (show nI k = 4 by rw [h4]; rfl), decide_eq_true h4, Bool.true_and]
      by_cases h5 : its = 5
      · rw [if_pos (show nI its = 5 by rw [h5]; rfl), decide_eq_true h5]
      · rw [if_neg (show ¬ nI its = 5 from fun z => h5 ((nI_eq (b := 5) (by omega) (by decide)).mp z)), decide_eq_false h5]
    · rw [if_neg (show ¬ nI k = 4 from fun z => h4 ((nI_eq (b := 4) (by omega) (by decide)).mp z)), decide_eq_false h4, Bool.false_and]
  rw [e45]
  unfold kIs
  by_cases h0 : k = 0
  · rw [if_pos (show nI k = 0 by rw [h0]; rfl), decide_eq_true h0]; rfl
  · rw [if_neg (nI_ne0 (by omega) (by omega)), decide_eq_false h0, Bool.false_or]
    by_cases h1 : k = its
    · rw [if_pos (by rw [h1]), decide_eq_true h1]; rfl
    · rw [if_neg (fun z => h1 ((nI_eq (by omega) (by omega)).mp z)), decide_eq_false h1, Bool.false_or]
      by_cases h2 : k = 1
      · rw [if_pos (show nI k = bv true by rw [h2]; rfl), decide_eq_true h2, Bool.true_and]
        by_cases h3 : its < 4
        · rw [if_pos (show nI its < 4 from nI_lt (b := 4) h3 (by decide)), decide_eq_true h3]; rfl
        · rw [if_neg (show ¬ nI its < 4 from nI_nlt (b := 4) (by omega) (by omega)), decide_eq_false h3, Bool.false_or]
      · rw [if_neg (show ¬ nI k = bv true from fun z => h2 ((nI_eq (b := 1) (by omega) (by decide)).mp z)), decide_eq_false h2, Bool.false_and, Bool.false_or]
/-! asked: which bodies begin -/
def bs (S : ST) (n b : Nat) : ST := sI (sA S 52 (upd (S.2.2 52) n (nI b))) 40 21 (nI (n + 1))
def bsL (S : ST) (n : Nat) : List Nat → ST
  | [] => S
  | b :: r => bsL (bs S n b) (n + 1) r
theorem bsL_app (S : ST) (n : Nat) (L M : List Nat) : bsL S n (L ++ M) = bsL (bsL S n L) (n + L.length) M := by
  induction L generalizing S n with
  | nil => rfl
  | cons b r ih => simp only [List.cons_append, bsL, ih, List.length_cons]; rw [show n + 1 + r.length = n + (r.length + 1) by omega]
theorem bsL_21 {S : ST} {n : Nat} (h : S.1 40 21 = nI n) (L : List Nat) : (bsL S n L).1 40 21 = nI (n + L.length) := by
  induction L generalizing S n with
  | nil => exact h
  | cons b r ih =>
    have := ih (S := bs S n b) (n := n + 1) (sI_at _ _ _ _)
    simp only [bsL, List.length_cons]
    rw [this, show n + 1 + r.length = n + (r.length + 1) by omega]
theorem bsL_fr (S : ST) (n : Nat) (L : List Nat) : (bsL S n L).2.1 = S.2.1 ∧ (∀ c, c ≠ 52 → (bsL S n L).2.2 c = S.2.2 c) ∧ (∀ c k, ¬ (c = 40 ∧ k = 21) → (bsL S n L).1 c k = S.1 c k) := by
  induction L generalizing S n with
  | nil => exact ⟨rfl, fun _ _ => rfl, fun _ _ _ => rfl⟩
  | cons b r ih =>
    obtain ⟨h1, h2, h3⟩ := ih (bs S n b) (n + 1)
    refine ⟨h1, fun c hc => (h2 c hc).trans (sA_ne _ _ _ hc), fun c k hk => (h3 c k hk).trans (sI_ne _ _ hk)⟩
theorem bsL_at (S : ST) (n : Nat) (L : List Nat) : ∀ j, (bsL S n L).2.2 52 j = if n ≤ j ∧ j < n + L.length then nI (L.getD (j - n) 0) else S.2.2 52 j := by
  induction L generalizing S n with
  | nil => intro j; rw [if_neg (by simp)]; rfl
  | cons b r ih =>
    intro j
    simp only [bsL, List.length_cons]
    rw [ih (bs S n b) (n + 1) j]
    have e : (bs S n b).2.2 52 = upd (S.2.2 52) n (nI b) := sA_at S 52 (upd (S.2.2 52) n (nI b))
    rw [e]
    by_cases h1 : n + 1 ≤ j ∧ j < n + 1 + r.length
    · rw [if_pos h1, if_pos (by omega), show j - n = (j - (n + 1)) + 1 by omega, List.getD_cons_succ]
    · rw [if_neg h1]
      by_cases h2 : j = n
      · rw [h2, pk_us, if_pos (by omega), Nat.sub_self, List.getD_cons_zero]
      · rw [pk_un h2, if_neg (by omega)]
theorem pE_bsL {S : ST} {P : PS} (hE : pE S 46 P) (n : Nat) (L : List Nat) : pE (bsL S n L) 46 P := ⟨hE.1, fun j hj => by rw [(bsL_fr S n L).2.1 46 (by decide)]; exact hE.2 j hj⟩
theorem m_begins (sa : Nat → Nat) (d : Nat) (h : AH) (co : Nat) {S : ST} {n : Nat} (hn : S.1 40 21 = nI n) (h16 : n < 16) (b : Nat) : AMC sa (d + 1) 175 [.ref (co + 40), .int (nI b)] (mk h co S) = some (none, mk h co (bsL S n [b])) := by
  rw [fX8_begins, eX8_begins_0, gI_40_21, aOp_s, hn, if_neg (show ¬ (16 : Int32) ≤ nI n from nI_ge (b := 16) h16 (by decide)), gR_40_20, aOp_s, aOp_s, gS_52 _ _ _ _ _ (aIn_nI h16 (by decide)), aOp_s, nI_clamp (by omega), gI_40_21, aOp_s, sA_I, hn, nI_1, gP_40_21, aOp_s]
  rfl
def pmL (k : Nat) : List Nat := (if k = 1 then [] else if k = 2 then [24] else [22]) ++ [21, 20]
def pmV (P : PS) (l k : Nat) : Int32 := if k = 2 then 2 * (nI l + nI (pC (P (14 + 4 * l)))) else if k = 3 then (nI l + nI (pC (P (14 + 4 * l)))) - 1000 else nI l + nI (pC (P (14 + 4 * l)))
theorem m_plainMark (sa : Nat → Nat) (d : Nat) (h : AH) (co : Nat) {S : ST} {P : PS} (hE : pE S 46 P) (hB : pB P) {l n k : Nat} (hl : l < 7) (hk : P (12 + 4 * l) = k) (hn : S.1 40 21 = nI n) (h16 : n ≤ 10) : AMC sa (d + 2) 176 [.ref (co + 40), .int (nI l)] (mk h co S) = some (some (.int (pmV P l k)), mk h co (bsL S n (pmL k))) := by
  have hsd := (hB.2.2.2.1 l hl).2.2.1
  have hk5 := (hB.2.2.2.1 l hl).1
  rw [hk] at hk5
  have tail : ∀ (S : ST) (n : Nat), pE S 46 P → S.1 40 21 = nI n → n ≤ 11 → AMV sa (d + 1) 176 27 [.ref (co + 40), .int (nI l), .int (nI k), .null] [] (mk h co S) = some (some (.int (pmV P l k)), mk h co (bsL S n [21, 20])) := by
    intro S n hE hn h16
    rw [eX8_plainMark_27, gC_40, aOp_s, show (21 : Int32) = nI 21 from rfl, m_begins sa d h co hn (by omega) 21, aRV_mk, aOp_s, gC_40, aOp_s, show (20 : Int32) = nI 20 from rfl, m_begins sa d h co (bsL_21 hn [21]) (by show n + 1 < 16; omega) 20, aRV_mk, aOp_s, gR_40_13, aOp_s, ix2, pE_get (pE_bsL (pE_bsL hE _ _) _ _) h co (by omega), aOp_s, m_ones sa d (by omega), aRI_mk, aOp_s]
    unfold pmV
    by_cases h2 : k = 2
    · rw [if_pos (show nI k = 2 by rw [h2]; rfl), if_pos h2]; rfl
    · rw [if_neg (show ¬ nI k = 2 from fun z => h2 ((nI_eq (b := 2) (by omega) (by decide)).mp z)), if_neg h2]
      by_cases h3 : k = 3
      · rw [if_pos (show nI k = 3 by rw [h3]; rfl), if_pos h3]; rfl
      · rw [if_neg (show ¬ nI k = 3 from fun z => h3 ((nI_eq (b := 3) (by omega) (by decide)).mp z)), if_neg h3]; rfl
  rw [fX8_plainMark, eX8_plainMark_0, gC_40, aOp_s, m_kindIn sa d h co hE hl, aRI_mk, aOp_s, hk]
  unfold pmL
  by_cases h1 : k = 1
  · rw [if_pos (show nI k = 1 by rw [h1]; rfl), if_pos h1]
    exact tail S n hE hn (by omega)
  · rw [if_neg (show ¬ nI k = 1 from fun z => h1 ((nI_eq (b := 1) (by omega) (by decide)).mp z)), if_neg h1]
    by_cases h2 : k = 2
    · rw [if_pos (show nI k = 2 by rw [h2]; rfl), if_pos h2, gC_40, aOp_s, show (24 : Int32) = nI 24 from rfl, m_begins sa d h co hn (by omega) 24, aRV_mk, aOp_s]
      exact tail _ (n + 1) (pE_bsL hE _ _) (bsL_21 hn [24]) (by omega)
    · rw [if_neg (show ¬ nI k = 2 from fun z => h2 ((nI_eq (b := 2) (by omega) (by decide)).mp z)), if_neg h2, gC_40, aOp_s, show (22 : Int32) = nI 22 from rfl, m_begins sa d h co hn (by omega) 22, aRV_mk, aOp_s]
      exact tail _ (n + 1) (pE_bsL hE _ _) (bsL_21 hn [22]) (by omega)
def csL (k : Nat) : List Nat := (if k = 5 then [14] else []) ++ [13, 10]
def csV (P : PS) (l k : Nat) : Int32 := if k = 5 then 2 * (nI (pC (P (13 + 4 * l))) - 100) else nI (pC (P (13 + 4 * l))) - 100
theorem m_cardSize (sa : Nat → Nat) (d : Nat) (h : AH) (co : Nat) {S : ST} {P : PS} (hE : pE S 46 P) (hB : pB P) {l n k : Nat} (hl : l < 7) (hk : P (12 + 4 * l) = k) (hn : S.1 40 21 = nI n) (h16 : n ≤ 10) : AMC sa (d + 2) 177 [.ref (co + 40), .int (nI l)] (mk h co S) = some (some (.int (csV P l k)), mk h co (bsL S n (csL k))) := by
  have hwd := (hB.2.2.2.1 l hl).2.1
  have hk5 := (hB.2.2.2.1 l hl).1
  rw [hk] at hk5
  have tail : ∀ (S : ST) (n : Nat) (b : Bool), b = decide (k = 5) → pE S 46 P → S.1 40 21 = nI n → n ≤ 11 → AMV sa (d + 1) 177 25 [.ref (co + 40), .int (nI l), .int (bv b), .null] [] (mk h co S) = some (some (.int (csV P l k)), mk h co (bsL S n [13, 10])) := by
    intro S n b hb hE hn h16
    rw [eX8_cardSize_25, gC_40, aOp_s, show (13 : Int32) = nI 13 from rfl, m_begins sa d h co hn (by omega) 13, aRV_mk, aOp_s, gC_40, aOp_s, show (10 : Int32) = nI 10 from rfl, m_begins sa d h co (bsL_21 hn [13]) (by show n + 1 < 16; omega) 10, aRV_mk, aOp_s, gR_40_13, aOp_s, ix1, pE_get (pE_bsL (pE_bsL hE _ _) _ _) h co (by omega), aOp_s, m_ones sa d (by omega), aRI_mk, aOp_s]
    unfold csV
    by_cases h5 : k = 5
    · rw [hb, decide_eq_true h5, if_neg bvn, if_pos h5]; rfl
    · rw [hb, decide_eq_false h5, if_pos bvf, if_neg h5]; rfl
  rw [fX8_cardSize, eX8_cardSize_0, gC_40, aOp_s, m_kindIn sa d h co hE hl, aRI_mk, aOp_s, hk]
  unfold csL
  by_cases h5 : k = 5
  · rw [if_pos (show nI k = 5 by rw [h5]; rfl), if_pos h5, eX8_cardSize_14, if_neg (show ¬ (1 : Int32) = 0 by decide), gC_40, aOp_s, show (14 : Int32) = nI 14 from rfl, m_begins sa d h co hn (by omega) 14, aRV_mk, aOp_s]
    exact tail _ (n + 1) true (decide_eq_true h5).symm (pE_bsL hE _ _) (bsL_21 hn [14]) (by omega)
  · rw [if_neg (show ¬ nI k = 5 from fun z => h5 ((nI_eq (b := 5) (by omega) (by decide)).mp z)), if_neg h5, eX8_cardSize_14, if_pos rfl]
    exact tail S n false (decide_eq_false h5).symm hE hn (by omega)
def psL (k : Nat) : List Nat := (if k = 2 then [12] else []) ++ ([11, 10] ++ pmL k)
def psV (P : PS) (l k : Nat) : Int32 := if k = 2 then -(nI (pC (P (13 + 4 * l))) + pmV P l k) else nI (pC (P (13 + 4 * l))) + pmV P l k
theorem m_plainSize (sa : Nat → Nat) (d : Nat) (h : AH) (co : Nat) {S : ST} {P : PS} (hE : pE S 46 P) (hB : pB P) {l n k : Nat} (hl : l < 7) (hk : P (12 + 4 * l) = k) (hn : S.1 40 21 = nI n) (h16 : n ≤ 5) : AMC sa (d + 3) 178 [.ref (co + 40), .int (nI l)] (mk h co S) = some (some (.int (psV P l k)), mk h co (bsL S n (psL k))) := by
  have hwd := (hB.2.2.2.1 l hl).2.1
  have hk5 := (hB.2.2.2.1 l hl).1
  rw [hk] at hk5
  have tail : ∀ (S : ST) (n : Nat) (b : Bool), b = decide (k = 2) → pE S 46 P → S.1 40 21 = nI n → n ≤ 6 → AMV sa (d + 2) 178 25 [.ref (co + 40), .int (nI l), .int (bv b), .null] [] (mk h co S) = some (some (.int (psV P l k)), mk h co (bsL S n ([11, 10] ++ pmL k))) := by
    intro S n b hb hE hn h16
    rw [eX8_plainSize_25, gC_40, aOp_s, show (11 : Int32) = nI 11 from rfl, m_begins sa (d + 1) h co hn (by omega) 11, aRV_mk, aOp_s, gC_40, aOp_s, show (10 : Int32) = nI 10 from rfl, m_begins sa (d + 1) h co (bsL_21 hn [11]) (by show n + 1 < 16; omega) 10, aRV_mk, aOp_s, gR_40_13, aOp_s, ix1, pE_get (pE_bsL (pE_bsL hE _ _) _ _) h co (by omega), aOp_s, m_ones sa (d + 1) (by omega), aRI_mk, aOp_s, gC_40, aOp_s, m_plainMark sa d h co (pE_bsL (pE_bsL hE _ _) _ _) hB hl hk (bsL_21 (bsL_21 hn [11]) [10]) (by show n + 1 + 1 ≤ 10; omega), aRI_mk, aOp_s]
    unfold psV
    rw [bsL_app]
    by_cases h5 : k = 2
    · rw [hb, decide_eq_true h5, if_neg bvn, if_pos h5]; rfl
    · rw [hb, decide_eq_false h5, if_pos bvf, if_neg h5]; rfl
  rw [fX8_plainSize, eX8_plainSize_0, gC_40, aOp_s, m_kindIn sa (d + 1) h co hE hl, aRI_mk, aOp_s, hk]
  unfold psL
  by_cases h5 : k = 2
  · rw [if_pos (show nI k = 2 by rw [h5]; rfl), if_pos h5, eX8_plainSize_14, if_neg (show ¬ (1 : Int32) = 0 by decide), gC_40, aOp_s, show (12 : Int32) = nI 12 from rfl, m_begins sa (d + 1) h co hn (by omega) 12, aRV_mk, aOp_s]
    exact tail _ (n + 1) true (decide_eq_true h5).symm (pE_bsL hE _ _) (bsL_21 hn [12]) (by omega)
  · rw [if_neg (show ¬ nI k = 2 from fun z => h5 ((nI_eq (b := 2) (by omega) (by decide)).mp z)), if_neg h5, eX8_plainSize_14, if_pos rfl]
    exact tail S n false (decide_eq_false h5).symm hE hn (by omega)
def akL (k what : Nat) : List Nat := if what = 0 then (if k < 4 then psL k else csL k) else (if k < 4 then pmL k else [23, 20] ++ csL k)
def akV (P : PS) (l k what : Nat) : Int32 := if what = 0 then (if k < 4 then psV P l k else csV P l k) else (if k < 4 then pmV P l k else nI l - csV P l k)
theorem m_cardMark (sa : Nat → Nat) (d : Nat) (h : AH) (co : Nat) {S : ST} {P : PS} (hE : pE S 46 P) (hB : pB P) {l n k : Nat} (hl : l < 7) (hk : P (12 + 4 * l) = k) (hn : S.1 40 21 = nI n) (h16 : n ≤ 5) : AMC sa (d + 3) 179 [.ref (co + 40), .int (nI l)] (mk h co S) = some (some (.int (nI l - csV P l k)), mk h co (bsL S n ([23, 20] ++ csL k))) := by
  rw [fX8_cardMark, eX8_cardMark_0, gC_40, aOp_s, show (23 : Int32) = nI 23 from rfl, m_begins sa (d + 1) h co hn (by omega) 23, aRV_mk, aOp_s, gC_40, aOp_s, show (20 : Int32) = nI 20 from rfl, m_begins sa (d + 1) h co (bsL_21 hn [23]) (by show n + 1 < 16; omega) 20, aRV_mk, aOp_s, gC_40, aOp_s, m_cardSize sa d h co (pE_bsL (pE_bsL hE _ _) _ _) hB hl hk (bsL_21 (bsL_21 hn [23]) [20]) (by show n + 1 + 1 ≤ 10; omega), aRI_mk, aOp_s, bsL_app]
  rfl
theorem m_ask_bad (sa : Nat → Nat) (d : Nat) (h : AH) (co : Nat) {S : ST} {P : PS} (hE : pE S 46 P) (x z : Int32) (hb : (iL x (P 3) && iL z 2) = false) : AMC sa (d + 4) 180 [.ref (co + 40), .int x, .int z] (mk h co S) = some (some (.int (-1000001)), mk h co S) := by
  rw [fX8_ask, eX8_ask_0, gC_40, aOp_s, m_isLetter sa (d + 1) h co hE, aRI_mk, aOp_s]
  cases h1 : iL x (P 3) with
  | false => rw [if_pos bvf]
  | true =>
    rw [h1, Bool.true_and] at hb
    rw [if_neg bvn, m_in, aRI_mk, aOp_s, show decide ((0 : Int32) ≤ z ∧ z ≤ 1) = iL z 2 from rfl, hb, if_pos bvf]
theorem m_ask_ok (sa : Nat → Nat) (d : Nat) (h : AH) (co : Nat) {S : ST} {P : PS} (hE : pE S 46 P) (hB : pB P) {l w : Nat} (hl : l < P 3) (hw : w < 2) : AMC sa (d + 4) 180 [.ref (co + 40), .int (nI l), .int (nI w)] (mk h co S) = some (some (.int (akV P l (P (12 + 4 * l)) w)), mk h co (bsL (sI S 40 21 0) 0 (akL (P (12 + 4 * l)) w))) := by
  have b3 := hB.2.1
  have hk5 := (hB.2.2.2.1 l (by omega)).1
  have hE2 : pE (sI S 40 21 0) 46 P := hE
  have hn : (sI S 40 21 0).1 40 21 = nI 0 := sI_at _ _ _ _
  have hl7 : l < 7 := by omega
  rw [fX8_ask, eX8_ask_0, gC_40, aOp_s, m_isLetter sa (d + 1) h co hE, aRI_mk, aOp_s, iL_nI (by omega) hl, if_neg bvn, m_in, aRI_mk, aOp_s, show decide ((0 : Int32) ≤ nI w ∧ nI w ≤ 1) = iL (nI w) 2 from rfl, iL_nI (by decide) hw, if_neg bvn, gP_40_21, aOp_s, gC_40, aOp_s, m_kindIn sa (d + 2) h co hE2 hl7, aRI_mk, aOp_s, eX8_ask_39, eX8_ask_39, if_pos (show (0 : Int32) = 0 from rfl), if_neg (show ¬ (1 : Int32) = 0 by decide), if_neg (show ¬ (1 : Int32) = 0 by decide), gC_40, aOp_s, m_plainSize sa d h co hE2 hB hl7 rfl hn (by decide), aRI_mk, aOp_s, m_plainMark sa (d + 1) h co hE2 hB hl7 rfl hn (by decide), aRI_mk, aOp_s, aOp_s, m_cardSize sa (d + 1) h co hE2 hB hl7 rfl hn (by decide), aRI_mk, aOp_s, aOp_s, m_cardMark sa d h co hE2 hB hl7 rfl hn (by decide), aRI_mk, aOp_s]
  unfold akV akL
  by_cases h4 : P (12 + 4 * l) < 4
  · rw [if_pos (show nI (P (12 + 4 * l)) < 4 from nI_lt (b := 4) h4 (by decide)), if_pos h4, if_pos h4, if_pos h4, if_pos h4]
    by_cases h0 : w = 0
    · rw [if_pos (show nI w = 0 by rw [h0]; rfl), if_pos h0, if_pos h0]
    · rw [if_neg (nI_ne0 (by omega) (by omega)), if_neg h0, if_neg h0, if_pos rfl]
  · rw [if_neg (show ¬ nI (P (12 + 4 * l)) < 4 from nI_nlt (b := 4) (by omega) (by omega)), if_neg h4, if_neg h4, if_neg h4, if_neg h4]
    by_cases h0 : w = 0
    · rw [if_pos (show nI w = 0 by rw [h0]; rfl), if_pos h0, if_pos h0, aOp_s]
    · rw [if_neg (nI_ne0 (by omega) (by omega)), if_neg h0, if_neg h0]
/-- the trace -/
def tC (S : ST) (c o k : Nat) (t : Nat → Int32) (n : Nat) : Prop := S.1 o k = nI n ∧ n ≤ 16 ∧ ∀ j, j < n → S.2.2 c j = t j
theorem m_trace (sa : Nat → Nat) (d : Nat) (h : AH) (co : Nat) {S : ST} {t : Nat → Int32} {n : Nat} (hT : tC S 52 40 21 t n) (x : Int32) : AMC sa (d + 2) 181 [.ref (co + 40), .int x] (mk h co S) = some (some (.int (cond (iL x n) (t x.toNatClampNeg) (-1000000))), mk h co S) := by
  obtain ⟨h1, h2, h3⟩ := hT
  rw [fX8_trace, eX8_trace_0, gI_40_21, aOp_s, h1, m_in, aRI_mk, aOp_s, show decide ((0 : Int32) ≤ x ∧ x ≤ nI n - 1) = iL x n from rfl]
  cases hb : iL x n with
  | false => rw [if_pos bvf]; rfl
  | true =>
    obtain ⟨k, hk, rfl⟩ := iL_of (by omega) hb
    rw [if_neg bvn, gR_40_20, aOp_s, gL_52 _ _ _ _ (aIn_nI (by omega) (by decide)), aOp_s, nI_clamp (by omega), h3 k hk]
    rfl
def rN (ln : Nat → Nat) : Nat → Nat
  | 0 => 0
  | k + 1 => rN ln k + (if ln k = 3 then 0 else 1)
def cnA (P : PS) (ln : Nat → Nat) (n len : Nat) (x : Int32) : Int32 := if x = 0 then nI (rN ln 8) else if x = 1 then nI (P 2) else if x = 2 then nI (P 3) else if x = 3 then nI (P 4) else if x = 4 then nI (P 0) else if x = 5 then nI (P 1) else if x = 6 then nI (P 5) else if x = 7 then nI (pSn P (P 3)) else if x = 8 then nI n else if x = 9 then nI len else -1000001
theorem m_count (sa : Nat → Nat) (d : Nat) (h : AH) (co : Nat) {S : ST} {P : PS} (hE : pE S 46 P) (hB : pB P) {ln sz : Nat → Nat} {it : Nat → Nat → Int32} (hR : rR S 41 (-1000000) ln sz it) {n len : Nat} (hn : S.1 40 17 = nI n) (hlen : S.1 40 6 = nI len) (x : Int32) : AMC sa (d + 2) 182 [.ref (co + 40), .int x] (mk h co S) = some (some (.int (cnA P ln n len x)), mk h co S) := by
  have loop : ∀ m k, k + m = 8 → AMV sa (d + 1) 182 58 [.ref (co + 40), .int x, .int (nI (rN ln k)), .int (nI k)] [] (mk h co S) = some (some (.int (nI (rN ln 8))), mk h co S) := by
    intro m
    induction m with
    | zero =>
      intro k hk
      have hk : k = 8 := hk
      rw [eX8_count_58, if_pos (show (8 : Int32) ≤ nI k from nI_le (a := 8) (by omega) (by omega)), hk]
    | succ m ih =>
      intro k hk
      have e : rN ln (k + 1) = rN ln k + (if ln k = 3 then 0 else 1) := rfl
      rw [eX8_count_58, if_neg (show ¬ (8 : Int32) ≤ nI k from nI_ge (b := 8) (by omega) (by decide)), gC_40, aOp_s, m_isMissing sa d h co hR (by omega), aRI_mk, aOp_s]
      by_cases h3 : ln k = 3
      · rw [if_pos h3] at e
        rw [decide_eq_true h3, if_neg bvn, eX8_count_78, show (0 : Int32) = nI 0 from rfl, nI_add, nI_1, ← e]
        exact ih (k + 1) (by omega)
      · rw [if_neg h3] at e
        rw [decide_eq_false h3, if_pos bvf, eX8_count_78, nI_1, nI_1, ← e]
        exact ih (k + 1) (by omega)
  have lp := loop 8 0 rfl
  have gg : ∀ j, j < 40 → aIL (mk h co S) (co + 46) (nI j) = some (nI (P j)) := fun j hj => pE_get hE h co hj
  rw [fX8_count, eX8_count_0, show AMV sa (d + 1) 182 58 [.ref (co + 40), .int x, .int 0, .int 0] [] (mk h co S) = _ from lp]
  simp only [gR_40_13, aOp_s]
  rw [show aIL (mk h co S) (co + 46) 2 = some (nI (P 2)) from gg 2 (by decide), show aIL (mk h co S) (co + 46) 3 = some (nI (P 3)) from gg 3 (by decide), show aIL (mk h co S) (co + 46) 4 = some (nI (P 4)) from gg 4 (by decide), show aIL (mk h co S) (co + 46) 0 = some (nI (P 0)) from gg 0 (by decide), show aIL (mk h co S) (co + 46) 1 = some (nI (P 1)) from gg 1 (by decide), show aIL (mk h co S) (co + 46) 5 = some (nI (P 5)) from gg 5 (by decide), m_sentOf sa d h co hE hB, gI_40_17, gI_40_6, hn, hlen]
  simp only [aOp_s, aRI_mk]
  unfold cnA
  by_cases h0 : x = 0
  · rw [if_pos h0, if_pos h0]
  rw [if_neg h0, if_neg h0]
  by_cases h1 : x = 1
  · rw [if_pos h1, if_pos h1]
  rw [if_neg h1, if_neg h1]
  by_cases h2 : x = 2
  · rw [if_pos h2, if_pos h2]
  rw [if_neg h2, if_neg h2]
  by_cases h3 : x = 3
  · rw [if_pos h3, if_pos h3]
  rw [if_neg h3, if_neg h3]
  by_cases h4 : x = 4
  · rw [if_pos h4, if_pos h4]
  rw [if_neg h4, if_neg h4]
  by_cases h5 : x = 5
  · rw [if_pos h5, if_pos h5]
  rw [if_neg h5, if_neg h5]
  by_cases h6 : x = 6
  · rw [if_pos h6, if_pos h6]
  rw [if_neg h6, if_neg h6]
  by_cases h7 : x = 7
  · rw [if_pos h7, if_pos h7]
  rw [if_neg h7, if_neg h7]
  by_cases h8 : x = 8
  · rw [if_pos h8, if_pos h8]
  rw [if_neg h8, if_neg h8]
  by_cases h9 : x = 9
  · rw [if_pos h9, if_pos h9]
  rw [if_neg h9, if_neg h9]
