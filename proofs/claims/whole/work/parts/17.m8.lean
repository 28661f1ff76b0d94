/-! ===== the reference: days, lighten, guess ===== -/
def fM (S S' : ST) : Prop := S'.2.1 = S.2.1 ∧ (∀ c, c ≠ 46 → c ≠ 49 → S'.2.2 c = S.2.2 c) ∧ (∀ c k, ¬ (c = 40 ∧ k = 17) → S'.1 c k = S.1 c k)
theorem fM_refl (S : ST) : fM S S := ⟨rfl, fun _ _ _ => rfl, fun _ _ _ => rfl⟩
theorem fM_trans {S S' S'' : ST} (h1 : fM S S') (h2 : fM S' S'') : fM S S'' := ⟨h2.1.trans h1.1, fun c a b => (h2.2.1 c a b).trans (h1.2.1 c a b), fun c k a => (h2.2.2 c k a).trans (h1.2.2 c k a)⟩
theorem fM_nt (S : ST) (n : Nat) (Q : PS) : fM S (sM (nt S n) 46 Q) := by
  refine ⟨rfl, fun c h1 h2 => ?_, fun c k hk => ?_⟩
  · show (if c = 46 then _ else (if c = 49 then _ else S.2.2 c)) = _
    rw [if_neg h1, if_neg h2]
  · show (if c = 40 ∧ k = 17 then _ else S.1 c k) = _
    rw [if_neg hk]
abbrev DY : Type := PS × (Nat → PS) × Nat
def dyS (Z : DY) : DY := (pDay Z.1, ntP Z.2.1 Z.2.2 Z.1, ntA Z.2.2 + 1)
def dyR (Z : DY) : Nat → DY
  | 0 => Z
  | m + 1 => dyR (dyS Z) m
theorem aP_sM46 {S : ST} {A : Nat → PS} {n : Nat} (hA : aP S A n) (Q : PS) : aP (sM S 46 Q) A n := ⟨hA.1, hA.2.1, fun k hk j hj => hA.2.2 k hk j hj⟩
theorem m_days_loop (sa : Nat → Nat) (d : Nat) (h : AH) (co N : Nat) (hN : N < 100) : ∀ m k S P A n, k + m = N → pE S 46 P → pB P → aP S A n → P 4 + m ≤ 100000 → ∃ S', AMV sa (d + 5) 146 42 [.ref (co + 40), .int (nI N), .int (nI k)] [] (mk h co S) = some (some (.int (nI (pSn (dyR (P, A, n) m).1 ((dyR (P, A, n) m).1 3)))), mk h co S') ∧ pE S' 46 (dyR (P, A, n) m).1 ∧ aP S' (dyR (P, A, n) m).2.1 (dyR (P, A, n) m).2.2 ∧ fM S S' := by
  intro m
  induction m with
  | zero =>
    intro k S P A n hk hE hB hA h4
    have hk : k = N := hk
    refine ⟨S, ?_, hE, hA, fM_refl S⟩
    rw [eX8_days_42, if_pos (nI_le (by omega) (by omega)), gR_40_13, aOp_s, m_sentOf sa (d + 4) h co hE hB, aRI_mk, aOp_s]
    rfl
  | succ m ih =>
    intro k S P A n hk hE hB hA h4
    have hE2 := pE_nt hE n
    obtain ⟨S', h1, h2, h3, h5⟩ := ih (k + 1) (sM (nt S n) 46 (pDay P)) (pDay P) (ntP A n P) (ntA n + 1) (by omega) (pE_sM hE.1 _) (pB_day hB (by omega)) (aP_sM46 (aP_nt hA hE) _) (by rw [pDay_4]; omega)
    refine ⟨S', ?_, h2, h3, fM_trans (fM_nt S n _) h5⟩
    rw [eX8_days_42, if_neg (nI_ge (by omega) (by omega)), gC_40, aOp_s, m_notes sa (d + 3) h co hA.1 hA.2.1, aRV_mk, aOp_s, gR_40_13, aOp_s, m_passes sa d h co hE2 hB, aRV_mk, aOp_s, nI_1]
    exact h1
def iB (x : Int32) (lo hi : Int32) : Bool := decide (lo ≤ x ∧ x ≤ hi)
theorem m_days_no (sa : Nat → Nat) (d : Nat) (h : AH) (co : Nat) {S : ST} {P : PS} (hE : pE S 46 P) (hB : pB P) (x : Int32) (hz : P 3 = 0) : AMC sa (d + 6) 146 [.ref (co + 40), .int x] (mk h co S) = some (some (.int (-1000002)), mk h co S) := by
  rw [fX8_days, eX8_days_0, gC_40, aOp_s, m_isPost sa (d + 4) h co hE hB, aRI_mk, aOp_s, show decide (0 < P 3) = false from decide_eq_false (by omega), if_pos bvf]
theorem m_days_bad (sa : Nat → Nat) (d : Nat) (h : AH) (co : Nat) {S : ST} {P : PS} (hE : pE S 46 P) (hB : pB P) (x : Int32) (hz : 0 < P 3) (hb : iB x 1 24 = false) : AMC sa (d + 6) 146 [.ref (co + 40), .int x] (mk h co S) = some (some (.int (-1000001)), mk h co S) := by
  rw [fX8_days, eX8_days_0, gC_40, aOp_s, m_isPost sa (d + 4) h co hE hB, aRI_mk, aOp_s, show decide (0 < P 3) = true from decide_eq_true hz, if_neg bvn, m_in, aRI_mk, aOp_s, show decide ((1 : Int32) ≤ x ∧ x ≤ 24) = iB x 1 24 from rfl, hb, if_pos bvf]
theorem iB_nI {x lo hi : Nat} (h1 : lo ≤ x) (h2 : x ≤ hi) (h : hi < 2 ^ 31) : iB (nI x) (nI lo) (nI hi) = true := decide_eq_true ⟨nI_le h1 (by omega), nI_le h2 (by omega)⟩
theorem iB_of {x : Int32} {lo hi : Nat} (hh : hi < 2 ^ 31) (hl : lo < 2 ^ 31) (h : iB x (nI lo) (nI hi) = true) : ∃ k, lo ≤ k ∧ k ≤ hi ∧ x = nI k := by
  obtain ⟨h1, h2⟩ := of_decide_eq_true h
  have h0 : ¬ x < 0 := by
    intro z
    have a := Int32.le_iff_toInt_le.mp h1
    rw [nI_toInt hl] at a
    have b := Int32.lt_iff_toInt_lt.mp z
    have c : (0 : Int32).toInt = 0 := by decide
    omega
  obtain ⟨j, hj, rfl⟩ := nI_of h0
  exact ⟨j, (nI_leI hl hj).mp h1, (nI_leI hj hh).mp h2, rfl⟩
theorem m_days_full (sa : Nat → Nat) (d : Nat) (h : AH) (co : Nat) {S : ST} {P : PS} (hE : pE S 46 P) (hB : pB P) {x : Nat} (hz : 0 < P 3) (h1 : 1 ≤ x) (h2 : x ≤ 24) (hf : 9999 < P 4 + x) : AMC sa (d + 6) 146 [.ref (co + 40), .int (nI x)] (mk h co S) = some (some (.int (-1000003)), mk h co S) := by
  have h4 : P 4 ≤ 100000 := hB.2.2.2.2.2.2.1
  rw [fX8_days, eX8_days_0, gC_40, aOp_s, m_isPost sa (d + 4) h co hE hB, aRI_mk, aOp_s, show decide (0 < P 3) = true from decide_eq_true hz, if_neg bvn, m_in, aRI_mk, aOp_s, show decide ((1 : Int32) ≤ nI x ∧ nI x ≤ 24) = true from iB_nI h1 h2 (by decide), if_neg bvn, gR_40_13, aOp_s, show aIL (mk h co S) (co + 46) 4 = some (nI (P 4)) from pE_get hE h co (j := 4) (by decide), aOp_s, nI_add, if_neg (show ¬ nI (P 4 + x) ≤ 9999 from fun z => by have := (nI_leI (b := 9999) (by omega) (by decide)).mp z; omega)]
theorem m_days_ok (sa : Nat → Nat) (d : Nat) (h : AH) (co : Nat) {S : ST} {P : PS} {A : Nat → PS} {n : Nat} (hE : pE S 46 P) (hB : pB P) (hA : aP S A n) {x : Nat} (hz : 0 < P 3) (h1 : 1 ≤ x) (h2 : x ≤ 24) (hf : P 4 + x ≤ 9999) : ∃ S', AMC sa (d + 6) 146 [.ref (co + 40), .int (nI x)] (mk h co S) = some (some (.int (nI (pSn (dyR (P, A, n) x).1 ((dyR (P, A, n) x).1 3)))), mk h co S') ∧ pE S' 46 (dyR (P, A, n) x).1 ∧ aP S' (dyR (P, A, n) x).2.1 (dyR (P, A, n) x).2.2 ∧ fM S S' := by
  obtain ⟨S', h3, h4, h5, h6⟩ := m_days_loop sa d h co x (by omega) x 0 S P A n (by omega) hE hB hA (by omega)
  refine ⟨S', ?_, h4, h5, h6⟩
  rw [fX8_days, eX8_days_0, gC_40, aOp_s, m_isPost sa (d + 4) h co hE hB, aRI_mk, aOp_s, show decide (0 < P 3) = true from decide_eq_true hz, if_neg bvn, m_in, aRI_mk, aOp_s, show decide ((1 : Int32) ≤ nI x ∧ nI x ≤ 24) = true from iB_nI h1 h2 (by decide), if_neg bvn, gR_40_13, aOp_s, show aIL (mk h co S) (co + 46) 4 = some (nI (P 4)) from pE_get hE h co (j := 4) (by decide), aOp_s, nI_add, if_pos (show nI (P 4 + x) ≤ 9999 from nI_le (b := 9999) (by omega) (by decide))]
  exact h3
theorem pE_sA48 {S : ST} {P : PS} (hE : pE S 46 P) (f : Nat → Int32) : pE (sA S 48 f) 46 P := ⟨hE.1, fun j hj => hE.2 j hj⟩
def sM8 (S : ST) (f : Nat → Int32) (P : PS) : Nat → Int32 := fun j => if j < 40 then nI (P j) else f j
theorem sM_48 (S : ST) (f : Nat → Int32) (P : PS) : sM (sA S 48 f) 48 P = sA S 48 (sM8 S f P) := by
  unfold sM
  rw [sA_sA, sA_at]
  rfl
def pSay (P : PS) (l set : Nat) : PS := pUp P (14 + 4 * l) (P (14 + 4 * l) ||| set)
def pFw (b : Option Nat) (n : Nat) : Bool := match b with
  | none => true
  | some m => decide (pC n < pC m)
def pLi (P : PS) (l w : Nat) : Nat → Option Nat
  | 0 => none
  | n + 1 => if (n &&& (63 ^^^ pU P l) = 0 ∧ pFw (pLi P l w n) n = true) ∧ pW (pSay P l n) l ≤ w then some n else pLi P l w n
theorem pLi_lt (P : PS) (l w : Nat) : ∀ n b, pLi P l w n = some b → b < n
  | 0, b, h => by cases h
  | n + 1, b, h => by
    simp only [pLi] at h
    split at h
    · cases h; omega
    · have := pLi_lt P l w n b h; omega
def liA (b : Option Nat) (what : Nat) : Int32 := match b with
  | none => -1000000
  | some b => if what = 1 then nI b else nI (pC b)
theorem pC_le : ∀ s, s < 128 → pC s ≤ 7 := by decide +kernel
theorem n_z64 {a : Nat} (h : a < 2 ^ 31) : nI a = 0 ↔ a = 0 := nI_eq (b := 0) h (by decide)
theorem m_lighten_loop (sa : Nat → Nat) (d : Nat) (h : AH) (co : Nat) {S : ST} {P : PS} (hE : pE S 46 P) (hB : pB P) {l w what : Nat} (hl : l < P 3) (hw : w < 100) (hq : what < 2) : ∀ m k f x7, k + m = pU P l + 1 → ∃ f', AMV sa (d + 3) 160 47 [.ref (co + 40), .int (nI l), .int (nI w), .int (nI what), .int (nI (pU P l)), .int (bI (pLi P l w k)), .int (nI k), x7] [] (mk h co (sA S 48 f)) = some (some (.int (liA (pLi P l w (pU P l + 1)) what)), mk h co (sA S 48 f')) := by
  have b3 := hB.2.1
  have hu := pU_lt hB (l := l) (by omega)
  have hsd := (hB.2.2.2.1 l (by omega)).2.2.1
  intro m
  induction m with
  | zero =>
    intro k f x7 hk
    have hk : k = pU P l + 1 := hk
    refine ⟨f, ?_⟩
    rw [eX8_lighten_47, if_pos (nI_lt (by omega) (by omega)), hk]
    cases e : pLi P l w (pU P l + 1) with
    | none => rw [if_pos (show bI none = -1000000 from rfl)]; rfl
    | some b =>
      have hb := pLi_lt P l w _ _ e
      rw [if_neg (show ¬ bI (some b) = -1000000 from n_neN (by omega)), show bI (some b) = nI b from rfl]
      unfold liA
      by_cases h1 : what = 1
      · rw [if_pos (show nI what = 1 by rw [h1]; rfl)]
        show _ = some (some (Value.int (if what = 1 then nI b else nI (pC b))), _)
        rw [if_pos h1]
      · rw [if_neg (show ¬ nI what = 1 from fun z => h1 ((nI_eq (b := 1) (by omega) (by decide)).mp z)), m_ones sa (d + 2) (by omega), aRI_mk, aOp_s]
        show _ = some (some (Value.int (if what = 1 then nI b else nI (pC b))), _)
        rw [if_neg h1]
  | succ m ih =>
    intro k f x7 hk
    rw [eX8_lighten_47, if_neg (nI_nlt (by omega) (by omega)), n_andn _ (by omega) _ hu]
    have hnx : (k &&& (63 ^^^ pU P l)) < 64 := (n_lt64 k (by omega) _ hu).2.2
    by_cases hs : k &&& (63 ^^^ pU P l) = 0
    · have hB2 : pB (pSay P l k) := pB_said hB l (n_or64 _ hsd _ (by omega))
      have hE3 : pE (sM (sA S 48 f) 48 P) 48 P := pE_sM (Or.inr (Or.inr rfl)) P
      have e1 : sM (sM (sA S 48 f) 48 P) 48 (pSay P l k) = sA S 48 (sM8 S f (pSay P l k)) := by rw [sM_sM, sM_48]
      have hE4 : pE (sA S 48 (sM8 S f (pSay P l k))) 48 (pSay P l k) := by rw [← sM_48]; exact pE_sM (Or.inr (Or.inr rfl)) _
      rw [if_pos (show nI (k &&& (63 ^^^ pU P l)) = 0 by rw [hs]; rfl), gR_40_13, aOp_s, gR_40_15, aOp_s, m_tried sa (d + 2) h co (pE_sA48 hE f), aRV_mk, aOp_s, gR_40_15, aOp_s, ix2, pE_get hE3 h co (by omega), aOp_s, n_or _ (by omega) _ (by omega), pE_set hE3 h co (by omega), aOp_s, show pUp P (14 + 4 * l) (P (14 + 4 * l) ||| k) = pSay P l k from rfl, e1]
      have fin : ∀ s0 : Bool, s0 = pFw (pLi P l w k) k → ∃ f', AMV sa (d + 3) 160 120 [.ref (co + 40), .int (nI l), .int (nI w), .int (nI what), .int (nI (pU P l)), .int (bI (pLi P l w k)), .int (nI k), x7] [.int (bv s0)] (mk h co (sA S 48 (sM8 S f (pSay P l k)))) = some (some (.int (liA (pLi P l w (pU P l + 1)) what)), mk h co (sA S 48 f')) := by
        intro s0 hs0
        rw [eX8_lighten_120]
        cases s0 with
        | false =>
          have e2 : pLi P l w (k + 1) = pLi P l w k := if_neg (fun z => by rw [← hs0] at z; cases z.1.2)
          have := ih (k + 1) (sM8 S f (pSay P l k)) (.int (bv false)) (by omega)
          rw [e2] at this
          rw [if_pos bvf, eX8_lighten_146, nI_1]
          exact this
        | true =>
          have hw2 : pW (pSay P l k) l ≤ 108 := pWB_le hB2 l _
          rw [if_neg bvn, gR_40_15, aOp_s, m_weight sa d h co hE4 hB2 (by omega), aRI_mk, aOp_s]
          by_cases hc : pW (pSay P l k) l ≤ w
          · have e2 : pLi P l w (k + 1) = some k := if_pos ⟨⟨hs, hs0.symm⟩, hc⟩
            have := ih (k + 1) (sM8 S f (pSay P l k)) (.int (bv true)) (by omega)
            rw [e2] at this
            rw [if_neg (nI_nlt hc (by omega)), eX8_lighten_146, nI_1]
            exact this
          · have e2 : pLi P l w (k + 1) = pLi P l w k := if_neg (fun z => hc z.2)
            have := ih (k + 1) (sM8 S f (pSay P l k)) (.int (bv true)) (by omega)
            rw [e2] at this
            rw [if_pos (nI_lt (by omega) (by omega)), eX8_lighten_146, nI_1]
            exact this
      cases e : pLi P l w k with
      | none =>
        rw [e] at fin
        rw [if_pos (show bI none = -1000000 from rfl)]
        exact fin true rfl
      | some b =>
        have hb := pLi_lt P l w _ _ e
        rw [e] at fin
        have c1 := pC_le k (by omega)
        have c2 := pC_le b (by omega)
        rw [if_neg (show ¬ bI (some b) = -1000000 from n_neN (by omega)), m_ones sa (d + 2) (by omega), aRI_mk, aOp_s, show bI (some b) = nI b from rfl, m_ones sa (d + 2) (by omega), aRI_mk, aOp_s]
        by_cases hc : pC b ≤ pC k
        · rw [if_pos (nI_le hc (by omega))]
          exact fin false (decide_eq_false (by omega)).symm
        · rw [if_neg (nI_ge (by omega) (by omega))]
          exact fin true (decide_eq_true (by omega)).symm
    · have e2 : pLi P l w (k + 1) = pLi P l w k := if_neg (fun z => hs z.1.1)
      have := ih (k + 1) f x7 (by omega)
      rw [e2] at this
      rw [if_neg (nI_ne0 (by omega) (by omega)), nI_1]
      exact this
theorem m_lighten_ok (sa : Nat → Nat) (d : Nat) (h : AH) (co : Nat) {S : ST} {P : PS} (hE : pE S 46 P) (hB : pB P) {l w what : Nat} (hl : l < P 3) (hw : w < 100) (hq : what < 2) : ∃ f', AMC sa (d + 4) 160 [.ref (co + 40), .int (nI l), .int (nI w), .int (nI what)] (mk h co S) = some (some (.int (liA (pLi P l w (pU P l + 1)) what)), mk h co (sA S 48 f')) := by
  have b3 := hB.2.1
  obtain ⟨f', hf⟩ := m_lighten_loop sa d h co hE hB hl hw hq (pU P l + 1) 0 (S.2.2 48) .null (by omega)
  rw [sA_self] at hf
  refine ⟨f', ?_⟩
  rw [fX8_lighten, eX8_lighten_0, gC_40, aOp_s, m_isLetter sa (d + 1) h co hE, aRI_mk, aOp_s, iL_nI (by omega) hl, if_neg bvn, m_in, aRI_mk, aOp_s, show decide ((0 : Int32) ≤ nI w ∧ nI w ≤ 99) = iL (nI w) 100 from rfl, iL_nI (by decide) hw, if_neg bvn, m_in, aRI_mk, aOp_s, show decide ((0 : Int32) ≤ nI what ∧ nI what ≤ 1) = iL (nI what) 2 from rfl, iL_nI (by decide) hq, if_neg bvn, gR_40_13, aOp_s, m_unsaid sa (d + 2) h co hE hB (by omega), aRI_mk, aOp_s]
  exact hf
theorem m_lighten_bad (sa : Nat → Nat) (d : Nat) (h : AH) (co : Nat) {S : ST} {P : PS} (hE : pE S 46 P) (x y z : Int32) (hb : (iL x (P 3) && (iL y 100 && iL z 2)) = false) : AMC sa (d + 4) 160 [.ref (co + 40), .int x, .int y, .int z] (mk h co S) = some (some (.int (-1000001)), mk h co S) := by
  rw [fX8_lighten, eX8_lighten_0, gC_40, aOp_s, m_isLetter sa (d + 1) h co hE, aRI_mk, aOp_s]
  cases h1 : iL x (P 3) with
  | false => rw [if_pos bvf]
  | true =>
    rw [h1, Bool.true_and] at hb
    rw [if_neg bvn, m_in, aRI_mk, aOp_s, show decide ((0 : Int32) ≤ y ∧ y ≤ 99) = iL y 100 from rfl]
    cases h2 : iL y 100 with
    | false => rw [if_pos bvf]
    | true =>
      rw [h2, Bool.true_and] at hb
      rw [if_neg bvn, m_in, aRI_mk, aOp_s, show decide ((0 : Int32) ≤ z ∧ z ≤ 1) = iL z 2 from rfl, hb, if_pos bvf]
theorem n_and : ∀ a, a < 128 → ∀ b, b < 128 → nI a &&& nI b = nI (a &&& b) := by decide +kernel
def gM (P : PS) (l n : Nat) : Bool := decide (n &&& P (14 + 4 * l) = 0) && decide (pWB P l n = pW P l)
def pAll (P : PS) : Nat := 2 ^ P 2 - 1
def gN (P : PS) (l : Nat) : Nat → Nat
  | 0 => 0
  | n + 1 => gN P l n + cond (gM P l n) 1 0
def gI (P : PS) (l : Nat) : Nat → Nat
  | 0 => pAll P
  | n + 1 => gI P l n &&& cond (gM P l n) n (pAll P)
theorem gN_le (P : PS) (l : Nat) : ∀ n, gN P l n ≤ n
  | 0 => Nat.le_refl _
  | n + 1 => by
    have := gN_le P l n
    simp only [gN]
    cases gM P l n <;> simp <;> omega
theorem gI_le (P : PS) (l : Nat) : ∀ n, gI P l n ≤ pAll P
  | 0 => Nat.le_refl _
  | n + 1 => Nat.le_trans Nat.and_le_left (gI_le P l n)
theorem pAll_lt {P : PS} (hB : pB P) : pAll P < 64 := (show ∀ k, k ≤ 6 → 2 ^ k - 1 < 64 by decide) _ hB.1
theorem m_guess_loop (sa : Nat → Nat) (d : Nat) (h : AH) (co : Nat) {S : ST} {P : PS} (hE : pE S 46 P) (hB : pB P) {l what : Nat} (hl : l < P 3) (hq : what < 2) : ∀ m k x7, k + m = pAll P + 1 → AMV sa (d + 3) 161 40 [.ref (co + 40), .int (nI l), .int (nI what), .int (nI (pAll P)), .int (nI (gI P l k)), .int (nI (gN P l k)), .int (nI k), x7] [] (mk h co S) = some (some (.int (nI (if what = 0 then gN P l (pAll P + 1) else gI P l (pAll P + 1)))), mk h co S) := by
  have b3 := hB.2.1
  have hu := pU_lt hB (l := l) (by omega)
  have hal := pAll_lt hB
  have hsd := (hB.2.2.2.1 l (by omega)).2.2.1
  intro m
  induction m with
  | zero =>
    intro k x7 hk
    have hk : k = pAll P + 1 := hk
    rw [eX8_guess_40, if_pos (nI_lt (by omega) (by omega)), hk]
    by_cases h1 : what = 0
    · rw [if_pos (show nI what = 0 by rw [h1]; rfl), if_pos h1]
    · rw [if_neg (nI_ne0 (by omega) (by omega)), if_neg h1]
  | succ m ih =>
    intro k x7 hk
    have hgI := gI_le P l k
    rw [eX8_guess_40, if_neg (nI_nlt (by omega) (by omega)), gR_40_13, aOp_s, ix2, pE_get hE h co (by omega), aOp_s, n_and _ (by omega) _ (by omega)]
    have fin : ∀ s0 : Bool, s0 = gM P l k → AMV sa (d + 3) 161 91 [.ref (co + 40), .int (nI l), .int (nI what), .int (nI (pAll P)), .int (nI (gI P l k)), .int (nI (gN P l k)), .int (nI k), x7] [.int (bv s0)] (mk h co S) = some (some (.int (nI (if what = 0 then gN P l (pAll P + 1) else gI P l (pAll P + 1)))), mk h co S) := by
      intro s0 hs0
      have e1 : gI P l (k + 1) = gI P l k &&& cond s0 k (pAll P) := by rw [hs0]; rfl
      have e2 : gN P l (k + 1) = gN P l k + cond s0 1 0 := by rw [hs0]; rfl
      have := ih (k + 1) (.int (bv s0)) (by omega)
      rw [e1, e2] at this
      rw [eX8_guess_91]
      cases s0 with
      | false =>
        rw [if_pos bvf, eX8_guess_106, if_pos bvf, eX8_guess_121, n_and _ (by omega) _ (by omega), show (0 : Int32) = nI 0 from rfl, nI_add, nI_1]
        exact this
      | true =>
        rw [if_neg bvn, eX8_guess_106, if_neg bvn, eX8_guess_121, n_and _ (by omega) _ (by omega), nI_1, nI_1]
        exact this
    have hk0 : (k &&& P (14 + 4 * l)) ≤ k := Nat.and_le_left
    by_cases hz : k &&& P (14 + 4 * l) = 0
    · have hw1 := pWB_le hB l k
      have hw2 : pW P l ≤ 108 := pWB_le hB l _
      rw [if_pos (show nI (k &&& P (14 + 4 * l)) = 0 by rw [hz]; rfl), aOp_s, m_weightBy sa (d + 1) h co hE hB (by omega) (by omega), aRI_mk, aOp_s, gR_40_13, aOp_s, m_weight sa d h co hE hB (by omega), aRI_mk, aOp_s]
      by_cases hc : pWB P l k = pW P l
      · rw [if_pos (by rw [hc])]
        exact fin true (by unfold gM; rw [decide_eq_true hz, decide_eq_true hc]; rfl)
      · rw [if_neg (fun z => hc ((nI_eq (by omega) (by omega)).mp z))]
        exact fin false (by unfold gM; rw [decide_eq_true hz, decide_eq_false hc]; rfl)
    · rw [if_neg (nI_ne0 (by omega) (by omega))]
      exact fin false (by unfold gM; rw [decide_eq_false hz]; rfl)
theorem m_guess_ok (sa : Nat → Nat) (d : Nat) (h : AH) (co : Nat) {S : ST} {P : PS} (hE : pE S 46 P) (hB : pB P) {l what : Nat} (hl : l < P 3) (hq : what < 2) : AMC sa (d + 4) 161 [.ref (co + 40), .int (nI l), .int (nI what)] (mk h co S) = some (some (.int (nI (if what = 0 then gN P l (pAll P + 1) else gI P l (pAll P + 1)))), mk h co S) := by
  have b3 := hB.2.1
  have b2 := hB.1
  rw [fX8_guess, eX8_guess_0, gC_40, aOp_s, m_isLetter sa (d + 1) h co hE, aRI_mk, aOp_s, iL_nI (by omega) hl, if_neg bvn, m_in, aRI_mk, aOp_s, show decide ((0 : Int32) ≤ nI what ∧ nI what ≤ 1) = iL (nI what) 2 from rfl, iL_nI (by decide) hq, if_neg bvn, gR_40_13, aOp_s, show aIL (mk h co S) (co + 46) 2 = some (nI (P 2)) from pE_get hE h co (j := 2) (by decide), aOp_s, n_shl1 _ (by omega), show (1 : Int32) = nI 1 from rfl, pk_sub Nat.one_le_two_pow]
  exact m_guess_loop sa d h co hE hB hl hq (pAll P + 1) 0 .null (by omega)
theorem m_guess_bad (sa : Nat → Nat) (d : Nat) (h : AH) (co : Nat) {S : ST} {P : PS} (hE : pE S 46 P) (x z : Int32) (hb : (iL x (P 3) && iL z 2) = false) : AMC sa (d + 4) 161 [.ref (co + 40), .int x, .int z] (mk h co S) = some (some (.int (-1000001)), mk h co S) := by
  rw [fX8_guess, eX8_guess_0, gC_40, aOp_s, m_isLetter sa (d + 1) h co hE, aRI_mk, aOp_s]
  cases h1 : iL x (P 3) with
  | false => rw [if_pos bvf]
  | true =>
    rw [h1, Bool.true_and] at hb
    rw [if_neg bvn, m_in, aRI_mk, aOp_s, show decide ((0 : Int32) ≤ z ∧ z ≤ 1) = iL z 2 from rfl, hb, if_pos bvf]
