/-! ===== the tape as tokens, and the reference's reading of it ===== -/
def dg (T : Nat → Nat) (n p : Nat) : Bool := decide (p < n) && (decide (48 ≤ T p) && decide (T p ≤ 57))
def bB (T : Nat → Nat) (n p : Nat) : Int32 := if p < n then nI (T p) else -1
def nf (T : Nat → Nat) (n p : Nat) : Nat := cond (dg T n p) (cond (dg T n (p + 1)) (cond (dg T n (p + 2)) 3 2) 1) 0
def nv (T : Nat → Nat) (n p : Nat) : Nat := cond (dg T n (p + 1)) (10 * (T p - 48) + (T (p + 1) - 48)) (T p - 48)
def tkT (T : Nat → Nat) (n p : Nat) : Nat := if p < n then (cond (dg T n p) (if nf T n p < 3 then 2 else 5) (if 97 ≤ T p ∧ T p ≤ 122 then 1 else if T p = 44 then 3 else if T p = 59 then 4 else 5)) else 0
def tkV (T : Nat → Nat) (n p : Nat) : Int32 := if p < n then (cond (dg T n p) (nI (nv T n p)) (nI (T p))) else -1
def tkE (T : Nat → Nat) (n p : Nat) : Nat := cond (dg T n p) (p + nf T n p) (p + 1)
def fP (S S' : ST) : Prop := S'.2.1 = S.2.1 ∧ (∀ c, c ≠ 47 → S'.2.2 c = S.2.2 c) ∧ (∀ c k, ¬ (c = 40 ∧ 7 ≤ k ∧ k ≤ 12) → S'.1 c k = S.1 c k)
theorem fP_refl (S : ST) : fP S S := ⟨rfl, fun _ _ => rfl, fun _ _ _ => rfl⟩
theorem fP_trans {S S' S'' : ST} (h1 : fP S S') (h2 : fP S' S'') : fP S S'' := ⟨h2.1.trans h1.1, fun c a => (h2.2.1 c a).trans (h1.2.1 c a), fun c k a => (h2.2.2 c k a).trans (h1.2.2 c k a)⟩
theorem fP_sI (S : ST) {k : Nat} (x : Int32) (h1 : 7 ≤ k) (h2 : k ≤ 12) : fP S (sI S 40 k x) := ⟨rfl, fun _ _ => rfl, fun c j hj => sI_ne _ _ (fun z => hj ⟨z.1, by omega, by omega⟩)⟩
theorem fP_sM (S : ST) (Q : PS) : fP S (sM S 47 Q) := ⟨rfl, fun _ hc => sA_ne _ _ _ hc, fun _ _ _ => rfl⟩
theorem tT_fP {S S' : ST} {T : Nat → Nat} {n : Nat} (hT : tT S 45 40 6 T n) (hf : fP S S') : tT S' 45 40 6 T n := ⟨(hf.2.2 40 6 (by omega)).trans hT.1, hT.2.1, fun j hj => by rw [hf.2.1 45 (by decide)]; exact hT.2.2 j hj⟩
/-- the token that begins at p -/
def tkR (S : ST) (T : Nat → Nat) (n p : Nat) : Prop := p ≤ n ∧ S.1 40 10 = nI p ∧ S.1 40 11 = nI (tkT T n p) ∧ S.1 40 12 = tkV T n p ∧ (1 ≤ tkT T n p → tkT T n p ≤ 4 → S.1 40 9 = nI (tkE T n p) ∧ tkE T n p ≤ n)
theorem m_byteAt (sa : Nat → Nat) (d : Nat) (h : AH) (co : Nat) {S : ST} {T : Nat → Nat} {n : Nat} (hT : tT S 45 40 6 T n) {a : Nat} (ha : a < 1000) : AMC sa (d + 1) 122 [.ref (co + 40), .int (nI a)] (mk h co S) = some (some (.int (bB T n a)), mk h co S) := by
  have hn := hT.2.1
  rw [fX8_byteAt, eX8_byteAt_0, gI_40_6, aOp_s, hT.1]
  unfold bB
  by_cases hc : a < n
  · rw [if_neg (nI_ge hc (by omega)), if_pos hc, gR_40_5, aOp_s, gL_45 _ _ _ _ (aIn_nI (by omega) (by decide)), aOp_s, nI_clamp (by omega), (hT.2.2 a hc).1]
  · rw [if_pos (nI_le (by omega) (by omega)), if_neg hc]
theorem bB_dg {S : ST} {T : Nat → Nat} {n : Nat} (hT : tT S 45 40 6 T n) (a : Nat) : decide ((48 : Int32) ≤ bB T n a ∧ bB T n a ≤ 57) = dg T n a := by
  unfold bB dg
  by_cases hc : a < n
  · have hb := (hT.2.2 a hc).2
    rw [if_pos hc, decide_eq_true hc, Bool.true_and, show (48 : Int32) = nI 48 from rfl, show (57 : Int32) = nI 57 from rfl, ← Bool.decide_and]
    exact decide_eq_decide.mpr (and_congr (nI_leI (by decide) (by omega)) (nI_leI (by omega) (by decide)))
  · rw [if_neg hc, decide_eq_false hc, Bool.false_and]
    rfl
theorem dg_lt {T : Nat → Nat} {n p : Nat} (h : dg T n p = true) : p < n ∧ 48 ≤ T p ∧ T p ≤ 57 := by
  unfold dg at h
  simp only [Bool.and_eq_true, decide_eq_true_eq] at h
  exact h
def vl (T : Nat → Nat) (p j : Nat) : Nat := if j = 0 then 0 else if j = 1 then T p - 48 else 10 * (T p - 48) + (T (p + 1) - 48)
theorem nf_run {T : Nat → Nat} {n p r : Nat} (h : ∀ i, i < r → dg T n (p + i) = true) (h2 : dg T n (p + r) = false) (h0 : 1 ≤ r) : (nf T n p < 3 ↔ r < 3) ∧ (r < 3 → nf T n p = r) ∧ nv T n p = vl T p r := by
  have d0 : dg T n p = true := h 0 (by omega)
  unfold nf nv vl
  rw [d0]
  by_cases r1 : r = 1
  · subst r1
    rw [h2]
    simp
  · have d1 : dg T n (p + 1) = true := h 1 (by omega)
    rw [d1]
    by_cases r2 : r = 2
    · subst r2
      rw [h2]
      simp
    · have d2 : dg T n (p + 2) = true := h 2 (by omega)
      rw [d2]
      simp only [cond_true]
      refine ⟨by omega, by omega, ?_⟩
      rw [if_neg (by omega), if_neg r1]
theorem m_adv_loop (sa : Nat → Nat) (d : Nat) (h : AH) (co : Nat) {T : Nat → Nat} {n p : Nat} (x1 : Int32) : ∀ m j S, p + j + m = n → tT S 45 40 6 T n → (∀ i, i < j → dg T n (p + i) = true) → dg T n p = true → S.1 40 9 = nI (p + j) → S.1 40 10 = nI p → S.1 40 12 = nI (vl T p j) → ∃ S', AMV sa (d + 1) 123 38 [.ref (co + 40), .int x1] [] (mk h co S) = some (none, mk h co S') ∧ tkR S' T n p ∧ fP S S' ∧ S'.1 40 7 = S.1 40 7 ∧ S'.1 40 8 = S.1 40 8 ∧ S'.2.2 47 = S.2.2 47 := by
  have done : ∀ j S, p + j ≤ n → tT S 45 40 6 T n → (∀ i, i < j → dg T n (p + i) = true) → dg T n (p + j) = false → dg T n p = true → S.1 40 9 = nI (p + j) → S.1 40 10 = nI p → S.1 40 12 = nI (vl T p j) → ∃ S', AMV sa (d + 1) 123 38 [.ref (co + 40), .int x1] [] (mk h co S) = some (none, mk h co S') ∧ tkR S' T n p ∧ fP S S' ∧ S'.1 40 7 = S.1 40 7 ∧ S'.1 40 8 = S.1 40 8 ∧ S'.2.2 47 = S.2.2 47 := by
    intro j S hj hT hd hnd hdp h9 h10 h12
    have hn := hT.2.1
    have hpn := (dg_lt hdp).1
    have j1 : 1 ≤ j := by
      rcases Nat.eq_zero_or_pos j with e | e
      · rw [e, Nat.add_zero, hdp] at hnd; cases hnd
      · exact e
    obtain ⟨r1, r2, r3⟩ := nf_run hd hnd j1
    have etv : tkV T n p = nI (vl T p j) := by unfold tkV; rw [if_pos hpn, hdp, cond_true, r3]
    rw [eX8_advances_38, gI_40_9, aOp_s, h9, gC_40, aOp_s, m_byteAt sa d h co hT (by omega), aRI_mk, aOp_s, m_in, aRI_mk, aOp_s, bB_dg hT, hnd, if_pos bvf, gI_40_9, aOp_s, h9, gI_40_10, aOp_s, h10, pk_sub (by omega), show p + j - p = j by omega]
    by_cases h3 : j < 3
    · rw [if_neg (show ¬ (3 : Int32) ≤ nI j from nI_ge (b := 3) h3 (by decide)), gP_40_11, aOp_s]
      have ett : tkT T n p = 2 := by unfold tkT; rw [if_pos hpn, hdp, cond_true, if_pos (r1.mpr h3)]
      have ete : tkE T n p = p + j := by unfold tkE; rw [hdp, cond_true, r2 h3]
      refine ⟨_, rfl, ⟨by omega, h10, by rw [ett]; rfl, by rw [etv]; exact h12, fun _ _ => ⟨by rw [ete]; exact h9, by omega⟩⟩, fP_sI S 2 (by decide) (by decide), rfl, rfl, rfl⟩
    · rw [if_pos (show (3 : Int32) ≤ nI j from nI_le (a := 3) (by omega) (by omega)), gP_40_11, aOp_s]
      have ett : tkT T n p = 5 := by unfold tkT; rw [if_pos hpn, hdp, cond_true, if_neg (fun z => h3 (r1.mp z))]
      refine ⟨_, rfl, ⟨by omega, h10, by rw [ett]; rfl, by rw [etv]; exact h12, fun _ z => by omega⟩, fP_sI S 5 (by decide) (by decide), rfl, rfl, rfl⟩
  intro m
  induction m with
  | zero =>
    intro j S hj hT hd hdp h9 h10 h12
    refine done j S (by omega) hT hd ?_ hdp h9 h10 h12
    unfold dg
    rw [decide_eq_false (by omega)]
    rfl
  | succ m ih =>
    intro j S hj hT hd hdp h9 h10 h12
    cases hc : dg T n (p + j) with
    | false => exact done j S (by omega) hT hd hc hdp h9 h10 h12
    | true =>
      have hn := hT.2.1
      obtain ⟨q1, q2, q3⟩ := dg_lt hc
      obtain ⟨w1, w2, w3⟩ := dg_lt hdp
      have hb : bB T n (p + j) = nI (T (p + j)) := if_pos q1
      have go : ∀ v, v = vl T p (j + 1) → ∃ S', AMV sa (d + 1) 123 96 [.ref (co + 40), .int x1] [.int (nI v), .ref (co + 40)] (mk h co S) = some (none, mk h co S') ∧ tkR S' T n p ∧ fP S S' ∧ S'.1 40 7 = S.1 40 7 ∧ S'.1 40 8 = S.1 40 8 ∧ S'.2.2 47 = S.2.2 47 := by
        intro v hv
        have fr : fP S (sI (sI S 40 12 (nI v)) 40 9 (nI (p + j + 1))) := fP_trans (fP_sI S _ (by decide) (by decide)) (fP_sI _ _ (by decide) (by decide))
        obtain ⟨S', g1, g2, g3, g4⟩ := ih (j + 1) (sI (sI S 40 12 (nI v)) 40 9 (nI (p + j + 1))) (by omega) (tT_fP hT fr) (fun i hi => by
          by_cases e : i = j
          · rw [e]; exact hc
          · exact hd i (by omega)) hdp (sI_at _ _ _ _) h10 (by show nI v = _; rw [hv])
        refine ⟨S', ?_, g2, fP_trans fr g3, g4⟩
        rw [eX8_advances_96, gP_40_12, aOp_s, gI_40_9, aOp_s, show (sI S 40 12 (nI v)).1 40 9 = S.1 40 9 from rfl, h9, nI_1, gP_40_9, aOp_s]
        exact g1
      rw [eX8_advances_38, gI_40_9, aOp_s, h9, gC_40, aOp_s, m_byteAt sa d h co hT (by omega), aRI_mk, aOp_s, m_in, aRI_mk, aOp_s, bB_dg hT, hc, if_neg bvn, gI_40_9, aOp_s, h9, gI_40_10, aOp_s, h10, pk_sub (by omega), show p + j - p = j by omega]
      by_cases h2 : j < 2
      · rw [if_neg (show ¬ (2 : Int32) ≤ nI j from nI_ge (b := 2) h2 (by decide)), gI_40_12, aOp_s, h12, aOp_s, gC_40, aOp_s, m_byteAt sa d h co hT (by omega), aRI_mk, aOp_s, hb, show (10 : Int32) = nI 10 from rfl, pk_mul, nI_add, show (48 : Int32) = nI 48 from rfl, pk_sub (by omega)]
        refine go _ ?_
        have : j = 0 ∨ j = 1 := by omega
        rcases this with e | e
        · subst e
          show 10 * 0 + T (p + 0) - 48 = T p - 48
          rw [Nat.add_zero]; omega
        · subst e
          show 10 * (T p - 48) + T (p + 1) - 48 = 10 * (T p - 48) + (T (p + 1) - 48)
          omega
      · rw [if_pos (show (2 : Int32) ≤ nI j from nI_le (a := 2) (by omega) (by omega)), gI_40_12, aOp_s, h12]
        refine go _ ?_
        unfold vl
        rw [if_neg (by omega), if_neg (by omega), if_neg (by omega), if_neg (by omega)]
theorem m_advances (sa : Nat → Nat) (d : Nat) (h : AH) (co : Nat) {S : ST} {T : Nat → Nat} {n a : Nat} (hT : tT S 45 40 6 T n) (ha : a ≤ n) (h9 : S.1 40 9 = nI a) : ∃ S', AMC sa (d + 2) 123 [.ref (co + 40)] (mk h co S) = some (none, mk h co S') ∧ tkR S' T n a ∧ fP S S' ∧ S'.1 40 7 = S.1 40 7 ∧ S'.1 40 8 = S.1 40 8 ∧ S'.2.2 47 = S.2.2 47 := by
  have hn := hT.2.1
  have f1 : fP S (sI S 40 10 (nI a)) := fP_sI S _ (by decide) (by decide)
  have f2 : fP S (sI (sI S 40 10 (nI a)) 40 12 (bB T n a)) := fP_trans f1 (fP_sI _ _ (by decide) (by decide))
  have e180 : ∀ t : Nat, t < 10 → AMV sa (d + 1) 123 180 [.ref (co + 40), .int (bB T n a)] [.int (nI t), .ref (co + 40)] (mk h co (sI (sI S 40 10 (nI a)) 40 12 (bB T n a))) = some (none, mk h co (sI (sI (sI (sI S 40 10 (nI a)) 40 12 (bB T n a)) 40 11 (nI t)) 40 9 (nI (if t = 0 then a else a + 1)))) := by
    intro t ht
    rw [eX8_advances_180, gP_40_11, aOp_s, gI_40_9, aOp_s, show (sI (sI (sI S 40 10 (nI a)) 40 12 (bB T n a)) 40 11 (nI t)).1 40 9 = S.1 40 9 from rfl, h9, gI_40_11, aOp_s, sI_at]
    by_cases h0 : t = 0
    · rw [if_pos (show nI t = 0 by rw [h0]; rfl), if_pos h0, show (0 : Int32) = nI 0 from rfl, nI_add, gP_40_9, aOp_s]; rfl
    · rw [if_neg (nI_ne0 (by omega) (by omega)), if_neg h0, nI_1, gP_40_9, aOp_s]
  have fin : ∀ t : Nat, t < 10 → t = tkT T n a → dg T n a = false → (1 ≤ t → a < n) → ∃ S', AMV sa (d + 1) 123 180 [.ref (co + 40), .int (bB T n a)] [.int (nI t), .ref (co + 40)] (mk h co (sI (sI S 40 10 (nI a)) 40 12 (bB T n a))) = some (none, mk h co S') ∧ tkR S' T n a ∧ fP S S' ∧ S'.1 40 7 = S.1 40 7 ∧ S'.1 40 8 = S.1 40 8 ∧ S'.2.2 47 = S.2.2 47 := by
    intro t ht ht2 hnd hlt
    have etv : tkV T n a = bB T n a := by unfold tkV bB; rw [hnd, cond_false]
    refine ⟨_, e180 t ht, ⟨ha, rfl, by rw [← ht2]; rfl, by rw [etv]; rfl, fun q1 q2 => ?_⟩, fP_trans f2 (fP_trans (fP_sI _ _ (by decide) (by decide)) (fP_sI _ _ (by decide) (by decide))), rfl, rfl, rfl⟩
    have ete : tkE T n a = a + 1 := by unfold tkE; rw [hnd, cond_false]
    rw [ete]
    have := hlt (by omega)
    refine ⟨?_, by omega⟩
    rw [sI_at, if_neg (by omega)]
  rw [fX8_advances, eX8_advances_0, gI_40_9, aOp_s, h9, gP_40_10, aOp_s, gI_40_9, aOp_s, show (sI S 40 10 (nI a)).1 40 9 = S.1 40 9 from rfl, h9, gC_40, aOp_s, m_byteAt sa d h co (tT_fP hT f1) (by omega), aRI_mk, aOp_s, gP_40_12, aOp_s, m_in, aRI_mk, aOp_s, bB_dg hT]
  cases hd : dg T n a with
  | true =>
    obtain ⟨q1, q2, q3⟩ := dg_lt hd
    have f3 : fP S (sI (sI (sI S 40 10 (nI a)) 40 12 (bB T n a)) 40 12 0) := fP_trans f2 (fP_sI _ _ (by decide) (by decide))
    rw [if_neg bvn, gP_40_12, aOp_s]
    obtain ⟨S', g1, g2, g3, g4, g5, g6⟩ := m_adv_loop sa d h co (bB T n a) (n - a) 0 (sI (sI (sI S 40 10 (nI a)) 40 12 (bB T n a)) 40 12 0) (by omega) (tT_fP hT f3) (fun i hi => by omega) hd h9 rfl rfl
    exact ⟨S', g1, g2, fP_trans f3 g3, g4, g5, g6⟩
  | false =>
    rw [if_pos bvf]
    by_cases hlt : a < n
    · have hb : bB T n a = nI (T a) := if_pos hlt
      have hb2 := (hT.2.2 a hlt).2
      have etk : tkT T n a = (if 97 ≤ T a ∧ T a ≤ 122 then 1 else if T a = 44 then 3 else if T a = 59 then 4 else 5) := by unfold tkT; rw [if_pos hlt, hd, cond_false]
      rw [if_pos (show (0 : Int32) ≤ bB T n a by rw [hb]; exact nI_pos' (by omega)), m_in, aRI_mk, aOp_s]
      by_cases hl : 97 ≤ T a ∧ T a ≤ 122
      · rw [if_pos hl] at etk
        rw [show decide ((97 : Int32) ≤ bB T n a ∧ bB T n a ≤ 122) = true by rw [hb]; exact decide_eq_true ⟨nI_le (a := 97) hl.1 (by omega), nI_le (b := 122) hl.2 (by decide)⟩, if_neg bvn]
        exact fin 1 (by decide) etk.symm hd (fun _ => hlt)
      · rw [if_neg hl] at etk
        rw [show decide ((97 : Int32) ≤ bB T n a ∧ bB T n a ≤ 122) = false by rw [hb]; exact decide_eq_false (fun z => hl ⟨(nI_leI (a := 97) (by decide) (by omega)).mp z.1, (nI_leI (b := 122) (by omega) (by decide)).mp z.2⟩), if_pos bvf]
        by_cases h44 : T a = 44
        · rw [if_pos h44] at etk
          rw [if_pos (show bB T n a = 44 by rw [hb, h44]; rfl)]
          exact fin 3 (by decide) etk.symm hd (fun _ => hlt)
        · rw [if_neg h44] at etk
          rw [if_neg (show ¬ bB T n a = 44 by rw [hb]; exact fun z => h44 ((nI_eq (b := 44) (by omega) (by decide)).mp z))]
          by_cases h59 : T a = 59
          · rw [if_pos h59] at etk
            rw [if_pos (show bB T n a = 59 by rw [hb, h59]; rfl)]
            exact fin 4 (by decide) etk.symm hd (fun _ => hlt)
          · rw [if_neg h59] at etk
            rw [if_neg (show ¬ bB T n a = 59 by rw [hb]; exact fun z => h59 ((nI_eq (b := 59) (by omega) (by decide)).mp z))]
            exact fin 5 (by decide) etk.symm hd (fun _ => hlt)
    · have hb : bB T n a = -1 := if_neg hlt
      rw [if_neg (show ¬ (0 : Int32) ≤ bB T n a by rw [hb]; decide)]
      exact fin 0 (by decide) (by unfold tkT; rw [if_neg hlt]) hd (fun z => by omega)
