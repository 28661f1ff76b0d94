/-! ===== the class: the tape read ===== -/
def cZ (S : ST) (T : Nat → Nat) (n : Nat) (Z : ZS) : Prop := tT S 11 10 2 T n ∧ S.1 10 5 = nI Z.1 ∧ Z.1 ≤ 3 ∧ Z.2.1 ≤ n ∧ (Z.1 = 0 → S.1 10 3 = nI Z.2.1) ∧ (Z.1 ≠ 0 → S.1 10 6 = nI Z.2.1)
/-- place and fault alone changed -/
def fC (S S' : ST) : Prop := S'.2 = S.2 ∧ ∀ a b, ¬ (a = 10 ∧ (b = 3 ∨ b = 5 ∨ b = 6)) → S'.1 a b = S.1 a b
theorem fC_refl (S : ST) : fC S S := ⟨rfl, fun _ _ _ => rfl⟩
theorem fC_trans {S S' S'' : ST} (h1 : fC S S') (h2 : fC S' S'') : fC S S'' := ⟨h2.1.trans h1.1, fun a b h => (h2.2 a b h).trans (h1.2 a b h)⟩
theorem fC_I (S : ST) {k : Nat} (hk : k = 3 ∨ k = 5 ∨ k = 6) (x : Int32) : fC S (sI S 10 k x) := ⟨rfl, fun a b h => sI_ne _ _ (fun z => h ⟨z.1, by omega⟩)⟩
theorem fC_fr {S S' : ST} (h : fC S S') : fr 10 13 S S' := fun a ha => ⟨funext fun b => h.2 a b (fun z => by omega), by rw [h.1], by rw [h.1]⟩
theorem tT_fC {S S' : ST} {T : Nat → Nat} {n : Nat} (hT : tT S 11 10 2 T n) (h : fC S S') : tT S' 11 10 2 T n := ⟨(h.2 10 2 (by omega)).trans hT.1, hT.2.1, fun j hj => by rw [h.1]; exact hT.2.2 j hj⟩
theorem c_next (sa : Nat → Nat) (d : Nat) (h : AH) (co : Nat) {S : ST} {T : Nat → Nat} {n : Nat} {Z : ZS} (hZ : cZ S T n Z) : AMC sa (d + 1) 60 [.ref (co + 10)] (mk h co S) = some (some (.int (if Z.1 = 0 then bB T n Z.2.1 else -1)), mk h co S) := by
  obtain ⟨hT, e5, h3, hp, e3, e6⟩ := hZ
  have h100 := hT.2.1
  rw [fX5_next, eX5_next_0, gI_10_5, aOp_s, e5]
  by_cases h0 : Z.1 = 0
  · rw [if_pos (show nI Z.1 = 0 by rw [h0]; rfl), if_pos h0, gI_10_3, aOp_s, gI_10_2, aOp_s, hT.1, e3 h0]
    unfold bB
    by_cases hc : Z.2.1 < n
    · rw [if_neg (nI_ge hc (by omega)), if_pos hc, gR_10_0, aOp_s, aOp_s, gL_11 _ _ _ _ (aIn_nI (by omega) (by decide)), aOp_s, nI_clamp (by omega), (hT.2.2 _ hc).1]
    · rw [if_pos (nI_le (by omega) (by omega)), if_neg hc]
  · rw [if_neg (nI_ne0 (by omega) (by omega)), if_neg h0]
theorem c_fail_no (sa : Nat → Nat) (d : Nat) (h : AH) (co : Nat) {S : ST} {k : Nat} (e5 : S.1 10 5 = nI k) (h1 : 1 ≤ k) (h3 : k ≤ 3) (x y : Int32) : AMC sa (d + 1) 61 [.ref (co + 10), .int x, .int y] (mk h co S) = some (none, mk h co S) := by
  rw [fX5_fail, eX5_fail_0, gI_10_5, aOp_s, e5, if_neg (nI_ne0 (by omega) (by omega))]
theorem c_fail_at (sa : Nat → Nat) (d : Nat) (h : AH) (co : Nat) {S : ST} {T : Nat → Nat} {n : Nat} {Z : ZS} (hZ : cZ S T n Z) (h0 : Z.1 = 0) {k p : Nat} (hk : 1 ≤ k) (hk3 : k ≤ 3) (hp : p ≤ n) (Q : PS) : ∃ S' : ST, AMC sa (d + 1) 61 [.ref (co + 10), .int (nI k), .int (nI p)] (mk h co S) = some (none, mk h co S') ∧ cZ S' T n (k, p, Q) ∧ fC S S' := by
  obtain ⟨hT, e5, h3, hp2, e3, e6⟩ := hZ
  have f1 := fC_trans (fC_I S (k := 5) (by omega) (nI k)) (fC_I (sI S 10 5 (nI k)) (k := 6) (by omega) (nI p))
  refine ⟨sI (sI S 10 5 (nI k)) 10 6 (nI p), ?_, ⟨tT_fC hT f1, (sI_ne _ _ (by decide)).trans (sI_at _ _ _ _), hk3, hp, fun z => absurd z (show k ≠ 0 by omega), fun _ => sI_at _ _ _ _⟩, f1⟩
  rw [fX5_fail, eX5_fail_0, gI_10_5, aOp_s, e5, if_pos (show nI Z.1 = 0 by rw [h0]; rfl), gP_10_5, aOp_s, gP_10_6, aOp_s]
/-- a fault at the place -/
theorem c_fail (sa : Nat → Nat) (d : Nat) (h : AH) (co : Nat) {S : ST} {T : Nat → Nat} {n : Nat} {Z : ZS} (hZ : cZ S T n Z) {k : Nat} (hk : 1 ≤ k) (hk3 : k ≤ 3) : ∃ S' : ST, AMC sa (d + 1) 61 [.ref (co + 10), .int (nI k), .int (S.1 10 3)] (mk h co S) = some (none, mk h co S') ∧ cZ S' T n (zTk T n false k Z) ∧ fC S S' := by
  unfold zTk
  by_cases h0 : Z.1 = 0
  · rw [if_pos h0, hZ.2.2.2.2.1 h0]
    exact c_fail_at sa d h co hZ h0 hk hk3 hZ.2.2.2.1 _
  · rw [if_neg h0]
    exact ⟨S, c_fail_no sa d h co hZ.2.1 (by omega) hZ.2.2.1 _ _, hZ, fC_refl S⟩
theorem isC_E {T : Nat → Nat} {n p x : Nat} (hx : x < 48 ∨ 57 < x) (h : isC T n p x = true) : tkE T n p = p + 1 ∧ p < n ∧ T p = x := by
  unfold isC at h
  rw [Bool.and_eq_true] at h
  have h1 := of_decide_eq_true h.1
  have h2 := of_decide_eq_true h.2
  refine ⟨?_, h1, h2⟩
  unfold tkE
  rw [show dg T n p = false from ?_]
  · rfl
  · unfold dg
    rcases hx with hx | hx
    · rw [decide_eq_false (show ¬ 48 ≤ T p by omega), Bool.false_and, Bool.and_false]
    · rw [decide_eq_false (show ¬ T p ≤ 57 by omega), Bool.and_false, Bool.and_false]
theorem c_at (sa : Nat → Nat) {S : ST} {T : Nat → Nat} {n : Nat} {Z : ZS} (hZ : cZ S T n Z) (h0 : Z.1 = 0) {p : Nat} (hp : p ≤ n) (Q : PS) : cZ (sI S 10 3 (nI p)) T n (0, p, Q) ∧ fC S (sI S 10 3 (nI p)) := by
  obtain ⟨hT, e5, h3, hp2, e3, e6⟩ := hZ
  have f1 := fC_I S (k := 3) (by omega) (nI p)
  exact ⟨⟨tT_fC hT f1, (sI_ne _ _ (by decide)).trans (by rw [e5, h0]), by show 0 ≤ 3; decide, hp, fun _ => sI_at _ _ _ _, fun z => absurd rfl z⟩, f1⟩
theorem c_skip (sa : Nat → Nat) (d : Nat) (h : AH) (co : Nat) {S : ST} {T : Nat → Nat} {n : Nat} {Z : ZS} (hZ : cZ S T n Z) {x : Nat} (hx : x < 48 ∨ 57 < x) (hx2 : x < 256) : ∃ S' : ST, AMC sa (d + 2) 58 [.ref (co + 10), .int (nI x)] (mk h co S) = some (none, mk h co S') ∧ cZ S' T n (zTk T n (isC T n Z.2.1 x) 1 Z) ∧ fC S S' := by
  have h100 := hZ.1.2.1
  rw [fX5_skip, eX5_skip_0, gC_10, aOp_s, c_next sa d h co hZ, aRI_mk, aOp_s]
  obtain ⟨S1, f1, f2, f3⟩ := c_fail sa d h co hZ (k := 1) (by decide) (by decide)
  have bad : isC T n Z.2.1 x = false ∨ Z.1 ≠ 0 → (∃ S' : ST, (aOp (aFI (mk h co S) (co + 10) 5 3) fun v4 => aOp (aCl (mk h co S) (co + 10) 5) fun _ => aOp (aRV (AMC sa (d + 1) 61 [.ref (co + 10), .int 1, .int v4] (mk h co S))) fun h5 => some ((none : Option Value), h5)) = some (none, mk h co S') ∧ cZ S' T n (zTk T n (isC T n Z.2.1 x) 1 Z) ∧ fC S S') := by
    intro hb
    refine ⟨S1, ?_, ?_, f3⟩
    · rw [gI_10_3, aOp_s, gC_10, aOp_s, show AMC sa (d + 1) 61 [.ref (co + 10), .int 1, .int (S.1 10 3)] (mk h co S) = _ from f1, aRV_mk, aOp_s]
    · rcases hb with hb | hb
      · rw [hb]; exact f2
      · unfold zTk at f2 ⊢
        rw [if_neg hb] at f2 ⊢
        exact f2
  by_cases h0 : Z.1 = 0
  · rw [if_pos h0]
    unfold bB
    cases hb : isC T n Z.2.1 x with
    | true =>
      obtain ⟨t1, t2, t3⟩ := isC_E hx hb
      obtain ⟨g1, g2⟩ := c_at sa hZ h0 (p := Z.2.1 + 1) (by omega) Z.2.2
      refine ⟨sI S 10 3 (nI (Z.2.1 + 1)), ?_, ?_, g2⟩
      · rw [if_pos t2, t3, if_pos rfl, gI_10_3, aOp_s, hZ.2.2.2.2.1 h0, nI_1, gP_10_3, aOp_s]
      · unfold zTk
        rw [if_pos h0, cond_true, t1]
        exact g1
    | false =>
      have bad := bad (Or.inl hb)
      rw [hb] at bad
      by_cases hc : Z.2.1 < n
      · have hne : T Z.2.1 ≠ x := by
          intro e
          unfold isC at hb
          rw [decide_eq_true hc, decide_eq_true e] at hb
          cases hb
        have h256 := (hZ.1.2.2 _ hc).2
        rw [if_pos hc, if_neg (fun z => hne ((nI_eq (by omega) (by omega)).mp z))]
        exact bad
      · rw [if_neg hc, if_neg (fun z => n_nem (show x < 1000000 by omega) z.symm)]
        exact bad
  · rw [if_neg h0, if_neg (fun z => n_nem (show x < 1000000 by omega) z.symm)]
    exact bad (Or.inr h0)
theorem isC_44 (T : Nat → Nat) (n p : Nat) : isC T n p 44 = decide (tkT T n p = 3) := by
  unfold isC tkT
  by_cases hp : p < n
  · rw [decide_eq_true hp, Bool.true_and, if_pos hp]
    cases hd : dg T n p with
    | true =>
      have := dg_lt hd
      rw [decide_eq_false (show ¬ T p = 44 by omega), cond_true]
      split <;> rfl
    | false =>
      rw [cond_false]
      by_cases h1 : T p = 44
      · rw [if_neg (by omega), if_pos h1, decide_eq_true h1]; rfl
      · rw [decide_eq_false h1]
        split
        · rfl
        · split <;> rfl
  · rw [decide_eq_false hp, Bool.false_and, if_neg hp]
    rfl
theorem isC_59 (T : Nat → Nat) (n p : Nat) : isC T n p 59 = decide (tkT T n p = 4) := by
  unfold isC tkT
  by_cases hp : p < n
  · rw [decide_eq_true hp, Bool.true_and, if_pos hp]
    cases hd : dg T n p with
    | true =>
      have := dg_lt hd
      rw [decide_eq_false (show ¬ T p = 59 by omega), cond_true]
      split <;> rfl
    | false =>
      rw [cond_false]
      by_cases h1 : T p = 59
      · rw [if_neg (by omega), if_neg (by omega), if_pos h1, decide_eq_true h1]; rfl
      · rw [decide_eq_false h1]
        split
        · rfl
        · split
          · rfl
          · rfl
  · rw [decide_eq_false hp, Bool.false_and, if_neg hp]
    rfl
theorem c_isFigure (sa : Nat → Nat) (d : Nat) (h : AH) (co : Nat) {S : ST} {T : Nat → Nat} {n : Nat} (hT : tT S 11 10 2 T n) {a : Nat} (ha : a < 1000) : AMC sa (d + 1) 59 [.ref (co + 10), .int (nI a)] (mk h co S) = some (some (.int (bv (dg T n a))), mk h co S) := by
  have h100 := hT.2.1
  rw [fX5_isFigure, eX5_isFigure_0, gI_10_2, aOp_s, hT.1]
  unfold dg
  by_cases hc : a < n
  · obtain ⟨t1, t2⟩ := hT.2.2 a hc
    have gl : aIL (mk h co S) (co + 11) (nI a) = some (nI (T a)) := by rw [gL_11 _ _ _ _ (aIn_nI (by omega) (by decide)), nI_clamp (by omega), t1]
    rw [if_neg (nI_ge hc (by omega)), decide_eq_true hc, Bool.true_and, gR_10_0, aOp_s, gl, aOp_s]
    by_cases h1 : T a < 48
    · rw [if_pos (show nI (T a) < 48 from nI_lt (b := 48) h1 (by decide)), decide_eq_false (by omega)]; rfl
    · rw [if_neg (show ¬ nI (T a) < 48 from nI_nlt (b := 48) (by omega) (by omega)), decide_eq_true (show 48 ≤ T a by omega), aOp_s, gl, aOp_s]
      by_cases h2 : 57 < T a
      · rw [if_pos (show (57 : Int32) < nI (T a) from nI_lt (a := 57) h2 (by omega)), decide_eq_false (by omega)]; rfl
      · rw [if_neg (show ¬ (57 : Int32) < nI (T a) from nI_nlt (a := 57) (by omega) (by decide)), decide_eq_true (by omega)]; rfl
  · rw [if_pos (nI_le (by omega) (by omega)), decide_eq_false hc]; rfl
theorem c_number (sa : Nat → Nat) (d : Nat) (h : AH) (co : Nat) {S : ST} {T : Nat → Nat} {n : Nat} {Z : ZS} (hZ : cZ S T n Z) {lo hi : Nat} (hlo : lo < 1000) (hhi : hi < 1000) : ∃ S' : ST, AMC sa (d + 2) 57 [.ref (co + 10), .int (nI lo), .int (nI hi)] (mk h co S) = some (some (.int (nI (zNu T n lo hi Z).1)), mk h co S') ∧ cZ S' T n (zNu T n lo hi Z).2 ∧ fC S S' := by
  have hT := hZ.1
  have h100 := hT.2.1
  rw [fX5_readNumber, eX5_readNumber_0, gI_10_5, aOp_s, hZ.2.1]
  unfold zNu
  by_cases h0 : Z.1 = 0
  · have e3 := hZ.2.2.2.2.1 h0
    have hp := hZ.2.2.2.1
    obtain ⟨p, hpe⟩ : ∃ p, p = Z.2.1 := ⟨_, rfl⟩
    rw [← hpe] at hp e3
    rw [if_pos (show nI Z.1 = 0 by rw [h0]; rfl), if_pos h0, ← hpe]
    obtain ⟨S1, f1, f2, f3⟩ := c_fail_at sa d h co hZ h0 (k := 1) (p := p) (by decide) (by decide) hp Z.2.2
    obtain ⟨S2, u1, u2, u3⟩ := c_fail_at sa d h co hZ h0 (k := 2) (p := p) (by decide) (by decide) hp Z.2.2
    have at69 : ∀ x3 x4 : Int32, AMV sa (d + 1) 57 69 [.ref (co + 10), .int (nI lo), .int (nI hi), .int x3, .int x4] [] (mk h co S) = some (some (.int (nI 0)), mk h co S1) := by
      intro x3 x4
      rw [eX5_readNumber_69, gI_10_3, aOp_s, gC_10, aOp_s, e3, show AMC sa (d + 1) 61 [.ref (co + 10), .int 1, .int (nI p)] (mk h co S) = _ from f1, aRV_mk, aOp_s]
      rfl
    have at92 : ∀ x3 x4 : Int32, AMV sa (d + 1) 57 92 [.ref (co + 10), .int (nI lo), .int (nI hi), .int x3, .int x4] [] (mk h co S) = some (some (.int (nI 0)), mk h co S2) := by
      intro x3 x4
      rw [eX5_readNumber_92, gI_10_3, aOp_s, gC_10, aOp_s, e3, show AMC sa (d + 1) 61 [.ref (co + 10), .int 2, .int (nI p)] (mk h co S) = _ from u1, aRV_mk, aOp_s]
      rfl
    have fin : ∀ j v : Nat, 1 ≤ j → j ≤ 2 → v < 1000 → p + j ≤ n → nv T n p = v → tkE T n p = p + j → tkT T n p = 2 → ∃ S' : ST, AMV sa (d + 1) 57 60 [.ref (co + 10), .int (nI lo), .int (nI hi), .int (nI j), .int (nI v)] [] (mk h co S) = some (some (.int (nI (if tkT T n p = 2 then (if lo ≤ nv T n p ∧ nv T n p ≤ hi then (nv T n p, (0, tkE T n p, Z.2.2)) else (0, (2, p, Z.2.2))) else (0, (1, p, Z.2.2)) : Nat × ZS).1)), mk h co S') ∧ cZ S' T n (if tkT T n p = 2 then (if lo ≤ nv T n p ∧ nv T n p ≤ hi then (nv T n p, (0, tkE T n p, Z.2.2)) else (0, (2, p, Z.2.2))) else (0, (1, p, Z.2.2)) : Nat × ZS).2 ∧ fC S S' := by
      intro j v j1 j2 hv hj ev ee et
      rw [if_pos et, ev, ee, eX5_readNumber_60, if_neg (nI_ne0 (by omega) (by omega)), if_neg (show ¬ nI j = 3 from fun z => by have := (nI_eq (b := 3) (by omega) (by decide)).mp z; omega)]
      by_cases c1 : v < lo
      · rw [if_pos (nI_lt c1 (by omega)), if_neg (fun z => by omega), at92]
        exact ⟨S2, rfl, u2, u3⟩
      · rw [if_neg (nI_nlt (by omega) (by omega))]
        by_cases c2 : v ≤ hi
        · obtain ⟨g1, g2⟩ := c_at sa hZ h0 (p := p + j) hj Z.2.2
          rw [if_pos (nI_le c2 (by omega)), if_pos ⟨by omega, c2⟩, gI_10_3, aOp_s, e3, nI_add, gP_10_3, aOp_s]
          exact ⟨_, rfl, g1, g2⟩
        · rw [if_neg (nI_ge (by omega) (by omega)), if_neg (fun z => c2 z.2), at92]
          exact ⟨S2, rfl, u2, u3⟩
    have step : ∀ j v : Nat, j < 3 → v < 100 → dg T n (p + j) = true → AMV sa (d + 1) 57 14 [.ref (co + 10), .int (nI lo), .int (nI hi), .int (nI j), .int (nI v)] [] (mk h co S) = AMV sa (d + 1) 57 14 [.ref (co + 10), .int (nI lo), .int (nI hi), .int (nI (j + 1)), .int (nI (10 * v + (T (p + j) - 48)))] [] (mk h co S) := by
      intro j v hj hv hd
      obtain ⟨d1, d2, d3⟩ := dg_lt hd
      rw [eX5_readNumber_14, if_neg (show ¬ (3 : Int32) ≤ nI j from nI_ge (b := 3) hj (by decide)), gI_10_3, aOp_s, gC_10, aOp_s, e3, nI_add, c_isFigure sa d h co hT (by omega), aRI_mk, aOp_s, hd, if_neg bvn, gR_10_0, aOp_s, gI_10_3, aOp_s, e3, nI_add, gL_11 _ _ _ _ (aIn_nI (by omega) (by decide)), aOp_s, nI_clamp (by omega), (hT.2.2 _ d1).1, nI_1, show (10 : Int32) * nI v = nI (10 * v) from pk_mul 10 v, nI_add, show nI (10 * v + T (p + j)) - 48 = nI (10 * v + T (p + j) - 48) from pk_sub (b := 48) (by omega), show 10 * v + T (p + j) - 48 = 10 * v + (T (p + j) - 48) by omega]
    have stop : ∀ j v : Nat, j < 3 → dg T n (p + j) = false → AMV sa (d + 1) 57 14 [.ref (co + 10), .int (nI lo), .int (nI hi), .int (nI j), .int (nI v)] [] (mk h co S) = AMV sa (d + 1) 57 60 [.ref (co + 10), .int (nI lo), .int (nI hi), .int (nI j), .int (nI v)] [] (mk h co S) := by
      intro j v hj hd
      rw [eX5_readNumber_14, if_neg (show ¬ (3 : Int32) ≤ nI j from nI_ge (b := 3) hj (by decide)), gI_10_3, aOp_s, gC_10, aOp_s, e3, nI_add, c_isFigure sa d h co hT (by omega), aRI_mk, aOp_s, hd, if_pos bvf]
    show ∃ S' : ST, AMV sa (d + 1) 57 14 [.ref (co + 10), .int (nI lo), .int (nI hi), .int (nI 0), .int (nI 0)] [] (mk h co S) = _ ∧ _
    cases d0 : dg T n p with
    | false =>
      have et : tkT T n p ≠ 2 := by
        unfold tkT
        rw [d0, cond_false]
        split
        · split
          · decide
          · split
            · decide
            · split <;> decide
        · decide
      rw [stop 0 0 (by decide) d0, eX5_readNumber_60, if_pos (show nI 0 = 0 from rfl), at69, if_neg et]
      exact ⟨S1, rfl, f2, f3⟩
    | true =>
      obtain ⟨q1, q2, q3⟩ := dg_lt d0
      rw [step 0 0 (by decide) (by decide) d0]
      show ∃ S' : ST, AMV sa (d + 1) 57 14 [.ref (co + 10), .int (nI lo), .int (nI hi), .int (nI 1), .int (nI (0 + (T p - 48)))] [] (mk h co S) = _ ∧ _
      rw [Nat.zero_add]
      cases d1 : dg T n (p + 1) with
      | false =>
        rw [stop 1 _ (by decide) d1]
        have enf : nf T n p = 1 := by unfold nf; rw [d0, d1]; rfl
        exact fin 1 (T p - 48) (by decide) (by decide) (by omega) (by omega) (by unfold nv; rw [d1]; rfl) (by unfold tkE; rw [d0, enf]; rfl) (by unfold tkT; rw [if_pos q1, d0, enf]; rfl)
      | true =>
        obtain ⟨w1, w2, w3⟩ := dg_lt d1
        rw [step 1 _ (by decide) (by omega) d1]
        show ∃ S' : ST, AMV sa (d + 1) 57 14 [.ref (co + 10), .int (nI lo), .int (nI hi), .int (nI 2), .int (nI (10 * (T p - 48) + (T (p + 1) - 48)))] [] (mk h co S) = _ ∧ _
        cases d2 : dg T n (p + 2) with
        | false =>
          rw [stop 2 _ (by decide) d2]
          have enf : nf T n p = 2 := by unfold nf; rw [d0, d1, d2]; rfl
          exact fin 2 (10 * (T p - 48) + (T (p + 1) - 48)) (by decide) (by decide) (by omega) (by omega) (by unfold nv; rw [d1]; rfl) (by unfold tkE; rw [d0, enf]; rfl) (by unfold tkT; rw [if_pos q1, d0, enf]; rfl)
        | true =>
          have enf : nf T n p = 3 := by unfold nf; rw [d0, d1, d2]; rfl
          have et : tkT T n p ≠ 2 := by unfold tkT; rw [if_pos q1, d0, enf]; exact (show (5 : Nat) ≠ 2 by decide)
          rw [step 2 _ (by decide) (by omega) d2, eX5_readNumber_14, if_pos (show (3 : Int32) ≤ nI (2 + 1) by decide), eX5_readNumber_60, if_neg (by decide), if_pos (show nI (2 + 1) = 3 from rfl), at69, if_neg et]
          exact ⟨S1, rfl, f2, f3⟩
  · rw [if_neg (nI_ne0 (by omega) (by have := hZ.2.2.1; omega)), if_neg h0]
    exact ⟨S, rfl, hZ, fC_refl S⟩
/-! sets of words -/
def zSt (T : Nat → Nat) (n a : Nat) (Z : ZS) : Nat × ZS :=
  let A := zNu T n 0 63 Z
  if Z.1 = 0 ∧ A.2.1 = 0 ∧ A.1 &&& (63 ^^^ a) ≠ 0 then (A.1, (2, Z.2.1, Z.2.2)) else A
theorem zNu_p {T : Nat → Nat} {n lo hi : Nat} {Z : ZS} : (zNu T n lo hi Z).2.2.2 = Z.2.2 := zNu_Q T n lo hi Z
theorem zNu_0 {T : Nat → Nat} {n lo hi : Nat} {Z : ZS} (h : (zNu T n lo hi Z).2.1 ≠ 0) : (zNu T n lo hi Z).1 = 0 := by
  unfold zNu at h ⊢
  split
  · rename_i h0
    rw [if_pos h0] at h
    split
    · rename_i h1
      rw [if_pos h1] at h
      split
      · rename_i h2
        rw [if_pos h2] at h
        exact absurd rfl h
      · rfl
    · rfl
  · rfl
theorem c_readSet (sa : Nat → Nat) (d : Nat) (h : AH) (co : Nat) {S : ST} {T : Nat → Nat} {n : Nat} {Z : ZS} (hZ : cZ S T n Z) {x : Int32} {a : Nat} (ha : a < 64) (hx : Z.1 = 0 → x = nI a) : ∃ S' : ST, AMC sa (d + 3) 56 [.ref (co + 10), .int x] (mk h co S) = some (some (.int (nI (zSt T n a Z).1)), mk h co S') ∧ cZ S' T n (zSt T n a Z).2 ∧ fC S S' := by
  obtain ⟨S1, g1, g2, g3⟩ := c_number sa d h co hZ (lo := 0) (hi := 63) (by decide) (by decide)
  have hv : (zNu T n 0 63 Z).1 ≤ 63 := zNu_le
  rw [fX5_readSet, eX5_readSet_0, gI_10_3, aOp_s, gC_10, aOp_s, show AMC sa (d + 2) 57 [.ref (co + 10), .int 0, .int 63] (mk h co S) = _ from g1, aRI_mk, aOp_s]
  have nofail : (zNu T n 0 63 Z).1 = 0 → ∃ S' : ST, (if nI (zNu T n 0 63 Z).1 &&& (x ^^^ (-1)) = 0 then some (some (Value.int (nI (zNu T n 0 63 Z).1)), mk h co S1) else aOp (aCl (mk h co S1) (co + 10) 5) fun _ => aOp (aRV (AMC sa (d + 2) 61 [.ref (co + 10), .int 2, .int (S.1 10 3)] (mk h co S1))) fun h3 => some (some (Value.int (nI (zNu T n 0 63 Z).1)), h3)) = some (some (.int (nI (zSt T n a Z).1)), mk h co S') ∧ cZ S' T n (zSt T n a Z).2 ∧ fC S S' := by
    intro hz
    have e : zSt T n a Z = zNu T n 0 63 Z := by
      unfold zSt
      refine if_neg (fun z => ?_)
      rw [hz, Nat.zero_and] at z
      exact z.2.2 rfl
    rw [e, hz, if_pos (show nI 0 &&& (x ^^^ (-1)) = 0 from Int32.zero_and)]
    exact ⟨S1, rfl, g2, g3⟩
  by_cases h0 : Z.1 = 0
  · by_cases h1 : (zNu T n 0 63 Z).2.1 = 0
    · have hb := (n_lt64 (zNu T n 0 63 Z).1 (by omega) a ha).2.2
      rw [hx h0]
      rw [hx h0] at nofail
      dsimp only
      rw [n_andn _ (by omega) _ ha] at nofail ⊢
      by_cases hc : (zNu T n 0 63 Z).1 &&& (63 ^^^ a) = 0
      · have e : zSt T n a Z = zNu T n 0 63 Z := by
          unfold zSt
          exact if_neg (fun z => z.2.2 hc)
        rw [if_pos (show nI ((zNu T n 0 63 Z).1 &&& (63 ^^^ a)) = 0 by rw [hc]; rfl), e]
        exact ⟨S1, rfl, g2, g3⟩
      · have e : zSt T n a Z = ((zNu T n 0 63 Z).1, (2, Z.2.1, Z.2.2)) := by
          unfold zSt
          exact if_pos ⟨h0, h1, hc⟩
        obtain ⟨S2, u1, u2, u3⟩ := c_fail_at sa (d + 1) h co g2 h1 (k := 2) (p := Z.2.1) (by decide) (by decide) hZ.2.2.2.1 Z.2.2
        rw [if_neg (nI_ne0 (by omega) (by omega)), gC_10, aOp_s, hZ.2.2.2.2.1 h0, show AMC sa (d + 2) 61 [.ref (co + 10), .int 2, .int (nI Z.2.1)] (mk h co S1) = _ from u1, aRV_mk, aOp_s, e]
        exact ⟨S2, rfl, u2, fC_trans g3 u3⟩
    · exact nofail (zNu_0 h1)
  · refine nofail (zNu_0 (fun z => ?_))
    exact h0 (zNu_1 z).1
theorem n_wd : ∀ w, w ≤ 6 → ∀ v, v < 64 → (v &&& (63 ^^^ (2 ^ w - 1)) = 0 ↔ v ≤ 2 ^ w - 1) := by decide +kernel
theorem n_sd : ∀ v, v < 100 → ∀ a, a < 64 → (v &&& (127 ^^^ a) = 0 ↔ (v ≤ 63 ∧ v &&& (63 ^^^ a) = 0)) := by decide +kernel
theorem nv_le {T : Nat → Nat} {n p : Nat} (h : tkT T n p = 2) : nv T n p ≤ 99 := (tk2 h).2.2.2
theorem zSt_w {T : Nat → Nat} {n w : Nat} (hw : w ≤ 6) (Z : ZS) : (zSt T n (2 ^ w - 1) Z).2 = (zNu T n 0 (2 ^ w - 1) Z).2 ∧ ((zNu T n 0 (2 ^ w - 1) Z).2.1 = 0 → (zSt T n (2 ^ w - 1) Z).1 = (zNu T n 0 (2 ^ w - 1) Z).1) := by
  have h63 : 2 ^ w - 1 ≤ 63 := (show ∀ k, k ≤ 6 → 2 ^ k - 1 ≤ 63 by decide) w hw
  unfold zSt zNu
  dsimp only
  by_cases h0 : Z.1 = 0
  · simp only [if_pos h0]
    by_cases h2 : tkT T n Z.2.1 = 2
    · simp only [if_pos h2]
      have h99 := nv_le h2
      by_cases hv : nv T n Z.2.1 ≤ 63
      · rw [if_pos (show 0 ≤ nv T n Z.2.1 ∧ nv T n Z.2.1 ≤ 63 from ⟨Nat.zero_le _, hv⟩)]
        have hd := n_wd w hw (nv T n Z.2.1) (by omega)
        by_cases hc : nv T n Z.2.1 ≤ 2 ^ w - 1
        · rw [if_neg (fun z => z.2.2 (hd.mpr hc)), if_pos ⟨Nat.zero_le _, hc⟩]
          exact ⟨rfl, fun _ => rfl⟩
        · rw [if_pos ⟨h0, rfl, fun z => hc (hd.mp z)⟩, if_neg (fun z => hc z.2)]
          exact ⟨rfl, fun z => by cases z⟩
      · rw [if_neg (show ¬ (0 ≤ nv T n Z.2.1 ∧ nv T n Z.2.1 ≤ 63) from fun z => hv z.2), if_neg (show ¬ (0 ≤ nv T n Z.2.1 ∧ nv T n Z.2.1 ≤ 2 ^ w - 1) from fun z => by have := z.2; omega)]
        rw [if_neg (fun z => by cases z.2.1)]
        exact ⟨rfl, fun _ => rfl⟩
    · simp only [if_neg h2]
      rw [if_neg (fun z => by cases z.2.1)]
      exact ⟨rfl, fun _ => rfl⟩
  · simp only [if_neg h0]
    rw [if_neg (fun z => h0 z.1)]
    exact ⟨rfl, fun _ => rfl⟩
theorem zSt_p {T : Nat → Nat} {n a : Nat} (ha : a < 64) (A : ZS) : (zSt T n a A).2 = (zNu T n 0 63 (cond (decide (tkT T n A.2.1 = 2) && !(decide (nv T n A.2.1 &&& (127 ^^^ a) = 0))) (zTk T n false 2 A) A)).2 ∧ ((zNu T n 0 63 (cond (decide (tkT T n A.2.1 = 2) && !(decide (nv T n A.2.1 &&& (127 ^^^ a) = 0))) (zTk T n false 2 A) A)).2.1 = 0 → (zSt T n a A).1 = (zNu T n 0 63 (cond (decide (tkT T n A.2.1 = 2) && !(decide (nv T n A.2.1 &&& (127 ^^^ a) = 0))) (zTk T n false 2 A) A)).1) := by
  by_cases h0 : A.1 = 0
  · by_cases h2 : tkT T n A.2.1 = 2
    · have h99 := nv_le h2
      have hd := n_sd (nv T n A.2.1) (by omega) a ha
      rw [decide_eq_true h2, Bool.true_and]
      by_cases hc : nv T n A.2.1 &&& (127 ^^^ a) = 0
      · obtain ⟨c1, c2⟩ := hd.mp hc
        rw [decide_eq_true hc, Bool.not_true, cond_false]
        have e : zNu T n 0 63 A = (nv T n A.2.1, (0, tkE T n A.2.1, A.2.2)) := by
          unfold zNu
          rw [if_pos h0, if_pos h2, if_pos ⟨Nat.zero_le _, c1⟩]
        unfold zSt
        rw [e]
        dsimp only
        rw [if_neg (fun z => z.2.2 c2)]
        exact ⟨rfl, fun _ => rfl⟩
      · rw [decide_eq_false hc, Bool.not_false, cond_true]
        have e2 : zTk T n false 2 A = (2, A.2.1, A.2.2) := by
          unfold zTk
          rw [if_pos h0]
          rfl
        have e3 : zNu T n 0 63 (2, A.2.1, A.2.2) = (0, (2, A.2.1, A.2.2)) := by
          unfold zNu
          exact if_neg (fun z => by cases z)
        rw [e2, e3]
        refine ⟨?_, fun z => by cases z⟩
        by_cases c1 : nv T n A.2.1 ≤ 63
        · have e : zNu T n 0 63 A = (nv T n A.2.1, (0, tkE T n A.2.1, A.2.2)) := by
            unfold zNu
            rw [if_pos h0, if_pos h2, if_pos ⟨Nat.zero_le _, c1⟩]
          unfold zSt
          rw [e]
          dsimp only
          rw [if_pos ⟨h0, rfl, fun z => hc (hd.mpr ⟨c1, z⟩)⟩]
        · have e : zNu T n 0 63 A = (0, (2, A.2.1, A.2.2)) := by
            unfold zNu
            rw [if_pos h0, if_pos h2, if_neg (fun z => c1 z.2)]
          unfold zSt
          rw [e]
          dsimp only
          rw [if_neg (fun z => by cases z.2.1)]
    · rw [decide_eq_false h2, Bool.false_and, cond_false]
      have e : zNu T n 0 63 A = (0, (1, A.2.1, A.2.2)) := by
        unfold zNu
        rw [if_pos h0, if_neg h2]
      unfold zSt
      rw [e]
      dsimp only
      rw [if_neg (fun z => by cases z.2.1)]
      exact ⟨rfl, fun _ => rfl⟩
  · have e2 : zTk T n false 2 A = A := by
      unfold zTk
      rw [if_neg h0]
    have e3 : cond (decide (tkT T n A.2.1 = 2) && !(decide (nv T n A.2.1 &&& (127 ^^^ a) = 0))) (zTk T n false 2 A) A = A := by
      rw [e2]
      cases (decide (tkT T n A.2.1 = 2) && !(decide (nv T n A.2.1 &&& (127 ^^^ a) = 0))) <;> rfl
    rw [e3]
    unfold zSt
    dsimp only
    rw [if_neg (fun z => h0 z.1)]
    exact ⟨rfl, fun _ => rfl⟩
