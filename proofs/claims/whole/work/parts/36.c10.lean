/-! ===== the class: words made ===== -/
def HW (H : AH) (w c : Nat) (g1 g2 g3 : Nat → Int32) : AH := (H.1 + 3, H.2.1 + 192, fun x => if x = w then some (.inl (6, [.int (nI c), .ref H.1, .ref (H.1 + 1), .ref (H.1 + 2)])) else if x = H.1 then some (.inr (.inl (0, 64, g1))) else if x = H.1 + 1 then some (.inr (.inl (0, 64, g2))) else if x = H.1 + 2 then some (.inr (.inl (0, 64, g3))) else H.2.2 x)
theorem HW_w (H : AH) (w c : Nat) (g1 g2 g3 : Nat → Int32) : (HW H w c g1 g2 g3).2.2 w = some (.inl (6, [.int (nI c), .ref H.1, .ref (H.1 + 1), .ref (H.1 + 2)])) := if_pos rfl
theorem HW_1 {H : AH} {w : Nat} (hw : w < H.1) (c : Nat) (g1 g2 g3 : Nat → Int32) : (HW H w c g1 g2 g3).2.2 H.1 = some (.inr (.inl (0, 64, g1))) := (if_neg (by omega)).trans (if_pos rfl)
theorem HW_2 {H : AH} {w : Nat} (hw : w < H.1) (c : Nat) (g1 g2 g3 : Nat → Int32) : (HW H w c g1 g2 g3).2.2 (H.1 + 1) = some (.inr (.inl (0, 64, g2))) := (if_neg (by omega)).trans ((if_neg (by omega)).trans (if_pos rfl))
theorem HW_3 {H : AH} {w : Nat} (hw : w < H.1) (c : Nat) (g1 g2 g3 : Nat → Int32) : (HW H w c g1 g2 g3).2.2 (H.1 + 2) = some (.inr (.inl (0, 64, g3))) := (if_neg (by omega)).trans ((if_neg (by omega)).trans ((if_neg (by omega)).trans (if_pos rfl)))
theorem HW_o {H : AH} {w x : Nat} (hx : x ≠ w) (hx2 : x < H.1 ∨ H.1 + 3 ≤ x) (c : Nat) (g1 g2 g3 : Nat → Int32) : (HW H w c g1 g2 g3).2.2 x = H.2.2 x := (if_neg hx).trans ((if_neg (by omega)).trans ((if_neg (by omega)).trans (if_neg (by omega))))
theorem aIL_of {H : AH} {a n : Nat} {f : Nat → Int32} (e : H.2.2 a = some (.inr (.inl (0, n, f)))) {s : Nat} (hs : s < n) (hn : n < 2 ^ 31) : aIL H a (nI s) = some (f s) := by
  unfold aIL
  rw [e]
  refine (if_pos ⟨aIn_nI hs hn, show (0 : Nat) ≠ 1 by decide⟩).trans ?_
  rw [nI_clamp (by omega)]
theorem HW_put1 {H : AH} {w : Nat} (hw : w < H.1) (c : Nat) (g1 g2 g3 : Nat → Int32) {s : Nat} (hs : s < 64) (x : Int32) : aIS (HW H w c g1 g2 g3) H.1 (nI s) x = some (HW H w c (upd g1 s x) g2 g3) := by
  unfold aIS
  rw [HW_1 hw]
  refine (if_pos ⟨aIn_nI hs (show (64 : Nat) < 2 ^ 31 by decide), rfl⟩).trans ?_
  rw [nI_clamp (by omega)]
  refine congrArg some (Prod.ext rfl (Prod.ext rfl (funext fun y => ?_)))
  show (if y = H.1 then _ else (HW H w c g1 g2 g3).2.2 y) = (HW H w c (upd g1 s x) g2 g3).2.2 y
  by_cases hy : y = H.1
  · rw [if_pos hy, hy, HW_1 hw]
  · rw [if_neg hy]
    show (if y = w then _ else if y = H.1 then _ else _) = (if y = w then _ else if y = H.1 then _ else _)
    rw [if_neg hy, if_neg hy]
theorem HW_put2 {H : AH} {w : Nat} (hw : w < H.1) (c : Nat) (g1 g2 g3 : Nat → Int32) {s : Nat} (hs : s < 64) (x : Int32) : aIS (HW H w c g1 g2 g3) (H.1 + 1) (nI s) x = some (HW H w c g1 (upd g2 s x) g3) := by
  unfold aIS
  rw [HW_2 hw]
  refine (if_pos ⟨aIn_nI hs (show (64 : Nat) < 2 ^ 31 by decide), rfl⟩).trans ?_
  rw [nI_clamp (by omega)]
  refine congrArg some (Prod.ext rfl (Prod.ext rfl (funext fun y => ?_)))
  show (if y = H.1 + 1 then _ else (HW H w c g1 g2 g3).2.2 y) = (HW H w c g1 (upd g2 s x) g3).2.2 y
  by_cases hy : y = H.1 + 1
  · rw [if_pos hy, hy, HW_2 hw]
  · rw [if_neg hy]
    show (if y = w then _ else if y = H.1 then _ else if y = H.1 + 1 then _ else _) = (if y = w then _ else if y = H.1 then _ else if y = H.1 + 1 then _ else _)
    rw [if_neg hy, if_neg hy]
theorem HW_put3 {H : AH} {w : Nat} (hw : w < H.1) (c : Nat) (g1 g2 g3 : Nat → Int32) {s : Nat} (hs : s < 64) (x : Int32) : aIS (HW H w c g1 g2 g3) (H.1 + 2) (nI s) x = some (HW H w c g1 g2 (upd g3 s x)) := by
  unfold aIS
  rw [HW_3 hw]
  refine (if_pos ⟨aIn_nI hs (show (64 : Nat) < 2 ^ 31 by decide), rfl⟩).trans ?_
  rw [nI_clamp (by omega)]
  refine congrArg some (Prod.ext rfl (Prod.ext rfl (funext fun y => ?_)))
  show (if y = H.1 + 2 then _ else (HW H w c g1 g2 g3).2.2 y) = (HW H w c g1 g2 (upd g3 s x)).2.2 y
  by_cases hy : y = H.1 + 2
  · rw [if_pos hy, hy, HW_3 hw]
  · rw [if_neg hy]
    show (if y = w then _ else if y = H.1 then _ else if y = H.1 + 1 then _ else if y = H.1 + 2 then _ else _) = (if y = w then _ else if y = H.1 then _ else if y = H.1 + 1 then _ else if y = H.1 + 2 then _ else _)
    rw [if_neg hy, if_neg hy]
theorem aNA_n {H : AH} {t n : Nat} (hn : n ≤ 100000) : aNA H t (nI n) = some (H.1, aMk H n (.inr (.inl (t, n, fun _ => 0)))) := by
  unfold aNA
  rw [nI_clamp (by omega)]
  exact if_pos ⟨nI_pos (by omega), hn⟩
theorem aFP_of {H : AH} {a ci : Nat} {L : List Value} (e : H.2.2 a = some (.inl (ci, L))) {k : Nat} (hk : k < L.length) (v : Value) : aFP H a ci k v = some (aUp H a (.inl (ci, L.set k v))) := by
  unfold aFP
  rw [e]
  exact if_pos ⟨rfl, hk⟩
theorem up_at (H : AH) (a : Nat) (e : AE) : (aUp H a e).2.2 a = some e := if_pos rfl
theorem mk_at {H : AH} {n : Nat} {e : AE} {a : Nat} (h : a ≠ H.1) : (aMk H n e).2.2 a = H.2.2 a := if_neg h
/-! the lowest word of a set -/
def lo (s : Nat) : Nat := if s.testBit 0 = true then 0 else if s.testBit 1 = true then 1 else if s.testBit 2 = true then 2 else if s.testBit 3 = true then 3 else if s.testBit 4 = true then 4 else 5
theorem lo_1 : ∀ s, s < 64 → 1 ≤ s → (nI s &&& (-(nI s)) = nI (2 ^ lo s) ∧ lo s < 6 ∧ 2 ^ lo s ≤ s ∧ s.testBit (lo s) = true) ∧ (∀ i, i < 6 → (s - 2 ^ lo s).testBit i = (s.testBit i && !(decide (i = lo s)))) ∧ ∀ i, i < 6 → i < lo s → s.testBit i = false := by decide +kernel
theorem oS_0 (P : PS) : ∀ c, oS P 0 c = 0
  | 0 => rfl
  | c + 1 => by
    show oS P 0 c + (if Nat.testBit 0 c = true then P (6 + c) else 0) = 0
    rw [oS_0 P c, Nat.zero_testBit]
    rfl
theorem oS_rm (P : PS) {s r k : Nat} (hb : ∀ i, i < 6 → r.testBit i = (s.testBit i && !(decide (i = k)))) (hk : s.testBit k = true) : ∀ c, c ≤ 6 → oS P s c = oS P r c + (if k < c then P (6 + k) else 0)
  | 0, _ => rfl
  | c + 1, hc => by
    have ih := oS_rm P hb hk c (by omega)
    have hbc := hb c (by omega)
    show oS P s c + (if s.testBit c = true then P (6 + c) else 0) = oS P r c + (if r.testBit c = true then P (6 + c) else 0) + (if k < c + 1 then P (6 + k) else 0)
    rw [ih]
    by_cases e : c = k
    · rw [decide_eq_true e, Bool.not_true, Bool.and_false] at hbc
      rw [hbc, if_neg (show ¬ k < c by omega), if_neg (show ¬ false = true by decide), if_pos (show k < c + 1 by omega), e, if_pos hk]
    · rw [decide_eq_false e, Bool.not_false, Bool.and_true] at hbc
      rw [hbc]
      by_cases hkc : k < c
      · rw [if_pos hkc, if_pos (show k < c + 1 by omega)]; omega
      · rw [if_neg hkc, if_neg (show ¬ k < c + 1 by omega)]; omega
theorem oS_pow (P : PS) {b c : Nat} (hc : c ≤ 6) (hb : b < c) : oS P (2 ^ b) c = P (6 + b) := by
  rw [oS_rm P (s := 2 ^ b) (r := 0) (k := b) (fun i _ => by
    rw [Nat.zero_testBit, Nat.testBit_two_pow]
    by_cases e : i = b
    · rw [decide_eq_true e, decide_eq_true e.symm]; rfl
    · rw [decide_eq_false (fun z => e z.symm)]; rfl) (by rw [Nat.testBit_two_pow]; exact decide_eq_true rfl) c hc, oS_0, if_pos hb, Nat.zero_add]
theorem pBst_0 (P : PS) (m : Bool) : ∀ c, pBst P 0 m c = none
  | 0 => rfl
  | c + 1 => by
    simp only [pBst, pBst_0 P m c, Nat.zero_testBit, cond_false]
theorem pBst_bit (P : PS) (s : Nat) (m : Bool) : ∀ c b, pBst P s m c = some b → s.testBit b = true
  | 0, b, h => by cases h
  | c + 1, b, h => by
    simp only [pBst] at h
    cases e : pBst P s m c with
    | none =>
      rw [e] at h
      cases ht : s.testBit c with
      | true => rw [ht] at h; cases h; exact ht
      | false => rw [ht] at h; cases h
    | some b' =>
      rw [e] at h
      cases ht : s.testBit c && pBe P m b' c with
      | true =>
        simp only [ht, cond_true, Option.some.injEq] at h
        rw [← h]
        exact (Bool.and_eq_true _ _ ▸ ht).1
      | false =>
        simp only [ht, cond_false, Option.some.injEq] at h
        rw [← h]
        exact pBst_bit P s m c b' e
theorem pBst_some (P : PS) {s : Nat} (m : Bool) {i : Nat} (hi : s.testBit i = true) : ∀ c, i < c → pBst P s m c ≠ none
  | 0, h => by omega
  | c + 1, h => by
    simp only [pBst]
    cases e : pBst P s m c with
    | none =>
      by_cases hic : i = c
      · rw [← hic, hi]
        exact fun z => by cases z
      · exact absurd e (pBst_some P m hi c (by omega))
    | some b =>
      cases ht : s.testBit c && pBe P m b c with
      | true =>
        simp only [ht, cond_true]
        exact fun z => by cases z
      | false =>
        simp only [ht, cond_false]
        exact fun z => by cases z
theorem be_t (P : PS) (m : Bool) {a b c : Nat} (h1 : pBe P m a b = true) (h2 : pBe P m b c = true) : pBe P m a c = true := by
  unfold pBe at *
  cases m with
  | true =>
    have := of_decide_eq_true h1
    have := of_decide_eq_true h2
    exact decide_eq_true (by omega)
  | false =>
    have := of_decide_eq_true h1
    have := of_decide_eq_true h2
    exact decide_eq_true (by omega)
theorem be_f (P : PS) (m : Bool) {a b c : Nat} (h1 : pBe P m a b = false) (h2 : pBe P m b c = false) : pBe P m a c = false := by
  unfold pBe at *
  cases m with
  | true =>
    have := of_decide_eq_false h1
    have := of_decide_eq_false h2
    exact decide_eq_false (by omega)
  | false =>
    have := of_decide_eq_false h1
    have := of_decide_eq_false h2
    exact decide_eq_false (by omega)
def bsU (P : PS) (m : Bool) (k : Nat) (o : Option Nat) : Option Nat := match o with
  | none => some k
  | some b => cond (pBe P m k b) (some b) (some k)
theorem pBst_rm (P : PS) (m : Bool) {s r k : Nat} (hb : ∀ i, i < 6 → r.testBit i = (s.testBit i && !(decide (i = k)))) (hk : s.testBit k = true) (hlow : ∀ i, i < 6 → i < k → s.testBit i = false) : ∀ c, c ≤ 6 → (c ≤ k → pBst P s m c = none ∧ pBst P r m c = none) ∧ (k < c → pBst P s m c = bsU P m k (pBst P r m c))
  | 0, _ => ⟨fun _ => ⟨rfl, rfl⟩, fun h => by omega⟩
  | c + 1, hc => by
    obtain ⟨i1, i2⟩ := pBst_rm P m hb hk hlow c (by omega)
    have hbc := hb c (by omega)
    refine ⟨fun h => ?_, fun h => ?_⟩
    · obtain ⟨e1, e2⟩ := i1 (by omega)
      have hs := hlow c (by omega) (by omega)
      rw [hs, Bool.false_and] at hbc
      simp only [pBst, e1, e2, hs, hbc, cond_false]
      exact ⟨trivial, trivial⟩
    · by_cases e : c = k
      · obtain ⟨e1, e2⟩ := i1 (by omega)
        rw [decide_eq_true e, Bool.not_true, Bool.and_false] at hbc
        simp only [pBst, e1, e2, hbc, cond_false]
        rw [e, hk]
        rfl
      · rw [decide_eq_false e, Bool.not_false, Bool.and_true] at hbc
        have i2 := i2 (by omega)
        simp only [pBst, hbc, i2]
        cases er : pBst P r m c with
        | none =>
          show cond (s.testBit c && pBe P m k c) (some c) (some k) = bsU P m k (cond (s.testBit c) (some c) none)
          cases s.testBit c <;> rfl
        | some b =>
          show (match cond (pBe P m k b) (some b) (some k) with | none => cond (s.testBit c) (some c) none | some b => cond (s.testBit c && pBe P m b c) (some c) (some b)) = bsU P m k (cond (s.testBit c && pBe P m b c) (some c) (some b))
          cases hkb : pBe P m k b with
          | true =>
            show cond (s.testBit c && pBe P m b c) (some c) (some b) = bsU P m k (cond (s.testBit c && pBe P m b c) (some c) (some b))
            cases hx : s.testBit c && pBe P m b c with
            | true =>
              have := (Bool.and_eq_true _ _ ▸ hx).2
              show some c = cond (pBe P m k c) (some c) (some k)
              rw [be_t P m hkb this]
              rfl
            | false =>
              show some b = cond (pBe P m k b) (some b) (some k)
              rw [hkb]
              rfl
          | false =>
            show cond (s.testBit c && pBe P m k c) (some c) (some k) = bsU P m k (cond (s.testBit c && pBe P m b c) (some c) (some b))
            cases s.testBit c with
            | false =>
              show some k = cond (pBe P m k b) (some b) (some k)
              rw [hkb]
              rfl
            | true =>
              rw [Bool.true_and, Bool.true_and]
              cases hbc2 : pBe P m b c with
              | true => rfl
              | false =>
                show cond (pBe P m k c) (some c) (some k) = cond (pBe P m k b) (some b) (some k)
                rw [be_f P m hkb hbc2, hkb]
                rfl
theorem c_words (sa : Nat → Nat) (d : Nat) {H : AH} {w a : Nat} {f : Nat → Int32} {P : PS} (e0 : H.2.2 w = some (.inl (6, [.int 0, .null, .null, .null]))) (ea : H.2.2 a = some (.inr (.inl (0, 6, f)))) (hw : w < H.1) (ha : a < H.1) (h6 : P 2 ≤ 6) (h9 : ∀ k, k < P 2 → P (6 + k) ≤ 9 ∧ f k = nI (P (6 + k))) : ∃ g1 g2 g3, AMC sa (d + 2) 63 [.ref w, .ref a, .int (nI (P 2))] H = some (none, HW H w (P 2) g1 g2 g3) ∧ ∀ s, s < 2 ^ P 2 → g1 s = nI (oS P s (P 2)) ∧ g2 s = nI (pOne P s true) ∧ g3 s = nI (pOne P s false) := by
  have hne : a ≠ w := by
    intro e
    rw [e, e0] at ea
    cases ea
  have h64 := p2_64 _ h6
  have shl : (1 : Int32) <<< (nI (P 2) &&& 31) = nI (2 ^ P 2) := (show ∀ k, k ≤ 6 → (1 : Int32) <<< (nI k &&& 31) = nI (2 ^ k) by decide +kernel) _ h6
  have gI0 : ∀ g1 g2 g3, aFI (HW H w (P 2) g1 g2 g3) w 6 0 = some (nI (P 2)) := fun g1 g2 g3 => by unfold aFI; rw [HW_w]; rfl
  have gR1 : ∀ g1 g2 g3, aFR (HW H w (P 2) g1 g2 g3) w 6 1 = some H.1 := fun g1 g2 g3 => by unfold aFR; rw [HW_w]; rfl
  have gR2 : ∀ g1 g2 g3, aFR (HW H w (P 2) g1 g2 g3) w 6 2 = some (H.1 + 1) := fun g1 g2 g3 => by unfold aFR; rw [HW_w]; rfl
  have gR3 : ∀ g1 g2 g3, aFR (HW H w (P 2) g1 g2 g3) w 6 3 = some (H.1 + 2) := fun g1 g2 g3 => by unfold aFR; rw [HW_w]; rfl
  have l1 : ∀ g1 g2 g3 s, s < 64 → aIL (HW H w (P 2) g1 g2 g3) H.1 (nI s) = some (g1 s) := fun g1 g2 g3 s hs => aIL_of (HW_1 hw _ _ _ _) hs (by decide)
  have l2 : ∀ g1 g2 g3 s, s < 64 → aIL (HW H w (P 2) g1 g2 g3) (H.1 + 1) (nI s) = some (g2 s) := fun g1 g2 g3 s hs => aIL_of (HW_2 hw _ _ _ _) hs (by decide)
  have l3 : ∀ g1 g2 g3 s, s < 64 → aIL (HW H w (P 2) g1 g2 g3) (H.1 + 2) (nI s) = some (g3 s) := fun g1 g2 g3 s hs => aIL_of (HW_3 hw _ _ _ _) hs (by decide)
  have la : ∀ g1 g2 g3 k, k < 6 → aIL (HW H w (P 2) g1 g2 g3) a (nI k) = some (f k) := fun g1 g2 g3 k hk => aIL_of ((HW_o hne (Or.inl ha) _ _ _ _).trans ea) hk (by decide)
  have loop : ∀ m s g1 g2 g3 x4 x5 x6, s + m = 2 ^ P 2 → 1 ≤ s → (∀ t, t < s → g1 t = nI (oS P t (P 2)) ∧ g2 t = nI (pOne P t true) ∧ g3 t = nI (pOne P t false)) → ∃ g1' g2' g3', AMV sa (d + 1) 63 45 [.ref w, .ref a, .int (nI (P 2)), .int (nI s), x4, x5, x6] [] (HW H w (P 2) g1 g2 g3) = some (none, HW H w (P 2) g1' g2' g3') ∧ ∀ s, s < 2 ^ P 2 → g1' s = nI (oS P s (P 2)) ∧ g2' s = nI (pOne P s true) ∧ g3' s = nI (pOne P s false) := by
    intro m
    induction m with
    | zero =>
      intro s g1 g2 g3 x4 x5 x6 hs h1 hg
      have hs : s = 2 ^ P 2 := hs
      refine ⟨g1, g2, g3, ?_, by rw [← hs]; exact hg⟩
      rw [eX6_init_45, gI0, aOp_s, shl, if_pos (nI_le (by omega) (by omega))]
    | succ m ih =>
      intro s g1 g2 g3 x4 x5 x6 hs h1 hg
      obtain ⟨⟨b1, b2, b3, b4⟩, b5, b6⟩ := lo_1 s (by omega) h1
      obtain ⟨k, hk⟩ : ∃ k, k = lo s := ⟨_, rfl⟩
      rw [← hk] at b1 b2 b3 b4 b5 b6
      have hkc : k < P 2 := by
        rcases Nat.lt_or_ge k (P 2) with q | q
        · exact q
        · have := Nat.pow_le_pow_right (show 0 < 2 by decide) q
          omega
      have pk1 : 1 ≤ 2 ^ k := Nat.one_le_two_pow
      obtain ⟨r, hr⟩ : ∃ r, r = s - 2 ^ k := ⟨_, rfl⟩
      rw [← hr] at b5
      have hrs : r < s := by omega
      obtain ⟨r1, r2, r3⟩ := hg r hrs
      obtain ⟨p9, pf⟩ := h9 k hkc
      have eS : oS P s (P 2) = oS P r (P 2) + P (6 + k) := by rw [oS_rm P b5 b4 (P 2) h6, if_pos hkc]
      have eB : ∀ q, pBst P s q (P 2) = bsU P q k (pBst P r q (P 2)) := fun q => (pBst_rm P q b5 b4 b6 (P 2) h6).2 hkc
      -- the word of the rest
      have rest : ∀ q, pOne P r q < s ∧ ((pBst P r q (P 2) = none ∧ oS P (pOne P r q) (P 2) = 0) ∨ ∃ b, pBst P r q (P 2) = some b ∧ b < P 2 ∧ oS P (pOne P r q) (P 2) = P (6 + b) ∧ P (6 + b) ≤ 9) := by
        intro q
        unfold pOne
        cases e : pBst P r q (P 2) with
        | none => exact ⟨by show 0 < s; omega, Or.inl ⟨rfl, oS_0 P _⟩⟩
        | some b =>
          have hb := pBst_lt P r q _ _ e
          have hbit := pBst_bit P r q _ _ e
          have hle : 2 ^ b ≤ r := by
            rcases Nat.lt_or_ge r (2 ^ b) with z | z
            · rw [Nat.testBit_lt_two_pow z] at hbit; cases hbit
            · exact z
          exact ⟨by show 2 ^ b < s; omega, Or.inr ⟨b, rfl, hb, oS_pow P h6 hb, (h9 b hb).1⟩⟩
      obtain ⟨t1, t2⟩ := rest true
      obtain ⟨u1, u2⟩ := rest false
      obtain ⟨g1', hg1⟩ : ∃ g, g = upd g1 s (nI (oS P s (P 2))) := ⟨_, rfl⟩
      obtain ⟨g2', hg2⟩ : ∃ g, g = upd g2 s (nI (pOne P s true)) := ⟨_, rfl⟩
      obtain ⟨g3', hg3⟩ : ∃ g, g = upd g3 s (nI (pOne P s false)) := ⟨_, rfl⟩
      have sum1 : ∀ t, t < s → g1' t = nI (oS P t (P 2)) := fun t ht => by rw [hg1, pk_un (by omega)]; exact (hg t ht).1
      have st166 : ∀ x6 : Value, ∀ y : Int32, x6 = .int y → ∃ q1 q2 q3, AMV sa (d + 1) 63 166 [.ref w, .ref a, .int (nI (P 2)), .int (nI s), .int (nI (2 ^ k)), .int (nI r), x6] [.int (nI (pOne P s false)), .int (nI s), .ref (H.1 + 2)] (HW H w (P 2) g1' g2' g3) = some (none, HW H w (P 2) q1 q2 q3) ∧ ∀ s, s < 2 ^ P 2 → q1 s = nI (oS P s (P 2)) ∧ q2 s = nI (pOne P s true) ∧ q3 s = nI (pOne P s false) := by
        intro x6 y hx6
        rw [hx6, eX6_init_166, HW_put3 hw _ _ _ _ (by omega), aOp_s, ← hg3, nI_1]
        refine ih (s + 1) g1' g2' g3' _ _ _ (by omega) (by omega) (fun t ht => ?_)
        by_cases e : t = s
        · rw [e, hg1, hg2, hg3, pk_us, pk_us, pk_us]; exact ⟨rfl, rfl, rfl⟩
        · rw [hg1, hg2, hg3, pk_un e, pk_un e, pk_un e]; exact hg t (by omega)
      have st126 : ∃ q1 q2 q3, AMV sa (d + 1) 63 126 [.ref w, .ref a, .int (nI (P 2)), .int (nI s), .int (nI (2 ^ k)), .int (nI r), .int (nI (P (6 + k)))] [.int (nI (pOne P s true)), .int (nI s), .ref (H.1 + 1)] (HW H w (P 2) g1' g2 g3) = some (none, HW H w (P 2) q1 q2 q3) ∧ ∀ s, s < 2 ^ P 2 → q1 s = nI (oS P s (P 2)) ∧ q2 s = nI (pOne P s true) ∧ q3 s = nI (pOne P s false) := by
        rw [eX6_init_126, HW_put2 hw _ _ _ _ (by omega), aOp_s, ← hg2, gR3, aOp_s]
        by_cases h0 : r = 0
        · have e1 : pOne P s false = 2 ^ k := by
            unfold pOne
            rw [eB, h0, pBst_0]
            rfl
          have := st166 (.int (nI (P (6 + k)))) _ rfl
          rw [e1] at this
          rw [if_pos (show nI r = 0 by rw [h0]; rfl)]
          exact this
        · rw [if_neg (nI_ne0 (by omega) (by omega)), gR1, aOp_s, aOp_s, l3 _ _ _ _ (by omega), aOp_s, r3, l1 _ _ _ _ (by omega), aOp_s, sum1 _ u1]
          rcases u2 with ⟨z1, z2⟩ | ⟨b, z1, z2, z3, z4⟩
          · obtain ⟨⟨v1, v2, v3, v4⟩, -, -⟩ := lo_1 r (by omega) (by omega)
            have hlc : lo r < P 2 := by
              rcases Nat.lt_or_ge (lo r) (P 2) with q | q
              · exact q
              · have := Nat.pow_le_pow_right (show 0 < 2 by decide) q
                omega
            exact absurd z1 (pBst_some P false v4 _ hlc)
          · rw [z3]
            have e1 : pOne P s false = cond (pBe P false k b) (2 ^ b) (2 ^ k) := by
              unfold pOne
              rw [eB, z1]
              show (match cond (pBe P false k b) (some b) (some k) with | none => 0 | some b => 2 ^ b) = _
              cases pBe P false k b <;> rfl
            have e2 : pOne P r false = 2 ^ b := by unfold pOne; rw [z1]
            have := st166 (.int (nI (P (6 + k)))) _ rfl
            by_cases hc : P (6 + b) < P (6 + k)
            · have e3 : pBe P false k b = true := decide_eq_true hc
              rw [e1, e3, cond_true] at this
              rw [if_pos (nI_lt hc (by omega)), aOp_s, l3 _ _ _ _ (by omega), aOp_s, r3, e2]
              exact this
            · have e3 : pBe P false k b = false := decide_eq_false hc
              rw [e1, e3, cond_false] at this
              rw [if_neg (nI_nlt (by omega) (by omega))]
              exact this
      rw [eX6_init_45, gI0, aOp_s, shl, if_neg (nI_ge (by omega) (by omega)), b1, c_ntz sa d b2, aRI_mk, aOp_s, la _ _ _ _ (by omega), aOp_s, pf, gR1, aOp_s, aOp_s, pk_sub b3, ← hr, l1 _ _ _ _ (by omega), aOp_s, r1, nI_add, ← eS, HW_put1 hw _ _ _ _ (by omega), aOp_s, ← hg1, gR2, aOp_s, gR1, aOp_s, aOp_s, l2 _ _ _ _ (by omega), aOp_s, r2, l1 _ _ _ _ (by omega), aOp_s, sum1 _ t1]
      rcases t2 with ⟨z1, z2⟩ | ⟨b, z1, z2, z3, z4⟩
      · have e1 : pOne P s true = 2 ^ k := by
          unfold pOne
          rw [eB, z1]
          rfl
        rw [e1] at st126
        rw [z2, if_neg (nI_nlt (Nat.zero_le _) (by omega))]
        exact st126
      · rw [z3]
        have e1 : pOne P s true = cond (pBe P true k b) (2 ^ b) (2 ^ k) := by
          unfold pOne
          rw [eB, z1]
          show (match cond (pBe P true k b) (some b) (some k) with | none => 0 | some b => 2 ^ b) = _
          cases pBe P true k b <;> rfl
        have e2 : pOne P r true = 2 ^ b := by unfold pOne; rw [z1]
        by_cases hc : P (6 + k) < P (6 + b)
        · have e3 : pBe P true k b = true := decide_eq_true hc
          rw [e1, e3, cond_true] at st126
          rw [if_pos (nI_lt hc (by omega)), aOp_s, l2 _ _ _ _ (by omega), aOp_s, r2, e2]
          exact st126
        · have e3 : pBe P true k b = false := decide_eq_false hc
          rw [e1, e3, cond_false] at st126
          rw [if_neg (nI_nlt (by omega) (by omega))]
          exact st126
  -- how it begins
  have z0 : ∀ t, t < 1 → (fun _ => 0 : Nat → Int32) t = nI (oS P t (P 2)) ∧ (fun _ => 0 : Nat → Int32) t = nI (pOne P t true) ∧ (fun _ => 0 : Nat → Int32) t = nI (pOne P t false) := by
    intro t ht
    have ht : t = 0 := by omega
    subst ht
    unfold pOne
    rw [oS_0, pBst_0, pBst_0]
    exact ⟨rfl, rfl, rfl⟩
  have p1 : 1 ≤ 2 ^ P 2 := Nat.one_le_two_pow
  obtain ⟨q1, q2, q3, k1, k2⟩ := loop (2 ^ P 2 - 1) 1 (fun _ => 0) (fun _ => 0) (fun _ => 0) .null .null .null (by omega) (Nat.le_refl _) z0
  refine ⟨q1, q2, q3, ?_, k2⟩
  obtain ⟨H1, hH1⟩ : ∃ X, X = aMk H 64 (.inr (.inl (0, 64, fun _ => 0))) := ⟨_, rfl⟩
  obtain ⟨H2, hH2⟩ : ∃ X, X = aUp H1 w (.inl (6, [.int 0, .ref H.1, .null, .null])) := ⟨_, rfl⟩
  obtain ⟨H3, hH3⟩ : ∃ X, X = aMk H2 64 (.inr (.inl (0, 64, fun _ => 0))) := ⟨_, rfl⟩
  obtain ⟨H4, hH4⟩ : ∃ X, X = aUp H3 w (.inl (6, [.int 0, .ref H.1, .ref (H.1 + 1), .null])) := ⟨_, rfl⟩
  obtain ⟨H5, hH5⟩ : ∃ X, X = aMk H4 64 (.inr (.inl (0, 64, fun _ => 0))) := ⟨_, rfl⟩
  obtain ⟨H6, hH6⟩ : ∃ X, X = aUp H5 w (.inl (6, [.int 0, .ref H.1, .ref (H.1 + 1), .ref (H.1 + 2)])) := ⟨_, rfl⟩
  have a1 : H1.1 = H.1 + 1 := by rw [hH1]; rfl
  have a2 : H2.1 = H.1 + 1 := by rw [hH2]; exact a1
  have a3 : H3.1 = H.1 + 2 := by rw [hH3]; show H2.1 + 1 = _; omega
  have a4 : H4.1 = H.1 + 2 := by rw [hH4]; exact a3
  have a5 : H5.1 = H.1 + 3 := by rw [hH5]; show H4.1 + 1 = _; omega
  have c1 : H1.2.2 w = some (.inl (6, [.int 0, .null, .null, .null])) := by rw [hH1, mk_at (by omega)]; exact e0
  have c2 : H2.2.2 w = some (.inl (6, [.int 0, .ref H.1, .null, .null])) := by rw [hH2]; exact up_at _ _ _
  have c3 : H3.2.2 w = some (.inl (6, [.int 0, .ref H.1, .null, .null])) := by rw [hH3, mk_at (by omega)]; exact c2
  have c4 : H4.2.2 w = some (.inl (6, [.int 0, .ref H.1, .ref (H.1 + 1), .null])) := by rw [hH4]; exact up_at _ _ _
  have c5 : H5.2.2 w = some (.inl (6, [.int 0, .ref H.1, .ref (H.1 + 1), .null])) := by rw [hH5, mk_at (by omega)]; exact c4
  have c6 : H6.2.2 w = some (.inl (6, [.int 0, .ref H.1, .ref (H.1 + 1), .ref (H.1 + 2)])) := by rw [hH6]; exact up_at _ _ _
  have ca : H6.2.2 a = some (.inr (.inl (0, 6, f))) := by
    rw [hH6]
    refine (if_neg hne).trans ?_
    rw [hH5, mk_at (by omega), hH4]
    refine (if_neg hne).trans ?_
    rw [hH3, mk_at (by omega), hH2]
    refine (if_neg hne).trans ?_
    rw [hH1, mk_at (by omega)]
    exact ea
  have last : aUp H6 w (.inl (6, [.int (nI (P 2)), .ref H.1, .ref (H.1 + 1), .ref (H.1 + 2)])) = HW H w (P 2) (fun _ => 0) (fun _ => 0) (fun _ => 0) := by
    refine Prod.ext (by rw [hH6]; exact a5) (Prod.ext (by rw [hH6, hH5, hH4, hH3, hH2, hH1]; rfl) (funext fun x => ?_))
    rw [hH6, hH5, hH4, hH3, hH2, hH1]
    show (if x = w then _ else if x = w then _ else if x = H.1 + 1 + 1 then _ else if x = w then _ else if x = H.1 + 1 then _ else if x = w then _ else if x = H.1 then _ else H.2.2 x) = (if x = w then _ else if x = H.1 then _ else if x = H.1 + 1 then _ else if x = H.1 + 2 then _ else H.2.2 x)
    by_cases h0 : x = w
    · rw [if_pos h0, if_pos h0]
    · simp only [if_neg h0]
      by_cases h1 : x = H.1
      · rw [if_neg (show ¬ x = H.1 + 1 + 1 by omega), if_neg (show ¬ x = H.1 + 1 by omega), if_pos h1, if_pos h1]
      · by_cases h2 : x = H.1 + 1
        · rw [if_neg (show ¬ x = H.1 + 1 + 1 by omega), if_pos h2, if_neg h1, if_pos h2]
        · by_cases h3 : x = H.1 + 2
          · rw [if_pos (show x = H.1 + 1 + 1 by omega), if_neg h1, if_neg h2, if_pos h3]
          · rw [if_neg (show ¬ x = H.1 + 1 + 1 by omega), if_neg h2, if_neg h1, if_neg h1, if_neg h2, if_neg h3]
  have ln : aLen H6 a = some (nI 6) := by unfold aLen; rw [ca]; rfl
  have mn : (if (if (6 : Int32) < nI 6 then 6 else nI 6) < nI (P 2) then (if (6 : Int32) < nI 6 then 6 else nI 6) else nI (P 2)) = nI (P 2) := by
    rw [if_neg (show ¬ (6 : Int32) < nI 6 by decide), if_neg (nI_nlt h6 (by decide))]
  rw [fX6_init, eX6_init_0, show aNA H 0 64 = _ from aNA_n (n := 64) (by decide), aOp_s, ← hH1, aFP_of c1 (show 1 < 4 by decide), aOp_s, show ([.int 0, .null, .null, .null] : List Value).set 1 (.ref H.1) = [.int 0, .ref H.1, .null, .null] from rfl, ← hH2, show aNA H2 0 64 = _ from aNA_n (n := 64) (by decide), aOp_s, ← hH3, a2, aFP_of c3 (show 2 < 4 by decide), aOp_s, show ([.int 0, .ref H.1, .null, .null] : List Value).set 2 (.ref (H.1 + 1)) = [.int 0, .ref H.1, .ref (H.1 + 1), .null] from rfl, ← hH4, show aNA H4 0 64 = _ from aNA_n (n := 64) (by decide), aOp_s, ← hH5, a4, aFP_of c5 (show 3 < 4 by decide), aOp_s, show ([.int 0, .ref H.1, .ref (H.1 + 1), .null] : List Value).set 3 (.ref (H.1 + 2)) = [.int 0, .ref H.1, .ref (H.1 + 1), .ref (H.1 + 2)] from rfl, ← hH6, ln, aOp_s, mn, aFP_of c6 (show 0 < 4 by decide), aOp_s, show ([.int 0, .ref H.1, .ref (H.1 + 1), .ref (H.1 + 2)] : List Value).set 0 (.int (nI (P 2))) = [.int (nI (P 2)), .ref H.1, .ref (H.1 + 1), .ref (H.1 + 2)] from rfl, last]
  exact k1
/-! a heap below the picture grows -/
theorem aMk_mk {h : AH} {co : Nat} (hh : co + 53 ≤ h.1) (S : ST) (n : Nat) (e : AE) : aMk (mk h co S) n e = mk (aMk h n e) co S := by
  refine Prod.ext rfl (Prod.ext rfl (funext fun x => ?_))
  show (if x = h.1 then some e else if x = co ∨ (co + 6 ≤ x ∧ x < co + 53) then some (cell co S (x - co)) else h.2.2 x) = (if x = co ∨ (co + 6 ≤ x ∧ x < co + 53) then some (cell co S (x - co)) else if x = h.1 then some e else h.2.2 x)
  by_cases h1 : x = h.1
  · rw [if_pos h1, if_neg (by omega), if_pos h1]
  · rw [if_neg h1, if_neg h1]
theorem HW_mk {h : AH} {co : Nat} (hh : co + 53 ≤ h.1) (S : ST) {w : Nat} (hw : co + 53 ≤ w) (c : Nat) (g1 g2 g3 : Nat → Int32) : HW (mk h co S) w c g1 g2 g3 = mk (HW h w c g1 g2 g3) co S := by
  refine Prod.ext rfl (Prod.ext rfl (funext fun x => ?_))
  show (if x = w then some (.inl (6, [.int (nI c), .ref h.1, .ref (h.1 + 1), .ref (h.1 + 2)])) else if x = h.1 then some (.inr (.inl (0, 64, g1))) else if x = h.1 + 1 then some (.inr (.inl (0, 64, g2))) else if x = h.1 + 2 then some (.inr (.inl (0, 64, g3))) else if x = co ∨ (co + 6 ≤ x ∧ x < co + 53) then some (cell co S (x - co)) else h.2.2 x) = (if x = co ∨ (co + 6 ≤ x ∧ x < co + 53) then some (cell co S (x - co)) else if x = w then some (.inl (6, [.int (nI c), .ref h.1, .ref (h.1 + 1), .ref (h.1 + 2)])) else if x = h.1 then some (.inr (.inl (0, 64, g1))) else if x = h.1 + 1 then some (.inr (.inl (0, 64, g2))) else if x = h.1 + 2 then some (.inr (.inl (0, 64, g3))) else h.2.2 x)
  by_cases hr : x = co ∨ (co + 6 ≤ x ∧ x < co + 53)
  · rw [if_neg (by omega), if_neg (by omega), if_neg (by omega), if_neg (by omega), if_pos hr, if_pos hr]
  · rw [if_neg hr, if_neg hr]
