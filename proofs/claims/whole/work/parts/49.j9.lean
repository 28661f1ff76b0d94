/-! ===== the law's run ===== -/
def FULL (p : Nat) (g1 g2 g3 : Nat → Int32) : List AE := [(.inl (7, [.ref (p + 6), .ref (p + 10), .ref (p + 13), .ref (p + 17), .ref (p + 21), .ref (p + 30), .ref (p + 32), .ref (p + 38), .int 0, .int 0])), (.inl (6, [.int (nI 0), .ref (p + 3), .ref (p + 4), .ref (p + 5)])), (.inr (.inl (0, 6, fun _ => 0))), (.inr (.inl (0, 64, g1))), (.inr (.inl (0, 64, g2))), (.inr (.inl (0, 64, g3))), (.inl (3, [.ref (p + 6 + 1), .ref (p + 6 + 2), .ref (p + 6 + 3)])), (.inr (.inl (0, 8, lf (-1) 8))), (.inr (.inl (0, 8, fun _ => 0))), (.inr (.inl (0, 320, fun _ => 0))), (.inl (5, [.ref (p + 10 + 1), .ref (p + 10 + 2), .int 0, .int 0, .int 0, .int 0, .int 0])), (.inr (.inl (0, 100, fun _ => 0))), (.inr (.inl (0, 6, fun _ => 0))), (.inl (2, [.ref (p + 13 + 1), .ref (p + 13 + 2), .ref (p + 13 + 3), .ref (p + 1), .int 0, .int 0, .int 0, .int 0, .int 0, .int 0])), (.inr (.inl (0, 7, fun _ => 0))), (.inr (.inl (0, 7, fun _ => 0))), (.inr (.inl (0, 7, fun _ => 0))), (.inl (2, [.ref (p + 17 + 1), .ref (p + 17 + 2), .ref (p + 17 + 3), .ref (p + 1), .int 0, .int 0, .int 0, .int 0, .int 0, .int 0])), (.inr (.inl (0, 7, fun _ => 0))), (.inr (.inl (0, 7, fun _ => 0))), (.inr (.inl (0, 7, fun _ => 0))), (.inr (.inr (2, va_up (va_up (fun _ => none) 0 (some (p + 22))) 1 (some (p + 26))))), (.inl (2, [.ref (p + 22 + 1), .ref (p + 22 + 2), .ref (p + 22 + 3), .ref (p + 1), .int 0, .int 0, .int 0, .int 0, .int 0, .int 0])), (.inr (.inl (0, 7, fun _ => 0))), (.inr (.inl (0, 7, fun _ => 0))), (.inr (.inl (0, 7, fun _ => 0))), (.inl (2, [.ref (p + 26 + 1), .ref (p + 26 + 2), .ref (p + 26 + 3), .ref (p + 1), .int 0, .int 0, .int 0, .int 0, .int 0, .int 0])), (.inr (.inl (0, 7, fun _ => 0))), (.inr (.inl (0, 7, fun _ => 0))), (.inr (.inl (0, 7, fun _ => 0))), (.inl (0, [.ref (p + 30 + 1), .int 0, .int 0])), (.inr (.inl (0, 288, fun _ => 0))), (.inl (4, [.ref (p + 33), .ref (p + 32 + 5), .int 0])), (.inl (2, [.ref (p + 33 + 1), .ref (p + 33 + 2), .ref (p + 33 + 3), .ref (p + 1), .int 0, .int 0, .int 0, .int 0, .int 0, .int 0])), (.inr (.inl (0, 7, fun _ => 0))), (.inr (.inl (0, 7, fun _ => 0))), (.inr (.inl (0, 7, fun _ => 0))), (.inr (.inl (0, 12, fun _ => 0))), (.inl (1, [.ref (p + 38 + 1), .int 0])), (.inr (.inl (0, 16, fun _ => 0))), (.inl (8, [.ref (p + 40 + 1), .ref (p + 40 + 2), .ref (p + 40 + 3), .ref (p + 40 + 4), .int 0, .ref (p + 40 + 5), .int 0, .int 0, .int 0, .int 0, .int 0, .int 0, .int 0, .ref (p + 40 + 6), .ref (p + 40 + 7), .ref (p + 40 + 8), .ref (p + 40 + 9), .int 0, .ref (p + 40 + 10), .ref (p + 40 + 11), .ref (p + 40 + 12), .int 0])), (.inr (.inl (0, 8, lf (-1000000) 8))), (.inr (.inl (0, 8, fun _ => 0))), (.inr (.inl (0, 320, fun _ => 0))), (.inr (.inl (0, 40, fun _ => 0))), (.inr (.inl (0, 100, fun _ => 0))), (.inr (.inl (0, 40, fun _ => 0))), (.inr (.inl (0, 40, fun _ => 0))), (.inr (.inl (0, 40, fun _ => 0))), (.inr (.inl (0, 960, fun _ => 0))), (.inr (.inl (0, 80, fun _ => 0))), (.inr (.inl (1, 2, fun _ => 0))), (.inr (.inl (0, 16, fun _ => 0)))]
def S0 (p : Nat) : ST := (fun _ _ => 0, fun _ => p + 1, fun c => if c = 7 then lf (-1) 8 else if c = 41 then lf (-1000000) 8 else fun _ => 0)
theorem full_cell (p : Nat) (g1 g2 g3 : Nat → Int32) : ∀ i, i < 53 → (i = 0 ∨ 6 ≤ i) → (FULL p g1 g2 g3)[i]? = some (cell p (S0 p) i) := by
  intro i hi h0
  match i, hi, h0 with
  | 0, _, _ => rfl
  | 1, _, h => exact absurd h (by omega)
  | 2, _, h => exact absurd h (by omega)
  | 3, _, h => exact absurd h (by omega)
  | 4, _, h => exact absurd h (by omega)
  | 5, _, h => exact absurd h (by omega)
  | 6, _, _ => rfl
  | 7, _, _ => rfl
  | 8, _, _ => rfl
  | 9, _, _ => rfl
  | 10, _, _ => rfl
  | 11, _, _ => rfl
  | 12, _, _ => rfl
  | 13, _, _ => rfl
  | 14, _, _ => rfl
  | 15, _, _ => rfl
  | 16, _, _ => rfl
  | 17, _, _ => rfl
  | 18, _, _ => rfl
  | 19, _, _ => rfl
  | 20, _, _ => rfl
  | 21, _, _ =>
    refine congrArg (fun r => some (Sum.inr (Sum.inr ((2 : Nat), r)) : AE)) (funext fun j => ?_)
    show (if j = 1 then some (p + 26) else if j = 0 then some (p + 22) else none) = (if j = 0 then some (p + 22) else if j = 1 then some (p + 26) else none)
    by_cases h1 : j = 1
    · rw [if_pos h1, if_neg (by omega), if_pos h1]
    · rw [if_neg h1, if_neg h1]
  | 22, _, _ => rfl
  | 23, _, _ => rfl
  | 24, _, _ => rfl
  | 25, _, _ => rfl
  | 26, _, _ => rfl
  | 27, _, _ => rfl
  | 28, _, _ => rfl
  | 29, _, _ => rfl
  | 30, _, _ => rfl
  | 31, _, _ => rfl
  | 32, _, _ => rfl
  | 33, _, _ => rfl
  | 34, _, _ => rfl
  | 35, _, _ => rfl
  | 36, _, _ => rfl
  | 37, _, _ => rfl
  | 38, _, _ => rfl
  | 39, _, _ => rfl
  | 40, _, _ => rfl
  | 41, _, _ => rfl
  | 42, _, _ => rfl
  | 43, _, _ => rfl
  | 44, _, _ => rfl
  | 45, _, _ => rfl
  | 46, _, _ => rfl
  | 47, _, _ => rfl
  | 48, _, _ => rfl
  | 49, _, _ => rfl
  | 50, _, _ => rfl
  | 51, _, _ => rfl
  | 52, _, _ => rfl
  | k + 53, h, _ => omega
theorem hl_out (h : AH) (L : List AE) (n : Nat) {x : Nat} (hx : x < h.1) : (hl h L n).2.2 x = h.2.2 x := if_neg (by omega)
theorem mk_self (h : AH) (g1 g2 g3 : Nat → Int32) (n : Nat) : mk (hl h (FULL h.1 g1 g2 g3) n) h.1 (S0 h.1) = hl h (FULL h.1 g1 g2 g3) n := by
  refine Prod.ext rfl (Prod.ext rfl (funext fun x => ?_))
  show (if x = h.1 ∨ (h.1 + 6 ≤ x ∧ x < h.1 + 53) then some (cell h.1 (S0 h.1) (x - h.1)) else (hl h (FULL h.1 g1 g2 g3) n).2.2 x) = _
  by_cases hr : x = h.1 ∨ (h.1 + 6 ≤ x ∧ x < h.1 + 53)
  · obtain ⟨i, rfl⟩ : ∃ i, x = h.1 + i := ⟨x - h.1, by omega⟩
    rw [if_pos hr, Nat.add_sub_cancel_left, hl_get h _ n (show i < 53 by omega), full_cell h.1 g1 g2 g3 i (by omega) (by omega)]
  · rw [if_neg hr]
theorem JJ_0 (sa : Nat → Nat) (h : AH) (g1 g2 g3 : Nat → Int32) (n : Nat) (hz : g1 0 = 0 ∧ g2 0 = 0 ∧ g3 0 = 0) (hsa : ∀ k, k < 3 → sa k < h.1 ∧ ∃ f, h.2.2 (sa k) = some (.inr (.inl (2, 6, f))) ∧ ∀ j, j < 6 → f j = aTab k j) : JJ sa (hl h (FULL h.1 g1 g2 g3) n) h.1 0 (S0 h.1) := by
  have o : ∀ i, 1 ≤ i → i ≤ 5 → oK (hl h (FULL h.1 g1 g2 g3) n) h.1 (h.1 + i) := fun i h1 h5 => ⟨by omega, show h.1 + i < h.1 + 53 by omega⟩
  have w0 : wE (hl h (FULL h.1 g1 g2 g3) n) h.1 (h.1 + 1) (fun _ => 0) := by
    refine ⟨h.1 + 3, h.1 + 4, h.1 + 5, g1, g2, g3, o 1 (by decide) (by decide), o 3 (by decide) (by decide), o 4 (by decide) (by decide), o 5 (by decide) (by decide), hl_get h _ n (show 1 < 53 by decide), hl_get h _ n (show 3 < 53 by decide), hl_get h _ n (show 4 < 53 by decide), hl_get h _ n (show 5 < 53 by decide), fun s hs => ?_⟩
    have hs : s < 1 := hs
    have hs : s = 0 := by omega
    subst hs
    exact hz
  have e0 : ∀ c, qc c → cE (hl h (FULL h.1 g1 g2 g3) n) h.1 (S0 h.1) c (fun _ => 0) := fun c hc => ⟨hc, w0, rfl, rfl, rfl, rfl, rfl, rfl, fun l hl => absurd (show l < 0 from hl) (by omega)⟩
  have g0 : gd 0 (fun _ => 0) := by
    refine ⟨⟨Nat.zero_le _, Nat.zero_le _, fun _ _ => Nat.zero_le _, fun _ _ => ⟨Nat.zero_le _, show 0 < 64 by decide, show 0 < 64 by decide, Nat.zero_le _⟩, Nat.zero_le _, Nat.zero_le _, Nat.zero_le _, Nat.zero_le _⟩, fun l hl => absurd (show l < 0 from hl) (by omega), Nat.zero_le _, ?_⟩
    have := cw_le (fun _ => 0) 7
    show 0 + 108 * cw (fun _ => 0) 7 ≤ 756 + 108 * 0
    omega
  refine ⟨fun _ => 0, fun _ _ => 0, 0, fun _ _ => 0, fun _ => 3, fun _ => 0, fun _ _ => 0, fun _ => 0, 0, 0, 0, fun _ => 0, 0, ⟨e0 17 (Or.inr (Or.inl rfl)), ⟨0, by decide, by decide, rfl, rfl, fun k hk => by omega⟩⟩, ⟨e0 22 (Or.inr (Or.inr (Or.inl rfl))), e0 26 (Or.inr (Or.inr (Or.inr (Or.inl rfl)))), fun r hr => ⟨Nat.le_refl _, Nat.zero_le _, ?_, rfl, fun i hi => absurd (show i < 0 from hi) (by omega)⟩, ⟨rfl, by decide, fun j hj => by omega⟩, rfl, rfl, ⟨rfl, by decide, fun j hj => by omega⟩⟩, ⟨⟨Or.inl rfl, fun j hj => rfl⟩, ⟨rfl, by decide, fun k hk => by omega⟩, fun k hk => ⟨rfl, fun z => absurd (show 0 < 0 from z) (by omega)⟩, fun r hr => ⟨Nat.le_refl _, Nat.zero_le _, ?_, rfl, fun i hi => absurd (show i < 0 from hi) (by omega)⟩, ⟨rfl, by decide, fun j hj => by omega⟩, rfl, rfl, ⟨rfl, by decide, fun j hj => by omega⟩⟩, ⟨g0, fun k hk => by omega, fun k _ => g0⟩, fun k hk => ?_, show h.1 + 53 ≤ h.1 + 53 from Nat.le_refl _⟩
  · show (if r < 8 then (-1 : Int32) else 0) = (if 3 = 3 then -1 else nI 3)
    rw [if_pos hr, if_pos rfl]
  · show (if r < 8 then (-1000000 : Int32) else 0) = (if 3 = 3 then -1000000 else nI 3)
    rw [if_pos hr, if_pos rfl]
  · obtain ⟨h1, f, e, hf⟩ := hsa k hk
    exact ⟨⟨by omega, show sa k < h.1 + 53 by omega⟩, f, (hl_out h _ n h1).trans e, hf⟩
theorem hl_0 (h : AH) : hl h [] h.2.1 = h := Prod.ext rfl (Prod.ext rfl (funext fun x => if_neg (by show ¬ (h.1 ≤ x ∧ x < h.1 + 0); omega)))
set_option maxHeartbeats 4000000 in
set_option maxRecDepth 100000 in
theorem whole_run : aLawRun := by
  intro sa b L lo xs h hL hst
  obtain ⟨s1, s2, s3, s4, s5, s6⟩ := hst
  obtain ⟨g1, g2, g3, hz, kc⟩ := i_class sa 17 h (h.2.1 + 10)
  have e0 : aMk h 10 (.inl (7, [.null, .null, .null, .null, .null, .null, .null, .null, .int 0, .int 0])) = hl h [(.inl (7, [.null, .null, .null, .null, .null, .null, .null, .null, .int 0, .int 0]))] (h.2.1 + 10) := by
    have := hl_mk h [] h.2.1 10 (.inl (7, [.null, .null, .null, .null, .null, .null, .null, .null, .int 0, .int 0]))
    rw [hl_0] at this
    exact this
  have km : AMC sa 20 106 [.ref (h.1 + 40)] (hl h [(.inl (7, [.ref (h.1 + 6), .ref (h.1 + 10), .ref (h.1 + 13), .ref (h.1 + 17), .ref (h.1 + 21), .ref (h.1 + 30), .ref (h.1 + 32), .ref (h.1 + 38), .int 0, .int 0])), (.inl (6, [.int (nI 0), .ref (h.1 + 3), .ref (h.1 + 4), .ref (h.1 + 5)])), (.inr (.inl (0, 6, fun _ => 0))), (.inr (.inl (0, 64, g1))), (.inr (.inl (0, 64, g2))), (.inr (.inl (0, 64, g3))), (.inl (3, [.ref (h.1 + 6 + 1), .ref (h.1 + 6 + 2), .ref (h.1 + 6 + 3)])), (.inr (.inl (0, 8, lf (-1) 8))), (.inr (.inl (0, 8, fun _ => 0))), (.inr (.inl (0, 320, fun _ => 0))), (.inl (5, [.ref (h.1 + 10 + 1), .ref (h.1 + 10 + 2), .int 0, .int 0, .int 0, .int 0, .int 0])), (.inr (.inl (0, 100, fun _ => 0))), (.inr (.inl (0, 6, fun _ => 0))), (.inl (2, [.ref (h.1 + 13 + 1), .ref (h.1 + 13 + 2), .ref (h.1 + 13 + 3), .ref (h.1 + 1), .int 0, .int 0, .int 0, .int 0, .int 0, .int 0])), (.inr (.inl (0, 7, fun _ => 0))), (.inr (.inl (0, 7, fun _ => 0))), (.inr (.inl (0, 7, fun _ => 0))), (.inl (2, [.ref (h.1 + 17 + 1), .ref (h.1 + 17 + 2), .ref (h.1 + 17 + 3), .ref (h.1 + 1), .int 0, .int 0, .int 0, .int 0, .int 0, .int 0])), (.inr (.inl (0, 7, fun _ => 0))), (.inr (.inl (0, 7, fun _ => 0))), (.inr (.inl (0, 7, fun _ => 0))), (.inr (.inr (2, va_up (va_up (fun _ => none) 0 (some (h.1 + 22))) 1 (some (h.1 + 26))))), (.inl (2, [.ref (h.1 + 22 + 1), .ref (h.1 + 22 + 2), .ref (h.1 + 22 + 3), .ref (h.1 + 1), .int 0, .int 0, .int 0, .int 0, .int 0, .int 0])), (.inr (.inl (0, 7, fun _ => 0))), (.inr (.inl (0, 7, fun _ => 0))), (.inr (.inl (0, 7, fun _ => 0))), (.inl (2, [.ref (h.1 + 26 + 1), .ref (h.1 + 26 + 2), .ref (h.1 + 26 + 3), .ref (h.1 + 1), .int 0, .int 0, .int 0, .int 0, .int 0, .int 0])), (.inr (.inl (0, 7, fun _ => 0))), (.inr (.inl (0, 7, fun _ => 0))), (.inr (.inl (0, 7, fun _ => 0))), (.inl (0, [.ref (h.1 + 30 + 1), .int 0, .int 0])), (.inr (.inl (0, 288, fun _ => 0))), (.inl (4, [.ref (h.1 + 33), .ref (h.1 + 32 + 5), .int 0])), (.inl (2, [.ref (h.1 + 33 + 1), .ref (h.1 + 33 + 2), .ref (h.1 + 33 + 3), .ref (h.1 + 1), .int 0, .int 0, .int 0, .int 0, .int 0, .int 0])), (.inr (.inl (0, 7, fun _ => 0))), (.inr (.inl (0, 7, fun _ => 0))), (.inr (.inl (0, 7, fun _ => 0))), (.inr (.inl (0, 12, fun _ => 0))), (.inl (1, [.ref (h.1 + 38 + 1), .int 0])), (.inr (.inl (0, 16, fun _ => 0))), (.inl (8, [.null, .null, .null, .null, .int 0, .null, .int 0, .int 0, .int 0, .int 0, .int 0, .int 0, .int 0, .null, .null, .null, .null, .int 0, .null, .null, .null, .int 0]))] (((((((((((((((((((((((((((((((((((h.2.1 + 10) + 4 + 6) + 192) + 3) + 8) + 8) + 320) + 7) + 100) + 6) + 10) + 7) + 7) + 7) + 10) + 7) + 7) + 7) + 2) + 10) + 7) + 7) + 7) + 10) + 7) + 7) + 7) + 3) + 288) + 3 + 10) + 7 + 7 + 7) + 12) + 2) + 16) + 22)) = some (none, hl h (FULL h.1 g1 g2 g3) (((((((((((((((((((((((((((((((((((((((((((((((h.2.1 + 10) + 4 + 6) + 192) + 3) + 8) + 8) + 320) + 7) + 100) + 6) + 10) + 7) + 7) + 7) + 10) + 7) + 7) + 7) + 2) + 10) + 7) + 7) + 7) + 10) + 7) + 7) + 7) + 3) + 288) + 3 + 10) + 7 + 7 + 7) + 12) + 2) + 16) + 22) + 8) + 8) + 320) + 40) + 100) + 40) + 40) + 40) + 960) + 80) + 2) + 16)) := i_model sa 19 h [(.inl (7, [.ref (h.1 + 6), .ref (h.1 + 10), .ref (h.1 + 13), .ref (h.1 + 17), .ref (h.1 + 21), .ref (h.1 + 30), .ref (h.1 + 32), .ref (h.1 + 38), .int 0, .int 0])), (.inl (6, [.int (nI 0), .ref (h.1 + 3), .ref (h.1 + 4), .ref (h.1 + 5)])), (.inr (.inl (0, 6, fun _ => 0))), (.inr (.inl (0, 64, g1))), (.inr (.inl (0, 64, g2))), (.inr (.inl (0, 64, g3))), (.inl (3, [.ref (h.1 + 6 + 1), .ref (h.1 + 6 + 2), .ref (h.1 + 6 + 3)])), (.inr (.inl (0, 8, lf (-1) 8))), (.inr (.inl (0, 8, fun _ => 0))), (.inr (.inl (0, 320, fun _ => 0))), (.inl (5, [.ref (h.1 + 10 + 1), .ref (h.1 + 10 + 2), .int 0, .int 0, .int 0, .int 0, .int 0])), (.inr (.inl (0, 100, fun _ => 0))), (.inr (.inl (0, 6, fun _ => 0))), (.inl (2, [.ref (h.1 + 13 + 1), .ref (h.1 + 13 + 2), .ref (h.1 + 13 + 3), .ref (h.1 + 1), .int 0, .int 0, .int 0, .int 0, .int 0, .int 0])), (.inr (.inl (0, 7, fun _ => 0))), (.inr (.inl (0, 7, fun _ => 0))), (.inr (.inl (0, 7, fun _ => 0))), (.inl (2, [.ref (h.1 + 17 + 1), .ref (h.1 + 17 + 2), .ref (h.1 + 17 + 3), .ref (h.1 + 1), .int 0, .int 0, .int 0, .int 0, .int 0, .int 0])), (.inr (.inl (0, 7, fun _ => 0))), (.inr (.inl (0, 7, fun _ => 0))), (.inr (.inl (0, 7, fun _ => 0))), (.inr (.inr (2, va_up (va_up (fun _ => none) 0 (some (h.1 + 22))) 1 (some (h.1 + 26))))), (.inl (2, [.ref (h.1 + 22 + 1), .ref (h.1 + 22 + 2), .ref (h.1 + 22 + 3), .ref (h.1 + 1), .int 0, .int 0, .int 0, .int 0, .int 0, .int 0])), (.inr (.inl (0, 7, fun _ => 0))), (.inr (.inl (0, 7, fun _ => 0))), (.inr (.inl (0, 7, fun _ => 0))), (.inl (2, [.ref (h.1 + 26 + 1), .ref (h.1 + 26 + 2), .ref (h.1 + 26 + 3), .ref (h.1 + 1), .int 0, .int 0, .int 0, .int 0, .int 0, .int 0])), (.inr (.inl (0, 7, fun _ => 0))), (.inr (.inl (0, 7, fun _ => 0))), (.inr (.inl (0, 7, fun _ => 0))), (.inl (0, [.ref (h.1 + 30 + 1), .int 0, .int 0])), (.inr (.inl (0, 288, fun _ => 0))), (.inl (4, [.ref (h.1 + 33), .ref (h.1 + 32 + 5), .int 0])), (.inl (2, [.ref (h.1 + 33 + 1), .ref (h.1 + 33 + 2), .ref (h.1 + 33 + 3), .ref (h.1 + 1), .int 0, .int 0, .int 0, .int 0, .int 0, .int 0])), (.inr (.inl (0, 7, fun _ => 0))), (.inr (.inl (0, 7, fun _ => 0))), (.inr (.inl (0, 7, fun _ => 0))), (.inr (.inl (0, 12, fun _ => 0))), (.inl (1, [.ref (h.1 + 38 + 1), .int 0])), (.inr (.inl (0, 16, fun _ => 0)))] (((((((((((((((((((((((((((((((((((h.2.1 + 10) + 4 + 6) + 192) + 3) + 8) + 8) + 320) + 7) + 100) + 6) + 10) + 7) + 7) + 7) + 10) + 7) + 7) + 7) + 2) + 10) + 7) + 7) + 7) + 10) + 7) + 7) + 7) + 3) + 288) + 3 + 10) + 7 + 7 + 7) + 12) + 2) + 16) + 22)
  have hJ := JJ_0 sa h g1 g2 g3 (((((((((((((((((((((((((((((((((((((((((((((((h.2.1 + 10) + 4 + 6) + 192) + 3) + 8) + 8) + 320) + 7) + 100) + 6) + 10) + 7) + 7) + 7) + 10) + 7) + 7) + 7) + 2) + 10) + 7) + 7) + 7) + 10) + 7) + 7) + 7) + 3) + 288) + 3 + 10) + 7 + 7 + 7) + 12) + 2) + 16) + 22) + 8) + 8) + 320) + 40) + 100) + 40) + 40) + 40) + 960) + 80) + 2) + 16) hz (fun k hk => by
    obtain ⟨f, e, hf⟩ := s4 k hk
    exact ⟨by rw [s1]; exact s6 k hk, f, e, hf⟩)
  have hsc : sc (hl h (FULL h.1 g1 g2 g3) (((((((((((((((((((((((((((((((((((((((((((((((h.2.1 + 10) + 4 + 6) + 192) + 3) + 8) + 8) + 320) + 7) + 100) + 6) + 10) + 7) + 7) + 7) + 10) + 7) + 7) + 7) + 2) + 10) + 7) + 7) + 7) + 10) + 7) + 7) + 7) + 3) + 288) + 3 + 10) + 7 + 7 + 7) + 12) + 2) + 16) + 22) + 8) + 8) + 320) + 40) + 100) + 40) + 40) + 40) + 960) + 80) + 2) + 16)) h.1 b L xs := ⟨⟨by rw [s1]; omega, show b < h.1 + 53 by rw [s1]; omega⟩, (hl_out h _ _ (by rw [s1]; exact s5)).trans s3⟩
  obtain ⟨g, r1, r2, r3⟩ := law_loop (X := h.1 + 53) (Y := (((((((((((((((((((((((((((((((((((((((((((((((h.2.1 + 10) + 4 + 6) + 192) + 3) + 8) + 8) + 320) + 7) + 100) + 6) + 10) + 7) + 7) + 7) + 10) + 7) + 7) + 7) + 2) + 10) + 7) + 7) + 7) + 10) + 7) + 7) + 7) + 3) + 288) + 3 + 10) + 7 + 7 + 7) + 12) + 2) + 16) + 22) + 8) + 8) + 320) + 40) + 100) + 40) + 40) + 40) + 960) + 80) + 2) + 16)) hL (L / 6) 0 (hl h (FULL h.1 g1 g2 g3) (((((((((((((((((((((((((((((((((((((((((((((((h.2.1 + 10) + 4 + 6) + 192) + 3) + 8) + 8) + 320) + 7) + 100) + 6) + 10) + 7) + 7) + 7) + 10) + 7) + 7) + 7) + 2) + 10) + 7) + 7) + 7) + 10) + 7) + 7) + 7) + 3) + 288) + 3 + 10) + 7 + 7 + 7) + 12) + 2) + 16) + 22) + 8) + 8) + 320) + 40) + 100) + 40) + 40) + 40) + 960) + 80) + 2) + 16)) (S0 h.1) (by omega) hJ hsc (Nat.le_refl _) (Nat.le_refl _)
  rw [mk_self] at r1
  refine ⟨20, g, ?_, by decide, by rw [← s1]; omega, by omega⟩
  rw [eL_law_0, e0, show AMC sa 20 64 [.ref h.1] (hl h [(.inl (7, [.null, .null, .null, .null, .null, .null, .null, .null, .int 0, .int 0]))] (h.2.1 + 10)) = _ from kc, aRV_mk, aOp_s, hl_mk]
  show aOp (aRV (AMC sa 20 106 [.ref (h.1 + 40)] (hl h [(.inl (7, [.ref (h.1 + 6), .ref (h.1 + 10), .ref (h.1 + 13), .ref (h.1 + 17), .ref (h.1 + 21), .ref (h.1 + 30), .ref (h.1 + 32), .ref (h.1 + 38), .int 0, .int 0])), (.inl (6, [.int (nI 0), .ref (h.1 + 3), .ref (h.1 + 4), .ref (h.1 + 5)])), (.inr (.inl (0, 6, fun _ => 0))), (.inr (.inl (0, 64, g1))), (.inr (.inl (0, 64, g2))), (.inr (.inl (0, 64, g3))), (.inl (3, [.ref (h.1 + 6 + 1), .ref (h.1 + 6 + 2), .ref (h.1 + 6 + 3)])), (.inr (.inl (0, 8, lf (-1) 8))), (.inr (.inl (0, 8, fun _ => 0))), (.inr (.inl (0, 320, fun _ => 0))), (.inl (5, [.ref (h.1 + 10 + 1), .ref (h.1 + 10 + 2), .int 0, .int 0, .int 0, .int 0, .int 0])), (.inr (.inl (0, 100, fun _ => 0))), (.inr (.inl (0, 6, fun _ => 0))), (.inl (2, [.ref (h.1 + 13 + 1), .ref (h.1 + 13 + 2), .ref (h.1 + 13 + 3), .ref (h.1 + 1), .int 0, .int 0, .int 0, .int 0, .int 0, .int 0])), (.inr (.inl (0, 7, fun _ => 0))), (.inr (.inl (0, 7, fun _ => 0))), (.inr (.inl (0, 7, fun _ => 0))), (.inl (2, [.ref (h.1 + 17 + 1), .ref (h.1 + 17 + 2), .ref (h.1 + 17 + 3), .ref (h.1 + 1), .int 0, .int 0, .int 0, .int 0, .int 0, .int 0])), (.inr (.inl (0, 7, fun _ => 0))), (.inr (.inl (0, 7, fun _ => 0))), (.inr (.inl (0, 7, fun _ => 0))), (.inr (.inr (2, va_up (va_up (fun _ => none) 0 (some (h.1 + 22))) 1 (some (h.1 + 26))))), (.inl (2, [.ref (h.1 + 22 + 1), .ref (h.1 + 22 + 2), .ref (h.1 + 22 + 3), .ref (h.1 + 1), .int 0, .int 0, .int 0, .int 0, .int 0, .int 0])), (.inr (.inl (0, 7, fun _ => 0))), (.inr (.inl (0, 7, fun _ => 0))), (.inr (.inl (0, 7, fun _ => 0))), (.inl (2, [.ref (h.1 + 26 + 1), .ref (h.1 + 26 + 2), .ref (h.1 + 26 + 3), .ref (h.1 + 1), .int 0, .int 0, .int 0, .int 0, .int 0, .int 0])), (.inr (.inl (0, 7, fun _ => 0))), (.inr (.inl (0, 7, fun _ => 0))), (.inr (.inl (0, 7, fun _ => 0))), (.inl (0, [.ref (h.1 + 30 + 1), .int 0, .int 0])), (.inr (.inl (0, 288, fun _ => 0))), (.inl (4, [.ref (h.1 + 33), .ref (h.1 + 32 + 5), .int 0])), (.inl (2, [.ref (h.1 + 33 + 1), .ref (h.1 + 33 + 2), .ref (h.1 + 33 + 3), .ref (h.1 + 1), .int 0, .int 0, .int 0, .int 0, .int 0, .int 0])), (.inr (.inl (0, 7, fun _ => 0))), (.inr (.inl (0, 7, fun _ => 0))), (.inr (.inl (0, 7, fun _ => 0))), (.inr (.inl (0, 12, fun _ => 0))), (.inl (1, [.ref (h.1 + 38 + 1), .int 0])), (.inr (.inl (0, 16, fun _ => 0))), (.inl (8, [.null, .null, .null, .null, .int 0, .null, .int 0, .int 0, .int 0, .int 0, .int 0, .int 0, .int 0, .null, .null, .null, .null, .int 0, .null, .null, .null, .int 0]))] (((((((((((((((((((((((((((((((((((h.2.1 + 10) + 4 + 6) + 192) + 3) + 8) + 8) + 320) + 7) + 100) + 6) + 10) + 7) + 7) + 7) + 10) + 7) + 7) + 7) + 2) + 10) + 7) + 7) + 7) + 10) + 7) + 7) + 7) + 3) + 288) + 3 + 10) + 7 + 7 + 7) + 12) + 2) + 16) + 22)))) _ = _
  rw [km, aRV_mk, aOp_s]
  exact r1
