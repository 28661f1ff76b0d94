/-! ===== the law's run in the abstract machine gives the claim ===== -/
def aTab (k j : Nat) : Int32 := (match k with
  | 0 => [-1, 0, 1, 1, 0, 4]
  | 1 => [10, 11, 12, 11, 13, 14]
  | _ => [20, 21, 24, 22, 23, 23] : List Int32).getD j 0
/-- the heap at the law's start: the script, the three tables of constants, nothing else -/
def aStart (sa : Nat → Nat) (b L lo : Nat) (xs : Nat → Int32) (h : AH) : Prop :=
  h.1 = lo ∧ h.2.1 = 0 ∧ h.2.2 b = some (.inr (.inl (2, L, xs))) ∧ (∀ k, k < 3 → ∃ f, h.2.2 (sa k) = some (.inr (.inl (2, 6, f))) ∧ ∀ j, j < 6 → f j = aTab k j) ∧ b < lo ∧ ∀ k, k < 3 → sa k < lo
def aLawRun : Prop := ∀ (sa : Nat → Nat) (b L lo : Nat) (xs : Nat → Int32) (h : AH), L ≤ 3072 → aStart sa b L lo xs h → ∃ (d : Nat) (g : AH), AMV sa d 188 0 [.ref b, .null, .null, .null] [] h = some (some (.int 1), g) ∧ d ≤ 1000 ∧ g.1 ≤ lo + 600000 ∧ g.2.1 ≤ 7302250
theorem law_tab {args : Array Value} {s : State} (hgv : (Jvm.Cond.and given_1 narrow_1).before args s = true) : ∀ k, k < 3 → ∃ t : Nat, (Term.static RX1 (aSn k) "[I").eval args s none [] s = some (.ref t) ∧ va_T .int t 6 (fun j => .int (aTab k j)) (aA s.heap.size) s s.heap := by
  have hs := flat_of_before _ hgv
  intro k hk
  have hA : ∀ a : Nat, a < s.heap.size → ¬ aA s.heap.size a := fun a h => Nat.not_le.mpr h
  match k, hk with
  | 0, _ =>
    refine va_Tof (N := 6) (by decide) (hs (.arrayOf (.static RX1 (aSn 0) "[I") .int) (by decide +kernel)) (va_eqt (hs (.eq (.length (.static RX1 (aSn 0) "[I")) (.int 6)) (by decide +kernel))) (fun j hj => ?_) hA
    match j, hj with
    | 0, _ => exact va_eqt (hs (.eq (.elem (.static RX1 (aSn 0) "[I") (.int 0)) (.int (-1))) (by decide +kernel))
    | 1, _ => exact va_eqt (hs (.eq (.elem (.static RX1 (aSn 0) "[I") (.int 1)) (.int 0)) (by decide +kernel))
    | 2, _ => exact va_eqt (hs (.eq (.elem (.static RX1 (aSn 0) "[I") (.int 2)) (.int 1)) (by decide +kernel))
    | 3, _ => exact va_eqt (hs (.eq (.elem (.static RX1 (aSn 0) "[I") (.int 3)) (.int 1)) (by decide +kernel))
    | 4, _ => exact va_eqt (hs (.eq (.elem (.static RX1 (aSn 0) "[I") (.int 4)) (.int 0)) (by decide +kernel))
    | 5, _ => exact va_eqt (hs (.eq (.elem (.static RX1 (aSn 0) "[I") (.int 5)) (.int 4)) (by decide +kernel))
    | n + 6, h => omega
  | 1, _ =>
    refine va_Tof (N := 6) (by decide) (hs (.arrayOf (.static RX1 (aSn 1) "[I") .int) (by decide +kernel)) (va_eqt (hs (.eq (.length (.static RX1 (aSn 1) "[I")) (.int 6)) (by decide +kernel))) (fun j hj => ?_) hA
    match j, hj with
    | 0, _ => exact va_eqt (hs (.eq (.elem (.static RX1 (aSn 1) "[I") (.int 0)) (.int 10)) (by decide +kernel))
    | 1, _ => exact va_eqt (hs (.eq (.elem (.static RX1 (aSn 1) "[I") (.int 1)) (.int 11)) (by decide +kernel))
    | 2, _ => exact va_eqt (hs (.eq (.elem (.static RX1 (aSn 1) "[I") (.int 2)) (.int 12)) (by decide +kernel))
    | 3, _ => exact va_eqt (hs (.eq (.elem (.static RX1 (aSn 1) "[I") (.int 3)) (.int 11)) (by decide +kernel))
    | 4, _ => exact va_eqt (hs (.eq (.elem (.static RX1 (aSn 1) "[I") (.int 4)) (.int 13)) (by decide +kernel))
    | 5, _ => exact va_eqt (hs (.eq (.elem (.static RX1 (aSn 1) "[I") (.int 5)) (.int 14)) (by decide +kernel))
    | n + 6, h => omega
  | 2, _ =>
    refine va_Tof (N := 6) (by decide) (hs (.arrayOf (.static RX1 (aSn 2) "[I") .int) (by decide +kernel)) (va_eqt (hs (.eq (.length (.static RX1 (aSn 2) "[I")) (.int 6)) (by decide +kernel))) (fun j hj => ?_) hA
    match j, hj with
    | 0, _ => exact va_eqt (hs (.eq (.elem (.static RX1 (aSn 2) "[I") (.int 0)) (.int 20)) (by decide +kernel))
    | 1, _ => exact va_eqt (hs (.eq (.elem (.static RX1 (aSn 2) "[I") (.int 1)) (.int 21)) (by decide +kernel))
    | 2, _ => exact va_eqt (hs (.eq (.elem (.static RX1 (aSn 2) "[I") (.int 2)) (.int 24)) (by decide +kernel))
    | 3, _ => exact va_eqt (hs (.eq (.elem (.static RX1 (aSn 2) "[I") (.int 3)) (.int 22)) (by decide +kernel))
    | 4, _ => exact va_eqt (hs (.eq (.elem (.static RX1 (aSn 2) "[I") (.int 4)) (.int 23)) (by decide +kernel))
    | 5, _ => exact va_eqt (hs (.eq (.elem (.static RX1 (aSn 2) "[I") (.int 5)) (.int 23)) (by decide +kernel))
    | n + 6, h => omega
  | n + 3, h => omega
theorem law_lays : ∀ k, k < 3 → (.laysStatic RX1 (aSn k) "[I" : Cond) ∈ lw_tbl := by decide +kernel
theorem law_inst : ∀ q ∈ aCls, (.instantiable q.1 q.2.2 : Cond) ∈ lw_tbl := by decide +kernel
theorem law_over : (.arrayOver (.object RX2) : Cond) ∈ lw_tbl := by decide +kernel
theorem law_ini : (.initialized RX1 : Cond) ∈ lw_tbl := by decide +kernel
set_option maxHeartbeats 4000000 in
theorem law_of (hAM : aLawRun) {p : Program} {e : Env} {s : State} {m : MethodId} {below : List Frame} {meth : Method} {c : Code} (l : Launch) {b L : Nat} {xs : Nat → Int32} (hL : L ≤ 3072) (C0 : lw_At p s m meth c b L xs) : W p l e room_1 s m #[Value.ref b] below meth c s.heap [] 0 0 (lw_Z below #[Value.ref b] s) (entryFrame m ([Value.ref b] : List Value).toArray 4) := by
  obtain ⟨hx, hb, hr, hml, hown, hts, hX, hbl, hlocks, hgv⟩ := C0
  -- classes
  have htb : ∀ w ∈ aTb, w.before #[Value.ref b] s = true := fun w hw => hts w (List.mem_filter.mp hw).1
  have hkn : ∀ k : Nat, ∃ z : ClassId × (Nat → Nat), ∀ q : vw_C, aCls[k]? = some q → u_Kn s q.1 q.2.1 q.2.2 z.1 z.2 := by
    intro k
    cases hq : aCls[k]? with
    | none => exact ⟨(0, fun _ => 0), fun q h => by cases h⟩
    | some q =>
      obtain ⟨cC, iS, h⟩ := u_known (C := q.1) (T := q.2.1) (N := q.2.2) htb (fun w hw => aTb_mem.mpr (aCls_ws _ (List.mem_of_getElem? hq) w hw)) (hts _ (law_inst q (List.mem_of_getElem? hq)))
      exact ⟨(cC, iS), fun q' h' => by cases h'; exact h⟩
  have hK : va_K ((fun k => (Classical.choose (hkn k)).1), (fun k => (Classical.choose (hkn k)).2)) aCls [] s := ⟨fun k q hq => Classical.choose_spec (hkn k) q hq, fun k q h => by simp at h⟩
  generalize ((fun k => (Classical.choose (hkn k)).1), (fun k => (Classical.choose (hkn k)).2)) = D at hK
  -- tables of constants
  have hT := law_tab hgv
  have hex : ∀ k, ∃ t : Nat, k < 3 → (Term.static RX1 (aSn k) "[I").eval #[Value.ref b] s none [] s = some (.ref t) ∧ va_T .int t 6 (fun j => .int (aTab k j)) (aA s.heap.size) s s.heap := by
    intro k
    by_cases hk : k < 3
    · obtain ⟨t, h⟩ := hT k hk
      exact ⟨t, fun _ => h⟩
    · exact ⟨0, fun h => absurd h hk⟩
  obtain ⟨sa, hsa⟩ : ∃ sa : Nat → Nat, ∀ k, k < 3 → (Term.static RX1 (aSn k) "[I").eval #[Value.ref b] s none [] s = some (.ref (sa k)) ∧ va_T .int (sa k) 6 (fun j => .int (aTab k j)) (aA s.heap.size) s s.heap := ⟨fun k => Classical.choose (hex k), fun k hk => Classical.choose_spec (hex k) hk⟩
  have hA : ∀ a : Nat, a < s.heap.size → ¬ aA s.heap.size a := fun a h => Nat.not_le.mpr h
  have hKn : aKn sa s.heap.size D s := by
    refine ⟨hK, fun w hw hn => ?_, va_AO.of (hts _ law_over), fun j hj => va_Zof (hts _ (law_lays j hj)) (hts _ law_ini) (hsa j hj).1 hA, Nat.le_refl _⟩
    have h2 := hts w hw
    cases w <;> first | exact va_Nw.of rfl h2 | cases hn
  -- the abstract heap
  obtain ⟨scr, g1, g2, g3, g4, g5⟩ := hX
  let rd : Nat → Nat → Int32 := fun a j => match (s.heap[a]?).bind (fun cell : Cell => cell.slots[j]?) with
    | some (.int x) => x
    | _ => 0
  obtain ⟨h, hh⟩ : ∃ h : AH, h = (s.heap.size, 0, fun a => if a = b then some (.inr (.inl (2, L, xs))) else if a = sa 0 ∨ a = sa 1 ∨ a = sa 2 then some (.inr (.inl (2, 6, rd a))) else none) := ⟨_, rfl⟩
  have htabs : ∀ k, k < 3 → ∃ cell : Cell, s.heap[sa k]? = some cell ∧ s.isArrayOf cell .int ∧ cell.vm ≠ .unknown ∧ 6 ≤ cell.slots.size ∧ cell.slots.size.toInt32 = Int32.ofNat 6 ∧ ∀ j, j < 6 → cell.slots[j]? = some (.int (aTab k j)) := by
    intro k hk
    obtain ⟨-, cell, a1, a2, a3, a4, a5, a6, -⟩ := hsa k hk
    exact ⟨cell, a1, a2, a3, a4, a5, a6⟩
  have hrd : ∀ k, k < 3 → ∀ j, j < 6 → rd (sa k) j = aTab k j := by
    intro k hk j hj
    obtain ⟨cell, a1, -, -, -, -, a6⟩ := htabs k hk
    show (match (s.heap[sa k]?).bind (fun cell : Cell => cell.slots[j]?) with | some (.int x) => x | _ => 0) = _
    rw [a1]
    show (match cell.slots[j]? with | some (.int x) => x | _ => 0) = _
    rw [a6 j hj]
  have hstart : aStart sa b L s.heap.size xs h := by
    subst hh
    refine ⟨rfl, rfl, if_pos rfl, fun k hk => ?_, hbl, fun k hk => ?_⟩
    · by_cases hkb : sa k = b
      · obtain ⟨cell, a1, -, -, a4, a5, a6⟩ := htabs k hk
        rw [hkb, g1] at a1
        cases a1
        have hL6 : L = 6 := by
          rw [g4] at a4 a5
          have h1 : (Int32.ofNat L).toInt = L := nI_toInt (n := L) (by omega)
          have h2 : (Int32.ofNat 6).toInt = 6 := rfl
          have h3 : Int32.ofNat L = Int32.ofNat 6 := a5
          rw [h3, h2] at h1
          omega
        subst hL6
        refine ⟨xs, by show (if sa k = b then _ else _) = _; rw [if_pos hkb], fun j hj => ?_⟩
        have h1 := g5 j hj
        rw [a6 j hj] at h1
        exact (Value.int.inj (Option.some.inj h1)).symm
      · refine ⟨rd (sa k), ?_, hrd k hk⟩
        show (if sa k = b then _ else if sa k = sa 0 ∨ sa k = sa 1 ∨ sa k = sa 2 then _ else _) = _
        rw [if_neg hkb, if_pos]
        match k, hk with
        | 0, _ => exact Or.inl rfl
        | 1, _ => exact Or.inr (Or.inl rfl)
        | 2, _ => exact Or.inr (Or.inr rfl)
        | n + 3, h => omega
    · obtain ⟨cell, a1, -⟩ := htabs k hk
      exact (Array.getElem?_eq_some_iff.mp a1).1
  have hOK0 : hOK s.heap.size D s h s.heap := by
    subst hh
    refine ⟨rfl, fun a e hae => ?_⟩
    have hae : (if a = b then some (.inr (.inl (2, L, xs))) else if a = sa 0 ∨ a = sa 1 ∨ a = sa 2 then some (.inr (.inl (2, 6, rd a))) else none) = some e := hae
    by_cases hab : a = b
    · rw [if_pos hab] at hae
      cases hae
      subst hab
      exact Or.inl ⟨rfl, hbl, scr, g1, g2, g3, by rw [g4]; exact Nat.le_refl _, by rw [g4] <;> rfl, g5⟩
    · rw [if_neg hab] at hae
      by_cases hs : a = sa 0 ∨ a = sa 1 ∨ a = sa 2
      · rw [if_pos hs] at hae
        cases hae
        obtain ⟨k, hk, rfl⟩ : ∃ k, k < 3 ∧ a = sa k := by
          rcases hs with h | h | h
          · exact ⟨0, by decide, h⟩
          · exact ⟨1, by decide, h⟩
          · exact ⟨2, by decide, h⟩
        obtain ⟨cell, a1, a2, a3, a4, a5, a6⟩ := htabs k hk
        exact Or.inl ⟨rfl, (Array.getElem?_eq_some_iff.mp a1).1, cell, a1, a2, a3, a4, a5, fun j hj => (a6 j hj).trans (congrArg (fun z => some (Value.int z)) (hrd k hk j hj).symm)⟩
      · rw [if_neg hs] at hae
        cases hae
  obtain ⟨d, g, hrun, hd, hg1, hg2⟩ := hAM sa b L s.heap.size xs h hL hstart
  obtain ⟨n, hn⟩ := AMV_ex hrun
  have hl := lv_entry ([.ref b]) (n := 4) (Nat.le_of_ble_eq_true rfl)
  rw [lg_entry_eq]
  generalize (lg_sl ([.ref b]) ++ List.replicate (4 - (lg_sl ([.ref b])).length) Slot.unset).toArray = lsA at hl ⊢
  have hlA : lv_has lsA (amMx 188) (aAs (aEn 4 [.ref b])) := aEn_has (fun w hw => by cases hw with | head => rfl | tail _ h => cases h) hl
  refine a_sound sa s.heap.size D l n d 188 0 [.ref b, .null, .null, .null] [] h (some (.int 1), g) hn (by decide) p e room_1 s m #[Value.ref b] below meth c s.heap [] 0 0 _ lsA h ⟨hx, hb, hml, hown, fun w hw => hts w (List.mem_filter.mp (aTb_mem.mpr hw)).1, hKn, fun z => absurd z (by decide +kernel)⟩ hlA rfl hOK0 va_S.rf (Nat.zero_add _) (Nat.zero_add _) ?_ ?_ ?_ ?_ ?_
  · show g.1 ≤ 600000 + h.1
    rw [hstart.1]; omega
  · show g.2.1 ≤ 7302250 + h.2.1
    omega
  · show d + 1 ≤ 2048
    omega
  · show 64 * (d + 1) ≤ 84000
    omega
  · intro pc' H' locs' cells' slots' lsA' hend hO' hS' ec es
    refine va_forget (fun q hq => hS'.2.2 q hq) ?_
    have e1 := hstart.1
    have e2 := hstart.2.1
    refine W.widen (k := 600000) (n := 7302250) ?_ ?_ ?_
    · dsimp only at ec; omega
    · dsimp only at es; omega
    exact lw_ret hx hb hr hlocks hend.1
