/-! ===== the machine's heap holds the abstract one ===== -/
def aA (lo : Nat) : Nat → Prop := fun q => lo ≤ q
def aRo (U : State) (H : Heap) (a n : Nat) (f : Nat → Int32) : Prop := ∃ cell : Cell, H[a]? = some cell ∧ U.isArrayOf cell .int ∧ cell.vm ≠ .unknown ∧ n ≤ cell.slots.size ∧ cell.slots.size.toInt32 = Int32.ofNat n ∧ ∀ j, j < n → cell.slots[j]? = some (.int (f j))
def aWr (U : State) (H : Heap) (a n : Nat) (f : Nat → Int32) (ty : FieldType) : Prop := ∃ cA : ClassId, H[a]? = some (vp_cell cA (n, .inl f)) ∧ ArrOfT U cA ty
def aRf (U : State) (H : Heap) (a n : Nat) (f : Nat → Option Nat) : Prop := ∃ cA : ClassId, H[a]? = some (vp_cell cA (n, .inr (.inr (.inr (.inr f))))) ∧ ArrOfT U cA (.object RX2) ∧ va_RA U cA (.object RX2)
def aOK (lo : Nat) (D : va_G) (U : State) (H : Heap) (a : Nat) (e : AE) : Prop := match e with
  | .inl o => lo ≤ a ∧ va_at D aCls (a, .inr o) H
  | .inr (.inl r) => (r.1 = 2 ∧ a < lo ∧ aRo U H a r.2.1 r.2.2) ∨ (r.1 = 0 ∧ lo ≤ a ∧ aWr U H a r.2.1 r.2.2 .int) ∨ (r.1 = 1 ∧ lo ≤ a ∧ aWr U H a r.2.1 r.2.2 .boolean)
  | .inr (.inr r) => lo ≤ a ∧ aRf U H a r.1 r.2
def hOK (lo : Nat) (D : va_G) (U : State) (h : AH) (H : Heap) : Prop := H.size = h.1 ∧ ∀ (a : Nat) (e : AE), h.2.2 a = some e → aOK lo D U H a e
theorem aOK.kept {lo : Nat} {D : va_G} {U : State} {H H1 : Heap} {a : Nat} {e : AE} (h : aOK lo D U H a e) (hq : H1[a]? = H[a]?) : aOK lo D U H1 a e := by
  rcases e with o | r | r
  · exact ⟨h.1, va_at.kept (q := (a, .inr o)) h.2 hq⟩
  · rcases h with ⟨h1, h2, cell, h3⟩ | ⟨h1, h2, cA, h3⟩ | ⟨h1, h2, cA, h3⟩
    · exact Or.inl ⟨h1, h2, cell, by rw [hq]; exact h3⟩
    · exact Or.inr (Or.inl ⟨h1, h2, cA, by rw [hq]; exact h3⟩)
    · exact Or.inr (Or.inr ⟨h1, h2, cA, by rw [hq]; exact h3⟩)
  · obtain ⟨h2, cA, h3⟩ := h
    exact ⟨h2, cA, by rw [hq]; exact h3⟩
theorem aOK.moved {lo : Nat} {D : va_G} {u U : State} {H : Heap} {a : Nat} {e : AE} (hvm : u.vm.Alike U.vm) (h : aOK lo D u H a e) : aOK lo D U H a e := by
  rcases e with o | r | r
  · exact h
  · rcases h with ⟨h1, h2, cell, h3, h4, h5⟩ | ⟨h1, h2, cA, h3, h4⟩ | ⟨h1, h2, cA, h3, h4⟩
    · exact Or.inl ⟨h1, h2, cell, h3, State.isArrayOf_alike hvm h4, h5⟩
    · exact Or.inr (Or.inl ⟨h1, h2, cA, h3, arrOfT_moved hvm h4⟩)
    · exact Or.inr (Or.inr ⟨h1, h2, cA, h3, arrOfT_moved hvm h4⟩)
  · obtain ⟨h2, cA, h3, h4, h5⟩ := h
    exact ⟨h2, cA, h3, arrOfT_moved hvm h4, h5.moved hvm⟩
theorem aOK.lt {lo : Nat} {D : va_G} {U : State} {H : Heap} {a : Nat} {e : AE} (h : aOK lo D U H a e) : a < H.size := by
  rcases e with o | r | r
  · exact va_at.lt (q := (a, .inr o)) h.2
  · rcases h with ⟨h1, h2, cell, h3, h4⟩ | ⟨h1, h2, cA, h3, h4⟩ | ⟨h1, h2, cA, h3, h4⟩
    · exact (Array.getElem?_eq_some_iff.mp h3).1
    · exact (Array.getElem?_eq_some_iff.mp h3).1
    · exact (Array.getElem?_eq_some_iff.mp h3).1
  · obtain ⟨h2, cA, h3, h4⟩ := h
    exact (Array.getElem?_eq_some_iff.mp h3).1
theorem hOK.moved {lo : Nat} {D : va_G} {u U : State} {h : AH} {H : Heap} (hvm : u.vm.Alike U.vm) (k : hOK lo D u h H) : hOK lo D U h H := ⟨k.1, fun a e q => (k.2 a e q).moved hvm⟩
theorem hOK.put {lo : Nat} {D : va_G} {U : State} {h : AH} {H H1 : Heap} {a : Nat} {e : AE} (k : hOK lo D U h H) (z : H1.size = H.size) (oq : ∀ q : Nat, q ≠ a → H1[q]? = H[q]?) (he : aOK lo D U H1 a e) : hOK lo D U (aUp h a e) H1 := by
  refine ⟨z.trans k.1, fun b f q => ?_⟩
  simp only [aUp, va_up] at q
  by_cases hb : b = a
  · rw [if_pos hb] at q
    cases q
    subst hb
    exact he
  · rw [if_neg hb] at q
    exact (k.2 b f q).kept (oq b hb)
theorem hOK.mk {lo : Nat} {D : va_G} {U : State} {h : AH} {H H1 : Heap} {n : Nat} {e : AE} (k : hOK lo D U h H) (z : H1.size = H.size + 1) (oq : ∀ q : Nat, q < H.size → H1[q]? = H[q]?) (he : aOK lo D U H1 H.size e) : hOK lo D U (aMk h n e) H1 := by
  refine ⟨by rw [z, k.1]; rfl, fun b f q => ?_⟩
  simp only [aMk, va_up] at q
  by_cases hb : b = h.1
  · rw [if_pos hb] at q
    cases q
    rw [hb, ← k.1]
    exact he
  · rw [if_neg hb] at q
    exact (k.2 b f q).kept (oq b (k.2 b f q).lt)
theorem aS.mk {A : Nat → Prop} {H0 H H1 : Heap} {locs : List Loc} (hS : va_S A H0 H locs) (z : H1.size = H.size + 1) (oq : ∀ q : Nat, q < H.size → H1[q]? = H[q]?) : va_S A H0 H1 locs :=
  ⟨Nat.le_trans hS.1 (by omega), fun q h1 h2 => (oq q (Nat.lt_of_lt_of_le h1 hS.1)).trans (hS.2.1 q h1 h2), hS.2.2⟩
/-! locals -/
def aAs (ls : List Value) : List (Nat × Value) := (List.range ls.length).filterMap fun k => match (ls[k]? : Option Value) with
  | none => none
  | some v => if v = Value.null then none else some (k, v)
theorem aAs_mem {ls : List Value} {q : Nat × Value} : q ∈ aAs ls ↔ ls[q.1]? = some q.2 ∧ q.2 ≠ .null := by
  unfold aAs
  rw [List.mem_filterMap]
  constructor
  · rintro ⟨k, hk, e⟩
    split at e
    · cases e
    · rename_i v hn
      split at e
      · cases e
      · rename_i hz
        cases e
        exact ⟨hn, hz⟩
  · rintro ⟨h1, h2⟩
    refine ⟨q.1, List.mem_range.mpr (List.getElem?_eq_some_iff.mp h1).1, ?_⟩
    rw [h1]
    exact if_neg h2
theorem aLI_of {ls : List Value} {i : Nat} {x : Int32} (h : aLI ls i = some x) : ls[i]? = some (.int x) := by
  unfold aLI at h
  split at h
  · rename_i e; cases h; exact e
  · cases h
theorem aLL_of {ls : List Value} {i : Nat} {x : Int64} (h : aLL ls i = some x) : ls[i]? = some (.long x) := by
  unfold aLL at h
  split at h
  · rename_i e; cases h; exact e
  · cases h
theorem aLR_of {ls : List Value} {i x : Nat} (h : aLR ls i = some x) : ls[i]? = some (.ref x) := by
  unfold aLR at h
  split at h
  · rename_i e; cases h; exact e
  · cases h
theorem aNL_of {ls : List Value} {i k : Nat} {v : Value} (h : aNL ls i = true) (hk : k + 1 = i) (hv : ls[k]? = some v) : v.category ≠ 2 := by
  subst hk
  change (match (ls[k]? : Option Value) with | some (.long _) => false | some (.double _) => false | _ => true) = true at h
  rw [hv] at h
  cases v <;> simp_all [Value.category]
theorem aS1_of {ls ls' : List Value} {i : Nat} {v : Value} (h : aS1 ls i v = some ls') : i < ls.length ∧ aNL ls i = true ∧ ls' = ls.set i v := by
  unfold aS1 at h
  split at h
  · rename_i e
    cases h
    rw [Bool.and_eq_true] at e
    exact ⟨Nat.le_of_ble_eq_true e.1, e.2, rfl⟩
  · cases h
theorem aS2_of {ls ls' : List Value} {i : Nat} {v : Value} (h : aS2 ls i v = some ls') : i + 1 < ls.length ∧ aNL ls i = true ∧ ls' = (ls.set (i + 1) .null).set i v := by
  unfold aS2 at h
  split at h
  · rename_i e
    cases h
    rw [Bool.and_eq_true] at e
    exact ⟨Nat.le_of_ble_eq_true e.1, e.2, rfl⟩
  · cases h
theorem aLs1 {lsA : Array Slot} {nL : Nat} {ls : List Value} {i : Nat} {v : Value} (hn : aNL ls i = true) (h : lv_has lsA nL ((i, v) :: (aAs ls).filter (fun q => !(q.1 == i) && !(q.1 + 1 == i && q.2.category == 2)))) (hi : i < ls.length) : lv_has lsA nL (aAs (ls.set i v)) := by
  refine ⟨h.1, h.2.1, fun q hq => h.2.2 q ?_⟩
  obtain ⟨h1, h2⟩ := aAs_mem.mp hq
  by_cases e : q.1 = i
  · rw [e, List.getElem?_set_self hi] at h1
    have : q = (i, v) := Prod.ext e (Option.some.inj h1).symm
    rw [this]
    exact List.mem_cons_self
  · rw [List.getElem?_set_ne (Ne.symm e)] at h1
    refine List.mem_cons_of_mem _ (List.mem_filter.mpr ⟨aAs_mem.mpr ⟨h1, h2⟩, ?_⟩)
    have h3 : ¬ (q.1 + 1 = i ∧ q.2.category = 2) := fun z => aNL_of hn z.1 h1 z.2
    simp only [Bool.and_eq_true, Bool.not_eq_true', beq_eq_false_iff_ne, ne_eq, Bool.and_eq_false_iff]
    exact ⟨e, by by_cases z : q.1 + 1 = i <;> simp [z] <;> exact fun y => h3 ⟨z, y⟩⟩
theorem aLs2 {lsA : Array Slot} {nL : Nat} {ls : List Value} {i : Nat} {v : Value} (hn : aNL ls i = true) (h : lv_has lsA nL ((i, v) :: (aAs ls).filter (fun q => !(q.1 == i) && (!(q.1 == i + 1) && !(q.1 + 1 == i && q.2.category == 2))))) (hi : i + 1 < ls.length) : lv_has lsA nL (aAs ((ls.set (i + 1) .null).set i v)) := by
  refine ⟨h.1, h.2.1, fun q hq => h.2.2 q ?_⟩
  obtain ⟨h1, h2⟩ := aAs_mem.mp hq
  by_cases e : q.1 = i
  · rw [e, List.getElem?_set_self (by simp; omega)] at h1
    have : q = (i, v) := Prod.ext e (Option.some.inj h1).symm
    rw [this]
    exact List.mem_cons_self
  · rw [List.getElem?_set_ne (Ne.symm e)] at h1
    by_cases e2 : q.1 = i + 1
    · rw [e2, List.getElem?_set_self hi] at h1
      exact absurd (Option.some.inj h1).symm h2
    · rw [List.getElem?_set_ne (Ne.symm e2)] at h1
      refine List.mem_cons_of_mem _ (List.mem_filter.mpr ⟨aAs_mem.mpr ⟨h1, h2⟩, ?_⟩)
      have h3 : ¬ (q.1 + 1 = i ∧ q.2.category = 2) := fun z => aNL_of hn z.1 h1 z.2
      simp only [Bool.and_eq_true, Bool.not_eq_true', beq_eq_false_iff_ne, ne_eq, Bool.and_eq_false_iff]
      exact ⟨e, e2, by by_cases z : q.1 + 1 = i <;> simp [z] <;> exact fun y => h3 ⟨z, y⟩⟩
/-! a method's beginning -/
theorem aArgs_mem : ∀ (vs : List Value) (i k : Nat) (v : Value), (∀ w ∈ vs, w.category = 1) → vs[k]? = some v → (i + k, v) ∈ lv_args i vs
  | [], i, k, v, _, h => by simp at h
  | w :: vs, i, 0, v, _, h => by
    simp at h
    subst h
    exact List.mem_cons_self
  | w :: vs, i, k + 1, v, hc, h => by
    have hw : w.category = 1 := hc w List.mem_cons_self
    have := aArgs_mem vs (i + 1) k v (fun z hz => hc z (List.mem_cons_of_mem _ hz)) (by simpa using h)
    simp only [lv_args, hw]
    refine List.mem_cons_of_mem _ ?_
    rw [if_neg (by decide), show i + (k + 1) = i + 1 + k by omega]
    exact this
theorem aSl_len : ∀ (vs : List Value), (∀ w ∈ vs, w.category = 1) → (lg_sl vs).length = vs.length
  | [], _ => rfl
  | w :: vs, hc => by
    have hw : w.category = 1 := hc w List.mem_cons_self
    have := aSl_len vs (fun z hz => hc z (List.mem_cons_of_mem _ hz))
    simp only [lg_sl, List.flatMap_cons, hw, List.length_append] at this ⊢
    rw [this]
    simp
    omega
theorem aW_le : ∀ (vs : List Value), vs.length ≤ aW vs
  | [] => Nat.zero_le _
  | w :: vs => by
    have := aW_le vs
    rcases lv_cat w with h | h <;> simp [aW, h] at this ⊢ <;> omega
theorem aW_one : ∀ (vs : List Value), aW vs ≤ vs.length → ∀ w ∈ vs, w.category = 1
  | [], _, w, h => by cases h
  | v :: vs, hl, w, h => by
    have h0 := aW_le vs
    have e : aW (v :: vs) = v.category + aW vs := by simp [aW]
    rw [e, List.length_cons] at hl
    rcases List.mem_cons.mp h with rfl | h
    · rcases lv_cat w with z | z <;> omega
    · refine aW_one vs ?_ w h
      rcases lv_cat v with z | z <;> omega
theorem aEn_has {as : List Value} {n : Nat} {lsA : Array Slot} (hc : ∀ w ∈ as, w.category = 1) (h : lv_has lsA n (lv_args 0 as)) : lv_has lsA n (aAs (aEn n as)) := by
  refine ⟨h.1, h.2.1, fun q hq => h.2.2 q ?_⟩
  obtain ⟨h1, h2⟩ := aAs_mem.mp hq
  unfold aEn at h1
  by_cases hl : q.1 < as.length
  · rw [List.getElem?_append_left hl] at h1
    have := aArgs_mem as 0 q.1 q.2 hc h1
    rw [Nat.zero_add] at this
    exact this
  · rw [List.getElem?_append_right (by omega)] at h1
    exact absurd (List.eq_of_mem_replicate (List.mem_of_getElem? h1)) h2
theorem aEn_len {as : List Value} {n : Nat} (h : as.length ≤ n) : (aEn n as).length = n := by
  unfold aEn
  simp
  omega
