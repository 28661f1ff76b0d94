/-! what one instruction does, seen from outside: it returns, or goes on at one place, or calls once and then goes on -/
def aLe (h g : AH) : Prop := h.1 ≤ g.1 ∧ h.2.1 ≤ g.2.1
theorem aLe.rf (h : AH) : aLe h h := ⟨Nat.le_refl _, Nat.le_refl _⟩
theorem aLe.tr {f g h : AH} (a : aLe f g) (b : aLe g h) : aLe f h := ⟨Nat.le_trans a.1 b.1, Nat.le_trans a.2 b.2⟩
theorem aLe.up (h : AH) (a : Nat) (e : AE) : aLe h (aUp h a e) := ⟨Nat.le_refl _, Nat.le_refl _⟩
theorem aLe.mk (h : AH) (n : Nat) (e : AE) : aLe h (aMk h n e) := ⟨Nat.le_succ _, Nat.le_add_right _ _⟩
abbrev aKT : Type := Nat → List Value → List Value → AH → AR
abbrev aCT : Type := Nat → List Value → AH → AR
def aInv (F : aKT → aCT → AR) (K : aKT) (C : aCT) (h : AH) (res : Option Value × AH) : Prop :=
  (res.2 = h ∧ ∀ K' C', F K' C' = some res) ∨
  (∃ pc ls st g, aLe h g ∧ K pc ls st g = some res ∧ ∀ K' C', F K' C' = K' pc ls st g) ∨
  (∃ j as rv g pc ls st, C j as h = some (rv, g) ∧ K pc ls st g = some res ∧ ∀ K' C', C' j as h = some (rv, g) → F K' C' = K' pc ls st g)
theorem aOp_some {α β : Type} {x : Option α} {f : α → Option β} {r : β} (h : aOp x f = some r) : ∃ v, x = some v ∧ f v = some r := by
  cases x with
  | none => cases h
  | some v => exact ⟨v, rfl, h⟩
theorem aOp_of {α β : Type} {x : Option α} {f : α → Option β} {v : α} (h : x = some v) : aOp x f = f v := by rw [h]; rfl
theorem aCmp_sel (c : Jvm.ClassFile.Cond) (x y : Int32) : (∀ (ρ : Type) (t f : ρ), aCmp c x y t f = t) ∨ (∀ (ρ : Type) (t f : ρ), aCmp c x y t f = f) := by
  cases c <;> simp only [aCmp]
  · by_cases h : x = y <;> simp [h]
  · by_cases h : x = y <;> simp [h]
  · by_cases h : x < y <;> simp [h]
  · by_cases h : y ≤ x <;> simp [h]
  · by_cases h : y < x <;> simp [h]
  · by_cases h : x ≤ y <;> simp [h]
theorem aSw_sel (x : Int32) (d : Int) : ∀ (l : List Int) (lo : Int32), ∃ o, ∀ (ρ : Type) (K : Int → ρ), aSw x K d lo l = K o
  | [], _ => ⟨d, fun _ _ => rfl⟩
  | o :: r, lo => by
    by_cases h : x = lo
    · exact ⟨o, fun _ _ => by simp only [aSw]; rw [if_pos h]⟩
    · obtain ⟨o', ho⟩ := aSw_sel x d r (lo + 1)
      exact ⟨o', fun ρ K => by simp only [aSw]; rw [if_neg h]; exact ho ρ K⟩
theorem aLk_sel (x : Int32) (d : Int) : ∀ (l : List (Int × Int)), ∃ o, ∀ (ρ : Type) (K : Int → ρ), aLk x K d l = K o
  | [] => ⟨d, fun _ _ => rfl⟩
  | o :: r => by
    by_cases h : x = Int32.ofInt o.1
    · exact ⟨o.2, fun _ _ => by simp only [aLk]; rw [if_pos h]⟩
    · obtain ⟨o', ho⟩ := aLk_sel x d r
      exact ⟨o', fun ρ K => by simp only [aLk]; rw [if_neg h]; exact ho ρ K⟩
theorem aInv.k {F : aKT → aCT → AR} {K : aKT} {C : aCT} {h : AH} {res : Option Value × AH} {pc : Nat} {ls st : List Value} {g : AH} (hE : K pc ls st g = some res) (hl : aLe h g) (hF : ∀ K' C', F K' C' = K' pc ls st g) : aInv F K C h res := Or.inr (Or.inl ⟨pc, ls, st, g, hl, hE, hF⟩)
theorem aInv.c {F : aKT → aCT → AR} {K : aKT} {C : aCT} {h : AH} {res : Option Value × AH} {j : Nat} {as : List Value} {rv : Option Value} {pc : Nat} {ls st : List Value} {g : AH} (hC : C j as h = some (rv, g)) (hE : K pc ls st g = some res) (hF : ∀ K' C', C' j as h = some (rv, g) → F K' C' = K' pc ls st g) : aInv F K C h res := Or.inr (Or.inr ⟨j, as, rv, g, pc, ls, st, hC, hE, hF⟩)
theorem aInv.r {F : aKT → aCT → AR} {K : aKT} {C : aCT} {h : AH} {res : Option Value × AH} {v : Option Value} (hE : some (v, h) = some res) (hF : ∀ K' C', F K' C' = some (v, h)) : aInv F K C h res := by
  cases hE
  exact Or.inl ⟨rfl, hF⟩
theorem aFP_le {h g : AH} {a ci k : Nat} {v : Value} (e : aFP h a ci k v = some g) : aLe h g := by
  unfold aFP at e
  split at e
  · split at e
    · cases e; exact aLe.up _ _ _
    · cases e
  · cases e
theorem aIS_le {h g : AH} {a : Nat} {i x : Int32} (e : aIS h a i x = some g) : aLe h g := by
  unfold aIS at e
  split at e
  · split at e
    · cases e; exact aLe.up _ _ _
    · cases e
  · cases e
theorem aZS_le {h g : AH} {a : Nat} {i x : Int32} (e : aZS h a i x = some g) : aLe h g := by
  unfold aZS at e
  split at e
  · split at e
    · cases e; exact aLe.up _ _ _
    · cases e
  · cases e
theorem aRS_le {h g : AH} {a v ci : Nat} {i : Int32} (e : aRS h a i v ci = some g) : aLe h g := by
  unfold aRS at e
  split at e
  · split at e
    · cases e; exact aLe.up _ _ _
    · cases e
  · cases e
theorem aCpy_le {h g : AH} {a0 a : Nat} {sp dp n : Int32} (e : aCpy h a0 sp a dp n = some g) : aLe h g := by
  unfold aCpy at e
  split at e
  · split at e
    · cases e; exact aLe.up _ _ _
    · cases e
  · cases e
theorem aNA_le {h : AH} {t : Nat} {n : Int32} {z : Nat × AH} (e : aNA h t n = some z) : aLe h z.2 := by
  unfold aNA at e
  split at e
  · cases e; exact aLe.mk _ _ _
  · cases e
theorem aNR_le {h : AH} {n : Int32} {z : Nat × AH} (e : aNR h n = some z) : aLe h z.2 := by
  unfold aNR at e
  split at e
  · cases e; exact aLe.mk _ _ _
  · cases e
theorem aRI_of {r : AR} {z : Int32 × AH} (e : aRI r = some z) : r = some (some (.int z.1), z.2) := by
  unfold aRI at e
  split at e
  · cases e; rfl
  · cases e
theorem aRR_of {r : AR} {z : Nat × AH} (e : aRR r = some z) : r = some (some (.ref z.1), z.2) := by
  unfold aRR at e
  split at e
  · cases e; rfl
  · cases e
theorem aRV_of {r : AR} {z : AH} (e : aRV r = some z) : r = some (none, z) := by
  unfold aRV at e
  split at e
  · cases e; rfl
  · cases e
theorem aRI_mk (x : Int32) (h : AH) : aRI (some (some (.int x), h)) = some (x, h) := rfl
theorem aRR_mk (x : Nat) (h : AH) : aRR (some (some (.ref x), h)) = some (x, h) := rfl
theorem aRV_mk (h : AH) : aRV (some (none, h)) = some h := rfl
set_option maxHeartbeats 4000000 in
theorem amI_inv (sa : Nat → Nat) (df : Nat → List Value) {K : aKT} {C : aCT} {pc : Nat} {ls st : List Value} {h : AH} {ins : Jvm.ClassFile.Instr} {len : Nat} {c : Int32} {p q r : Nat} {res : Option Value × AH} (hE : amI sa df K C pc ls st h ins len c p q r = some res) :
    aInv (fun K' C' => amI sa df K' C' pc ls st h ins len c p q r) K C h res := by
  cases ins
  case iconst i =>
    exact aInv.k hE (aLe.rf _) (fun _ _ => rfl)
  case bipush i =>
    exact aInv.k hE (aLe.rf _) (fun _ _ => rfl)
  case sipush i =>
    exact aInv.k hE (aLe.rf _) (fun _ _ => rfl)
  case ldc i =>
    exact aInv.k hE (aLe.rf _) (fun _ _ => rfl)
  case ldc_w i =>
    exact aInv.k hE (aLe.rf _) (fun _ _ => rfl)
  case ldc2_w i =>
    exact aInv.k hE (aLe.rf _) (fun _ _ => rfl)
  case lconst i =>
    exact aInv.k hE (aLe.rf _) (fun _ _ => rfl)
  case goto o =>
    exact aInv.k hE (aLe.rf _) (fun _ _ => rfl)
  case getstatic i =>
    exact aInv.k hE (aLe.rf _) (fun _ _ => rfl)
  case new i =>
    exact aInv.k hE (aLe.mk _ _ _) (fun _ _ => rfl)
  case iload i =>
    obtain ⟨v, hv, hE⟩ := aOp_some hE
    exact aInv.k hE (aLe.rf _) (fun _ _ => aOp_of hv)
  case iload_n i =>
    obtain ⟨v, hv, hE⟩ := aOp_some hE
    exact aInv.k hE (aLe.rf _) (fun _ _ => aOp_of hv)
  case lload i =>
    obtain ⟨v, hv, hE⟩ := aOp_some hE
    exact aInv.k hE (aLe.rf _) (fun _ _ => aOp_of hv)
  case aload i =>
    obtain ⟨v, hv, hE⟩ := aOp_some hE
    exact aInv.k hE (aLe.rf _) (fun _ _ => aOp_of hv)
  case aload_n i =>
    obtain ⟨v, hv, hE⟩ := aOp_some hE
    exact aInv.k hE (aLe.rf _) (fun _ _ => aOp_of hv)
  case istore i =>
    simp only [amI] at hE
    split at hE
    · obtain ⟨v, hv, hE⟩ := aOp_some hE
      exact aInv.k hE (aLe.rf _) (fun _ _ => aOp_of hv)
    · cases hE
  case istore_n i =>
    simp only [amI] at hE
    split at hE
    · obtain ⟨v, hv, hE⟩ := aOp_some hE
      exact aInv.k hE (aLe.rf _) (fun _ _ => aOp_of hv)
    · cases hE
  case lstore i =>
    simp only [amI] at hE
    split at hE
    · obtain ⟨v, hv, hE⟩ := aOp_some hE
      exact aInv.k hE (aLe.rf _) (fun _ _ => aOp_of hv)
    · cases hE
  case astore i =>
    simp only [amI] at hE
    split at hE
    · obtain ⟨v, hv, hE⟩ := aOp_some hE
      exact aInv.k hE (aLe.rf _) (fun _ _ => aOp_of hv)
    · cases hE
  case astore_n i =>
    simp only [amI] at hE
    split at hE
    · obtain ⟨v, hv, hE⟩ := aOp_some hE
      exact aInv.k hE (aLe.rf _) (fun _ _ => aOp_of hv)
    · cases hE
  case iinc i n =>
    obtain ⟨v, hv, hE⟩ := aOp_some hE
    obtain ⟨v2, hv2, hE⟩ := aOp_some hE
    exact aInv.k hE (aLe.rf _) (fun _ _ => (aOp_of hv).trans (aOp_of hv2))
  case iadd =>
    simp only [amI] at hE
    split at hE
    · exact aInv.k hE (aLe.rf _) (fun _ _ => rfl)
    · cases hE
  case isub =>
    simp only [amI] at hE
    split at hE
    · exact aInv.k hE (aLe.rf _) (fun _ _ => rfl)
    · cases hE
  case imul =>
    simp only [amI] at hE
    split at hE
    · exact aInv.k hE (aLe.rf _) (fun _ _ => rfl)
    · cases hE
  case iand =>
    simp only [amI] at hE
    split at hE
    · exact aInv.k hE (aLe.rf _) (fun _ _ => rfl)
    · cases hE
  case ior =>
    simp only [amI] at hE
    split at hE
    · exact aInv.k hE (aLe.rf _) (fun _ _ => rfl)
    · cases hE
  case ixor =>
    simp only [amI] at hE
    split at hE
    · exact aInv.k hE (aLe.rf _) (fun _ _ => rfl)
    · cases hE
  case ineg =>
    simp only [amI] at hE
    split at hE
    · exact aInv.k hE (aLe.rf _) (fun _ _ => rfl)
    · cases hE
  case ishl =>
    simp only [amI] at hE
    split at hE
    · exact aInv.k hE (aLe.rf _) (fun _ _ => rfl)
    · cases hE
  case ishr =>
    simp only [amI] at hE
    split at hE
    · exact aInv.k hE (aLe.rf _) (fun _ _ => rfl)
    · cases hE
  case iushr =>
    simp only [amI] at hE
    split at hE
    · exact aInv.k hE (aLe.rf _) (fun _ _ => rfl)
    · cases hE
  case lmul =>
    simp only [amI] at hE
    split at hE
    · exact aInv.k hE (aLe.rf _) (fun _ _ => rfl)
    · cases hE
  case lcmp =>
    simp only [amI] at hE
    split at hE
    · exact aInv.k hE (aLe.rf _) (fun _ _ => rfl)
    · cases hE
  case i2l =>
    simp only [amI] at hE
    split at hE
    · exact aInv.k hE (aLe.rf _) (fun _ _ => rfl)
    · cases hE
  case l2i =>
    simp only [amI] at hE
    split at hE
    · exact aInv.k hE (aLe.rf _) (fun _ _ => rfl)
    · cases hE
  case i2b =>
    simp only [amI] at hE
    split at hE
    · exact aInv.k hE (aLe.rf _) (fun _ _ => rfl)
    · cases hE
  case i2s =>
    simp only [amI] at hE
    split at hE
    · exact aInv.k hE (aLe.rf _) (fun _ _ => rfl)
    · cases hE
  case dup =>
    simp only [amI] at hE
    split at hE
    · exact aInv.k hE (aLe.rf _) (fun _ _ => rfl)
    · exact aInv.k hE (aLe.rf _) (fun _ _ => rfl)
    · cases hE
  case dup2 =>
    simp only [amI] at hE
    split at hE
    · exact aInv.k hE (aLe.rf _) (fun _ _ => rfl)
    · exact aInv.k hE (aLe.rf _) (fun _ _ => rfl)
    · cases hE
  case pop =>
    simp only [amI] at hE
    split at hE
    · exact aInv.k hE (aLe.rf _) (fun _ _ => rfl)
    · exact aInv.k hE (aLe.rf _) (fun _ _ => rfl)
    · cases hE
  case idiv =>
    simp only [amI] at hE
    split at hE
    · split at hE
      · cases hE
      · rename_i hz
        exact aInv.k hE (aLe.rf _) (fun _ _ => if_neg hz)
    · cases hE
  case irem =>
    simp only [amI] at hE
    split at hE
    · split at hE
      · cases hE
      · rename_i hz
        exact aInv.k hE (aLe.rf _) (fun _ _ => if_neg hz)
    · cases hE
  case lrem =>
    simp only [amI] at hE
    split at hE
    · split at hE
      · cases hE
      · rename_i hz
        exact aInv.k hE (aLe.rf _) (fun _ _ => if_neg hz)
    · cases hE
  case ifCond cd o =>
    simp only [amI] at hE
    split at hE
    · rename_i x t
      rcases aCmp_sel cd x 0 with hs | hs
      · rw [hs] at hE
        exact aInv.k hE (aLe.rf _) (fun _ _ => hs _ _ _)
      · rw [hs] at hE
        exact aInv.k hE (aLe.rf _) (fun _ _ => hs _ _ _)
    · cases hE
  case if_icmp cd o =>
    simp only [amI] at hE
    split at hE
    · rename_i y x t
      rcases aCmp_sel cd x y with hs | hs
      · rw [hs] at hE
        exact aInv.k hE (aLe.rf _) (fun _ _ => hs _ _ _)
      · rw [hs] at hE
        exact aInv.k hE (aLe.rf _) (fun _ _ => hs _ _ _)
    · cases hE
  case tableswitch d lo hi os =>
    simp only [amI] at hE
    split at hE
    · rename_i x t
      obtain ⟨o, ho⟩ := aSw_sel x d os.toList c
      rw [ho] at hE
      exact aInv.k hE (aLe.rf _) (fun _ _ => ho _ _)
    · cases hE
  case lookupswitch d os =>
    simp only [amI] at hE
    split at hE
    · rename_i x t
      obtain ⟨o, ho⟩ := aLk_sel x d os.toList
      rw [ho] at hE
      exact aInv.k hE (aLe.rf _) (fun _ _ => ho _ _)
    · cases hE
  case getfield i =>
    simp only [amI] at hE
    split at hE
    · split at hE
      · obtain ⟨v, hv, hE⟩ := aOp_some hE
        exact aInv.k hE (aLe.rf _) (fun _ _ => aOp_of hv)
      · rename_i hr
        obtain ⟨v, hv, hE⟩ := aOp_some hE
        refine aInv.k hE (aLe.rf _) (fun _ _ => ?_)
        simp only [amI]
        exact aOp_of hv
    · cases hE
  case putfield i =>
    simp only [amI] at hE
    split at hE
    · split at hE
      · obtain ⟨v, hv, hE⟩ := aOp_some hE
        exact aInv.k hE (aFP_le hv) (fun _ _ => aOp_of hv)
      · cases hE
    · rename_i hr
      split at hE
      · obtain ⟨v, hv, hE⟩ := aOp_some hE
        refine aInv.k hE (aFP_le hv) (fun _ _ => ?_)
        simp only [amI]
        exact aOp_of hv
      · cases hE
  case iaload =>
    simp only [amI] at hE
    split at hE
    · obtain ⟨v, hv, hE⟩ := aOp_some hE
      exact aInv.k hE (aLe.rf _) (fun _ _ => aOp_of hv)
    · cases hE
  case baload =>
    simp only [amI] at hE
    split at hE
    · obtain ⟨v, hv, hE⟩ := aOp_some hE
      exact aInv.k hE (aLe.rf _) (fun _ _ => aOp_of hv)
    · cases hE
  case aaload =>
    simp only [amI] at hE
    split at hE
    · obtain ⟨v, hv, hE⟩ := aOp_some hE
      exact aInv.k hE (aLe.rf _) (fun _ _ => aOp_of hv)
    · cases hE
  case iastore =>
    simp only [amI] at hE
    split at hE
    · obtain ⟨v, hv, hE⟩ := aOp_some hE
      exact aInv.k hE (aIS_le hv) (fun _ _ => aOp_of hv)
    · cases hE
  case bastore =>
    simp only [amI] at hE
    split at hE
    · obtain ⟨v, hv, hE⟩ := aOp_some hE
      exact aInv.k hE (aZS_le hv) (fun _ _ => aOp_of hv)
    · cases hE
  case aastore =>
    simp only [amI] at hE
    split at hE
    · obtain ⟨v, hv, hE⟩ := aOp_some hE
      exact aInv.k hE (aRS_le hv) (fun _ _ => aOp_of hv)
    · cases hE
  case arraylength =>
    simp only [amI] at hE
    split at hE
    · obtain ⟨v, hv, hE⟩ := aOp_some hE
      exact aInv.k hE (aLe.rf _) (fun _ _ => aOp_of hv)
    · cases hE
  case newarray i =>
    simp only [amI] at hE
    split at hE
    · obtain ⟨v, hv, hE⟩ := aOp_some hE
      exact aInv.k hE (aNA_le hv) (fun _ _ => aOp_of hv)
    · cases hE
  case anewarray i =>
    simp only [amI] at hE
    split at hE
    · obtain ⟨v, hv, hE⟩ := aOp_some hE
      exact aInv.k hE (aNR_le hv) (fun _ _ => aOp_of hv)
    · cases hE
  case invokevirtual i =>
    simp only [amI] at hE
    split at hE
    · rename_i b t hst
      split at hE
      · rename_i hw
        obtain ⟨u, hu, hE⟩ := aOp_some hE
        split at hE
        · obtain ⟨v, hv, hE⟩ := aOp_some hE
          refine aInv.c (aRV_of hv) hE (fun _ C2 hC => ?_)
          simp only [amI, hst, hw, hu, hC, aOp, aRV_mk]
        · obtain ⟨v, hv, hE⟩ := aOp_some hE
          refine aInv.c (aRI_of hv) hE (fun _ C2 hC => ?_)
          simp only [amI, hst, hw, hu, hC, aOp, aRI_mk]
        · rename_i h0 h1
          obtain ⟨v, hv, hE⟩ := aOp_some hE
          refine aInv.c (aRR_of hv) hE (fun _ C2 hC => ?_)
          simp only [amI, hst, hw, hu, hC, aOp, aRR_mk]
      · cases hE
    · cases hE
  case invokespecial i =>
    simp only [amI] at hE
    split at hE
    · rename_i b t hst
      split at hE
      · rename_i hw
        split at hE
        · obtain ⟨v, hv, hE⟩ := aOp_some hE
          refine aInv.c (aRV_of hv) hE (fun _ C2 hC => ?_)
          simp only [amI, hst, hw, hC, aOp, aRV_mk]
        · rename_i h0
          refine aInv.k hE (aLe.rf _) (fun _ _ => ?_)
          simp only [amI, hst, hw]
      · cases hE
    · cases hE
  case invokestatic i =>
    simp only [amI] at hE
    split at hE
    · rename_i hw
      split at hE
      · obtain ⟨v, hv, hE⟩ := aOp_some hE
        refine aInv.c (aRV_of hv) hE (fun _ C2 hC => ?_)
        simp only [amI, hw, hC, aOp, aRV_mk]
      · obtain ⟨v, hv, hE⟩ := aOp_some hE
        refine aInv.c (aRI_of hv) hE (fun _ C2 hC => ?_)
        simp only [amI, hw, hC, aOp, aRI_mk]
      · obtain ⟨v, hv, hE⟩ := aOp_some hE
        refine aInv.c (aRR_of hv) hE (fun _ C2 hC => ?_)
        simp only [amI, hw, hC, aOp, aRR_mk]
      · split at hE
        · obtain ⟨v, hv, hE⟩ := aOp_some hE
          exact aInv.k hE (aCpy_le hv) (fun _ _ => by simp only [amI, hw]; exact aOp_of hv)
        · cases hE
      · split at hE
        · exact aInv.k hE (aLe.rf _) (fun _ _ => by simp only [amI, hw])
        · cases hE
      · split at hE
        · exact aInv.k hE (aLe.rf _) (fun _ _ => by simp only [amI, hw])
        · cases hE
    · cases hE
  case ireturn =>
    simp only [amI] at hE
    split at hE
    · split at hE
      · exact aInv.r hE (fun _ _ => rfl)
      · rename_i hr
        split at hE
        · rename_i hx
          refine aInv.r hE (fun _ _ => ?_)
          simp only [amI]
          exact if_pos hx
        · cases hE
    · cases hE
  case areturn =>
    simp only [amI] at hE
    split at hE
    · exact aInv.r hE (fun _ _ => rfl)
    · cases hE
  case return_ =>
    simp only [amI] at hE
    split at hE
    · exact aInv.r hE (fun _ _ => rfl)
    · cases hE
  all_goals cases hE
theorem amS_inv {sa : Nat → Nat} {i : Nat} {K : aKT} {C : aCT} {pc : Nat} {ls st : List Value} {h : AH} {res : Option Value × AH} (hE : amS sa i K C pc ls st h = some res) :
    aInv (fun K' C' => amS sa i K' C' pc ls st h) K C h res := by
  obtain ⟨⟨ins, len, c, p, q, r⟩, hv, hE⟩ := aOp_some hE
  have e : ∀ K' C', amS sa i K' C' pc ls st h = amI sa amDf K' C' pc ls st h ins len c p q r := fun K' C' => aOp_of hv
  have := amI_inv sa amDf hE
  unfold aInv at this ⊢
  simp only [e]
  exact this
theorem amS_mono {sa : Nat → Nat} {i : Nat} {K K' : aKT} {C C' : aCT} (hK : ∀ pc ls st h r, K pc ls st h = some r → K' pc ls st h = some r) (hC : ∀ j as h r, C j as h = some r → C' j as h = some r) {pc : Nat} {ls st : List Value} {h : AH} {res : Option Value × AH} (hE : amS sa i K C pc ls st h = some res) : amS sa i K' C' pc ls st h = some res := by
  rcases amS_inv hE with ⟨_, h1⟩ | ⟨a, b, c, g, _, h2, h3⟩ | ⟨j, as, rv, g, a, b, c, h1, h2, h3⟩
  · exact h1 K' C'
  · exact (h3 K' C').trans (hK _ _ _ _ _ h2)
  · exact (h3 K' C' (hC _ _ _ _ h1)).trans (hK _ _ _ _ _ h2)
theorem am_mono (sa : Nat → Nat) : ∀ (n d i pc : Nat) (ls st : List Value) (h : AH) (r : Option Value × AH), am sa n d i pc ls st h = some r → am sa (n + 1) d i pc ls st h = some r
  | 0, d, i, pc, ls, st, h, r, e => by cases e
  | n + 1, d, i, pc, ls, st, h, r, e => by
    refine amS_mono (fun pc ls st h r => am_mono sa n d i pc ls st h r) (fun j as h r => ?_) e
    cases d with
    | zero => exact fun z => z
    | succ d => exact am_mono sa n d j 0 _ _ h r
theorem am_le (sa : Nat → Nat) {n m : Nat} (hnm : n ≤ m) {d i pc : Nat} {ls st : List Value} {h : AH} {r : Option Value × AH} (e : am sa n d i pc ls st h = some r) : am sa m d i pc ls st h = some r := by
  induction hnm with
  | refl => exact e
  | step _ ih => exact am_mono sa _ _ _ _ _ _ _ _ ih
theorem AMV_of {sa : Nat → Nat} {n d i pc : Nat} {ls st : List Value} {h : AH} {r : Option Value × AH} (e : am sa n d i pc ls st h = some r) : AMV sa d i pc ls st h = some r := by
  have hx : ∃ (r : Option Value × AH) (n : Nat), am sa n d i pc ls st h = some r := ⟨r, n, e⟩
  unfold AMV
  rw [dif_pos hx]
  obtain ⟨m, hm⟩ := hx.choose_spec
  have h1 := am_le sa (Nat.le_max_left n m) e
  have h2 := am_le sa (Nat.le_max_right n m) hm
  rw [h1] at h2
  exact h2.symm
theorem AMV_ex {sa : Nat → Nat} {d i pc : Nat} {ls st : List Value} {h : AH} {r : Option Value × AH} (e : AMV sa d i pc ls st h = some r) : ∃ n, am sa n d i pc ls st h = some r := by
  unfold AMV at e
  split at e
  · rename_i hx
    obtain ⟨m, hm⟩ := hx.choose_spec
    exact ⟨m, by rw [hm]; exact e⟩
  · cases e
theorem AMV_fix (sa : Nat → Nat) (d i pc : Nat) (ls st : List Value) (h : AH) : AMV sa d i pc ls st h = amS sa i (AMV sa d i) (AMC sa d) pc ls st h := by
  have key : ∀ r, AMV sa d i pc ls st h = some r ↔ amS sa i (AMV sa d i) (AMC sa d) pc ls st h = some r := by
    intro r
    constructor
    · intro e
      obtain ⟨n, hn⟩ := AMV_ex e
      cases n with
      | zero => cases hn
      | succ n =>
        refine amS_mono (fun pc ls st h r e => AMV_of e) (fun j as h r e => ?_) hn
        cases d with
        | zero => exact e
        | succ d => exact AMV_of (sa := sa) (d := d) (i := j) e
    · intro e
      rcases amS_inv e with ⟨_, h1⟩ | ⟨a, b, c, g, _, h2, h3⟩ | ⟨j, as, rv, g, a, b, c, h1, h2, h3⟩
      · exact AMV_of (n := 1) (h1 _ _)
      · obtain ⟨n, hn⟩ := AMV_ex h2
        exact AMV_of (n := n + 1) ((h3 _ _).trans hn)
      · obtain ⟨n, hn⟩ := AMV_ex h2
        cases d with
        | zero => cases h1
        | succ d =>
          obtain ⟨m, hm⟩ := AMV_ex (sa := sa) (d := d) (i := j) h1
          refine AMV_of (n := Nat.max n m + 1) ((h3 _ _ ?_).trans ?_)
          · exact am_le sa (Nat.le_max_right n m) hm
          · exact am_le sa (Nat.le_max_left n m) hn
  cases e1 : AMV sa d i pc ls st h with
  | some r => exact ((key r).mp e1).symm
  | none =>
    cases e2 : amS sa i (AMV sa d i) (AMC sa d) pc ls st h with
    | none => rfl
    | some r => rw [(key r).mpr e2] at e1; cases e1
theorem AMV_T (sa : Nat → Nat) (d i : Nat) (stop : Nat → Bool) (n pc : Nat) (ls st : List Value) (h : AH) : AMV sa d i pc ls st h = amT sa i stop (AMV sa d i) (AMC sa d) n pc ls st h := by
  induction n generalizing pc ls st h with
  | zero => rfl
  | succ n ih =>
    rw [AMV_fix]
    show _ = amS sa i (fun pc ls st h => cond (stop pc) (AMV sa d i pc ls st h) (amT sa i stop (AMV sa d i) (AMC sa d) n pc ls st h)) (AMC sa d) pc ls st h
    congr 1
    funext pc ls st h
    cases stop pc with
    | true => rfl
    | false => exact ih pc ls st h
