theorem aFI_of {h : AH} {a ci k : Nat} {x : Int32} (e : aFI h a ci k = some x) : ∃ fs, h.2.2 a = some (.inl (ci, fs)) ∧ fs[k]? = some (.int x) := by
  unfold aFI at e
  split at e
  · rename_i o ho
    split at e
    · rename_i hz
      subst hz
      split at e
      · rename_i y hy
        cases e
        exact ⟨o.2, ho, hy⟩
      · cases e
    · cases e
  · cases e
theorem aFR_of {h : AH} {a ci k x : Nat} (e : aFR h a ci k = some x) : ∃ fs, h.2.2 a = some (.inl (ci, fs)) ∧ fs[k]? = some (.ref x) := by
  unfold aFR at e
  split at e
  · rename_i o ho
    split at e
    · rename_i hz
      subst hz
      split at e
      · rename_i y hy
        cases e
        exact ⟨o.2, ho, hy⟩
      · cases e
    · cases e
  · cases e
theorem aFP_eq {h g : AH} {a ci k : Nat} {v : Value} (e : aFP h a ci k v = some g) : g.1 = h.1 ∧ g.2.1 = h.2.1 := by
  unfold aFP at e
  split at e
  · split at e
    · cases e; exact ⟨rfl, rfl⟩
    · cases e
  · cases e
theorem aIS_eq {h g : AH} {a : Nat} {i x : Int32} (e : aIS h a i x = some g) : g.1 = h.1 ∧ g.2.1 = h.2.1 := by
  unfold aIS at e
  split at e
  · split at e
    · cases e; exact ⟨rfl, rfl⟩
    · cases e
  · cases e
theorem aZS_eq {h g : AH} {a : Nat} {i x : Int32} (e : aZS h a i x = some g) : g.1 = h.1 ∧ g.2.1 = h.2.1 := by
  unfold aZS at e
  split at e
  · split at e
    · cases e; exact ⟨rfl, rfl⟩
    · cases e
  · cases e
theorem aRS_eq {h g : AH} {a v ci : Nat} {i : Int32} (e : aRS h a i v ci = some g) : g.1 = h.1 ∧ g.2.1 = h.2.1 := by
  unfold aRS at e
  split at e
  · split at e
    · cases e; exact ⟨rfl, rfl⟩
    · cases e
  · cases e
theorem aCpy_eq {h g : AH} {a0 a : Nat} {sp dp n : Int32} (e : aCpy h a0 sp a dp n = some g) : g.1 = h.1 ∧ g.2.1 = h.2.1 := by
  unfold aCpy at e
  split at e
  · split at e
    · cases e; exact ⟨rfl, rfl⟩
    · cases e
  · cases e
theorem aNA_eq {h : AH} {t : Nat} {n : Int32} {z : Nat × AH} (e : aNA h t n = some z) : z.2.1 = h.1 + 1 ∧ z.2.2.1 = h.2.1 + n.toNatClampNeg := by
  unfold aNA at e
  split at e
  · cases e; exact ⟨rfl, rfl⟩
  · cases e
theorem aNR_eq {h : AH} {n : Int32} {z : Nat × AH} (e : aNR h n = some z) : z.2.1 = h.1 + 1 ∧ z.2.2.1 = h.2.1 + n.toNatClampNeg := by
  unfold aNR at e
  split at e
  · cases e; exact ⟨rfl, rfl⟩
  · cases e
/-! ===== what the abstract machine does, the machine does ===== -/
theorem am_hle (sa : Nat → Nat) : ∀ (n d i pc : Nat) (ls st : List Value) (h : AH) (res : Option Value × AH), am sa n d i pc ls st h = some res → aLe h res.2
  | 0, d, i, pc, ls, st, h, res, e => by cases e
  | n + 1, d, i, pc, ls, st, h, res, e => by
    rcases amS_inv e with ⟨h1, _⟩ | ⟨a, b, c, g, h1, h2, _⟩ | ⟨j, as, rv, g, a, b, c, h1, h2, _⟩
    · rw [h1]; exact aLe.rf h
    · exact h1.tr (am_hle sa n d i _ _ _ _ _ h2)
    · refine aLe.tr ?_ (am_hle sa n d i _ _ _ _ _ h2)
      cases d with
      | zero => cases h1
      | succ d => exact am_hle sa n d j _ _ _ _ _ h1
def aEnd (i pc : Nat) (r : Option Value) : Prop := match r with
  | some (.int x) => decode (amB i) pc = .ok (.ireturn, 1) ∧ (amRt i = some .int ∨ (amRt i = some .boolean ∧ (x = 0 ∨ x = 1)))
  | some (.ref _) => decode (amB i) pc = .ok (.areturn, 1) ∧ ∃ C, amRt i = some (.object C)
  | none => decode (amB i) pc = .ok (.return_, 1) ∧ amRt i = none
  | _ => False
def aSnd (sa : Nat → Nat) (lo : Nat) (D : va_G) (l : Launch) (n : Nat) : Prop := ∀ (d i pc : Nat) (ls st : List Value) (h : AH) (res : Option Value × AH), am sa n d i pc ls st h = some res → i < 189 →
  ∀ (p : Program) (e : Env) (R : Room) (s : State) (m : MethodId) (args : Array Value) (below : List Frame) (meth : Method) (c : Code) (H : Heap) (locs : List Loc) (cells slots : Nat) (Q : State → Prop) (lsA : Array Slot) (h0 : AH),
  aCx sa lo D p s m args meth c i → lv_has lsA (amMx i) (aAs ls) → ls.length = amMx i → hOK lo D s h H → va_S (aA lo) s.heap H locs → cells + h0.1 = h.1 → slots + h0.2.1 = h.2.1 → res.2.1 ≤ R.cells + h0.1 → res.2.2.1 ≤ R.slots + h0.2.1 → d + 1 ≤ R.frames → 64 * (d + 1) ≤ R.locals →
  (∀ (pc' : Nat) (H' : Heap) (locs' : List Loc) (cells' slots' : Nat) (lsA' : Array Slot), aEnd i pc' res.1 → hOK lo D s res.2 H' → va_S (aA lo) s.heap H' locs' → cells' + h0.1 = res.2.1 → slots' + h0.2.1 = res.2.2.1 → W p l e R s m args below meth c H' locs' cells' slots' Q (F0 m pc' lsA' res.1.toList)) →
  W p l e R s m args below meth c H locs cells slots Q (F0 m pc lsA st)
def aWs (j : Nat) : List Cond := Cond.code (amY j) (amB j) (amMx j) (amRt j) :: aTb
def aRm (d : Nat) (h g : AH) : Room := { frames := d + 1, cells := g.1 - h.1, slots := g.2.1 - h.2.1, locals := 64 * (d + 1) }
def aPc (sa : Nat → Nat) (lo : Nat) (D : va_G) (as : List Value) (h : AH) : Array Value → State → Prop := va_Pc as (fun U => hOK lo D U h U.heap ∧ aKn sa lo D U)
def aQc (lo : Nat) (D : va_G) (rv : Option Value) (g : AH) : Array Value → State → Outcome → State → Prop := fun _ st o t => (o = .returned rv ∧ hOK lo D t g t.heap) ∧ va_F (aA lo) st t
def aYs (j : Nat) : Prop := aWrd (.code (amY j) (amB j) (amMx j) (amRt j)) = true ∧ aWrd (.initialized (amY j).cls) = true ∧ plainName (amY j).cls = true ∧ (amY j).cls ≠ "java/lang/invoke/MethodHandle" ∧ (amY j).cls ≠ "java/lang/invoke/VarHandle" ∧ (parseMethodDescriptor (amY j).desc).map (fun d => d.parameters.length) = some (aNq j) ∧ amMx j < 30 ∧ (amY j).cls = aNm (aOn j) ∧
  (aSk j = 0 → aWrd (.static (amY j)) = true) ∧ (aSk j = 1 → aWrd (.instanceMethod (amY j)) = true ∧ (amY j).name = "<init>" ∧ amRt j = none) ∧ (aSk j = 2 → aWrd (.instanceMethod (amY j)) = true ∧ aWrd (.selects (amY j).cls (amY j) (amY j)) = true)
theorem aY_spec {j : Nat} (hj : j < 186) : aYs j := by
  have h := aY_ok j hj
  unfold aYok at h
  simp only [Bool.and_eq_true, decide_eq_true_eq] at h
  obtain ⟨h1, h2, h3, h4, h5, h6, h7, h8, h9⟩ := h
  refine ⟨aAt_of h1, aAt_of h2, h3, h4, h5, h6, Nat.le_of_ble_eq_true h7, h8, fun e => ?_, fun e => ?_, fun e => ?_⟩
  · rw [e] at h9
    exact aAt_of h9
  · rw [e] at h9
    simp only [Bool.and_eq_true, decide_eq_true_eq] at h9
    exact ⟨aAt_of h9.1, h9.2⟩
  · rw [e] at h9
    simp only [Bool.and_eq_true, decide_eq_true_eq] at h9
    exact ⟨aAt_of h9.1, aAt_of h9.2.1⟩
theorem aGood {w : Cond} (h : w ∈ aTb) : (w.onTables && w.keeps) = true ∨ ∃ ty, w = .arrayClass ty := good_of_word (List.mem_filter.mp h).2
theorem aGoodIn {j : Nat} (hj : j < 186) : GoodIn aTb (aWs j) := by
  intro w hw
  have : w ∈ aTb := by
    rcases List.mem_cons.mp hw with rfl | h
    · exact aTb_mem.mpr (aY_spec hj).1
    · exact h
  exact ⟨this, aGood this⟩
set_option maxHeartbeats 4000000 in
theorem a_met {sa : Nat → Nat} {lo : Nat} {D : va_G} {l : Launch} {n : Nat} (IH : aSnd sa lo D l n) {d j : Nat} {as : List Value} {h g : AH} {rv : Option Value} (hj : j < 186) (hr : am sa n d j 0 (aEn (amMx j) as) [] h = some (rv, g)) (hcat : ∀ w ∈ as, w.category = 1) (hlen : as.length ≤ amMx j) :
    Met l (amY j) (aWs j) (aRm d h g) (aPc sa lo D as h) (aQc lo D rv g) (g.1 - h.1) (g.2.1 - h.2.1) (aA lo) := by
  obtain ⟨-, -, hpl, -, -, -, -, hcl, -⟩ := aY_spec hj
  refine Met.ofW (cc := amB j) (maxL := amMx j) (ret := amRt j) hpl rfl ?_
  intro p e s m args below meth c s₁ B hml hv
  obtain ⟨rfl, hO, hKn⟩ := hv
  have hts := atoms_spec (ws := aWs j) B.pre
  have hl := lv_entry as (n := amMx j) (by rw [aSl_len as hcat]; exact hlen)
  rw [lg_entry_eq]
  generalize (lg_sl as ++ List.replicate (amMx j - (lg_sl as).length) Slot.unset).toArray = lsA at hl ⊢
  have hle := am_hle sa _ _ _ _ _ _ _ _ hr
  have hown : s.vm.findClass (aNm (aOn j)) = some m.cls := by rw [← hcl]; exact findClass_of_methodNamed B.named
  refine IH d j 0 (aEn (amMx j) as) [] h (rv, g) hr (by omega) p e _ s m _ below meth c s.heap [] 0 0 _ lsA h ⟨B.exec, B.bytes, hml, hown, fun w hw => hts w (List.mem_cons_of_mem _ (aTb_mem.mpr hw)), hKn, fun z => (name_of_methodNamed B.named B.method).1.trans z⟩ (aEn_has hcat hl) (aEn_len hlen) hO va_S.rf (Nat.zero_add _) (Nat.zero_add _) ?_ ?_ (Nat.le_refl _) (Nat.le_refl _) ?_
  · show g.1 ≤ (g.1 - h.1) + h.1
    have := hle.1
    dsimp only at this
    omega
  · show g.2.1 ≤ (g.2.1 - h.2.1) + h.2.1
    have := hle.2
    dsimp only at this
    omega
  intro pc' H' locs' cells' slots' lsA' hend hO' hS' ec es
  have hlocks := B.notSynchronized
  have e1 : cells' = g.1 - h.1 := by dsimp only at ec; omega
  have e2 : slots' = g.2.1 - h.2.1 := by dsimp only at es; omega
  subst e1; subst e2
  have fin : ∀ (rv' : Option Value), rv' = rv → ∀ t : State, t.heap = H' → s.WarmedH t.vm → aQc lo D rv g as.toArray s (.returned rv') t := fun rv' er t ht hW => ⟨⟨by rw [er], by rw [ht]; exact hO'.moved hW.alike⟩, hS'.F ht⟩
  match rv, hend, fin with
  | none, hend, fin => exact W.vret B.exec B.bytes (B.returns.trans hend.2) (fin _ rfl) hS'.2.2 hend.1
  | some (.int x), hend, fin =>
    rcases hend.2 with hb | ⟨hb, hx⟩
    · exact W.iret B.exec B.bytes (B.returns.trans hb) (fin _ rfl) hS'.2.2 hend.1
    · exact W.zret (ty := .boolean) B.exec B.bytes (B.returns.trans hb) (by rcases hx with rfl | rfl <;> rfl) (fin _ rfl) hS'.2.2 hend.1
  | some (.ref a), hend, fin =>
    obtain ⟨C, hC⟩ := hend.2
    exact W.aret (v := .ref a) (rt := .object C) B.exec B.bytes (B.returns.trans hC) (Or.inl ⟨C, rfl⟩) (Or.inr ⟨a, rfl⟩) (fin _ rfl) hS'.2.2 hend.1
theorem aPc.blind {sa : Nat → Nat} {lo : Nat} {D : va_G} {as : List Value} {h : AH} : FrameBlind (aPc sa lo D as h) := by
  intro a U g mk hp
  obtain ⟨h1, h2, h3⟩ := hp
  exact ⟨h1, hOK.moved (u := U) (U := U.calling g mk a) (Vm.Alike.refl U.vm) h2, h3.blind⟩
section ACALL
variable {p : Program} {l : Launch} {e : Env} {R : Room} {s : State} {m : MethodId} {args : Array Value} {below : List Frame} {meth : Method} {c : Code} {H : Heap} {locs : List Loc} {cells slots : Nat} {Q : State → Prop}
variable {pc : Nat} {ls : Array Slot} {rest st0 : List Value} {sa : Nat → Nat} {lo : Nat} {D : va_G} {i : Nat} {h g : AH} {rv : Option Value}
theorem a_call {mc ms : Nat} {a : Array Value} (hr : va_Run p l e R s m args below meth c H locs cells slots mc ms (F0 m pc ls st0) rest (aQc lo D rv g a) (aA lo)) (hS : va_S (aA lo) s.heap H locs)
    (kk : ∀ (H1 : Heap) (locs1 : List Loc), hOK lo D s g H1 → va_S (aA lo) s.heap H1 locs1 → W p l e R s m args below meth c H1 locs1 (cells + mc) (slots + ms) Q (F0 m (pc + 3) ls (rv.toList ++ rest))) : W p l e R s m args below meth c H locs cells slots Q (F0 m pc ls st0) := by
  intro T hT X
  obtain ⟨v, st₀, t, T', L, h0, X', hL, e1, e2, ⟨⟨hv, hO⟩, hz, hk⟩, st⟩ := hr T hT X
  cases hv
  rw [h0] at hz hk
  obtain ⟨t2, a1, b1⟩ := kk T'.heap (locs ++ L) (by rw [e1]; exact hO.moved (by rw [← e2]; exact X'.warmed.alike.symm))
    ⟨Nat.le_trans hS.1 (by rw [e1]; exact hz), fun q h1 h2 => by rw [e1, hk q (Nat.lt_of_lt_of_le h1 hS.1) h2]; exact hS.2.1 q h1 h2, fun q hq => by
      rcases List.mem_append.mp hq with h | h
      · exact hS.2.2 q h
      · exact hL q h⟩ T' rfl X'
  exact ⟨t2, st t2 a1, b1⟩
theorem aHasM_of {o k j : Nat} {nest : Bool} (hm : aHasM o k j nest = true) : j < 186 ∧ (aWrd (.methodLink (aNm o) k (amY j)) = true ∨ (nest = true ∧ (.methodLinkNest (aNm o) k (amY j) "LetterOunces" : Cond) ∈ lw_tbl)) := by
  unfold aHasM at hm
  obtain ⟨⟨o', k', p', t, ps⟩, he, hm⟩ := List.any_eq_true.mp hm
  have hok := aMT_ok _ he
  simp only [Bool.and_eq_true, aBq, Bool.or_eq_true] at hm
  obtain ⟨rfl, rfl, rfl, hn⟩ := hm
  unfold aMok at hok
  simp only [Bool.and_eq_true] at hok
  refine ⟨Nat.le_of_ble_eq_true hok.1, ?_⟩
  by_cases ht : t = 0
  · rw [show Nat.beq t 0 = true from aBq.mpr ht] at hok
    exact Or.inl (aAt_of hok.2)
  · rw [show Nat.beq t 0 = false from Bool.eq_false_iff.mpr (fun z => ht (aBq.mp z))] at hok
    exact Or.inr ⟨hn.resolve_right ht, aAn_of hok.2⟩
theorem a_cb (X : aCx sa lo D p s m args meth c i) {j k d : Nat} (hj : j < 186) (hl : aWrd (.methodLink (aNm (aOn i)) k (amY j)) = true) (hf : d + 1 + 1 ≤ R.frames) (hlc : 64 * (d + 1 + 1) ≤ R.locals) :
    CallB R s args (aNm (aOn i)) k (amY j) (amB j) (amMx j) (amRt j) (aWs j) (aRm d h g) (g.1 - h.1) (g.2.1 - h.2.1) (aNq j) := by
  obtain ⟨-, -, -, -, hts, -, -⟩ := X
  obtain ⟨hc, hin, -, h1, h2, h3, h4, -⟩ := aY_spec hj
  exact callB_of (Ts := aTb) _ (fun w hw => hts w (aTb_mem.mp hw)) (aGoodIn hj) rfl rfl rfl (hts _ hin) (hts _ hl) ⟨h1, h2, h3⟩ ⟨hf, by show 8 + (amMx j + 11) + 64 * (d + 1) ≤ _; omega⟩
theorem a_cn (X : aCx sa lo D p s m args meth c i) {j k d : Nat} (hj : j < 186) (hl : (.methodLinkNest (aNm (aOn i)) k (amY j) "LetterOunces" : Cond) ∈ lw_tbl) (hf : d + 1 + 1 ≤ R.frames) (hlc : 64 * (d + 1 + 1) ≤ R.locals) :
    va_CN R s args (aNm (aOn i)) k (amY j) "LetterOunces" (amB j) (amMx j) (amRt j) (aWs j) (aRm d h g) (g.1 - h.1) (g.2.1 - h.2.1) (aNq j) := by
  obtain ⟨-, -, -, -, hts, ⟨-, hN, -⟩, -⟩ := X
  obtain ⟨hc, hin, -, h1, h2, h3, h4, -⟩ := aY_spec hj
  exact va_cnB (Ts := aTb) _ (fun w hw => hts w (aTb_mem.mp hw)) (aGoodIn hj) rfl rfl rfl (hN _ hl rfl) (hts _ hin) ⟨h1, h2, h3⟩ ⟨hf, by show 8 + (amMx j + 11) + 64 * (d + 1) ≤ _; omega⟩
theorem a_pre (X : aCx sa lo D p s m args meth c i) (hO : hOK lo D s h H) (hS : va_S (aA lo) s.heap H locs) (as : List Value) : PreS s H (aPc sa lo D as h) as := by
  obtain ⟨-, -, -, -, -, hKn, -⟩ := X
  exact ⟨aPc.blind, fun U hU hW => ⟨rfl, by rw [hU]; exact hO.moved hW.alike, hKn.warm hW hU hS⟩⟩
theorem aG_of {st : List Value} {q : Nat} (hg : aG st q = true) : aW (st.drop q) ≤ 8 ∧ (∀ w ∈ st.take q, w.category = 1) ∧ q ≤ st.length := by
  unfold aG at hg
  simp only [Bool.and_eq_true] at hg
  obtain ⟨h1, h2, h3⟩ := hg
  have h3 := Nat.le_of_ble_eq_true h3
  refine ⟨Nat.le_of_ble_eq_true h1, aW_one _ ?_, h3⟩
  rw [List.length_take, Nat.min_eq_left h3]
  exact Nat.le_of_ble_eq_true h2
end ACALL
theorem aTo_eq {pc : Nat} {o : Int} (h : 0 ≤ (pc : Int) + o) : (pc : Int) + o = (aTo pc o : Int) := by
  unfold aTo
  omega
theorem aInt_lit {x c : Int32} : x = c ↔ x.toInt = c.toInt := ⟨fun h => by rw [h], fun h => Int32.toInt_inj.mp h⟩
theorem aSw_in (x : Int32) (d : Int) : ∀ (os : List Int) (c : Int32), c.toInt + (os.length : Int) < 2147483648 → ∀ {ρ : Type} (K : Int → ρ), ((x.toInt < c.toInt ∨ c.toInt + (os.length : Int) ≤ x.toInt) ∧ aSw x K d c os = K d) ∨ (∃ o, ¬ x.toInt < c.toInt ∧ x.toInt < c.toInt + (os.length : Int) ∧ os[(x.toInt - c.toInt).toNat]? = some o ∧ aSw x K d c os = K o)
  | [], c, _, ρ, K => by
    refine Or.inl ⟨?_, rfl⟩
    simp only [List.length_nil]
    omega
  | o :: os, c, hb, ρ, K => by
    simp only [List.length_cons] at hb
    by_cases hx : x = c
    · refine Or.inr ⟨o, ?_, ?_, ?_, ?_⟩
      · rw [hx]; omega
      · rw [hx]; simp only [List.length_cons]; omega
      · rw [hx, Int.sub_self]; rfl
      · simp only [aSw]; rw [if_pos hx]
    · have hne : x.toInt ≠ c.toInt := fun z => hx (aInt_lit.mpr z)
      have hc1 : (c + 1).toInt = c.toInt + 1 := by
        rw [Int32.toInt_add, show (1 : Int32).toInt = 1 from rfl]
        have h1 := Int32.le_toInt c
        have h2 : c.toInt + 1 < 2147483648 := by omega
        rw [Int.bmod_def]
        simp only [show (2 : Nat) ^ 32 = 4294967296 from rfl]
        have : (-2147483648 : Int) ≤ c.toInt := h1
        omega
      have e : aSw x K d c (o :: os) = aSw x K d (c + 1) os := by simp only [aSw]; rw [if_neg hx]
      rcases aSw_in x d os (c + 1) (by rw [hc1]; omega) K with ⟨h1, h2⟩ | ⟨o', h1, h2, h3, h4⟩
      · rw [hc1] at h1
        refine Or.inl ⟨?_, e.trans h2⟩
        simp only [List.length_cons]
        omega
      · rw [hc1] at h1 h2 h3
        refine Or.inr ⟨o', by omega, by simp only [List.length_cons]; omega, ?_, e.trans h4⟩
        rw [show (x.toInt - c.toInt).toNat = (x.toInt - (c.toInt + 1)).toNat + 1 by omega]
        exact h3
theorem aLk_in (x : Int32) (d : Int) : ∀ (ps : List (Int × Int)), (ps.all fun f => decide ((Int32.ofInt f.1).toInt = f.1)) = true → ∀ {ρ : Type} (K : Int → ρ), aLk x K d ps = K (Op.lookupswitch.offset ps d x.toInt)
  | [], _, ρ, K => rfl
  | o :: ps, h, ρ, K => by
    simp only [List.all_cons, Bool.and_eq_true, decide_eq_true_eq] at h
    simp only [aLk]
    by_cases hx : x = Int32.ofInt o.1
    · rw [if_pos hx, show Op.lookupswitch.offset (o :: ps) d x.toInt = o.2 from ?_]
      rw [Op.lookupswitch.offset_cons, if_pos]
      rw [hx]; exact h.1.symm
    · rw [if_neg hx, aLk_in x d ps h.2 K]
      congr 1
      rw [show (o :: ps) = ((o.1, o.2) :: ps) from rfl, lv_osw hx h.1]
theorem aOff_mem {d x : Int} : ∀ (ps : List (Int × Int)), Op.lookupswitch.offset ps d x = d ∨ ∃ f ∈ ps, Op.lookupswitch.offset ps d x = f.2
  | [] => Or.inl rfl
  | o :: ps => by
    rw [Op.lookupswitch.offset_cons]
    by_cases h : o.1 = x
    · rw [if_pos h]
      exact Or.inr ⟨o, List.mem_cons_self, rfl⟩
    · rw [if_neg h]
      rcases aOff_mem ps with h | ⟨f, h1, h2⟩
      · exact Or.inl h
      · exact Or.inr ⟨f, List.mem_cons_of_mem _ h1, h2⟩
set_option maxHeartbeats 16000000 in
set_option maxRecDepth 20000 in
theorem a_step {sa : Nat → Nat} {lo : Nat} {D : va_G} {l : Launch} {n : Nat} (IH : aSnd sa lo D l n) : aSnd sa lo D l (n + 1) := by
  intro d i pc ls st h res hE0 hi p e R s m args below meth c H locs cells slots Q lsA h0 X hl hlen hO hS ec es hR1 hR2 hR3 hR4 hRet
  obtain ⟨⟨ins, len, cc, pp, q, r⟩, hcd, hE1⟩ := aOp_some hE0
  have hrow := aRows i pc hi _ hcd
  unfold aRow at hrow
  simp only [Bool.and_eq_true, decide_eq_true_eq] at hrow
  obtain ⟨hrow, hc⟩ := hrow
  have hE : amI sa amDf (am sa n d i) (amC (am sa n) d) pc ls st h ins len cc pp q r = some res := hE1
  clear hE1 hcd
  have go : ∀ (pc2 : Nat) (ls2 st2 : List Value) (h2 : AH), am sa n d i pc2 ls2 st2 h2 = some res → ∀ (lsA2 : Array Slot) (H2 : Heap) (locs2 : List Loc) (cells2 slots2 : Nat), lv_has lsA2 (amMx i) (aAs ls2) → ls2.length = amMx i → hOK lo D s h2 H2 → va_S (aA lo) s.heap H2 locs2 → cells2 + h0.1 = h2.1 → slots2 + h0.2.1 = h2.2.1 → W p l e R s m args below meth c H2 locs2 cells2 slots2 Q (F0 m pc2 lsA2 st2) :=
    fun pc2 ls2 st2 h2 e2 lsA2 H2 locs2 cells2 slots2 a1 a2 a3 a4 a5 a6 => IH d i pc2 ls2 st2 h2 res e2 hi p e R s m args below meth c H2 locs2 cells2 slots2 Q lsA2 h0 X a1 a2 a3 a4 a5 a6 hR1 hR2 hR3 hR4 hRet
  have gs : ∀ {pc2 : Nat} {st2 : List Value}, am sa n d i pc2 ls st2 h = some res → W p l e R s m args below meth c H locs cells slots Q (F0 m pc2 lsA st2) := fun e2 => go _ _ _ _ e2 lsA H locs cells slots hl hlen hO hS ec es
  have gl : ∀ {pc2 : Nat} {ls2 st2 : List Value}, am sa n d i pc2 ls2 st2 h = some res → ls2.length = ls.length → ∀ lsA2, lv_has lsA2 (amMx i) (aAs ls2) → W p l e R s m args below meth c H locs cells slots Q (F0 m pc2 lsA2 st2) := fun e2 z lsA2 a1 => go _ _ _ _ e2 lsA2 H locs cells slots a1 (z.trans hlen) hO hS ec es
  have gh : ∀ {pc2 : Nat} {st2 : List Value} {h2 : AH}, am sa n d i pc2 ls st2 h2 = some res → ∀ (H2 : Heap) (locs2 : List Loc), hOK lo D s h2 H2 → va_S (aA lo) s.heap H2 locs2 → h2.1 = h.1 → h2.2.1 = h.2.1 → W p l e R s m args below meth c H2 locs2 cells slots Q (F0 m pc2 lsA st2) := fun e2 H2 locs2 a3 a4 z1 z2 => go _ _ _ _ e2 lsA H2 locs2 cells slots hl hlen a3 a4 (by rw [z1]; exact ec) (by rw [z2]; exact es)
  obtain ⟨hx, hb, hml, hown, hts, hKn, hinit⟩ := id X
  have hsz : c.maxLocals = lsA.size := by rw [hml, hl.1]
  have rd : ∀ {k : Nat} {v : Value}, ls[k]? = some v → v ≠ .null → lsA[k]? = some (.val v) := fun {k v} a b => hl.2.2 (k, v) (aAs_mem.mpr ⟨a, b⟩)
  cases ins
  case iconst k =>
    simp only [aChk, Bool.and_eq_true, aBq, decide_eq_true_eq] at hc
    obtain ⟨rfl, rfl⟩ := hc
    exact lv_iconst hx hb hrow rfl (gs hE)
  case bipush k =>
    simp only [aChk, Bool.and_eq_true, aBq, decide_eq_true_eq] at hc
    obtain ⟨rfl, rfl⟩ := hc
    exact lv_bipush hx hb hrow rfl (gs hE)
  case sipush k =>
    simp only [aChk, Bool.and_eq_true, aBq, decide_eq_true_eq] at hc
    obtain ⟨rfl, rfl⟩ := hc
    exact lv_sipush hx hb hrow rfl (gs hE)
  case ldc k =>
    simp only [aChk, Bool.and_eq_true, aBq, decide_eq_true_eq] at hc
    obtain ⟨rfl, hc⟩ := hc
    exact lv_ldc hx hb hown (hts _ (aCT0_ok _ hc)) hrow (gs hE)
  case ldc_w k =>
    simp only [aChk, Bool.and_eq_true, aBq, decide_eq_true_eq] at hc
    obtain ⟨rfl, hc⟩ := hc
    exact lv_ldcw hx hb hown (hts _ (aCT0_ok _ hc)) hrow (gs hE)
  case ldc2_w k =>
    simp only [aChk, Bool.and_eq_true, aBq, decide_eq_true_eq] at hc
    obtain ⟨rfl, hc⟩ := hc
    exact lv_ldc2 hx hb hown (hts _ (aLT0_ok _ hc)) hrow (gs hE)
  case lconst k =>
    simp only [aChk, Bool.and_eq_true, aBq, decide_eq_true_eq] at hc
    obtain ⟨rfl, hc⟩ := hc
    exact lv_lconst hx hb hrow (by rw [hc]; rfl) (gs hE)
  case iload k =>
    have hc := aBq.mp hc
    subst hc
    obtain ⟨v, hv, hE⟩ := aOp_some hE
    exact lv_iload hx hb hrow (rd (aLI_of hv) (fun z => by cases z)) (gs hE)
  case lload k =>
    have hc := aBq.mp hc
    subst hc
    obtain ⟨v, hv, hE⟩ := aOp_some hE
    exact lv_lload hx hb hrow (rd (aLL_of hv) (fun z => by cases z)) (gs hE)
  case aload k =>
    have hc := aBq.mp hc
    subst hc
    obtain ⟨v, hv, hE⟩ := aOp_some hE
    exact lv_aload hx hb hrow (rd (aLR_of hv) (fun z => by cases z)) (gs hE)
  case iload_n k =>
    have hc := aBq.mp hc
    subst hc
    obtain ⟨v, hv, hE⟩ := aOp_some hE
    exact lv_iload_n hx hb hrow rfl (rd (aLI_of hv) (fun z => by cases z)) (gs hE)
  case aload_n k =>
    have hc := aBq.mp hc
    subst hc
    obtain ⟨v, hv, hE⟩ := aOp_some hE
    exact lv_aload_n hx hb hrow rfl (rd (aLR_of hv) (fun z => by cases z)) (gs hE)
  case istore k =>
    have hc := aBq.mp hc
    subst hc
    simp only [amI] at hE
    split at hE
    · obtain ⟨v, hv, hE⟩ := aOp_some hE
      obtain ⟨h1, h2, rfl⟩ := aS1_of hv
      exact lv_istore hx hb hrow hl (by rw [← hlen]; exact h1) rfl (fun ls2 hl2 => gl hE (List.length_set ..) ls2 (aLs1 h2 hl2 h1))
    · cases hE
  case astore k =>
    have hc := aBq.mp hc
    subst hc
    simp only [amI] at hE
    split at hE
    · obtain ⟨v, hv, hE⟩ := aOp_some hE
      obtain ⟨h1, h2, rfl⟩ := aS1_of hv
      exact lv_astore hx hb hrow hl (by rw [← hlen]; exact h1) rfl (fun ls2 hl2 => gl hE (List.length_set ..) ls2 (aLs1 h2 hl2 h1))
    · cases hE
  case istore_n k =>
    have hc := aBq.mp hc
    subst hc
    simp only [amI] at hE
    split at hE
    · obtain ⟨v, hv, hE⟩ := aOp_some hE
      obtain ⟨h1, h2, rfl⟩ := aS1_of hv
      exact lv_istore_n hx hb hrow rfl hl (by rw [← hlen]; exact h1) rfl (fun ls2 hl2 => gl hE (List.length_set ..) ls2 (aLs1 h2 hl2 h1))
    · cases hE
  case astore_n k =>
    have hc := aBq.mp hc
    subst hc
    simp only [amI] at hE
    split at hE
    · obtain ⟨v, hv, hE⟩ := aOp_some hE
      obtain ⟨h1, h2, rfl⟩ := aS1_of hv
      exact lv_astore_n hx hb hrow rfl hl (by rw [← hlen]; exact h1) rfl (fun ls2 hl2 => gl hE (List.length_set ..) ls2 (aLs1 h2 hl2 h1))
    · cases hE
  case lstore k =>
    have hc := aBq.mp hc
    subst hc
    simp only [amI] at hE
    split at hE
    · obtain ⟨v, hv, hE⟩ := aOp_some hE
      obtain ⟨h1, h2, rfl⟩ := aS2_of hv
      exact lv_lstore hx hb hrow hl (by rw [← hlen]; exact h1) rfl (fun ls2 hl2 => gl hE (by simp) ls2 (aLs2 h2 hl2 h1))
    · cases hE
  case iinc k z =>
    simp only [aChk, Bool.and_eq_true, aBq, decide_eq_true_eq] at hc
    obtain ⟨rfl, rfl⟩ := hc
    obtain ⟨v, hv, hE⟩ := aOp_some hE
    obtain ⟨v2, hv2, hE⟩ := aOp_some hE
    obtain ⟨h1, h2, rfl⟩ := aS1_of hv2
    obtain ⟨kk, hkk⟩ := List.getElem?_of_mem ((aAs_mem (q := (k, Value.int v))).mpr ⟨aLI_of hv, fun z => by cases z⟩)
    exact lv_iinc hx hb hrow hl hkk rfl (by rw [← hlen]; exact h1) rfl (fun ls2 hl2 => gl hE (List.length_set ..) ls2 (aLs1 h2 hl2 h1))
  case iadd =>
    have hc := aBq.mp hc
    subst hc
    simp only [amI] at hE
    split at hE
    · exact lv_iadd hx hb hrow (gs hE)
    · cases hE
  case isub =>
    have hc := aBq.mp hc
    subst hc
    simp only [amI] at hE
    split at hE
    · exact lv_isub hx hb hrow (gs hE)
    · cases hE
  case imul =>
    have hc := aBq.mp hc
    subst hc
    simp only [amI] at hE
    split at hE
    · exact lv_imul hx hb hrow (gs hE)
    · cases hE
  case iand =>
    have hc := aBq.mp hc
    subst hc
    simp only [amI] at hE
    split at hE
    · exact lv_iand hx hb hrow (gs hE)
    · cases hE
  case ior =>
    have hc := aBq.mp hc
    subst hc
    simp only [amI] at hE
    split at hE
    · exact lv_ior hx hb hrow (gs hE)
    · cases hE
  case ixor =>
    have hc := aBq.mp hc
    subst hc
    simp only [amI] at hE
    split at hE
    · exact lv_ixor hx hb hrow (gs hE)
    · cases hE
  case ineg =>
    have hc := aBq.mp hc
    subst hc
    simp only [amI] at hE
    split at hE
    · exact lv_ineg hx hb hrow (gs hE)
    · cases hE
  case ishl =>
    have hc := aBq.mp hc
    subst hc
    simp only [amI] at hE
    split at hE
    · exact lv_ishl hx hb hrow (gs hE)
    · cases hE
  case ishr =>
    have hc := aBq.mp hc
    subst hc
    simp only [amI] at hE
    split at hE
    · exact lv_ishr hx hb hrow (gs hE)
    · cases hE
  case lmul =>
    have hc := aBq.mp hc
    subst hc
    simp only [amI] at hE
    split at hE
    · exact lv_lmul hx hb hrow (gs hE)
    · cases hE
  case iushr =>
    have hc := aBq.mp hc
    subst hc
    simp only [amI] at hE
    split at hE
    · exact lv_iushr hx hb hrow rfl (gs hE)
    · cases hE
  case i2l =>
    have hc := aBq.mp hc
    subst hc
    simp only [amI] at hE
    split at hE
    · exact lv_i2l hx hb hrow rfl (gs hE)
    · cases hE
  case l2i =>
    have hc := aBq.mp hc
    subst hc
    simp only [amI] at hE
    split at hE
    · exact lv_l2i hx hb hrow rfl (gs hE)
    · cases hE
  case i2b =>
    have hc := aBq.mp hc
    subst hc
    simp only [amI] at hE
    split at hE
    · exact lv_i2b hx hb hrow rfl (gs hE)
    · cases hE
  case i2s =>
    have hc := aBq.mp hc
    subst hc
    simp only [amI] at hE
    split at hE
    · exact lv_i2s hx hb hrow rfl (gs hE)
    · cases hE
  case lcmp =>
    have hc := aBq.mp hc
    subst hc
    simp only [amI] at hE
    split at hE
    · exact W.lcmp hx hb hrow (gs hE)
    · cases hE
  case idiv =>
    have hc := aBq.mp hc
    subst hc
    simp only [amI] at hE
    split at hE
    · split at hE
      · cases hE
      · rename_i hz
        exact lv_idiv hx hb hrow hz (gs hE)
    · cases hE
  case irem =>
    have hc := aBq.mp hc
    subst hc
    simp only [amI] at hE
    split at hE
    · split at hE
      · cases hE
      · rename_i hz
        exact lv_irem hx hb hrow hz (gs hE)
    · cases hE
  case lrem =>
    have hc := aBq.mp hc
    subst hc
    simp only [amI] at hE
    split at hE
    · split at hE
      · cases hE
      · rename_i hz
        exact lv_lrem hx hb hrow hz (gs hE)
    · cases hE
  case dup =>
    have hc := aBq.mp hc
    subst hc
    simp only [amI] at hE
    split at hE
    · exact lv_dup hx hb hrow rfl (gs hE)
    · exact lv_dup hx hb hrow rfl (gs hE)
    · cases hE
  case pop =>
    have hc := aBq.mp hc
    subst hc
    simp only [amI] at hE
    split at hE
    · exact lv_pop hx hb hrow rfl (gs hE)
    · exact lv_pop hx hb hrow rfl (gs hE)
    · cases hE
  case dup2 =>
    have hc := aBq.mp hc
    subst hc
    simp only [amI] at hE
    split at hE
    · exact lv_dup2_11 hx hb hrow rfl rfl (gs hE)
    · exact lv_dup2_11 hx hb hrow rfl rfl (gs hE)
    · cases hE
  case goto o =>
    simp only [aChk, Bool.and_eq_true, aBq, decide_eq_true_eq] at hc
    obtain ⟨rfl, hc⟩ := hc
    exact lv_goto hx hb hrow (aTo_eq hc) (gs hE)
  case ifCond cd o =>
    simp only [aChk, Bool.and_eq_true, aBq, decide_eq_true_eq] at hc
    obtain ⟨rfl, hc⟩ := hc
    simp only [amI] at hE
    split at hE
    · rename_i x t
      cases cd
      · exact lv_if_eq hx hb hrow (aTo_eq hc) (fun z => gs (by simp only [aCmp] at hE; rw [if_pos z] at hE; exact hE)) (fun z => gs (by simp only [aCmp] at hE; rw [if_neg z] at hE; exact hE))
      · exact lv_if_ne hx hb hrow (aTo_eq hc) (fun z => gs (by simp only [aCmp] at hE; rw [if_neg z] at hE; exact hE)) (fun z => gs (by simp only [aCmp] at hE; rw [if_pos z] at hE; exact hE))
      · exact lv_if_lt hx hb hrow (aTo_eq hc) (fun z => gs (by simp only [aCmp] at hE; rw [if_pos z] at hE; exact hE)) (fun z => gs (by simp only [aCmp] at hE; rw [if_neg z] at hE; exact hE))
      · exact lv_if_ge hx hb hrow (aTo_eq hc) (fun z => gs (by simp only [aCmp] at hE; rw [if_pos z] at hE; exact hE)) (fun z => gs (by simp only [aCmp] at hE; rw [if_neg z] at hE; exact hE))
      · exact lv_if_gt hx hb hrow (aTo_eq hc) (fun z => gs (by simp only [aCmp] at hE; rw [if_pos z] at hE; exact hE)) (fun z => gs (by simp only [aCmp] at hE; rw [if_neg z] at hE; exact hE))
      · exact lv_if_le hx hb hrow (aTo_eq hc) (fun z => gs (by simp only [aCmp] at hE; rw [if_pos z] at hE; exact hE)) (fun z => gs (by simp only [aCmp] at hE; rw [if_neg z] at hE; exact hE))
    · cases hE
  case if_icmp cd o =>
    simp only [aChk, Bool.and_eq_true, aBq, decide_eq_true_eq] at hc
    obtain ⟨rfl, hc⟩ := hc
    simp only [amI] at hE
    split at hE
    · rename_i y x t
      cases cd
      · exact lv_icmp_eq hx hb hrow (aTo_eq hc) (fun z => gs (by simp only [aCmp] at hE; rw [if_pos z] at hE; exact hE)) (fun z => gs (by simp only [aCmp] at hE; rw [if_neg z] at hE; exact hE))
      · exact lv_icmp_ne hx hb hrow (aTo_eq hc) (fun z => gs (by simp only [aCmp] at hE; rw [if_neg z] at hE; exact hE)) (fun z => gs (by simp only [aCmp] at hE; rw [if_pos z] at hE; exact hE))
      · exact lv_icmp_lt hx hb hrow (aTo_eq hc) (fun z => gs (by simp only [aCmp] at hE; rw [if_pos z] at hE; exact hE)) (fun z => gs (by simp only [aCmp] at hE; rw [if_neg z] at hE; exact hE))
      · exact lv_icmp_ge hx hb hrow (aTo_eq hc) (fun z => gs (by simp only [aCmp] at hE; rw [if_pos z] at hE; exact hE)) (fun z => gs (by simp only [aCmp] at hE; rw [if_neg z] at hE; exact hE))
      · exact lv_icmp_gt hx hb hrow (aTo_eq hc) (fun z => gs (by simp only [aCmp] at hE; rw [if_pos z] at hE; exact hE)) (fun z => gs (by simp only [aCmp] at hE; rw [if_neg z] at hE; exact hE))
      · exact lv_icmp_le hx hb hrow (aTo_eq hc) (fun z => gs (by simp only [aCmp] at hE; rw [if_pos z] at hE; exact hE)) (fun z => gs (by simp only [aCmp] at hE; rw [if_neg z] at hE; exact hE))
    · cases hE
  case tableswitch dd lo2 hi2 os =>
    simp only [aChk, Bool.and_eq_true, decide_eq_true_eq, List.all_eq_true] at hc
    obtain ⟨h1, h2, h3, h4, h5⟩ := hc
    simp only [amI] at hE
    split at hE
    · rename_i x t
      rcases aSw_in x dd os.toList cc (by omega) (fun o => am sa n d i (aTo pc o) ls t h) with ⟨z1, z2⟩ | ⟨o, z1, z2, z3, z4⟩
      · rw [z2] at hE
        exact lv_tableOut hx hb hrow (by omega) (aTo_eq h4) (gs hE)
      · rw [z4] at hE
        exact lv_tableIn hx hb hrow (by omega) (by omega) (off := o) (by rw [← h1, ← Array.getElem?_toList]; exact z3) (aTo_eq (h5 o (List.mem_of_getElem? z3))) (gs hE)
    · cases hE
  case lookupswitch dd ps =>
    simp only [aChk, Bool.and_eq_true, decide_eq_true_eq] at hc
    obtain ⟨h1, h2, h3⟩ := hc
    simp only [amI] at hE
    split at hE
    · rename_i x t
      have h4 : (ps.toList.all fun f => decide ((Int32.ofInt f.1).toInt = f.1)) = true := by
        rw [List.all_eq_true] at h3 ⊢
        intro f hf
        have := h3 f hf
        rw [Bool.and_eq_true] at this
        exact this.1
      rw [aLk_in x dd ps.toList h4] at hE
      refine lv_lookup hx hb hrow h1 rfl (aTo_eq ?_) (gs hE)
      rcases aOff_mem (d := dd) (x := x.toInt) ps.toList with z | ⟨f, hf, z⟩
      · rw [z]; exact h2
      · rw [z]
        have := List.all_eq_true.mp h3 f hf
        rw [Bool.and_eq_true, decide_eq_true_eq, decide_eq_true_eq] at this
        exact this.2
    · cases hE
  case getfield k =>
    simp only [aChk, Bool.and_eq_true, aBq, decide_eq_true_eq] at hc
    obtain ⟨rfl, hc⟩ := hc
    simp only [amI] at hE
    split at hE
    · split at hE
      · obtain ⟨v, hv, hF⟩ := aOp_some hE
        obtain ⟨fs, h1, h2⟩ := aFI_of hv
        exact a_get X hO hc h1 h2 hrow (gs hF)
      · obtain ⟨v, hv, hF⟩ := aOp_some hE
        obtain ⟨fs, h1, h2⟩ := aFR_of hv
        exact a_get X hO hc h1 h2 hrow (gs hF)
    · cases hE
  case putfield k =>
    simp only [aChk, Bool.and_eq_true, aBq, decide_eq_true_eq] at hc
    obtain ⟨rfl, hc⟩ := hc
    simp only [amI] at hE
    split at hE
    · split at hE
      · obtain ⟨v, hv, hE⟩ := aOp_some hE
        have hle := aFP_eq hv
        exact a_put X hO hS hc hv (Or.inl ⟨rfl, _, rfl⟩) hrow (fun H1 locs1 a1 a2 => gh hE H1 locs1 a1 a2 hle.1 hle.2)
      · cases hE
    · rename_i hr
      split at hE
      · obtain ⟨v, hv, hE⟩ := aOp_some hE
        have hle := aFP_eq hv
        exact a_put X hO hS hc hv (Or.inr ⟨fun z => hr z, _, rfl⟩) hrow (fun H1 locs1 a1 a2 => gh hE H1 locs1 a1 a2 hle.1 hle.2)
      · cases hE
  case getstatic k =>
    simp only [aChk, Bool.and_eq_true, aBq, decide_eq_true_eq] at hc
    obtain ⟨rfl, ho, hp, hk⟩ := hc
    have hlk := aGT_ok _ hk
    refine va_gets (own := aNm (aOn i)) hx hb (hKn.2.2.2.1 pp (Nat.le_of_ble_eq_true hp)) hS hown (ref := RX1) ?_ (fun _ z => z) hrow (gs hE)
    rw [ho]
    exact hts _ hlk
  case iaload =>
    have hc := aBq.mp hc
    subst hc
    simp only [amI] at hE
    split at hE
    · obtain ⟨v, hv, hE⟩ := aOp_some hE
      exact a_iald X hO hv hrow (gs hE)
    · cases hE
  case baload =>
    have hc := aBq.mp hc
    subst hc
    simp only [amI] at hE
    split at hE
    · obtain ⟨v, hv, hE⟩ := aOp_some hE
      exact a_zald X hO hv hrow (gs hE)
    · cases hE
  case aaload =>
    have hc := aBq.mp hc
    subst hc
    simp only [amI] at hE
    split at hE
    · obtain ⟨v, hv, hE⟩ := aOp_some hE
      exact a_aald X hO hv hrow (gs hE)
    · cases hE
  case arraylength =>
    have hc := aBq.mp hc
    subst hc
    simp only [amI] at hE
    split at hE
    · obtain ⟨v, hv, hE⟩ := aOp_some hE
      exact a_alen X hO hv hrow (gs hE)
    · cases hE
  case iastore =>
    have hc := aBq.mp hc
    subst hc
    simp only [amI] at hE
    split at hE
    · obtain ⟨v, hv, hE⟩ := aOp_some hE
      have hle := aIS_eq hv
      exact a_iast X hO hS hv hrow (fun H1 locs1 a1 a2 => gh hE H1 locs1 a1 a2 hle.1 hle.2)
    · cases hE
  case bastore =>
    have hc := aBq.mp hc
    subst hc
    simp only [amI] at hE
    split at hE
    · obtain ⟨v, hv, hE⟩ := aOp_some hE
      have hle := aZS_eq hv
      exact a_zast X hO hS hv hrow (fun H1 locs1 a1 a2 => gh hE H1 locs1 a1 a2 hle.1 hle.2)
    · cases hE
  case aastore =>
    simp only [aChk, Bool.and_eq_true, aBq, decide_eq_true_eq] at hc
    obtain ⟨rfl, rfl⟩ := hc
    simp only [amI] at hE
    split at hE
    · obtain ⟨v, hv, hE⟩ := aOp_some hE
      have hle := aRS_eq hv
      exact a_aast X hO hS hv hrow (fun H1 locs1 a1 a2 => gh hE H1 locs1 a1 a2 hle.1 hle.2)
    · cases hE
  case new k =>
    simp only [aChk, Bool.and_eq_true, aBq, decide_eq_true_eq] at hc
    obtain ⟨rfl, hk⟩ := hc
    simp only [amI] at hE
    have hle := am_hle sa _ _ _ _ _ _ _ _ hE
    have q1 : h.1 + 1 ≤ res.2.1 := hle.1
    have q2 : h.2.1 + (amDf pp).length ≤ res.2.2.1 := hle.2
    exact a_new X hO hS hk (by omega) (by omega) hrow (fun H1 a1 a2 => go _ _ _ _ hE lsA H1 locs _ _ hl hlen a1 a2 (by show cells + 1 + h0.1 = h.1 + 1; omega) (by show slots + (amDf pp).length + h0.2.1 = h.2.1 + (amDf pp).length; omega))
  case newarray ty =>
    simp only [aChk, Bool.and_eq_true, aBq] at hc
    obtain ⟨rfl, hk⟩ := hc
    have hty : (pp = 0 ∧ ty = .int) ∨ (pp = 1 ∧ ty = .boolean) := by
      cases ty <;> first | exact Or.inl ⟨aBq.mp hk, rfl⟩ | exact Or.inr ⟨aBq.mp hk, rfl⟩ | cases hk
    simp only [amI] at hE
    split at hE
    · rename_i nn t
      obtain ⟨v, hv, hE⟩ := aOp_some hE
      have hle := am_hle sa _ _ _ _ _ _ _ _ hE
      have hz := aNA_eq hv
      have q1 := hle.1
      have q2 := hle.2
      rw [hz.1] at q1
      rw [hz.2] at q2
      exact a_newa X hO hS hty hv (by omega) (by omega) hrow (fun H1 a1 a2 => go _ _ _ _ hE lsA H1 locs _ _ hl hlen a1 a2 (by rw [hz.1]; omega) (by rw [hz.2]; omega))
    · cases hE
  case anewarray k =>
    simp only [aChk, Bool.and_eq_true, aBq, decide_eq_true_eq] at hc
    obtain ⟨rfl, hk⟩ := hc
    simp only [amI] at hE
    split at hE
    · rename_i nn t
      obtain ⟨v, hv, hE⟩ := aOp_some hE
      have hle := am_hle sa _ _ _ _ _ _ _ _ hE
      have hz := aNR_eq hv
      have q1 := hle.1
      have q2 := hle.2
      rw [hz.1] at q1
      rw [hz.2] at q2
      exact a_anew X hO hS hk hv (by omega) (by omega) hrow (fun H1 a1 a2 => go _ _ _ _ hE lsA H1 locs _ _ hl hlen a1 a2 (by rw [hz.1]; omega) (by rw [hz.2]; omega))
    · cases hE
  case invokevirtual k =>
    simp only [aChk, Bool.and_eq_true, aBq] at hc
    obtain ⟨rfl, hm, hq, hsk, hcc, h9, hrr⟩ := hc
    obtain ⟨hj, hlk⟩ := aHasM_of hm
    have hlk := hlk.resolve_right (fun z => by cases z.1)
    obtain ⟨y1, y2, y3, y4, y5, y6, y7, y8, y9, y10, y11⟩ := aY_spec hj
    obtain ⟨hinst, hsel⟩ := y11 hsk
    simp only [amI] at hE
    split at hE
    case h_2 => cases hE
    rename_i b t hst
    split at hE
    case h_2 => cases hE
    rename_i hg
    obtain ⟨g1, g2, g3⟩ := aG_of hg
    obtain ⟨u, hu, hE⟩ := aOp_some hE
    have hstk : st = ((st.take q).reverse).reverse ++ .ref b :: t := by rw [List.reverse_reverse, ← hst, List.take_append_drop]
    have hmx := aY_mx pp hj
    rw [hsk] at hmx
    have hmx : aNq pp + 1 ≤ amMx pp := hmx
    have hlen2 : ((st.take q).reverse).length = aNq pp := by rw [List.length_reverse, List.length_take, Nat.min_eq_left g3, hq]
    have hcat : ∀ w ∈ Value.ref b :: (st.take q).reverse, w.category = 1 := by
      intro w hw
      rcases List.mem_cons.mp hw with rfl | hw
      · rfl
      · exact g2 w (List.mem_reverse.mp hw)
    have hrm : (t.map fun v => v.category).sum ≤ 8 := by
      rw [hst] at g1
      simp [aW] at g1 ⊢
      omega
    have hcell : ∃ cellB : Cell, H[b]? = some cellB ∧ cellB.vm.isStatics = false ∧ s.vm.findClass (amY pp).cls = some cellB.cls := by
      unfold aCl at hu
      split at hu
      case h_2 => cases hu
      rename_i o ho
      split at hu
      case isFalse => cases hu
      rename_i hz
      obtain ⟨-, r', e1, cell, c1, c2, c3, -⟩ := hO.2 b _ ho
      refine ⟨cell, c1, by rw [c3]; rfl, ?_⟩
      have h5 := (hKn.1.1 o.1 _ e1).2.1
      rw [c2, y8, ← hcc, ← hz, ← h5]
      have hlt : o.1 < 9 := aCl_lt e1
      congr 1
      have key : ∀ k, k < 9 → ∀ z, aCls[k]? = some z → aNm k = z.1 := by
        intro k hk z hz
        match k, hk with
        | 0, _ => cases hz; rfl
        | 1, _ => cases hz; rfl
        | 2, _ => cases hz; rfl
        | 3, _ => cases hz; rfl
        | 4, _ => cases hz; rfl
        | 5, _ => cases hz; rfl
        | 6, _ => cases hz; rfl
        | 7, _ => cases hz; rfl
        | 8, _ => cases hz; rfl
        | n + 9, h => omega
      exact key o.1 hlt _ e1
    have fin : ∀ (rv : Option Value) (g : AH), amC (am sa n) d pp (.ref b :: (st.take q).reverse) h = some (rv, g) → am sa n d i (pc + 3) ls (rv.toList ++ t) g = some res → W p l e R s m args below meth c H locs cells slots Q (F0 m pc lsA st) := by
      intro rv g hC hE
      cases d with
      | zero => cases hC
      | succ d =>
        have hC : am sa n d pp 0 (aEn (amMx pp) (.ref b :: (st.take q).reverse)) [] h = some (rv, g) := hC
        have l1 := am_hle sa _ _ _ _ _ _ _ _ hC
        have l2 := am_hle sa _ _ _ _ _ _ _ _ hE
        have l11 : h.1 ≤ g.1 := l1.1
        have l12 : h.2.1 ≤ g.2.1 := l1.2
        have l21 : g.1 ≤ res.2.1 := l2.1
        have l22 : g.2.1 ≤ res.2.2.1 := l2.2
        have hM := a_met IH hj hC hcat (by rw [List.length_cons, hlen2]; exact hmx)
        refine a_call (va_runV (As := (st.take q).reverse) (rest := t) (C := (amY pp).cls) (nL := amMx i) (Ts := aTb) ⟨hx, hb, hml, hown, fun w hw => hts w (aTb_mem.mp hw)⟩ hM ⟨a_cb X hj hlk hR3 hR4, hts _ hinst, hts _ hsel⟩ ⟨aPc.blind, hcell, (a_pre X hO hS (.ref b :: (st.take q).reverse)).2⟩ rfl hlen2 hl.1 hstk (lv_room hrm) hrow ⟨by omega, by omega⟩) hS (fun H1 locs1 a1 a2 => ?_)
        exact go _ _ _ _ hE lsA H1 locs1 _ _ hl hlen a1 a2 (by omega) (by omega)
    split at hE
    · obtain ⟨v, hv, hE⟩ := aOp_some hE
      exact fin none v (aRV_of hv) hE
    · obtain ⟨v, hv, hE⟩ := aOp_some hE
      exact fin _ v.2 (aRI_of hv) hE
    · obtain ⟨v, hv, hE⟩ := aOp_some hE
      exact fin _ v.2 (aRR_of hv) hE
  case invokespecial k =>
    simp only [aChk, Bool.and_eq_true, aBq] at hc
    obtain ⟨rfl, hc⟩ := hc
    simp only [amI] at hE
    split at hE
    case h_2 => cases hE
    rename_i b t hst
    split at hE
    case h_2 => cases hE
    rename_i hg
    obtain ⟨g1, g2, g3⟩ := aG_of hg
    have hstk : st = ((st.take q).reverse).reverse ++ .ref b :: t := by rw [List.reverse_reverse, ← hst, List.take_append_drop]
    have hrm : (t.map fun v => v.category).sum ≤ 8 := by
      rw [hst] at g1
      simp [aW] at g1 ⊢
      omega
    split at hE
    · simp only [show Nat.beq 0 0 = true from rfl, cond_true, Bool.and_eq_true, aBq] at hc
      obtain ⟨hm, hq, hsk⟩ := hc
      obtain ⟨hj, hlk⟩ := aHasM_of hm
      obtain ⟨y1, y2, y3, y4, y5, y6, y7, y8, y9, y10, y11⟩ := aY_spec hj
      obtain ⟨hinst, hnm, hrt⟩ := y10 hsk
      have hmx := aY_mx pp hj
      rw [hsk] at hmx
      have hmx : aNq pp + 1 ≤ amMx pp := hmx
      have hlen2 : ((st.take q).reverse).length = aNq pp := by rw [List.length_reverse, List.length_take, Nat.min_eq_left g3, hq]
      have hcat : ∀ w ∈ Value.ref b :: (st.take q).reverse, w.category = 1 := by
        intro w hw
        rcases List.mem_cons.mp hw with rfl | hw
        · rfl
        · exact g2 w (List.mem_reverse.mp hw)
      obtain ⟨g, hv, hE⟩ := aOp_some hE
      have hC := aRV_of hv
      cases d with
      | zero => cases hC
      | succ d =>
        have hC : am sa n d pp 0 (aEn (amMx pp) (.ref b :: (st.take q).reverse)) [] h = some (none, g) := hC
        have l1 := am_hle sa _ _ _ _ _ _ _ _ hC
        have l2 := am_hle sa _ _ _ _ _ _ _ _ hE
        have l11 : h.1 ≤ g.1 := l1.1
        have l12 : h.2.1 ≤ g.2.1 := l1.2
        have l21 : g.1 ≤ res.2.1 := l2.1
        have l22 : g.2.1 ≤ res.2.2.1 := l2.2
        have hM := a_met IH hj hC hcat (by rw [List.length_cons, hlen2]; exact hmx)
        rcases hlk with hlk | ⟨-, hlk⟩
        · have cb := a_cb (h := h) (g := g) X hj hlk hR3 hR4
          rw [hrt] at cb
          refine a_call (va_runI (As := (st.take q).reverse) (rest := t) (nL := amMx i) (Ts := aTb) ⟨hx, hb, hml, hown, fun w hw => hts w (aTb_mem.mp hw)⟩ hM ⟨cb, hnm, hts _ hinst⟩ (a_pre X hO hS (.ref b :: (st.take q).reverse)) rfl hlen2 hl.1 hstk (lv_room hrm) hrow ⟨by omega, by omega⟩) hS (fun H1 locs1 a1 a2 => ?_)
          exact go _ _ _ _ hE lsA H1 locs1 _ _ hl hlen a1 a2 (by omega) (by omega)
        · have cb := a_cn (h := h) (g := g) X hj hlk hR3 hR4
          rw [hrt] at cb
          refine a_call (va_runIN (As := (st.take q).reverse) (rest := t) (nL := amMx i) (Ts := aTb) ⟨hx, hb, hml, hown, fun w hw => hts w (aTb_mem.mp hw)⟩ hM ⟨cb, hnm, hts _ hinst⟩ (a_pre X hO hS (.ref b :: (st.take q).reverse)) rfl hlen2 hl.1 hstk (lv_room hrm) hrow ⟨by omega, by omega⟩) hS (fun H1 locs1 a1 a2 => ?_)
          exact go _ _ _ _ hE lsA H1 locs1 _ _ hl hlen a1 a2 (by omega) (by omega)
    · rename_i hr0
      rw [show Nat.beq r 0 = false from Bool.eq_false_iff.mpr (fun z => hr0 (aBq.mp z))] at hc
      simp only [cond_false, Bool.and_eq_true, decide_eq_true_eq, aBq] at hc
      obtain ⟨hk, rfl⟩ := hc
      have hlk : aWrd (.methodLink (aNm (aOn i)) k objectInit) = true := aST_ok _ hk
      have hst2 : st = .ref b :: t := hst
      rw [hst2]
      refine W.eq (g2 := F0 m pc lsA (.ref b :: t)) rfl ?_
      exact W.objInit hx hb hown (hts _ hlk) (hts _ (aMisc_ok (.instanceMethod objectInit) (by simp))) (hts _ (aMisc_ok (.code objectInit ⟨#[0xb1]⟩ 1 none) (by simp))) rfl (by rw [hml]; exact hl.1) rfl hrow (by omega) (by show 2 * 0 + _ + 12 ≤ _; omega) (gs hE)
  case invokestatic k =>
    simp only [aChk, Bool.and_eq_true, aBq] at hc
    obtain ⟨rfl, hc⟩ := hc
    simp only [amI] at hE
    split at hE
    case h_2 => cases hE
    rename_i hg
    obtain ⟨g1, g2, g3⟩ := aG_of hg
    have hstk : st = ((st.take q).reverse).reverse ++ st.drop q := by rw [List.reverse_reverse, List.take_append_drop]
    have fin : (aHasM (aOn i) k pp true && (Nat.beq q (aNq pp) && (Nat.beq (aSk pp) 0 && aRr r (amRt pp)))) = true → ∀ (rv : Option Value) (g : AH), amC (am sa n) d pp (st.take q).reverse h = some (rv, g) → am sa n d i (pc + 3) ls (rv.toList ++ st.drop q) g = some res → W p l e R s m args below meth c H locs cells slots Q (F0 m pc lsA st) := by
      intro hc rv g hC hE
      simp only [Bool.and_eq_true, aBq] at hc
      obtain ⟨hm, hq, hsk, -⟩ := hc
      obtain ⟨hj, hlk⟩ := aHasM_of hm
      obtain ⟨y1, y2, y3, y4, y5, y6, y7, y8, y9, y10, y11⟩ := aY_spec hj
      have hstt := y9 hsk
      have hmx := aY_mx pp hj
      rw [hsk] at hmx
      have hmx : aNq pp ≤ amMx pp := hmx
      have hlen2 : ((st.take q).reverse).length = aNq pp := by rw [List.length_reverse, List.length_take, Nat.min_eq_left g3, hq]
      have hcat : ∀ w ∈ (st.take q).reverse, w.category = 1 := fun w hw => g2 w (List.mem_reverse.mp hw)
      cases d with
      | zero => cases hC
      | succ d =>
        have hC : am sa n d pp 0 (aEn (amMx pp) (st.take q).reverse) [] h = some (rv, g) := hC
        have l1 := am_hle sa _ _ _ _ _ _ _ _ hC
        have l2 := am_hle sa _ _ _ _ _ _ _ _ hE
        have l11 : h.1 ≤ g.1 := l1.1
        have l12 : h.2.1 ≤ g.2.1 := l1.2
        have l21 : g.1 ≤ res.2.1 := l2.1
        have l22 : g.2.1 ≤ res.2.2.1 := l2.2
        have hM := a_met IH hj hC hcat (by rw [hlen2]; exact hmx)
        rcases hlk with hlk | ⟨-, hlk⟩
        · refine a_call (va_runS (As := (st.take q).reverse) (rest := st.drop q) (nL := amMx i) (Ts := aTb) ⟨hx, hb, hml, hown, fun w hw => hts w (aTb_mem.mp hw)⟩ hM ⟨a_cb X hj hlk hR3 hR4, hts _ hstt⟩ (a_pre X hO hS (st.take q).reverse) rfl hlen2 hl.1 hstk (lv_room g1) hrow ⟨by omega, by omega⟩) hS (fun H1 locs1 a1 a2 => ?_)
          exact go _ _ _ _ hE lsA H1 locs1 _ _ hl hlen a1 a2 (by omega) (by omega)
        · refine a_call (va_runSN (As := (st.take q).reverse) (rest := st.drop q) (nL := amMx i) (Ts := aTb) ⟨hx, hb, hml, hown, fun w hw => hts w (aTb_mem.mp hw)⟩ hM ⟨a_cn X hj hlk hR3 hR4, hts _ hstt, trivial⟩ (a_pre X hO hS (st.take q).reverse) rfl hlen2 hl.1 hstk (lv_room g1) hrow ⟨by omega, by omega⟩) hS (fun H1 locs1 a1 a2 => ?_)
          exact go _ _ _ _ hE lsA H1 locs1 _ _ hl hlen a1 a2 (by omega) (by omega)
    have hcl : cells ≤ R.cells := by
      have := (am_hle sa _ _ _ _ _ _ _ _ hE0).1
      omega
    have hsl : slots ≤ R.slots := by
      have := (am_hle sa _ _ _ _ _ _ _ _ hE0).2
      omega
    split at hE
    · obtain ⟨v, hv, hE⟩ := aOp_some hE
      exact fin hc none v (aRV_of hv) hE
    · obtain ⟨v, hv, hE⟩ := aOp_some hE
      exact fin hc _ v.2 (aRI_of hv) hE
    · obtain ⟨v, hv, hE⟩ := aOp_some hE
      exact fin hc _ v.2 (aRR_of hv) hE
    · simp only [Bool.and_eq_true, decide_eq_true_eq, aBq] at hc
      obtain ⟨hk, rfl⟩ := hc
      split at hE
      · rename_i nn dp a sp a0 t
        obtain ⟨v, hv, hE⟩ := aOp_some hE
        have hle := aCpy_eq hv
        exact a_copy X hO hS hsz hk hv (by omega) (by have : aW t ≤ 8 := g1; unfold aW at this; omega) hrow (fun H1 locs1 a1 a2 => gh hE H1 locs1 a1 a2 hle.1 hle.2)
      · cases hE
    · simp only [Bool.and_eq_true, decide_eq_true_eq, aBq] at hc
      obtain ⟨hk, rfl⟩ := hc
      split at hE
      · rename_i y x t
        exact va_mmax hx hb hsz hown (hts _ (aST_ok _ hk)) (hts _ (aMisc_ok (.static Lib.Math.max.name) (by simp))) (hts _ (aMisc_ok (.initialized "java/lang/Math") (by simp))) (hts _ (aMisc_ok (.code Lib.Math.max.name Lib.Math.max.code 2 (some .int)) (by simp))) (by omega) (by have : aW t ≤ 8 := g1; unfold aW at this; omega) hcl hsl hrow (gs hE)
      · cases hE
    · rename_i r0 r1 r2 r3 r4
      split at hE
      · rename_i y x t
        have hk : (aOn i, k, 3) ∈ aST := by
          split at hc
          · exact absurd rfl r3
          · exact absurd rfl r4
          · simp only [Bool.and_eq_true, decide_eq_true_eq, aBq] at hc; exact hc.1
          · simp only [Bool.and_eq_true, aBq] at hc
            have hq := hc.2.2.2
            exfalso
            unfold aRr at hq
            split at hq
            · exact r0 (aBq.mp hq)
            · exact r1 (aBq.mp hq)
            · exact r1 (aBq.mp hq)
            · exact r2 (aBq.mp hq)
            · cases hq
        have hq2 : q = 2 := by
          split at hc
          · exact absurd rfl r3
          · exact absurd rfl r4
          · simp only [Bool.and_eq_true, decide_eq_true_eq, aBq] at hc; exact hc.2
          · simp only [Bool.and_eq_true, aBq] at hc
            have hq := hc.2.2.2
            exfalso
            unfold aRr at hq
            split at hq
            · exact r0 (aBq.mp hq)
            · exact r1 (aBq.mp hq)
            · exact r1 (aBq.mp hq)
            · exact r2 (aBq.mp hq)
            · cases hq
        subst hq2
        exact va_mmin hx hb hsz hown (hts _ (aST_ok _ hk)) (hts _ (aMisc_ok (.static Lib.Math.min.name) (by simp))) (hts _ (aMisc_ok (.initialized "java/lang/Math") (by simp))) (hts _ (aMisc_ok (.code Lib.Math.min.name Lib.Math.min.code 2 (some .int)) (by simp))) (by omega) (by have : aW t ≤ 8 := g1; unfold aW at this; omega) hcl hsl hrow (gs hE)
      · cases hE
  case ireturn =>
    simp only [aChk, Bool.and_eq_true, aBq] at hc
    obtain ⟨rfl, hc⟩ := hc
    simp only [amI] at hE
    split at hE
    case h_2 => cases hE
    split at hE
    · cases hE
      exact hRet pc H locs cells slots lsA ⟨hrow, Or.inl (of_decide_eq_true hc)⟩ hO hS ec es
    · rename_i hr
      split at hE
      · rename_i hz
        cases hE
        rw [show Nat.beq r 1 = false from Bool.eq_false_iff.mpr (fun z => hr (aBq.mp z))] at hc
        exact hRet pc H locs cells slots lsA ⟨hrow, Or.inr ⟨of_decide_eq_true hc, hz⟩⟩ hO hS ec es
      · cases hE
  case areturn =>
    simp only [aChk, Bool.and_eq_true, aBq] at hc
    obtain ⟨rfl, hc⟩ := hc
    simp only [amI] at hE
    split at hE
    case h_2 => cases hE
    cases hE
    refine hRet pc H locs cells slots lsA ⟨hrow, ?_⟩ hO hS ec es
    split at hc
    · rename_i C hC
      exact ⟨C, hC⟩
    · cases hc
  case return_ =>
    simp only [aChk, Bool.and_eq_true, aBq, decide_eq_true_eq] at hc
    obtain ⟨rfl, hc⟩ := hc
    simp only [amI] at hE
    split at hE
    case h_2 => cases hE
    cases hE
    exact hRet pc H locs cells slots lsA ⟨hrow, hc⟩ hO hS ec es
  all_goals cases hE
theorem a_sound (sa : Nat → Nat) (lo : Nat) (D : va_G) (l : Launch) : ∀ n, aSnd sa lo D l n
  | 0 => by
    intro d i pc ls st h res hE
    cases hE
  | n + 1 => a_step (a_sound sa lo D l n)
