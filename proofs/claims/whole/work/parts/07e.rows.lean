/-! ===== what a frame may lean on, and the instructions that touch the heap, over the abstract heap ===== -/
def aIsN : Cond → Bool
  | .fieldLinkNest .. => true
  | .methodLinkNest .. => true
  | _ => false
def aTb : List Cond := lw_tbl.filter goodWord
theorem aTb_mem {w : Cond} : w ∈ aTb ↔ aWrd w = true := by
  unfold aTb aWrd
  rw [List.mem_filter, Bool.and_eq_true, decide_eq_true_eq]
theorem aAn_of {n : Nat} {w : Cond} (h : aAn n w = true) : w ∈ lw_tbl := by
  unfold aAn at h
  split at h
  · rename_i v hv
    rw [decide_eq_true_eq] at h
    subst h
    exact List.mem_of_getElem? hv
  · cases h
theorem aAt_of {n : Nat} {w : Cond} (h : aAt n w = true) : aWrd w = true := by
  unfold aAt at h
  rw [Bool.and_eq_true] at h
  unfold aWrd
  rw [Bool.and_eq_true, decide_eq_true_eq]
  exact ⟨aAn_of h.1, h.2⟩
def aZs (sa : Nat → Nat) (lo : Nat) (U : State) (H : Heap) : Prop := ∀ j, j < 3 → va_Z RX1 (aSn j) "[I" (.ref (sa j)) (aA lo) U H
def aKn (sa : Nat → Nat) (lo : Nat) (D : va_G) (U : State) : Prop := va_K D aCls [] U ∧ (∀ w ∈ lw_tbl, aIsN w = true → va_Nw w U) ∧ va_AO RX2 U ∧ aZs sa lo U U.heap ∧ lo ≤ U.heap.size
def aCx (sa : Nat → Nat) (lo : Nat) (D : va_G) (p : Program) (s : State) (m : MethodId) (args : Array Value) (meth : Method) (c : Code) (i : Nat) : Prop :=
  p.tables.exec = Jvm.exec ∧ c.code = amB i ∧ c.maxLocals = amMx i ∧ s.vm.findClass (aNm (aOn i)) = some m.cls ∧ (∀ w, aWrd w = true → w.before args s = true) ∧ aKn sa lo D s ∧ ((amY i).name = "<init>" → meth.name = "<init>")
theorem aKn.warm {sa : Nat → Nat} {lo : Nat} {D : va_G} {s U : State} {H : Heap} {locs : List Loc} (k : aKn sa lo D s) (hW : s.WarmedH U.vm) (hH : U.heap = H) (hS : va_S (aA lo) s.heap H locs) : aKn sa lo D U := by
  obtain ⟨k1, k2, k3, k4, k5⟩ := k
  refine ⟨k1.moved hW.alike, fun w hw hn => ?_, k3.moved hW.alike, fun j hj => ?_, by rw [hH]; exact Nat.le_trans k5 hS.1⟩
  · have h2 := k2 w hw hn
    cases w <;> first | exact va_Nw.warmF hW h2 | exact va_Nw.warmM hW h2 | cases hn
  · rw [hH]
    exact ((k4 j hj).kept (fun a h1 h2 => hS.2.1 a h1 h2)).moved hW.alike
theorem aKn.blind {sa : Nat → Nat} {lo : Nat} {D : va_G} {U : State} {g : JFrame} {mk : MethodId} {a : Array Value} (k : aKn sa lo D U) : aKn sa lo D (U.calling g mk a) := by
  obtain ⟨k1, k2, k3, k4, k5⟩ := k
  refine ⟨va_K.moved (u := U) (U := U.calling g mk a) (Vm.Alike.refl U.vm) k1, fun w hw hn => ?_, va_AO.moved (u := U) (U := U.calling g mk a) (Vm.Alike.refl U.vm) k3, fun j hj => ?_, k5⟩
  · have h2 := k2 w hw hn
    cases w <;> first | exact va_Nw.same (u := U) (U := U.calling g mk a) rfl rfl h2 | cases hn
  · exact va_Z.moved (u := U) (U := U.calling g mk a) (Vm.Alike.refl U.vm) (k4 j hj)
theorem aBq {a b : Nat} : Nat.beq a b = true ↔ a = b := ⟨Nat.eq_of_beq_eq_true, fun h => by subst h; exact Nat.beq_refl a⟩
theorem aHasF_of {o k p q r i : Nat} {put : Bool} (h : aHasF o k p q r i put = true) : ∃ (C : String) (T : u_T) (N : Nat), aCls[p]? = some (C, T, N) ∧ q < N ∧ ((r = 1 → aTy p q = .int) ∧ (r ≠ 1 → aRef (aTy p q) = true)) ∧
    ((aWrd (.fieldLink (aNm o) k (T q).1 (T q).2.1 (T q).2.2.1) = true ∧ (put = true → (T q).2.2.2 = false ∨ ((amY i).name = "<init>" ∧ (T q).1 = aNm o))) ∨ ((.fieldLinkNest (aNm o) k (T q).1 (T q).2.1 (T q).2.2.1 "LetterOunces" : Cond) ∈ lw_tbl ∧ (put = true → (T q).2.2.2 = false))) := by
  unfold aHasF at h
  obtain ⟨⟨o', k', p', q', r', t, ps⟩, he, h⟩ := List.any_eq_true.mp h
  have hok := aFT_ok _ he
  simp only [Bool.and_eq_true, aBq] at h
  obtain ⟨rfl, rfl, rfl, rfl, rfl, hp⟩ := h
  unfold aFok at hok
  cases hc : aCls[p]? with
  | none => simp only [hc] at hok; cases hok
  | some z =>
    obtain ⟨C, T, N⟩ := z
    simp only [hc, Bool.and_eq_true] at hok hp
    obtain ⟨h1, h2, h3⟩ := hok
    refine ⟨C, T, N, rfl, Nat.le_of_ble_eq_true h1, ⟨fun e => ?_, fun e => ?_⟩, ?_⟩
    · rw [show Nat.beq r 1 = true from aBq.mpr e] at h3
      exact of_decide_eq_true h3
    · rw [show Nat.beq r 1 = false from Bool.eq_false_iff.mpr (fun z => e (aBq.mp z))] at h3
      exact h3
    · by_cases ht : t = 0
      · rw [show Nat.beq t 0 = true from aBq.mpr ht] at h2 hp
        refine Or.inl ⟨aAt_of h2, fun e => ?_⟩
        subst e
        simp only [Bool.not_true, Bool.false_or, Bool.or_eq_true, Bool.not_eq_true', Bool.true_and, Bool.and_eq_true, decide_eq_true_eq] at hp
        exact hp
      · rw [show Nat.beq t 0 = false from Bool.eq_false_iff.mpr (fun z => ht (aBq.mp z))] at h2 hp
        refine Or.inr ⟨aAn_of h2, fun e => ?_⟩
        subst e
        simp only [Bool.not_true, Bool.false_or, Bool.or_false, Bool.not_eq_true', Bool.false_and] at hp
        exact hp
theorem aCl_lt {p : Nat} {z : vw_C} (h : aCls[p]? = some z) : p < 9 := (List.getElem?_eq_some_iff.mp h).1
theorem aCl_in {C : String} {T : u_T} {N p : Nat} (h : aCls[p]? = some (C, T, N)) : ∀ w ∈ u_ws C T N, w ∈ aTb := fun w hw => aTb_mem.mpr (aCls_ws _ (List.mem_of_getElem? h) w hw)
section ASND
variable {p : Program} {l : Launch} {e : Env} {R : Room} {s : State} {m : MethodId} {args : Array Value} {below : List Frame} {meth : Method} {c : Code} {H : Heap} {locs : List Loc} {cells slots : Nat} {Q : State → Prop}
variable {pc : Nat} {ls : Array Slot} {rest : List Value} {sa : Nat → Nat} {lo : Nat} {D : va_G} {i : Nat} {h : AH} {a : Nat}
theorem a_get (X : aCx sa lo D p s m args meth c i) (hO : hOK lo D s h H) {k ci q r : Nat} (hf : aHasF (aOn i) k ci q r i false = true) {fs : List Value} (ha : h.2.2 a = some (.inl (ci, fs))) {v : Value} (hv : fs[q]? = some v) (hdg : decode (amB i) pc = .ok (.getfield k, 3))
    (kk : W p l e R s m args below meth c H locs cells slots Q (F0 m (pc + 3) ls (v :: rest))) : W p l e R s m args below meth c H locs cells slots Q (F0 m pc ls (.ref a :: rest)) := by
  obtain ⟨hx, hb, hml, hown, hts, ⟨hK, hN, -, -, -⟩, hin⟩ := X
  obtain ⟨C, T, N, hc, hk, -, hl⟩ := aHasF_of hf
  have hP : va_P D aCls [(a, .inr (ci, fs))] H := fun j z hz => by
    cases j with
    | zero => cases hz; exact (hO.2 a _ ha).2
    | succ j => simp at hz
  have ht : ∀ w ∈ aTb, w.before args s = true := fun w hw => hts w (aTb_mem.mp hw)
  rcases hl with ⟨hl, -⟩ | ⟨hl, -⟩
  · exact va_get (C := C) (T := T) (N := N) hx hb ht (aCl_in hc) hown hK hP 0 rfl hc q hk (hts _ hl) (fun _ z => z) hv hdg kk
  · exact va_getN (C := C) (T := T) (N := N) hx hb ht (aCl_in hc) hown hK hP 0 rfl hc q hk (va_Nw.use rfl (hN _ hl rfl)) (fun _ z => z) hv hdg kk
theorem a_fits {r : Nat} {v : Value} {ty : FieldType} (hv : (r = 1 ∧ ty = .int ∧ ∃ x, v = .int x) ∨ (r ≠ 1 ∧ aRef ty = true ∧ ∃ x, v = .ref x)) : narrow ty v = v ∧ fits ty v = true := by
  rcases hv with ⟨-, rfl, x, rfl⟩ | ⟨-, h, x, rfl⟩
  · exact ⟨rfl, rfl⟩
  · cases ty <;> first | exact ⟨rfl, rfl⟩ | cases h
theorem a_put (X : aCx sa lo D p s m args meth c i) (hO : hOK lo D s h H) (hS : va_S (aA lo) s.heap H locs) {k ci q r : Nat} (hf : aHasF (aOn i) k ci q r i true = true) {g : AH} {v : Value} (ha : aFP h a ci q v = some g) (hv : (r = 1 ∧ ∃ x, v = .int x) ∨ (r ≠ 1 ∧ ∃ x, v = .ref x)) (hdg : decode (amB i) pc = .ok (.putfield k, 3))
    (kk : ∀ (H1 : Heap) (locs1 : List Loc), hOK lo D s g H1 → va_S (aA lo) s.heap H1 locs1 → W p l e R s m args below meth c H1 locs1 cells slots Q (F0 m (pc + 3) ls rest)) : W p l e R s m args below meth c H locs cells slots Q (F0 m pc ls (v :: .ref a :: rest)) := by
  obtain ⟨hx, hb, hml, hown, hts, ⟨hK, hN, -, -, -⟩, hini⟩ := X
  obtain ⟨C, T, N, hc, hk, ht, hl⟩ := aHasF_of hf
  unfold aFP at ha
  split at ha
  case h_2 => cases ha
  rename_i o ho
  split at ha
  case isFalse => cases ha
  rename_i hz
  obtain ⟨rfl, hlen⟩ := hz
  cases ha
  obtain ⟨hlo, r1, h1, cell, q1, q2, q3, q4⟩ := hO.2 a _ ho
  have hr : r1 = (C, T, N) := Option.some.inj (h1.symm.trans hc)
  subst hr
  have htb : ∀ w ∈ aTb, w.before args s = true := fun w hw => hts w (aTb_mem.mp hw)
  have hin := aCl_in hc
  have hty : ∀ k, k < N → parseFieldDescriptor (T k).2.2.1 = some (aTy o.1 k) := aCls_ty o.1 (aCl_lt hc) _ hc
  have hap := va_apart (own := aNm (aOn i)) htb hin (aTy o.1) hty (aCls_nm _ (List.mem_of_getElem? hc)) hK hc
  obtain ⟨hSl, hfc, kC, hkC, hkind⟩ := hK.1 o.1 _ hc
  obtain ⟨cf, kf, fi, f, hi, hsl⟩ := hSl q hk
  have hst := (u_facts hfc hkC (u_lays htb hin hk) hi).1
  obtain ⟨hn, hfit⟩ := a_fits (r := r) (v := v) (ty := aTy o.1 q) (by
    rcases hv with ⟨e, z⟩ | ⟨e, z⟩
    · exact Or.inl ⟨e, ht.1 e, z⟩
    · exact Or.inr ⟨e, ht.2 e, z⟩)
  have hd := hty q hk
  have fin : ∀ H' : Heap, H'[a]? = some (cell.setSlot f.slot v) → H'.size = H.size → (∀ z, z ≠ a → H'[z]? = H[z]?) → W p l e R s m args below meth c H' (locs ++ [⟨a, f.slot⟩]) cells slots Q (F0 m (pc + 3) ls rest) := by
    intro H' e1 e2 e3
    rw [hsl] at e1 ⊢
    exact kk H' _ (hO.put e2 e3 ⟨hlo, _, hc, t_OB.to (V := updV (vp_V o.2) q v) ⟨_, e1, q2, q3, t_set q4 hap hk v⟩ (fun j _ => vp_updV_set hlen v j)⟩) (hS.put e2 e3 hlo)
  have nonfin : (T q).2.2.2 = false → k2_Sd s f cell.cls v := fun hfin => by
    have hlay := htb _ (hin _ (u_in_lay hk))
    unfold u_lay at hlay
    rw [if_neg (by rw [hfin]; decide)] at hlay
    rw [q2]
    exact u_store hfc hkC hkind hlay hi hd hn hfit
  rcases hl with ⟨hl, hfin⟩ | ⟨hl, hfin⟩
  · by_cases hF : (T q).2.2.2 = false
    · exact W.putK hx hb (f := f) ⟨hown, hts _ hl, ⟨_, _, _, hi⟩, hst⟩ (nonfin hF) q1 q3 (by rw [hsl]; exact k2_hasslot (q4 q hk)) rfl rfl hdg fin
    · have hF : (T q).2.2.2 = true := by simpa using hF
      obtain ⟨hin2, hdecl⟩ := (hfin rfl).resolve_left (by rw [hF]; decide)
      have hlay := htb _ (hin _ (u_in_lay hk))
      unfold u_lay at hlay
      rw [if_pos hF] at hlay
      have hcf : m.cls = cf := by
        obtain ⟨_, _, c', _, _, _, -, -, hf', -, -, -, hown2, -⟩ := Cond.laysFinal_spec hlay
        have e1 : c' = cf := by have := hi.symm.trans hf'; simp at this; exact this.1.symm
        rw [hdecl] at hown2
        rw [← e1]; exact Option.some.inj (hown.symm.trans hown2)
      have h6 := u_fits hfc hkC hkind (Or.inr hlay) hi hd hn hfit
      exact W.putFinK hx hb hown (hts _ hl) hi hst hcf (hini hin2) (by rw [q2]; exact h6) q1 q3 (by rw [hsl]; exact k2_hasslot (q4 q hk)) rfl rfl hdg fin
  · exact va_WputK hx hb (f := f) hown (va_Nw.use rfl (hN _ hl rfl)) hi hst (nonfin (hfin rfl)) q1 q3 (by rw [hsl]; exact k2_hasslot (q4 q hk)) rfl rfl hdg fin
theorem aIn_of {i : Int32} {n : Nat} (h : aIn i n = true) : vp_in i n := by
  unfold aIn at h
  rw [Bool.and_eq_true, Bool.not_eq_true', decide_eq_false_iff_not] at h
  rintro (z | z)
  · exact h.1 z
  · exact absurd (Nat.le_of_ble_eq_true h.2) (by omega)
theorem a_iald (X : aCx sa lo D p s m args meth c i) (hO : hOK lo D s h H) {j x : Int32} (ha : aIL h a j = some x) (hdg : decode (amB i) pc = .ok (.iaload, 1))
    (kk : W p l e R s m args below meth c H locs cells slots Q (F0 m (pc + 1) ls (.int x :: rest))) : W p l e R s m args below meth c H locs cells slots Q (F0 m pc ls (.int j :: .ref a :: rest)) := by
  obtain ⟨hx, hb, -⟩ := X
  unfold aIL at ha
  split at ha
  case h_2 => cases ha
  rename_i r hr
  split at ha
  case isFalse => cases ha
  rename_i hz
  cases ha
  have hin := aIn_of hz.1
  have hlt : j.toNatClampNeg < r.2.1 := Nat.not_le.mp fun q => hin (Or.inr q)
  rcases hO.2 a _ hr with ⟨e2, -, cell, g1, g2, g3, g4, g5, g6⟩ | ⟨e2, -, cA, g1, g2⟩ | ⟨e2, -⟩
  · exact W.iald hx hb g1 g2 g3 (fun q => q.elim (fun q => hin (Or.inl q)) (fun q => by omega)) (g6 _ hlt) rfl rfl hdg kk
  · exact W.iald (v := .int (r.2.2 j.toNatClampNeg)) hx hb g1 (g2 r.2.1 (fun j => .int (r.2.2 j))) (fun q => by cases q) (by show ¬ (j < 0 ∨ (arrV _ _ _).slots.size ≤ _); rw [arrV_size]; exact hin) (by show (arrV _ _ _).slots[_]? = _; rw [arrV_read _ _ hlt]) rfl rfl hdg kk
  · exact absurd e2 hz.2
theorem a_zald (X : aCx sa lo D p s m args meth c i) (hO : hOK lo D s h H) {j x : Int32} (ha : aZL h a j = some x) (hdg : decode (amB i) pc = .ok (.baload, 1))
    (kk : W p l e R s m args below meth c H locs cells slots Q (F0 m (pc + 1) ls (.int x :: rest))) : W p l e R s m args below meth c H locs cells slots Q (F0 m pc ls (.int j :: .ref a :: rest)) := by
  obtain ⟨hx, hb, -⟩ := X
  unfold aZL at ha
  split at ha
  case h_2 => cases ha
  rename_i r hr
  split at ha
  case isFalse => cases ha
  rename_i hz
  cases ha
  have hin := aIn_of hz.1
  have hlt : j.toNatClampNeg < r.2.1 := Nat.not_le.mp fun q => hin (Or.inr q)
  rcases hO.2 a _ hr with ⟨e2, -⟩ | ⟨e2, -⟩ | ⟨e2, -, cA, g1, g2⟩
  · rw [hz.2] at e2; cases e2
  · rw [hz.2] at e2; cases e2
  · exact W.zald (v := .int (r.2.2 j.toNatClampNeg)) hx hb g1 (g2 r.2.1 (fun j => .int (r.2.2 j))) (fun q => by cases q) (by show ¬ (j < 0 ∨ (arrV _ _ _).slots.size ≤ _); rw [arrV_size]; exact hin) (by show (arrV _ _ _).slots[_]? = _; rw [arrV_read _ _ hlt]) rfl rfl hdg kk
theorem a_aald (X : aCx sa lo D p s m args meth c i) (hO : hOK lo D s h H) {j : Int32} {x : Nat} (ha : aRL h a j = some x) (hdg : decode (amB i) pc = .ok (.aaload, 1))
    (kk : W p l e R s m args below meth c H locs cells slots Q (F0 m (pc + 1) ls (.ref x :: rest))) : W p l e R s m args below meth c H locs cells slots Q (F0 m pc ls (.int j :: .ref a :: rest)) := by
  obtain ⟨hx, hb, -⟩ := X
  unfold aRL at ha
  split at ha
  case h_2 => cases ha
  rename_i r hr
  split at ha
  case isFalse => cases ha
  rename_i hz
  have hin := aIn_of hz
  have hlt : j.toNatClampNeg < r.1 := Nat.not_le.mp fun q => hin (Or.inr q)
  obtain ⟨-, cA, g1, g2, -⟩ := hO.2 a _ hr
  exact W.aald (v := .ref x) (ty := .object RX2) hx hb g1 (g2 r.1 (fun j => va_rf (r.2 j))) rfl (fun q => by cases q) (by show ¬ (j < 0 ∨ (arrV _ _ _).slots.size ≤ _); rw [arrV_size]; exact hin) (by show (arrV _ _ _).slots[_]? = _; rw [arrV_read _ _ hlt, ha]; rfl) rfl rfl hdg kk
theorem a_alen (X : aCx sa lo D p s m args meth c i) (hO : hOK lo D s h H) {x : Int32} (ha : aLen h a = some x) (hdg : decode (amB i) pc = .ok (.arraylength, 1))
    (kk : W p l e R s m args below meth c H locs cells slots Q (F0 m (pc + 1) ls (.int x :: rest))) : W p l e R s m args below meth c H locs cells slots Q (F0 m pc ls (.ref a :: rest)) := by
  obtain ⟨hx, hb, -⟩ := X
  unfold aLen at ha
  split at ha
  · rename_i r hr
    cases ha
    rcases hO.2 a _ hr with ⟨e2, -, cell, g1, g2, g3, g4, g5, g6⟩ | ⟨e2, -, cA, g1, g2⟩ | ⟨e2, -, cA, g1, g2⟩
    · exact W.alen hx hb g1 g2 g5 rfl rfl hdg kk
    · exact W.alen (n := Int32.ofNat r.2.1) hx hb g1 (g2 r.2.1 (fun j => .int (r.2.2 j))) (by rw [vp_cell_i, arrV_size] <;> rfl) rfl rfl hdg kk
    · exact W.alen (n := Int32.ofNat r.2.1) hx hb g1 (g2 r.2.1 (fun j => .int (r.2.2 j))) (by rw [vp_cell_i, arrV_size] <;> rfl) rfl rfl hdg kk
  · rename_i r hr
    cases ha
    obtain ⟨-, cA, g1, g2, -⟩ := hO.2 a _ hr
    exact W.alen (n := Int32.ofNat r.1) hx hb g1 (g2 r.1 (fun j => va_rf (r.2 j))) (by rw [vp_cell_q, arrV_size] <;> rfl) rfl rfl hdg kk
  · cases ha
theorem a_iast (X : aCx sa lo D p s m args meth c i) (hO : hOK lo D s h H) (hS : va_S (aA lo) s.heap H locs) {j x : Int32} {g : AH} (ha : aIS h a j x = some g) (hdg : decode (amB i) pc = .ok (.iastore, 1))
    (kk : ∀ (H1 : Heap) (locs1 : List Loc), hOK lo D s g H1 → va_S (aA lo) s.heap H1 locs1 → W p l e R s m args below meth c H1 locs1 cells slots Q (F0 m (pc + 1) ls rest)) : W p l e R s m args below meth c H locs cells slots Q (F0 m pc ls (.int x :: .int j :: .ref a :: rest)) := by
  obtain ⟨hx, hb, -⟩ := X
  unfold aIS at ha
  split at ha
  case h_2 => cases ha
  rename_i r hr
  split at ha
  case isFalse => cases ha
  rename_i hz
  cases ha
  have hin := aIn_of hz.1
  rcases hO.2 a _ hr with ⟨e2, -⟩ | ⟨e2, hlo, cA, g1, g2⟩ | ⟨e2, -⟩
  · rw [hz.2] at e2; cases e2
  · refine W.iast hx hb g1 (g2 r.2.1 (fun j => .int (r.2.2 j))) (fun q => by cases q) (by show ¬ (j < 0 ∨ (arrV _ _ _).slots.size ≤ _); rw [arrV_size]; exact hin) rfl rfl hdg fun H1 e z oq => ?_
    refine kk H1 _ (hO.put z oq (Or.inr (Or.inl ⟨rfl, hlo, cA, ?_, g2⟩))) (hS.put z oq hlo)
    rw [e, vp_cell_i, vp_cell_i, arrV_store]
    congr 2
    funext q
    by_cases hq : q = j.toNatClampNeg
    · subst hq
      simp [updV, upd]
    · simp [updV, upd, hq]
  · rw [hz.2] at e2; cases e2
theorem a_zast (X : aCx sa lo D p s m args meth c i) (hO : hOK lo D s h H) (hS : va_S (aA lo) s.heap H locs) {j x : Int32} {g : AH} (ha : aZS h a j x = some g) (hdg : decode (amB i) pc = .ok (.bastore, 1))
    (kk : ∀ (H1 : Heap) (locs1 : List Loc), hOK lo D s g H1 → va_S (aA lo) s.heap H1 locs1 → W p l e R s m args below meth c H1 locs1 cells slots Q (F0 m (pc + 1) ls rest)) : W p l e R s m args below meth c H locs cells slots Q (F0 m pc ls (.int x :: .int j :: .ref a :: rest)) := by
  obtain ⟨hx, hb, -⟩ := X
  unfold aZS at ha
  split at ha
  case h_2 => cases ha
  rename_i r hr
  split at ha
  case isFalse => cases ha
  rename_i hz
  cases ha
  have hin := aIn_of hz.1
  have hnar : narrow .boolean (.int x) = .int x := by rcases hz.2.2 with rfl | rfl <;> rfl
  rcases hO.2 a _ hr with ⟨e2, -⟩ | ⟨e2, -⟩ | ⟨e2, hlo, cA, g1, g2⟩
  · rw [hz.2.1] at e2; cases e2
  · rw [hz.2.1] at e2; cases e2
  · refine W.zast hx hb g1 (g2 r.2.1 (fun j => .int (r.2.2 j))) (fun q => by cases q) (by show ¬ (j < 0 ∨ (arrV _ _ _).slots.size ≤ _); rw [arrV_size]; exact hin) rfl rfl hdg fun H1 e z oq => ?_
    refine kk H1 _ (hO.put z oq (Or.inr (Or.inr ⟨rfl, hlo, cA, ?_, g2⟩))) (hS.put z oq hlo)
    rw [e, hnar, vp_cell_i, vp_cell_i, arrV_store]
    congr 2
    funext q
    by_cases hq : q = j.toNatClampNeg
    · subst hq
      simp [updV, upd]
    · simp [updV, upd, hq]
theorem a_aast (X : aCx sa lo D p s m args meth c i) (hO : hOK lo D s h H) (hS : va_S (aA lo) s.heap H locs) {j : Int32} {x : Nat} {g : AH} (ha : aRS h a j x 2 = some g) (hdg : decode (amB i) pc = .ok (.aastore, 1))
    (kk : ∀ (H1 : Heap) (locs1 : List Loc), hOK lo D s g H1 → va_S (aA lo) s.heap H1 locs1 → W p l e R s m args below meth c H1 locs1 cells slots Q (F0 m (pc + 1) ls rest)) : W p l e R s m args below meth c H locs cells slots Q (F0 m pc ls (.ref x :: .int j :: .ref a :: rest)) := by
  obtain ⟨hx, hb, -, -, -, ⟨hK, -⟩, -⟩ := X
  unfold aRS at ha
  split at ha
  case h_2 => cases ha
  rename_i r o hr ho
  split at ha
  case isFalse => cases ha
  rename_i hz
  cases ha
  have hin := aIn_of hz.1
  have hlt : j.toNatClampNeg < r.1 := Nat.not_le.mp fun q => hin (Or.inr q)
  have h0 : ¬ j < 0 := fun q => hin (Or.inl q)
  obtain ⟨hlo, cA, g1, g2, kA, comp, k1, k2, k3, k4⟩ := hO.2 a _ hr
  obtain ⟨-, r', hr', cellV, c1, c2, c3, -⟩ := hO.2 x _ ho
  rw [hz.2] at hr' c2
  have hcls := (hK.1 2 _ rfl).2
  have hcomp : comp = D.1 2 := Option.some.inj (k3.symm.trans hcls.1)
  subst hcomp
  obtain ⟨kC, hkC, -⟩ := hcls.2
  refine W.aast hx hb g1 (fun q h => by cases h) (fun h => by cases h) k1 k2 rfl hkC ⟨h0, by show _ < (arrV _ _ _).slots.size; rw [arrV_size]; exact hlt⟩ c1 (fun q h => by rw [c3] at h; cases h) (by rw [c2]; exact hkC) (by rw [c2]; exact va_assign hcls) rfl rfl hdg fun H1 e z oq => ?_
  refine kk H1 _ (hO.put z oq ⟨hlo, cA, ?_, g2, kA, _, k1, k2, k3, k4⟩) (hS.put z oq hlo)
  rw [e, vp_cell_q, vp_cell_q, arrV_store]
  congr 2
  funext q
  by_cases hq : q = j.toNatClampNeg
  · subst hq
    simp [updV, va_up, va_rf]
  · simp [updV, va_up, hq]
theorem a_new (X : aCx sa lo D p s m args meth c i) (hO : hOK lo D s h H) (hS : va_S (aA lo) s.heap H locs) {k ci : Nat} (hk : (aOn i, k, ci) ∈ aKT0) (hc1 : cells + 1 ≤ R.cells) (hs1 : slots + (amDf ci).length ≤ R.slots) (hdg : decode (amB i) pc = .ok (.new k, 3))
    (kk : ∀ (H1 : Heap), hOK lo D s (aMk h (amDf ci).length (.inl (ci, amDf ci))) H1 → va_S (aA lo) s.heap H1 locs → W p l e R s m args below meth c H1 locs (cells + 1) (slots + (amDf ci).length) Q (F0 m (pc + 3) ls (.ref h.1 :: rest))) : W p l e R s m args below meth c H locs cells slots Q (F0 m pc ls rest) := by
  obtain ⟨hx, hb, -, hown, hts, ⟨hK, -, -, -, hlo⟩, -⟩ := X
  have hok := aKT0_ok _ hk
  unfold aKok at hok
  cases hcc : aCls[ci]? with
  | none => simp only [hcc] at hok; cases hok
  | some z =>
    obtain ⟨C, T, N⟩ := z
    simp only [hcc, Bool.and_eq_true, aBq, List.all_eq_true, decide_eq_true_eq] at hok
    obtain ⟨h1, h2, h3, h4, h5⟩ := hok
    rw [h4] at hs1 kk
    have hKn := hK.1 ci _ hcc
    refine W.newcK hx hb hown (hts _ h1) (hts _ h2) (hts _ h3) rfl hdg hc1 hs1 hKn.2.1 hO.1 fun H1 kC hkC e1 z1 o1 => ?_
    rw [← hO.1] at e1 z1 o1
    refine kk H1 (hO.mk z1 o1 ⟨Nat.le_trans hlo hS.1, _, hcc, ?_⟩) (aS.mk hS z1 o1)
    exact (u_born (aTy ci) (fun w hw => hts w (aTb_mem.mp hw)) (aCl_in hcc) hKn hkC e1 (aCls_ty ci (aCl_lt hcc) _ hcc)).to (fun j hj => h5 j (List.mem_range.mpr hj))
theorem a_newa (X : aCx sa lo D p s m args meth c i) (hO : hOK lo D s h H) (hS : va_S (aA lo) s.heap H locs) {t : Nat} {ty : Jvm.ClassFile.ArrayType} (ht : (t = 0 ∧ ty = .int) ∨ (t = 1 ∧ ty = .boolean)) {n : Int32} {z : Nat × AH} (ha : aNA h t n = some z) (hc1 : cells + 1 ≤ R.cells) (hs1 : slots + n.toNatClampNeg ≤ R.slots) (hdg : decode (amB i) pc = .ok (.newarray ty, 2))
    (kk : ∀ (H1 : Heap), hOK lo D s z.2 H1 → va_S (aA lo) s.heap H1 locs → W p l e R s m args below meth c H1 locs (cells + 1) (slots + n.toNatClampNeg) Q (F0 m (pc + 2) ls (.ref z.1 :: rest))) : W p l e R s m args below meth c H locs cells slots Q (F0 m pc ls (.int n :: rest)) := by
  obtain ⟨hx, hb, -, hown, hts, ⟨hK, -, -, -, hlo⟩, -⟩ := X
  unfold aNA at ha
  split at ha
  case isFalse => cases ha
  rename_i hz
  cases ha
  rcases ht with ⟨rfl, rfl⟩ | ⟨rfl, rfl⟩
  · refine W.newaK hx hb (atype := .int) (hts _ (aMisc_ok (.arrayClass .int) (by simp))) rfl hdg rfl hz.1 rfl (by show n.toNatClampNeg * componentBytes .int ≤ _; simp [componentBytes]; omega) hc1 hs1 hO.1 fun H1 cA e1 z1 o1 hAr => ?_
    rw [← hO.1] at e1 z1 o1
    exact kk H1 (hO.mk z1 o1 (Or.inr (Or.inl ⟨rfl, Nat.le_trans hlo hS.1, cA, e1, hAr⟩))) (aS.mk hS z1 o1)
  · refine W.newaK hx hb (atype := .boolean) (hts _ (aMisc_ok (.arrayClass .boolean) (by simp))) rfl hdg rfl hz.1 rfl (by show n.toNatClampNeg * componentBytes .boolean ≤ _; simp [componentBytes]; omega) hc1 hs1 hO.1 fun H1 cA e1 z1 o1 hAr => ?_
    rw [← hO.1] at e1 z1 o1
    exact kk H1 (hO.mk z1 o1 (Or.inr (Or.inr ⟨rfl, Nat.le_trans hlo hS.1, cA, e1, hAr⟩))) (aS.mk hS z1 o1)
theorem a_anew (X : aCx sa lo D p s m args meth c i) (hO : hOK lo D s h H) (hS : va_S (aA lo) s.heap H locs) {k : Nat} (hk : (aOn i, k, 2) ∈ aKT0) {n : Int32} {z : Nat × AH} (ha : aNR h n = some z) (hc1 : cells + 1 ≤ R.cells) (hs1 : slots + n.toNatClampNeg ≤ R.slots) (hdg : decode (amB i) pc = .ok (.anewarray k, 3))
    (kk : ∀ (H1 : Heap), hOK lo D s z.2 H1 → va_S (aA lo) s.heap H1 locs → W p l e R s m args below meth c H1 locs (cells + 1) (slots + n.toNatClampNeg) Q (F0 m (pc + 3) ls (.ref z.1 :: rest))) : W p l e R s m args below meth c H locs cells slots Q (F0 m pc ls (.int n :: rest)) := by
  obtain ⟨hx, hb, -, hown, hts, ⟨hK, -, hAO, -, hlo⟩, -⟩ := X
  have hok := aKT0_ok _ hk
  have hcl : aWrd (.classLink (aNm (aOn i)) k RX2) = true := by
    unfold aKok at hok
    simp only [show aCls[2]? = some (RX2, TX2, 10) from rfl, Bool.and_eq_true] at hok
    exact hok.1
  unfold aNR at ha
  split at ha
  case isFalse => cases ha
  rename_i hz
  cases ha
  refine W.anew hx hb hown (hts _ hcl) (va_AO.use hAO) rfl hdg rfl hz.1 (by omega) hc1 hs1 fun cA kA comp f1 f2 f3 f4 => ?_
  generalize hH1 : H.push ({ cls := cA, slots := Array.replicate n.toNatClampNeg .null, vm := .none } : Cell) = H1
  have z1 : H1.size = H.size + 1 := by rw [← hH1, Array.size_push]
  have e1 : H1[H.size]? = some (arrV cA n.toNatClampNeg (fun _ => .null)) := by rw [← hH1, Array.getElem?_push_size, ← arrV_new]
  have o1 : ∀ q : Nat, q < H.size → H1[q]? = H[q]? := fun q hq => by rw [← hH1, Array.getElem?_push, if_neg (Nat.ne_of_lt hq)]
  have hAr : ArrOfT s cA (.object RX2) := fun N z => ⟨(fun k h => by cases h), kA, f2, comp, f3⟩
  have := kk H1 (hO.mk z1 o1 ⟨Nat.le_trans hlo hS.1, cA, e1, hAr, kA, comp, f2, f3, f4, f1⟩) (aS.mk hS z1 o1)
  rw [← hO.1] at this
  exact this
theorem a_copy (X : aCx sa lo D p s m args meth c i) (hO : hOK lo D s h H) (hS : va_S (aA lo) s.heap H locs) (hml : c.maxLocals = ls.size) {k : Nat} (hk : (aOn i, k, 1) ∈ aST) {a0 : Nat} {sp dp n : Int32} {g : AH} (ha : aCpy h a0 sp a dp n = some g) (hframes : 1 ≤ R.frames) (hlocals : (rest.map fun v => v.category).sum + 18 ≤ R.locals) (hdg : decode (amB i) pc = .ok (.invokestatic k, 3))
    (kk : ∀ (H1 : Heap) (locs1 : List Loc), hOK lo D s g H1 → va_S (aA lo) s.heap H1 locs1 → W p l e R s m args below meth c H1 locs1 cells slots Q (F0 m (pc + 3) ls rest)) : W p l e R s m args below meth c H locs cells slots Q (F0 m pc ls (.int n :: .int dp :: .ref a :: .int sp :: .ref a0 :: rest)) := by
  obtain ⟨hx, hb, -, hown, hts, -, -⟩ := X
  have hlk : aWrd (.methodLink (aNm (aOn i)) k arraycopyName) = true := aST_ok _ hk
  unfold aCpy at ha
  split at ha
  case h_2 => cases ha
  rename_i f g' hr0 hr1
  split at ha
  case isFalse => cases ha
  rename_i hz
  cases ha
  obtain ⟨t0, t1, h1, h2, h3, h4, h5⟩ := hz
  have w0 : aWr s H a0 f.2.1 f.2.2 .int := by
    rcases hO.2 a0 _ hr0 with ⟨e2, -⟩ | ⟨-, -, w⟩ | ⟨e2, -⟩
    · rw [t0] at e2; cases e2
    · exact w
    · rw [t0] at e2; cases e2
  have w1 : lo ≤ a ∧ aWr s H a g'.2.1 g'.2.2 .int := by
    rcases hO.2 a _ hr1 with ⟨e2, -⟩ | ⟨-, hl, w⟩ | ⟨e2, -⟩
    · rw [t1] at e2; cases e2
    · exact ⟨hl, w⟩
    · rw [t1] at e2; cases e2
  obtain ⟨c0, hc0, ar0⟩ := w0
  obtain ⟨hlo, c1, hc1, ar1⟩ := w1
  have nn : ∀ z : Int32, ¬ z < 0 → z.toInt = (z.toNatClampNeg : Int) := by
    intro z hz
    have hz0 : (0 : Int) ≤ z.toInt := by
      have := Int32.not_lt.mp hz
      simpa using Int32.le_iff_toInt_le.mp this
    show z.toInt = ((z.toInt.toNat : Nat) : Int)
    omega
  have hnf : nativeFrameWords "java/lang/System" "arraycopy" 5 = 7 := by decide
  intro T hT Y
  obtain ⟨-, k0, hk0, cm0, hkk0⟩ := ar0 f.2.1 (fun j => .int (f.2.2 j))
  obtain ⟨-, k1, hk1, cm1, hkk1⟩ := ar1 g'.2.1 (fun j => .int (g'.2.2 j))
  obtain ⟨vm', X', step⟩ := Y.arraycopy hx hown (hts _ hlk) (hts _ (aMisc_ok (.native arraycopyName) (by simp))) (hts _ (aMisc_ok (.static arraycopyName) (by simp))) (hts _ (aMisc_ok (.initialized "java/lang/System") (by simp))) (src := a0) (dst := a) (cs := vp_cell c0 (f.2.1, .inl f.2.2)) (cd := vp_cell c1 (g'.2.1, .inl g'.2.2)) (srcPos := sp) (destPos := dp) (n := n) (by rw [hT]; exact hc0) (by rw [hT]; exact hc1)
    (fun _ h => by cases h) (fun _ h => by cases h) (fun h => by cases h) (fun h => by cases h) hk0 hk1 hkk0 hkk1 (by simp [refKind]) h1 h2 h3
    (by rw [nn sp h1, nn n h3]; show ¬ _ > ((arrV c0 f.2.1 (fun j => .int (f.2.2 j))).slots.size : Int); rw [arrV_size]; omega)
    (by rw [nn dp h2, nn n h3]; show ¬ _ > ((arrV c1 g'.2.1 (fun j => .int (g'.2.2 j))).slots.size : Int); rw [arrV_size]; omega)
    (fun vm₁ _ i hi => by
      have e : (vp_cell c0 (f.2.1, .inl f.2.2)).slots.getD (sp.toNatClampNeg + i) .null = .int (f.2.2 (sp.toNatClampNeg + i)) := by
        show (arrV c0 f.2.1 (fun j => .int (f.2.2 j))).slots.getD _ _ = _
        rw [Array.getD_eq_getD_getElem?, arrV_read _ _ (by omega)]
        rfl
      refine ⟨?_, ?_⟩
      · rw [e]
        rfl
      · rw [e]
        exact trivial)
    (g := F0 m pc ls (.int n :: .int dp :: .ref a :: .int sp :: .ref a0 :: rest)) rfl (by rw [hml]) (rest := rest) rfl (by rw [hb]; exact hdg) hframes (by show 2 * 0 + _ + (nativeFrameWords "java/lang/System" "arraycopy" 5 + 11) ≤ _; rw [hnf]; omega)
  have e1 : copied (vp_cell c0 (f.2.1, .inl f.2.2)) (vp_cell c1 (g'.2.1, .inl g'.2.2)) sp dp n = vp_cell c1 (g'.2.1, .inl (va_cpy f.2.2 g'.2.2 sp.toNatClampNeg dp.toNatClampNeg n.toNatClampNeg)) := va_copied (fun z => .int z) c0 c1 f.2.2 g'.2.2 h4
  rw [e1] at X' step
  have hl : a < H.size := (Array.getElem?_eq_some_iff.mp hc1).1
  have hheap : ((T.setVm vm').setCell a (vp_cell c1 (g'.2.1, .inl (va_cpy f.2.2 g'.2.2 sp.toNatClampNeg dp.toNatClampNeg n.toNatClampNeg)))).heap = H.setIfInBounds a (vp_cell c1 (g'.2.1, .inl (va_cpy f.2.2 g'.2.2 sp.toNatClampNeg dp.toNatClampNeg n.toNatClampNeg))) := by rw [← hT]; rfl
  have oq : ∀ q : Nat, q ≠ a → (H.setIfInBounds a (vp_cell c1 (g'.2.1, .inl (va_cpy f.2.2 g'.2.2 sp.toNatClampNeg dp.toNatClampNeg n.toNatClampNeg))))[q]? = H[q]? := fun q hq => by simp [Array.getElem?_setIfInBounds, Ne.symm hq]
  obtain ⟨t, a1, b1⟩ := kk _ _ (hO.put (by simp) oq (Or.inr (Or.inl ⟨rfl, hlo, c1, show (H.setIfInBounds a _)[a]? = some _ by simp [Array.getElem?_setIfInBounds, hl], ar1⟩))) ⟨by simp; exact hS.1, fun q g1 g2 => by
      rw [oq q (fun e => g2 (by rw [e]; exact hlo))]
      exact hS.2.1 q g1 g2, fun q hq => by
      rcases List.mem_append.mp hq with h | h
      · exact hS.2.2 q h
      · obtain ⟨z, -, hz⟩ := List.mem_map.mp h
        rw [← hz]
        exact hlo⟩ _ hheap X'
  exact ⟨t, step t a1, b1⟩
end ASND
