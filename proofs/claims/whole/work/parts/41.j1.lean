/-! ===== both objects stand for one thing ===== -/
def gd (N : Nat) (P : PS) : Prop := pB P ∧ pK P ∧ P 4 ≤ 9999 ∧ pay N P
def JO (h : AH) (co : Nat) (S : ST) (I : Nat → PS) (ln sz : Nat → Nat) (it : Nat → Nat → Int32) (T : Nat → Nat) (len : Nat) (st ft : Int32) (tr : Nat → Int32) (tn : Nat) : Prop := cE h co S 22 (I 0) ∧ cE h co S 26 (I 1) ∧ rR S 7 (-1) ln sz it ∧ tT S 11 10 2 T len ∧ S.1 0 9 = st ∧ S.1 0 8 = ft ∧ tC S 39 38 1 tr tn
def JM (S : ST) (P : PS) (A : Nat → PS) (n : Nat) (I : Nat → PS) (ln sz : Nat → Nat) (it : Nat → Nat → Int32) (T : Nat → Nat) (len : Nat) (st ft : Int32) (tr : Nat → Int32) (tn : Nat) : Prop := pE S 46 P ∧ aP S A n ∧ mI S I ∧ rR S 41 (-1000000) ln sz it ∧ tT S 45 40 6 T len ∧ S.1 40 4 = st ∧ S.1 40 7 = ft ∧ tC S 52 40 21 tr tn
def JG (P : PS) (A : Nat → PS) (n : Nat) (I : Nat → PS) (N : Nat) : Prop := gd N P ∧ (∀ k, k < n → gd N (A k) ∧ gA P (A k)) ∧ ∀ k, k < 2 → gd N (I k)
def JJ (sa : Nat → Nat) (h : AH) (co N : Nat) (S : ST) : Prop := ∃ P A n I ln sz it T len st ft tr tn, (cE h co S 17 P ∧ cA S P A n) ∧ JO h co S I ln sz it T len st ft tr tn ∧ JM S P A n I ln sz it T len st ft tr tn ∧ JG P A n I N ∧ sT sa h co ∧ co + 53 ≤ h.1
def sm (p : Nat → Prop) (S S' : ST) : Prop := ∀ a, p a → S'.1 a = S.1 a ∧ S'.2.1 a = S.2.1 a ∧ S'.2.2 a = S.2.2 a
theorem sm_fr {lo hi : Nat} {S S' : ST} (h : fr lo hi S S') {p : Nat → Prop} (hp : ∀ a, p a → a < lo ∨ hi ≤ a) : sm p S S' := fun a ha => h a (hp a ha)
theorem sm_trans {p : Nat → Prop} {S S' S'' : ST} (h1 : sm p S S') (h2 : sm p S' S'') : sm p S S'' := fun a ha => ⟨(h2 a ha).1.trans (h1 a ha).1, (h2 a ha).2.1.trans (h1 a ha).2.1, (h2 a ha).2.2.trans (h1 a ha).2.2⟩
theorem sm_mono {p q : Nat → Prop} {S S' : ST} (h : sm p S S') (hq : ∀ a, q a → p a) : sm q S S' := fun a ha => h a (hq a ha)
def pO (a : Nat) : Prop := a < 13 ∨ (22 ≤ a ∧ a < 30) ∨ (38 ≤ a ∧ a < 40)
def pM (a : Nat) : Prop := 40 ≤ a
def pL (a : Nat) : Prop := a < 40
theorem cE_sm {h : AH} {co : Nat} {S S' : ST} {c : Nat} {P : PS} (hE : cE h co S c P) {p : Nat → Prop} (hf : sm p S S') (hd : ∀ a, c ≤ a → a < c + 4 → p a) : cE h co S' c P := by
  obtain ⟨q, w, e4, e5, e6, e7, e8, e9, ea⟩ := hE
  have f0 := hf c (hd c (by omega) (by omega))
  refine ⟨q, by rw [f0.2.1]; exact w, by rw [f0.1]; exact e4, by rw [f0.1]; exact e5, by rw [f0.1]; exact e6, by rw [f0.1]; exact e7, by rw [f0.1]; exact e8, by rw [f0.1]; exact e9, fun l hl => ?_⟩
  rw [(hf (c + 1) (hd _ (by omega) (by omega))).2.2, (hf (c + 2) (hd _ (by omega) (by omega))).2.2, (hf (c + 3) (hd _ (by omega) (by omega))).2.2]
  exact ea l hl
theorem cA_sm {S S' : ST} {P : PS} {A : Nat → PS} {n : Nat} (hA : cA S P A n) {p : Nat → Prop} (hf : sm p S S') (h30 : p 30) (h31 : p 31) : cA S' P A n := by
  obtain ⟨nx, h1, h2, e1, e2, ea⟩ := hA
  refine ⟨nx, h1, h2, by rw [(hf 30 h30).1]; exact e1, by rw [(hf 30 h30).1]; exact e2, fun k hk => ?_⟩
  rw [(hf 31 h31).2.2]
  exact ea k hk
theorem rR_sm {S S' : ST} {a : Nat} {mis : Int32} {ln sz : Nat → Nat} {it : Nat → Nat → Int32} (hR : rR S a mis ln sz it) {p : Nat → Prop} (hf : sm p S S') (h0 : p a) (h1 : p (a + 1)) (h2 : p (a + 2)) : rR S' a mis ln sz it := by
  unfold rR
  rw [(hf a h0).2.2, (hf (a + 1) h1).2.2, (hf (a + 2) h2).2.2]
  exact hR
theorem tT_sm {S S' : ST} {c o k : Nat} {T : Nat → Nat} {n : Nat} (hT : tT S c o k T n) {p : Nat → Prop} (hf : sm p S S') (hc : p c) (ho : p o) : tT S' c o k T n := by
  unfold tT
  rw [(hf c hc).2.2, (hf o ho).1]
  exact hT
theorem tC_sm {S S' : ST} {c o k : Nat} {t : Nat → Int32} {n : Nat} (hT : tC S c o k t n) {p : Nat → Prop} (hf : sm p S S') (hc : p c) (ho : p o) : tC S' c o k t n := by
  unfold tC
  rw [(hf c hc).2.2, (hf o ho).1]
  exact hT
theorem JO_sm {h : AH} {co : Nat} {S S' : ST} {I : Nat → PS} {ln sz : Nat → Nat} {it : Nat → Nat → Int32} {T : Nat → Nat} {len : Nat} {st ft : Int32} {tr : Nat → Int32} {tn : Nat} (hJ : JO h co S I ln sz it T len st ft tr tn) (hf : sm pO S S') : JO h co S' I ln sz it T len st ft tr tn := by
  obtain ⟨a1, a2, a3, a4, a5, a6, a7⟩ := hJ
  exact ⟨cE_sm a1 hf (fun a h1 h2 => by unfold pO; omega), cE_sm a2 hf (fun a h1 h2 => by unfold pO; omega), rR_sm a3 hf (by unfold pO; omega) (by unfold pO; omega) (by unfold pO; omega), tT_sm a4 hf (by unfold pO; omega) (by unfold pO; omega), by rw [(hf 0 (by unfold pO; omega)).1]; exact a5, by rw [(hf 0 (by unfold pO; omega)).1]; exact a6, tC_sm a7 hf (by unfold pO; omega) (by unfold pO; omega)⟩
theorem JM_sm {S S' : ST} {P : PS} {A : Nat → PS} {n : Nat} {I : Nat → PS} {ln sz : Nat → Nat} {it : Nat → Nat → Int32} {T : Nat → Nat} {len : Nat} {st ft : Int32} {tr : Nat → Int32} {tn : Nat} (hJ : JM S P A n I ln sz it T len st ft tr tn) (hf : sm pM S S') : JM S' P A n I ln sz it T len st ft tr tn := by
  obtain ⟨a1, a2, a3, a4, a5, a6, a7, a8⟩ := hJ
  have g : ∀ a, 40 ≤ a → pM a := fun a ha => ha
  refine ⟨⟨a1.1, fun j hj => by rw [(hf 46 (g _ (by decide))).2.2]; exact a1.2 j hj⟩, ?_, ?_, rR_sm a4 hf (g _ (by decide)) (g _ (by decide)) (g _ (by decide)), tT_sm a5 hf (g _ (by decide)) (g _ (by decide)), by rw [(hf 40 (g _ (by decide))).1]; exact a6, by rw [(hf 40 (g _ (by decide))).1]; exact a7, tC_sm a8 hf (g _ (by decide)) (g _ (by decide))⟩
  · unfold aP
    rw [(hf 40 (g _ (by decide))).1, (hf 49 (g _ (by decide))).2.2]
    exact a2
  · unfold mI
    rw [(hf 51 (g _ (by decide))).2.2, (hf 50 (g _ (by decide))).2.2]
    exact a3
theorem gd_mono {N M : Nat} {P : PS} (h : gd N P) (hm : N ≤ M) : gd M P := ⟨h.1, h.2.1, h.2.2.1, pay_mono h.2.2.2 hm⟩
theorem JG_mono {P : PS} {A : Nat → PS} {n : Nat} {I : Nat → PS} {N M : Nat} (h : JG P A n I N) (hm : N ≤ M) : JG P A n I M := ⟨gd_mono h.1 hm, fun k hk => ⟨gd_mono (h.2.1 k hk).1 hm, (h.2.1 k hk).2⟩, fun k hk => gd_mono (h.2.2 k hk) hm⟩
theorem gA_rf (P : PS) : gA P P := ⟨rfl, rfl, fun _ _ => rfl, fun _ _ => ⟨rfl, rfl⟩⟩
theorem gA_ch {P P' Q : PS} (h : gA P P') (hq : gA P Q) : gA P' Q := ⟨hq.1.trans h.1.symm, hq.2.1.trans h.2.1.symm, fun k hk => (hq.2.2.1 k hk).trans (h.2.2.1 k hk).symm, fun l hl => ⟨(hq.2.2.2 l hl).1.trans (h.2.2.2 l hl).1.symm, (hq.2.2.2 l hl).2.trans (h.2.2.2 l hl).2.symm⟩⟩
theorem gA_up (P : PS) {j : Nat} (x : Nat) (hj : j = 0 ∨ j = 1 ∨ j = 4 ∨ j = 5 ∨ ∃ l, l < 7 ∧ (j = 14 + 4 * l ∨ j = 15 + 4 * l)) : gA P (pUp P j x) := by
  have ne : ∀ i, (i = 2 ∨ i = 3 ∨ (6 ≤ i ∧ i < 12) ∨ ∃ l, l < 7 ∧ (i = 12 + 4 * l ∨ i = 13 + 4 * l)) → i ≠ j := by
    intro i hi e
    rcases hi with hi | hi | hi | ⟨l, _, hi⟩ <;> rcases hj with hj | hj | hj | hj | ⟨m, _, hj⟩ <;> omega
  exact ⟨pUp_ne _ _ (ne 2 (Or.inl rfl)), pUp_ne _ _ (ne 3 (Or.inr (Or.inl rfl))), fun k hk => pUp_ne _ _ (ne _ (Or.inr (Or.inr (Or.inl ⟨by omega, by omega⟩)))), fun l hl => ⟨pUp_ne _ _ (ne _ (Or.inr (Or.inr (Or.inr ⟨l, hl, Or.inl rfl⟩)))), pUp_ne _ _ (ne _ (Or.inr (Or.inr (Or.inr ⟨l, hl, Or.inr rfl⟩))))⟩⟩
theorem gA_day {P : PS} (hB : pB P) : gA P (pDay P) := ⟨pDay_ne hB (by decide) (by decide) (fun l _ => by omega), pDay_ne hB (by decide) (by decide) (fun l _ => by omega), fun k hk => pDay_ne hB (by omega) (by omega) (fun l _ => by omega), fun l hl => ⟨pDay_ne hB (by omega) (by omega) (fun i _ => by omega), pDay_ne hB (by omega) (by omega) (fun i _ => by omega)⟩⟩
/-- an act: the post as it was is kept -/
theorem JG_act {P P' : PS} {A : Nat → PS} {n : Nat} {I : Nat → PS} {N : Nat} (h : JG P A n I N) (hn : n ≤ 24) (hg : gA P P') (hd : gd N P') : JG P' (ntP A n P) (ntA n + 1) I N := by
  refine ⟨hd, fun k hk => ?_, h.2.2⟩
  unfold ntP
  unfold ntA at hk
  by_cases e : n = 24
  · rw [if_pos e] at hk ⊢
    by_cases k3 : k = 23
    · rw [if_pos k3]; exact ⟨h.1, gA_ch hg (gA_rf P)⟩
    · rw [if_neg k3]
      obtain ⟨a, b⟩ := h.2.1 (k + 1) (by omega)
      exact ⟨a, gA_ch hg b⟩
  · rw [if_neg e] at hk ⊢
    by_cases k3 : k = n
    · rw [if_pos k3]; exact ⟨h.1, gA_ch hg (gA_rf P)⟩
    · rw [if_neg k3]
      obtain ⟨a, b⟩ := h.2.1 k (by omega)
      exact ⟨a, gA_ch hg b⟩
/-- what a call on both leaves -/
def OK2 (sa : Nat → Nat) (h : AH) (co N : Nat) (S : ST) (jc : Nat) (as : List Value) (jm : Nat) (bs : List Value) : Prop := ∃ (v : Int32) (h' : AH) (S1 S2 : ST), AMC sa 20 jc as (mk h co S) = some (some (.int v), mk h' co S1) ∧ AMC sa 20 jm bs (mk h' co S1) = some (some (.int v), mk h' co S2) ∧ JJ sa h' co (N + 1) S2 ∧ gr h h' ∧ h'.1 ≤ h.1 + 4 ∧ h'.2.1 ≤ h.2.1 + 196
theorem JJ_mono {sa : Nat → Nat} {h : AH} {co N : Nat} {S : ST} (hJ : JJ sa h co N S) : JJ sa h co (N + 1) S := by
  obtain ⟨P, A, n, I, ln, sz, it, T, len, st, ft, tr, tn, h1, h2, h3, h4, h5⟩ := hJ
  exact ⟨P, A, n, I, ln, sz, it, T, len, st, ft, tr, tn, h1, h2, h3, JG_mono h4 (by omega), h5⟩
theorem ok_same {sa : Nat → Nat} {h : AH} {co N : Nat} {S : ST} (hJ : JJ sa h co N S) {jc : Nat} {as : List Value} {jm : Nat} {bs : List Value} {v : Int32} (e1 : AMC sa 20 jc as (mk h co S) = some (some (.int v), mk h co S)) (e2 : AMC sa 20 jm bs (mk h co S) = some (some (.int v), mk h co S)) : OK2 sa h co N S jc as jm bs := ⟨v, h, S, S, e1, e2, JJ_mono hJ, gr_refl h, by omega, by omega⟩
/-- both calls change what they stand for alike; the heap below stays -/
theorem ok_mk {sa : Nat → Nat} {h : AH} {co N : Nat} {S S1 S2 : ST} {jc : Nat} {as : List Value} {jm : Nat} {bs : List Value} {v : Int32} (e1 : AMC sa 20 jc as (mk h co S) = some (some (.int v), mk h co S1)) (e2 : AMC sa 20 jm bs (mk h co S1) = some (some (.int v), mk h co S2)) {P : PS} {A : Nat → PS} {n : Nat} {I : Nat → PS} {ln sz : Nat → Nat} {it : Nat → Nat → Int32} {T : Nat → Nat} {len : Nat} {st ft : Int32} {tr : Nat → Int32} {tn : Nat} (k1 : cE h co S1 17 P) (k2 : cA S1 P A n) (k3 : JO h co S1 I ln sz it T len st ft tr tn) (k4 : JM S2 P A n I ln sz it T len st ft tr tn) (k5 : sm pL S1 S2) (k6 : JG P A n I (N + 1)) (k7 : sT sa h co) (k8 : co + 53 ≤ h.1) : OK2 sa h co N S jc as jm bs :=
  ⟨v, h, S1, S2, e1, e2, ⟨P, A, n, I, ln, sz, it, T, len, st, ft, tr, tn, ⟨cE_sm k1 k5 (fun a h1 h2 => by unfold pL; omega), cA_sm k2 k5 (by unfold pL; decide) (by unfold pL; decide)⟩, JO_sm k3 (sm_mono k5 (fun a ha => by unfold pO at ha; unfold pL; omega)), k4, k6, k7, k8⟩, gr_refl h, by omega, by omega⟩
theorem sL_fr {lo hi : Nat} {S S' : ST} (h : fr lo hi S S') (hl : 40 ≤ lo) : sm pL S S' := sm_fr h (fun a ha => by unfold pL at ha; omega)
theorem sM_fr {lo hi : Nat} {S S' : ST} (h : fr lo hi S S') (hl : hi ≤ 40) : sm pM S S' := sm_fr h (fun a ha => by unfold pM at ha; omega)
theorem fr_M {lo hi : Nat} {S T : ST} (h : fr lo hi S T) {c : Nat} (h1 : lo ≤ c) (h2 : c < hi) (P : PS) : fr lo hi S (sM T c P) := fr_A h h1 h2 _
theorem fr_nt (S : ST) (n : Nat) : fr 40 53 S (nt S n) := fr_I (fr_A (fr_refl _ _ _) (by decide) (by decide) _) (by decide) (by decide) _ _
theorem fr_fM {S S' : ST} (h : fM S S') : fr 40 53 S S' := fun a ha => ⟨funext fun b => h.2.2 a b (fun z => by omega), by rw [h.1], h.2.1 a (by omega) (by omega)⟩
theorem fr_fP {S S' : ST} (h : fP S S') : fr 40 53 S S' := fun a ha => ⟨funext fun b => h.2.2 a b (fun z => by omega), by rw [h.1], h.2.1 a (by omega)⟩
/-! rows, the tape's end, what is only told -/
theorem k_status {sa : Nat → Nat} {h : AH} {co N : Nat} {S : ST} (hJ : JJ sa h co N S) : OK2 sa h co N S 98 [.ref co] 183 [.ref (co + 40)] := by
  obtain ⟨P, A, n, I, ln, sz, it, T, len, st, ft, tr, tn, h1, h2, h3, h4, h5, h6⟩ := id hJ
  refine ok_same hJ (v := st) ?_ ?_
  · rw [← h2.2.2.2.2.1]; exact c_status sa 19 h co S
  · rw [← h3.2.2.2.2.2.1]; exact m_status sa 19 h co S
theorem k_fault {sa : Nat → Nat} {h : AH} {co N : Nat} {S : ST} (hJ : JJ sa h co N S) : OK2 sa h co N S 71 [.ref co] 134 [.ref (co + 40)] := by
  obtain ⟨P, A, n, I, ln, sz, it, T, len, st, ft, tr, tn, h1, h2, h3, h4, h5, h6⟩ := id hJ
  refine ok_same hJ (v := ft) ?_ ?_
  · rw [← h2.2.2.2.2.2.1]; exact c_fault sa 19 h co S
  · rw [← h3.2.2.2.2.2.2.1]; exact m_fault sa 19 h co S
theorem k_trace {sa : Nat → Nat} {h : AH} {co N : Nat} {S : ST} (hJ : JJ sa h co N S) (x : Int32) : OK2 sa h co N S 96 [.ref co, .int x] 181 [.ref (co + 40), .int x] := by
  obtain ⟨P, A, n, I, ln, sz, it, T, len, st, ft, tr, tn, h1, h2, h3, h4, h5, h6⟩ := id hJ
  exact ok_same hJ (c_trace sa 18 h co h2.2.2.2.2.2.2 x) (m_trace sa 18 h co h3.2.2.2.2.2.2.2 x)
theorem k_count {sa : Nat → Nat} {h : AH} {co N : Nat} {S : ST} (hJ : JJ sa h co N S) (x : Int32) : OK2 sa h co N S 97 [.ref co, .int x] 182 [.ref (co + 40), .int x] := by
  obtain ⟨P, A, n, I, ln, sz, it, T, len, st, ft, tr, tn, h1, h2, h3, h4, h5, h6⟩ := id hJ
  obtain ⟨nx, -, -, -, e2, -⟩ := h1.2
  exact ok_same hJ (c_count sa 17 h1.1 h4.1.1 h2.2.2.1 e2 h2.2.2.2.1.1 x) (m_count sa 18 h co h3.1 h4.1.1 h3.2.2.2.1 h3.2.1.1 h3.2.2.2.2.1.1 x)
/-- a finding alone -/
theorem ok_st {sa : Nat → Nat} {h : AH} {co N : Nat} {S : ST} (hJ : JJ sa h co N S) {jc : Nat} {as : List Value} {jm : Nat} {bs : List Value} {v x : Int32} (e1 : AMC sa 20 jc as (mk h co S) = some (some (.int v), mk h co (sI S 0 9 x))) (e2 : ∀ P A n I ln sz it T len st ft tr tn, JM (sI S 0 9 x) P A n I ln sz it T len st ft tr tn → JM S P A n I ln sz it T len st ft tr tn → JG P A n I N → JO h co S I ln sz it T len st ft tr tn → AMC sa 20 jm bs (mk h co (sI S 0 9 x)) = some (some (.int v), mk h co (sI (sI S 0 9 x) 40 4 x))) : OK2 sa h co N S jc as jm bs := by
  obtain ⟨P, A, n, I, ln, sz, it, T, len, st, ft, tr, tn, h1, h2, h3, h4, h5, h6⟩ := id hJ
  have f1 : fr 0 1 S (sI S 0 9 x) := fr_I (fr_refl _ _ _) (by decide) (by decide) _ _
  have m1 := JM_sm h3 (sM_fr f1 (by decide))
  have f2 : fr 40 53 (sI S 0 9 x) (sI (sI S 0 9 x) 40 4 x) := fr_I (fr_refl _ _ _) (by decide) (by decide) _ _
  obtain ⟨o1, o2, o3, o4, o5, o6, o7⟩ := h2
  obtain ⟨q1, q2, q3, q4, q5, q6, q7, q8⟩ := m1
  refine ok_mk e1 (e2 P A n I ln sz it T len st ft tr tn ⟨q1, q2, q3, q4, q5, q6, q7, q8⟩ h3 h4 ⟨o1, o2, o3, o4, o5, o6, o7⟩) (P := P) (A := A) (n := n) (I := I) (ln := ln) (sz := sz) (it := it) (T := T) (len := len) (st := x) (ft := ft) (tr := tr) (tn := tn) (cE_fr h1.1 f1 (by decide)) (cA_fr h1.2 f1 (by decide)) ⟨cE_fr o1 f1 (by decide), cE_fr o2 f1 (by decide), o3, o4, sI_at _ _ _ _, (sI_ne _ _ (by decide)).trans o6, o7⟩ ⟨q1, q2, q3, q4, q5, sI_at _ _ _ _, (sI_ne _ _ (by decide)).trans q7, q8⟩ (sL_fr f2 (by decide)) (JG_mono h4 (by omega)) h5 h6
