/-! ===== the class: posts by their cell ===== -/
def qc (c : Nat) : Prop := c = 13 ∨ c = 17 ∨ c = 22 ∨ c = 26 ∨ c = 33
theorem qR0 {c : Nat} (hq : qc c) (h : AH) (co : Nat) (S : ST) : aFR (mk h co S) (co + c) 2 0 = some (co + (c + 1)) := by
  rcases hq with rfl | rfl | rfl | rfl | rfl
  · exact gR_13_0 h co S
  · exact gR_17_0 h co S
  · exact gR_22_0 h co S
  · exact gR_26_0 h co S
  · exact gR_33_0 h co S
theorem qR1 {c : Nat} (hq : qc c) (h : AH) (co : Nat) (S : ST) : aFR (mk h co S) (co + c) 2 1 = some (co + (c + 2)) := by
  rcases hq with rfl | rfl | rfl | rfl | rfl
  · exact gR_13_1 h co S
  · exact gR_17_1 h co S
  · exact gR_22_1 h co S
  · exact gR_26_1 h co S
  · exact gR_33_1 h co S
theorem qR2 {c : Nat} (hq : qc c) (h : AH) (co : Nat) (S : ST) : aFR (mk h co S) (co + c) 2 2 = some (co + (c + 3)) := by
  rcases hq with rfl | rfl | rfl | rfl | rfl
  · exact gR_13_2 h co S
  · exact gR_17_2 h co S
  · exact gR_22_2 h co S
  · exact gR_26_2 h co S
  · exact gR_33_2 h co S
theorem qR3 {c : Nat} (hq : qc c) (h : AH) (co : Nat) (S : ST) : aFR (mk h co S) (co + c) 2 3 = some (S.2.1 c) := by
  rcases hq with rfl | rfl | rfl | rfl | rfl
  · exact gR_13_3 h co S
  · exact gR_17_3 h co S
  · exact gR_22_3 h co S
  · exact gR_26_3 h co S
  · exact gR_33_3 h co S
theorem qC {c : Nat} (hq : qc c) (h : AH) (co : Nat) (S : ST) : aCl (mk h co S) (co + c) 2 = some () := by
  rcases hq with rfl | rfl | rfl | rfl | rfl
  · exact gC_13 h co S
  · exact gC_17 h co S
  · exact gC_22 h co S
  · exact gC_26 h co S
  · exact gC_33 h co S
theorem qI4 {c : Nat} (hq : qc c) (h : AH) (co : Nat) (S : ST) : aFI (mk h co S) (co + c) 2 4 = some (S.1 c 4) := by
  rcases hq with rfl | rfl | rfl | rfl | rfl
  · exact gI_13_4 h co S
  · exact gI_17_4 h co S
  · exact gI_22_4 h co S
  · exact gI_26_4 h co S
  · exact gI_33_4 h co S
theorem qP4 {c : Nat} (hq : qc c) (h : AH) (co : Nat) (S : ST) (x : Int32) : aFP (mk h co S) (co + c) 2 4 (.int x) = some (mk h co (sI S c 4 x)) := by
  rcases hq with rfl | rfl | rfl | rfl | rfl
  · exact gP_13_4 h co S x
  · exact gP_17_4 h co S x
  · exact gP_22_4 h co S x
  · exact gP_26_4 h co S x
  · exact gP_33_4 h co S x
theorem qI5 {c : Nat} (hq : qc c) (h : AH) (co : Nat) (S : ST) : aFI (mk h co S) (co + c) 2 5 = some (S.1 c 5) := by
  rcases hq with rfl | rfl | rfl | rfl | rfl
  · exact gI_13_5 h co S
  · exact gI_17_5 h co S
  · exact gI_22_5 h co S
  · exact gI_26_5 h co S
  · exact gI_33_5 h co S
theorem qP5 {c : Nat} (hq : qc c) (h : AH) (co : Nat) (S : ST) (x : Int32) : aFP (mk h co S) (co + c) 2 5 (.int x) = some (mk h co (sI S c 5 x)) := by
  rcases hq with rfl | rfl | rfl | rfl | rfl
  · exact gP_13_5 h co S x
  · exact gP_17_5 h co S x
  · exact gP_22_5 h co S x
  · exact gP_26_5 h co S x
  · exact gP_33_5 h co S x
theorem qI6 {c : Nat} (hq : qc c) (h : AH) (co : Nat) (S : ST) : aFI (mk h co S) (co + c) 2 6 = some (S.1 c 6) := by
  rcases hq with rfl | rfl | rfl | rfl | rfl
  · exact gI_13_6 h co S
  · exact gI_17_6 h co S
  · exact gI_22_6 h co S
  · exact gI_26_6 h co S
  · exact gI_33_6 h co S
theorem qP6 {c : Nat} (hq : qc c) (h : AH) (co : Nat) (S : ST) (x : Int32) : aFP (mk h co S) (co + c) 2 6 (.int x) = some (mk h co (sI S c 6 x)) := by
  rcases hq with rfl | rfl | rfl | rfl | rfl
  · exact gP_13_6 h co S x
  · exact gP_17_6 h co S x
  · exact gP_22_6 h co S x
  · exact gP_26_6 h co S x
  · exact gP_33_6 h co S x
theorem qI7 {c : Nat} (hq : qc c) (h : AH) (co : Nat) (S : ST) : aFI (mk h co S) (co + c) 2 7 = some (S.1 c 7) := by
  rcases hq with rfl | rfl | rfl | rfl | rfl
  · exact gI_13_7 h co S
  · exact gI_17_7 h co S
  · exact gI_22_7 h co S
  · exact gI_26_7 h co S
  · exact gI_33_7 h co S
theorem qP7 {c : Nat} (hq : qc c) (h : AH) (co : Nat) (S : ST) (x : Int32) : aFP (mk h co S) (co + c) 2 7 (.int x) = some (mk h co (sI S c 7 x)) := by
  rcases hq with rfl | rfl | rfl | rfl | rfl
  · exact gP_13_7 h co S x
  · exact gP_17_7 h co S x
  · exact gP_22_7 h co S x
  · exact gP_26_7 h co S x
  · exact gP_33_7 h co S x
theorem qI8 {c : Nat} (hq : qc c) (h : AH) (co : Nat) (S : ST) : aFI (mk h co S) (co + c) 2 8 = some (S.1 c 8) := by
  rcases hq with rfl | rfl | rfl | rfl | rfl
  · exact gI_13_8 h co S
  · exact gI_17_8 h co S
  · exact gI_22_8 h co S
  · exact gI_26_8 h co S
  · exact gI_33_8 h co S
theorem qP8 {c : Nat} (hq : qc c) (h : AH) (co : Nat) (S : ST) (x : Int32) : aFP (mk h co S) (co + c) 2 8 (.int x) = some (mk h co (sI S c 8 x)) := by
  rcases hq with rfl | rfl | rfl | rfl | rfl
  · exact gP_13_8 h co S x
  · exact gP_17_8 h co S x
  · exact gP_22_8 h co S x
  · exact gP_26_8 h co S x
  · exact gP_33_8 h co S x
theorem qI9 {c : Nat} (hq : qc c) (h : AH) (co : Nat) (S : ST) : aFI (mk h co S) (co + c) 2 9 = some (S.1 c 9) := by
  rcases hq with rfl | rfl | rfl | rfl | rfl
  · exact gI_13_9 h co S
  · exact gI_17_9 h co S
  · exact gI_22_9 h co S
  · exact gI_26_9 h co S
  · exact gI_33_9 h co S
theorem qP9 {c : Nat} (hq : qc c) (h : AH) (co : Nat) (S : ST) (x : Int32) : aFP (mk h co S) (co + c) 2 9 (.int x) = some (mk h co (sI S c 9 x)) := by
  rcases hq with rfl | rfl | rfl | rfl | rfl
  · exact gP_13_9 h co S x
  · exact gP_17_9 h co S x
  · exact gP_22_9 h co S x
  · exact gP_26_9 h co S x
  · exact gP_33_9 h co S x
theorem gW_13 (h : AH) (co : Nat) (S : ST) (w : Nat) : aFP (mk h co S) (co + 13) 2 3 (.ref w) = some (mk h co (sP S 13 w)) := by
  unfold aFP
  rw [show (mk h co S).2.2 (co + 13) = _ from g_obj (c := 13) (Or.inr (by decide)) (by decide) rfl]
  refine (if_pos ⟨rfl, by rw [fl_len]; decide⟩).trans ?_
  congr 1
  exact mk_up h co S _ 13 _ (Or.inr (by decide)) (by decide) rfl (fun y hy => ⟨rfl, if_neg hy, rfl⟩)
theorem gW_17 (h : AH) (co : Nat) (S : ST) (w : Nat) : aFP (mk h co S) (co + 17) 2 3 (.ref w) = some (mk h co (sP S 17 w)) := by
  unfold aFP
  rw [show (mk h co S).2.2 (co + 17) = _ from g_obj (c := 17) (Or.inr (by decide)) (by decide) rfl]
  refine (if_pos ⟨rfl, by rw [fl_len]; decide⟩).trans ?_
  congr 1
  exact mk_up h co S _ 17 _ (Or.inr (by decide)) (by decide) rfl (fun y hy => ⟨rfl, if_neg hy, rfl⟩)
theorem gW_22 (h : AH) (co : Nat) (S : ST) (w : Nat) : aFP (mk h co S) (co + 22) 2 3 (.ref w) = some (mk h co (sP S 22 w)) := by
  unfold aFP
  rw [show (mk h co S).2.2 (co + 22) = _ from g_obj (c := 22) (Or.inr (by decide)) (by decide) rfl]
  refine (if_pos ⟨rfl, by rw [fl_len]; decide⟩).trans ?_
  congr 1
  exact mk_up h co S _ 22 _ (Or.inr (by decide)) (by decide) rfl (fun y hy => ⟨rfl, if_neg hy, rfl⟩)
theorem gW_26 (h : AH) (co : Nat) (S : ST) (w : Nat) : aFP (mk h co S) (co + 26) 2 3 (.ref w) = some (mk h co (sP S 26 w)) := by
  unfold aFP
  rw [show (mk h co S).2.2 (co + 26) = _ from g_obj (c := 26) (Or.inr (by decide)) (by decide) rfl]
  refine (if_pos ⟨rfl, by rw [fl_len]; decide⟩).trans ?_
  congr 1
  exact mk_up h co S _ 26 _ (Or.inr (by decide)) (by decide) rfl (fun y hy => ⟨rfl, if_neg hy, rfl⟩)
theorem gW_33 (h : AH) (co : Nat) (S : ST) (w : Nat) : aFP (mk h co S) (co + 33) 2 3 (.ref w) = some (mk h co (sP S 33 w)) := by
  unfold aFP
  rw [show (mk h co S).2.2 (co + 33) = _ from g_obj (c := 33) (Or.inr (by decide)) (by decide) rfl]
  refine (if_pos ⟨rfl, by rw [fl_len]; decide⟩).trans ?_
  congr 1
  exact mk_up h co S _ 33 _ (Or.inr (by decide)) (by decide) rfl (fun y hy => ⟨rfl, if_neg hy, rfl⟩)
theorem qW {c : Nat} (hq : qc c) (h : AH) (co : Nat) (S : ST) (w : Nat) : aFP (mk h co S) (co + c) 2 3 (.ref w) = some (mk h co (sP S c w)) := by
  rcases hq with rfl | rfl | rfl | rfl | rfl
  · exact gW_13 h co S w
  · exact gW_17 h co S w
  · exact gW_22 h co S w
  · exact gW_26 h co S w
  · exact gW_33 h co S w
theorem q_arr {c : Nat} (hq : qc c) {j : Nat} (h1 : 1 ≤ j) (h3 : j ≤ 3) : cK (c + j) = 1 ∧ cN (c + j) = 7 ∧ 6 ≤ c + j ∧ c + j < 53 := by
  have hj : j = 1 ∨ j = 2 ∨ j = 3 := by omega
  rcases hq with rfl | rfl | rfl | rfl | rfl <;> rcases hj with rfl | rfl | rfl <;> decide
theorem qL {c : Nat} (hq : qc c) (h : AH) (co : Nat) (S : ST) {j : Nat} (h1 : 1 ≤ j) (h3 : j ≤ 3) {i : Nat} (hi : i < 7) : aIL (mk h co S) (co + (c + j)) (nI i) = some (S.2.2 (c + j) i) := by
  obtain ⟨a1, a2, a3, a4⟩ := q_arr hq h1 h3
  rw [g_IL (Or.inr a3) a4 a1 (by rw [a2]; exact aIn_nI hi (by decide)), nI_clamp (by omega)]
theorem qS {c : Nat} (hq : qc c) (h : AH) (co : Nat) (S : ST) {j : Nat} (h1 : 1 ≤ j) (h3 : j ≤ 3) {i : Nat} (hi : i < 7) (x : Int32) : aIS (mk h co S) (co + (c + j)) (nI i) x = some (mk h co (sA S (c + j) (upd (S.2.2 (c + j)) i x))) := by
  obtain ⟨a1, a2, a3, a4⟩ := q_arr hq h1 h3
  rw [g_IS (Or.inr a3) a4 a1 (by rw [a2]; exact aIn_nI hi (by decide)), nI_clamp (by omega)]
theorem g_CP {h : AH} {co : Nat} {S : ST} {a b : Nat} (ha : 6 ≤ a) (ha2 : a < 53) (hak : cK a = 1) (hb : 6 ≤ b) (hb2 : b < 53) (hbk : cK b = 1) {sp dp n : Nat} (h1 : sp + n ≤ cN a) (h2 : dp + n ≤ cN b) (ma : cN a < 100000) (mb : cN b < 100000) : aCpy (mk h co S) (co + a) (nI sp) (co + b) (nI dp) (nI n) = some (mk h co (sA S b (va_cpy (S.2.2 a) (S.2.2 b) sp dp n))) := by
  unfold aCpy
  rw [g_arr (Or.inr ha) ha2 hak, g_arr (Or.inr hb) hb2 hbk]
  refine (if_pos ⟨rfl, rfl, nI_pos (by omega), nI_pos (by omega), nI_pos (by omega), by rw [nI_clamp (by omega), nI_clamp (by omega)]; exact h1, by rw [nI_clamp (by omega), nI_clamp (by omega)]; exact h2⟩).trans ?_
  congr 1
  refine mk_up h co S _ b _ (Or.inr hb) hb2 ?_ (fun y hy => ⟨rfl, rfl, if_neg hy⟩)
  unfold cell
  rw [hbk]
  show (Sum.inr (Sum.inl (0, cN b, if b = b then _ else _)) : AE) = _
  rw [if_pos rfl, nI_clamp (by omega), nI_clamp (by omega), nI_clamp (by omega)]
/-! ===== frames by cells ===== -/
def fr (lo hi : Nat) (S S' : ST) : Prop := ∀ a, (a < lo ∨ hi ≤ a) → S'.1 a = S.1 a ∧ S'.2.1 a = S.2.1 a ∧ S'.2.2 a = S.2.2 a
theorem fr_refl (lo hi : Nat) (S : ST) : fr lo hi S S := fun _ _ => ⟨rfl, rfl, rfl⟩
theorem fr_trans {lo hi : Nat} {S S' S'' : ST} (h1 : fr lo hi S S') (h2 : fr lo hi S' S'') : fr lo hi S S'' := fun a ha => ⟨(h2 a ha).1.trans (h1 a ha).1, (h2 a ha).2.1.trans (h1 a ha).2.1, (h2 a ha).2.2.trans (h1 a ha).2.2⟩
theorem fr_mono {lo hi lo' hi' : Nat} {S S' : ST} (h : fr lo hi S S') (h1 : lo' ≤ lo) (h2 : hi ≤ hi') : fr lo' hi' S S' := fun a ha => h a (by omega)
theorem fr_I {lo hi : Nat} {S T : ST} (h : fr lo hi S T) {c : Nat} (h1 : lo ≤ c) (h2 : c < hi) (k : Nat) (x : Int32) : fr lo hi S (sI T c k x) := fun a ha => ⟨(funext fun b => if_neg (fun z => by omega)).trans (h a ha).1, (h a ha).2.1, (h a ha).2.2⟩
theorem fr_A {lo hi : Nat} {S T : ST} (h : fr lo hi S T) {c : Nat} (h1 : lo ≤ c) (h2 : c < hi) (f : Nat → Int32) : fr lo hi S (sA T c f) := fun a ha => ⟨(h a ha).1, (h a ha).2.1, (if_neg (by omega)).trans (h a ha).2.2⟩
theorem fr_P {lo hi : Nat} {S T : ST} (h : fr lo hi S T) {c : Nat} (h1 : lo ≤ c) (h2 : c < hi) (w : Nat) : fr lo hi S (sP T c w) := fun a ha => ⟨(h a ha).1, (if_neg (by omega)).trans (h a ha).2.1, (h a ha).2.2⟩
/-! ===== words below the picture ===== -/
def oK (h : AH) (co x : Nat) : Prop := ¬ (x = co ∨ (co + 6 ≤ x ∧ x < co + 53)) ∧ x < h.1
def wE (h : AH) (co w : Nat) (P : PS) : Prop := ∃ (a1 a2 a3 : Nat) (f1 f2 f3 : Nat → Int32), oK h co w ∧ oK h co a1 ∧ oK h co a2 ∧ oK h co a3 ∧ h.2.2 w = some (.inl (6, [.int (nI (P 2)), .ref a1, .ref a2, .ref a3])) ∧ h.2.2 a1 = some (.inr (.inl (0, 64, f1))) ∧ h.2.2 a2 = some (.inr (.inl (0, 64, f2))) ∧ h.2.2 a3 = some (.inr (.inl (0, 64, f3))) ∧ ∀ s, s < 2 ^ P 2 → f1 s = nI (oS P s (P 2)) ∧ f2 s = nI (pOne P s true) ∧ f3 s = nI (pOne P s false)
theorem o_IL {h : AH} {co x : Nat} (hx : oK h co x) {f : Nat → Int32} (hf : h.2.2 x = some (.inr (.inl (0, 64, f)))) (S : ST) {s : Nat} (hs : s < 64) : aIL (mk h co S) x (nI s) = some (f s) := by
  unfold aIL
  rw [mk_out h co S x hx.1, hf]
  refine (if_pos ⟨aIn_nI hs (show (64 : Nat) < 2 ^ 31 by decide), show (0 : Nat) ≠ 1 by decide⟩).trans ?_
  rw [nI_clamp (by omega)]
theorem p2_64 : ∀ k, k ≤ 6 → 2 ^ k ≤ 64 := by decide
theorem wE_get {h : AH} {co w : Nat} {P : PS} (hw : wE h co w P) (hB : pB P) : ∃ a1 a2 a3, (∀ S, aFI (mk h co S) w 6 0 = some (nI (P 2)) ∧ aFR (mk h co S) w 6 1 = some a1 ∧ aFR (mk h co S) w 6 2 = some a2 ∧ aFR (mk h co S) w 6 3 = some a3) ∧ ∀ S s, s < 2 ^ P 2 → aIL (mk h co S) a1 (nI s) = some (nI (oS P s (P 2))) ∧ aIL (mk h co S) a2 (nI s) = some (nI (pOne P s true)) ∧ aIL (mk h co S) a3 (nI s) = some (nI (pOne P s false)) := by
  obtain ⟨a1, a2, a3, f1, f2, f3, o0, o1, o2, o3, e0, e1, e2, e3, hf⟩ := hw
  have h64 := p2_64 _ hB.1
  refine ⟨a1, a2, a3, fun S => ⟨?_, ?_, ?_, ?_⟩, fun S s hs => ⟨?_, ?_, ?_⟩⟩
  · unfold aFI; rw [mk_out h co S w o0.1, e0]; rfl
  · unfold aFR; rw [mk_out h co S w o0.1, e0]; rfl
  · unfold aFR; rw [mk_out h co S w o0.1, e0]; rfl
  · unfold aFR; rw [mk_out h co S w o0.1, e0]; rfl
  · rw [o_IL o1 e1 S (by omega), (hf s hs).1]
  · rw [o_IL o2 e2 S (by omega), (hf s hs).2.1]
  · rw [o_IL o3 e3 S (by omega), (hf s hs).2.2]
/-! ===== a post of the class ===== -/
def cE (h : AH) (co : Nat) (S : ST) (c : Nat) (P : PS) : Prop := qc c ∧ wE h co (S.2.1 c) P ∧ S.1 c 4 = nI (P 3) ∧ S.1 c 5 = nI (pSn P (P 3)) ∧ S.1 c 6 = nI (P 0) ∧ S.1 c 7 = nI (P 1) ∧ S.1 c 8 = nI (P 4) ∧ S.1 c 9 = nI (P 5) ∧ ∀ l, l < P 3 → S.2.2 (c + 1) l = nI (P (12 + 4 * l)) ∧ S.2.2 (c + 2) l = nI (P (13 + 4 * l)) ∧ S.2.2 (c + 3) l = nI (P (14 + 4 * l))
theorem cE_fr {h : AH} {co : Nat} {S S' : ST} {c : Nat} {P : PS} (hE : cE h co S c P) {lo hi : Nat} (hf : fr lo hi S S') (hd : c + 4 ≤ lo ∨ hi ≤ c) : cE h co S' c P := by
  obtain ⟨q, w, e4, e5, e6, e7, e8, e9, ea⟩ := hE
  have f0 := hf c (by omega)
  refine ⟨q, by rw [f0.2.1]; exact w, by rw [f0.1]; exact e4, by rw [f0.1]; exact e5, by rw [f0.1]; exact e6, by rw [f0.1]; exact e7, by rw [f0.1]; exact e8, by rw [f0.1]; exact e9, fun l hl => ?_⟩
  rw [(hf (c + 1) (by omega)).2.2, (hf (c + 2) (by omega)).2.2, (hf (c + 3) (by omega)).2.2]
  exact ea l hl
/-- letters' kinds are known, what they would say are words -/
def pK (P : PS) : Prop := ∀ l, l < P 3 → 1 ≤ P (12 + 4 * l) ∧ P (13 + 4 * l) < 2 ^ P 2
theorem n_bit0 : ∀ s, s < 128 → ∀ k, k < 7 → (((nI s >>> (nI k &&& 31)) &&& 1 = 0) ↔ s.testBit k = false) := by decide +kernel
theorem pSn_tb {P : PS} (hB : pB P) (i : Nat) : ∀ k, k ≤ 7 → (pSn P k).testBit i = decide (i < k ∧ P (15 + 4 * i) = 1)
  | 0, _ => by
    show Nat.testBit 0 i = _
    rw [Nat.zero_testBit]
    exact (decide_eq_false (fun z => by omega)).symm
  | k + 1, h => by
    have ih := pSn_tb hB i k (by omega)
    have hv := (hB.2.2.2.1 k (by omega)).2.2.2
    have hv2 : P (15 + 4 * k) = 0 ∨ P (15 + 4 * k) = 1 := by omega
    show (pSn P k ||| (P (15 + 4 * k) * 2 ^ k)).testBit i = _
    rw [Nat.testBit_or, ih]
    rcases hv2 with e | e
    · rw [e, Nat.zero_mul, Nat.zero_testBit, Bool.or_false]
      refine decide_eq_decide.mpr ⟨fun z => ⟨by omega, z.2⟩, fun z => ⟨?_, z.2⟩⟩
      rcases Nat.lt_or_ge i k with q | q
      · exact q
      · have : i = k := by omega
        rw [this, e] at z
        exact absurd z.2 (by decide)
    · rw [e, Nat.one_mul, Nat.testBit_two_pow]
      by_cases hik : k = i
      · rw [decide_eq_true hik, Bool.or_true]
        exact (decide_eq_true ⟨by omega, by rw [← hik]; exact e⟩).symm
      · rw [decide_eq_false hik, Bool.or_false]
        exact decide_eq_decide.mpr ⟨fun z => ⟨by omega, z.2⟩, fun z => ⟨by omega, z.2⟩⟩
theorem c_unsaid (sa : Nat → Nat) (d : Nat) {h : AH} {co : Nat} {S : ST} {c : Nat} {P : PS} (hE : cE h co S c P) (hB : pB P) {l : Nat} (hl : l < P 3) : AMC sa (d + 1) 15 [.ref (co + c), .int (nI l)] (mk h co S) = some (some (.int (nI (pU P l))), mk h co S) := by
  have hq := hE.1
  have hL := hB.2.1
  obtain ⟨k1, k2, k3⟩ := hE.2.2.2.2.2.2.2.2 l hl
  rw [fX2_unsaid, eX2_unsaid_0, qR1 hq, aOp_s, qL hq h co S (by decide) (by decide) (by omega), aOp_s, qR2 hq, aOp_s, qL hq h co S (by decide) (by decide) (by omega), aOp_s, k2, k3, n_andn _ (hB.2.2.2.1 l (by omega)).2.1 _ (hB.2.2.2.1 l (by omega)).2.2.1]
  rfl
def wg (k p : Nat) (b : Bool) : Nat := match k with
  | 2 => 2 * p
  | 3 => cond b (p + 1) p
  | 4 => p / 2
  | 5 => p / 2 - 5
  | _ => p
theorem pWB_wg (P : PS) (l set : Nat) (h1 : 1 ≤ P (12 + 4 * l)) (h5 : P (12 + 4 * l) ≤ 5) : pWB P l set = wg (P (12 + 4 * l)) (oS P set (P 2)) (decide (P (14 + 4 * l) = 0)) := by
  have hv : P (12 + 4 * l) = 1 ∨ P (12 + 4 * l) = 2 ∨ P (12 + 4 * l) = 3 ∨ P (12 + 4 * l) = 4 ∨ P (12 + 4 * l) = 5 := by omega
  unfold pWB wg
  rcases hv with e | e | e | e | e
  · rw [e]; rfl
  · rw [e]; rfl
  · rw [e]
    by_cases hz : P (14 + 4 * l) = 0
    · rw [if_pos hz, decide_eq_true hz]; rfl
    · rw [if_neg hz, decide_eq_false hz]; rfl
  · rw [e]; rfl
  · rw [e]; rfl
theorem c_weigh (sa : Nat → Nat) (d : Nat) {k p : Nat} (h1 : 1 ≤ k) (h5 : k ≤ 5) (hp : p ≤ 54) (b : Bool) (h : AH) : AMC sa (d + 1) 17 [.int (nI k), .int (nI p), .int (bv b)] h = some (some (.int (nI (wg k p b))), h) := by
  have hv : k = 1 ∨ k = 2 ∨ k = 3 ∨ k = 4 ∨ k = 5 := by omega
  have dv : nI p / 2 = nI (p / 2) := pk_div (d := 2) (by omega) (by decide) (by decide)
  rw [fX2_weigh, eX2_weigh_0]
  rcases hv with rfl | rfl | rfl | rfl | rfl
  · rw [if_neg (by decide), if_neg (by decide), if_neg (by decide), if_neg (by decide)]; rfl
  · rw [if_pos (show nI 2 = 2 from rfl), show (2 : Int32) = nI 2 from rfl, pk_mul]; rfl
  · rw [if_neg (by decide), if_pos (show nI 3 = 3 from rfl)]
    cases b with
    | false => rw [if_pos (show bv false = 0 from rfl)]; rfl
    | true => rw [if_neg (show ¬ bv true = 0 by decide), nI_1]; rfl
  · rw [if_neg (by decide), if_neg (by decide), if_pos (show nI 4 = 4 from rfl), dv]; rfl
  · rw [if_neg (by decide), if_neg (by decide), if_neg (by decide), if_pos (show nI 5 = 5 from rfl), dv]
    show some (some (Value.int (if nI (p / 2) - 5 < 0 then 0 else nI (p / 2) - 5)), h) = some (some (.int (nI (p / 2 - 5))), h)
    have e : (nI (p / 2) - 5).toInt = ((p / 2 : Nat) : Int) - 5 := pk_sub_toInt (a := p / 2) (b := 5) (by omega) (by decide)
    have e0 : (0 : Int32).toInt = 0 := rfl
    by_cases hc : p / 2 < 5
    · rw [if_pos (Int32.lt_iff_toInt_lt.mpr (by rw [e, e0]; omega)), show p / 2 - 5 = 0 by omega]; rfl
    · rw [if_neg (fun z => by have := Int32.lt_iff_toInt_lt.mp z; rw [e, e0] at this; omega), show (5 : Int32) = nI 5 from rfl, pk_sub (by omega)]
theorem pU_w {P : PS} (hK : pK P) {l : Nat} (hl : l < P 3) : pU P l < 2 ^ P 2 := Nat.lt_of_le_of_lt Nat.and_le_left (hK l hl).2
theorem c_weight (sa : Nat → Nat) (d : Nat) {h : AH} {co : Nat} {S : ST} {c : Nat} {P : PS} (hE : cE h co S c P) (hB : pB P) (hK : pK P) {l : Nat} (hl : l < P 3) : AMC sa (d + 2) 16 [.ref (co + c), .int (nI l)] (mk h co S) = some (some (.int (nI (pW P l))), mk h co S) := by
  have hq := hE.1
  have hL := hB.2.1
  obtain ⟨a1, a2, a3, r, g⟩ := wE_get hE.2.1 hB
  obtain ⟨k1, k2, k3⟩ := hE.2.2.2.2.2.2.2.2 l hl
  have b4 := hB.2.2.2.1 l (by omega)
  have ho := oS_le hB (pU P l) (P 2) hB.1
  have h6 := hB.1
  have cw := fun b => c_weigh sa d (hK l hl).1 b4.1 (p := oS P (pU P l) (P 2)) (by omega) b (mk h co S)
  have e : pW P l = _ := pWB_wg P l (pU P l) (hK l hl).1 b4.1
  rw [fX2_weight, eX2_weight_0, qR0 hq, aOp_s, qL hq h co S (by decide) (by decide) (by omega), aOp_s, qR3 hq, aOp_s, (r S).2.1, aOp_s, qC hq, aOp_s, c_unsaid sa d hE hB hl, aRI_mk, aOp_s, (g S _ (pU_w hK hl)).1, aOp_s, qR2 hq, aOp_s, qL hq h co S (by decide) (by decide) (by omega), aOp_s, k1, k3, e]
  by_cases hz : P (14 + 4 * l) = 0
  · rw [if_pos (show nI (P (14 + 4 * l)) = 0 by rw [hz]; rfl), show (1 : Int32) = bv true from rfl, cw true, aRI_mk, aOp_s, decide_eq_true hz]
  · rw [if_neg (nI_ne0 (by omega) (by omega)), show AMC sa (d + 1) 17 [.int (nI (P (12 + 4 * l))), .int (nI (oS P (pU P l) (P 2))), .int 0] (mk h co S) = _ from cw false, aRI_mk, aOp_s, decide_eq_false hz]
theorem c_blurt (sa : Nat → Nat) (d : Nat) {h : AH} {co : Nat} {S : ST} {c : Nat} {P : PS} (hE : cE h co S c P) (hB : pB P) (hK : pK P) {l : Nat} (hl : l < P 3) : AMC sa (d + 3) 19 [.ref (co + c), .int (nI l)] (mk h co S) = some (some (.int (nI (pBl P l))), mk h co S) := by
  have hq := hE.1
  have hL := hB.2.1
  obtain ⟨a1, a2, a3, r, g⟩ := wE_get hE.2.1 hB
  obtain ⟨k1, k2, k3⟩ := hE.2.2.2.2.2.2.2.2 l hl
  have b4 := hB.2.2.2.1 l (by omega)
  have hk1 := (hK l hl).1
  have h1 : P 1 ≤ 60 := hB.2.2.2.2.2.1
  have h4 : P 4 ≤ 100000 := hB.2.2.2.2.2.2.1
  have hw : pW P l ≤ 108 := pWB_le hB l _
  have hu := pU_w hK hl
  rw [fX2_blurt, eX2_blurt_0, qC hq, aOp_s, c_weight sa d hE hB hK hl, aRI_mk, aOp_s, qI7 hq, aOp_s, hE.2.2.2.2.2.1]
  by_cases hc : pW P l ≤ P 1
  · rw [if_neg (nI_nlt hc (by omega)), show pBl P l = 0 from if_pos hc]; rfl
  · rw [if_pos (nI_lt (by omega) (by omega)), qC hq, aOp_s, c_unsaid sa (d + 1) hE hB hl, aRI_mk, aOp_s, qR0 hq, aOp_s, qL hq h co S (by decide) (by decide) (by omega), aOp_s, k1]
    have hv : P (12 + 4 * l) = 1 ∨ P (12 + 4 * l) = 2 ∨ P (12 + 4 * l) = 3 ∨ P (12 + 4 * l) = 4 ∨ P (12 + 4 * l) = 5 := by omega
    rcases hv with e | e | e | e | e
    · have hp : pBl P l = pOne P (pU P l) true := by unfold pBl; rw [if_neg hc, e]; rfl
      rw [hp, e, if_pos (show nI 1 = 1 from rfl), qR3 hq, aOp_s, (r S).2.2.1, aOp_s, (g S _ hu).2.1, aOp_s]
    · have hp : pBl P l = pOne P (pU P l) false := by unfold pBl; rw [if_neg hc, e]; rfl
      rw [hp, e, if_neg (by decide), if_pos (show nI 2 = 2 from rfl), qR3 hq, aOp_s, (r S).2.2.2, aOp_s, (g S _ hu).2.2, aOp_s]
    · have hp : pBl P l = if P 4 % 2 = 0 then pOne P (pU P l) true else 0 := by unfold pBl; rw [if_neg hc, e]; rfl
      have hr : nI (P 4) - nI (P 4) / 2 * 2 = nI (P 4 % 2) := pk_rem (a := P 4) (d := 2) (by omega) (by decide) (by decide)
      rw [hp, e, if_neg (by decide), if_neg (by decide), if_pos (show nI 3 = 3 from rfl), qI8 hq, aOp_s, hE.2.2.2.2.2.2.1, hr]
      by_cases hz : P 4 % 2 = 0
      · rw [if_pos (show nI (P 4 % 2) = 0 by rw [hz]; rfl), qR3 hq, aOp_s, (r S).2.2.1, aOp_s, (g S _ hu).2.1, aOp_s, if_pos hz]
      · rw [if_neg (nI_ne0 (by omega) (by omega)), if_neg hz]; rfl
    · have hp : pBl P l = 0 := by unfold pBl; rw [if_neg hc, e]; rfl
      rw [hp, e, if_neg (by decide), if_neg (by decide), if_neg (by decide), if_pos (show nI 4 = 4 from rfl)]; rfl
    · have hp : pBl P l = pU P l := by unfold pBl; rw [if_neg hc, e]; rfl
      rw [hp, e, if_neg (by decide), if_neg (by decide), if_neg (by decide), if_neg (by decide), if_pos (show nI 5 = 5 from rfl)]
theorem c_waits (sa : Nat → Nat) (d : Nat) {h : AH} {co : Nat} {S : ST} {c : Nat} {P : PS} (hE : cE h co S c P) (hB : pB P) {l : Nat} (hl : l < P 3) : AMC sa (d + 1) 13 [.ref (co + c), .int (nI l)] (mk h co S) = some (some (.int (bv (decide (P (15 + 4 * l) = 0)))), mk h co S) := by
  have hq := hE.1
  have hL := hB.2.1
  have hs := pSn_lt hB (P 3) hL
  have h7 := pow7 _ hL
  have hv := (hB.2.2.2.1 l (by omega)).2.2.2
  have tb := pSn_tb hB l (P 3) hL
  have nb := n_bit0 (pSn P (P 3)) (by omega) l (by omega)
  rw [fX2_waits, eX2_waits_0, qI5 hq, aOp_s, hE.2.2.2.1]
  by_cases hz : P (15 + 4 * l) = 0
  · rw [if_pos (nb.mpr (by rw [tb]; exact decide_eq_false (fun z => by omega))), decide_eq_true hz]; rfl
  · rw [if_neg (fun z => by rw [nb.mp z] at tb; exact absurd tb.symm (by rw [decide_eq_true ⟨hl, show P (15 + 4 * l) = 1 by omega⟩]; decide)), decide_eq_false hz]; rfl
