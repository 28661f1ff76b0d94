/-! ===== a day, letter by letter ===== -/
def ag (l : Nat) (P Q : PS) : Prop := P 2 = Q 2 ∧ (∀ k, k < 6 → P (6 + k) = Q (6 + k)) ∧ P (12 + 4 * l) = Q (12 + 4 * l) ∧ P (13 + 4 * l) = Q (13 + 4 * l) ∧ P (14 + 4 * l) = Q (14 + 4 * l)
theorem ag_trans {l : Nat} {P Q R : PS} (h1 : ag l P Q) (h2 : ag l Q R) : ag l P R := ⟨h1.1.trans h2.1, fun k hk => (h1.2.1 k hk).trans (h2.2.1 k hk), h1.2.2.1.trans h2.2.2.1, h1.2.2.2.1.trans h2.2.2.2.1, h1.2.2.2.2.trans h2.2.2.2.2⟩
theorem ag_up (P : PS) {j l : Nat} (x : Nat) (h2 : j < 2 ∨ (2 < j ∧ j < 6) ∨ (12 ≤ j ∧ j ≠ 12 + 4 * l ∧ j ≠ 13 + 4 * l ∧ j ≠ 14 + 4 * l)) : ag l (pUp P j x) P := ⟨pUp_ne P x (by omega), fun k hk => pUp_ne P x (by omega), pUp_ne P x (by omega), pUp_ne P x (by omega), pUp_ne P x (by omega)⟩
theorem oS_ag {P Q : PS} (h : ∀ k, k < 6 → P (6 + k) = Q (6 + k)) (s : Nat) : ∀ k, k ≤ 6 → oS P s k = oS Q s k
  | 0, _ => rfl
  | k + 1, hk => by
    simp only [oS]
    rw [oS_ag h s k (by omega), h k (by omega)]
theorem pBst_ag {P Q : PS} (h : ∀ k, k < 6 → P (6 + k) = Q (6 + k)) (s : Nat) (m : Bool) : ∀ k, k ≤ 6 → pBst P s m k = pBst Q s m k
  | 0, _ => rfl
  | k + 1, hk => by
    simp only [pBst]
    rw [pBst_ag h s m k (by omega)]
    cases e : pBst Q s m k with
    | none => rfl
    | some b =>
      have hb := pBst_lt Q s m k b e
      dsimp only
      rw [show pBe P m b k = pBe Q m b k by unfold pBe; rw [h k (by omega), h b (by omega)]]
theorem pOne_ag {P Q : PS} (h2 : P 2 = Q 2) (h6 : P 2 ≤ 6) (h : ∀ k, k < 6 → P (6 + k) = Q (6 + k)) (s : Nat) (m : Bool) : pOne P s m = pOne Q s m := by
  unfold pOne
  rw [pBst_ag h s m (P 2) h6, h2]
theorem pU_ag {l : Nat} {P Q : PS} (h : ag l P Q) : pU P l = pU Q l := by
  unfold pU
  rw [h.2.2.2.1, h.2.2.2.2]
theorem pWB_ag {l : Nat} {P Q : PS} (h : ag l P Q) (h6 : P 2 ≤ 6) (s : Nat) : pWB P l s = pWB Q l s := by
  unfold pWB
  rw [oS_ag h.2.1 s (P 2) h6, h.1, h.2.2.1, h.2.2.2.2]
theorem pW_ag {l : Nat} {P Q : PS} (h : ag l P Q) (h6 : P 2 ≤ 6) : pW P l = pW Q l := by
  unfold pW
  rw [pU_ag h, pWB_ag h h6]
theorem pBl_ag {l : Nat} {P Q : PS} (h : ag l P Q) (h6 : P 2 ≤ 6) (e1 : P 1 = Q 1) (e4 : P 4 = Q 4) : pBl P l = pBl Q l := by
  unfold pBl
  rw [pW_ag h h6, pU_ag h, pOne_ag h.1 h6 h.2.1, pOne_ag h.1 h6 h.2.1, e1, e4, h.2.2.1]
theorem pUp_cm (P : PS) {j k : Nat} (x y : Nat) (h : j ≠ k) : pUp (pUp P j x) k y = pUp (pUp P k y) j x := by
  funext i
  unfold pUp
  by_cases h1 : i = k
  · rw [if_pos h1, if_neg (by omega), if_pos h1]
  · rw [if_neg h1]
    by_cases h2 : i = j
    · rw [if_pos h2, if_pos h2]
    · rw [if_neg h2, if_neg h2, if_neg h1]
theorem pUp_pUp (P : PS) (j x y : Nat) : pUp (pUp P j x) j y = pUp P j y := by
  funext i
  unfold pUp
  by_cases h1 : i = j
  · rw [if_pos h1, if_pos h1]
  · rw [if_neg h1, if_neg h1, if_neg h1]
theorem p12 {Z : PS × Nat} {j k : Nat} (hjk : j < k) (h6 : Z.1 2 ≤ 6) : p2 (p1 Z.1 k, Z.2) j = (p1 (p2 Z j).1 k, (p2 Z j).2) := by
  have a1 : ag j (p1 Z.1 k) Z.1 := ag_up _ _ (by omega)
  have e15 : p1 Z.1 k (15 + 4 * j) = Z.1 (15 + 4 * j) := pUp_ne _ _ (by omega)
  have e5 : p1 Z.1 k 5 = Z.1 5 := pUp_ne _ _ (by omega)
  have h6' : p1 Z.1 k 2 ≤ 6 := by rw [a1.1]; exact h6
  have ew : pW (p1 Z.1 k) j = pW Z.1 j := pW_ag a1 h6'
  unfold p2
  dsimp only
  simp only [e15, ew, e5]
  by_cases hc : Z.1 (15 + 4 * j) = 0 ∧ pW Z.1 j ≤ Z.2
  · rw [if_pos hc, if_pos hc]
    refine Prod.ext ?_ rfl
    show pUp (pUp (p1 Z.1 k) (15 + 4 * j) 1) 5 (if Z.1 5 + pW Z.1 j ≤ 99999 then Z.1 5 + pW Z.1 j else 99999) = p1 (pUp (pUp Z.1 (15 + 4 * j) 1) 5 (if Z.1 5 + pW Z.1 j ≤ 99999 then Z.1 5 + pW Z.1 j else 99999)) k
    generalize (if Z.1 5 + pW Z.1 j ≤ 99999 then Z.1 5 + pW Z.1 j else 99999) = v
    have a2 : ag k (pUp (pUp Z.1 (15 + 4 * j) 1) 5 v) Z.1 := ag_trans (ag_up _ _ (by omega)) (ag_up _ _ (by omega))
    have f1 : pUp (pUp Z.1 (15 + 4 * j) 1) 5 v 1 = Z.1 1 := (pUp_ne _ _ (by omega)).trans (pUp_ne _ _ (by omega))
    have f4 : pUp (pUp Z.1 (15 + 4 * j) 1) 5 v 4 = Z.1 4 := (pUp_ne _ _ (by omega)).trans (pUp_ne _ _ (by omega))
    have f15 : pUp (pUp Z.1 (15 + 4 * j) 1) 5 v (15 + 4 * k) = Z.1 (15 + 4 * k) := (pUp_ne _ _ (by omega)).trans (pUp_ne _ _ (by omega))
    unfold p1
    rw [pBl_ag a2 (by rw [a2.1]; exact h6) f1 f4, a2.2.2.2.2, f15, pUp_cm Z.1 (j := 14 + 4 * k) (k := 15 + 4 * j) _ _ (by omega), pUp_cm _ (j := 14 + 4 * k) (k := 5) _ _ (by omega)]
  · rw [if_neg hc, if_neg hc]
theorem pPh2_2 (Z : PS × Nat) : ∀ j, (pPh2 Z j).1 2 = Z.1 2
  | 0 => rfl
  | j + 1 => (p2_ne (pPh2 Z j) j 2 (by decide) (by omega)).trans (pPh2_2 Z j)
theorem pPh1_2 (P : PS) : ∀ k, pPh1 P k 2 = P 2
  | 0 => rfl
  | k + 1 => (pUp_ne (pPh1 P k) (j := 14 + 4 * k) _ (by omega)).trans (pPh1_2 P k)
theorem p12s {Q : PS} {s k : Nat} (h6 : Q 2 ≤ 6) : ∀ j, j ≤ k → pPh2 (p1 Q k, s) j = (p1 (pPh2 (Q, s) j).1 k, (pPh2 (Q, s) j).2)
  | 0, _ => rfl
  | j + 1, hj => by
    show p2 (pPh2 (p1 Q k, s) j) j = (p1 (p2 (pPh2 (Q, s) j) j).1 k, (p2 (pPh2 (Q, s) j) j).2)
    rw [p12s h6 j (by omega), p12 (by omega) (by rw [pPh2_2]; exact h6)]
def pFz (Z : PS × Nat) : Nat → PS × Nat
  | 0 => Z
  | k + 1 => p2 (p1 (pFz Z k).1 k, (pFz Z k).2) k
theorem pFz_eq {P : PS} (h6 : P 2 ≤ 6) (s : Nat) : ∀ k, pFz (P, s) k = pPh2 (pPh1 P k, s) k
  | 0 => rfl
  | k + 1 => by
    show p2 (p1 (pFz (P, s) k).1 k, (pFz (P, s) k).2) k = p2 (pPh2 (p1 (pPh1 P k) k, s) k) k
    rw [pFz_eq h6 s k, p12s (by rw [pPh1_2]; exact h6) k (Nat.le_refl _)]
theorem pDay_fz {P : PS} (h6 : P 2 ≤ 6) : pDay P = pUp (pFz (P, P 0) (P 3)).1 4 (P 4 + 1) := by
  unfold pDay
  rw [pFz_eq h6]
theorem pFz_B {P : PS} (hB : pB P) {k : Nat} (hk : k ≤ 7) : pB (pFz (P, P 0) k).1 ∧ (pFz (P, P 0) k).2 ≤ P 0 ∧ ∀ j, j ≠ 5 → (∀ l, l < k → j ≠ 14 + 4 * l ∧ j ≠ 15 + 4 * l) → (pFz (P, P 0) k).1 j = P j := by
  rw [pFz_eq hB.1]
  obtain ⟨hA, hAn⟩ := pPh1_B hB k hk
  obtain ⟨h1, h2, h3⟩ := pPh2_B (Z := (pPh1 P k, P 0)) hA k hk
  exact ⟨h1, h2, fun j h5 hj => (h3 j h5 (fun l hl => (hj l hl).2)).trans (hAn j (fun l hl => (hj l hl).1))⟩
/-- no change at letter l -/
def qt (P : PS) (l : Nat) : Prop := P (15 + 4 * l) = 0 → pBl P l = 0 ∧ P 0 < pW P l
theorem p1_0 {P : PS} {l : Nat} (h : P (15 + 4 * l) = 1 ∨ pBl P l = 0) : p1 P l = P := by
  unfold p1
  rw [show (if P (15 + 4 * l) = 1 then 0 else pBl P l) = 0 from ?_, Nat.or_zero, pUp_self]
  rcases h with h | h
  · exact if_pos h
  · rw [h]; split <;> rfl
theorem p2_0 {Z : PS × Nat} {l : Nat} (h : Z.1 (15 + 4 * l) ≠ 0 ∨ Z.2 < pW Z.1 l) : p2 Z l = Z := if_neg (fun z => by
  rcases h with h | h
  · exact h z.1
  · have := z.2; omega)
theorem qt_st {P : PS} (hv : ∀ l, l < 7 → P (15 + 4 * l) ≤ 1) {l : Nat} (hl : l < 7) (hq : qt P l) : p2 (p1 P l, P 0) l = (P, P 0) := by
  have := hv l hl
  by_cases h0 : P (15 + 4 * l) = 0
  · obtain ⟨q1, q2⟩ := hq h0
    rw [p1_0 (Or.inr q1)]
    exact p2_0 (Or.inr q2)
  · rw [p1_0 (Or.inl (by omega))]
    exact p2_0 (Or.inl h0)
theorem qt_all {P : PS} (hv : ∀ l, l < 7 → P (15 + 4 * l) ≤ 1) : ∀ k, k ≤ 7 → (∀ l, l < k → qt P l) → pFz (P, P 0) k = (P, P 0)
  | 0, _, _ => rfl
  | k + 1, hk, hq => by
    show p2 (p1 (pFz (P, P 0) k).1 k, (pFz (P, P 0) k).2) k = _
    rw [qt_all hv k (by omega) (fun l hl => hq l (by omega))]
    exact qt_st hv (by omega) (hq k (by omega))
theorem qt_day {P : PS} (h6 : P 2 ≤ 6) (h7 : P 3 ≤ 7) (hv : ∀ l, l < 7 → P (15 + 4 * l) ≤ 1) (hq : ∀ l, l < P 3 → qt P l) : pDay P = pUp P 4 (P 4 + 1) := by
  rw [pDay_fz h6, qt_all hv (P 3) h7 hq]
theorem qt_up {P : PS} (h6 : P 2 ≤ 6) (he : P 4 % 2 = 0) {l : Nat} (hq : qt P l) (x : Nat) : qt (pUp P 4 x) l := by
  intro h0
  rw [pUp_ne _ _ (by omega)] at h0
  obtain ⟨q1, q2⟩ := hq h0
  have a1 : ag l (pUp P 4 x) P := ag_up _ _ (by omega)
  have ew : pW (pUp P 4 x) l = pW P l := pW_ag a1 (by rw [a1.1]; exact h6)
  have e1 : pUp P 4 x 1 = P 1 := pUp_ne _ _ (by decide)
  have e0 : pUp P 4 x 0 = P 0 := pUp_ne _ _ (by decide)
  have e12 : pUp P 4 x (12 + 4 * l) = P (12 + 4 * l) := pUp_ne _ _ (by omega)
  refine ⟨?_, by rw [e0, ew]; exact q2⟩
  unfold pBl at q1 ⊢
  rw [ew, e1, pU_ag a1, pOne_ag a1.1 (by rw [a1.1]; exact h6) a1.2.1, pOne_ag a1.1 (by rw [a1.1]; exact h6) a1.2.1, e12]
  by_cases hc : pW P l ≤ P 1
  · rw [if_pos hc]
  · rw [if_neg hc] at q1 ⊢
    split at q1
    · exact q1
    · exact q1
    · rw [if_pos he] at q1
      rw [q1]
      split <;> rfl
    · rfl
    · exact q1
theorem qt_days {P : PS} (h6 : P 2 ≤ 6) (h7 : P 3 ≤ 7) (hv : ∀ l, l < 7 → P (15 + 4 * l) ≤ 1) (hq : ∀ l, l < P 3 → qt P l) (he : P 4 % 2 = 0) : ∀ n, pDays P n = pUp P 4 (P 4 + n)
  | 0 => (pUp_self P 4).symm
  | n + 1 => by
    show pDay (pDays P n) = _
    rw [qt_days h6 h7 hv hq he n]
    have e2 : pUp P 4 (P 4 + n) 2 = P 2 := pUp_ne _ _ (by decide)
    have e3 : pUp P 4 (P 4 + n) 3 = P 3 := pUp_ne _ _ (by decide)
    rw [qt_day (by rw [e2]; exact h6) (by rw [e3]; exact h7) (fun l hl => by rw [pUp_ne _ _ (by omega)]; exact hv l hl) (fun l hl => qt_up h6 he (hq l (by rw [e3] at hl; exact hl)) _), pUp_at, pUp_pUp]
    rfl
theorem pDays_add (P : PS) (d : Nat) : ∀ m, pDays (pDays P d) m = pDays P (d + m)
  | 0 => rfl
  | m + 1 => by
    show pDay (pDays (pDays P d) m) = pDay (pDays P (d + m))
    rw [pDays_add P d m]
/-! ===== changes of a class's post ===== -/
theorem wE_ag {h : AH} {co w : Nat} {P Q : PS} (hw : wE h co w P) (e2 : P 2 = Q 2) (h6 : P 2 ≤ 6) (e : ∀ k, k < 6 → P (6 + k) = Q (6 + k)) : wE h co w Q := by
  obtain ⟨a1, a2, a3, f1, f2, f3, o0, o1, o2, o3, g0, g1, g2, g3, hf⟩ := hw
  refine ⟨a1, a2, a3, f1, f2, f3, o0, o1, o2, o3, by rw [← e2]; exact g0, g1, g2, g3, fun s hs => ?_⟩
  rw [← e2] at hs ⊢
  obtain ⟨k1, k2, k3⟩ := hf s hs
  exact ⟨by rw [k1, oS_ag e s (P 2) h6], by rw [k2, pOne_ag e2 h6 e], by rw [k3, pOne_ag e2 h6 e]⟩
theorem pSn_ag {P Q : PS} : ∀ k, (∀ l, l < k → P (15 + 4 * l) = Q (15 + 4 * l)) → pSn P k = pSn Q k
  | 0, _ => rfl
  | k + 1, h => by
    show pSn P k ||| _ = pSn Q k ||| _
    rw [pSn_ag k (fun l hl => h l (by omega)), h k (by omega)]
theorem cE_of {h : AH} {co : Nat} {S S' : ST} {c : Nat} {P Q : PS} (hE : cE h co S c P) (h6 : P 2 ≤ 6) (ew : S'.2.1 c = S.2.1 c) (e2 : P 2 = Q 2) (e3 : P 3 = Q 3) (e : ∀ k, k < 6 → P (6 + k) = Q (6 + k)) (e4 : S'.1 c 4 = S.1 c 4) (e5 : S'.1 c 5 = nI (pSn Q (Q 3))) (g6 : S'.1 c 6 = nI (Q 0)) (g7 : S'.1 c 7 = nI (Q 1)) (g8 : S'.1 c 8 = nI (Q 4)) (g9 : S'.1 c 9 = nI (Q 5)) (ea : ∀ l, l < P 3 → S'.2.2 (c + 1) l = nI (Q (12 + 4 * l)) ∧ S'.2.2 (c + 2) l = nI (Q (13 + 4 * l)) ∧ S'.2.2 (c + 3) l = nI (Q (14 + 4 * l))) : cE h co S' c Q :=
  ⟨hE.1, by rw [ew]; exact wE_ag hE.2.1 e2 h6 e, by rw [e4, ← e3]; exact hE.2.2.1, e5, g6, g7, g8, g9, fun l hl => ea l (by rw [e3]; exact hl)⟩
theorem cE_said {h : AH} {co : Nat} {S : ST} {c : Nat} {P : PS} (hE : cE h co S c P) (hB : pB P) (l x : Nat) : cE h co (sA S (c + 3) (upd (S.2.2 (c + 3)) l (nI x))) c (pUp P (14 + 4 * l) x) := by
  have h7 := hB.2.1
  obtain ⟨q, w, e4, e5, e6, e7, e8, e9, ea⟩ := hE
  refine cE_of (P := P) ⟨q, w, e4, e5, e6, e7, e8, e9, ea⟩ hB.1 rfl (pUp_ne _ _ (by omega)).symm (pUp_ne _ _ (by omega)).symm (fun k hk => (pUp_ne _ _ (by omega)).symm) rfl ?_ ?_ ?_ ?_ ?_ ?_
  · rw [pUp_ne _ _ (show 3 ≠ 14 + 4 * l by omega), pSn_ag (Q := P) _ (fun i _ => pUp_ne _ _ (by omega))]; exact e5
  · rw [pUp_ne _ _ (by omega)]; exact e6
  · rw [pUp_ne _ _ (by omega)]; exact e7
  · rw [pUp_ne _ _ (by omega)]; exact e8
  · rw [pUp_ne _ _ (by omega)]; exact e9
  · intro i hi
    obtain ⟨k1, k2, k3⟩ := ea i hi
    rw [sA_ne _ _ _ (by omega), sA_ne _ _ _ (by omega), sA_at, pUp_ne _ _ (show 12 + 4 * i ≠ 14 + 4 * l by omega), pUp_ne _ _ (show 13 + 4 * i ≠ 14 + 4 * l by omega)]
    refine ⟨k1, k2, ?_⟩
    by_cases hil : i = l
    · rw [hil, pk_us, pUp_at]
    · rw [pk_un hil, pUp_ne _ _ (by omega)]; exact k3
theorem cE_kind {h : AH} {co : Nat} {S : ST} {c : Nat} {P : PS} (hE : cE h co S c P) (hB : pB P) (l x : Nat) : cE h co (sA S (c + 1) (upd (S.2.2 (c + 1)) l (nI x))) c (pUp P (12 + 4 * l) x) := by
  have h7 := hB.2.1
  obtain ⟨q, w, e4, e5, e6, e7, e8, e9, ea⟩ := hE
  refine cE_of (P := P) ⟨q, w, e4, e5, e6, e7, e8, e9, ea⟩ hB.1 rfl (pUp_ne _ _ (by omega)).symm (pUp_ne _ _ (by omega)).symm (fun k hk => (pUp_ne _ _ (by omega)).symm) rfl ?_ ?_ ?_ ?_ ?_ ?_
  · rw [pUp_ne _ _ (show 3 ≠ 12 + 4 * l by omega), pSn_ag (Q := P) _ (fun i _ => pUp_ne _ _ (by omega))]; exact e5
  · rw [pUp_ne _ _ (by omega)]; exact e6
  · rw [pUp_ne _ _ (by omega)]; exact e7
  · rw [pUp_ne _ _ (by omega)]; exact e8
  · rw [pUp_ne _ _ (by omega)]; exact e9
  · intro i hi
    obtain ⟨k1, k2, k3⟩ := ea i hi
    rw [sA_at, sA_ne _ _ _ (by omega), sA_ne _ _ _ (by omega), pUp_ne _ _ (show 13 + 4 * i ≠ 12 + 4 * l by omega), pUp_ne _ _ (show 14 + 4 * i ≠ 12 + 4 * l by omega)]
    refine ⟨?_, k2, k3⟩
    by_cases hil : i = l
    · rw [hil, pk_us, pUp_at]
    · rw [pk_un hil, pUp_ne _ _ (by omega)]; exact k1
theorem cE_sent {h : AH} {co : Nat} {S : ST} {c : Nat} {P : PS} (hE : cE h co S c P) (hB : pB P) (l x : Nat) {s : Nat} (hs : s = pSn (pUp P (15 + 4 * l) x) (P 3)) : cE h co (sI S c 5 (nI s)) c (pUp P (15 + 4 * l) x) := by
  obtain ⟨q, w, e4, e5, e6, e7, e8, e9, ea⟩ := hE
  refine cE_of (P := P) ⟨q, w, e4, e5, e6, e7, e8, e9, ea⟩ hB.1 rfl (pUp_ne _ _ (by omega)).symm (pUp_ne _ _ (by omega)).symm (fun k hk => (pUp_ne _ _ (by omega)).symm) (sI_ne _ _ (by omega)) ?_ ?_ ?_ ?_ ?_ ?_
  · rw [sI_at, hs, pUp_ne _ _ (show 3 ≠ 15 + 4 * l by omega)]
  · rw [sI_ne _ _ (by omega), pUp_ne _ _ (by omega)]; exact e6
  · rw [sI_ne _ _ (by omega), pUp_ne _ _ (by omega)]; exact e7
  · rw [sI_ne _ _ (by omega), pUp_ne _ _ (by omega)]; exact e8
  · rw [sI_ne _ _ (by omega), pUp_ne _ _ (by omega)]; exact e9
  · intro i hi
    obtain ⟨k1, k2, k3⟩ := ea i hi
    rw [sI_A, pUp_ne _ _ (show 12 + 4 * i ≠ 15 + 4 * l by omega), pUp_ne _ _ (show 13 + 4 * i ≠ 15 + 4 * l by omega), pUp_ne _ _ (show 14 + 4 * i ≠ 15 + 4 * l by omega)]
    exact ⟨k1, k2, k3⟩
theorem cE_num {h : AH} {co : Nat} {S : ST} {c : Nat} {P : PS} (hE : cE h co S c P) (hB : pB P) {k j : Nat} (hkj : (k = 6 ∧ j = 0) ∨ (k = 7 ∧ j = 1) ∨ (k = 8 ∧ j = 4) ∨ (k = 9 ∧ j = 5)) (x : Nat) : cE h co (sI S c k (nI x)) c (pUp P j x) := by
  obtain ⟨q, w, e4, e5, e6, e7, e8, e9, ea⟩ := hE
  refine cE_of (P := P) ⟨q, w, e4, e5, e6, e7, e8, e9, ea⟩ hB.1 rfl (pUp_ne _ _ (by omega)).symm (pUp_ne _ _ (by omega)).symm (fun k hk => (pUp_ne _ _ (by omega)).symm) (sI_ne _ _ (by omega)) ?_ ?_ ?_ ?_ ?_ ?_
  · rw [sI_ne _ _ (by omega), pUp_ne _ _ (show 3 ≠ j by omega), pSn_ag (Q := P) _ (fun i _ => pUp_ne _ _ (by omega))]; exact e5
  · by_cases hk : k = 6
    · obtain rfl : j = 0 := by omega
      rw [hk, sI_at, pUp_at]
    · rw [sI_ne _ _ (by omega), pUp_ne _ _ (by omega)]; exact e6
  · by_cases hk : k = 7
    · obtain rfl : j = 1 := by omega
      rw [hk, sI_at, pUp_at]
    · rw [sI_ne _ _ (by omega), pUp_ne _ _ (by omega)]; exact e7
  · by_cases hk : k = 8
    · obtain rfl : j = 4 := by omega
      rw [hk, sI_at, pUp_at]
    · rw [sI_ne _ _ (by omega), pUp_ne _ _ (by omega)]; exact e8
  · by_cases hk : k = 9
    · obtain rfl : j = 5 := by omega
      rw [hk, sI_at, pUp_at]
    · rw [sI_ne _ _ (by omega), pUp_ne _ _ (by omega)]; exact e9
  · intro i hi
    obtain ⟨k1, k2, k3⟩ := ea i hi
    rw [sI_A, pUp_ne _ _ (show 12 + 4 * i ≠ j by omega), pUp_ne _ _ (show 13 + 4 * i ≠ j by omega), pUp_ne _ _ (show 14 + 4 * i ≠ j by omega)]
    exact ⟨k1, k2, k3⟩
theorem pSn_on {P : PS} (hB : pB P) {l : Nat} (hl : l < P 3) : pSn (pUp P (15 + 4 * l) 1) (P 3) = pSn P (P 3) ||| 2 ^ l := by
  have h7 := hB.2.1
  refine Nat.eq_of_testBit_eq (fun i => ?_)
  rw [pSn_tb (pB_sent hB l (by decide)) i _ h7, Nat.testBit_or, pSn_tb hB i _ h7, Nat.testBit_two_pow]
  by_cases hil : i = l
  · rw [hil, pUp_at, decide_eq_true ⟨hl, rfl⟩, decide_eq_true (show l = l from rfl), Bool.or_true]
  · rw [pUp_ne _ _ (by omega), decide_eq_false (show ¬ l = i by omega), Bool.or_false]
theorem pSn_off {P : PS} (hB : pB P) {l : Nat} (hl : l < P 3) : pSn (pUp P (15 + 4 * l) 0) (P 3) = pSn P (P 3) &&& (127 ^^^ 2 ^ l) := by
  have h7 := hB.2.1
  refine Nat.eq_of_testBit_eq (fun i => ?_)
  rw [pSn_tb (pB_sent hB l (by decide)) i _ h7, Nat.testBit_and, pSn_tb hB i _ h7, Nat.testBit_xor, Nat.testBit_two_pow, show 127 = 2 ^ 7 - 1 from rfl, Nat.testBit_two_pow_sub_one]
  by_cases hil : i = l
  · rw [hil, pUp_at, decide_eq_true (show l = l from rfl), decide_eq_true (show l < 7 by omega)]
    rw [decide_eq_false (fun z => by cases z.2)]
    simp
  · rw [pUp_ne _ _ (by omega), decide_eq_false (show ¬ l = i by omega), Bool.xor_false]
    by_cases hi : i < P 3
    · rw [decide_eq_true (show i < 7 by omega), Bool.and_true]
    · rw [decide_eq_false (fun z => hi z.1), Bool.false_and]
