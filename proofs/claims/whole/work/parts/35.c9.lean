/-! ===== what is paid stays below its cap; a draw from another sum paid ===== -/
def cw (P : PS) : Nat → Nat
  | 0 => 0
  | k + 1 => cw P k + (if P (15 + 4 * k) = 0 then 1 else 0)
theorem cw_ag {P Q : PS} : ∀ k, (∀ l, l < k → P (15 + 4 * l) = Q (15 + 4 * l)) → cw P k = cw Q k
  | 0, _ => rfl
  | k + 1, h => by
    show cw P k + _ = cw Q k + _
    rw [cw_ag k (fun l hl => h l (by omega)), h k (by omega)]
theorem cw_le (P : PS) : ∀ k, cw P k ≤ k
  | 0 => Nat.le_refl _
  | k + 1 => by
    have := cw_le P k
    show cw P k + (if P (15 + 4 * k) = 0 then 1 else 0) ≤ k + 1
    split <;> omega
theorem cw_on {P : PS} {l : Nat} (h0 : P (15 + 4 * l) = 0) : ∀ k, l < k → cw (pUp P (15 + 4 * l) 1) k + 1 = cw P k
  | 0, h => by omega
  | k + 1, h => by
    show cw (pUp P (15 + 4 * l) 1) k + (if pUp P (15 + 4 * l) 1 (15 + 4 * k) = 0 then 1 else 0) + 1 = cw P k + (if P (15 + 4 * k) = 0 then 1 else 0)
    by_cases e : l = k
    · rw [← e, pUp_at, if_neg (by decide), if_pos h0, cw_ag (P := pUp P (15 + 4 * l) 1) (Q := P) l (fun i hi => pUp_ne _ _ (by omega))]
    · have := cw_on h0 k (by omega)
      rw [pUp_ne _ _ (show 15 + 4 * k ≠ 15 + 4 * l by omega)]
      omega
theorem cw_off (P : PS) (l : Nat) : ∀ k, cw (pUp P (15 + 4 * l) 0) k ≤ cw P k + 1
  | 0 => by show 0 ≤ _; omega
  | k + 1 => by
    have ih := cw_off P l k
    show cw (pUp P (15 + 4 * l) 0) k + (if pUp P (15 + 4 * l) 0 (15 + 4 * k) = 0 then 1 else 0) ≤ cw P k + (if P (15 + 4 * k) = 0 then 1 else 0) + 1
    by_cases e : l = k
    · rw [← e, pUp_at, if_pos rfl, cw_ag (P := pUp P (15 + 4 * l) 0) (Q := P) l (fun i hi => pUp_ne _ _ (by omega))]
      omega
    · rw [pUp_ne _ _ (show 15 + 4 * k ≠ 15 + 4 * l by omega)]
      omega
def pay (N : Nat) (P : PS) : Prop := P 5 + 108 * cw P 7 ≤ 756 + 108 * N
theorem pay_up {N : Nat} {P : PS} (h : pay N P) {j : Nat} (x : Nat) (h5 : j ≠ 5) (hj : ∀ l, l < 7 → j ≠ 15 + 4 * l) : pay N (pUp P j x) := by
  unfold pay
  rw [pUp_ne _ _ (fun z => h5 z.symm), cw_ag (P := pUp P j x) (Q := P) 7 (fun l hl => pUp_ne _ _ (fun z => hj l hl z.symm))]
  exact h
theorem pay_mono {N M : Nat} {P : PS} (h : pay N P) (hm : N ≤ M) : pay M P := by
  unfold pay at h ⊢
  omega
theorem pay_off {N : Nat} {P : PS} (h : pay N P) (l : Nat) : pay (N + 1) (pUp P (15 + 4 * l) 0) := by
  unfold pay at h ⊢
  have := cw_off P l 7
  rw [pUp_ne _ _ (show 5 ≠ 15 + 4 * l by omega)]
  omega
theorem pay_p2 {N : Nat} {Z : PS × Nat} (hB : pB Z.1) (h : pay N Z.1) {l : Nat} (hl : l < 7) : pay N (p2 Z l).1 := by
  unfold p2
  split
  · rename_i hc
    have hw : pW Z.1 l ≤ 108 := pWB_le hB l _
    have e := cw_on hc.1 7 hl
    unfold pay at h ⊢
    show pUp (pUp Z.1 (15 + 4 * l) 1) 5 (if Z.1 5 + pW Z.1 l ≤ 99999 then Z.1 5 + pW Z.1 l else 99999) 5 + 108 * cw (pUp (pUp Z.1 (15 + 4 * l) 1) 5 (if Z.1 5 + pW Z.1 l ≤ 99999 then Z.1 5 + pW Z.1 l else 99999)) 7 ≤ _
    rw [pUp_at, cw_ag (P := pUp (pUp Z.1 (15 + 4 * l) 1) 5 _) (Q := pUp Z.1 (15 + 4 * l) 1) 7 (fun i _ => pUp_ne _ _ (by omega))]
    split <;> omega
  · exact h
theorem pay_fz {N : Nat} {P : PS} (hB : pB P) (h : pay N P) : ∀ k, k ≤ 7 → pay N (pFz (P, P 0) k).1
  | 0, _ => h
  | k + 1, hk => by
    obtain ⟨zB, -, -⟩ := pFz_B hB (k := k) (by omega)
    exact pay_p2 (Z := (p1 (pFz (P, P 0) k).1 k, (pFz (P, P 0) k).2)) (pB_p1 zB (by omega)) (pay_up (pay_fz hB h k (by omega)) _ (by omega) (fun l _ => by omega)) (by omega)
theorem pay_day {N : Nat} {P : PS} (hB : pB P) (h : pay N P) : pay N (pDay P) := by
  rw [pDay_fz hB.1]
  exact pay_up (pay_fz hB h (P 3) hB.2.1) _ (by omega) (fun l _ => by omega)
/-- the same but for what was paid before -/
def r5 (e : Nat) (P Q : PS) : Prop := ∃ y, Q = pUp P 5 y ∧ P 5 = y + e
theorem r5_up {e : Nat} {P Q : PS} (h : r5 e P Q) {j : Nat} (hj : j ≠ 5) (x : Nat) : r5 e (pUp P j x) (pUp Q j x) := by
  obtain ⟨y, rfl, h2⟩ := h
  exact ⟨y, pUp_cm P y x (fun z => hj z.symm), by rw [pUp_ne _ _ (fun z => hj z.symm)]; exact h2⟩
theorem r5_ne {e : Nat} {P Q : PS} (h : r5 e P Q) {j : Nat} (hj : j ≠ 5) : Q j = P j := by
  obtain ⟨y, rfl, -⟩ := h
  exact pUp_ne _ _ hj
theorem r5_ag {e : Nat} {P Q : PS} (h : r5 e P Q) (l : Nat) : ag l Q P := by
  obtain ⟨y, rfl, -⟩ := h
  exact ag_up P y (by omega)
theorem r5_p1 {e : Nat} {P Q : PS} (h : r5 e P Q) (h6 : P 2 ≤ 6) (l : Nat) : r5 e (p1 P l) (p1 Q l) := by
  have a := r5_ag h l
  have eb : pBl Q l = pBl P l := pBl_ag a (by rw [a.1]; exact h6) (r5_ne h (by decide)) (r5_ne h (by decide))
  unfold p1
  rw [eb, r5_ne h (show 14 + 4 * l ≠ 5 by omega), r5_ne h (show 15 + 4 * l ≠ 5 by omega)]
  exact r5_up h (by omega) _
theorem r5_p2 {e N : Nat} {P Q : PS} (h : r5 e P Q) (hB : pB P) (hp : pay N P) (hN : 756 + 108 * N ≤ 99999) (t : Nat) {l : Nat} (hl : l < 7) : r5 e (p2 (P, t) l).1 (p2 (Q, t) l).1 ∧ (p2 (Q, t) l).2 = (p2 (P, t) l).2 := by
  have a := r5_ag h l
  have ew : pW Q l = pW P l := pW_ag a (by rw [a.1]; exact hB.1)
  have e15 : Q (15 + 4 * l) = P (15 + 4 * l) := r5_ne h (by omega)
  obtain ⟨y, hy, h5⟩ := h
  have hw : pW P l ≤ 108 := pWB_le hB l _
  unfold p2
  dsimp only
  rw [ew]
  by_cases hc : P (15 + 4 * l) = 0 ∧ pW P l ≤ t
  · have ec := cw_on hc.1 7 hl
    unfold pay at hp
    have y5 : Q 5 = y := by rw [hy, pUp_at]
    have hcQ : Q (15 + 4 * l) = 0 ∧ pW P l ≤ t := by rw [e15]; exact hc
    rw [if_pos hc, if_pos hcQ]
    refine ⟨⟨y + pW P l, ?_, ?_⟩, rfl⟩
    · show pUp (pUp Q (15 + 4 * l) 1) 5 (if Q 5 + pW P l ≤ 99999 then Q 5 + pW P l else 99999) = pUp (pUp (pUp P (15 + 4 * l) 1) 5 _) 5 (y + pW P l)
      rw [pUp_pUp, y5, if_pos (by omega), hy, pUp_cm P (j := 5) (k := 15 + 4 * l) _ _ (by omega), pUp_pUp]
    · show pUp (pUp P (15 + 4 * l) 1) 5 (if P 5 + pW P l ≤ 99999 then P 5 + pW P l else 99999) 5 = _
      rw [pUp_at, if_pos (by omega)]
      omega
  · have hcQ : ¬ (Q (15 + 4 * l) = 0 ∧ pW P l ≤ t) := by rw [e15]; exact hc
    rw [if_neg hc, if_neg hcQ]
    exact ⟨⟨y, hy, h5⟩, rfl⟩
theorem r5_fz {e N : Nat} {P Q : PS} (h : r5 e P Q) (hB : pB P) (hp : pay N P) (hN : 756 + 108 * N ≤ 99999) : ∀ k, k ≤ 7 → r5 e (pFz (P, P 0) k).1 (pFz (Q, P 0) k).1 ∧ (pFz (Q, P 0) k).2 = (pFz (P, P 0) k).2
  | 0, _ => ⟨h, rfl⟩
  | k + 1, hk => by
    obtain ⟨i1, i2⟩ := r5_fz h hB hp hN k (by omega)
    obtain ⟨zB, -, -⟩ := pFz_B hB (k := k) (by omega)
    have zp := pay_fz hB hp k (by omega)
    show r5 e (p2 (p1 (pFz (P, P 0) k).1 k, (pFz (P, P 0) k).2) k).1 (p2 (p1 (pFz (Q, P 0) k).1 k, (pFz (Q, P 0) k).2) k).1 ∧ (p2 (p1 (pFz (Q, P 0) k).1 k, (pFz (Q, P 0) k).2) k).2 = (p2 (p1 (pFz (P, P 0) k).1 k, (pFz (P, P 0) k).2) k).2
    rw [i2]
    exact r5_p2 (r5_p1 i1 zB.1 k) (pB_p1 zB (by omega)) (pay_up zp _ (by omega) (fun l _ => by omega)) hN _ (by omega)
theorem r5_day {e N : Nat} {P Q : PS} (h : r5 e P Q) (hB : pB P) (hp : pay N P) (hN : 756 + 108 * N ≤ 99999) : r5 e (pDay P) (pDay Q) := by
  have q2 : Q 2 = P 2 := r5_ne h (by decide)
  rw [pDay_fz hB.1, pDay_fz (P := Q) (by rw [q2]; exact hB.1), r5_ne h (show 0 ≠ 5 by decide), r5_ne h (show 3 ≠ 5 by decide), r5_ne h (show 4 ≠ 5 by decide)]
  exact r5_up (r5_fz h hB hp hN (P 3) hB.2.1).1 (by decide) _
theorem r5_dwJ {e : Nat} {P Q : PS} (h : r5 e P Q) (x j : Nat) : r5 e (dwJ P x j) (dwJ Q x j) := by
  unfold dwJ
  split
  · split
    · exact r5_up (r5_up h (by omega) _) (by omega) _
    · exact r5_up h (by omega) _
  · exact h
theorem pay_dwJ {N : Nat} {P : PS} (h : pay N P) (x j : Nat) : pay (N + 1) (dwJ P x j) := by
  unfold dwJ
  split
  · split
    · exact pay_up (pay_off h j) _ (by omega) (fun l _ => by omega)
    · exact pay_off h j
  · exact pay_mono h (by omega)
theorem r5_dwN {e N : Nat} {P Q : PS} (h : r5 e P Q) (hB : pB P) (hp : pay N P) {s : Nat} (hs : s < 2147483647) : ∀ k, 756 + 108 * (N + k) ≤ 99999 → P 4 + k ≤ 100000 → r5 e (dwN P s k).1 (dwN Q s k).1 ∧ (dwN Q s k).2 = (dwN P s k).2 ∧ pay (N + k) (dwN P s k).1
  | 0, _, _ => ⟨h, rfl, hp⟩
  | k + 1, hN, h4 => by
    obtain ⟨i1, i2, i3⟩ := r5_dwN h hB hp hs k (by omega) (by omega)
    obtain ⟨q1, q2, q3, q4⟩ := dwN_B hB hs k (by omega)
    have a1 : pB (pUp (dwN P s k).1 0 (lc (dwN P s k).2 % 30)) := pB_strap q1 (by omega)
    have a2 : pay (N + k + 1) (dwJ (pUp (dwN P s k).1 0 (lc (dwN P s k).2 % 30)) (lc (dwN P s k).2) (lc (dwN P s k).2 % (dwN P s k).1 3)) := pay_dwJ (pay_up i3 _ (by omega) (fun l _ => by omega)) _ _
    refine ⟨?_, ?_, ?_⟩
    · show r5 e (dw (dwN P s k).1 (lc (dwN P s k).2)) (dw (dwN Q s k).1 (lc (dwN Q s k).2))
      unfold dw
      rw [i2, r5_ne i1 (show 3 ≠ 5 by decide)]
      exact r5_day (r5_dwJ (r5_up i1 (by decide) _) _ _) (pB_dwJ a1 _ _) a2 (by omega)
    · show lc (dwN Q s k).2 = lc (dwN P s k).2
      rw [i2]
    · exact pay_day (pB_dwJ a1 _ _) a2
/-! ===== the class: kinds, asked ===== -/
def sT (sa : Nat → Nat) (h : AH) (co : Nat) : Prop := ∀ k, k < 3 → oK h co (sa k) ∧ ∃ f, h.2.2 (sa k) = some (.inr (.inl (2, 6, f))) ∧ ∀ j, j < 6 → f j = aTab k j
theorem sT_len {sa : Nat → Nat} {h : AH} {co : Nat} (hs : sT sa h co) {k : Nat} (hk : k < 3) (S : ST) : aLen (mk h co S) (sa k) = some (nI 6) := by
  obtain ⟨o, f, e, -⟩ := hs k hk
  unfold aLen
  rw [mk_out h co S _ o.1, e]
  rfl
theorem sT_get {sa : Nat → Nat} {h : AH} {co : Nat} (hs : sT sa h co) {k : Nat} (hk : k < 3) (S : ST) {j : Nat} (hj : j < 6) : aIL (mk h co S) (sa k) (nI j) = some (aTab k j) := by
  obtain ⟨o, f, e, hf⟩ := hs k hk
  unfold aIL
  rw [mk_out h co S _ o.1, e]
  refine (if_pos ⟨aIn_nI hj (show (6 : Nat) < 2 ^ 31 by decide), show (2 : Nat) ≠ 1 by decide⟩).trans ?_
  rw [nI_clamp (by omega)]
  exact congrArg some (hf j hj)
theorem c_isA (sa : Nat → Nat) (d : Nat) {h : AH} {co : Nat} (S : ST) (hs : sT sa h co) {a k : Nat} (h1 : 1 ≤ a) (h5 : a ≤ 5) (hk : k < 6) : AMC sa (d + 1) 5 [.int (nI a), .int (nI k)] (mk h co S) = some (some (.int (bv (kIs a k))), mk h co S) := by
  have st : ∀ (x0 : Int32) (b s : Nat), b < 6 → s < 6 → AMV sa d 5 4 [.int x0, .int (nI k), .int (nI b), .int (nI s)] [] (mk h co S) = if b = k then some (some (.int 1), mk h co S) else AMV sa d 5 4 [.int x0, .int (nI k), .int (aTab 0 b), .int (nI (s + 1))] [] (mk h co S) := by
    intro x0 b s hb hs6
    rw [eX1_isA_4, sT_len hs (by decide), aOp_s, if_neg (nI_ge hs6 (by decide)), if_neg (nI_pos (by omega)), aOp_s, if_neg (nI_ge hb (by decide)), sT_get hs (by decide) S hb, aOp_s, nI_1]
    by_cases e : b = k
    · rw [if_pos (by rw [e]), if_pos e]
    · rw [if_neg (fun z => e ((nI_eq (by omega) (by omega)).mp z)), if_neg e]
  have en : ∀ (x0 : Int32) (s : Nat), s < 6 → AMV sa d 5 4 [.int x0, .int (nI k), .int (-1), .int (nI s)] [] (mk h co S) = some (some (.int 0), mk h co S) := by
    intro x0 s hs6
    rw [eX1_isA_4, sT_len hs (by decide), aOp_s, if_neg (nI_ge hs6 (by decide)), if_pos (by decide)]
  have t0 : aTab 0 0 = -1 := rfl
  have t1 : aTab 0 1 = nI 0 := rfl
  have t2 : aTab 0 2 = nI 1 := rfl
  have t3 : aTab 0 3 = nI 1 := rfl
  have t4 : aTab 0 4 = nI 0 := rfl
  have t5 : aTab 0 5 = nI 4 := rfl
  rw [fX1_isA, eX1_isA_0, show (0 : Int32) = nI 0 from rfl]
  have ha : a = 1 ∨ a = 2 ∨ a = 3 ∨ a = 4 ∨ a = 5 := by omega
  have hk' : k = 0 ∨ k = 1 ∨ k = 2 ∨ k = 3 ∨ k = 4 ∨ k = 5 := by omega
  rcases ha with rfl | rfl | rfl | rfl | rfl
  · rw [st _ 1 0 (by decide) (by decide), t1, st _ 0 1 (by decide) (by decide), t0, en _ 2 (by decide)]
    rcases hk' with rfl | rfl | rfl | rfl | rfl | rfl <;> rfl
  · rw [st _ 2 0 (by decide) (by decide), t2, st _ 1 1 (by decide) (by decide), t1, st _ 0 2 (by decide) (by decide), t0, en _ 3 (by decide)]
    rcases hk' with rfl | rfl | rfl | rfl | rfl | rfl <;> rfl
  · rw [st _ 3 0 (by decide) (by decide), t3, st _ 1 1 (by decide) (by decide), t1, st _ 0 2 (by decide) (by decide), t0, en _ 3 (by decide)]
    rcases hk' with rfl | rfl | rfl | rfl | rfl | rfl <;> rfl
  · rw [st _ 4 0 (by decide) (by decide), t4, st _ 0 1 (by decide) (by decide), t0, en _ 2 (by decide)]
    rcases hk' with rfl | rfl | rfl | rfl | rfl | rfl <;> rfl
  · rw [st _ 5 0 (by decide) (by decide), t5, st _ 4 1 (by decide) (by decide), t4, st _ 0 2 (by decide) (by decide), t0, en _ 3 (by decide)]
    rcases hk' with rfl | rfl | rfl | rfl | rfl | rfl <;> rfl
def lv (S : ST) (n b : Nat) : ST := sI (sA S 39 (upd (S.2.2 39) n (nI b))) 38 1 (nI (n + 1))
def lvL (S : ST) (n : Nat) : List Nat → ST
  | [] => S
  | b :: r => lvL (lv S n b) (n + 1) r
theorem lvL_app (S : ST) (n : Nat) (L M : List Nat) : lvL S n (L ++ M) = lvL (lvL S n L) (n + L.length) M := by
  induction L generalizing S n with
  | nil => rfl
  | cons b r ih =>
    show lvL (lv S n b) (n + 1) (r ++ M) = lvL (lvL (lv S n b) (n + 1) r) (n + (r.length + 1)) M
    rw [ih, show n + 1 + r.length = n + (r.length + 1) by omega]
theorem lvL_1 {S : ST} {n : Nat} (h : S.1 38 1 = nI n) (L : List Nat) : (lvL S n L).1 38 1 = nI (n + L.length) := by
  induction L generalizing S n with
  | nil => exact h
  | cons b r ih =>
    show (lvL (lv S n b) (n + 1) r).1 38 1 = nI (n + (r.length + 1))
    have e := ih (S := lv S n b) (n := n + 1) (sI_at _ _ _ _)
    rw [e, show n + 1 + r.length = n + (r.length + 1) by omega]
theorem lvL_fr (S : ST) (n : Nat) (L : List Nat) : fr 38 40 S (lvL S n L) := by
  induction L generalizing S n with
  | nil => exact fr_refl _ _ _
  | cons b r ih => exact fr_trans (fr_I (fr_A (fr_refl _ _ _) (by decide) (by decide) _) (by decide) (by decide) _ _) (ih (lv S n b) (n + 1))
theorem lvL_at (S : ST) (n : Nat) (L : List Nat) : ∀ j, (lvL S n L).2.2 39 j = if n ≤ j ∧ j < n + L.length then nI (L.getD (j - n) 0) else S.2.2 39 j := by
  induction L generalizing S n with
  | nil => intro j; rw [if_neg (by show ¬ (n ≤ j ∧ j < n + 0); omega)]; rfl
  | cons b r ih =>
    intro j
    show (lvL (lv S n b) (n + 1) r).2.2 39 j = if n ≤ j ∧ j < n + (r.length + 1) then nI ((b :: r).getD (j - n) 0) else S.2.2 39 j
    rw [ih]
    have e : (lv S n b).2.2 39 = upd (S.2.2 39) n (nI b) := by
      show (if 39 = 39 then upd (S.2.2 39) n (nI b) else S.2.2 39) = _
      rw [if_pos rfl]
    rw [e]
    by_cases h1 : j = n
    · rw [if_neg (by omega), if_pos (by omega), h1, pk_us, Nat.sub_self]; rfl
    · rw [pk_un h1]
      by_cases h2 : n ≤ j ∧ j < n + (r.length + 1)
      · rw [if_pos (by omega), if_pos h2, show j - n = (j - (n + 1)) + 1 by omega]; rfl
      · rw [if_neg (by omega), if_neg h2]
theorem c_leave (sa : Nat → Nat) (d : Nat) (h : AH) (co : Nat) {S : ST} {n : Nat} (hn : S.1 38 1 = nI n) (h16 : n < 16) (b : Nat) : AMC sa (d + 1) 8 [.ref (co + 38), .int (nI b)] (mk h co S) = some (none, mk h co (lvL S n [b])) := by
  rw [fX1_leave, eX1_leave_0, gI_38_1, aOp_s, hn, if_neg (show ¬ (16 : Int32) ≤ nI n from nI_ge (b := 16) h16 (by decide)), gR_38_0, aOp_s, aOp_s, gS_39 _ _ _ _ _ (aIn_nI h16 (by decide)), aOp_s, nI_clamp (by omega), gI_38_1, aOp_s, sA_I, hn, nI_1, gP_38_1, aOp_s]
  rfl
theorem cE_lv {h : AH} {co : Nat} {S : ST} {P : PS} (hE : cE h co S 17 P) (n : Nat) (L : List Nat) : cE h co (lvL S n L) 17 P := cE_fr hE (lvL_fr S n L) (by decide)
theorem c_g10 (sa : Nat → Nat) (d : Nat) {h : AH} {co : Nat} {S : ST} {P : PS} (hE : cE h co S 17 P) (hB : pB P) {l n dp : Nat} (hl : l < P 3) (hn : S.1 38 1 = nI n) (h16 : n ≤ 15) (hd : dp ≤ 16) : AMC sa (d + 2) 7 [.ref (co + 38), .int 10, .ref (co + 17), .int (nI l), .int (nI dp)] (mk h co S) = some (some (.int (nI (pC (P (13 + 4 * l))))), mk h co (lvL S n [10])) := by
  have h7 := hB.2.1
  have b4 := hB.2.2.2.1 l (by omega)
  have hE1 := cE_lv hE n [10]
  rw [fX1_give, eX1_give_0, if_pos (show nI dp ≤ 16 from nI_le (b := 16) (by omega) (by decide)), gC_38, aOp_s, show AMC sa (d + 1) 8 [.ref (co + 38), .int 10] (mk h co S) = _ from c_leave sa (d + 0) h co hn (by omega) 10, aRV_mk, aOp_s, gR_17_0, aOp_s, show aIL (mk h co (lvL S n [10])) (co + 18) (nI l) = some ((lvL S n [10]).2.2 18 l) from qL (c := 17) hE.1 h co _ (j := 1) (by decide) (by decide) (by omega), aOp_s, if_pos rfl, gR_17_1, aOp_s, show aIL (mk h co (lvL S n [10])) (co + 19) (nI l) = some ((lvL S n [10]).2.2 19 l) from qL (c := 17) hE.1 h co _ (j := 2) (by decide) (by decide) (by omega), aOp_s, show (lvL S n [10]).2.2 19 l = nI (P (13 + 4 * l)) from (hE1.2.2.2.2.2.2.2.2 l hl).2.1, c_bits sa d (by omega), aRI_mk, aOp_s]
theorem c_g20 (sa : Nat → Nat) (d : Nat) {h : AH} {co : Nat} {S : ST} {P : PS} (hE : cE h co S 17 P) (hB : pB P) {l n dp : Nat} (hl : l < P 3) (hn : S.1 38 1 = nI n) (h16 : n ≤ 15) (hd : dp ≤ 16) : AMC sa (d + 2) 7 [.ref (co + 38), .int 20, .ref (co + 17), .int (nI l), .int (nI dp)] (mk h co S) = some (some (.int (nI l)), mk h co (lvL S n [20])) := by
  have h7 := hB.2.1
  rw [fX1_give, eX1_give_0, if_pos (show nI dp ≤ 16 from nI_le (b := 16) (by omega) (by decide)), gC_38, aOp_s, show AMC sa (d + 1) 8 [.ref (co + 38), .int 20] (mk h co S) = _ from c_leave sa (d + 0) h co hn (by omega) 20, aRV_mk, aOp_s, gR_17_0, aOp_s, show aIL (mk h co (lvL S n [20])) (co + 18) (nI l) = some ((lvL S n [20]).2.2 18 l) from qL (c := 17) hE.1 h co _ (j := 1) (by decide) (by decide) (by omega), aOp_s, if_neg (by decide), if_neg (by decide), if_neg (by decide), if_neg (by decide), if_neg (by decide), if_neg (by decide), if_neg (by decide), if_neg (by decide), if_neg (by decide), if_neg (by decide), if_pos rfl]
theorem c_g21 (sa : Nat → Nat) (d : Nat) {h : AH} {co : Nat} {S : ST} {P : PS} (hE : cE h co S 17 P) (hB : pB P) {l n dp : Nat} (hl : l < P 3) (hn : S.1 38 1 = nI n) (h16 : n ≤ 14) (hd : dp ≤ 15) : AMC sa (d + 3) 7 [.ref (co + 38), .int 21, .ref (co + 17), .int (nI l), .int (nI dp)] (mk h co S) = some (some (.int (nI l + nI (pC (P (14 + 4 * l))))), mk h co (lvL S n ([21, 20]))) := by
  have h7 := hB.2.1
  have b4 := hB.2.2.2.1 l (by omega)
  have g := c_g20 sa d (cE_lv hE n [21]) hB (l := l) (n := n + 1) (dp := dp + 1) hl (lvL_1 hn [21]) (by omega) (by omega)
  rw [show lvL (lvL S n [21]) (n + 1) [20] = lvL S n [21, 20] from (lvL_app S n [21] [20]).symm] at g
  rw [fX1_give, eX1_give_0, if_pos (show nI dp ≤ 16 from nI_le (b := 16) (by omega) (by decide)), gC_38, aOp_s, show AMC sa (d + 2) 8 [.ref (co + 38), .int 21] (mk h co S) = _ from c_leave sa (d + 1) h co hn (by omega) 21, aRV_mk, aOp_s, gR_17_0, aOp_s, show aIL (mk h co (lvL S n [21])) (co + 18) (nI l) = some ((lvL S n [21]).2.2 18 l) from qL (c := 17) hE.1 h co _ (j := 1) (by decide) (by decide) (by omega), aOp_s, if_neg (by decide), if_neg (by decide), if_neg (by decide), if_neg (by decide), if_neg (by decide), if_neg (by decide), if_neg (by decide), if_neg (by decide), if_neg (by decide), if_neg (by decide), if_neg (by decide), if_pos rfl, gC_38, aOp_s, nI_1, g, aRI_mk, aOp_s, gR_17_2, aOp_s, show aIL (mk h co (lvL S n [21, 20])) (co + 20) (nI l) = some ((lvL S n [21, 20]).2.2 20 l) from qL (c := 17) hE.1 h co _ (j := 3) (by decide) (by decide) (by omega), aOp_s, show (lvL S n [21, 20]).2.2 20 l = nI (P (14 + 4 * l)) from ((cE_lv hE n [21, 20]).2.2.2.2.2.2.2.2 l hl).2.2, c_bits sa (d + 1) (by omega), aRI_mk, aOp_s]
theorem c_g22 (sa : Nat → Nat) (d : Nat) {h : AH} {co : Nat} {S : ST} {P : PS} (hE : cE h co S 17 P) (hB : pB P) {l n dp : Nat} (hl : l < P 3) (hn : S.1 38 1 = nI n) (h16 : n ≤ 13) (hd : dp ≤ 14) : AMC sa (d + 4) 7 [.ref (co + 38), .int 22, .ref (co + 17), .int (nI l), .int (nI dp)] (mk h co S) = some (some (.int ((nI l + nI (pC (P (14 + 4 * l)))) - 1000)), mk h co (lvL S n ([22, 21, 20]))) := by
  have h7 := hB.2.1
  have b4 := hB.2.2.2.1 l (by omega)
  have g := c_g21 sa d (cE_lv hE n [22]) hB (l := l) (n := n + 1) (dp := dp + 1) hl (lvL_1 hn [22]) (by omega) (by omega)
  rw [show lvL (lvL S n [22]) (n + 1) [21, 20] = lvL S n [22, 21, 20] from (lvL_app S n [22] [21, 20]).symm] at g
  rw [fX1_give, eX1_give_0, if_pos (show nI dp ≤ 16 from nI_le (b := 16) (by omega) (by decide)), gC_38, aOp_s, show AMC sa (d + 3) 8 [.ref (co + 38), .int 22] (mk h co S) = _ from c_leave sa (d + 2) h co hn (by omega) 22, aRV_mk, aOp_s, gR_17_0, aOp_s, show aIL (mk h co (lvL S n [22])) (co + 18) (nI l) = some ((lvL S n [22]).2.2 18 l) from qL (c := 17) hE.1 h co _ (j := 1) (by decide) (by decide) (by omega), aOp_s, if_neg (by decide), if_neg (by decide), if_neg (by decide), if_neg (by decide), if_neg (by decide), if_neg (by decide), if_neg (by decide), if_neg (by decide), if_neg (by decide), if_neg (by decide), if_neg (by decide), if_neg (by decide), if_pos rfl, gC_38, aOp_s, nI_1, g, aRI_mk, aOp_s]
theorem c_g24 (sa : Nat → Nat) (d : Nat) {h : AH} {co : Nat} {S : ST} {P : PS} (hE : cE h co S 17 P) (hB : pB P) {l n dp : Nat} (hl : l < P 3) (hn : S.1 38 1 = nI n) (h16 : n ≤ 13) (hd : dp ≤ 14) : AMC sa (d + 4) 7 [.ref (co + 38), .int 24, .ref (co + 17), .int (nI l), .int (nI dp)] (mk h co S) = some (some (.int (2 * (nI l + nI (pC (P (14 + 4 * l)))))), mk h co (lvL S n ([24, 21, 20]))) := by
  have h7 := hB.2.1
  have b4 := hB.2.2.2.1 l (by omega)
  have g := c_g21 sa d (cE_lv hE n [24]) hB (l := l) (n := n + 1) (dp := dp + 1) hl (lvL_1 hn [24]) (by omega) (by omega)
  rw [show lvL (lvL S n [24]) (n + 1) [21, 20] = lvL S n [24, 21, 20] from (lvL_app S n [24] [21, 20]).symm] at g
  rw [fX1_give, eX1_give_0, if_pos (show nI dp ≤ 16 from nI_le (b := 16) (by omega) (by decide)), gC_38, aOp_s, show AMC sa (d + 3) 8 [.ref (co + 38), .int 24] (mk h co S) = _ from c_leave sa (d + 2) h co hn (by omega) 24, aRV_mk, aOp_s, gR_17_0, aOp_s, show aIL (mk h co (lvL S n [24])) (co + 18) (nI l) = some ((lvL S n [24]).2.2 18 l) from qL (c := 17) hE.1 h co _ (j := 1) (by decide) (by decide) (by omega), aOp_s, if_neg (by decide), if_neg (by decide), if_neg (by decide), if_neg (by decide), if_neg (by decide), if_neg (by decide), if_neg (by decide), if_neg (by decide), if_neg (by decide), if_neg (by decide), if_neg (by decide), if_neg (by decide), if_neg (by decide), if_neg (by decide), if_pos rfl, gC_38, aOp_s, nI_1, g, aRI_mk, aOp_s]
theorem c_g13 (sa : Nat → Nat) (d : Nat) {h : AH} {co : Nat} {S : ST} {P : PS} (hE : cE h co S 17 P) (hB : pB P) {l n dp : Nat} (hl : l < P 3) (hn : S.1 38 1 = nI n) (h16 : n ≤ 14) (hd : dp ≤ 15) : AMC sa (d + 3) 7 [.ref (co + 38), .int 13, .ref (co + 17), .int (nI l), .int (nI dp)] (mk h co S) = some (some (.int (nI (pC (P (13 + 4 * l))) - 100)), mk h co (lvL S n ([13, 10]))) := by
  have h7 := hB.2.1
  have b4 := hB.2.2.2.1 l (by omega)
  have g := c_g10 sa d (cE_lv hE n [13]) hB (l := l) (n := n + 1) (dp := dp + 1) hl (lvL_1 hn [13]) (by omega) (by omega)
  rw [show lvL (lvL S n [13]) (n + 1) [10] = lvL S n [13, 10] from (lvL_app S n [13] [10]).symm] at g
  rw [fX1_give, eX1_give_0, if_pos (show nI dp ≤ 16 from nI_le (b := 16) (by omega) (by decide)), gC_38, aOp_s, show AMC sa (d + 2) 8 [.ref (co + 38), .int 13] (mk h co S) = _ from c_leave sa (d + 1) h co hn (by omega) 13, aRV_mk, aOp_s, gR_17_0, aOp_s, show aIL (mk h co (lvL S n [13])) (co + 18) (nI l) = some ((lvL S n [13]).2.2 18 l) from qL (c := 17) hE.1 h co _ (j := 1) (by decide) (by decide) (by omega), aOp_s, if_neg (by decide), if_neg (by decide), if_neg (by decide), if_pos rfl, gC_38, aOp_s, nI_1, g, aRI_mk, aOp_s]
theorem c_g14 (sa : Nat → Nat) (d : Nat) {h : AH} {co : Nat} {S : ST} {P : PS} (hE : cE h co S 17 P) (hB : pB P) {l n dp : Nat} (hl : l < P 3) (hn : S.1 38 1 = nI n) (h16 : n ≤ 13) (hd : dp ≤ 14) : AMC sa (d + 4) 7 [.ref (co + 38), .int 14, .ref (co + 17), .int (nI l), .int (nI dp)] (mk h co S) = some (some (.int (2 * (nI (pC (P (13 + 4 * l))) - 100))), mk h co (lvL S n ([14, 13, 10]))) := by
  have h7 := hB.2.1
  have b4 := hB.2.2.2.1 l (by omega)
  have g := c_g13 sa d (cE_lv hE n [14]) hB (l := l) (n := n + 1) (dp := dp + 1) hl (lvL_1 hn [14]) (by omega) (by omega)
  rw [show lvL (lvL S n [14]) (n + 1) [13, 10] = lvL S n [14, 13, 10] from (lvL_app S n [14] [13, 10]).symm] at g
  rw [fX1_give, eX1_give_0, if_pos (show nI dp ≤ 16 from nI_le (b := 16) (by omega) (by decide)), gC_38, aOp_s, show AMC sa (d + 3) 8 [.ref (co + 38), .int 14] (mk h co S) = _ from c_leave sa (d + 2) h co hn (by omega) 14, aRV_mk, aOp_s, gR_17_0, aOp_s, show aIL (mk h co (lvL S n [14])) (co + 18) (nI l) = some ((lvL S n [14]).2.2 18 l) from qL (c := 17) hE.1 h co _ (j := 1) (by decide) (by decide) (by omega), aOp_s, if_neg (by decide), if_neg (by decide), if_neg (by decide), if_neg (by decide), if_pos rfl, gC_38, aOp_s, nI_1, g, aRI_mk, aOp_s]
/-- marks of letters that are plain -/
theorem c_pm (sa : Nat → Nat) (d : Nat) {h : AH} {co : Nat} {S : ST} {P : PS} (hE : cE h co S 17 P) (hB : pB P) {l n dp k : Nat} (hl : l < P 3) (hn : S.1 38 1 = nI n) (h16 : n ≤ 13) (hd : dp ≤ 14) (hk : k = 1 ∨ k = 2 ∨ k = 3) : AMC sa (d + 4) 7 [.ref (co + 38), .int (aTab 2 k), .ref (co + 17), .int (nI l), .int (nI dp)] (mk h co S) = some (some (.int (pmV P l k)), mk h co (lvL S n (pmL k))) := by
  rcases hk with rfl | rfl | rfl
  · exact c_g21 sa (d + 1) hE hB hl hn (by omega) (by omega)
  · exact c_g24 sa d hE hB hl hn (by omega) (by omega)
  · exact c_g22 sa d hE hB hl hn (by omega) (by omega)
theorem c_cs (sa : Nat → Nat) (d : Nat) {h : AH} {co : Nat} {S : ST} {P : PS} (hE : cE h co S 17 P) (hB : pB P) {l n dp k : Nat} (hl : l < P 3) (hn : S.1 38 1 = nI n) (h16 : n ≤ 13) (hd : dp ≤ 14) (hk : k = 4 ∨ k = 5) : AMC sa (d + 4) 7 [.ref (co + 38), .int (aTab 1 k), .ref (co + 17), .int (nI l), .int (nI dp)] (mk h co S) = some (some (.int (csV P l k)), mk h co (lvL S n (csL k))) := by
  rcases hk with rfl | rfl
  · exact c_g13 sa (d + 1) hE hB hl hn (by omega) (by omega)
  · exact c_g14 sa d hE hB hl hn (by omega) (by omega)
theorem c_g11 (sa : Nat → Nat) (d : Nat) {h : AH} {co : Nat} {S : ST} {P : PS} (hs : sT sa h co) (hE : cE h co S 17 P) (hB : pB P) {l n dp k : Nat} (hl : l < P 3) (hn : S.1 38 1 = nI n) (h16 : n ≤ 11) (hd : dp ≤ 13) (hk : k = 1 ∨ k = 2 ∨ k = 3) (ek : P (12 + 4 * l) = k) : AMC sa (d + 5) 7 [.ref (co + 38), .int 11, .ref (co + 17), .int (nI l), .int (nI dp)] (mk h co S) = some (some (.int (nI (pC (P (13 + 4 * l))) + pmV P l k)), mk h co (lvL S n ([11, 10] ++ pmL k))) := by
  have h7 := hB.2.1
  have g := c_g10 sa (d + 2) (cE_lv hE n [11]) hB (l := l) (n := n + 1) (dp := dp + 1) hl (lvL_1 hn [11]) (by omega) (by omega)
  rw [show lvL (lvL S n [11]) (n + 1) [10] = lvL S n [11, 10] from (lvL_app S n [11] [10]).symm] at g
  have g2 := c_pm sa d (cE_lv hE n [11, 10]) hB (l := l) (n := n + 2) (dp := dp + 1) (k := k) hl (lvL_1 hn [11, 10]) (by omega) (by omega) hk
  rw [show lvL (lvL S n [11, 10]) (n + 2) (pmL k) = lvL S n ([11, 10] ++ pmL k) from (lvL_app S n [11, 10] (pmL k)).symm] at g2
  have kv : (lvL S n [11]).2.2 18 l = nI k := by rw [← ek]; exact ((cE_lv hE n [11]).2.2.2.2.2.2.2.2 l hl).1
  rw [fX1_give, eX1_give_0, if_pos (show nI dp ≤ 16 from nI_le (b := 16) (by omega) (by decide)), gC_38, aOp_s, show AMC sa (d + 4) 8 [.ref (co + 38), .int 11] (mk h co S) = _ from c_leave sa (d + 3) h co hn (by omega) 11, aRV_mk, aOp_s, gR_17_0, aOp_s, show aIL (mk h co (lvL S n [11])) (co + 18) (nI l) = some ((lvL S n [11]).2.2 18 l) from qL (c := 17) hE.1 h co _ (j := 1) (by decide) (by decide) (by omega), aOp_s, if_neg (by decide), if_pos rfl, gC_38, aOp_s, nI_1, g, aRI_mk, aOp_s, kv, sT_get hs (by decide) _ (show k < 6 by omega), aOp_s, gC_38, aOp_s, g2, aRI_mk, aOp_s]
theorem c_g12 (sa : Nat → Nat) (d : Nat) {h : AH} {co : Nat} {S : ST} {P : PS} (hs : sT sa h co) (hE : cE h co S 17 P) (hB : pB P) {l n dp : Nat} (hl : l < P 3) (hn : S.1 38 1 = nI n) (h16 : n ≤ 10) (hd : dp ≤ 12) (ek : P (12 + 4 * l) = 2) : AMC sa (d + 6) 7 [.ref (co + 38), .int 12, .ref (co + 17), .int (nI l), .int (nI dp)] (mk h co S) = some (some (.int (0 - (nI (pC (P (13 + 4 * l))) + pmV P l 2))), mk h co (lvL S n ([12] ++ ([11, 10] ++ pmL 2)))) := by
  have h7 := hB.2.1
  have g := c_g11 sa d hs (cE_lv hE n [12]) hB (l := l) (n := n + 1) (dp := dp + 1) (k := 2) hl (lvL_1 hn [12]) (by omega) (by omega) (by omega) ek
  rw [show lvL (lvL S n [12]) (n + 1) ([11, 10] ++ pmL 2) = lvL S n ([12] ++ ([11, 10] ++ pmL 2)) from (lvL_app S n [12] _).symm] at g
  rw [fX1_give, eX1_give_0, if_pos (show nI dp ≤ 16 from nI_le (b := 16) (by omega) (by decide)), gC_38, aOp_s, show AMC sa (d + 5) 8 [.ref (co + 38), .int 12] (mk h co S) = _ from c_leave sa (d + 4) h co hn (by omega) 12, aRV_mk, aOp_s, gR_17_0, aOp_s, show aIL (mk h co (lvL S n [12])) (co + 18) (nI l) = some ((lvL S n [12]).2.2 18 l) from qL (c := 17) hE.1 h co _ (j := 1) (by decide) (by decide) (by omega), aOp_s, if_neg (by decide), if_neg (by decide), if_pos rfl, gC_38, aOp_s, nI_1, g, aRI_mk, aOp_s]
theorem c_g23 (sa : Nat → Nat) (d : Nat) {h : AH} {co : Nat} {S : ST} {P : PS} (hs : sT sa h co) (hE : cE h co S 17 P) (hB : pB P) {l n dp k : Nat} (hl : l < P 3) (hn : S.1 38 1 = nI n) (h16 : n ≤ 11) (hd : dp ≤ 13) (hk : k = 4 ∨ k = 5) (ek : P (12 + 4 * l) = k) : AMC sa (d + 5) 7 [.ref (co + 38), .int 23, .ref (co + 17), .int (nI l), .int (nI dp)] (mk h co S) = some (some (.int (nI l - csV P l k)), mk h co (lvL S n ([23, 20] ++ csL k))) := by
  have h7 := hB.2.1
  have g := c_g20 sa (d + 2) (cE_lv hE n [23]) hB (l := l) (n := n + 1) (dp := dp + 1) hl (lvL_1 hn [23]) (by omega) (by omega)
  rw [show lvL (lvL S n [23]) (n + 1) [20] = lvL S n [23, 20] from (lvL_app S n [23] [20]).symm] at g
  have g2 := c_cs sa d (cE_lv hE n [23, 20]) hB (l := l) (n := n + 2) (dp := dp + 1) (k := k) hl (lvL_1 hn [23, 20]) (by omega) (by omega) hk
  rw [show lvL (lvL S n [23, 20]) (n + 2) (csL k) = lvL S n ([23, 20] ++ csL k) from (lvL_app S n [23, 20] (csL k)).symm] at g2
  have kv : (lvL S n [23]).2.2 18 l = nI k := by rw [← ek]; exact ((cE_lv hE n [23]).2.2.2.2.2.2.2.2 l hl).1
  rw [fX1_give, eX1_give_0, if_pos (show nI dp ≤ 16 from nI_le (b := 16) (by omega) (by decide)), gC_38, aOp_s, show AMC sa (d + 4) 8 [.ref (co + 38), .int 23] (mk h co S) = _ from c_leave sa (d + 3) h co hn (by omega) 23, aRV_mk, aOp_s, gR_17_0, aOp_s, show aIL (mk h co (lvL S n [23])) (co + 18) (nI l) = some ((lvL S n [23]).2.2 18 l) from qL (c := 17) hE.1 h co _ (j := 1) (by decide) (by decide) (by omega), aOp_s, if_neg (by decide), if_neg (by decide), if_neg (by decide), if_neg (by decide), if_neg (by decide), if_neg (by decide), if_neg (by decide), if_neg (by decide), if_neg (by decide), if_neg (by decide), if_neg (by decide), if_neg (by decide), if_neg (by decide), if_pos rfl, gC_38, aOp_s, nI_1, g, aRI_mk, aOp_s, kv, sT_get hs (by decide) _ (show k < 6 by omega), aOp_s, gC_38, aOp_s, g2, aRI_mk, aOp_s]
theorem i0_sub (x : Int32) : 0 - x = -x := by
  rw [Int32.sub_eq_add_neg, Int32.zero_add]
theorem c_answer (sa : Nat → Nat) (d : Nat) {h : AH} {co : Nat} {S : ST} {P : PS} (hs : sT sa h co) (hE : cE h co S 17 P) (hB : pB P) (hK : pK P) {l w : Nat} (hl : l < P 3) (hw : w < 2) : AMC sa (d + 7) 6 [.ref (co + 38), .ref (co + 17), .int (nI l), .int (nI w)] (mk h co S) = some (some (.int (akV P l (P (12 + 4 * l)) w)), mk h co (lvL (sI S 38 1 0) 0 (akL (P (12 + 4 * l)) w))) := by
  have h7 := hB.2.1
  have b4 := hB.2.2.2.1 l (by omega)
  have k1 := (hK l hl).1
  have hE1 : cE h co (sI S 38 1 0) 17 P := cE_fr hE (fr_I (fr_refl 38 40 _) (by decide) (by decide) _ _) (by decide)
  have hn : (sI S 38 1 0).1 38 1 = nI 0 := sI_at _ _ _ _
  have kv : (sI S 38 1 0).2.2 18 l = nI (P (12 + 4 * l)) := (hE1.2.2.2.2.2.2.2.2 l hl).1
  rw [fX1_answer, eX1_answer_0, gP_38_1, aOp_s, gR_17_0, aOp_s, show aIL (mk h co (sI S 38 1 0)) (co + 18) (nI l) = some ((sI S 38 1 0).2.2 18 l) from qL (c := 17) hE.1 h co _ (j := 1) (by decide) (by decide) (by omega), aOp_s, kv]
  have hw' : w = 0 ∨ w = 1 := by omega
  have hv : P (12 + 4 * l) = 1 ∨ P (12 + 4 * l) = 2 ∨ P (12 + 4 * l) = 3 ∨ P (12 + 4 * l) = 4 ∨ P (12 + 4 * l) = 5 := by omega
  rcases hw' with rfl | rfl
  · rw [if_pos (show nI 0 = 0 from rfl), sT_get hs (by decide) _ (show P (12 + 4 * l) < 6 by omega), aOp_s, eX1_answer_33, gC_38, aOp_s]
    rcases hv with e | e | e | e | e
    · rw [e, show AMC sa (d + 6) 7 [.ref (co + 38), .int (aTab 1 1), .ref (co + 17), .int (nI l), .int 0] (mk h co (sI S 38 1 0)) = _ from c_g11 sa (d + 1) hs hE1 hB (dp := 0) hl hn (by decide) (by decide) (Or.inl rfl) e, aRI_mk, aOp_s]; rfl
    · rw [e, show AMC sa (d + 6) 7 [.ref (co + 38), .int (aTab 1 2), .ref (co + 17), .int (nI l), .int 0] (mk h co (sI S 38 1 0)) = _ from c_g12 sa d hs hE1 hB (dp := 0) hl hn (by decide) (by decide) e, aRI_mk, aOp_s, i0_sub]; rfl
    · rw [e, show AMC sa (d + 6) 7 [.ref (co + 38), .int (aTab 1 3), .ref (co + 17), .int (nI l), .int 0] (mk h co (sI S 38 1 0)) = _ from c_g11 sa (d + 1) hs hE1 hB (dp := 0) hl hn (by decide) (by decide) (Or.inr (Or.inr rfl)) e, aRI_mk, aOp_s]; rfl
    · rw [e, show AMC sa (d + 6) 7 [.ref (co + 38), .int (aTab 1 4), .ref (co + 17), .int (nI l), .int 0] (mk h co (sI S 38 1 0)) = _ from c_cs sa (d + 2) hE1 hB (dp := 0) hl hn (by decide) (by decide) (Or.inl rfl), aRI_mk, aOp_s]; rfl
    · rw [e, show AMC sa (d + 6) 7 [.ref (co + 38), .int (aTab 1 5), .ref (co + 17), .int (nI l), .int 0] (mk h co (sI S 38 1 0)) = _ from c_cs sa (d + 2) hE1 hB (dp := 0) hl hn (by decide) (by decide) (Or.inr rfl), aRI_mk, aOp_s]; rfl
  · rw [if_neg (by decide), sT_get hs (by decide) _ (show P (12 + 4 * l) < 6 by omega), aOp_s, eX1_answer_33, gC_38, aOp_s]
    rcases hv with e | e | e | e | e
    · rw [e, show AMC sa (d + 6) 7 [.ref (co + 38), .int (aTab 2 1), .ref (co + 17), .int (nI l), .int 0] (mk h co (sI S 38 1 0)) = _ from c_pm sa (d + 2) hE1 hB (dp := 0) hl hn (by decide) (by decide) (Or.inl rfl), aRI_mk, aOp_s]; rfl
    · rw [e, show AMC sa (d + 6) 7 [.ref (co + 38), .int (aTab 2 2), .ref (co + 17), .int (nI l), .int 0] (mk h co (sI S 38 1 0)) = _ from c_pm sa (d + 2) hE1 hB (dp := 0) hl hn (by decide) (by decide) (Or.inr (Or.inl rfl)), aRI_mk, aOp_s]; rfl
    · rw [e, show AMC sa (d + 6) 7 [.ref (co + 38), .int (aTab 2 3), .ref (co + 17), .int (nI l), .int 0] (mk h co (sI S 38 1 0)) = _ from c_pm sa (d + 2) hE1 hB (dp := 0) hl hn (by decide) (by decide) (Or.inr (Or.inr rfl)), aRI_mk, aOp_s]; rfl
    · rw [e, show AMC sa (d + 6) 7 [.ref (co + 38), .int (aTab 2 4), .ref (co + 17), .int (nI l), .int 0] (mk h co (sI S 38 1 0)) = _ from c_g23 sa (d + 1) hs hE1 hB (dp := 0) hl hn (by decide) (by decide) (Or.inl rfl) e, aRI_mk, aOp_s]; rfl
    · rw [e, show AMC sa (d + 6) 7 [.ref (co + 38), .int (aTab 2 5), .ref (co + 17), .int (nI l), .int 0] (mk h co (sI S 38 1 0)) = _ from c_g23 sa (d + 1) hs hE1 hB (dp := 0) hl hn (by decide) (by decide) (Or.inr rfl) e, aRI_mk, aOp_s]; rfl
