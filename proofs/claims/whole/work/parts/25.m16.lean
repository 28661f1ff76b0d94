/-! ===== the reference's reading: letters, the whole tape ===== -/
def zPt (T : Nat → Nat) (n set : Nat) (Z : ZS) : Nat × ZS :=
  let A := zTk T n (decide (tkT T n Z.2.1 = 3)) 1 Z
  zNu T n 0 63 (cond (decide (tkT T n A.2.1 = 2) && !(decide (nv T n A.2.1 &&& (127 ^^^ set) = 0))) (zTk T n false 2 A) A)
theorem m_part (sa : Nat → Nat) (d : Nat) (h : AH) (co : Nat) {S : ST} {T : Nat → Nat} {n : Nat} {fk : Int32} {Z : ZS} (hZ : rZ S T n fk Z) {set : Nat} (hs : set < 128) : ∃ S', AMC sa (d + 5) 130 [.ref (co + 40), .int (nI set)] (mk h co S) = some (some (.int (nI (zPt T n set Z).1)), mk h co S') ∧ rZ S' T n fk (zPt T n set Z).2 ∧ fP S S' := by
  obtain ⟨b, b1, b2, b3⟩ := tokB hZ (c := 3) (by decide) 1
  obtain ⟨S1, g1, g2, g3⟩ := m_takes sa (d + 1) h co hZ b (k := 1) (by decide) (by decide) (fun q1 q2 => by rw [b3 q1 q2]; decide)
  rw [b2] at g2
  have eP : zPt T n set Z = zNu T n 0 63 (cond (decide (tkT T n (zTk T n (decide (tkT T n Z.2.1 = 3)) 1 Z).2.1 = 2) && !(decide (nv T n (zTk T n (decide (tkT T n Z.2.1 = 3)) 1 Z).2.1 &&& (127 ^^^ set) = 0))) (zTk T n false 2 (zTk T n (decide (tkT T n Z.2.1 = 3)) 1 Z)) (zTk T n (decide (tkT T n Z.2.1 = 3)) 1 Z)) := rfl
  generalize zTk T n (decide (tkT T n Z.2.1 = 3)) 1 Z = A at *
  -- from 62 on
  have e62 : ∀ {S : ST} {B : ZS} (x2 : Int32), rZ S T n fk B → ∃ S', AMV sa (d + 4) 130 62 [.ref (co + 40), .int (nI set), .int x2] [] (mk h co S) = some (some (.int (nI (zNu T n 0 63 B).1)), mk h co S') ∧ rZ S' T n fk (zNu T n 0 63 B).2 ∧ fP S S' := by
    intro S B x2 hB
    obtain ⟨S', k1, k2, k3⟩ := m_figure sa d h co hB (lo := 0) (hi := 63) (by decide) (by decide)
    refine ⟨S', ?_, k2, k3⟩
    rw [eX8_part_62, gC_40, aOp_s, show AMC sa (d + 4) 126 [.ref (co + 40), .int 0, .int 63] (mk h co S) = _ from k1, aRI_mk, aOp_s]
  have e43 : ∀ (s0 : Bool), (A.1 = 0 → s0 = !(decide (tkT T n A.2.1 = 2) && !(decide (nv T n A.2.1 &&& (127 ^^^ set) = 0)))) → ∃ S', AMV sa (d + 4) 130 43 [.ref (co + 40), .int (nI set), .null] [.int (bv s0)] (mk h co S1) = some (some (.int (nI (zPt T n set Z).1)), mk h co S') ∧ rZ S' T n fk (zPt T n set Z).2 ∧ fP S1 S' := by
    intro s0 hs0
    rw [eP, eX8_part_43, gC_40, aOp_s, m_isWell sa (d + 3) h co g2, aRI_mk, aOp_s]
    by_cases h0 : A.1 = 0
    · rw [decide_eq_true h0, if_neg bvn]
      have hs1 := hs0 h0
      cases s0 with
      | true =>
        have e : (decide (tkT T n A.2.1 = 2) && !(decide (nv T n A.2.1 &&& (127 ^^^ set) = 0))) = false := by
          cases hh : (decide (tkT T n A.2.1 = 2) && !(decide (nv T n A.2.1 &&& (127 ^^^ set) = 0))) with
          | false => rfl
          | true => rw [hh] at hs1; cases hs1
        rw [e, if_neg bvn]
        exact e62 _ g2
      | false =>
        have e : (decide (tkT T n A.2.1 = 2) && !(decide (nv T n A.2.1 &&& (127 ^^^ set) = 0))) = true := by
          cases hh : (decide (tkT T n A.2.1 = 2) && !(decide (nv T n A.2.1 &&& (127 ^^^ set) = 0))) with
          | true => rfl
          | false => rw [hh] at hs1; cases hs1
        obtain ⟨S2, k1, k2, k3⟩ := m_takes sa (d + 1) h co g2 false (k := 2) (by decide) (by decide) (fun _ q => by cases q)
        obtain ⟨S', k4, k5, k6⟩ := e62 (bv false) k2
        refine ⟨S', ?_, ?_, fP_trans k3 k6⟩
        · rw [e, if_pos bvf, gC_40, aOp_s, show AMC sa (d + 4) 125 [.ref (co + 40), .int 0, .int 2] (mk h co S1) = _ from k1, aRI_mk, aOp_s]
          exact k4
        · rw [e]; exact k5
    · rw [decide_eq_false h0, if_pos bvf]
      have ez : ∀ c : Bool, cond c (zTk T n false 2 A) A = A := by
        intro c
        cases c with
        | false => rfl
        | true => show zTk T n false 2 A = A; unfold zTk; rw [if_neg h0]
      rw [ez]
      exact e62 _ g2
  have e14 : ∃ S', AMV sa (d + 4) 130 14 [.ref (co + 40), .int (nI set), .null] [.int (bv b), .ref (co + 40)] (mk h co S) = some (some (.int (nI (zPt T n set Z).1)), mk h co S') ∧ rZ S' T n fk (zPt T n set Z).2 ∧ fP S1 S' := by
    rw [eX8_part_14, gC_40, aOp_s, show AMC sa (d + 4) 125 [.ref (co + 40), .int (bv b), .int 1] (mk h co S) = _ from g1, aRI_mk, aOp_s, gI_40_11, aOp_s]
    obtain ⟨c, c1, -, c3⟩ := tokB g2 (c := 2) (by decide) 1
    by_cases h2 : S1.1 40 11 = 2
    · have hct : c = true := c1.mp h2
      rw [if_pos h2, gI_40_12, aOp_s]
      by_cases h0 : A.1 = 0
      · have ht2 := c3 h0 hct
        obtain ⟨t1, t2, t3, t4⟩ := tk2 ht2
        have e12 : S1.1 40 12 = nI (nv T n A.2.1) := ((g2.2.2.2.2.1 h0).2.2.2.2.2.1).trans t3
        rw [e12, n_andn7 _ (by omega) _ hs]
        have hle : (nv T n A.2.1 &&& (127 ^^^ set)) ≤ nv T n A.2.1 := Nat.and_le_left
        by_cases hz : nv T n A.2.1 &&& (127 ^^^ set) = 0
        · rw [if_pos (show nI (nv T n A.2.1 &&& (127 ^^^ set)) = 0 by rw [hz]; rfl)]
          exact e43 true (fun _ => by rw [decide_eq_true hz, decide_eq_true ht2]; rfl)
        · rw [if_neg (nI_ne0 (by omega) (by omega))]
          exact e43 false (fun _ => by rw [decide_eq_false hz, decide_eq_true ht2]; rfl)
      · by_cases hz : S1.1 40 12 &&& (nI set ^^^ (-1)) = 0
        · rw [if_pos hz]
          exact e43 true (fun q => absurd q h0)
        · rw [if_neg hz]
          exact e43 false (fun q => absurd q h0)
    · rw [if_neg h2]
      refine e43 true (fun q => ?_)
      have e11 := (g2.2.2.2.2.1 q).2.2.2.2.1
      rw [decide_eq_false (show ¬ tkT T n A.2.1 = 2 from fun z => h2 (by rw [e11, z]; rfl))]
      rfl
  obtain ⟨S', k1, k2, k3⟩ := e14
  refine ⟨S', ?_, k2, fP_trans g3 k3⟩
  rw [fX8_part, eX8_part_0, gI_40_11, aOp_s]
  cases b with
  | true => rw [if_pos (show S.1 40 11 = 3 from b1.mpr rfl)]; exact k1
  | false => rw [if_neg (show ¬ S.1 40 11 = 3 from fun z => by cases b1.mp z)]; exact k1
def kd (c : Nat) : Nat := if c = 108 then 1 else if c = 118 then 2 else if c = 98 then 3 else if c = 99 then 4 else if c = 119 then 5 else 0
def kB (T : Nat → Nat) (n p : Nat) : Nat := if p < n then kd (T p) else 0
theorem kd_le (c : Nat) : kd c ≤ 5 := by
  unfold kd
  split
  · decide
  · split
    · decide
    · split
      · decide
      · split
        · decide
        · split <;> decide
theorem kd_letter {c : Nat} (h : 0 < kd c) : 97 ≤ c ∧ c ≤ 122 := by
  unfold kd at h
  split at h
  · omega
  · split at h
    · omega
    · split at h
      · omega
      · split at h
        · omega
        · split at h <;> omega
theorem kB_tk {T : Nat → Nat} {n p : Nat} (h : 0 < kB T n p) : isC T n p (T p) = true ∧ 97 ≤ T p ∧ T p ≤ 122 ∧ kd (T p) = kB T n p := by
  unfold kB at h ⊢
  by_cases hp : p < n
  · rw [if_pos hp] at h ⊢
    have := kd_letter h
    refine ⟨?_, this.1, this.2, rfl⟩
    unfold isC
    rw [decide_eq_true hp, decide_eq_true rfl]
    rfl
  · rw [if_neg hp] at h; omega
theorem m_kindOf (sa : Nat → Nat) (d : Nat) {c : Nat} (hc : c < 1000) (h : AH) : AMC sa (d + 1) 127 [.int (nI c)] h = some (some (.int (nI (kd c))), h) := by
  have ne : ∀ x : Nat, x < 1000 → c ≠ x → ¬ nI c = nI x := fun x hx hcx z => hcx ((nI_eq (by omega) (by omega)).mp z)
  rw [fX8_kindOf, eX8_kindOf_0]
  unfold kd
  by_cases h1 : c = 108
  · rw [if_pos (show nI c = 108 by rw [h1]; rfl), if_pos h1]; rfl
  rw [if_neg (show ¬ nI c = 108 from ne 108 (by decide) h1), if_neg h1]
  by_cases h2 : c = 118
  · rw [if_pos (show nI c = 118 by rw [h2]; rfl), if_pos h2]; rfl
  rw [if_neg (show ¬ nI c = 118 from ne 118 (by decide) h2), if_neg h2]
  by_cases h3 : c = 98
  · rw [if_pos (show nI c = 98 by rw [h3]; rfl), if_pos h3]; rfl
  rw [if_neg (show ¬ nI c = 98 from ne 98 (by decide) h3), if_neg h3]
  by_cases h4 : c = 99
  · rw [if_pos (show nI c = 99 by rw [h4]; rfl), if_pos h4]; rfl
  rw [if_neg (show ¬ nI c = 99 from ne 99 (by decide) h4), if_neg h4]
  by_cases h5 : c = 119
  · rw [if_pos (show nI c = 119 by rw [h5]; rfl), if_pos h5]; rfl
  rw [if_neg (show ¬ nI c = 119 from ne 119 (by decide) h5), if_neg h5]
  rfl
/-- a kind of any word is some number -/
theorem ci_kindOf (sa : Nat → Nat) (d : Nat) (x : Int32) (h : AH) : ∃ y, AMC sa (d + 1) 127 [.int x] h = some (some (.int y), h) := by
  rw [fX8_kindOf, eX8_kindOf_0]
  split
  · exact ⟨_, rfl⟩
  · split
    · exact ⟨_, rfl⟩
    · split
      · exact ⟨_, rfl⟩
      · split
        · exact ⟨_, rfl⟩
        · split <;> exact ⟨_, rfl⟩
def zL (T : Nat → Nat) (n : Nat) (Z : ZS) : ZS :=
  let A := zNu T n 0 (2 ^ Z.2.2 2 - 1) (zTk T n (decide (Z.2.2 3 < 7)) 3 Z)
  let B := zPt T n A.1 A.2
  let C := zTk T n (decide (tkT T n B.2.2.1 = 4)) 1 B.2
  if C.1 = 0 then (0, C.2.1, pUp (pUp (pUp (pUp C.2.2 (12 + 4 * Z.2.2 3) (kB T n Z.2.1)) (13 + 4 * Z.2.2 3) A.1) (14 + 4 * Z.2.2 3) B.1) 3 (Z.2.2 3 + 1)) else C
theorem zPt_Q (T : Nat → Nat) (n set : Nat) (Z : ZS) : (zPt T n set Z).2.2.2 = Z.2.2 := by
  unfold zPt
  dsimp only
  rw [zNu_Q]
  cases (decide (tkT T n (zTk T n (decide (tkT T n Z.2.1 = 3)) 1 Z).2.1 = 2) && !(decide (nv T n (zTk T n (decide (tkT T n Z.2.1 = 3)) 1 Z).2.1 &&& (127 ^^^ set) = 0)))
  · rw [cond_false, zTk_Q]
  · rw [cond_true, zTk_Q, zTk_Q]
theorem zNu_1 {T : Nat → Nat} {n lo hi : Nat} {Z : ZS} (h : (zNu T n lo hi Z).2.1 = 0) : Z.1 = 0 ∧ lo ≤ (zNu T n lo hi Z).1 ∧ (zNu T n lo hi Z).1 ≤ hi := by
  unfold zNu at h ⊢
  by_cases h0 : Z.1 = 0
  · rw [if_pos h0] at h ⊢
    by_cases h1 : tkT T n Z.2.1 = 2
    · rw [if_pos h1] at h ⊢
      by_cases h2 : lo ≤ nv T n Z.2.1 ∧ nv T n Z.2.1 ≤ hi
      · rw [if_pos h2]
        exact ⟨h0, h2.1, h2.2⟩
      · rw [if_neg h2] at h; cases h
    · rw [if_neg h1] at h; cases h
  · rw [if_neg h0] at h; exact absurd h h0
theorem zNu_le {T : Nat → Nat} {n lo hi : Nat} {Z : ZS} : (zNu T n lo hi Z).1 ≤ hi := by
  unfold zNu
  split
  · split
    · split
      · rename_i h; exact h.2
      · exact Nat.zero_le _
    · exact Nat.zero_le _
  · exact Nat.zero_le _
theorem zPt_1 {T : Nat → Nat} {n set : Nat} {Z : ZS} (h : (zPt T n set Z).2.1 = 0) : Z.1 = 0 := by
  unfold zPt at h
  have h1 := (zNu_1 h).1
  cases hc : (decide (tkT T n (zTk T n (decide (tkT T n Z.2.1 = 3)) 1 Z).2.1 = 2) && !(decide (nv T n (zTk T n (decide (tkT T n Z.2.1 = 3)) 1 Z).2.1 &&& (127 ^^^ set) = 0))) with
  | false => rw [hc, cond_false] at h1; exact (zTk_1 (by decide) h1).1
  | true => rw [hc, cond_true] at h1; exact (zTk_1 (by decide) (zTk_1 (by decide) h1).1).1
theorem n_all7 : ∀ k, k ≤ 6 → (1 : Int32) <<< (nI k &&& 31) - 1 = nI (2 ^ k - 1) ∧ 2 ^ k - 1 < 64 := by decide +kernel
theorem m_readsLetter (sa : Nat → Nat) (d : Nat) (h : AH) (co : Nat) {S : ST} {T : Nat → Nat} {n : Nat} {fk : Int32} {Z : ZS} (hZ : rZ S T n fk Z) (h0 : Z.1 = 0) (ho : 0 < kB T n Z.2.1) : ∃ S', AMC sa (d + 6) 131 [.ref (co + 40)] (mk h co S) = some (none, mk h co S') ∧ rZ S' T n fk (zL T n Z) ∧ fP S S' := by
  obtain ⟨p1, p2, p3, p4⟩ := kB_tk ho
  obtain ⟨o1, o2, o3, o4, o5⟩ := isC_tk p2 p3 p1
  have hb := (hZ.2.2.2.1.2.2 Z.2.1 o4).2
  have hW := hZ.2.1
  have hL := hZ.2.2.1
  obtain ⟨a1, a2⟩ := n_all7 _ hW
  have g3i : aIL (mk h co S) (co + 47) 3 = some (nI (Z.2.2 3)) := pE_get hZ.1 h co (j := 3) (by decide)
  obtain ⟨S1, g1, g2, g3⟩ := m_takes sa (d + 2) h co hZ (decide (Z.2.2 3 < 7)) (k := 3) (by decide) (by decide) (fun _ _ => by rw [o1]; decide)
  have q1 := zTk_Q T n (decide (Z.2.2 3 < 7)) 3 Z
  have g3i1 : aIL (mk h co S1) (co + 47) 3 = some (nI (Z.2.2 3)) := by have := pE_get g2.1 h co (j := 3) (by decide); rw [q1] at this; exact this
  have g2i1 : aIL (mk h co S1) (co + 47) 2 = some (nI (Z.2.2 2)) := by have := pE_get g2.1 h co (j := 2) (by decide); rw [q1] at this; exact this
  obtain ⟨S2, g4, g5, g6⟩ := m_figure sa (d + 1) h co g2 (lo := 0) (hi := 2 ^ Z.2.2 2 - 1) (by decide) (by omega)
  have q2 := zNu_Q T n 0 (2 ^ Z.2.2 2 - 1) (zTk T n (decide (Z.2.2 3 < 7)) 3 Z)
  have ezl : zL T n Z = (let A := zNu T n 0 (2 ^ Z.2.2 2 - 1) (zTk T n (decide (Z.2.2 3 < 7)) 3 Z); let B := zPt T n A.1 A.2; let C := zTk T n (decide (tkT T n B.2.2.1 = 4)) 1 B.2; if C.1 = 0 then (0, C.2.1, pUp (pUp (pUp (pUp C.2.2 (12 + 4 * Z.2.2 3) (kB T n Z.2.1)) (13 + 4 * Z.2.2 3) A.1) (14 + 4 * Z.2.2 3) B.1) 3 (Z.2.2 3 + 1)) else C) := rfl
  have hA7 : (zNu T n 0 (2 ^ Z.2.2 2 - 1) (zTk T n (decide (Z.2.2 3 < 7)) 3 Z)).2.1 = 0 → Z.2.2 3 < 7 := fun q => of_decide_eq_true (zTk_1 (by decide) (zNu_1 q).1).2
  have hAle : (zNu T n 0 (2 ^ Z.2.2 2 - 1) (zTk T n (decide (Z.2.2 3 < 7)) 3 Z)).1 ≤ 2 ^ Z.2.2 2 - 1 := zNu_le
  rw [q1] at q2
  generalize zNu T n 0 (2 ^ Z.2.2 2 - 1) (zTk T n (decide (Z.2.2 3 < 7)) 3 Z) = A at *
  dsimp only at ezl
  obtain ⟨S3, g7, g8, g9⟩ := m_part sa d h co g5 (set := A.1) (by omega)
  have q3 := zPt_Q T n A.1 A.2
  have hB1 := zPt_1 (T := T) (n := n) (set := A.1) (Z := A.2)
  rw [q2] at q3
  generalize zPt T n A.1 A.2 = B at *
  obtain ⟨b, b1, b2, b3⟩ := tokB g8 (c := 4) (by decide) 1
  obtain ⟨S4, g10, g11, g12⟩ := m_takes sa (d + 2) h co g8 b (k := 1) (by decide) (by decide) (fun q1 q2 => by rw [b3 q1 q2]; decide)
  rw [b2] at g11
  have q4 := zTk_Q T n (decide (tkT T n B.2.2.1 = 4)) 1 B.2
  have hC1 := zTk_1 (T := T) (n := n) (k := 1) (b := decide (tkT T n B.2.2.1 = 4)) (Z := B.2) (by decide)
  rw [q3] at q4
  generalize zTk T n (decide (tkT T n B.2.2.1 = 4)) 1 B.2 = C at *
  have hfr := fP_trans g3 (fP_trans g6 (fP_trans g9 g12))
  have g10x : AMC sa (d + 5) 125 [.ref (co + 40), .int (bv b), .int 1] (mk h co S3) = _ := g10
  have key : ∃ S', (∀ kx : Int32, (Z.2.2 3 < 7 → kx = nI (12 + 4 * Z.2.2 3)) → AMV sa (d + 5) 131 94 [.ref (co + 40), .int (nI (kB T n Z.2.1)), .int kx, .int (nI A.1), .int (nI B.1)] [.int (bv b), .ref (co + 40)] (mk h co S3) = some (none, mk h co S')) ∧ rZ S' T n fk (zL T n Z) ∧ fP S S' := by
    by_cases hC : C.1 = 0
    · rw [if_pos hC] at ezl
      have hw7 : Z.2.2 3 < 7 := hA7 (hB1 (hC1 hC).1)
      have hE4 : pE S4 47 Z.2.2 := by have := g11.1; rw [q4] at this; exact this
      have hE5 : pE (sM S4 47 (pUp Z.2.2 (12 + 4 * Z.2.2 3) (kB T n Z.2.1))) 47 (pUp Z.2.2 (12 + 4 * Z.2.2 3) (kB T n Z.2.1)) := pE_sM (Or.inr (Or.inl rfl)) _
      have hE6 : pE (sM S4 47 (pUp (pUp Z.2.2 (12 + 4 * Z.2.2 3) (kB T n Z.2.1)) (13 + 4 * Z.2.2 3) A.1)) 47 (pUp (pUp Z.2.2 (12 + 4 * Z.2.2 3) (kB T n Z.2.1)) (13 + 4 * Z.2.2 3) A.1) := pE_sM (Or.inr (Or.inl rfl)) _
      have hE7 : pE (sM S4 47 (pUp (pUp (pUp Z.2.2 (12 + 4 * Z.2.2 3) (kB T n Z.2.1)) (13 + 4 * Z.2.2 3) A.1) (14 + 4 * Z.2.2 3) B.1)) 47 (pUp (pUp (pUp Z.2.2 (12 + 4 * Z.2.2 3) (kB T n Z.2.1)) (13 + 4 * Z.2.2 3) A.1) (14 + 4 * Z.2.2 3) B.1) := pE_sM (Or.inr (Or.inl rfl)) _
      have e3 : (pUp (pUp (pUp Z.2.2 (12 + 4 * Z.2.2 3) (kB T n Z.2.1)) (13 + 4 * Z.2.2 3) A.1) (14 + 4 * Z.2.2 3) B.1) 3 = Z.2.2 3 := by rw [pUp_ne _ _ (by omega), pUp_ne _ _ (by omega), pUp_ne _ _ (by omega)]
      have e2 : (pUp (pUp (pUp Z.2.2 (12 + 4 * Z.2.2 3) (kB T n Z.2.1)) (13 + 4 * Z.2.2 3) A.1) (14 + 4 * Z.2.2 3) B.1) 2 = Z.2.2 2 := by rw [pUp_ne _ _ (by omega), pUp_ne _ _ (by omega), pUp_ne _ _ (by omega)]
      have i1 : nI (12 + 4 * Z.2.2 3) + 1 = nI (13 + 4 * Z.2.2 3) := by rw [nI_1, show 12 + 4 * Z.2.2 3 + 1 = 13 + 4 * Z.2.2 3 by omega]
      have i2 : nI (12 + 4 * Z.2.2 3) + 2 = nI (14 + 4 * Z.2.2 3) := by rw [show (2 : Int32) = nI 2 from rfl, nI_add, show 12 + 4 * Z.2.2 3 + 2 = 14 + 4 * Z.2.2 3 by omega]
      refine ⟨sM S4 47 (pUp (pUp (pUp (pUp Z.2.2 (12 + 4 * Z.2.2 3) (kB T n Z.2.1)) (13 + 4 * Z.2.2 3) A.1) (14 + 4 * Z.2.2 3) B.1) 3 (Z.2.2 3 + 1)), fun kx hkx => ?_, ?_, fP_trans hfr (fP_sM _ _)⟩
      · rw [hkx hw7, eX8_readsLetter_94, gC_40, aOp_s, g10x, aRI_mk, aOp_s, gC_40, aOp_s, m_isWell sa (d + 4) h co g11, aRI_mk, aOp_s, decide_eq_true hC, if_neg bvn, gR_40_14, aOp_s, pE_set hE4 h co (by omega), aOp_s, gR_40_14, aOp_s, i1, pE_set hE5 h co (by omega), aOp_s, sM_sM, gR_40_14, aOp_s, i2, pE_set hE6 h co (by omega), aOp_s, sM_sM, gR_40_14, aOp_s, show aIL _ (co + 47) 3 = _ from pE_get hE7 h co (j := 3) (by decide), aOp_s, e3, nI_1, show (3 : Int32) = nI 3 from rfl, pE_set hE7 h co (by decide), aOp_s, sM_sM]
      · rw [ezl, q4]
        exact rZ_Q g11 hC (by rw [pUp_ne _ _ (by decide), e2]; exact hW) (by rw [pUp_at]; omega)
    · rw [if_neg hC] at ezl
      refine ⟨S4, fun kx hkx => ?_, by rw [ezl]; exact g11, hfr⟩
      rw [eX8_readsLetter_94, gC_40, aOp_s, g10x, aRI_mk, aOp_s, gC_40, aOp_s, m_isWell sa (d + 4) h co g11, aRI_mk, aOp_s, decide_eq_false hC, if_pos bvf]
  obtain ⟨S', k1, k2, k3⟩ := key
  refine ⟨S', ?_, k2, k3⟩
  have e54 : ∀ s2 : Int32, (Z.2.2 3 < 7 → s2 = nI (Z.2.2 3)) → AMV sa (d + 5) 131 54 [.ref (co + 40), .int (nI (kB T n Z.2.1)), .null, .null, .null] [.int s2, .int 4, .int 12] (mk h co S1) = some (none, mk h co S') := by
    intro s2 hs2
    have kk := k1 (12 + 4 * s2) (fun q => by rw [hs2 q, ix0])
    rw [eX8_readsLetter_54, gR_40_14, aOp_s, g2i1, aOp_s, gC_40, aOp_s, a1, show AMC sa (d + 5) 126 [.ref (co + 40), .int 0, .int (nI (2 ^ Z.2.2 2 - 1))] (mk h co S1) = _ from g4, aRI_mk, aOp_s, gC_40, aOp_s, g7, aRI_mk, aOp_s, gI_40_11, aOp_s]
    cases b with
    | true => rw [if_pos (show S3.1 40 11 = 4 from b1.mpr rfl)]; exact kk
    | false => rw [if_neg (show ¬ S3.1 40 11 = 4 from fun z => by cases b1.mp z)]; exact kk
  have e25 : AMV sa (d + 5) 131 25 [.ref (co + 40), .int (nI (kB T n Z.2.1)), .null, .null, .null] [.int (bv (decide (Z.2.2 3 < 7))), .ref (co + 40)] (mk h co S) = some (none, mk h co S') := by
    rw [eX8_readsLetter_25, gC_40, aOp_s, show AMC sa (d + 5) 125 [.ref (co + 40), .int (bv (decide (Z.2.2 3 < 7))), .int 3] (mk h co S) = _ from g1, aRI_mk, aOp_s, gR_40_14, aOp_s, g3i1, aOp_s]
    by_cases h6 : Z.2.2 3 < 7
    · rw [if_neg (show ¬ (7 : Int32) ≤ nI (Z.2.2 3) from nI_ge (b := 7) h6 (by decide)), aOp_s]
      dsimp only
      rw [g3i1, aOp_s]
      exact e54 _ (fun _ => rfl)
    · rw [if_pos (show (7 : Int32) ≤ nI (Z.2.2 3) from nI_le (a := 7) (by omega) (by omega))]
      exact e54 _ (fun q => absurd q h6)
  have e12 : S.1 40 12 = nI (T Z.2.1) := ((hZ.2.2.2.2.1 h0).2.2.2.2.2.1).trans o2
  rw [fX8_readsLetter, eX8_readsLetter_0, gI_40_12, aOp_s, e12, m_kindOf sa (d + 4) (by omega), aRI_mk, aOp_s, p4, gR_40_14, aOp_s, g3i, aOp_s]
  by_cases h6 : Z.2.2 3 < 7
  · rw [decide_eq_true h6] at e25
    rw [if_neg (show ¬ (7 : Int32) ≤ nI (Z.2.2 3) from nI_ge (b := 7) h6 (by decide))]
    exact e25
  · rw [decide_eq_false h6] at e25
    rw [if_pos (show (7 : Int32) ≤ nI (Z.2.2 3) from nI_le (a := 7) (by omega) (by omega))]
    exact e25
