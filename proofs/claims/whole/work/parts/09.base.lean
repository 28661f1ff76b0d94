/-! ===== the picture: all cells of the two objects, by their places behind the first; what else there is stays below it ===== -/
def cK (c : Nat) : Nat := cond (Nat.blt c 26) (cond (Nat.blt c 13) (cond (Nat.blt c 6) (cond (Nat.blt c 3) (cond (Nat.blt c 1) (0) (cond (Nat.blt c 2) (4) (4))) (cond (Nat.blt c 4) (4) (cond (Nat.blt c 5) (4) (4)))) (cond (Nat.blt c 9) (cond (Nat.blt c 7) (0) (cond (Nat.blt c 8) (1) (1))) (cond (Nat.blt c 11) (cond (Nat.blt c 10) (1) (0)) (cond (Nat.blt c 12) (1) (1))))) (cond (Nat.blt c 19) (cond (Nat.blt c 16) (cond (Nat.blt c 14) (0) (cond (Nat.blt c 15) (1) (1))) (cond (Nat.blt c 17) (1) (cond (Nat.blt c 18) (0) (1)))) (cond (Nat.blt c 22) (cond (Nat.blt c 20) (1) (cond (Nat.blt c 21) (1) (3))) (cond (Nat.blt c 24) (cond (Nat.blt c 23) (0) (1)) (cond (Nat.blt c 25) (1) (1)))))) (cond (Nat.blt c 39) (cond (Nat.blt c 32) (cond (Nat.blt c 29) (cond (Nat.blt c 27) (0) (cond (Nat.blt c 28) (1) (1))) (cond (Nat.blt c 30) (1) (cond (Nat.blt c 31) (0) (1)))) (cond (Nat.blt c 35) (cond (Nat.blt c 33) (0) (cond (Nat.blt c 34) (0) (1))) (cond (Nat.blt c 37) (cond (Nat.blt c 36) (1) (1)) (cond (Nat.blt c 38) (1) (0))))) (cond (Nat.blt c 46) (cond (Nat.blt c 42) (cond (Nat.blt c 40) (1) (cond (Nat.blt c 41) (0) (1))) (cond (Nat.blt c 44) (cond (Nat.blt c 43) (1) (1)) (cond (Nat.blt c 45) (1) (1)))) (cond (Nat.blt c 49) (cond (Nat.blt c 47) (1) (cond (Nat.blt c 48) (1) (1))) (cond (Nat.blt c 51) (cond (Nat.blt c 50) (1) (1)) (cond (Nat.blt c 52) (2) (1))))))
def cN (c : Nat) : Nat := cond (Nat.blt c 26) (cond (Nat.blt c 13) (cond (Nat.blt c 6) (cond (Nat.blt c 3) (cond (Nat.blt c 1) (7) (cond (Nat.blt c 2) (0) (0))) (cond (Nat.blt c 4) (0) (cond (Nat.blt c 5) (0) (0)))) (cond (Nat.blt c 9) (cond (Nat.blt c 7) (3) (cond (Nat.blt c 8) (8) (8))) (cond (Nat.blt c 11) (cond (Nat.blt c 10) (320) (5)) (cond (Nat.blt c 12) (100) (6))))) (cond (Nat.blt c 19) (cond (Nat.blt c 16) (cond (Nat.blt c 14) (2) (cond (Nat.blt c 15) (7) (7))) (cond (Nat.blt c 17) (7) (cond (Nat.blt c 18) (2) (7)))) (cond (Nat.blt c 22) (cond (Nat.blt c 20) (7) (cond (Nat.blt c 21) (7) (2))) (cond (Nat.blt c 24) (cond (Nat.blt c 23) (2) (7)) (cond (Nat.blt c 25) (7) (7)))))) (cond (Nat.blt c 39) (cond (Nat.blt c 32) (cond (Nat.blt c 29) (cond (Nat.blt c 27) (2) (cond (Nat.blt c 28) (7) (7))) (cond (Nat.blt c 30) (7) (cond (Nat.blt c 31) (0) (288)))) (cond (Nat.blt c 35) (cond (Nat.blt c 33) (4) (cond (Nat.blt c 34) (2) (7))) (cond (Nat.blt c 37) (cond (Nat.blt c 36) (7) (7)) (cond (Nat.blt c 38) (12) (1))))) (cond (Nat.blt c 46) (cond (Nat.blt c 42) (cond (Nat.blt c 40) (16) (cond (Nat.blt c 41) (8) (8))) (cond (Nat.blt c 44) (cond (Nat.blt c 43) (8) (320)) (cond (Nat.blt c 45) (40) (100)))) (cond (Nat.blt c 49) (cond (Nat.blt c 47) (40) (cond (Nat.blt c 48) (40) (40))) (cond (Nat.blt c 51) (cond (Nat.blt c 50) (960) (80)) (cond (Nat.blt c 52) (2) (16))))))
def cL (c : Nat) : List Nat := cond (Nat.blt c 26) (cond (Nat.blt c 13) (cond (Nat.blt c 6) (cond (Nat.blt c 3) (cond (Nat.blt c 1) ([8, 12, 15, 19, 23, 32, 34, 40, 0, 0]) (cond (Nat.blt c 2) ([]) ([]))) (cond (Nat.blt c 4) ([]) (cond (Nat.blt c 5) ([]) ([])))) (cond (Nat.blt c 9) (cond (Nat.blt c 7) ([9, 10, 11]) (cond (Nat.blt c 8) ([]) ([]))) (cond (Nat.blt c 11) (cond (Nat.blt c 10) ([]) ([13, 14, 0, 0, 0, 0, 0])) (cond (Nat.blt c 12) ([]) ([]))))) (cond (Nat.blt c 19) (cond (Nat.blt c 16) (cond (Nat.blt c 14) ([16, 17, 18, 1, 0, 0, 0, 0, 0, 0]) (cond (Nat.blt c 15) ([]) ([]))) (cond (Nat.blt c 17) ([]) (cond (Nat.blt c 18) ([20, 21, 22, 1, 0, 0, 0, 0, 0, 0]) ([])))) (cond (Nat.blt c 22) (cond (Nat.blt c 20) ([]) (cond (Nat.blt c 21) ([]) ([]))) (cond (Nat.blt c 24) (cond (Nat.blt c 23) ([25, 26, 27, 1, 0, 0, 0, 0, 0, 0]) ([])) (cond (Nat.blt c 25) ([]) ([])))))) (cond (Nat.blt c 39) (cond (Nat.blt c 32) (cond (Nat.blt c 29) (cond (Nat.blt c 27) ([29, 30, 31, 1, 0, 0, 0, 0, 0, 0]) (cond (Nat.blt c 28) ([]) ([]))) (cond (Nat.blt c 30) ([]) (cond (Nat.blt c 31) ([33, 0, 0]) ([])))) (cond (Nat.blt c 35) (cond (Nat.blt c 33) ([35, 39, 0]) (cond (Nat.blt c 34) ([36, 37, 38, 1, 0, 0, 0, 0, 0, 0]) ([]))) (cond (Nat.blt c 37) (cond (Nat.blt c 36) ([]) ([])) (cond (Nat.blt c 38) ([]) ([41, 0]))))) (cond (Nat.blt c 46) (cond (Nat.blt c 42) (cond (Nat.blt c 40) ([]) (cond (Nat.blt c 41) ([43, 44, 45, 46, 0, 47, 0, 0, 0, 0, 0, 0, 0, 48, 49, 50, 51, 0, 52, 53, 54, 0]) ([]))) (cond (Nat.blt c 44) (cond (Nat.blt c 43) ([]) ([])) (cond (Nat.blt c 45) ([]) ([])))) (cond (Nat.blt c 49) (cond (Nat.blt c 47) ([]) (cond (Nat.blt c 48) ([]) ([]))) (cond (Nat.blt c 51) (cond (Nat.blt c 50) ([]) ([])) (cond (Nat.blt c 52) ([]) ([]))))))
/-- ints of objects (cell, field), words' addresses of posts, contents of arrays -/
abbrev ST : Type := (Nat → Nat → Int32) × (Nat → Nat) × (Nat → Nat → Int32)
def fl (co : Nat) (S : ST) (c : Nat) : Nat → List Nat → List Value
  | _, [] => []
  | k, 0 :: r => .int (S.1 c k) :: fl co S c (k + 1) r
  | k, 1 :: r => .ref (S.2.1 c) :: fl co S c (k + 1) r
  | k, (n + 2) :: r => .ref (co + n) :: fl co S c (k + 1) r
def cell (co : Nat) (S : ST) (c : Nat) : AE := match cK c with
  | 0 => .inl (cN c, fl co S c 0 (cL c))
  | 1 => .inr (.inl (0, cN c, S.2.2 c))
  | 2 => .inr (.inl (1, cN c, S.2.2 c))
  | _ => .inr (.inr (2, fun j => if j = 0 then some (co + 22) else if j = 1 then some (co + 26) else none))
def mk (h : AH) (co : Nat) (S : ST) : AH := (h.1, h.2.1, fun x => if x = co ∨ (co + 6 ≤ x ∧ x < co + 53) then some (cell co S (x - co)) else h.2.2 x)
def sI (S : ST) (c k : Nat) (x : Int32) : ST := (fun a b => if a = c ∧ b = k then x else S.1 a b, S.2.1, S.2.2)
def sP (S : ST) (c w : Nat) : ST := (S.1, fun a => if a = c then w else S.2.1 a, S.2.2)
def sA (S : ST) (c : Nat) (f : Nat → Int32) : ST := (S.1, S.2.1, fun a => if a = c then f else S.2.2 a)
theorem mk_1 (h : AH) (co : Nat) (S : ST) : (mk h co S).1 = h.1 := rfl
theorem mk_2 (h : AH) (co : Nat) (S : ST) : (mk h co S).2.1 = h.2.1 := rfl
theorem mk_get (h : AH) (co : Nat) (S : ST) (c : Nat) (hc : c = 0 ∨ 6 ≤ c) (hl : c < 53) : (mk h co S).2.2 (co + c) = some (cell co S c) := by
  show (if co + c = co ∨ (co + 6 ≤ co + c ∧ co + c < co + 53) then some (cell co S (co + c - co)) else h.2.2 (co + c)) = _
  rw [if_pos (by omega), Nat.add_sub_cancel_left]
theorem mk_get0 (h : AH) (co : Nat) (S : ST) : (mk h co S).2.2 co = some (cell co S 0) := mk_get h co S 0 (Or.inl rfl) (by decide)
theorem mk_out (h : AH) (co : Nat) (S : ST) (x : Nat) (hx : ¬ (x = co ∨ (co + 6 ≤ x ∧ x < co + 53))) : (mk h co S).2.2 x = h.2.2 x := if_neg hx
theorem mk_up (h : AH) (co : Nat) (S S' : ST) (c : Nat) (e : AE) (hc : c = 0 ∨ 6 ≤ c) (hl : c < 53) (he : cell co S' c = e) (ho : ∀ y, y ≠ c → S'.1 y = S.1 y ∧ S'.2.1 y = S.2.1 y ∧ S'.2.2 y = S.2.2 y) : aUp (mk h co S) (co + c) e = mk h co S' := by
  have key : ∀ y, y ≠ c → cell co S' y = cell co S y := by
    intro y hy
    obtain ⟨h1, h2, h3⟩ := ho y hy
    have hf : ∀ (L : List Nat) (k : Nat), fl co S' y k L = fl co S y k L := by
      intro L
      induction L with
      | nil => intro k; rfl
      | cons a L ih =>
        intro k
        match a with
        | 0 => simp only [fl, h1, ih]
        | 1 => simp only [fl, h2, ih]
        | n + 2 => simp only [fl, ih]
    unfold cell
    rw [hf, h3]
  unfold aUp mk
  refine Prod.ext rfl (Prod.ext rfl ?_)
  funext x
  show va_up _ (co + c) (some e) x = _
  unfold va_up
  by_cases hx : x = co + c
  · rw [if_pos hx]
    show _ = (if x = co ∨ (co + 6 ≤ x ∧ x < co + 53) then some (cell co S' (x - co)) else h.2.2 x)
    rw [if_pos (by omega), hx, Nat.add_sub_cancel_left, he]
  · rw [if_neg hx]
    show (if x = co ∨ (co + 6 ≤ x ∧ x < co + 53) then some (cell co S (x - co)) else h.2.2 x) = (if x = co ∨ (co + 6 ≤ x ∧ x < co + 53) then some (cell co S' (x - co)) else h.2.2 x)
    by_cases hr : x = co ∨ (co + 6 ≤ x ∧ x < co + 53)
    · rw [if_pos hr, if_pos hr, key (x - co) (by omega)]
    · rw [if_neg hr, if_neg hr]
theorem fl_set (co : Nat) (S : ST) (c j : Nat) (x : Int32) : ∀ (L : List Nat) (k n : Nat), L[n]? = some 0 → j = k + n → (fl co S c k L).set n (.int x) = fl co (sI S c j x) c k L
  | [], k, n, h, _ => by simp at h
  | a :: L, k, 0, h, hj => by
    simp at h
    subst h
    have rest : ∀ (L : List Nat) (k' : Nat), j < k' → fl co S c k' L = fl co (sI S c j x) c k' L := by
      intro L
      induction L with
      | nil => intro k' _; rfl
      | cons a L ih =>
        intro k' hk
        match a with
        | 0 =>
          simp only [fl]
          rw [ih (k' + 1) (by omega)]
          have : (sI S c j x).1 c k' = S.1 c k' := if_neg (by omega)
          rw [this]
        | 1 => simp only [fl]; rw [ih (k' + 1) (by omega)]; rfl
        | n + 2 => simp only [fl]; rw [ih (k' + 1) (by omega)]
    simp only [fl, List.set_cons_zero]
    rw [rest L (k + 1) (by omega)]
    have : (sI S c j x).1 c k = x := if_pos ⟨rfl, by omega⟩
    rw [this]
  | a :: L, k, n + 1, h, hj => by
    have h' : L[n]? = some 0 := by simpa using h
    have ih := fl_set co S c j x L (k + 1) n h' (by omega)
    match a with
    | 0 =>
      simp only [fl, List.set_cons_succ, ih]
      have : (sI S c j x).1 c k = S.1 c k := if_neg (by omega)
      rw [this]
    | 1 => simp only [fl, List.set_cons_succ, ih]; rfl
    | m + 2 => simp only [fl, List.set_cons_succ, ih]
theorem fl_len (co : Nat) (S : ST) (c : Nat) : ∀ (L : List Nat) (k : Nat), (fl co S c k L).length = L.length
  | [], _ => rfl
  | 0 :: L, k => by simp only [fl, List.length_cons, fl_len co S c L]
  | 1 :: L, k => by simp only [fl, List.length_cons, fl_len co S c L]
  | (n + 2) :: L, k => by simp only [fl, List.length_cons, fl_len co S c L]
theorem g_obj {h : AH} {co : Nat} {S : ST} {c : Nat} (hc : c = 0 ∨ 6 ≤ c) (hl : c < 53) (hk : cK c = 0) : (mk h co S).2.2 (co + c) = some (.inl (cN c, fl co S c 0 (cL c))) := by
  rw [mk_get h co S c hc hl]
  unfold cell
  rw [hk]
  rfl
theorem g_arr {h : AH} {co : Nat} {S : ST} {c : Nat} (hc : c = 0 ∨ 6 ≤ c) (hl : c < 53) (hk : cK c = 1) : (mk h co S).2.2 (co + c) = some (.inr (.inl (0, cN c, S.2.2 c))) := by
  rw [mk_get h co S c hc hl]
  unfold cell
  rw [hk]
  rfl
theorem g_IL {h : AH} {co : Nat} {S : ST} {c : Nat} (hc : c = 0 ∨ 6 ≤ c) (hl : c < 53) (hk : cK c = 1) {i : Int32} (hi : aIn i (cN c) = true) : aIL (mk h co S) (co + c) i = some (S.2.2 c i.toNatClampNeg) := by
  unfold aIL
  rw [g_arr hc hl hk]
  exact if_pos ⟨hi, show (0 : Nat) ≠ 1 by decide⟩
theorem g_IS {h : AH} {co : Nat} {S : ST} {c : Nat} (hc : c = 0 ∨ 6 ≤ c) (hl : c < 53) (hk : cK c = 1) {i x : Int32} (hi : aIn i (cN c) = true) : aIS (mk h co S) (co + c) i x = some (mk h co (sA S c (upd (S.2.2 c) i.toNatClampNeg x))) := by
  unfold aIS
  rw [g_arr hc hl hk]
  refine (if_pos ⟨hi, rfl⟩).trans ?_
  congr 1
  refine mk_up h co S _ c _ hc hl ?_ (fun y hy => ⟨rfl, rfl, if_neg hy⟩)
  unfold cell
  rw [hk]
  show (Sum.inr (Sum.inl (0, cN c, if c = c then _ else _)) : AE) = _
  rw [if_pos rfl]
theorem g_FP {h : AH} {co : Nat} {S : ST} {c k : Nat} (hc : c = 0 ∨ 6 ≤ c) (hl : c < 53) (hk : cK c = 0) (hL : (cL c)[k]? = some 0) {x : Int32} : aFP (mk h co S) (co + c) (cN c) k (.int x) = some (mk h co (sI S c k x)) := by
  unfold aFP
  rw [g_obj hc hl hk]
  refine (if_pos ⟨rfl, by rw [fl_len]; exact (List.getElem?_eq_some_iff.mp hL).1⟩).trans ?_
  congr 1
  refine mk_up h co S _ c _ hc hl ?_ (fun y hy => ⟨funext fun b => if_neg (fun z => hy z.1), rfl, rfl⟩)
  unfold cell
  rw [hk]
  show (Sum.inl (cN c, fl co (sI S c k x) c 0 (cL c)) : AE) = Sum.inl (cN c, (fl co S c 0 (cL c)).set k (.int x))
  rw [fl_set co S c k x (cL c) 0 k hL (by omega)]
theorem gC_0 (h : AH) (co : Nat) (S : ST) : aCl (mk h co S) co 7 = some () := by
  unfold aCl
  rw [show (mk h co S).2.2 co = _ from g_obj (c := 0) (Or.inl rfl) (by decide) rfl]
  rfl
theorem gR_0_0 (h : AH) (co : Nat) (S : ST) : aFR (mk h co S) co 7 0 = some (co + 6) := by
  unfold aFR
  rw [show (mk h co S).2.2 co = _ from g_obj (c := 0) (Or.inl rfl) (by decide) rfl]
  rfl
theorem gR_0_1 (h : AH) (co : Nat) (S : ST) : aFR (mk h co S) co 7 1 = some (co + 10) := by
  unfold aFR
  rw [show (mk h co S).2.2 co = _ from g_obj (c := 0) (Or.inl rfl) (by decide) rfl]
  rfl
theorem gR_0_2 (h : AH) (co : Nat) (S : ST) : aFR (mk h co S) co 7 2 = some (co + 13) := by
  unfold aFR
  rw [show (mk h co S).2.2 co = _ from g_obj (c := 0) (Or.inl rfl) (by decide) rfl]
  rfl
theorem gR_0_3 (h : AH) (co : Nat) (S : ST) : aFR (mk h co S) co 7 3 = some (co + 17) := by
  unfold aFR
  rw [show (mk h co S).2.2 co = _ from g_obj (c := 0) (Or.inl rfl) (by decide) rfl]
  rfl
theorem gR_0_4 (h : AH) (co : Nat) (S : ST) : aFR (mk h co S) co 7 4 = some (co + 21) := by
  unfold aFR
  rw [show (mk h co S).2.2 co = _ from g_obj (c := 0) (Or.inl rfl) (by decide) rfl]
  rfl
theorem gR_0_5 (h : AH) (co : Nat) (S : ST) : aFR (mk h co S) co 7 5 = some (co + 30) := by
  unfold aFR
  rw [show (mk h co S).2.2 co = _ from g_obj (c := 0) (Or.inl rfl) (by decide) rfl]
  rfl
theorem gR_0_6 (h : AH) (co : Nat) (S : ST) : aFR (mk h co S) co 7 6 = some (co + 32) := by
  unfold aFR
  rw [show (mk h co S).2.2 co = _ from g_obj (c := 0) (Or.inl rfl) (by decide) rfl]
  rfl
theorem gR_0_7 (h : AH) (co : Nat) (S : ST) : aFR (mk h co S) co 7 7 = some (co + 38) := by
  unfold aFR
  rw [show (mk h co S).2.2 co = _ from g_obj (c := 0) (Or.inl rfl) (by decide) rfl]
  rfl
theorem gI_0_8 (h : AH) (co : Nat) (S : ST) : aFI (mk h co S) co 7 8 = some (S.1 0 8) := by
  unfold aFI
  rw [show (mk h co S).2.2 co = _ from g_obj (c := 0) (Or.inl rfl) (by decide) rfl]
  rfl
theorem gP_0_8 (h : AH) (co : Nat) (S : ST) (x : Int32) : aFP (mk h co S) co 7 8 (.int x) = some (mk h co (sI S 0 8 x)) := g_FP (c := 0) (Or.inl rfl) (by decide) rfl rfl
theorem gI_0_9 (h : AH) (co : Nat) (S : ST) : aFI (mk h co S) co 7 9 = some (S.1 0 9) := by
  unfold aFI
  rw [show (mk h co S).2.2 co = _ from g_obj (c := 0) (Or.inl rfl) (by decide) rfl]
  rfl
theorem gP_0_9 (h : AH) (co : Nat) (S : ST) (x : Int32) : aFP (mk h co S) co 7 9 (.int x) = some (mk h co (sI S 0 9 x)) := g_FP (c := 0) (Or.inl rfl) (by decide) rfl rfl
theorem gC_6 (h : AH) (co : Nat) (S : ST) : aCl (mk h co S) (co + 6) 3 = some () := by
  unfold aCl
  rw [show (mk h co S).2.2 (co + 6) = _ from g_obj (c := 6) (Or.inr (by decide)) (by decide) rfl]
  rfl
theorem gR_6_0 (h : AH) (co : Nat) (S : ST) : aFR (mk h co S) (co + 6) 3 0 = some (co + 7) := by
  unfold aFR
  rw [show (mk h co S).2.2 (co + 6) = _ from g_obj (c := 6) (Or.inr (by decide)) (by decide) rfl]
  rfl
theorem gR_6_1 (h : AH) (co : Nat) (S : ST) : aFR (mk h co S) (co + 6) 3 1 = some (co + 8) := by
  unfold aFR
  rw [show (mk h co S).2.2 (co + 6) = _ from g_obj (c := 6) (Or.inr (by decide)) (by decide) rfl]
  rfl
theorem gR_6_2 (h : AH) (co : Nat) (S : ST) : aFR (mk h co S) (co + 6) 3 2 = some (co + 9) := by
  unfold aFR
  rw [show (mk h co S).2.2 (co + 6) = _ from g_obj (c := 6) (Or.inr (by decide)) (by decide) rfl]
  rfl
theorem gC_10 (h : AH) (co : Nat) (S : ST) : aCl (mk h co S) (co + 10) 5 = some () := by
  unfold aCl
  rw [show (mk h co S).2.2 (co + 10) = _ from g_obj (c := 10) (Or.inr (by decide)) (by decide) rfl]
  rfl
theorem gR_10_0 (h : AH) (co : Nat) (S : ST) : aFR (mk h co S) (co + 10) 5 0 = some (co + 11) := by
  unfold aFR
  rw [show (mk h co S).2.2 (co + 10) = _ from g_obj (c := 10) (Or.inr (by decide)) (by decide) rfl]
  rfl
theorem gR_10_1 (h : AH) (co : Nat) (S : ST) : aFR (mk h co S) (co + 10) 5 1 = some (co + 12) := by
  unfold aFR
  rw [show (mk h co S).2.2 (co + 10) = _ from g_obj (c := 10) (Or.inr (by decide)) (by decide) rfl]
  rfl
theorem gI_10_2 (h : AH) (co : Nat) (S : ST) : aFI (mk h co S) (co + 10) 5 2 = some (S.1 10 2) := by
  unfold aFI
  rw [show (mk h co S).2.2 (co + 10) = _ from g_obj (c := 10) (Or.inr (by decide)) (by decide) rfl]
  rfl
theorem gP_10_2 (h : AH) (co : Nat) (S : ST) (x : Int32) : aFP (mk h co S) (co + 10) 5 2 (.int x) = some (mk h co (sI S 10 2 x)) := g_FP (c := 10) (Or.inr (by decide)) (by decide) rfl rfl
theorem gI_10_3 (h : AH) (co : Nat) (S : ST) : aFI (mk h co S) (co + 10) 5 3 = some (S.1 10 3) := by
  unfold aFI
  rw [show (mk h co S).2.2 (co + 10) = _ from g_obj (c := 10) (Or.inr (by decide)) (by decide) rfl]
  rfl
theorem gP_10_3 (h : AH) (co : Nat) (S : ST) (x : Int32) : aFP (mk h co S) (co + 10) 5 3 (.int x) = some (mk h co (sI S 10 3 x)) := g_FP (c := 10) (Or.inr (by decide)) (by decide) rfl rfl
theorem gI_10_4 (h : AH) (co : Nat) (S : ST) : aFI (mk h co S) (co + 10) 5 4 = some (S.1 10 4) := by
  unfold aFI
  rw [show (mk h co S).2.2 (co + 10) = _ from g_obj (c := 10) (Or.inr (by decide)) (by decide) rfl]
  rfl
theorem gP_10_4 (h : AH) (co : Nat) (S : ST) (x : Int32) : aFP (mk h co S) (co + 10) 5 4 (.int x) = some (mk h co (sI S 10 4 x)) := g_FP (c := 10) (Or.inr (by decide)) (by decide) rfl rfl
theorem gI_10_5 (h : AH) (co : Nat) (S : ST) : aFI (mk h co S) (co + 10) 5 5 = some (S.1 10 5) := by
  unfold aFI
  rw [show (mk h co S).2.2 (co + 10) = _ from g_obj (c := 10) (Or.inr (by decide)) (by decide) rfl]
  rfl
theorem gP_10_5 (h : AH) (co : Nat) (S : ST) (x : Int32) : aFP (mk h co S) (co + 10) 5 5 (.int x) = some (mk h co (sI S 10 5 x)) := g_FP (c := 10) (Or.inr (by decide)) (by decide) rfl rfl
theorem gI_10_6 (h : AH) (co : Nat) (S : ST) : aFI (mk h co S) (co + 10) 5 6 = some (S.1 10 6) := by
  unfold aFI
  rw [show (mk h co S).2.2 (co + 10) = _ from g_obj (c := 10) (Or.inr (by decide)) (by decide) rfl]
  rfl
theorem gP_10_6 (h : AH) (co : Nat) (S : ST) (x : Int32) : aFP (mk h co S) (co + 10) 5 6 (.int x) = some (mk h co (sI S 10 6 x)) := g_FP (c := 10) (Or.inr (by decide)) (by decide) rfl rfl
theorem gC_13 (h : AH) (co : Nat) (S : ST) : aCl (mk h co S) (co + 13) 2 = some () := by
  unfold aCl
  rw [show (mk h co S).2.2 (co + 13) = _ from g_obj (c := 13) (Or.inr (by decide)) (by decide) rfl]
  rfl
theorem gR_13_0 (h : AH) (co : Nat) (S : ST) : aFR (mk h co S) (co + 13) 2 0 = some (co + 14) := by
  unfold aFR
  rw [show (mk h co S).2.2 (co + 13) = _ from g_obj (c := 13) (Or.inr (by decide)) (by decide) rfl]
  rfl
theorem gR_13_1 (h : AH) (co : Nat) (S : ST) : aFR (mk h co S) (co + 13) 2 1 = some (co + 15) := by
  unfold aFR
  rw [show (mk h co S).2.2 (co + 13) = _ from g_obj (c := 13) (Or.inr (by decide)) (by decide) rfl]
  rfl
theorem gR_13_2 (h : AH) (co : Nat) (S : ST) : aFR (mk h co S) (co + 13) 2 2 = some (co + 16) := by
  unfold aFR
  rw [show (mk h co S).2.2 (co + 13) = _ from g_obj (c := 13) (Or.inr (by decide)) (by decide) rfl]
  rfl
theorem gR_13_3 (h : AH) (co : Nat) (S : ST) : aFR (mk h co S) (co + 13) 2 3 = some (S.2.1 13) := by
  unfold aFR
  rw [show (mk h co S).2.2 (co + 13) = _ from g_obj (c := 13) (Or.inr (by decide)) (by decide) rfl]
  rfl
theorem gI_13_4 (h : AH) (co : Nat) (S : ST) : aFI (mk h co S) (co + 13) 2 4 = some (S.1 13 4) := by
  unfold aFI
  rw [show (mk h co S).2.2 (co + 13) = _ from g_obj (c := 13) (Or.inr (by decide)) (by decide) rfl]
  rfl
theorem gP_13_4 (h : AH) (co : Nat) (S : ST) (x : Int32) : aFP (mk h co S) (co + 13) 2 4 (.int x) = some (mk h co (sI S 13 4 x)) := g_FP (c := 13) (Or.inr (by decide)) (by decide) rfl rfl
theorem gI_13_5 (h : AH) (co : Nat) (S : ST) : aFI (mk h co S) (co + 13) 2 5 = some (S.1 13 5) := by
  unfold aFI
  rw [show (mk h co S).2.2 (co + 13) = _ from g_obj (c := 13) (Or.inr (by decide)) (by decide) rfl]
  rfl
theorem gP_13_5 (h : AH) (co : Nat) (S : ST) (x : Int32) : aFP (mk h co S) (co + 13) 2 5 (.int x) = some (mk h co (sI S 13 5 x)) := g_FP (c := 13) (Or.inr (by decide)) (by decide) rfl rfl
theorem gI_13_6 (h : AH) (co : Nat) (S : ST) : aFI (mk h co S) (co + 13) 2 6 = some (S.1 13 6) := by
  unfold aFI
  rw [show (mk h co S).2.2 (co + 13) = _ from g_obj (c := 13) (Or.inr (by decide)) (by decide) rfl]
  rfl
theorem gP_13_6 (h : AH) (co : Nat) (S : ST) (x : Int32) : aFP (mk h co S) (co + 13) 2 6 (.int x) = some (mk h co (sI S 13 6 x)) := g_FP (c := 13) (Or.inr (by decide)) (by decide) rfl rfl
theorem gI_13_7 (h : AH) (co : Nat) (S : ST) : aFI (mk h co S) (co + 13) 2 7 = some (S.1 13 7) := by
  unfold aFI
  rw [show (mk h co S).2.2 (co + 13) = _ from g_obj (c := 13) (Or.inr (by decide)) (by decide) rfl]
  rfl
theorem gP_13_7 (h : AH) (co : Nat) (S : ST) (x : Int32) : aFP (mk h co S) (co + 13) 2 7 (.int x) = some (mk h co (sI S 13 7 x)) := g_FP (c := 13) (Or.inr (by decide)) (by decide) rfl rfl
theorem gI_13_8 (h : AH) (co : Nat) (S : ST) : aFI (mk h co S) (co + 13) 2 8 = some (S.1 13 8) := by
  unfold aFI
  rw [show (mk h co S).2.2 (co + 13) = _ from g_obj (c := 13) (Or.inr (by decide)) (by decide) rfl]
  rfl
theorem gP_13_8 (h : AH) (co : Nat) (S : ST) (x : Int32) : aFP (mk h co S) (co + 13) 2 8 (.int x) = some (mk h co (sI S 13 8 x)) := g_FP (c := 13) (Or.inr (by decide)) (by decide) rfl rfl
theorem gI_13_9 (h : AH) (co : Nat) (S : ST) : aFI (mk h co S) (co + 13) 2 9 = some (S.1 13 9) := by
  unfold aFI
  rw [show (mk h co S).2.2 (co + 13) = _ from g_obj (c := 13) (Or.inr (by decide)) (by decide) rfl]
  rfl
theorem gP_13_9 (h : AH) (co : Nat) (S : ST) (x : Int32) : aFP (mk h co S) (co + 13) 2 9 (.int x) = some (mk h co (sI S 13 9 x)) := g_FP (c := 13) (Or.inr (by decide)) (by decide) rfl rfl
theorem gC_17 (h : AH) (co : Nat) (S : ST) : aCl (mk h co S) (co + 17) 2 = some () := by
  unfold aCl
  rw [show (mk h co S).2.2 (co + 17) = _ from g_obj (c := 17) (Or.inr (by decide)) (by decide) rfl]
  rfl
theorem gR_17_0 (h : AH) (co : Nat) (S : ST) : aFR (mk h co S) (co + 17) 2 0 = some (co + 18) := by
  unfold aFR
  rw [show (mk h co S).2.2 (co + 17) = _ from g_obj (c := 17) (Or.inr (by decide)) (by decide) rfl]
  rfl
theorem gR_17_1 (h : AH) (co : Nat) (S : ST) : aFR (mk h co S) (co + 17) 2 1 = some (co + 19) := by
  unfold aFR
  rw [show (mk h co S).2.2 (co + 17) = _ from g_obj (c := 17) (Or.inr (by decide)) (by decide) rfl]
  rfl
theorem gR_17_2 (h : AH) (co : Nat) (S : ST) : aFR (mk h co S) (co + 17) 2 2 = some (co + 20) := by
  unfold aFR
  rw [show (mk h co S).2.2 (co + 17) = _ from g_obj (c := 17) (Or.inr (by decide)) (by decide) rfl]
  rfl
theorem gR_17_3 (h : AH) (co : Nat) (S : ST) : aFR (mk h co S) (co + 17) 2 3 = some (S.2.1 17) := by
  unfold aFR
  rw [show (mk h co S).2.2 (co + 17) = _ from g_obj (c := 17) (Or.inr (by decide)) (by decide) rfl]
  rfl
theorem gI_17_4 (h : AH) (co : Nat) (S : ST) : aFI (mk h co S) (co + 17) 2 4 = some (S.1 17 4) := by
  unfold aFI
  rw [show (mk h co S).2.2 (co + 17) = _ from g_obj (c := 17) (Or.inr (by decide)) (by decide) rfl]
  rfl
theorem gP_17_4 (h : AH) (co : Nat) (S : ST) (x : Int32) : aFP (mk h co S) (co + 17) 2 4 (.int x) = some (mk h co (sI S 17 4 x)) := g_FP (c := 17) (Or.inr (by decide)) (by decide) rfl rfl
theorem gI_17_5 (h : AH) (co : Nat) (S : ST) : aFI (mk h co S) (co + 17) 2 5 = some (S.1 17 5) := by
  unfold aFI
  rw [show (mk h co S).2.2 (co + 17) = _ from g_obj (c := 17) (Or.inr (by decide)) (by decide) rfl]
  rfl
theorem gP_17_5 (h : AH) (co : Nat) (S : ST) (x : Int32) : aFP (mk h co S) (co + 17) 2 5 (.int x) = some (mk h co (sI S 17 5 x)) := g_FP (c := 17) (Or.inr (by decide)) (by decide) rfl rfl
theorem gI_17_6 (h : AH) (co : Nat) (S : ST) : aFI (mk h co S) (co + 17) 2 6 = some (S.1 17 6) := by
  unfold aFI
  rw [show (mk h co S).2.2 (co + 17) = _ from g_obj (c := 17) (Or.inr (by decide)) (by decide) rfl]
  rfl
theorem gP_17_6 (h : AH) (co : Nat) (S : ST) (x : Int32) : aFP (mk h co S) (co + 17) 2 6 (.int x) = some (mk h co (sI S 17 6 x)) := g_FP (c := 17) (Or.inr (by decide)) (by decide) rfl rfl
theorem gI_17_7 (h : AH) (co : Nat) (S : ST) : aFI (mk h co S) (co + 17) 2 7 = some (S.1 17 7) := by
  unfold aFI
  rw [show (mk h co S).2.2 (co + 17) = _ from g_obj (c := 17) (Or.inr (by decide)) (by decide) rfl]
  rfl
theorem gP_17_7 (h : AH) (co : Nat) (S : ST) (x : Int32) : aFP (mk h co S) (co + 17) 2 7 (.int x) = some (mk h co (sI S 17 7 x)) := g_FP (c := 17) (Or.inr (by decide)) (by decide) rfl rfl
theorem gI_17_8 (h : AH) (co : Nat) (S : ST) : aFI (mk h co S) (co + 17) 2 8 = some (S.1 17 8) := by
  unfold aFI
  rw [show (mk h co S).2.2 (co + 17) = _ from g_obj (c := 17) (Or.inr (by decide)) (by decide) rfl]
  rfl
theorem gP_17_8 (h : AH) (co : Nat) (S : ST) (x : Int32) : aFP (mk h co S) (co + 17) 2 8 (.int x) = some (mk h co (sI S 17 8 x)) := g_FP (c := 17) (Or.inr (by decide)) (by decide) rfl rfl
theorem gI_17_9 (h : AH) (co : Nat) (S : ST) : aFI (mk h co S) (co + 17) 2 9 = some (S.1 17 9) := by
  unfold aFI
  rw [show (mk h co S).2.2 (co + 17) = _ from g_obj (c := 17) (Or.inr (by decide)) (by decide) rfl]
  rfl
theorem gP_17_9 (h : AH) (co : Nat) (S : ST) (x : Int32) : aFP (mk h co S) (co + 17) 2 9 (.int x) = some (mk h co (sI S 17 9 x)) := g_FP (c := 17) (Or.inr (by decide)) (by decide) rfl rfl
theorem gC_22 (h : AH) (co : Nat) (S : ST) : aCl (mk h co S) (co + 22) 2 = some () := by
  unfold aCl
  rw [show (mk h co S).2.2 (co + 22) = _ from g_obj (c := 22) (Or.inr (by decide)) (by decide) rfl]
  rfl
theorem gR_22_0 (h : AH) (co : Nat) (S : ST) : aFR (mk h co S) (co + 22) 2 0 = some (co + 23) := by
  unfold aFR
  rw [show (mk h co S).2.2 (co + 22) = _ from g_obj (c := 22) (Or.inr (by decide)) (by decide) rfl]
  rfl
theorem gR_22_1 (h : AH) (co : Nat) (S : ST) : aFR (mk h co S) (co + 22) 2 1 = some (co + 24) := by
  unfold aFR
  rw [show (mk h co S).2.2 (co + 22) = _ from g_obj (c := 22) (Or.inr (by decide)) (by decide) rfl]
  rfl
theorem gR_22_2 (h : AH) (co : Nat) (S : ST) : aFR (mk h co S) (co + 22) 2 2 = some (co + 25) := by
  unfold aFR
  rw [show (mk h co S).2.2 (co + 22) = _ from g_obj (c := 22) (Or.inr (by decide)) (by decide) rfl]
  rfl
theorem gR_22_3 (h : AH) (co : Nat) (S : ST) : aFR (mk h co S) (co + 22) 2 3 = some (S.2.1 22) := by
  unfold aFR
  rw [show (mk h co S).2.2 (co + 22) = _ from g_obj (c := 22) (Or.inr (by decide)) (by decide) rfl]
  rfl
theorem gI_22_4 (h : AH) (co : Nat) (S : ST) : aFI (mk h co S) (co + 22) 2 4 = some (S.1 22 4) := by
  unfold aFI
  rw [show (mk h co S).2.2 (co + 22) = _ from g_obj (c := 22) (Or.inr (by decide)) (by decide) rfl]
  rfl
theorem gP_22_4 (h : AH) (co : Nat) (S : ST) (x : Int32) : aFP (mk h co S) (co + 22) 2 4 (.int x) = some (mk h co (sI S 22 4 x)) := g_FP (c := 22) (Or.inr (by decide)) (by decide) rfl rfl
theorem gI_22_5 (h : AH) (co : Nat) (S : ST) : aFI (mk h co S) (co + 22) 2 5 = some (S.1 22 5) := by
  unfold aFI
  rw [show (mk h co S).2.2 (co + 22) = _ from g_obj (c := 22) (Or.inr (by decide)) (by decide) rfl]
  rfl
theorem gP_22_5 (h : AH) (co : Nat) (S : ST) (x : Int32) : aFP (mk h co S) (co + 22) 2 5 (.int x) = some (mk h co (sI S 22 5 x)) := g_FP (c := 22) (Or.inr (by decide)) (by decide) rfl rfl
theorem gI_22_6 (h : AH) (co : Nat) (S : ST) : aFI (mk h co S) (co + 22) 2 6 = some (S.1 22 6) := by
  unfold aFI
  rw [show (mk h co S).2.2 (co + 22) = _ from g_obj (c := 22) (Or.inr (by decide)) (by decide) rfl]
  rfl
theorem gP_22_6 (h : AH) (co : Nat) (S : ST) (x : Int32) : aFP (mk h co S) (co + 22) 2 6 (.int x) = some (mk h co (sI S 22 6 x)) := g_FP (c := 22) (Or.inr (by decide)) (by decide) rfl rfl
theorem gI_22_7 (h : AH) (co : Nat) (S : ST) : aFI (mk h co S) (co + 22) 2 7 = some (S.1 22 7) := by
  unfold aFI
  rw [show (mk h co S).2.2 (co + 22) = _ from g_obj (c := 22) (Or.inr (by decide)) (by decide) rfl]
  rfl
theorem gP_22_7 (h : AH) (co : Nat) (S : ST) (x : Int32) : aFP (mk h co S) (co + 22) 2 7 (.int x) = some (mk h co (sI S 22 7 x)) := g_FP (c := 22) (Or.inr (by decide)) (by decide) rfl rfl
theorem gI_22_8 (h : AH) (co : Nat) (S : ST) : aFI (mk h co S) (co + 22) 2 8 = some (S.1 22 8) := by
  unfold aFI
  rw [show (mk h co S).2.2 (co + 22) = _ from g_obj (c := 22) (Or.inr (by decide)) (by decide) rfl]
  rfl
theorem gP_22_8 (h : AH) (co : Nat) (S : ST) (x : Int32) : aFP (mk h co S) (co + 22) 2 8 (.int x) = some (mk h co (sI S 22 8 x)) := g_FP (c := 22) (Or.inr (by decide)) (by decide) rfl rfl
theorem gI_22_9 (h : AH) (co : Nat) (S : ST) : aFI (mk h co S) (co + 22) 2 9 = some (S.1 22 9) := by
  unfold aFI
  rw [show (mk h co S).2.2 (co + 22) = _ from g_obj (c := 22) (Or.inr (by decide)) (by decide) rfl]
  rfl
theorem gP_22_9 (h : AH) (co : Nat) (S : ST) (x : Int32) : aFP (mk h co S) (co + 22) 2 9 (.int x) = some (mk h co (sI S 22 9 x)) := g_FP (c := 22) (Or.inr (by decide)) (by decide) rfl rfl
theorem gC_26 (h : AH) (co : Nat) (S : ST) : aCl (mk h co S) (co + 26) 2 = some () := by
  unfold aCl
  rw [show (mk h co S).2.2 (co + 26) = _ from g_obj (c := 26) (Or.inr (by decide)) (by decide) rfl]
  rfl
theorem gR_26_0 (h : AH) (co : Nat) (S : ST) : aFR (mk h co S) (co + 26) 2 0 = some (co + 27) := by
  unfold aFR
  rw [show (mk h co S).2.2 (co + 26) = _ from g_obj (c := 26) (Or.inr (by decide)) (by decide) rfl]
  rfl
theorem gR_26_1 (h : AH) (co : Nat) (S : ST) : aFR (mk h co S) (co + 26) 2 1 = some (co + 28) := by
  unfold aFR
  rw [show (mk h co S).2.2 (co + 26) = _ from g_obj (c := 26) (Or.inr (by decide)) (by decide) rfl]
  rfl
theorem gR_26_2 (h : AH) (co : Nat) (S : ST) : aFR (mk h co S) (co + 26) 2 2 = some (co + 29) := by
  unfold aFR
  rw [show (mk h co S).2.2 (co + 26) = _ from g_obj (c := 26) (Or.inr (by decide)) (by decide) rfl]
  rfl
theorem gR_26_3 (h : AH) (co : Nat) (S : ST) : aFR (mk h co S) (co + 26) 2 3 = some (S.2.1 26) := by
  unfold aFR
  rw [show (mk h co S).2.2 (co + 26) = _ from g_obj (c := 26) (Or.inr (by decide)) (by decide) rfl]
  rfl
theorem gI_26_4 (h : AH) (co : Nat) (S : ST) : aFI (mk h co S) (co + 26) 2 4 = some (S.1 26 4) := by
  unfold aFI
  rw [show (mk h co S).2.2 (co + 26) = _ from g_obj (c := 26) (Or.inr (by decide)) (by decide) rfl]
  rfl
theorem gP_26_4 (h : AH) (co : Nat) (S : ST) (x : Int32) : aFP (mk h co S) (co + 26) 2 4 (.int x) = some (mk h co (sI S 26 4 x)) := g_FP (c := 26) (Or.inr (by decide)) (by decide) rfl rfl
theorem gI_26_5 (h : AH) (co : Nat) (S : ST) : aFI (mk h co S) (co + 26) 2 5 = some (S.1 26 5) := by
  unfold aFI
  rw [show (mk h co S).2.2 (co + 26) = _ from g_obj (c := 26) (Or.inr (by decide)) (by decide) rfl]
  rfl
theorem gP_26_5 (h : AH) (co : Nat) (S : ST) (x : Int32) : aFP (mk h co S) (co + 26) 2 5 (.int x) = some (mk h co (sI S 26 5 x)) := g_FP (c := 26) (Or.inr (by decide)) (by decide) rfl rfl
theorem gI_26_6 (h : AH) (co : Nat) (S : ST) : aFI (mk h co S) (co + 26) 2 6 = some (S.1 26 6) := by
  unfold aFI
  rw [show (mk h co S).2.2 (co + 26) = _ from g_obj (c := 26) (Or.inr (by decide)) (by decide) rfl]
  rfl
theorem gP_26_6 (h : AH) (co : Nat) (S : ST) (x : Int32) : aFP (mk h co S) (co + 26) 2 6 (.int x) = some (mk h co (sI S 26 6 x)) := g_FP (c := 26) (Or.inr (by decide)) (by decide) rfl rfl
theorem gI_26_7 (h : AH) (co : Nat) (S : ST) : aFI (mk h co S) (co + 26) 2 7 = some (S.1 26 7) := by
  unfold aFI
  rw [show (mk h co S).2.2 (co + 26) = _ from g_obj (c := 26) (Or.inr (by decide)) (by decide) rfl]
  rfl
theorem gP_26_7 (h : AH) (co : Nat) (S : ST) (x : Int32) : aFP (mk h co S) (co + 26) 2 7 (.int x) = some (mk h co (sI S 26 7 x)) := g_FP (c := 26) (Or.inr (by decide)) (by decide) rfl rfl
theorem gI_26_8 (h : AH) (co : Nat) (S : ST) : aFI (mk h co S) (co + 26) 2 8 = some (S.1 26 8) := by
  unfold aFI
  rw [show (mk h co S).2.2 (co + 26) = _ from g_obj (c := 26) (Or.inr (by decide)) (by decide) rfl]
  rfl
theorem gP_26_8 (h : AH) (co : Nat) (S : ST) (x : Int32) : aFP (mk h co S) (co + 26) 2 8 (.int x) = some (mk h co (sI S 26 8 x)) := g_FP (c := 26) (Or.inr (by decide)) (by decide) rfl rfl
theorem gI_26_9 (h : AH) (co : Nat) (S : ST) : aFI (mk h co S) (co + 26) 2 9 = some (S.1 26 9) := by
  unfold aFI
  rw [show (mk h co S).2.2 (co + 26) = _ from g_obj (c := 26) (Or.inr (by decide)) (by decide) rfl]
  rfl
theorem gP_26_9 (h : AH) (co : Nat) (S : ST) (x : Int32) : aFP (mk h co S) (co + 26) 2 9 (.int x) = some (mk h co (sI S 26 9 x)) := g_FP (c := 26) (Or.inr (by decide)) (by decide) rfl rfl
theorem gC_30 (h : AH) (co : Nat) (S : ST) : aCl (mk h co S) (co + 30) 0 = some () := by
  unfold aCl
  rw [show (mk h co S).2.2 (co + 30) = _ from g_obj (c := 30) (Or.inr (by decide)) (by decide) rfl]
  rfl
theorem gR_30_0 (h : AH) (co : Nat) (S : ST) : aFR (mk h co S) (co + 30) 0 0 = some (co + 31) := by
  unfold aFR
  rw [show (mk h co S).2.2 (co + 30) = _ from g_obj (c := 30) (Or.inr (by decide)) (by decide) rfl]
  rfl
theorem gI_30_1 (h : AH) (co : Nat) (S : ST) : aFI (mk h co S) (co + 30) 0 1 = some (S.1 30 1) := by
  unfold aFI
  rw [show (mk h co S).2.2 (co + 30) = _ from g_obj (c := 30) (Or.inr (by decide)) (by decide) rfl]
  rfl
theorem gP_30_1 (h : AH) (co : Nat) (S : ST) (x : Int32) : aFP (mk h co S) (co + 30) 0 1 (.int x) = some (mk h co (sI S 30 1 x)) := g_FP (c := 30) (Or.inr (by decide)) (by decide) rfl rfl
theorem gI_30_2 (h : AH) (co : Nat) (S : ST) : aFI (mk h co S) (co + 30) 0 2 = some (S.1 30 2) := by
  unfold aFI
  rw [show (mk h co S).2.2 (co + 30) = _ from g_obj (c := 30) (Or.inr (by decide)) (by decide) rfl]
  rfl
theorem gP_30_2 (h : AH) (co : Nat) (S : ST) (x : Int32) : aFP (mk h co S) (co + 30) 0 2 (.int x) = some (mk h co (sI S 30 2 x)) := g_FP (c := 30) (Or.inr (by decide)) (by decide) rfl rfl
theorem gC_32 (h : AH) (co : Nat) (S : ST) : aCl (mk h co S) (co + 32) 4 = some () := by
  unfold aCl
  rw [show (mk h co S).2.2 (co + 32) = _ from g_obj (c := 32) (Or.inr (by decide)) (by decide) rfl]
  rfl
theorem gR_32_0 (h : AH) (co : Nat) (S : ST) : aFR (mk h co S) (co + 32) 4 0 = some (co + 33) := by
  unfold aFR
  rw [show (mk h co S).2.2 (co + 32) = _ from g_obj (c := 32) (Or.inr (by decide)) (by decide) rfl]
  rfl
theorem gR_32_1 (h : AH) (co : Nat) (S : ST) : aFR (mk h co S) (co + 32) 4 1 = some (co + 37) := by
  unfold aFR
  rw [show (mk h co S).2.2 (co + 32) = _ from g_obj (c := 32) (Or.inr (by decide)) (by decide) rfl]
  rfl
theorem gI_32_2 (h : AH) (co : Nat) (S : ST) : aFI (mk h co S) (co + 32) 4 2 = some (S.1 32 2) := by
  unfold aFI
  rw [show (mk h co S).2.2 (co + 32) = _ from g_obj (c := 32) (Or.inr (by decide)) (by decide) rfl]
  rfl
theorem gP_32_2 (h : AH) (co : Nat) (S : ST) (x : Int32) : aFP (mk h co S) (co + 32) 4 2 (.int x) = some (mk h co (sI S 32 2 x)) := g_FP (c := 32) (Or.inr (by decide)) (by decide) rfl rfl
theorem gC_33 (h : AH) (co : Nat) (S : ST) : aCl (mk h co S) (co + 33) 2 = some () := by
  unfold aCl
  rw [show (mk h co S).2.2 (co + 33) = _ from g_obj (c := 33) (Or.inr (by decide)) (by decide) rfl]
  rfl
theorem gR_33_0 (h : AH) (co : Nat) (S : ST) : aFR (mk h co S) (co + 33) 2 0 = some (co + 34) := by
  unfold aFR
  rw [show (mk h co S).2.2 (co + 33) = _ from g_obj (c := 33) (Or.inr (by decide)) (by decide) rfl]
  rfl
theorem gR_33_1 (h : AH) (co : Nat) (S : ST) : aFR (mk h co S) (co + 33) 2 1 = some (co + 35) := by
  unfold aFR
  rw [show (mk h co S).2.2 (co + 33) = _ from g_obj (c := 33) (Or.inr (by decide)) (by decide) rfl]
  rfl
theorem gR_33_2 (h : AH) (co : Nat) (S : ST) : aFR (mk h co S) (co + 33) 2 2 = some (co + 36) := by
  unfold aFR
  rw [show (mk h co S).2.2 (co + 33) = _ from g_obj (c := 33) (Or.inr (by decide)) (by decide) rfl]
  rfl
theorem gR_33_3 (h : AH) (co : Nat) (S : ST) : aFR (mk h co S) (co + 33) 2 3 = some (S.2.1 33) := by
  unfold aFR
  rw [show (mk h co S).2.2 (co + 33) = _ from g_obj (c := 33) (Or.inr (by decide)) (by decide) rfl]
  rfl
theorem gI_33_4 (h : AH) (co : Nat) (S : ST) : aFI (mk h co S) (co + 33) 2 4 = some (S.1 33 4) := by
  unfold aFI
  rw [show (mk h co S).2.2 (co + 33) = _ from g_obj (c := 33) (Or.inr (by decide)) (by decide) rfl]
  rfl
theorem gP_33_4 (h : AH) (co : Nat) (S : ST) (x : Int32) : aFP (mk h co S) (co + 33) 2 4 (.int x) = some (mk h co (sI S 33 4 x)) := g_FP (c := 33) (Or.inr (by decide)) (by decide) rfl rfl
theorem gI_33_5 (h : AH) (co : Nat) (S : ST) : aFI (mk h co S) (co + 33) 2 5 = some (S.1 33 5) := by
  unfold aFI
  rw [show (mk h co S).2.2 (co + 33) = _ from g_obj (c := 33) (Or.inr (by decide)) (by decide) rfl]
  rfl
theorem gP_33_5 (h : AH) (co : Nat) (S : ST) (x : Int32) : aFP (mk h co S) (co + 33) 2 5 (.int x) = some (mk h co (sI S 33 5 x)) := g_FP (c := 33) (Or.inr (by decide)) (by decide) rfl rfl
theorem gI_33_6 (h : AH) (co : Nat) (S : ST) : aFI (mk h co S) (co + 33) 2 6 = some (S.1 33 6) := by
  unfold aFI
  rw [show (mk h co S).2.2 (co + 33) = _ from g_obj (c := 33) (Or.inr (by decide)) (by decide) rfl]
  rfl
theorem gP_33_6 (h : AH) (co : Nat) (S : ST) (x : Int32) : aFP (mk h co S) (co + 33) 2 6 (.int x) = some (mk h co (sI S 33 6 x)) := g_FP (c := 33) (Or.inr (by decide)) (by decide) rfl rfl
theorem gI_33_7 (h : AH) (co : Nat) (S : ST) : aFI (mk h co S) (co + 33) 2 7 = some (S.1 33 7) := by
  unfold aFI
  rw [show (mk h co S).2.2 (co + 33) = _ from g_obj (c := 33) (Or.inr (by decide)) (by decide) rfl]
  rfl
theorem gP_33_7 (h : AH) (co : Nat) (S : ST) (x : Int32) : aFP (mk h co S) (co + 33) 2 7 (.int x) = some (mk h co (sI S 33 7 x)) := g_FP (c := 33) (Or.inr (by decide)) (by decide) rfl rfl
theorem gI_33_8 (h : AH) (co : Nat) (S : ST) : aFI (mk h co S) (co + 33) 2 8 = some (S.1 33 8) := by
  unfold aFI
  rw [show (mk h co S).2.2 (co + 33) = _ from g_obj (c := 33) (Or.inr (by decide)) (by decide) rfl]
  rfl
theorem gP_33_8 (h : AH) (co : Nat) (S : ST) (x : Int32) : aFP (mk h co S) (co + 33) 2 8 (.int x) = some (mk h co (sI S 33 8 x)) := g_FP (c := 33) (Or.inr (by decide)) (by decide) rfl rfl
theorem gI_33_9 (h : AH) (co : Nat) (S : ST) : aFI (mk h co S) (co + 33) 2 9 = some (S.1 33 9) := by
  unfold aFI
  rw [show (mk h co S).2.2 (co + 33) = _ from g_obj (c := 33) (Or.inr (by decide)) (by decide) rfl]
  rfl
theorem gP_33_9 (h : AH) (co : Nat) (S : ST) (x : Int32) : aFP (mk h co S) (co + 33) 2 9 (.int x) = some (mk h co (sI S 33 9 x)) := g_FP (c := 33) (Or.inr (by decide)) (by decide) rfl rfl
theorem gC_38 (h : AH) (co : Nat) (S : ST) : aCl (mk h co S) (co + 38) 1 = some () := by
  unfold aCl
  rw [show (mk h co S).2.2 (co + 38) = _ from g_obj (c := 38) (Or.inr (by decide)) (by decide) rfl]
  rfl
theorem gR_38_0 (h : AH) (co : Nat) (S : ST) : aFR (mk h co S) (co + 38) 1 0 = some (co + 39) := by
  unfold aFR
  rw [show (mk h co S).2.2 (co + 38) = _ from g_obj (c := 38) (Or.inr (by decide)) (by decide) rfl]
  rfl
theorem gI_38_1 (h : AH) (co : Nat) (S : ST) : aFI (mk h co S) (co + 38) 1 1 = some (S.1 38 1) := by
  unfold aFI
  rw [show (mk h co S).2.2 (co + 38) = _ from g_obj (c := 38) (Or.inr (by decide)) (by decide) rfl]
  rfl
theorem gP_38_1 (h : AH) (co : Nat) (S : ST) (x : Int32) : aFP (mk h co S) (co + 38) 1 1 (.int x) = some (mk h co (sI S 38 1 x)) := g_FP (c := 38) (Or.inr (by decide)) (by decide) rfl rfl
theorem gC_40 (h : AH) (co : Nat) (S : ST) : aCl (mk h co S) (co + 40) 8 = some () := by
  unfold aCl
  rw [show (mk h co S).2.2 (co + 40) = _ from g_obj (c := 40) (Or.inr (by decide)) (by decide) rfl]
  rfl
theorem gR_40_0 (h : AH) (co : Nat) (S : ST) : aFR (mk h co S) (co + 40) 8 0 = some (co + 41) := by
  unfold aFR
  rw [show (mk h co S).2.2 (co + 40) = _ from g_obj (c := 40) (Or.inr (by decide)) (by decide) rfl]
  rfl
theorem gR_40_1 (h : AH) (co : Nat) (S : ST) : aFR (mk h co S) (co + 40) 8 1 = some (co + 42) := by
  unfold aFR
  rw [show (mk h co S).2.2 (co + 40) = _ from g_obj (c := 40) (Or.inr (by decide)) (by decide) rfl]
  rfl
theorem gR_40_2 (h : AH) (co : Nat) (S : ST) : aFR (mk h co S) (co + 40) 8 2 = some (co + 43) := by
  unfold aFR
  rw [show (mk h co S).2.2 (co + 40) = _ from g_obj (c := 40) (Or.inr (by decide)) (by decide) rfl]
  rfl
theorem gR_40_3 (h : AH) (co : Nat) (S : ST) : aFR (mk h co S) (co + 40) 8 3 = some (co + 44) := by
  unfold aFR
  rw [show (mk h co S).2.2 (co + 40) = _ from g_obj (c := 40) (Or.inr (by decide)) (by decide) rfl]
  rfl
theorem gI_40_4 (h : AH) (co : Nat) (S : ST) : aFI (mk h co S) (co + 40) 8 4 = some (S.1 40 4) := by
  unfold aFI
  rw [show (mk h co S).2.2 (co + 40) = _ from g_obj (c := 40) (Or.inr (by decide)) (by decide) rfl]
  rfl
theorem gP_40_4 (h : AH) (co : Nat) (S : ST) (x : Int32) : aFP (mk h co S) (co + 40) 8 4 (.int x) = some (mk h co (sI S 40 4 x)) := g_FP (c := 40) (Or.inr (by decide)) (by decide) rfl rfl
theorem gR_40_5 (h : AH) (co : Nat) (S : ST) : aFR (mk h co S) (co + 40) 8 5 = some (co + 45) := by
  unfold aFR
  rw [show (mk h co S).2.2 (co + 40) = _ from g_obj (c := 40) (Or.inr (by decide)) (by decide) rfl]
  rfl
theorem gI_40_6 (h : AH) (co : Nat) (S : ST) : aFI (mk h co S) (co + 40) 8 6 = some (S.1 40 6) := by
  unfold aFI
  rw [show (mk h co S).2.2 (co + 40) = _ from g_obj (c := 40) (Or.inr (by decide)) (by decide) rfl]
  rfl
theorem gP_40_6 (h : AH) (co : Nat) (S : ST) (x : Int32) : aFP (mk h co S) (co + 40) 8 6 (.int x) = some (mk h co (sI S 40 6 x)) := g_FP (c := 40) (Or.inr (by decide)) (by decide) rfl rfl
theorem gI_40_7 (h : AH) (co : Nat) (S : ST) : aFI (mk h co S) (co + 40) 8 7 = some (S.1 40 7) := by
  unfold aFI
  rw [show (mk h co S).2.2 (co + 40) = _ from g_obj (c := 40) (Or.inr (by decide)) (by decide) rfl]
  rfl
theorem gP_40_7 (h : AH) (co : Nat) (S : ST) (x : Int32) : aFP (mk h co S) (co + 40) 8 7 (.int x) = some (mk h co (sI S 40 7 x)) := g_FP (c := 40) (Or.inr (by decide)) (by decide) rfl rfl
theorem gI_40_8 (h : AH) (co : Nat) (S : ST) : aFI (mk h co S) (co + 40) 8 8 = some (S.1 40 8) := by
  unfold aFI
  rw [show (mk h co S).2.2 (co + 40) = _ from g_obj (c := 40) (Or.inr (by decide)) (by decide) rfl]
  rfl
theorem gP_40_8 (h : AH) (co : Nat) (S : ST) (x : Int32) : aFP (mk h co S) (co + 40) 8 8 (.int x) = some (mk h co (sI S 40 8 x)) := g_FP (c := 40) (Or.inr (by decide)) (by decide) rfl rfl
theorem gI_40_9 (h : AH) (co : Nat) (S : ST) : aFI (mk h co S) (co + 40) 8 9 = some (S.1 40 9) := by
  unfold aFI
  rw [show (mk h co S).2.2 (co + 40) = _ from g_obj (c := 40) (Or.inr (by decide)) (by decide) rfl]
  rfl
theorem gP_40_9 (h : AH) (co : Nat) (S : ST) (x : Int32) : aFP (mk h co S) (co + 40) 8 9 (.int x) = some (mk h co (sI S 40 9 x)) := g_FP (c := 40) (Or.inr (by decide)) (by decide) rfl rfl
theorem gI_40_10 (h : AH) (co : Nat) (S : ST) : aFI (mk h co S) (co + 40) 8 10 = some (S.1 40 10) := by
  unfold aFI
  rw [show (mk h co S).2.2 (co + 40) = _ from g_obj (c := 40) (Or.inr (by decide)) (by decide) rfl]
  rfl
theorem gP_40_10 (h : AH) (co : Nat) (S : ST) (x : Int32) : aFP (mk h co S) (co + 40) 8 10 (.int x) = some (mk h co (sI S 40 10 x)) := g_FP (c := 40) (Or.inr (by decide)) (by decide) rfl rfl
theorem gI_40_11 (h : AH) (co : Nat) (S : ST) : aFI (mk h co S) (co + 40) 8 11 = some (S.1 40 11) := by
  unfold aFI
  rw [show (mk h co S).2.2 (co + 40) = _ from g_obj (c := 40) (Or.inr (by decide)) (by decide) rfl]
  rfl
theorem gP_40_11 (h : AH) (co : Nat) (S : ST) (x : Int32) : aFP (mk h co S) (co + 40) 8 11 (.int x) = some (mk h co (sI S 40 11 x)) := g_FP (c := 40) (Or.inr (by decide)) (by decide) rfl rfl
theorem gI_40_12 (h : AH) (co : Nat) (S : ST) : aFI (mk h co S) (co + 40) 8 12 = some (S.1 40 12) := by
  unfold aFI
  rw [show (mk h co S).2.2 (co + 40) = _ from g_obj (c := 40) (Or.inr (by decide)) (by decide) rfl]
  rfl
theorem gP_40_12 (h : AH) (co : Nat) (S : ST) (x : Int32) : aFP (mk h co S) (co + 40) 8 12 (.int x) = some (mk h co (sI S 40 12 x)) := g_FP (c := 40) (Or.inr (by decide)) (by decide) rfl rfl
theorem gR_40_13 (h : AH) (co : Nat) (S : ST) : aFR (mk h co S) (co + 40) 8 13 = some (co + 46) := by
  unfold aFR
  rw [show (mk h co S).2.2 (co + 40) = _ from g_obj (c := 40) (Or.inr (by decide)) (by decide) rfl]
  rfl
theorem gR_40_14 (h : AH) (co : Nat) (S : ST) : aFR (mk h co S) (co + 40) 8 14 = some (co + 47) := by
  unfold aFR
  rw [show (mk h co S).2.2 (co + 40) = _ from g_obj (c := 40) (Or.inr (by decide)) (by decide) rfl]
  rfl
theorem gR_40_15 (h : AH) (co : Nat) (S : ST) : aFR (mk h co S) (co + 40) 8 15 = some (co + 48) := by
  unfold aFR
  rw [show (mk h co S).2.2 (co + 40) = _ from g_obj (c := 40) (Or.inr (by decide)) (by decide) rfl]
  rfl
theorem gR_40_16 (h : AH) (co : Nat) (S : ST) : aFR (mk h co S) (co + 40) 8 16 = some (co + 49) := by
  unfold aFR
  rw [show (mk h co S).2.2 (co + 40) = _ from g_obj (c := 40) (Or.inr (by decide)) (by decide) rfl]
  rfl
theorem gI_40_17 (h : AH) (co : Nat) (S : ST) : aFI (mk h co S) (co + 40) 8 17 = some (S.1 40 17) := by
  unfold aFI
  rw [show (mk h co S).2.2 (co + 40) = _ from g_obj (c := 40) (Or.inr (by decide)) (by decide) rfl]
  rfl
theorem gP_40_17 (h : AH) (co : Nat) (S : ST) (x : Int32) : aFP (mk h co S) (co + 40) 8 17 (.int x) = some (mk h co (sI S 40 17 x)) := g_FP (c := 40) (Or.inr (by decide)) (by decide) rfl rfl
theorem gR_40_18 (h : AH) (co : Nat) (S : ST) : aFR (mk h co S) (co + 40) 8 18 = some (co + 50) := by
  unfold aFR
  rw [show (mk h co S).2.2 (co + 40) = _ from g_obj (c := 40) (Or.inr (by decide)) (by decide) rfl]
  rfl
theorem gR_40_19 (h : AH) (co : Nat) (S : ST) : aFR (mk h co S) (co + 40) 8 19 = some (co + 51) := by
  unfold aFR
  rw [show (mk h co S).2.2 (co + 40) = _ from g_obj (c := 40) (Or.inr (by decide)) (by decide) rfl]
  rfl
theorem gR_40_20 (h : AH) (co : Nat) (S : ST) : aFR (mk h co S) (co + 40) 8 20 = some (co + 52) := by
  unfold aFR
  rw [show (mk h co S).2.2 (co + 40) = _ from g_obj (c := 40) (Or.inr (by decide)) (by decide) rfl]
  rfl
theorem gI_40_21 (h : AH) (co : Nat) (S : ST) : aFI (mk h co S) (co + 40) 8 21 = some (S.1 40 21) := by
  unfold aFI
  rw [show (mk h co S).2.2 (co + 40) = _ from g_obj (c := 40) (Or.inr (by decide)) (by decide) rfl]
  rfl
theorem gP_40_21 (h : AH) (co : Nat) (S : ST) (x : Int32) : aFP (mk h co S) (co + 40) 8 21 (.int x) = some (mk h co (sI S 40 21 x)) := g_FP (c := 40) (Or.inr (by decide)) (by decide) rfl rfl
theorem gL_7 (h : AH) (co : Nat) (S : ST) (i : Int32) (hi : aIn i 8 = true) : aIL (mk h co S) (co + 7) i = some (S.2.2 7 i.toNatClampNeg) := g_IL (c := 7) (Or.inr (by decide)) (by decide) rfl hi
theorem gS_7 (h : AH) (co : Nat) (S : ST) (i x : Int32) (hi : aIn i 8 = true) : aIS (mk h co S) (co + 7) i x = some (mk h co (sA S 7 (upd (S.2.2 7) i.toNatClampNeg x))) := g_IS (c := 7) (Or.inr (by decide)) (by decide) rfl hi
theorem gL_8 (h : AH) (co : Nat) (S : ST) (i : Int32) (hi : aIn i 8 = true) : aIL (mk h co S) (co + 8) i = some (S.2.2 8 i.toNatClampNeg) := g_IL (c := 8) (Or.inr (by decide)) (by decide) rfl hi
theorem gS_8 (h : AH) (co : Nat) (S : ST) (i x : Int32) (hi : aIn i 8 = true) : aIS (mk h co S) (co + 8) i x = some (mk h co (sA S 8 (upd (S.2.2 8) i.toNatClampNeg x))) := g_IS (c := 8) (Or.inr (by decide)) (by decide) rfl hi
theorem gL_9 (h : AH) (co : Nat) (S : ST) (i : Int32) (hi : aIn i 320 = true) : aIL (mk h co S) (co + 9) i = some (S.2.2 9 i.toNatClampNeg) := g_IL (c := 9) (Or.inr (by decide)) (by decide) rfl hi
theorem gS_9 (h : AH) (co : Nat) (S : ST) (i x : Int32) (hi : aIn i 320 = true) : aIS (mk h co S) (co + 9) i x = some (mk h co (sA S 9 (upd (S.2.2 9) i.toNatClampNeg x))) := g_IS (c := 9) (Or.inr (by decide)) (by decide) rfl hi
theorem gL_11 (h : AH) (co : Nat) (S : ST) (i : Int32) (hi : aIn i 100 = true) : aIL (mk h co S) (co + 11) i = some (S.2.2 11 i.toNatClampNeg) := g_IL (c := 11) (Or.inr (by decide)) (by decide) rfl hi
theorem gS_11 (h : AH) (co : Nat) (S : ST) (i x : Int32) (hi : aIn i 100 = true) : aIS (mk h co S) (co + 11) i x = some (mk h co (sA S 11 (upd (S.2.2 11) i.toNatClampNeg x))) := g_IS (c := 11) (Or.inr (by decide)) (by decide) rfl hi
theorem gL_12 (h : AH) (co : Nat) (S : ST) (i : Int32) (hi : aIn i 6 = true) : aIL (mk h co S) (co + 12) i = some (S.2.2 12 i.toNatClampNeg) := g_IL (c := 12) (Or.inr (by decide)) (by decide) rfl hi
theorem gS_12 (h : AH) (co : Nat) (S : ST) (i x : Int32) (hi : aIn i 6 = true) : aIS (mk h co S) (co + 12) i x = some (mk h co (sA S 12 (upd (S.2.2 12) i.toNatClampNeg x))) := g_IS (c := 12) (Or.inr (by decide)) (by decide) rfl hi
theorem gL_14 (h : AH) (co : Nat) (S : ST) (i : Int32) (hi : aIn i 7 = true) : aIL (mk h co S) (co + 14) i = some (S.2.2 14 i.toNatClampNeg) := g_IL (c := 14) (Or.inr (by decide)) (by decide) rfl hi
theorem gS_14 (h : AH) (co : Nat) (S : ST) (i x : Int32) (hi : aIn i 7 = true) : aIS (mk h co S) (co + 14) i x = some (mk h co (sA S 14 (upd (S.2.2 14) i.toNatClampNeg x))) := g_IS (c := 14) (Or.inr (by decide)) (by decide) rfl hi
theorem gL_15 (h : AH) (co : Nat) (S : ST) (i : Int32) (hi : aIn i 7 = true) : aIL (mk h co S) (co + 15) i = some (S.2.2 15 i.toNatClampNeg) := g_IL (c := 15) (Or.inr (by decide)) (by decide) rfl hi
theorem gS_15 (h : AH) (co : Nat) (S : ST) (i x : Int32) (hi : aIn i 7 = true) : aIS (mk h co S) (co + 15) i x = some (mk h co (sA S 15 (upd (S.2.2 15) i.toNatClampNeg x))) := g_IS (c := 15) (Or.inr (by decide)) (by decide) rfl hi
theorem gL_16 (h : AH) (co : Nat) (S : ST) (i : Int32) (hi : aIn i 7 = true) : aIL (mk h co S) (co + 16) i = some (S.2.2 16 i.toNatClampNeg) := g_IL (c := 16) (Or.inr (by decide)) (by decide) rfl hi
theorem gS_16 (h : AH) (co : Nat) (S : ST) (i x : Int32) (hi : aIn i 7 = true) : aIS (mk h co S) (co + 16) i x = some (mk h co (sA S 16 (upd (S.2.2 16) i.toNatClampNeg x))) := g_IS (c := 16) (Or.inr (by decide)) (by decide) rfl hi
theorem gL_18 (h : AH) (co : Nat) (S : ST) (i : Int32) (hi : aIn i 7 = true) : aIL (mk h co S) (co + 18) i = some (S.2.2 18 i.toNatClampNeg) := g_IL (c := 18) (Or.inr (by decide)) (by decide) rfl hi
theorem gS_18 (h : AH) (co : Nat) (S : ST) (i x : Int32) (hi : aIn i 7 = true) : aIS (mk h co S) (co + 18) i x = some (mk h co (sA S 18 (upd (S.2.2 18) i.toNatClampNeg x))) := g_IS (c := 18) (Or.inr (by decide)) (by decide) rfl hi
theorem gL_19 (h : AH) (co : Nat) (S : ST) (i : Int32) (hi : aIn i 7 = true) : aIL (mk h co S) (co + 19) i = some (S.2.2 19 i.toNatClampNeg) := g_IL (c := 19) (Or.inr (by decide)) (by decide) rfl hi
theorem gS_19 (h : AH) (co : Nat) (S : ST) (i x : Int32) (hi : aIn i 7 = true) : aIS (mk h co S) (co + 19) i x = some (mk h co (sA S 19 (upd (S.2.2 19) i.toNatClampNeg x))) := g_IS (c := 19) (Or.inr (by decide)) (by decide) rfl hi
theorem gL_20 (h : AH) (co : Nat) (S : ST) (i : Int32) (hi : aIn i 7 = true) : aIL (mk h co S) (co + 20) i = some (S.2.2 20 i.toNatClampNeg) := g_IL (c := 20) (Or.inr (by decide)) (by decide) rfl hi
theorem gS_20 (h : AH) (co : Nat) (S : ST) (i x : Int32) (hi : aIn i 7 = true) : aIS (mk h co S) (co + 20) i x = some (mk h co (sA S 20 (upd (S.2.2 20) i.toNatClampNeg x))) := g_IS (c := 20) (Or.inr (by decide)) (by decide) rfl hi
theorem gL_23 (h : AH) (co : Nat) (S : ST) (i : Int32) (hi : aIn i 7 = true) : aIL (mk h co S) (co + 23) i = some (S.2.2 23 i.toNatClampNeg) := g_IL (c := 23) (Or.inr (by decide)) (by decide) rfl hi
theorem gS_23 (h : AH) (co : Nat) (S : ST) (i x : Int32) (hi : aIn i 7 = true) : aIS (mk h co S) (co + 23) i x = some (mk h co (sA S 23 (upd (S.2.2 23) i.toNatClampNeg x))) := g_IS (c := 23) (Or.inr (by decide)) (by decide) rfl hi
theorem gL_24 (h : AH) (co : Nat) (S : ST) (i : Int32) (hi : aIn i 7 = true) : aIL (mk h co S) (co + 24) i = some (S.2.2 24 i.toNatClampNeg) := g_IL (c := 24) (Or.inr (by decide)) (by decide) rfl hi
theorem gS_24 (h : AH) (co : Nat) (S : ST) (i x : Int32) (hi : aIn i 7 = true) : aIS (mk h co S) (co + 24) i x = some (mk h co (sA S 24 (upd (S.2.2 24) i.toNatClampNeg x))) := g_IS (c := 24) (Or.inr (by decide)) (by decide) rfl hi
theorem gL_25 (h : AH) (co : Nat) (S : ST) (i : Int32) (hi : aIn i 7 = true) : aIL (mk h co S) (co + 25) i = some (S.2.2 25 i.toNatClampNeg) := g_IL (c := 25) (Or.inr (by decide)) (by decide) rfl hi
theorem gS_25 (h : AH) (co : Nat) (S : ST) (i x : Int32) (hi : aIn i 7 = true) : aIS (mk h co S) (co + 25) i x = some (mk h co (sA S 25 (upd (S.2.2 25) i.toNatClampNeg x))) := g_IS (c := 25) (Or.inr (by decide)) (by decide) rfl hi
theorem gL_27 (h : AH) (co : Nat) (S : ST) (i : Int32) (hi : aIn i 7 = true) : aIL (mk h co S) (co + 27) i = some (S.2.2 27 i.toNatClampNeg) := g_IL (c := 27) (Or.inr (by decide)) (by decide) rfl hi
theorem gS_27 (h : AH) (co : Nat) (S : ST) (i x : Int32) (hi : aIn i 7 = true) : aIS (mk h co S) (co + 27) i x = some (mk h co (sA S 27 (upd (S.2.2 27) i.toNatClampNeg x))) := g_IS (c := 27) (Or.inr (by decide)) (by decide) rfl hi
theorem gL_28 (h : AH) (co : Nat) (S : ST) (i : Int32) (hi : aIn i 7 = true) : aIL (mk h co S) (co + 28) i = some (S.2.2 28 i.toNatClampNeg) := g_IL (c := 28) (Or.inr (by decide)) (by decide) rfl hi
theorem gS_28 (h : AH) (co : Nat) (S : ST) (i x : Int32) (hi : aIn i 7 = true) : aIS (mk h co S) (co + 28) i x = some (mk h co (sA S 28 (upd (S.2.2 28) i.toNatClampNeg x))) := g_IS (c := 28) (Or.inr (by decide)) (by decide) rfl hi
theorem gL_29 (h : AH) (co : Nat) (S : ST) (i : Int32) (hi : aIn i 7 = true) : aIL (mk h co S) (co + 29) i = some (S.2.2 29 i.toNatClampNeg) := g_IL (c := 29) (Or.inr (by decide)) (by decide) rfl hi
theorem gS_29 (h : AH) (co : Nat) (S : ST) (i x : Int32) (hi : aIn i 7 = true) : aIS (mk h co S) (co + 29) i x = some (mk h co (sA S 29 (upd (S.2.2 29) i.toNatClampNeg x))) := g_IS (c := 29) (Or.inr (by decide)) (by decide) rfl hi
theorem gL_31 (h : AH) (co : Nat) (S : ST) (i : Int32) (hi : aIn i 288 = true) : aIL (mk h co S) (co + 31) i = some (S.2.2 31 i.toNatClampNeg) := g_IL (c := 31) (Or.inr (by decide)) (by decide) rfl hi
theorem gS_31 (h : AH) (co : Nat) (S : ST) (i x : Int32) (hi : aIn i 288 = true) : aIS (mk h co S) (co + 31) i x = some (mk h co (sA S 31 (upd (S.2.2 31) i.toNatClampNeg x))) := g_IS (c := 31) (Or.inr (by decide)) (by decide) rfl hi
theorem gL_34 (h : AH) (co : Nat) (S : ST) (i : Int32) (hi : aIn i 7 = true) : aIL (mk h co S) (co + 34) i = some (S.2.2 34 i.toNatClampNeg) := g_IL (c := 34) (Or.inr (by decide)) (by decide) rfl hi
theorem gS_34 (h : AH) (co : Nat) (S : ST) (i x : Int32) (hi : aIn i 7 = true) : aIS (mk h co S) (co + 34) i x = some (mk h co (sA S 34 (upd (S.2.2 34) i.toNatClampNeg x))) := g_IS (c := 34) (Or.inr (by decide)) (by decide) rfl hi
theorem gL_35 (h : AH) (co : Nat) (S : ST) (i : Int32) (hi : aIn i 7 = true) : aIL (mk h co S) (co + 35) i = some (S.2.2 35 i.toNatClampNeg) := g_IL (c := 35) (Or.inr (by decide)) (by decide) rfl hi
theorem gS_35 (h : AH) (co : Nat) (S : ST) (i x : Int32) (hi : aIn i 7 = true) : aIS (mk h co S) (co + 35) i x = some (mk h co (sA S 35 (upd (S.2.2 35) i.toNatClampNeg x))) := g_IS (c := 35) (Or.inr (by decide)) (by decide) rfl hi
theorem gL_36 (h : AH) (co : Nat) (S : ST) (i : Int32) (hi : aIn i 7 = true) : aIL (mk h co S) (co + 36) i = some (S.2.2 36 i.toNatClampNeg) := g_IL (c := 36) (Or.inr (by decide)) (by decide) rfl hi
theorem gS_36 (h : AH) (co : Nat) (S : ST) (i x : Int32) (hi : aIn i 7 = true) : aIS (mk h co S) (co + 36) i x = some (mk h co (sA S 36 (upd (S.2.2 36) i.toNatClampNeg x))) := g_IS (c := 36) (Or.inr (by decide)) (by decide) rfl hi
theorem gL_37 (h : AH) (co : Nat) (S : ST) (i : Int32) (hi : aIn i 12 = true) : aIL (mk h co S) (co + 37) i = some (S.2.2 37 i.toNatClampNeg) := g_IL (c := 37) (Or.inr (by decide)) (by decide) rfl hi
theorem gS_37 (h : AH) (co : Nat) (S : ST) (i x : Int32) (hi : aIn i 12 = true) : aIS (mk h co S) (co + 37) i x = some (mk h co (sA S 37 (upd (S.2.2 37) i.toNatClampNeg x))) := g_IS (c := 37) (Or.inr (by decide)) (by decide) rfl hi
theorem gL_39 (h : AH) (co : Nat) (S : ST) (i : Int32) (hi : aIn i 16 = true) : aIL (mk h co S) (co + 39) i = some (S.2.2 39 i.toNatClampNeg) := g_IL (c := 39) (Or.inr (by decide)) (by decide) rfl hi
theorem gS_39 (h : AH) (co : Nat) (S : ST) (i x : Int32) (hi : aIn i 16 = true) : aIS (mk h co S) (co + 39) i x = some (mk h co (sA S 39 (upd (S.2.2 39) i.toNatClampNeg x))) := g_IS (c := 39) (Or.inr (by decide)) (by decide) rfl hi
theorem gL_41 (h : AH) (co : Nat) (S : ST) (i : Int32) (hi : aIn i 8 = true) : aIL (mk h co S) (co + 41) i = some (S.2.2 41 i.toNatClampNeg) := g_IL (c := 41) (Or.inr (by decide)) (by decide) rfl hi
theorem gS_41 (h : AH) (co : Nat) (S : ST) (i x : Int32) (hi : aIn i 8 = true) : aIS (mk h co S) (co + 41) i x = some (mk h co (sA S 41 (upd (S.2.2 41) i.toNatClampNeg x))) := g_IS (c := 41) (Or.inr (by decide)) (by decide) rfl hi
theorem gL_42 (h : AH) (co : Nat) (S : ST) (i : Int32) (hi : aIn i 8 = true) : aIL (mk h co S) (co + 42) i = some (S.2.2 42 i.toNatClampNeg) := g_IL (c := 42) (Or.inr (by decide)) (by decide) rfl hi
theorem gS_42 (h : AH) (co : Nat) (S : ST) (i x : Int32) (hi : aIn i 8 = true) : aIS (mk h co S) (co + 42) i x = some (mk h co (sA S 42 (upd (S.2.2 42) i.toNatClampNeg x))) := g_IS (c := 42) (Or.inr (by decide)) (by decide) rfl hi
theorem gL_43 (h : AH) (co : Nat) (S : ST) (i : Int32) (hi : aIn i 320 = true) : aIL (mk h co S) (co + 43) i = some (S.2.2 43 i.toNatClampNeg) := g_IL (c := 43) (Or.inr (by decide)) (by decide) rfl hi
theorem gS_43 (h : AH) (co : Nat) (S : ST) (i x : Int32) (hi : aIn i 320 = true) : aIS (mk h co S) (co + 43) i x = some (mk h co (sA S 43 (upd (S.2.2 43) i.toNatClampNeg x))) := g_IS (c := 43) (Or.inr (by decide)) (by decide) rfl hi
theorem gL_44 (h : AH) (co : Nat) (S : ST) (i : Int32) (hi : aIn i 40 = true) : aIL (mk h co S) (co + 44) i = some (S.2.2 44 i.toNatClampNeg) := g_IL (c := 44) (Or.inr (by decide)) (by decide) rfl hi
theorem gS_44 (h : AH) (co : Nat) (S : ST) (i x : Int32) (hi : aIn i 40 = true) : aIS (mk h co S) (co + 44) i x = some (mk h co (sA S 44 (upd (S.2.2 44) i.toNatClampNeg x))) := g_IS (c := 44) (Or.inr (by decide)) (by decide) rfl hi
theorem gL_45 (h : AH) (co : Nat) (S : ST) (i : Int32) (hi : aIn i 100 = true) : aIL (mk h co S) (co + 45) i = some (S.2.2 45 i.toNatClampNeg) := g_IL (c := 45) (Or.inr (by decide)) (by decide) rfl hi
theorem gS_45 (h : AH) (co : Nat) (S : ST) (i x : Int32) (hi : aIn i 100 = true) : aIS (mk h co S) (co + 45) i x = some (mk h co (sA S 45 (upd (S.2.2 45) i.toNatClampNeg x))) := g_IS (c := 45) (Or.inr (by decide)) (by decide) rfl hi
theorem gL_46 (h : AH) (co : Nat) (S : ST) (i : Int32) (hi : aIn i 40 = true) : aIL (mk h co S) (co + 46) i = some (S.2.2 46 i.toNatClampNeg) := g_IL (c := 46) (Or.inr (by decide)) (by decide) rfl hi
theorem gS_46 (h : AH) (co : Nat) (S : ST) (i x : Int32) (hi : aIn i 40 = true) : aIS (mk h co S) (co + 46) i x = some (mk h co (sA S 46 (upd (S.2.2 46) i.toNatClampNeg x))) := g_IS (c := 46) (Or.inr (by decide)) (by decide) rfl hi
theorem gL_47 (h : AH) (co : Nat) (S : ST) (i : Int32) (hi : aIn i 40 = true) : aIL (mk h co S) (co + 47) i = some (S.2.2 47 i.toNatClampNeg) := g_IL (c := 47) (Or.inr (by decide)) (by decide) rfl hi
theorem gS_47 (h : AH) (co : Nat) (S : ST) (i x : Int32) (hi : aIn i 40 = true) : aIS (mk h co S) (co + 47) i x = some (mk h co (sA S 47 (upd (S.2.2 47) i.toNatClampNeg x))) := g_IS (c := 47) (Or.inr (by decide)) (by decide) rfl hi
theorem gL_48 (h : AH) (co : Nat) (S : ST) (i : Int32) (hi : aIn i 40 = true) : aIL (mk h co S) (co + 48) i = some (S.2.2 48 i.toNatClampNeg) := g_IL (c := 48) (Or.inr (by decide)) (by decide) rfl hi
theorem gS_48 (h : AH) (co : Nat) (S : ST) (i x : Int32) (hi : aIn i 40 = true) : aIS (mk h co S) (co + 48) i x = some (mk h co (sA S 48 (upd (S.2.2 48) i.toNatClampNeg x))) := g_IS (c := 48) (Or.inr (by decide)) (by decide) rfl hi
theorem gL_49 (h : AH) (co : Nat) (S : ST) (i : Int32) (hi : aIn i 960 = true) : aIL (mk h co S) (co + 49) i = some (S.2.2 49 i.toNatClampNeg) := g_IL (c := 49) (Or.inr (by decide)) (by decide) rfl hi
theorem gS_49 (h : AH) (co : Nat) (S : ST) (i x : Int32) (hi : aIn i 960 = true) : aIS (mk h co S) (co + 49) i x = some (mk h co (sA S 49 (upd (S.2.2 49) i.toNatClampNeg x))) := g_IS (c := 49) (Or.inr (by decide)) (by decide) rfl hi
theorem gL_50 (h : AH) (co : Nat) (S : ST) (i : Int32) (hi : aIn i 80 = true) : aIL (mk h co S) (co + 50) i = some (S.2.2 50 i.toNatClampNeg) := g_IL (c := 50) (Or.inr (by decide)) (by decide) rfl hi
theorem gS_50 (h : AH) (co : Nat) (S : ST) (i x : Int32) (hi : aIn i 80 = true) : aIS (mk h co S) (co + 50) i x = some (mk h co (sA S 50 (upd (S.2.2 50) i.toNatClampNeg x))) := g_IS (c := 50) (Or.inr (by decide)) (by decide) rfl hi
theorem gL_52 (h : AH) (co : Nat) (S : ST) (i : Int32) (hi : aIn i 16 = true) : aIL (mk h co S) (co + 52) i = some (S.2.2 52 i.toNatClampNeg) := g_IL (c := 52) (Or.inr (by decide)) (by decide) rfl hi
theorem gS_52 (h : AH) (co : Nat) (S : ST) (i x : Int32) (hi : aIn i 16 = true) : aIS (mk h co S) (co + 52) i x = some (mk h co (sA S 52 (upd (S.2.2 52) i.toNatClampNeg x))) := g_IS (c := 52) (Or.inr (by decide)) (by decide) rfl hi
theorem fX0_init (sa : Nat → Nat) (d : Nat) (a0 : Nat) (h : AH) : AMC sa (d + 1) 0 [.ref a0] h = AMV sa d 0 0 [.ref a0] [] h := rfl
theorem fX0_forget (sa : Nat → Nat) (d : Nat) (a0 : Nat) (h : AH) : AMC sa (d + 1) 1 [.ref a0] h = AMV sa d 1 0 [.ref a0] [] h := rfl
theorem fX0_keep (sa : Nat → Nat) (d : Nat) (a0 : Nat) (a1 : Nat) (h : AH) : AMC sa (d + 1) 2 [.ref a0, .ref a1] h = AMV sa d 2 0 [.ref a0, .ref a1, .null] [] h := rfl
theorem fX0_takeBack (sa : Nat → Nat) (d : Nat) (a0 : Nat) (a1 : Nat) (h : AH) : AMC sa (d + 1) 3 [.ref a0, .ref a1] h = AMV sa d 3 0 [.ref a0, .ref a1, .null] [] h := rfl
theorem fX1_init (sa : Nat → Nat) (d : Nat) (a0 : Nat) (h : AH) : AMC sa (d + 1) 4 [.ref a0] h = AMV sa d 4 0 [.ref a0] [] h := rfl
theorem fX1_isA (sa : Nat → Nat) (d : Nat) (a0 : Int32) (a1 : Int32) (h : AH) : AMC sa (d + 1) 5 [.int a0, .int a1] h = AMV sa d 5 0 [.int a0, .int a1, .null, .null] [] h := rfl
theorem fX1_answer (sa : Nat → Nat) (d : Nat) (a0 : Nat) (a1 : Nat) (a2 : Int32) (a3 : Int32) (h : AH) : AMC sa (d + 1) 6 [.ref a0, .ref a1, .int a2, .int a3] h = AMV sa d 6 0 [.ref a0, .ref a1, .int a2, .int a3, .null] [] h := rfl
theorem fX1_give (sa : Nat → Nat) (d : Nat) (a0 : Nat) (a1 : Int32) (a2 : Nat) (a3 : Int32) (a4 : Int32) (h : AH) : AMC sa (d + 1) 7 [.ref a0, .int a1, .ref a2, .int a3, .int a4] h = AMV sa d 7 0 [.ref a0, .int a1, .ref a2, .int a3, .int a4, .null, .null] [] h := rfl
theorem fX1_leave (sa : Nat → Nat) (d : Nat) (a0 : Nat) (a1 : Int32) (h : AH) : AMC sa (d + 1) 8 [.ref a0, .int a1] h = AMV sa d 8 0 [.ref a0, .int a1] [] h := rfl
theorem fX2_init (sa : Nat → Nat) (d : Nat) (a0 : Nat) (a1 : Nat) (h : AH) : AMC sa (d + 1) 9 [.ref a0, .ref a1] h = AMV sa d 9 0 [.ref a0, .ref a1] [] h := rfl
theorem fX2_begin (sa : Nat → Nat) (d : Nat) (a0 : Nat) (a1 : Int32) (a2 : Int32) (h : AH) : AMC sa (d + 1) 10 [.ref a0, .int a1, .int a2] h = AMV sa d 10 0 [.ref a0, .int a1, .int a2] [] h := rfl
theorem fX2_add (sa : Nat → Nat) (d : Nat) (a0 : Nat) (a1 : Int32) (a2 : Int32) (a3 : Int32) (h : AH) : AMC sa (d + 1) 11 [.ref a0, .int a1, .int a2, .int a3] h = AMV sa d 11 0 [.ref a0, .int a1, .int a2, .int a3] [] h := rfl
theorem fX2_become (sa : Nat → Nat) (d : Nat) (a0 : Nat) (a1 : Nat) (h : AH) : AMC sa (d + 1) 12 [.ref a0, .ref a1] h = AMV sa d 12 0 [.ref a0, .ref a1] [] h := rfl
theorem fX2_waits (sa : Nat → Nat) (d : Nat) (a0 : Nat) (a1 : Int32) (h : AH) : AMC sa (d + 1) 13 [.ref a0, .int a1] h = AMV sa d 13 0 [.ref a0, .int a1] [] h := rfl
theorem fX2_takeReturned (sa : Nat → Nat) (d : Nat) (a0 : Nat) (a1 : Int32) (h : AH) : AMC sa (d + 1) 14 [.ref a0, .int a1] h = AMV sa d 14 0 [.ref a0, .int a1] [] h := rfl
theorem fX2_unsaid (sa : Nat → Nat) (d : Nat) (a0 : Nat) (a1 : Int32) (h : AH) : AMC sa (d + 1) 15 [.ref a0, .int a1] h = AMV sa d 15 0 [.ref a0, .int a1] [] h := rfl
theorem fX2_weight (sa : Nat → Nat) (d : Nat) (a0 : Nat) (a1 : Int32) (h : AH) : AMC sa (d + 1) 16 [.ref a0, .int a1] h = AMV sa d 16 0 [.ref a0, .int a1] [] h := rfl
theorem fX2_weigh (sa : Nat → Nat) (d : Nat) (a0 : Int32) (a1 : Int32) (a2 : Int32) (h : AH) : AMC sa (d + 1) 17 [.int a0, .int a1, .int a2] h = AMV sa d 17 0 [.int a0, .int a1, .int a2] [] h := rfl
theorem fX2_weightTogether (sa : Nat → Nat) (d : Nat) (a0 : Nat) (a1 : Int32) (h : AH) : AMC sa (d + 1) 18 [.ref a0, .int a1] h = AMV sa d 18 0 [.ref a0, .int a1, .null, .null] [] h := rfl
theorem fX2_blurt (sa : Nat → Nat) (d : Nat) (a0 : Nat) (a1 : Int32) (h : AH) : AMC sa (d + 1) 19 [.ref a0, .int a1] h = AMV sa d 19 0 [.ref a0, .int a1, .null] [] h := rfl
theorem fX2_passDay (sa : Nat → Nat) (d : Nat) (a0 : Nat) (h : AH) : AMC sa (d + 1) 20 [.ref a0] h = AMV sa d 20 0 [.ref a0, .null, .null, .null, .null, .null, .null] [] h := rfl
theorem fX2_passDays (sa : Nat → Nat) (d : Nat) (a0 : Nat) (a1 : Int32) (h : AH) : AMC sa (d + 1) 21 [.ref a0, .int a1] h = AMV sa d 21 0 [.ref a0, .int a1, .null, .null, .null, .null] [] h := rfl
theorem fX3_init (sa : Nat → Nat) (d : Nat) (a0 : Nat) (h : AH) : AMC sa (d + 1) 22 [.ref a0] h = AMV sa d 22 0 [.ref a0, .null] [] h := rfl
theorem fX3_isNamed (sa : Nat → Nat) (d : Nat) (a0 : Int32) (h : AH) : AMC sa (d + 1) 23 [.int a0] h = AMV sa d 23 0 [.int a0] [] h := rfl
theorem fX3_isLane (sa : Nat → Nat) (d : Nat) (a0 : Int32) (h : AH) : AMC sa (d + 1) 24 [.int a0] h = AMV sa d 24 0 [.int a0] [] h := rfl
theorem fX3_isMissing (sa : Nat → Nat) (d : Nat) (a0 : Nat) (a1 : Int32) (h : AH) : AMC sa (d + 1) 25 [.ref a0, .int a1] h = AMV sa d 25 0 [.ref a0, .int a1] [] h := rfl
theorem fX3_shareLane (sa : Nat → Nat) (d : Nat) (a0 : Nat) (a1 : Int32) (a2 : Int32) (h : AH) : AMC sa (d + 1) 26 [.ref a0, .int a1, .int a2] h = AMV sa d 26 0 [.ref a0, .int a1, .int a2] [] h := rfl
theorem fX3_covers (sa : Nat → Nat) (d : Nat) (a0 : Nat) (a1 : Int32) (a2 : Int32) (a3 : Int32) (h : AH) : AMC sa (d + 1) 27 [.ref a0, .int a1, .int a2, .int a3] h = AMV sa d 27 0 [.ref a0, .int a1, .int a2, .int a3] [] h := rfl
theorem fX3_make (sa : Nat → Nat) (d : Nat) (a0 : Nat) (a1 : Int32) (a2 : Int32) (a3 : Int32) (h : AH) : AMC sa (d + 1) 28 [.ref a0, .int a1, .int a2, .int a3] h = AMV sa d 28 0 [.ref a0, .int a1, .int a2, .int a3, .null] [] h := rfl
theorem fX3_put (sa : Nat → Nat) (d : Nat) (a0 : Nat) (a1 : Int32) (a2 : Int32) (a3 : Int32) (h : AH) : AMC sa (d + 1) 29 [.ref a0, .int a1, .int a2, .int a3] h = AMV sa d 29 0 [.ref a0, .int a1, .int a2, .int a3, .null] [] h := rfl
theorem fX3_item (sa : Nat → Nat) (d : Nat) (a0 : Nat) (a1 : Int32) (a2 : Int32) (h : AH) : AMC sa (d + 1) 30 [.ref a0, .int a1, .int a2] h = AMV sa d 30 0 [.ref a0, .int a1, .int a2] [] h := rfl
theorem fX3_move (sa : Nat → Nat) (d : Nat) (a0 : Nat) (a1 : Int32) (a2 : Int32) (a3 : Int32) (a4 : Int32) (a5 : Int32) (h : AH) : AMC sa (d + 1) 31 [.ref a0, .int a1, .int a2, .int a3, .int a4, .int a5] h = AMV sa d 31 0 [.ref a0, .int a1, .int a2, .int a3, .int a4, .int a5] [] h := rfl
theorem fX3_remove (sa : Nat → Nat) (d : Nat) (a0 : Nat) (a1 : Int32) (h : AH) : AMC sa (d + 1) 32 [.ref a0, .int a1] h = AMV sa d 32 0 [.ref a0, .int a1] [] h := rfl
theorem fX3_present (sa : Nat → Nat) (d : Nat) (a0 : Nat) (h : AH) : AMC sa (d + 1) 33 [.ref a0] h = AMV sa d 33 0 [.ref a0, .null, .null] [] h := rfl
theorem fX4_init (sa : Nat → Nat) (d : Nat) (a0 : Nat) (a1 : Nat) (h : AH) : AMC sa (d + 1) 34 [.ref a0, .ref a1] h = AMV sa d 34 0 [.ref a0, .ref a1] [] h := rfl
theorem fX4_foretell (sa : Nat → Nat) (d : Nat) (a0 : Nat) (a1 : Nat) (a2 : Int32) (h : AH) : AMC sa (d + 1) 35 [.ref a0, .ref a1, .int a2] h = AMV sa d 35 0 [.ref a0, .ref a1, .int a2] [] h := rfl
theorem fX4_daysUntilSent (sa : Nat → Nat) (d : Nat) (a0 : Nat) (a1 : Nat) (a2 : Int32) (h : AH) : AMC sa (d + 1) 36 [.ref a0, .ref a1, .int a2] h = AMV sa d 36 0 [.ref a0, .ref a1, .int a2, .null] [] h := rfl
theorem fX4_fewestToSay (sa : Nat → Nat) (d : Nat) (a0 : Nat) (a1 : Nat) (a2 : Int32) (a3 : Int32) (h : AH) : AMC sa (d + 1) 37 [.ref a0, .ref a1, .int a2, .int a3] h = AMV sa d 37 0 [.ref a0, .ref a1, .int a2, .int a3, .null, .null, .null, .null] [] h := rfl
theorem fX4_weightHavingSaid (sa : Nat → Nat) (d : Nat) (a0 : Nat) (a1 : Int32) (a2 : Int32) (h : AH) : AMC sa (d + 1) 38 [.ref a0, .int a1, .int a2] h = AMV sa d 38 0 [.ref a0, .int a1, .int a2, .null] [] h := rfl
theorem fX4_weighingAlike (sa : Nat → Nat) (d : Nat) (a0 : Nat) (a1 : Nat) (a2 : Int32) (a3 : Int32) (h : AH) : AMC sa (d + 1) 39 [.ref a0, .ref a1, .int a2, .int a3] h = AMV sa d 39 0 [.ref a0, .ref a1, .int a2, .int a3, .null, .null, .null, .null, .null, .null] [] h := rfl
theorem fX4_bestLoad (sa : Nat → Nat) (d : Nat) (a0 : Nat) (a1 : Nat) (a2 : Int32) (h : AH) : AMC sa (d + 1) 40 [.ref a0, .ref a1, .int a2] h = AMV sa d 40 0 [.ref a0, .ref a1, .int a2, .null, .null, .null, .null, .null] [] h := rfl
theorem fX4_shareOf (sa : Nat → Nat) (d : Nat) (a0 : Nat) (a1 : Nat) (a2 : Int32) (a3 : Int32) (h : AH) : AMC sa (d + 1) 41 [.ref a0, .ref a1, .int a2, .int a3] h = AMV sa d 41 0 [.ref a0, .ref a1, .int a2, .int a3, .null, .null, .null, .null, .null] [] h := rfl
theorem fX4_hear (sa : Nat → Nat) (d : Nat) (a0 : Nat) (a1 : Nat) (a2 : Int32) (a3 : Int32) (a4 : Int32) (h : AH) : AMC sa (d + 1) 42 [.ref a0, .ref a1, .int a2, .int a3, .int a4] h = AMV sa d 42 0 [.ref a0, .ref a1, .int a2, .int a3, .int a4, .null] [] h := rfl
theorem fX4_isAsTold (sa : Nat → Nat) (d : Nat) (a0 : Nat) (a1 : Int32) (h : AH) : AMC sa (d + 1) 43 [.ref a0, .int a1] h = AMV sa d 43 0 [.ref a0, .int a1, .null] [] h := rfl
theorem fX4_fittingKinds (sa : Nat → Nat) (d : Nat) (a0 : Nat) (a1 : Nat) (a2 : Int32) (h : AH) : AMC sa (d + 1) 44 [.ref a0, .ref a1, .int a2] h = AMV sa d 44 0 [.ref a0, .ref a1, .int a2, .null, .null] [] h := rfl
theorem fX4_fittingSaids (sa : Nat → Nat) (d : Nat) (a0 : Nat) (a1 : Nat) (a2 : Int32) (a3 : Int32) (h : AH) : AMC sa (d + 1) 45 [.ref a0, .ref a1, .int a2, .int a3] h = AMV sa d 45 0 [.ref a0, .ref a1, .int a2, .int a3, .null, .null, .null] [] h := rfl
theorem fX4_fittingLimits (sa : Nat → Nat) (d : Nat) (a0 : Nat) (a1 : Nat) (a2 : Int32) (a3 : Int32) (h : AH) : AMC sa (d + 1) 46 [.ref a0, .ref a1, .int a2, .int a3] h = AMV sa d 46 0 [.ref a0, .ref a1, .int a2, .int a3, .null, .null, .null] [] h := rfl
theorem fX4_lightCases (sa : Nat → Nat) (d : Nat) (a0 : Nat) (a1 : Nat) (a2 : Int32) (a3 : Int32) (a4 : Int32) (a5 : Int32) (h : AH) : AMC sa (d + 1) 47 [.ref a0, .ref a1, .int a2, .int a3, .int a4, .int a5] h = AMV sa d 47 0 [.ref a0, .ref a1, .int a2, .int a3, .int a4, .int a5, .null, .null, .null, .null] [] h := rfl
theorem fX4_draw (sa : Nat → Nat) (d : Nat) (a0 : Nat) (a1 : Nat) (a2 : Int32) (a3 : Int32) (h : AH) : AMC sa (d + 1) 48 [.ref a0, .ref a1, .int a2, .int a3] h = AMV sa d 48 0 [.ref a0, .ref a1, .int a2, .int a3, .null, .null, .null, .null] [] h := rfl
theorem fX5_init (sa : Nat → Nat) (d : Nat) (a0 : Nat) (h : AH) : AMC sa (d + 1) 49 [.ref a0] h = AMV sa d 49 0 [.ref a0] [] h := rfl
theorem fX5_isFull (sa : Nat → Nat) (d : Nat) (a0 : Nat) (h : AH) : AMC sa (d + 1) 50 [.ref a0] h = AMV sa d 50 0 [.ref a0] [] h := rfl
theorem fX5_append (sa : Nat → Nat) (d : Nat) (a0 : Nat) (a1 : Int32) (h : AH) : AMC sa (d + 1) 51 [.ref a0, .int a1] h = AMV sa d 51 0 [.ref a0, .int a1] [] h := rfl
theorem fX5_readInto (sa : Nat → Nat) (d : Nat) (a0 : Nat) (a1 : Nat) (h : AH) : AMC sa (d + 1) 52 [.ref a0, .ref a1] h = AMV sa d 52 0 [.ref a0, .ref a1] [] h := rfl
theorem fX5_readLaw (sa : Nat → Nat) (d : Nat) (a0 : Nat) (a1 : Nat) (h : AH) : AMC sa (d + 1) 53 [.ref a0, .ref a1] h = AMV sa d 53 0 [.ref a0, .ref a1, .null, .null] [] h := rfl
theorem fX5_readWords (sa : Nat → Nat) (d : Nat) (a0 : Nat) (h : AH) : AMC sa (d + 1) 54 [.ref a0] h = AMV sa d 54 0 [.ref a0, .null] [] h := rfl
theorem fX5_readLetters (sa : Nat → Nat) (d : Nat) (a0 : Nat) (a1 : Nat) (h : AH) : AMC sa (d + 1) 55 [.ref a0, .ref a1] h = AMV sa d 55 0 [.ref a0, .ref a1, .null, .null, .null, .null] [] h := rfl
theorem fX5_readSet (sa : Nat → Nat) (d : Nat) (a0 : Nat) (a1 : Int32) (h : AH) : AMC sa (d + 1) 56 [.ref a0, .int a1] h = AMV sa d 56 0 [.ref a0, .int a1, .null, .null] [] h := rfl
theorem fX5_readNumber (sa : Nat → Nat) (d : Nat) (a0 : Nat) (a1 : Int32) (a2 : Int32) (h : AH) : AMC sa (d + 1) 57 [.ref a0, .int a1, .int a2] h = AMV sa d 57 0 [.ref a0, .int a1, .int a2, .null, .null] [] h := rfl
theorem fX5_skip (sa : Nat → Nat) (d : Nat) (a0 : Nat) (a1 : Int32) (h : AH) : AMC sa (d + 1) 58 [.ref a0, .int a1] h = AMV sa d 58 0 [.ref a0, .int a1] [] h := rfl
theorem fX5_isFigure (sa : Nat → Nat) (d : Nat) (a0 : Nat) (a1 : Int32) (h : AH) : AMC sa (d + 1) 59 [.ref a0, .int a1] h = AMV sa d 59 0 [.ref a0, .int a1] [] h := rfl
theorem fX5_next (sa : Nat → Nat) (d : Nat) (a0 : Nat) (h : AH) : AMC sa (d + 1) 60 [.ref a0] h = AMV sa d 60 0 [.ref a0] [] h := rfl
theorem fX5_fail (sa : Nat → Nat) (d : Nat) (a0 : Nat) (a1 : Int32) (a2 : Int32) (h : AH) : AMC sa (d + 1) 61 [.ref a0, .int a1, .int a2] h = AMV sa d 61 0 [.ref a0, .int a1, .int a2] [] h := rfl
theorem fX5_kindOf (sa : Nat → Nat) (d : Nat) (a0 : Int32) (h : AH) : AMC sa (d + 1) 62 [.int a0] h = AMV sa d 62 0 [.int a0] [] h := rfl
theorem fX6_init (sa : Nat → Nat) (d : Nat) (a0 : Nat) (a1 : Nat) (a2 : Int32) (h : AH) : AMC sa (d + 1) 63 [.ref a0, .ref a1, .int a2] h = AMV sa d 63 0 [.ref a0, .ref a1, .int a2, .null, .null, .null, .null] [] h := rfl
theorem fX7_init (sa : Nat → Nat) (d : Nat) (a0 : Nat) (h : AH) : AMC sa (d + 1) 64 [.ref a0] h = AMV sa d 64 0 [.ref a0, .null] [] h := rfl
theorem fX7_row (sa : Nat → Nat) (d : Nat) (a0 : Nat) (a1 : Int32) (a2 : Int32) (a3 : Int32) (h : AH) : AMC sa (d + 1) 65 [.ref a0, .int a1, .int a2, .int a3] h = AMV sa d 65 0 [.ref a0, .int a1, .int a2, .int a3] [] h := rfl
theorem fX7_set (sa : Nat → Nat) (d : Nat) (a0 : Nat) (a1 : Int32) (a2 : Int32) (a3 : Int32) (h : AH) : AMC sa (d + 1) 66 [.ref a0, .int a1, .int a2, .int a3] h = AMV sa d 66 0 [.ref a0, .int a1, .int a2, .int a3] [] h := rfl
theorem fX7_copy (sa : Nat → Nat) (d : Nat) (a0 : Nat) (a1 : Int32) (a2 : Int32) (a3 : Int32) (a4 : Int32) (a5 : Int32) (h : AH) : AMC sa (d + 1) 67 [.ref a0, .int a1, .int a2, .int a3, .int a4, .int a5] h = AMV sa d 67 0 [.ref a0, .int a1, .int a2, .int a3, .int a4, .int a5] [] h := rfl
theorem fX7_drop (sa : Nat → Nat) (d : Nat) (a0 : Nat) (a1 : Int32) (h : AH) : AMC sa (d + 1) 68 [.ref a0, .int a1] h = AMV sa d 68 0 [.ref a0, .int a1] [] h := rfl
theorem fX7_feed (sa : Nat → Nat) (d : Nat) (a0 : Nat) (a1 : Int32) (h : AH) : AMC sa (d + 1) 69 [.ref a0, .int a1] h = AMV sa d 69 0 [.ref a0, .int a1] [] h := rfl
theorem fX7_post (sa : Nat → Nat) (d : Nat) (a0 : Nat) (h : AH) : AMC sa (d + 1) 70 [.ref a0] h = AMV sa d 70 0 [.ref a0] [] h := rfl
theorem fX7_fault (sa : Nat → Nat) (d : Nat) (a0 : Nat) (h : AH) : AMC sa (d + 1) 71 [.ref a0] h = AMV sa d 71 0 [.ref a0] [] h := rfl
theorem fX7_days (sa : Nat → Nat) (d : Nat) (a0 : Nat) (a1 : Int32) (h : AH) : AMC sa (d + 1) 72 [.ref a0, .int a1] h = AMV sa d 72 0 [.ref a0, .int a1, .null] [] h := rfl
theorem fX7_say (sa : Nat → Nat) (d : Nat) (a0 : Nat) (a1 : Int32) (a2 : Int32) (h : AH) : AMC sa (d + 1) 73 [.ref a0, .int a1, .int a2] h = AMV sa d 73 0 [.ref a0, .int a1, .int a2] [] h := rfl
theorem fX7_unsay (sa : Nat → Nat) (d : Nat) (a0 : Nat) (a1 : Int32) (a2 : Int32) (h : AH) : AMC sa (d + 1) 74 [.ref a0, .int a1, .int a2] h = AMV sa d 74 0 [.ref a0, .int a1, .int a2] [] h := rfl
theorem fX7_back (sa : Nat → Nat) (d : Nat) (a0 : Nat) (a1 : Int32) (h : AH) : AMC sa (d + 1) 75 [.ref a0, .int a1] h = AMV sa d 75 0 [.ref a0, .int a1] [] h := rfl
theorem fX7_strap (sa : Nat → Nat) (d : Nat) (a0 : Nat) (a1 : Int32) (h : AH) : AMC sa (d + 1) 76 [.ref a0, .int a1] h = AMV sa d 76 0 [.ref a0, .int a1, .null] [] h := rfl
theorem fX7_limit (sa : Nat → Nat) (d : Nat) (a0 : Nat) (a1 : Int32) (h : AH) : AMC sa (d + 1) 77 [.ref a0, .int a1] h = AMV sa d 77 0 [.ref a0, .int a1, .null] [] h := rfl
theorem fX7_undo (sa : Nat → Nat) (d : Nat) (a0 : Nat) (h : AH) : AMC sa (d + 1) 78 [.ref a0] h = AMV sa d 78 0 [.ref a0] [] h := rfl
theorem fX7_letter (sa : Nat → Nat) (d : Nat) (a0 : Nat) (a1 : Int32) (a2 : Int32) (h : AH) : AMC sa (d + 1) 79 [.ref a0, .int a1, .int a2] h = AMV sa d 79 0 [.ref a0, .int a1, .int a2] [] h := rfl
theorem fX7_ounces (sa : Nat → Nat) (d : Nat) (a0 : Nat) (a1 : Int32) (h : AH) : AMC sa (d + 1) 80 [.ref a0, .int a1] h = AMV sa d 80 0 [.ref a0, .int a1] [] h := rfl
theorem fX7_ahead (sa : Nat → Nat) (d : Nat) (a0 : Nat) (a1 : Int32) (a2 : Int32) (a3 : Int32) (h : AH) : AMC sa (d + 1) 81 [.ref a0, .int a1, .int a2, .int a3] h = AMV sa d 81 0 [.ref a0, .int a1, .int a2, .int a3, .null] [] h := rfl
theorem fX7_later (sa : Nat → Nat) (d : Nat) (a0 : Nat) (a1 : Int32) (a2 : Int32) (h : AH) : AMC sa (d + 1) 82 [.ref a0, .int a1, .int a2] h = AMV sa d 82 0 [.ref a0, .int a1, .int a2, .null] [] h := rfl
theorem fX7_when (sa : Nat → Nat) (d : Nat) (a0 : Nat) (a1 : Int32) (h : AH) : AMC sa (d + 1) 83 [.ref a0, .int a1] h = AMV sa d 83 0 [.ref a0, .int a1] [] h := rfl
theorem fX7_lighten (sa : Nat → Nat) (d : Nat) (a0 : Nat) (a1 : Int32) (a2 : Int32) (a3 : Int32) (h : AH) : AMC sa (d + 1) 84 [.ref a0, .int a1, .int a2, .int a3] h = AMV sa d 84 0 [.ref a0, .int a1, .int a2, .int a3, .null] [] h := rfl
theorem fX7_guess (sa : Nat → Nat) (d : Nat) (a0 : Nat) (a1 : Int32) (a2 : Int32) (h : AH) : AMC sa (d + 1) 85 [.ref a0, .int a1, .int a2] h = AMV sa d 85 0 [.ref a0, .int a1, .int a2] [] h := rfl
theorem fX7_load (sa : Nat → Nat) (d : Nat) (a0 : Nat) (a1 : Int32) (a2 : Int32) (h : AH) : AMC sa (d + 1) 86 [.ref a0, .int a1, .int a2] h = AMV sa d 86 0 [.ref a0, .int a1, .int a2, .null] [] h := rfl
theorem fX7_share (sa : Nat → Nat) (d : Nat) (a0 : Nat) (a1 : Int32) (a2 : Int32) (h : AH) : AMC sa (d + 1) 87 [.ref a0, .int a1, .int a2] h = AMV sa d 87 0 [.ref a0, .int a1, .int a2] [] h := rfl
theorem fX7_fits (sa : Nat → Nat) (d : Nat) (a0 : Nat) (a1 : Int32) (a2 : Int32) (a3 : Int32) (a4 : Int32) (a5 : Int32) (h : AH) : AMC sa (d + 1) 88 [.ref a0, .int a1, .int a2, .int a3, .int a4, .int a5] h = AMV sa d 88 0 [.ref a0, .int a1, .int a2, .int a3, .int a4, .int a5] [] h := rfl
theorem fX7_slips (sa : Nat → Nat) (d : Nat) (a0 : Nat) (a1 : Int32) (a2 : Int32) (a3 : Int32) (a4 : Int32) (a5 : Int32) (h : AH) : AMC sa (d + 1) 89 [.ref a0, .int a1, .int a2, .int a3, .int a4, .int a5] h = AMV sa d 89 0 [.ref a0, .int a1, .int a2, .int a3, .int a4, .int a5, .null, .null, .null] [] h := rfl
theorem fX7_drawn (sa : Nat → Nat) (d : Nat) (a0 : Nat) (a1 : Int32) (a2 : Int32) (a3 : Int32) (h : AH) : AMC sa (d + 1) 90 [.ref a0, .int a1, .int a2, .int a3] h = AMV sa d 90 0 [.ref a0, .int a1, .int a2, .int a3, .null] [] h := rfl
theorem fX7_image (sa : Nat → Nat) (d : Nat) (a0 : Nat) (a1 : Int32) (h : AH) : AMC sa (d + 1) 91 [.ref a0, .int a1] h = AMV sa d 91 0 [.ref a0, .int a1] [] h := rfl
theorem fX7_restore (sa : Nat → Nat) (d : Nat) (a0 : Nat) (a1 : Int32) (h : AH) : AMC sa (d + 1) 92 [.ref a0, .int a1] h = AMV sa d 92 0 [.ref a0, .int a1] [] h := rfl
theorem fX7_kind (sa : Nat → Nat) (d : Nat) (a0 : Nat) (a1 : Int32) (h : AH) : AMC sa (d + 1) 93 [.ref a0, .int a1] h = AMV sa d 93 0 [.ref a0, .int a1] [] h := rfl
theorem fX7_as (sa : Nat → Nat) (d : Nat) (a0 : Nat) (a1 : Int32) (a2 : Int32) (h : AH) : AMC sa (d + 1) 94 [.ref a0, .int a1, .int a2] h = AMV sa d 94 0 [.ref a0, .int a1, .int a2] [] h := rfl
theorem fX7_ask (sa : Nat → Nat) (d : Nat) (a0 : Nat) (a1 : Int32) (a2 : Int32) (h : AH) : AMC sa (d + 1) 95 [.ref a0, .int a1, .int a2] h = AMV sa d 95 0 [.ref a0, .int a1, .int a2] [] h := rfl
theorem fX7_trace (sa : Nat → Nat) (d : Nat) (a0 : Nat) (a1 : Int32) (h : AH) : AMC sa (d + 1) 96 [.ref a0, .int a1] h = AMV sa d 96 0 [.ref a0, .int a1] [] h := rfl
theorem fX7_count (sa : Nat → Nat) (d : Nat) (a0 : Nat) (a1 : Int32) (h : AH) : AMC sa (d + 1) 97 [.ref a0, .int a1] h = AMV sa d 97 0 [.ref a0, .int a1] [] h := rfl
theorem fX7_status (sa : Nat → Nat) (d : Nat) (a0 : Nat) (h : AH) : AMC sa (d + 1) 98 [.ref a0] h = AMV sa d 98 0 [.ref a0] [] h := rfl
theorem fX7_found (sa : Nat → Nat) (d : Nat) (a0 : Nat) (a1 : Int32) (h : AH) : AMC sa (d + 1) 99 [.ref a0, .int a1] h = AMV sa d 99 0 [.ref a0, .int a1] [] h := rfl
theorem fX7_hasNoPost (sa : Nat → Nat) (d : Nat) (a0 : Nat) (h : AH) : AMC sa (d + 1) 100 [.ref a0] h = AMV sa d 100 0 [.ref a0] [] h := rfl
theorem fX7_hasNo (sa : Nat → Nat) (d : Nat) (a0 : Nat) (a1 : Int32) (h : AH) : AMC sa (d + 1) 101 [.ref a0, .int a1] h = AMV sa d 101 0 [.ref a0, .int a1] [] h := rfl
theorem fX7_hasNoWord (sa : Nat → Nat) (d : Nat) (a0 : Nat) (a1 : Int32) (h : AH) : AMC sa (d + 1) 102 [.ref a0, .int a1] h = AMV sa d 102 0 [.ref a0, .int a1] [] h := rfl
theorem fX7_isOutside (sa : Nat → Nat) (d : Nat) (a0 : Int32) (a1 : Int32) (a2 : Int32) (h : AH) : AMC sa (d + 1) 103 [.int a0, .int a1, .int a2] h = AMV sa d 103 0 [.int a0, .int a1, .int a2] [] h := rfl
theorem fX7_power (sa : Nat → Nat) (d : Nat) (a0 : Int32) (a1 : Int32) (h : AH) : AMC sa (d + 1) 104 [.int a0, .int a1] h = AMV sa d 104 0 [.int a0, .int a1, .null, .null] [] h := rfl
theorem fX7_commonDivisor (sa : Nat → Nat) (d : Nat) (a0 : Int32) (a1 : Int32) (h : AH) : AMC sa (d + 1) 105 [.int a0, .int a1] h = AMV sa d 105 0 [.int a0, .int a1, .null, .null, .null, .null] [] h := rfl
theorem fX8_init (sa : Nat → Nat) (d : Nat) (a0 : Nat) (h : AH) : AMC sa (d + 1) 106 [.ref a0] h = AMV sa d 106 0 [.ref a0, .null] [] h := rfl
theorem fX8_in (sa : Nat → Nat) (d : Nat) (a0 : Int32) (a1 : Int32) (a2 : Int32) (h : AH) : AMC sa (d + 1) 107 [.int a0, .int a1, .int a2] h = AMV sa d 107 0 [.int a0, .int a1, .int a2] [] h := rfl
theorem fX8_has (sa : Nat → Nat) (d : Nat) (a0 : Int32) (a1 : Int32) (h : AH) : AMC sa (d + 1) 108 [.int a0, .int a1] h = AMV sa d 108 0 [.int a0, .int a1] [] h := rfl
theorem fX8_ones (sa : Nat → Nat) (d : Nat) (a0 : Int32) (h : AH) : AMC sa (d + 1) 109 [.int a0] h = AMV sa d 109 0 [.int a0, .null, .null] [] h := rfl
theorem fX8_found (sa : Nat → Nat) (d : Nat) (a0 : Nat) (a1 : Int32) (h : AH) : AMC sa (d + 1) 110 [.ref a0, .int a1] h = AMV sa d 110 0 [.ref a0, .int a1] [] h := rfl
theorem fX8_well (sa : Nat → Nat) (d : Nat) (a0 : Nat) (a1 : Int32) (h : AH) : AMC sa (d + 1) 111 [.ref a0, .int a1] h = AMV sa d 111 0 [.ref a0, .int a1] [] h := rfl
theorem fX8_copies (sa : Nat → Nat) (d : Nat) (a0 : Nat) (a1 : Int32) (a2 : Nat) (a3 : Int32) (h : AH) : AMC sa (d + 1) 112 [.ref a0, .int a1, .ref a2, .int a3] h = AMV sa d 112 0 [.ref a0, .int a1, .ref a2, .int a3, .null] [] h := rfl
theorem fX8_isRow (sa : Nat → Nat) (d : Nat) (a0 : Int32) (h : AH) : AMC sa (d + 1) 113 [.int a0] h = AMV sa d 113 0 [.int a0] [] h := rfl
theorem fX8_isMissing (sa : Nat → Nat) (d : Nat) (a0 : Nat) (a1 : Int32) (h : AH) : AMC sa (d + 1) 114 [.ref a0, .int a1] h = AMV sa d 114 0 [.ref a0, .int a1] [] h := rfl
theorem fX8_cut (sa : Nat → Nat) (d : Nat) (a0 : Int32) (a1 : Int32) (h : AH) : AMC sa (d + 1) 115 [.int a0, .int a1] h = AMV sa d 115 0 [.int a0, .int a1] [] h := rfl
theorem fX8_row (sa : Nat → Nat) (d : Nat) (a0 : Nat) (a1 : Int32) (a2 : Int32) (a3 : Int32) (h : AH) : AMC sa (d + 1) 116 [.ref a0, .int a1, .int a2, .int a3] h = AMV sa d 116 0 [.ref a0, .int a1, .int a2, .int a3, .null] [] h := rfl
theorem fX8_set (sa : Nat → Nat) (d : Nat) (a0 : Nat) (a1 : Int32) (a2 : Int32) (a3 : Int32) (h : AH) : AMC sa (d + 1) 117 [.ref a0, .int a1, .int a2, .int a3] h = AMV sa d 117 0 [.ref a0, .int a1, .int a2, .int a3] [] h := rfl
theorem fX8_isPart (sa : Nat → Nat) (d : Nat) (a0 : Nat) (a1 : Int32) (a2 : Int32) (a3 : Int32) (h : AH) : AMC sa (d + 1) 118 [.ref a0, .int a1, .int a2, .int a3] h = AMV sa d 118 0 [.ref a0, .int a1, .int a2, .int a3] [] h := rfl
theorem fX8_copy (sa : Nat → Nat) (d : Nat) (a0 : Nat) (a1 : Int32) (a2 : Int32) (a3 : Int32) (a4 : Int32) (a5 : Int32) (h : AH) : AMC sa (d + 1) 119 [.ref a0, .int a1, .int a2, .int a3, .int a4, .int a5] h = AMV sa d 119 0 [.ref a0, .int a1, .int a2, .int a3, .int a4, .int a5, .null] [] h := rfl
theorem fX8_drop (sa : Nat → Nat) (d : Nat) (a0 : Nat) (a1 : Int32) (h : AH) : AMC sa (d + 1) 120 [.ref a0, .int a1] h = AMV sa d 120 0 [.ref a0, .int a1] [] h := rfl
theorem fX8_feed (sa : Nat → Nat) (d : Nat) (a0 : Nat) (a1 : Int32) (h : AH) : AMC sa (d + 1) 121 [.ref a0, .int a1] h = AMV sa d 121 0 [.ref a0, .int a1] [] h := rfl
theorem fX8_byteAt (sa : Nat → Nat) (d : Nat) (a0 : Nat) (a1 : Int32) (h : AH) : AMC sa (d + 1) 122 [.ref a0, .int a1] h = AMV sa d 122 0 [.ref a0, .int a1] [] h := rfl
theorem fX8_advances (sa : Nat → Nat) (d : Nat) (a0 : Nat) (h : AH) : AMC sa (d + 1) 123 [.ref a0] h = AMV sa d 123 0 [.ref a0, .null] [] h := rfl
theorem fX8_isWell (sa : Nat → Nat) (d : Nat) (a0 : Nat) (h : AH) : AMC sa (d + 1) 124 [.ref a0] h = AMV sa d 124 0 [.ref a0] [] h := rfl
theorem fX8_takes (sa : Nat → Nat) (d : Nat) (a0 : Nat) (a1 : Int32) (a2 : Int32) (h : AH) : AMC sa (d + 1) 125 [.ref a0, .int a1, .int a2] h = AMV sa d 125 0 [.ref a0, .int a1, .int a2, .null] [] h := rfl
theorem fX8_figure (sa : Nat → Nat) (d : Nat) (a0 : Nat) (a1 : Int32) (a2 : Int32) (h : AH) : AMC sa (d + 1) 126 [.ref a0, .int a1, .int a2] h = AMV sa d 126 0 [.ref a0, .int a1, .int a2] [] h := rfl
theorem fX8_kindOf (sa : Nat → Nat) (d : Nat) (a0 : Int32) (h : AH) : AMC sa (d + 1) 127 [.int a0] h = AMV sa d 127 0 [.int a0] [] h := rfl
theorem fX8_follows (sa : Nat → Nat) (d : Nat) (a0 : Nat) (a1 : Int32) (a2 : Int32) (h : AH) : AMC sa (d + 1) 128 [.ref a0, .int a1, .int a2] h = AMV sa d 128 0 [.ref a0, .int a1, .int a2] [] h := rfl
theorem fX8_readsWord (sa : Nat → Nat) (d : Nat) (a0 : Nat) (h : AH) : AMC sa (d + 1) 129 [.ref a0] h = AMV sa d 129 0 [.ref a0, .null, .null] [] h := rfl
theorem fX8_part (sa : Nat → Nat) (d : Nat) (a0 : Nat) (a1 : Int32) (h : AH) : AMC sa (d + 1) 130 [.ref a0, .int a1] h = AMV sa d 130 0 [.ref a0, .int a1, .null] [] h := rfl
theorem fX8_readsLetter (sa : Nat → Nat) (d : Nat) (a0 : Nat) (h : AH) : AMC sa (d + 1) 131 [.ref a0] h = AMV sa d 131 0 [.ref a0, .null, .null, .null, .null] [] h := rfl
theorem fX8_must (sa : Nat → Nat) (d : Nat) (a0 : Nat) (a1 : Int32) (h : AH) : AMC sa (d + 1) 132 [.ref a0, .int a1] h = AMV sa d 132 0 [.ref a0, .int a1] [] h := rfl
theorem fX8_post (sa : Nat → Nat) (d : Nat) (a0 : Nat) (h : AH) : AMC sa (d + 1) 133 [.ref a0] h = AMV sa d 133 0 [.ref a0, .null] [] h := rfl
theorem fX8_fault (sa : Nat → Nat) (d : Nat) (a0 : Nat) (h : AH) : AMC sa (d + 1) 134 [.ref a0] h = AMV sa d 134 0 [.ref a0] [] h := rfl
theorem fX8_isPost (sa : Nat → Nat) (d : Nat) (a0 : Nat) (h : AH) : AMC sa (d + 1) 135 [.ref a0] h = AMV sa d 135 0 [.ref a0] [] h := rfl
theorem fX8_isLetter (sa : Nat → Nat) (d : Nat) (a0 : Nat) (a1 : Int32) (h : AH) : AMC sa (d + 1) 136 [.ref a0, .int a1] h = AMV sa d 136 0 [.ref a0, .int a1] [] h := rfl
theorem fX8_isWord (sa : Nat → Nat) (d : Nat) (a0 : Nat) (a1 : Int32) (h : AH) : AMC sa (d + 1) 137 [.ref a0, .int a1] h = AMV sa d 137 0 [.ref a0, .int a1] [] h := rfl
theorem fX8_unsaid (sa : Nat → Nat) (d : Nat) (a0 : Nat) (a1 : Int32) (h : AH) : AMC sa (d + 1) 138 [.ref a0, .int a1] h = AMV sa d 138 0 [.ref a0, .int a1] [] h := rfl
theorem fX8_weightBy (sa : Nat → Nat) (d : Nat) (a0 : Nat) (a1 : Int32) (a2 : Int32) (h : AH) : AMC sa (d + 1) 139 [.ref a0, .int a1, .int a2] h = AMV sa d 139 0 [.ref a0, .int a1, .int a2, .null, .null] [] h := rfl
theorem fX8_weight (sa : Nat → Nat) (d : Nat) (a0 : Nat) (a1 : Int32) (h : AH) : AMC sa (d + 1) 140 [.ref a0, .int a1] h = AMV sa d 140 0 [.ref a0, .int a1] [] h := rfl
theorem fX8_oneOf (sa : Nat → Nat) (d : Nat) (a0 : Nat) (a1 : Int32) (a2 : Int32) (h : AH) : AMC sa (d + 1) 141 [.ref a0, .int a1, .int a2] h = AMV sa d 141 0 [.ref a0, .int a1, .int a2, .null, .null, .null] [] h := rfl
theorem fX8_blurts (sa : Nat → Nat) (d : Nat) (a0 : Nat) (a1 : Int32) (h : AH) : AMC sa (d + 1) 142 [.ref a0, .int a1] h = AMV sa d 142 0 [.ref a0, .int a1, .null] [] h := rfl
theorem fX8_passes (sa : Nat → Nat) (d : Nat) (a0 : Nat) (h : AH) : AMC sa (d + 1) 143 [.ref a0] h = AMV sa d 143 0 [.ref a0, .null, .null, .null] [] h := rfl
theorem fX8_sentOf (sa : Nat → Nat) (d : Nat) (a0 : Nat) (h : AH) : AMC sa (d + 1) 144 [.ref a0] h = AMV sa d 144 0 [.ref a0, .null, .null] [] h := rfl
theorem fX8_notes (sa : Nat → Nat) (d : Nat) (a0 : Nat) (h : AH) : AMC sa (d + 1) 145 [.ref a0] h = AMV sa d 145 0 [.ref a0, .null] [] h := rfl
theorem fX8_days (sa : Nat → Nat) (d : Nat) (a0 : Nat) (a1 : Int32) (h : AH) : AMC sa (d + 1) 146 [.ref a0, .int a1] h = AMV sa d 146 0 [.ref a0, .int a1, .null] [] h := rfl
theorem fX8_say (sa : Nat → Nat) (d : Nat) (a0 : Nat) (a1 : Int32) (a2 : Int32) (h : AH) : AMC sa (d + 1) 147 [.ref a0, .int a1, .int a2] h = AMV sa d 147 0 [.ref a0, .int a1, .int a2] [] h := rfl
theorem fX8_unsay (sa : Nat → Nat) (d : Nat) (a0 : Nat) (a1 : Int32) (a2 : Int32) (h : AH) : AMC sa (d + 1) 148 [.ref a0, .int a1, .int a2] h = AMV sa d 148 0 [.ref a0, .int a1, .int a2] [] h := rfl
theorem fX8_back (sa : Nat → Nat) (d : Nat) (a0 : Nat) (a1 : Int32) (h : AH) : AMC sa (d + 1) 149 [.ref a0, .int a1] h = AMV sa d 149 0 [.ref a0, .int a1] [] h := rfl
theorem fX8_sets (sa : Nat → Nat) (d : Nat) (a0 : Nat) (a1 : Int32) (a2 : Int32) (h : AH) : AMC sa (d + 1) 150 [.ref a0, .int a1, .int a2] h = AMV sa d 150 0 [.ref a0, .int a1, .int a2, .null] [] h := rfl
theorem fX8_strap (sa : Nat → Nat) (d : Nat) (a0 : Nat) (a1 : Int32) (h : AH) : AMC sa (d + 1) 151 [.ref a0, .int a1] h = AMV sa d 151 0 [.ref a0, .int a1] [] h := rfl
theorem fX8_limit (sa : Nat → Nat) (d : Nat) (a0 : Nat) (a1 : Int32) (h : AH) : AMC sa (d + 1) 152 [.ref a0, .int a1] h = AMV sa d 152 0 [.ref a0, .int a1] [] h := rfl
theorem fX8_undo (sa : Nat → Nat) (d : Nat) (a0 : Nat) (h : AH) : AMC sa (d + 1) 153 [.ref a0] h = AMV sa d 153 0 [.ref a0] [] h := rfl
theorem fX8_letter (sa : Nat → Nat) (d : Nat) (a0 : Nat) (a1 : Int32) (a2 : Int32) (h : AH) : AMC sa (d + 1) 154 [.ref a0, .int a1, .int a2] h = AMV sa d 154 0 [.ref a0, .int a1, .int a2] [] h := rfl
theorem fX8_ounces (sa : Nat → Nat) (d : Nat) (a0 : Nat) (a1 : Int32) (h : AH) : AMC sa (d + 1) 155 [.ref a0, .int a1] h = AMV sa d 155 0 [.ref a0, .int a1] [] h := rfl
theorem fX8_goesOn (sa : Nat → Nat) (d : Nat) (a0 : Nat) (a1 : Int32) (h : AH) : AMC sa (d + 1) 156 [.ref a0, .int a1] h = AMV sa d 156 0 [.ref a0, .int a1, .null] [] h := rfl
theorem fX8_ahead (sa : Nat → Nat) (d : Nat) (a0 : Nat) (a1 : Int32) (a2 : Int32) (a3 : Int32) (h : AH) : AMC sa (d + 1) 157 [.ref a0, .int a1, .int a2, .int a3] h = AMV sa d 157 0 [.ref a0, .int a1, .int a2, .int a3] [] h := rfl
theorem fX8_later (sa : Nat → Nat) (d : Nat) (a0 : Nat) (a1 : Int32) (a2 : Int32) (h : AH) : AMC sa (d + 1) 158 [.ref a0, .int a1, .int a2] h = AMV sa d 158 0 [.ref a0, .int a1, .int a2] [] h := rfl
theorem fX8_when (sa : Nat → Nat) (d : Nat) (a0 : Nat) (a1 : Int32) (h : AH) : AMC sa (d + 1) 159 [.ref a0, .int a1] h = AMV sa d 159 0 [.ref a0, .int a1, .null] [] h := rfl
theorem fX8_lighten (sa : Nat → Nat) (d : Nat) (a0 : Nat) (a1 : Int32) (a2 : Int32) (a3 : Int32) (h : AH) : AMC sa (d + 1) 160 [.ref a0, .int a1, .int a2, .int a3] h = AMV sa d 160 0 [.ref a0, .int a1, .int a2, .int a3, .null, .null, .null, .null] [] h := rfl
theorem fX8_guess (sa : Nat → Nat) (d : Nat) (a0 : Nat) (a1 : Int32) (a2 : Int32) (h : AH) : AMC sa (d + 1) 161 [.ref a0, .int a1, .int a2] h = AMV sa d 161 0 [.ref a0, .int a1, .int a2, .null, .null, .null, .null, .null] [] h := rfl
theorem fX8_waiting (sa : Nat → Nat) (d : Nat) (a0 : Nat) (h : AH) : AMC sa (d + 1) 162 [.ref a0] h = AMV sa d 162 0 [.ref a0] [] h := rfl
theorem fX8_load (sa : Nat → Nat) (d : Nat) (a0 : Nat) (a1 : Int32) (a2 : Int32) (h : AH) : AMC sa (d + 1) 163 [.ref a0, .int a1, .int a2] h = AMV sa d 163 0 [.ref a0, .int a1, .int a2, .null, .null, .null, .null, .null, .null] [] h := rfl
theorem fX8_claim (sa : Nat → Nat) (d : Nat) (a0 : Nat) (a1 : Int32) (h : AH) : AMC sa (d + 1) 164 [.ref a0, .int a1] h = AMV sa d 164 0 [.ref a0, .int a1] [] h := rfl
theorem fX8_share (sa : Nat → Nat) (d : Nat) (a0 : Nat) (a1 : Int32) (a2 : Int32) (h : AH) : AMC sa (d + 1) 165 [.ref a0, .int a1, .int a2] h = AMV sa d 165 0 [.ref a0, .int a1, .int a2, .null, .null, .null, .null] [] h := rfl
theorem fX8_weighsSo (sa : Nat → Nat) (d : Nat) (a0 : Nat) (a1 : Int32) (a2 : Int32) (a3 : Int32) (a4 : Int32) (a5 : Int32) (h : AH) : AMC sa (d + 1) 166 [.ref a0, .int a1, .int a2, .int a3, .int a4, .int a5] h = AMV sa d 166 0 [.ref a0, .int a1, .int a2, .int a3, .int a4, .int a5, .null, .null] [] h := rfl
theorem fX8_fits (sa : Nat → Nat) (d : Nat) (a0 : Nat) (a1 : Int32) (a2 : Int32) (a3 : Int32) (a4 : Int32) (a5 : Int32) (h : AH) : AMC sa (d + 1) 167 [.ref a0, .int a1, .int a2, .int a3, .int a4, .int a5] h = AMV sa d 167 0 [.ref a0, .int a1, .int a2, .int a3, .int a4, .int a5, .null, .null, .null, .null, .null, .null, .null, .null, .null] [] h := rfl
theorem fX8_slips (sa : Nat → Nat) (d : Nat) (a0 : Nat) (a1 : Int32) (a2 : Int32) (a3 : Int32) (a4 : Int32) (a5 : Int32) (h : AH) : AMC sa (d + 1) 168 [.ref a0, .int a1, .int a2, .int a3, .int a4, .int a5] h = AMV sa d 168 0 [.ref a0, .int a1, .int a2, .int a3, .int a4, .int a5, .null, .null, .null, .null, .null, .null] [] h := rfl
theorem fX8_drawn (sa : Nat → Nat) (d : Nat) (a0 : Nat) (a1 : Int32) (a2 : Int32) (a3 : Int32) (h : AH) : AMC sa (d + 1) 169 [.ref a0, .int a1, .int a2, .int a3] h = AMV sa d 169 0 [.ref a0, .int a1, .int a2, .int a3, .null, .null, .null, .null] [] h := rfl
theorem fX8_image (sa : Nat → Nat) (d : Nat) (a0 : Nat) (a1 : Int32) (h : AH) : AMC sa (d + 1) 170 [.ref a0, .int a1] h = AMV sa d 170 0 [.ref a0, .int a1] [] h := rfl
theorem fX8_restore (sa : Nat → Nat) (d : Nat) (a0 : Nat) (a1 : Int32) (h : AH) : AMC sa (d + 1) 171 [.ref a0, .int a1] h = AMV sa d 171 0 [.ref a0, .int a1] [] h := rfl
theorem fX8_kindIn (sa : Nat → Nat) (d : Nat) (a0 : Nat) (a1 : Int32) (h : AH) : AMC sa (d + 1) 172 [.ref a0, .int a1] h = AMV sa d 172 0 [.ref a0, .int a1] [] h := rfl
theorem fX8_kind (sa : Nat → Nat) (d : Nat) (a0 : Nat) (a1 : Int32) (h : AH) : AMC sa (d + 1) 173 [.ref a0, .int a1] h = AMV sa d 173 0 [.ref a0, .int a1] [] h := rfl
theorem fX8_as (sa : Nat → Nat) (d : Nat) (a0 : Nat) (a1 : Int32) (a2 : Int32) (h : AH) : AMC sa (d + 1) 174 [.ref a0, .int a1, .int a2] h = AMV sa d 174 0 [.ref a0, .int a1, .int a2, .null, .null] [] h := rfl
theorem fX8_begins (sa : Nat → Nat) (d : Nat) (a0 : Nat) (a1 : Int32) (h : AH) : AMC sa (d + 1) 175 [.ref a0, .int a1] h = AMV sa d 175 0 [.ref a0, .int a1] [] h := rfl
theorem fX8_plainMark (sa : Nat → Nat) (d : Nat) (a0 : Nat) (a1 : Int32) (h : AH) : AMC sa (d + 1) 176 [.ref a0, .int a1] h = AMV sa d 176 0 [.ref a0, .int a1, .null, .null] [] h := rfl
theorem fX8_cardSize (sa : Nat → Nat) (d : Nat) (a0 : Nat) (a1 : Int32) (h : AH) : AMC sa (d + 1) 177 [.ref a0, .int a1] h = AMV sa d 177 0 [.ref a0, .int a1, .null, .null] [] h := rfl
theorem fX8_plainSize (sa : Nat → Nat) (d : Nat) (a0 : Nat) (a1 : Int32) (h : AH) : AMC sa (d + 1) 178 [.ref a0, .int a1] h = AMV sa d 178 0 [.ref a0, .int a1, .null, .null] [] h := rfl
theorem fX8_cardMark (sa : Nat → Nat) (d : Nat) (a0 : Nat) (a1 : Int32) (h : AH) : AMC sa (d + 1) 179 [.ref a0, .int a1] h = AMV sa d 179 0 [.ref a0, .int a1] [] h := rfl
theorem fX8_ask (sa : Nat → Nat) (d : Nat) (a0 : Nat) (a1 : Int32) (a2 : Int32) (h : AH) : AMC sa (d + 1) 180 [.ref a0, .int a1, .int a2] h = AMV sa d 180 0 [.ref a0, .int a1, .int a2, .null] [] h := rfl
theorem fX8_trace (sa : Nat → Nat) (d : Nat) (a0 : Nat) (a1 : Int32) (h : AH) : AMC sa (d + 1) 181 [.ref a0, .int a1] h = AMV sa d 181 0 [.ref a0, .int a1] [] h := rfl
theorem fX8_count (sa : Nat → Nat) (d : Nat) (a0 : Nat) (a1 : Int32) (h : AH) : AMC sa (d + 1) 182 [.ref a0, .int a1] h = AMV sa d 182 0 [.ref a0, .int a1, .null, .null] [] h := rfl
theorem fX8_status (sa : Nat → Nat) (d : Nat) (a0 : Nat) (h : AH) : AMC sa (d + 1) 183 [.ref a0] h = AMV sa d 183 0 [.ref a0] [] h := rfl
theorem fJ6_numberOfTrailingZeros (sa : Nat → Nat) (d : Nat) (a0 : Int32) (h : AH) : AMC sa (d + 1) 184 [.int a0] h = AMV sa d 184 0 [.int a0, .null] [] h := rfl
theorem fJ6_bitCount (sa : Nat → Nat) (d : Nat) (a0 : Int32) (h : AH) : AMC sa (d + 1) 185 [.int a0] h = AMV sa d 185 0 [.int a0] [] h := rfl
theorem fJ9_max (sa : Nat → Nat) (d : Nat) (a0 : Int32) (a1 : Int32) (h : AH) : AMC sa (d + 1) 186 [.int a0, .int a1] h = AMV sa d 186 0 [.int a0, .int a1] [] h := rfl
theorem fJ9_min (sa : Nat → Nat) (d : Nat) (a0 : Int32) (a1 : Int32) (h : AH) : AMC sa (d + 1) 187 [.int a0, .int a1] h = AMV sa d 187 0 [.int a0, .int a1] [] h := rfl
theorem aOp_s {α β : Type} (v : α) (f : α → Option β) : aOp (some v) f = f v := rfl
