/-! THE POOL: the cells of a world by their addresses. A shape G = (addresses, kind of each, length of each array, references of each), and a memory M = (whole numbers, floats): what stands at an address, by slot or index. Kinds 0 .. 7: objects of the classes vwCl; 8 char, 9 float, 10 int, 11 boolean arrays; 12, 13, 14 arrays of Place, Rule, Zone. -/
abbrev pG : Type := List Nat × (Nat → Nat) × (Nat → Nat) × (Nat → Nat → Option Nat)
abbrev pM : Type := (Nat → Nat → Int32) × (Nat → Nat → UInt32)
/-- one whole number, one float, a whole row is put -/
def pI (M : pM) (a k : Nat) (v : Int32) : pM := (va_up M.1 a (va_up (M.1 a) k v), M.2)
def pF (M : pM) (a k : Nat) (v : UInt32) : pM := (M.1, va_up M.2 a (va_up (M.2 a) k v))
def pR (M : pM) (a : Nat) (f : Nat → Int32) : pM := (va_up M.1 a f, M.2)
/-- the fields of a class: 0 a whole number, 1 a float, 2 a reference -/
def pty : Nat → List Nat
  | 0 => [2, 0]
  | 1 => [2, 0, 0]
  | 2 => [0, 0, 1, 1, 1, 1, 0, 0, 0, 0, 0]
  | 3 => [2, 2]
  | 4 => [2, 0, 0, 0, 0]
  | 5 => [0, 0, 0]
  | 6 => [2, 2, 2, 2, 2, 2, 0, 0, 0, 0]
  | 7 => [0, 2, 2, 2, 2, 2, 2, 2, 2, 2, 2, 2, 2, 2, 2, 2, 0, 2, 2, 2, 2, 2, 2, 0, 2, 0, 0, 0, 0, 2, 0, 2, 0, 2]
  | _ => []
def pval (M : pM) (P : Nat → Nat → Option Nat) (a t i : Nat) : Value := match t with
  | 0 => .int (M.1 a i)
  | 1 => .float (M.2 a i)
  | _ => va_rf (P a i)
def pfl (M : pM) (P : Nat → Nat → Option Nat) (a : Nat) : List Nat → Nat → List Value
  | [], _ => []
  | t :: ts, i => pval M P a t i :: pfl M P a ts (i + 1)
def pcell (cy : Nat → ClassId) (G : pG) (M : pM) (a : Nat) : va_E :=
  if G.2.1 a < 8 then .inr (G.2.1 a, pfl M G.2.2.2 a (pty (G.2.1 a)) 0)
  else if G.2.1 a = 8 then .inl (cy 0, G.2.2.1 a, .inl (M.1 a))
  else if G.2.1 a = 9 then .inl (cy 1, G.2.2.1 a, .inr (.inr (.inl (M.2 a))))
  else if G.2.1 a = 10 then .inl (cy 2, G.2.2.1 a, .inl (M.1 a))
  else if G.2.1 a = 11 then .inl (cy 3, G.2.2.1 a, .inl (M.1 a))
  else .inl (cy (G.2.1 a - 8), G.2.2.1 a, .inr (.inr (.inr (.inr (G.2.2.2 a)))))
def pW (cy : Nat → ClassId) (X : va_W) (G : pG) (M : pM) : va_W := X ++ va_pl G.1 (pcell cy G M)
abbrev ptys (cy : Nat → ClassId) : List (ClassId × FieldType) := [(cy 0, .char), (cy 1, .float), (cy 2, .int), (cy 3, .boolean), (cy 4, .object RX2), (cy 5, .object RX4), (cy 6, .object RX5), (cy 7, .long), (cy 8, .double)]
theorem pI_1s (M : pM) (a k : Nat) (v : Int32) : (pI M a k v).1 a = va_up (M.1 a) k v := by simp [pI, va_up]
theorem pI_1n (M : pM) {a b : Nat} (k : Nat) (v : Int32) (h : b ≠ a) : (pI M a k v).1 b = M.1 b := by simp [pI, va_up, h]
theorem pI_2 (M : pM) (a k : Nat) (v : Int32) : (pI M a k v).2 = M.2 := rfl
theorem pF_1 (M : pM) (a k : Nat) (v : UInt32) : (pF M a k v).1 = M.1 := rfl
theorem pF_2s (M : pM) (a k : Nat) (v : UInt32) : (pF M a k v).2 a = va_up (M.2 a) k v := by simp [pF, va_up]
theorem pF_2n (M : pM) {a b : Nat} (k : Nat) (v : UInt32) (h : b ≠ a) : (pF M a k v).2 b = M.2 b := by simp [pF, va_up, h]
theorem pR_1s (M : pM) (a : Nat) (f : Nat → Int32) : (pR M a f).1 a = f := by simp [pR, va_up]
theorem pR_1n (M : pM) {a b : Nat} (f : Nat → Int32) (h : b ≠ a) : (pR M a f).1 b = M.1 b := by simp [pR, va_up, h]
theorem pfl_len (M : pM) (P : Nat → Nat → Option Nat) (a : Nat) : ∀ (ts : List Nat) (i : Nat), (pfl M P a ts i).length = ts.length
  | [], _ => rfl
  | t :: ts, i => by simp [pfl, pfl_len M P a ts (i + 1)]
theorem pfl_get (M : pM) (P : Nat → Nat → Option Nat) (a : Nat) : ∀ (ts : List Nat) (i j t : Nat), ts[j]? = some t → (pfl M P a ts i)[j]? = some (pval M P a t (i + j))
  | [], i, j, t, h => by simp at h
  | t0 :: ts, i, 0, t, h => by
    simp at h
    subst h
    simp [pfl]
  | t0 :: ts, i, j + 1, t, h => by
    have h1 : ts[j]? = some t := by simpa using h
    have h2 := pfl_get M P a ts (i + 1) j t h1
    simp only [pfl, List.getElem?_cons_succ]
    rw [h2, show i + 1 + j = i + (j + 1) by omega]
theorem pfl_congr {M M' : pM} (P : Nat → Nat → Option Nat) {a : Nat} (h1 : M.1 a = M'.1 a) (h2 : M.2 a = M'.2 a) : ∀ (ts : List Nat) (i : Nat), pfl M P a ts i = pfl M' P a ts i
  | [], _ => rfl
  | t :: ts, i => by
    simp only [pfl]
    rw [pfl_congr P h1 h2 ts (i + 1)]
    congr 1
    unfold pval
    split <;> simp [h1, h2]
theorem pcell_congr {M M' : pM} (cy : Nat → ClassId) (G : pG) {a : Nat} (h1 : M.1 a = M'.1 a) (h2 : M.2 a = M'.2 a) : pcell cy G M a = pcell cy G M' a := by
  unfold pcell
  rw [pfl_congr _ h1 h2, h1, h2]
theorem pval_ne {M M' : pM} (P : Nat → Nat → Option Nat) {a i : Nat} (t : Nat) (h1 : M.1 a i = M'.1 a i) (h2 : M.2 a i = M'.2 a i) : pval M P a t i = pval M' P a t i := by
  unfold pval
  split <;> simp [h1, h2]
theorem pfl_set {M M' : pM} (P : Nat → Nat → Option Nat) {a : Nat} (ts : List Nat) {j t : Nat} {v : Value} (ht : ts[j]? = some t) (hv : v = pval M' P a t j) (h : ∀ i, i ≠ j → M.1 a i = M'.1 a i ∧ M.2 a i = M'.2 a i) : (pfl M P a ts 0).set j v = pfl M' P a ts 0 := by
  apply List.ext_getElem?
  intro k
  rw [List.getElem?_set]
  by_cases hk : j = k
  · subst hk
    have hj : j < ts.length := (List.getElem?_eq_some_iff.mp ht).1
    have h2 := pfl_get M' P a ts 0 j t ht
    rw [h2]
    simp [pfl_len, hj, hv]
  · rw [if_neg hk]
    cases h3 : ts[k]? with
    | none =>
      have h4 : ts.length ≤ k := by simpa using h3
      rw [List.getElem?_eq_none (by rw [pfl_len]; exact h4), List.getElem?_eq_none (by rw [pfl_len]; exact h4)]
    | some t' =>
      rw [pfl_get M P a ts 0 k t' h3, pfl_get M' P a ts 0 k t' h3]
      obtain ⟨e1, e2⟩ := h (0 + k) (by omega)
      rw [pval_ne P t' e1 e2]
/-- the cell of an object, of an array -/
theorem pcell_o (cy : Nat → ClassId) (G : pG) (M : pM) {a c : Nat} (hK : G.2.1 a = c) (hc : c < 8) : pcell cy G M a = .inr (c, pfl M G.2.2.2 a (pty c) 0) := by
  subst hK
  unfold pcell
  rw [if_pos hc]
theorem pcell_C (cy : Nat → ClassId) (G : pG) (M : pM) {a : Nat} (hK : G.2.1 a = 8) : pcell cy G M a = .inl (cy 0, G.2.2.1 a, .inl (M.1 a)) := by simp [pcell, hK]
theorem pcell_F (cy : Nat → ClassId) (G : pG) (M : pM) {a : Nat} (hK : G.2.1 a = 9) : pcell cy G M a = .inl (cy 1, G.2.2.1 a, .inr (.inr (.inl (M.2 a)))) := by simp [pcell, hK]
theorem pcell_I (cy : Nat → ClassId) (G : pG) (M : pM) {a : Nat} (hK : G.2.1 a = 10) : pcell cy G M a = .inl (cy 2, G.2.2.1 a, .inl (M.1 a)) := by simp [pcell, hK]
theorem pcell_Z (cy : Nat → ClassId) (G : pG) (M : pM) {a : Nat} (hK : G.2.1 a = 11) : pcell cy G M a = .inl (cy 3, G.2.2.1 a, .inl (M.1 a)) := by simp [pcell, hK]
theorem pcell_P (cy : Nat → ClassId) (G : pG) (M : pM) {a k : Nat} (hK : G.2.1 a = k) (hk : 12 ≤ k) : pcell cy G M a = .inl (cy (k - 8), G.2.2.1 a, .inr (.inr (.inr (.inr (G.2.2.2 a))))) := by
  subst hK
  unfold pcell
  rw [if_neg (by omega), if_neg (by omega), if_neg (by omega), if_neg (by omega), if_neg (by omega)]
theorem pW_get (cy : Nat → ClassId) (X : va_W) (G : pG) (M : pM) {a : Nat} (hL : a ∈ G.1) : ∃ k : Nat, (pW cy X G M)[k]? = some (a, pcell cy G M a) := va_pl_get (X := X) (f := pcell cy G M) hL
theorem pW_set {cy : Nat → ClassId} {X : va_W} {G : pG} {M M' : pM} {A : Nat → Prop} {a k : Nat} {e : va_E} (hD : va_D A (pW cy X G M)) (hL : a ∈ G.1) (hk : (pW cy X G M)[k]? = some (a, pcell cy G M a)) (he : e = pcell cy G M' a) (ho : ∀ b, b ≠ a → M.1 b = M'.1 b ∧ M.2 b = M'.2 b) : (pW cy X G M).set k (a, e) = pW cy X G M' := by
  have h1 := va_pl_set (X := X) (f := pcell cy G M) (e := e) hD hL hk
  have h2 : va_pl G.1 (va_up (pcell cy G M) a e) = va_pl G.1 (pcell cy G M') := by
    refine va_pl_congr fun b => ?_
    by_cases hb : b = a
    · subst hb
      simp [va_up, he]
    · simp only [va_up, if_neg hb]
      exact pcell_congr cy G (ho b hb).1 (ho b hb).2
  show (X ++ va_pl G.1 (pcell cy G M)).set k (a, e) = X ++ va_pl G.1 (pcell cy G M')
  rw [h1, h2]
theorem pD_any {A : Nat → Prop} {cy : Nat → ClassId} {X : va_W} {G : pG} {M : pM} (M' : pM) (hD : va_D A (pW cy X G M)) : va_D A (pW cy X G M') := by
  have key : ∀ (k : Nat) (q : Nat × va_E), (pW cy X G M')[k]? = some q → ∃ e, (pW cy X G M)[k]? = some (q.1, e) := by
    intro k q hq
    unfold pW va_pl at hq ⊢
    by_cases h1 : k < X.length
    · rw [List.getElem?_append_left h1] at hq ⊢
      exact ⟨q.2, hq⟩
    · rw [List.getElem?_append_right (by omega)] at hq ⊢
      rw [List.getElem?_map] at hq ⊢
      cases h2 : G.1[k - X.length]? with
      | none => rw [h2] at hq; cases hq
      | some a =>
        rw [h2] at hq
        cases hq
        exact ⟨pcell cy G M a, rfl⟩
  constructor
  · intro i j p q hi hj h
    obtain ⟨e1, h1⟩ := key i p hi
    obtain ⟨e2, h2⟩ := key j q hj
    exact hD.1 i j _ _ h1 h2 h
  · intro k q hq
    obtain ⟨e1, h1⟩ := key k q hq
    exact hD.2 k (q.1, e1) h1
theorem pI_rd (M : pM) (a k j : Nat) (v : Int32) : (pI M a k v).1 a j = if j = k then v else M.1 a j := by simp [pI, va_up]
theorem pF_rd (M : pM) (a k j : Nat) (v : UInt32) : (pF M a k v).2 a j = if j = k then v else M.2 a j := by simp [pF, va_up]
theorem pR_rd (M : pM) (a j : Nat) (f : Nat → Int32) : (pR M a f).1 a j = f j := by simp [pR, va_up]
theorem pR_2 (M : pM) (a : Nat) (f : Nat → Int32) : (pR M a f).2 = M.2 := rfl
