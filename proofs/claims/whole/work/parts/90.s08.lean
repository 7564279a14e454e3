section SIM8
/-! THE READER OF RULES. A row of words as a list, the latest first: eL f l says that f holds l. -/
def eL (f : Nat → Int32) : List Int32 → Prop
  | [] => True
  | c :: l => f l.length = c ∧ eL f l
theorem eL_cg {f g : Nat → Int32} : ∀ (l : List Int32), (∀ j, j < l.length → g j = f j) → eL f l → eL g l
  | [], _, _ => trivial
  | c :: l, h, e => ⟨by rw [h l.length (by simp)]; exact e.1, eL_cg l (fun j hj => h j (by simp; omega)) e.2⟩
theorem eL_up {f : Nat → Int32} {l : List Int32} (h : eL f l) (v : Int32) : eL (va_up f l.length v) (v :: l) := by
  refine ⟨by simp [va_up], eL_cg l (fun j hj => ?_) h⟩
  unfold va_up
  rw [if_neg (by omega)]
/-- the class's reader on lists: where it stands, the words -/
abbrev pS : Type := Nat × List Int32
def pSee (tx : Nat → Int32) (n at_ : Nat) (c : Int32) : Bool := decide (at_ < n ∧ tx at_ = c)
def pAddW (o : List Int32) (v : Int32) : List Int32 := if o.length < 20 then v :: o else o
def pDg (tx : Nat → Int32) (n at_ : Nat) (b : Int32) : Int32 := if at_ < n then (if tx at_ - 48 < 0 then -1 else if tx at_ - 48 < b then tx at_ - 48 else -1) else -1
def pZn (tx : Nat → Int32) (n : Nat) (f : Int32) (s : pS) : Bool × pS := if pDg tx n s.1 4 = -1 then (false, s) else (true, (s.1 + 1, pAddW s.2 (f + pDg tx n s.1 4)))
def pLeaf (tx : Nat → Int32) (n : Nat) (s : pS) (k : Bool × pS) : Bool × pS := if pSee tx n s.1 122 = true then pZn tx n 0 (s.1 + 1, s.2) else if pSee tx n s.1 119 = true then pZn tx n 4 (s.1 + 1, s.2) else if pSee tx n s.1 102 = true then (true, (s.1 + 1, pAddW s.2 8)) else k
def pOp (tx : Nat → Int32) (n at_ : Nat) : Int32 := if pSee tx n at_ 38 = true then 10 else if pSee tx n at_ 124 = true then 11 else -1
def pCl (tx : Nat → Int32) (n : Nat) (tm : pS → Bool × pS) : Nat → pS → Bool × pS
  | 0, s => (true, s)
  | k + 1, s => if pOp tx n s.1 = -1 then (true, s) else if (tm (s.1 + 1, s.2)).1 = false then tm (s.1 + 1, s.2) else pCl tx n tm k ((tm (s.1 + 1, s.2)).2.1, pAddW (tm (s.1 + 1, s.2)).2.2 (pOp tx n s.1))
def pCn (tx : Nat → Int32) (n : Nat) (tm : pS → Bool × pS) (s : pS) : Bool × pS := if (tm s).1 = false then tm s else pCl tx n tm 20 (tm s).2
def pTm (tx : Nat → Int32) (n : Nat) : Nat → pS → Bool × pS
  | 0, s => pLeaf tx n s (false, s)
  | f + 1, s => pLeaf tx n s (if pSee tx n s.1 40 = true then
      (if (pCn tx n (pTm tx n f) (s.1 + 1, s.2)).1 = false then pCn tx n (pTm tx n f) (s.1 + 1, s.2) else
        if pSee tx n (pCn tx n (pTm tx n f) (s.1 + 1, s.2)).2.1 41 = true then (true, ((pCn tx n (pTm tx n f) (s.1 + 1, s.2)).2.1 + 1, (pCn tx n (pTm tx n f) (s.1 + 1, s.2)).2.2)) else (false, (pCn tx n (pTm tx n f) (s.1 + 1, s.2)).2))
    else if pSee tx n s.1 33 = true then
      (if (pTm tx n f (s.1 + 1, s.2)).1 = false then pTm tx n f (s.1 + 1, s.2) else (true, ((pTm tx n f (s.1 + 1, s.2)).2.1, pAddW (pTm tx n f (s.1 + 1, s.2)).2.2 9)))
    else (false, s))
/-- the class's memory holds them -/
def eX (P T r s n : Nat) (M0 M : pM) (z : pS) : Prop := z.1 ≤ n ∧ z.2.length ≤ 20 ∧ M.1 P 2 = nI z.1 ∧ M.1 r 1 = nI z.2.length ∧ eL (M.1 s) z.2 ∧ M.2 = M0.2 ∧ (∀ q, q ≠ P → q ≠ r → q ≠ s → M.1 q = M0.1 q) ∧ (∀ j, j ≠ 2 → M.1 P j = M0.1 P j) ∧ (∀ j, j ≠ 1 → M.1 r j = M0.1 r j)
def bI (b : Bool) : Int32 := if b = true then 1 else 0
variable {P T r s n : Nat} {M0 M : pM} {z : pS}
/-- what the reader needs of the cells -/
def eXd (P T r s n : Nat) (M0 : pM) : Prop := n ≤ 20 ∧ M0.1 P 1 = nI n ∧ P ≠ T ∧ P ≠ r ∧ P ≠ s ∧ T ≠ r ∧ T ≠ s ∧ r ≠ s
theorem eX.see (D : eXd P T r s n M0) (h : eX P T r s n M0 M z) (c : Int32) : xSee M P T c = bI (pSee (M0.1 T) n z.1 c) := by
  obtain ⟨d1, d2, d3, d4, d5, d6, d7, d8⟩ := D
  obtain ⟨h1, h2, h3, h4, h5, h6, h7, h8, h9⟩ := h
  unfold xSee bI pSee
  rw [h3, h8 1 (by omega), d2, h7 T (Ne.symm d3) d6 d7, if_neg (nI_pos (by omega)), nI_clamp (by omega)]
  by_cases c1 : z.1 < n
  · rw [if_neg (nI_ge c1 (by omega)), if_neg (show ¬ (20 : Int32) ≤ nI z.1 from nI_ge (b := 20) (by omega) (by omega))]
    by_cases c2 : M0.1 T z.1 = c
    · rw [if_pos c2, if_pos (by simp [c1, c2])]
    · rw [if_neg c2, if_neg (by simp [c2])]
  · rw [if_pos (nI_le (by omega) (by omega)), if_neg (by simp [c1])]
theorem eX.at (D : eXd P T r s n M0) (h : eX P T r s n M0 M z) (hl : z.1 < n) : eX P T r s n M0 (pI M P 2 (M.1 P 2 + 1)) (z.1 + 1, z.2) := by
  obtain ⟨d1, d2, d3, d4, d5, d6, d7, d8⟩ := D
  obtain ⟨h1, h2, h3, h4, h5, h6, h7, h8, h9⟩ := h
  refine ⟨by show z.1 + 1 ≤ n; omega, h2, ?_, ?_, ?_, h6, fun q q1 q2 q3 => ?_, fun j hj => ?_, fun j hj => ?_⟩
  · rw [pI_same, h3, nI_1]
  · rw [pI_1n _ _ _ (Ne.symm d4)]; exact h4
  · rw [pI_1n _ _ _ (Ne.symm d5)]; exact h5
  · rw [pI_1n _ _ _ q1]; exact h7 q q1 q2 q3
  · rw [pI_diff _ _ _ hj]; exact h8 j hj
  · rw [pI_1n _ _ _ (Ne.symm d4)]; exact h9 j hj
theorem eX.step (D : eXd P T r s n M0) (h : eX P T r s n M0 M z) (v : Int32) : eX P T r s n M0 (xStep M r s v) (z.1, pAddW z.2 v) := by
  obtain ⟨d1, d2, d3, d4, d5, d6, d7, d8⟩ := D
  obtain ⟨h1, h2, h3, h4, h5, h6, h7, h8, h9⟩ := h
  unfold xStep pAddW
  rw [h4, if_neg (nI_pos (by omega)), nI_clamp (by omega)]
  by_cases c : z.2.length < 20
  · rw [if_neg (show ¬ (20 : Int32) ≤ nI z.2.length from nI_ge (b := 20) c (by omega)), if_pos c]
    refine ⟨h1, by show z.2.length + 1 ≤ 20; omega, ?_, ?_, ?_, h6, fun q q1 q2 q3 => ?_, fun j hj => ?_, fun j hj => ?_⟩
    · rw [pI_1n _ _ _ d4, pI_1n _ _ _ d5]; exact h3
    · rw [pI_same, nI_1]; rfl
    · rw [pI_1n _ _ _ (Ne.symm d8), pI_1s]; exact eL_up h5 v
    · rw [pI_1n _ _ _ q2, pI_1n _ _ _ q3]; exact h7 q q1 q2 q3
    · rw [pI_1n _ _ _ d4, pI_1n _ _ _ d5]; exact h8 j hj
    · rw [pI_diff _ _ _ hj, pI_1n _ _ _ d8]; exact h9 j hj
  · rw [if_pos (show (20 : Int32) ≤ nI z.2.length from nI_le (a := 20) (by omega) (by omega)), if_neg c]
    exact ⟨h1, h2, h3, h4, h5, h6, h7, h8, h9⟩
theorem eX.ps (D : eXd P T r s n M0) (h : eX P T r s n M0 M z) (c : Int32) : (xPs M P T c).1 = bI (pSee (M0.1 T) n z.1 c) ∧ eX P T r s n M0 (xPs M P T c).2 (if pSee (M0.1 T) n z.1 c = true then (z.1 + 1, z.2) else z) := by
  unfold xPs
  rw [h.see D]
  cases e : pSee (M0.1 T) n z.1 c
  · exact ⟨rfl, h⟩
  · have : z.1 < n := (of_decide_eq_true e).1
    exact ⟨rfl, h.at D this⟩
theorem eX.dg (D : eXd P T r s n M0) (h : eX P T r s n M0 M z) {b : Int32} : (xDg M P T b).1 = pDg (M0.1 T) n z.1 b ∧ eX P T r s n M0 (xDg M P T b).2 (if pDg (M0.1 T) n z.1 b = -1 then z else (z.1 + 1, z.2)) := by
  obtain ⟨h1, h2, h3, h4, h5, h6, h7, h8, h9⟩ := id h
  obtain ⟨d1, d2, d3, d4, d5, d6, d7, d8⟩ := id D
  unfold xDg pDg
  rw [h8 1 (by omega), d2, h7 T (Ne.symm d3) d6 d7, h3, if_neg (nI_pos (by omega)), nI_clamp (by omega)]
  by_cases c1 : z.1 < n
  · rw [if_neg (nI_ge c1 (by omega)), if_pos (show nI z.1 < (20 : Int32) from nI_lt (b := 20) (by omega) (by omega)), if_pos c1]
    by_cases c2 : M0.1 T z.1 - 48 < 0
    · rw [if_pos c2, if_pos c2, if_pos rfl]; exact ⟨rfl, h⟩
    · rw [if_neg c2, if_neg c2]
      by_cases c3 : M0.1 T z.1 - 48 < b
      · rw [if_pos c3, if_pos c3]
        refine ⟨rfl, ?_⟩
        rw [if_neg (fun e => c2 (by rw [e]; decide))]
        have := h.at D c1
        rw [h3] at this
        exact this
      · rw [if_neg c3, if_neg c3, if_pos rfl]; exact ⟨rfl, h⟩
  · rw [if_pos (nI_le (by omega) (by omega)), if_neg c1, if_pos rfl]; exact ⟨rfl, h⟩
theorem eX.zn (D : eXd P T r s n M0) (h : eX P T r s n M0 M z) (f : Int32) : (xZn M P T r s f).1 = bI (pZn (M0.1 T) n f z).1 ∧ eX P T r s n M0 (xZn M P T r s f).2 (pZn (M0.1 T) n f z).2 := by
  obtain ⟨e1, e2⟩ := h.dg D (b := 4)
  unfold xZn pZn
  rw [e1]
  by_cases c : pDg (M0.1 T) n z.1 4 = -1
  · rw [if_pos c] at e2
    rw [if_pos c, if_pos c]
    exact ⟨rfl, e2⟩
  · rw [if_neg c] at e2
    rw [if_neg c, if_neg c]
    exact ⟨rfl, e2.step D _⟩
theorem bI_0 {b : Bool} : bI b = 0 ↔ b = false := by cases b <;> simp [bI]
/-- two answers agree -/
def eA (P T r s n : Nat) (M0 : pM) (x : Int32 × pM) (y : Bool × pS) : Prop := x.1 = bI y.1 ∧ eX P T r s n M0 x.2 y.2
theorem eX.leaf (D : eXd P T r s n M0) (h : eX P T r s n M0 M z) {k : Int32 × pM} {k' : Bool × pS} (hk : eA P T r s n M0 k k') : eA P T r s n M0 (xLeaf P T r s M k) (pLeaf (M0.1 T) n z k') := by
  obtain ⟨a1, a2⟩ := h.ps D 122
  obtain ⟨b1, b2⟩ := h.ps D 119
  obtain ⟨c1, c2⟩ := h.ps D 102
  unfold xLeaf pLeaf
  rw [a1, b1, c1]
  have f0 : bI false = 0 := rfl
  have f1 : ¬ bI true = 0 := by decide
  have g0 : ¬ false = true := by decide
  cases e1 : pSee (M0.1 T) n z.1 122
  · rw [if_pos f0, if_neg g0]
    cases e2 : pSee (M0.1 T) n z.1 119
    · rw [if_pos f0, if_neg g0]
      cases e3 : pSee (M0.1 T) n z.1 102
      · rw [if_pos f0, if_neg g0]
        exact hk
      · rw [if_neg f1, if_pos rfl]
        rw [e3, if_pos rfl] at c2
        exact ⟨rfl, c2.step D 8⟩
    · rw [if_neg f1, if_pos rfl]
      rw [e2, if_pos rfl] at b2
      exact b2.zn D 4
  · rw [if_neg f1, if_pos rfl]
    rw [e1, if_pos rfl] at a2
    exact a2.zn D 0
theorem eX.op (D : eXd P T r s n M0) (h : eX P T r s n M0 M z) : xOp M P T = pOp (M0.1 T) n z.1 := by
  unfold xOp pOp
  rw [h.see D, h.see D]
  cases pSee (M0.1 T) n z.1 38 <;> cases pSee (M0.1 T) n z.1 124 <;> rfl
theorem pOp_lt {tx : Nat → Int32} {n k : Nat} (h : ¬ pOp tx n k = -1) : k < n := by
  unfold pOp at h
  cases e : pSee tx n k 38
  · cases e2 : pSee tx n k 124
    · rw [e, e2] at h; exact absurd rfl h
    · exact (of_decide_eq_true e2).1
  · exact (of_decide_eq_true e).1
theorem eX.cl (D : eXd P T r s n M0) {tm : pM → Int32 × pM} {tm' : pS → Bool × pS} (ht : ∀ M z, eX P T r s n M0 M z → eA P T r s n M0 (tm M) (tm' z)) : ∀ (k : Nat) (M : pM) (z : pS), eX P T r s n M0 M z → eA P T r s n M0 (xCl P T r s tm k M) (pCl (M0.1 T) n tm' k z)
  | 0, M, z, h => ⟨rfl, h⟩
  | k + 1, M, z, h => by
    rw [xCl, pCl, h.op D]
    by_cases c : pOp (M0.1 T) n z.1 = -1
    · rw [if_pos c, if_pos c]; exact ⟨rfl, h⟩
    · rw [if_neg c, if_neg c]
      obtain ⟨e1, e2⟩ := ht _ _ (h.at D (pOp_lt c))
      rw [e1]
      cases e : (tm' (z.1 + 1, z.2)).1
      · rw [if_pos (show bI false = 0 from rfl), if_pos rfl]
        exact ⟨by rw [e]; rfl, e2⟩
      · rw [if_neg (show ¬ bI true = 0 by decide), if_neg (by decide)]
        exact eX.cl D ht k _ _ (e2.step D _)
theorem eX.cn (D : eXd P T r s n M0) {tm : pM → Int32 × pM} {tm' : pS → Bool × pS} (ht : ∀ M z, eX P T r s n M0 M z → eA P T r s n M0 (tm M) (tm' z)) (h : eX P T r s n M0 M z) : eA P T r s n M0 (xCn P T r s tm M) (pCn (M0.1 T) n tm' z) := by
  unfold xCn pCn
  obtain ⟨e1, e2⟩ := ht _ _ h
  rw [e1]
  cases e : (tm' z).1
  · rw [if_pos (show bI false = 0 from rfl), if_pos rfl]
    exact ⟨by rw [e]; rfl, e2⟩
  · rw [if_neg (show ¬ bI true = 0 by decide), if_neg (by decide)]
    exact eX.cl D ht 20 _ _ e2
theorem eX.tm (D : eXd P T r s n M0) : ∀ (f : Nat) (M : pM) (z : pS), eX P T r s n M0 M z → eA P T r s n M0 (xTm P T r s f M) (pTm (M0.1 T) n f z)
  | 0, M, z, h => by
    rw [xTm, pTm]
    exact h.leaf D ⟨rfl, h⟩
  | f + 1, M, z, h => by
    rw [xTm, pTm]
    refine h.leaf D ?_
    obtain ⟨a1, a2⟩ := h.ps D 40
    obtain ⟨b1, b2⟩ := h.ps D 33
    rw [a1, b1]
    cases e1 : pSee (M0.1 T) n z.1 40
    · rw [if_pos (show bI false = 0 from rfl), if_neg (show ¬ false = true by decide)]
      cases e2 : pSee (M0.1 T) n z.1 33
      · rw [if_pos (show bI false = 0 from rfl), if_neg (show ¬ false = true by decide)]
        exact ⟨rfl, h⟩
      · rw [if_neg (show ¬ bI true = 0 by decide), if_pos rfl]
        rw [e2] at b2
        obtain ⟨t1, t2⟩ := eX.tm D f _ _ b2
        rw [if_pos rfl] at t1 t2
        rw [t1]
        cases e3 : (pTm (M0.1 T) n f (z.1 + 1, z.2)).1
        · rw [if_pos (show bI false = 0 from rfl), if_pos rfl]
          exact ⟨by rw [e3]; rfl, t2⟩
        · rw [if_neg (show ¬ bI true = 0 by decide), if_neg (by decide)]
          exact ⟨rfl, t2.step D 9⟩
    · rw [if_neg (show ¬ bI true = 0 by decide), if_pos rfl]
      rw [e1] at a2
      obtain ⟨t1, t2⟩ := eX.cn D (eX.tm D f) a2
      rw [if_pos rfl] at t1 t2
      rw [t1]
      cases e3 : (pCn (M0.1 T) n (pTm (M0.1 T) n f) (z.1 + 1, z.2)).1
      · rw [if_pos (show bI false = 0 from rfl), if_pos rfl]
        exact ⟨by rw [e3]; rfl, t2⟩
      · rw [if_neg (show ¬ bI true = 0 by decide), if_neg (by decide)]
        obtain ⟨u1, u2⟩ := t2.ps D 41
        cases e4 : pSee (M0.1 T) n (pCn (M0.1 T) n (pTm (M0.1 T) n f) (z.1 + 1, z.2)).2.1 41
        · rw [e4] at u1 u2
          exact ⟨u1, u2⟩
        · rw [e4] at u1 u2
          exact ⟨u1, u2⟩
end SIM8
