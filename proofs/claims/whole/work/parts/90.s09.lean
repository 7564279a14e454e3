section SIM9
/-! the reference's reader on lists: what waits (the top first), what is made (the latest first) -/
def aTd : List Int32 → List Int32 → List Int32 × List Int32
  | [], mw => ([], mw)
  | c :: st, mw => if c = 40 then (c :: st, mw) else aTd st ((if c = 33 then 9 else if c = 38 then 10 else 11) :: mw)
def aCnt : List Int32 → Nat
  | [] => 0
  | c :: l => aCnt l + (if c = 33 then 1 else if c = 40 then 1 else 0)
def aLk (tx : Nat → Int32) (n k : Nat) : Int32 := if k < n then tx k else 0
def aCd (tx : Nat → Int32) (n : Nat) : Nat → Bool → Nat → List Int32 → List Int32 → Int32 × (List Int32 × List Int32)
  | 0, _, _, st, mw => (0, (st, mw))
  | f + 1, t, k, st, mw => if n ≤ k then (-1 - nI n, (st, mw)) else
    if t = false then
      (if aLk tx n k = 38 then aCd tx n f true (k + 1) (aLk tx n k :: st) mw else if aLk tx n k = 124 then aCd tx n f true (k + 1) (aLk tx n k :: st) mw else
       if aLk tx n k = 41 then (if st = [] then (-1 - nI k, (st, mw)) else aCd tx n f false (k + 1) (aTd st.tail mw).1 (aTd st.tail mw).2) else
       if aLk tx n k = 62 then (if st = [] then (nI k, (st, mw)) else (-1 - nI k, (st, mw))) else (-1 - nI k, (st, mw)))
    else
      (if aLk tx n k = 33 ∨ aLk tx n k = 40 then (if aCnt st = 4 then (-1 - nI k, (st, mw)) else aCd tx n f true (k + 1) (aLk tx n k :: st) mw) else
       if aLk tx n k = 102 then aCd tx n f false (k + 1) (aTd st (8 :: mw)).1 (aTd st (8 :: mw)).2 else
       if aLk tx n k = 122 ∨ aLk tx n k = 119 then (if aLk tx n (k + 1) < 48 then (-1 - nI (k + 1), (st, mw)) else if aLk tx n (k + 1) ≤ 51 then aCd tx n f false (k + 2) (aTd st ((aLk tx n (k + 1) - 48 + (if aLk tx n k = 119 then 4 else 0)) :: mw)).1 (aTd st ((aLk tx n (k + 1) - 48 + (if aLk tx n k = 119 then 4 else 0)) :: mw)).2 else (-1 - nI (k + 1), (st, mw))) else (-1 - nI k, (st, mw)))
theorem aTd_len : ∀ (st mw : List Int32), (aTd st mw).1.length + (aTd st mw).2.length = st.length + mw.length
  | [], mw => rfl
  | c :: st, mw => by
    rw [aTd]
    split
    · rfl
    · rw [aTd_len st]; simp; omega
def eM (m : Nat → Nat) (n : Nat) (N0 N : pM) (st mw : List Int32) : Prop := st.length + mw.length ≤ 40 ∧ N.1 (m 0) 30 = nI st.length ∧ N.1 (m 0) 32 = nI mw.length ∧ eL (N.1 (m 31)) st ∧ eL (N.1 (m 33)) mw ∧ N0.1 (m 0) 23 = nI n ∧ N.2 = N0.2 ∧ (∀ q, q ≠ m 0 → q ≠ m 31 → q ≠ m 33 → N.1 q = N0.1 q) ∧ (∀ j, j ≠ 30 → j ≠ 32 → N.1 (m 0) j = N0.1 (m 0) j)
/-- what it needs of the cells -/
def eMd (m : Nat → Nat) : Prop := m 0 ≠ m 31 ∧ m 0 ≠ m 33 ∧ m 31 ≠ m 33 ∧ m 24 ≠ m 0 ∧ m 24 ≠ m 31 ∧ m 24 ≠ m 33
variable {m : Nat → Nat} {n : Nat} {N0 N : pM} {st mw : List Int32}
theorem eM.lk (D : eMd m) (hn : n ≤ 20) (h : eM m n N0 N st mw) {k : Nat} (hk : k ≤ 30) : mLk N m k = aLk (N0.1 (m 24)) n k := by
  obtain ⟨d1, d2, d3, d4, d5, d6⟩ := D
  obtain ⟨h0, h1, h2, h3, h4, h5, h6, h7, h8⟩ := h
  unfold mLk aLk
  rw [h8 23 (by omega) (by omega), h5, h7 (m 24) d4 d5 d6]
  by_cases c : k < n
  · rw [if_pos c, if_neg (nI_ge c (by omega))]
  · rw [if_neg c, if_pos (nI_le (by omega) (by omega))]
theorem eM.word (D : eMd m) (h : eM m n N0 N st mw) (hl : st.length + mw.length < 40) (v : Int32) : eM m n N0 (mWord N m v) st (v :: mw) := by
  obtain ⟨d1, d2, d3, d4, d5, d6⟩ := D
  obtain ⟨h0, h1, h2, h3, h4, h5, h6, h7, h8⟩ := h
  unfold mWord
  rw [h2, nI_clamp (by omega), nI_1]
  refine ⟨by simp; omega, ?_, ?_, ?_, ?_, h5, h6, fun q q1 q2 q3 => ?_, fun j j1 j2 => ?_⟩
  · rw [pI_diff _ _ _ (by omega), pI_1n _ _ _ d2]; exact h1
  · rw [pI_same]; rfl
  · rw [pI_1n _ _ _ (Ne.symm d1), pI_1n _ _ _ d3]; exact h3
  · rw [pI_1n _ _ _ (Ne.symm d2), pI_1s]; exact eL_up h4 v
  · rw [pI_1n _ _ _ q1, pI_1n _ _ _ q3]; exact h7 q q1 q2 q3
  · rw [pI_diff _ _ _ j2, pI_1n _ _ _ d2]; exact h8 j j1 j2
theorem eM.put (D : eMd m) (h : eM m n N0 N st mw) (hl : st.length + mw.length < 40) (v : Int32) : eM m n N0 (mPut N m v) (v :: st) mw := by
  obtain ⟨d1, d2, d3, d4, d5, d6⟩ := D
  obtain ⟨h0, h1, h2, h3, h4, h5, h6, h7, h8⟩ := h
  unfold mPut
  rw [h1, nI_clamp (by omega), nI_1]
  refine ⟨by simp; omega, ?_, ?_, ?_, ?_, h5, h6, fun q q1 q2 q3 => ?_, fun j j1 j2 => ?_⟩
  · rw [pI_same]; rfl
  · rw [pI_diff _ _ _ (by omega), pI_1n _ _ _ d1]; exact h2
  · rw [pI_1n _ _ _ (Ne.symm d1), pI_1s]; exact eL_up h3 v
  · rw [pI_1n _ _ _ (Ne.symm d2), pI_1n _ _ _ (Ne.symm d3)]; exact h4
  · rw [pI_1n _ _ _ q1, pI_1n _ _ _ q2]; exact h7 q q1 q2 q3
  · rw [pI_diff _ _ _ j1, pI_1n _ _ _ d1]; exact h8 j j1 j2
/-- the top is taken -/
theorem eM.pop (D : eMd m) {c : Int32} (h : eM m n N0 N (c :: st) mw) : eM m n N0 (pI N (m 0) 30 (nI st.length)) st mw := by
  obtain ⟨d1, d2, d3, d4, d5, d6⟩ := D
  obtain ⟨h0, h1, h2, h3, h4, h5, h6, h7, h8⟩ := h
  refine ⟨by simp at h0; omega, ?_, ?_, ?_, ?_, h5, h6, fun q q1 q2 q3 => ?_, fun j j1 j2 => ?_⟩
  · rw [pI_same]
  · rw [pI_diff _ _ _ (by omega)]; exact h2
  · rw [pI_1n _ _ _ (Ne.symm d1)]; exact h3.2
  · rw [pI_1n _ _ _ (Ne.symm d2)]; exact h4
  · rw [pI_1n _ _ _ q1]; exact h7 q q1 q2 q3
  · rw [pI_diff _ _ _ j1]; exact h8 j j1 j2
theorem eM.td (D : eMd m) : ∀ (st mw : List Int32) (N : pM), eM m n N0 N st mw → eM m n N0 (mTd m st.length N) (aTd st mw).1 (aTd st mw).2
  | [], mw, N, h => h
  | c :: st, mw, N, h => by
    have e : N.1 (m 31) st.length = c := h.2.2.2.1.1
    rw [List.length_cons, mTd, aTd, e]
    by_cases c40 : c = 40
    · rw [if_pos c40, if_pos c40]; exact h
    · rw [if_neg c40, if_neg c40]
      have h0 := h.1
      simp only [List.length_cons] at h0
      exact eM.td D st _ _ ((h.pop D).word D (by omega) _)
theorem eM.tdd (D : eMd m) (h : eM m n N0 N st mw) : eM m n N0 (mTdd N m) (aTd st mw).1 (aTd st mw).2 := by
  unfold mTdd
  have h0 := h.1
  rw [h.2.1, nI_clamp (by omega)]
  exact eM.td D st mw N h
def dN (f : Nat → Int32) : Nat → Nat
  | 0 => 0
  | W + 1 => dN f W + (if f W = 33 then 1 else if f W = 40 then 1 else 0)
theorem dN_c {f : Nat → Int32} : ∀ (l : List Int32), eL f l → dN f l.length = aCnt l
  | [], _ => rfl
  | c :: l, h => by
    rw [List.length_cons, dN, aCnt, h.1, dN_c l h.2]
theorem dN_le (f : Nat → Int32) : ∀ W, dN f W ≤ W
  | 0 => Nat.le_refl _
  | W + 1 => by
    have := dN_le f W
    rw [dN]
    repeat' split
    all_goals omega
theorem mDp_n {W : Nat} (hW : W ≤ 40) (h : N.1 (m 0) 30 = nI W) : ∀ (k i : Nat), i ≤ W → W < k + i → mDp N m k i (nI (dN (N.1 (m 31)) i)) = nI (dN (N.1 (m 31)) W)
  | 0, i, h1, h2 => by omega
  | k + 1, i, h1, h2 => by
    rw [mDp, h]
    by_cases c : i = W
    · subst c
      rw [if_pos (nI_le (Nat.le_refl _) (by omega))]
    · rw [if_neg (nI_ge (by omega) (by omega))]
      have e : (if N.1 (m 31) i = 33 then nI (dN (N.1 (m 31)) i) + 1 else if N.1 (m 31) i = 40 then nI (dN (N.1 (m 31)) i) + 1 else nI (dN (N.1 (m 31)) i)) = nI (dN (N.1 (m 31)) (i + 1)) := by
        rw [dN]
        repeat' split
        all_goals first | rw [nI_1] | rfl
      rw [e]
      exact mDp_n hW h k (i + 1) (by omega) (by omega)
theorem eM.dp (h : eM m n N0 N st mw) (hs : st.length ≤ 20) : mDp N m 25 0 0 = nI (aCnt st) := by
  rw [← dN_c st h.2.2.2.1]
  exact mDp_n (by omega) h.2.1 25 0 (by omega) (by omega)
theorem aCnt_le : ∀ st : List Int32, aCnt st ≤ st.length
  | [] => Nat.le_refl _
  | c :: st => by
    have := aCnt_le st
    rw [aCnt, List.length_cons]
    repeat' split
    all_goals omega
/-- the answers agree -/
def eB (m : Nat → Nat) (n : Nat) (N0 : pM) (x : Int32 × pM) (y : Int32 × (List Int32 × List Int32)) : Prop := x.1 = y.1 ∧ eM m n N0 x.2 y.2.1 y.2.2
theorem eM.cd (D : eMd m) (hn : n ≤ 20) : ∀ (f : Nat) (t : Bool) (k : Nat) (N : pM) (st mw : List Int32), eM m n N0 N st mw → st.length + mw.length ≤ k → k ≤ n → eB m n N0 (mCd m f (bI t) k N) (aCd (N0.1 (m 24)) n f t k st mw)
  | 0, t, k, N, st, mw, h, hl, hk => ⟨rfl, h⟩
  | f + 1, t, k, N, st, mw, h, hl, hk => by
    have n23 : N.1 (m 0) 23 = nI n := by rw [h.2.2.2.2.2.2.2.2 23 (by omega) (by omega)]; exact h.2.2.2.2.2.1
    have n30 := h.2.1
    rw [mCd, aCd, n23, h.lk D hn (by omega), h.lk D hn (k := k + 1) (by omega), n30]
    by_cases c0 : n ≤ k
    · rw [if_pos (nI_le c0 (by omega)), if_pos c0]; exact ⟨rfl, h⟩
    rw [if_neg (nI_ge (by omega) (by omega)), if_neg c0]
    generalize hx : aLk (N0.1 (m 24)) n k = x
    generalize hy : aLk (N0.1 (m 24)) n (k + 1) = y
    cases t
    · rw [if_pos (show bI false = 0 from rfl), if_pos rfl]
      by_cases c1 : x = 38
      · rw [if_pos c1, if_pos c1]
        exact eM.cd D hn f true (k + 1) _ _ _ (h.put D (by omega) x) (by simp; omega) (by omega)
      rw [if_neg c1, if_neg c1]
      by_cases c2 : x = 124
      · rw [if_pos c2, if_pos c2]
        exact eM.cd D hn f true (k + 1) _ _ _ (h.put D (by omega) x) (by simp; omega) (by omega)
      rw [if_neg c2, if_neg c2]
      by_cases c3 : x = 41
      · rw [if_pos c3, if_pos c3]
        cases st with
        | nil =>
          rw [if_pos (show nI ([] : List Int32).length ≤ 0 by decide), if_pos rfl]
          exact ⟨rfl, h⟩
        | cons c st =>
          rw [List.length_cons] at hl
          rw [if_neg (show ¬ nI (c :: st).length ≤ 0 from nI_nle (by simp) (by simp; omega)), if_neg (by simp), List.length_cons, nI_pred]
          have h2 := (h.pop D).tdd D
          refine eM.cd D hn f false (k + 1) _ _ _ h2 ?_ (by omega)
          have := aTd_len st mw
          show (aTd st mw).1.length + (aTd st mw).2.length ≤ k + 1
          omega
      rw [if_neg c3, if_neg c3]
      by_cases c4 : x = 62
      · rw [if_pos c4, if_pos c4]
        cases st with
        | nil =>
          rw [if_pos (show nI ([] : List Int32).length = 0 by decide), if_pos rfl]
          exact ⟨rfl, h⟩
        | cons c st =>
          rw [List.length_cons] at hl
          rw [if_neg (show ¬ nI (c :: st).length = 0 from nI_ne0 (by simp) (by simp; omega)), if_neg (by simp)]
          exact ⟨rfl, h⟩
      · rw [if_neg c4, if_neg c4]
        exact ⟨rfl, h⟩
    · rw [if_neg (show ¬ bI true = 0 by decide), if_neg (show ¬ true = false by decide)]
      by_cases c1 : x = 33 ∨ x = 40
      · rw [if_pos c1, if_pos c1, h.dp (by omega)]
        have := aCnt_le st
        by_cases c2 : aCnt st = 4
        · rw [if_pos (show nI (aCnt st) = 4 by rw [c2]; rfl), if_pos c2]; exact ⟨rfl, h⟩
        · rw [if_neg (show ¬ nI (aCnt st) = 4 from fun e => c2 ((nI_eq (b := 4) (by omega) (by omega)).mp e)), if_neg c2]
          exact eM.cd D hn f true (k + 1) _ _ _ (h.put D (by omega) x) (by simp; omega) (by omega)
      rw [if_neg c1, if_neg c1]
      by_cases c2 : x = 102
      · rw [if_pos c2, if_pos c2]
        have h2 := (h.word D (by omega) 8).tdd D
        refine eM.cd D hn f false (k + 1) _ _ _ h2 ?_ (by omega)
        have := aTd_len st (8 :: mw)
        rw [List.length_cons] at this
        omega
      rw [if_neg c2, if_neg c2]
      by_cases c3 : x = 122 ∨ x = 119
      · rw [if_pos c3, if_pos c3]
        by_cases c4 : y < 48
        · rw [if_pos c4, if_pos c4]; exact ⟨rfl, h⟩
        rw [if_neg c4, if_neg c4]
        have hk1 : k + 1 < n := by
          by_cases c : k + 1 < n
          · exact c
          · unfold aLk at hy
            rw [if_neg c] at hy
            rw [← hy] at c4
            exact absurd (by decide) c4
        by_cases c5 : y ≤ 51
        · rw [if_pos c5, if_pos c5]
          have h2 := (h.word D (by omega) (y - 48 + (if x = 119 then 4 else 0))).tdd D
          refine eM.cd D hn f false (k + 2) _ _ _ h2 ?_ (by omega)
          have := aTd_len st ((y - 48 + (if x = 119 then 4 else 0)) :: mw)
          rw [List.length_cons] at this
          omega
        · rw [if_neg c5, if_neg c5]; exact ⟨rfl, h⟩
      · rw [if_neg c3, if_neg c3]; exact ⟨rfl, h⟩
end SIM9
