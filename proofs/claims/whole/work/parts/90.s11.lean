section SIM11
/-- what comes behind a condition that ends at j: the fault or -1, output, delay -/
def pTg (tx : Nat → Int32) (n j : Nat) : Int32 × (Int32 × Int32) :=
  if pSee tx n j 62 = true then
    (if pDg tx n (j + 1) 6 = -1 then (nI (j + 1), (0, 0)) else
      if pSee tx n (j + 2) 58 = true then
        (if pDg tx n (j + 3) 10 = -1 then (nI (j + 3), (0, 0)) else if j + 4 = n then (-1, (pDg tx n (j + 1) 6, pDg tx n (j + 3) 10)) else (nI (j + 4), (0, 0)))
      else if j + 2 = n then (-1, (pDg tx n (j + 1) 6, 0)) else (nI (j + 2), (0, 0)))
  else (nI j, (0, 0))
def xFin (P : Nat) (t : Int32 × pM) : Int32 := if t.1 = 0 then t.2.1 P 2 else if t.2.1 P 2 = t.2.1 P 1 then -1 else t.2.1 P 2
variable {P T r s n : Nat} {M0 M : pM} {z : pS}
theorem eX.row (D : eXd P T r s n M0) (h : eX P T r s n M0 M z) {j : Nat} (hj : j ≠ 1) (v : Int32) : eXd P T r s n (pI M0 r j v) ∧ eX P T r s n (pI M0 r j v) (pI M r j v) z ∧ (pI M0 r j v).1 T = M0.1 T := by
  obtain ⟨d1, d2, d3, d4, d5, d6, d7, d8⟩ := D
  obtain ⟨h1, h2, h3, h4, h5, h6, h7, h8, h9⟩ := h
  refine ⟨⟨d1, by rw [pI_1n _ _ _ d4]; exact d2, d3, d4, d5, d6, d7, d8⟩, ⟨h1, h2, ?_, ?_, ?_, h6, fun q q1 q2 q3 => ?_, fun j' hj' => ?_, fun j' hj' => ?_⟩, pI_1n _ _ _ d6⟩
  · rw [pI_1n _ _ _ d4]; exact h3
  · rw [pI_diff _ _ _ (Ne.symm hj)]; exact h4
  · rw [pI_1n _ _ _ (Ne.symm d8)]; exact h5
  · rw [pI_1n _ _ _ q2, pI_1n _ _ _ q2]; exact h7 q q1 q2 q3
  · rw [pI_1n _ _ _ d4, pI_1n _ _ _ d4]; exact h8 j' hj'
  · rw [pI_rd, pI_rd]
    by_cases c : j' = j
    · rw [if_pos c, if_pos c]
    · rw [if_neg c, if_neg c]; exact h9 j' hj'
/-- the row's own cells may differ -/
def frR (r : Nat) (M0 M1 : pM) : Prop := M1.2 = M0.2 ∧ (∀ q, q ≠ r → M1.1 q = M0.1 q) ∧ ∀ j, j ≠ 2 → j ≠ 3 → M1.1 r j = M0.1 r j
theorem frR.rf : frR r M0 M0 := ⟨rfl, fun _ _ => rfl, fun _ _ _ => rfl⟩
theorem frR.pI2 {j : Nat} (hj : j = 2 ∨ j = 3) (v : Int32) {M1 : pM} (h : frR r M0 M1) : frR r M0 (pI M1 r j v) :=
  ⟨h.1, fun q hq => by rw [pI_1n _ _ _ hq]; exact h.2.1 q hq, fun j' h2 h3 => by rw [pI_diff _ _ _ (by omega)]; exact h.2.2 j' h2 h3⟩
theorem dg_ne {tx : Nat → Int32} {n k : Nat} {b : Int32} (h : ¬ pDg tx n k b = -1) : k < n := by
  unfold pDg at h
  by_cases c : k < n
  · exact c
  · rw [if_neg c] at h; exact absurd rfl h
theorem nI_m1 {k : Nat} (h : k < 2 ^ 31) : ¬ nI k = -1 := fun q => nI_pos h (by rw [q]; decide)
theorem eX.fin (D : eXd P T r s n M0) (h : eX P T r s n M0 M z) : M.1 P 2 = nI z.1 ∧ M.1 P 1 = nI n ∧ (M.1 P 2 = M.1 P 1 ↔ z.1 = n) := by
  obtain ⟨d1, d2, -⟩ := id D
  obtain ⟨h1, h2, h3, h4, h5, h6, h7, h8, h9⟩ := h
  have e1 : M.1 P 1 = nI n := by rw [h8 1 (by omega)]; exact d2
  refine ⟨h3, e1, ?_⟩
  rw [h3, e1]
  exact nI_eq (by omega) (by omega)
theorem eX.tg (D : eXd P T r s n M0) (h : eX P T r s n M0 M z) (h3 : M0.1 r 3 = 0) : xFin P (xTg M P T r) = (pTg (M0.1 T) n z.1).1 ∧ ∃ M1 z', eX P T r s n M1 (xTg M P T r).2 z' ∧ z'.2 = z.2 ∧ frR r M0 M1 ∧ ((pTg (M0.1 T) n z.1).1 = -1 → M1.1 r 2 = (pTg (M0.1 T) n z.1).2.1 ∧ M1.1 r 3 = (pTg (M0.1 T) n z.1).2.2) := by
  have dd := D.1
  obtain ⟨a1, a2⟩ := h.ps D 62
  unfold xTg pTg
  rw [a1]
  cases e1 : pSee (M0.1 T) n z.1 62
  · rw [if_pos (show bI false = 0 from rfl), if_neg (show ¬ false = true by decide)]
    have hz := h.1
    refine ⟨?_, M0, z, h, rfl, frR.rf, fun q => absurd q (nI_m1 (by omega))⟩
    unfold xFin
    rw [if_pos rfl]
    exact h.2.2.1
  rw [if_neg (show ¬ bI true = 0 by decide), if_pos rfl]
  rw [e1, if_pos rfl] at a2
  have z1 : z.1 < n := (of_decide_eq_true e1).1
  obtain ⟨b1, b2⟩ := a2.dg D (b := 6)
  -- the output
  have hT3 : ∃ M1 z', eXd P T r s n M1 ∧ eX P T r s n M1 (xT3 M P T r) z' ∧ z'.2 = z.2 ∧ z'.1 = (if pDg (M0.1 T) n (z.1 + 1) 6 = -1 then z.1 + 1 else z.1 + 2) ∧ frR r M0 M1 ∧ M1.1 T = M0.1 T ∧ M1.1 r 2 = pDg (M0.1 T) n (z.1 + 1) 6 ∧ M1.1 r 3 = 0 := by
    unfold xT3
    obtain ⟨g1, g2, g3⟩ := b2.row D (j := 2) (by omega) (pDg (M0.1 T) n (z.1 + 1) 6)
    rw [b1]
    refine ⟨_, _, g1, g2, ?_, ?_, frR.rf.pI2 (Or.inl rfl) _, g3, pI_same _ _ _ _, by rw [pI_diff _ _ _ (by omega)]; exact h3⟩
    · split <;> rfl
    · split <;> rfl
  obtain ⟨M1, z', D1, hx, zo, za, fr, eT, e2, e3⟩ := hT3
  have er2 : (xT3 M P T r).1 r 2 = pDg (M0.1 T) n (z.1 + 1) 6 := by rw [hx.2.2.2.2.2.2.2.2 2 (by omega)]; exact e2
  rw [er2]
  by_cases c2 : pDg (M0.1 T) n (z.1 + 1) 6 = -1
  · rw [if_pos c2, if_pos c2]
    rw [if_pos c2] at za
    refine ⟨?_, M1, z', hx, zo, fr, fun q => absurd q (nI_m1 (by omega))⟩
    unfold xFin
    rw [if_pos rfl]
    show (xT3 M P T r).1 P 2 = nI (z.1 + 1)
    rw [hx.2.2.1, za]
  rw [if_neg c2, if_neg c2]
  rw [if_neg c2] at za
  have hk1 : z.1 + 1 < n := dg_ne c2
  -- the delay
  obtain ⟨f1, f2⟩ := hx.ps D1 58
  rw [eT, za] at f1 f2
  unfold xT4
  rw [f1]
  cases e4 : pSee (M0.1 T) n (z.1 + 2) 58
  · rw [if_pos (show bI false = 0 from rfl), if_neg (show ¬ false = true by decide)]
    have er3 : (xT3 M P T r).1 r 3 = 0 := by rw [hx.2.2.2.2.2.2.2.2 3 (by omega)]; exact e3
    rw [er3]
    obtain ⟨g1, g2, g3⟩ := hx.fin D1
    have ef : xFin P ((if (0 : Int32) = -1 then 0 else 1), xT3 M P T r) = if z'.1 = n then -1 else nI z'.1 := by
      unfold xFin
      rw [if_neg (show ¬ (if (0 : Int32) = -1 then (0 : Int32) else 1) = 0 by decide)]
      show (if (xT3 M P T r).1 P 2 = (xT3 M P T r).1 P 1 then (-1 : Int32) else (xT3 M P T r).1 P 2) = _
      by_cases c : z'.1 = n
      · rw [if_pos (g3.mpr c), if_pos c]
      · rw [if_neg (fun q => c (g3.mp q)), if_neg c, g1]
    rw [ef, za]
    by_cases c5 : z.1 + 2 = n
    · rw [if_pos c5, if_pos c5]
      exact ⟨rfl, M1, z', hx, zo, fr, fun _ => ⟨e2, e3⟩⟩
    · rw [if_neg c5, if_neg c5]
      exact ⟨rfl, M1, z', hx, zo, fr, fun q => absurd q (nI_m1 (by omega))⟩
  · rw [if_neg (show ¬ bI true = 0 by decide), if_pos rfl]
    rw [e4, if_pos rfl] at f2
    obtain ⟨p1, p2⟩ := f2.dg D1 (b := 10)
    rw [eT] at p1 p2
    rw [p1]
    obtain ⟨g1, g2, g3⟩ := p2.row D1 (j := 3) (by omega) (pDg (M0.1 T) n (z.1 + 3) 10)
    generalize hM4 : pI (xDg (xPs (xT3 M P T r) P T 58).2 P T 10).2 r 3 (pDg (M0.1 T) n (z.1 + 3) 10) = M4
    rw [hM4] at g2
    dsimp only at g2
    rw [show z.1 + 2 + 1 = z.1 + 3 from rfl] at g2
    have er3 : M4.1 r 3 = pDg (M0.1 T) n (z.1 + 3) 10 := by rw [← hM4, pI_same]
    rw [er3]
    by_cases c6 : pDg (M0.1 T) n (z.1 + 3) 10 = -1
    · rw [if_pos c6, if_pos c6]
      rw [if_pos c6] at g2
      refine ⟨?_, _, _, g2, zo, fr.pI2 (Or.inr rfl) _, fun q => absurd q (nI_m1 (by omega))⟩
      unfold xFin
      rw [if_pos rfl]
      exact g2.2.2.1
    · rw [if_neg c6, if_neg c6]
      rw [if_neg c6] at g2
      have hk3 : z.1 + 3 < n := dg_ne c6
      obtain ⟨q1, q2, q3⟩ := g2.fin g1
      have ef : xFin P ((1 : Int32), M4) = if z.1 + 4 = n then -1 else nI (z.1 + 4) := by
        unfold xFin
        rw [if_neg (show ¬ (1 : Int32) = 0 by decide)]
        show (if M4.1 P 2 = M4.1 P 1 then (-1 : Int32) else M4.1 P 2) = _
        by_cases c : z.1 + 4 = n
        · rw [if_pos (q3.mpr c), if_pos c]
        · rw [if_neg (fun q => c (q3.mp q)), if_neg c]; exact q1
      rw [ef]
      by_cases c7 : z.1 + 4 = n
      · rw [if_pos c7, if_pos c7]
        exact ⟨rfl, _, _, g2, zo, fr.pI2 (Or.inr rfl) _, fun _ => ⟨by rw [pI_diff _ _ _ (by omega)]; exact e2, pI_same _ _ _ _⟩⟩
      · rw [if_neg c7, if_neg c7]
        exact ⟨rfl, _, _, g2, zo, fr.pI2 (Or.inr rfl) _, fun q => absurd q (nI_m1 (by omega))⟩
/-- what the class's reader leaves: fault or -1, and the row -/
def pFa (tx : Nat → Int32) (n : Nat) : Int32 := if (pCn tx n (pTm tx n 4) (0, [])).1 = false then nI (pCn tx n (pTm tx n 4) (0, [])).2.1 else (pTg tx n (pCn tx n (pTm tx n 4) (0, [])).2.1).1
/-- reading leaves all but the reader's place and the row -/
def frX (P r s : Nat) (M M' : pM) : Prop := M'.2 = M.2 ∧ (∀ q, q ≠ P → q ≠ r → q ≠ s → M'.1 q = M.1 q) ∧ ∀ j, j ≠ 2 → M'.1 P j = M.1 P j
theorem xRI_n (hn : n ≤ 20) (hP : M.1 P 1 = nI n) (d3 : P ≠ T) (d4 : P ≠ r) (d5 : P ≠ s) (d6 : T ≠ r) (d7 : T ≠ s) (d8 : r ≠ s) : (xRI M P T r s).1 = pFa (M.1 T) n ∧ frX P r s M (xRI M P T r s).2 ∧ (pFa (M.1 T) n = -1 → ∃ o : List Int32, o = (pCn (M.1 T) n (pTm (M.1 T) n 4) (0, [])).2.2 ∧ o.length ≤ 20 ∧ (xRI M P T r s).2.1 r 1 = nI o.length ∧ eL ((xRI M P T r s).2.1 s) o ∧ (xRI M P T r s).2.1 r 2 = (pTg (M.1 T) n (pCn (M.1 T) n (pTm (M.1 T) n 4) (0, [])).2.1).2.1 ∧ (xRI M P T r s).2.1 r 3 = (pTg (M.1 T) n (pCn (M.1 T) n (pTm (M.1 T) n 4) (0, [])).2.1).2.2 ∧ (xRI M P T r s).2.1 r 4 = 0) := by
  generalize hM0 : xI1 M P r = M0
  have x0 : M0 = pI (pI (pI (pI (pI M P 2 0) r 1 0) r 2 0) r 3 0) r 4 0 := by rw [← hM0]; rfl
  have eT : M0.1 T = M.1 T := by
    rw [x0, pI_1n _ _ _ d6, pI_1n _ _ _ d6, pI_1n _ _ _ d6, pI_1n _ _ _ d6, pI_1n _ _ _ (Ne.symm d3)]
  have eP : ∀ j, M0.1 P j = if j = 2 then 0 else M.1 P j := by
    intro j
    rw [x0, pI_1n _ _ _ d4, pI_1n _ _ _ d4, pI_1n _ _ _ d4, pI_1n _ _ _ d4, pI_rd]
  have er1 : M0.1 r 1 = 0 := by
    rw [x0, pI_diff _ _ _ (by omega), pI_diff _ _ _ (by omega), pI_diff _ _ _ (by omega), pI_same]
  have er3 : M0.1 r 3 = 0 := by
    rw [x0, pI_diff _ _ _ (by omega), pI_same]
  have er4 : M0.1 r 4 = 0 := by
    rw [x0, pI_same]
  have eo : ∀ q, q ≠ P → q ≠ r → M0.1 q = M.1 q := by
    intro q q1 q2
    rw [x0, pI_1n _ _ _ q2, pI_1n _ _ _ q2, pI_1n _ _ _ q2, pI_1n _ _ _ q2, pI_1n _ _ _ q1]
  have e2 : M0.2 = M.2 := by rw [x0]; rfl
  have D : eXd P T r s n M0 := ⟨hn, by rw [eP 1, if_neg (by omega)]; exact hP, d3, d4, d5, d6, d7, d8⟩
  have h0 : eX P T r s n M0 M0 (0, []) := ⟨by show 0 ≤ n; omega, by simp, by rw [eP 2, if_pos rfl]; rfl, by rw [er1]; rfl, trivial, rfl, fun _ _ _ _ => rfl, fun _ _ => rfl, fun _ _ => rfl⟩
  have hc := eX.cn D (eX.tm D 4) h0
  unfold xRI pFa
  rw [hM0, ← eT]
  generalize xCn P T r s (xTm P T r s 4) M0 = C at hc ⊢
  generalize pCn (M0.1 T) n (pTm (M0.1 T) n 4) (0, []) = y at hc ⊢
  obtain ⟨c1, c2⟩ := hc
  have F : ∀ (M1 : pM) (z' : pS) (M' : pM), eX P T r s n M1 M' z' → frR r M0 M1 → frX P r s M M' := by
    intro M1 z' M' hx fr
    refine ⟨by rw [hx.2.2.2.2.2.1, fr.1, e2], fun q q1 q2 q3 => ?_, fun j hj => ?_⟩
    · rw [hx.2.2.2.2.2.2.1 q q1 q2 q3, fr.2.1 q q2, eo q q1 q2]
    · rw [hx.2.2.2.2.2.2.2.1 j hj, fr.2.1 P d4, eP j, if_neg hj]
  rw [c1]
  cases hb : y.1
  · rw [if_pos (show bI false = 0 from rfl), if_pos rfl]
    have hz := c2.1
    exact ⟨c2.2.2.1, F _ _ _ c2 frR.rf, fun q => absurd q (nI_m1 (by omega))⟩
  · rw [if_neg (show ¬ bI true = 0 by decide), if_neg (show ¬ true = false by decide)]
    obtain ⟨t1, M1, z', t2, t3, t4, t5⟩ := c2.tg D er3
    have key : (if (xTg C.2 P T r).1 = 0 then ((xTg C.2 P T r).2.1 P 2, (xTg C.2 P T r).2) else (if (xTg C.2 P T r).2.1 P 2 = (xTg C.2 P T r).2.1 P 1 then (-1 : Int32) else (xTg C.2 P T r).2.1 P 2, (xTg C.2 P T r).2)) = (xFin P (xTg C.2 P T r), (xTg C.2 P T r).2) := by
      unfold xFin
      split <;> rfl
    rw [key]
    refine ⟨t1, F _ _ _ t2 t4, fun q => ?_⟩
    obtain ⟨u1, u2⟩ := t5 q
    refine ⟨z'.2, t3, t2.2.1, t2.2.2.2.1, t2.2.2.2.2.1, ?_, ?_, ?_⟩
    · show (xTg C.2 P T r).2.1 r 2 = _
      rw [t2.2.2.2.2.2.2.2.2 2 (by omega)]; exact u1
    · show (xTg C.2 P T r).2.1 r 3 = _
      rw [t2.2.2.2.2.2.2.2.2 3 (by omega)]; exact u2
    · show (xTg C.2 P T r).2.1 r 4 = _
      rw [t2.2.2.2.2.2.2.2.2 4 (by omega), t4.2.2 4 (by omega) (by omega)]; exact er4
end SIM11
