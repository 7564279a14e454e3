section SIM13
variable {Z : Nat → UInt32 → Prop} {a m : Nat → Nat} {w kd : Nat → Int32} {R n : Nat} {M N : pM}
theorem eL_get {f g : Nat → Int32} : ∀ (l : List Int32), eL f l → eL g l → ∀ k, k < l.length → f k = g k ∧ f k ∈ l
  | [], _, _, k, hk => by simp at hk
  | c :: l, h1, h2, k, hk => by
    rw [List.length_cons] at hk
    by_cases e : k = l.length
    · subst e
      exact ⟨h1.1.trans h2.1.symm, by rw [h1.1]; exact List.mem_cons_self⟩
    · obtain ⟨q1, q2⟩ := eL_get l h1.2 h2.2 k (by omega)
      exact ⟨q1, List.mem_cons_of_mem _ q2⟩
/-- the reader's own work leaves the relation -/
theorem Sim.read (A : sAd a m) (h : Sim Z a m w kd R n M N) (hR : R < 6) {M' N' : pM} (f : frX (a 39) (a (26 + R)) (a (32 + R)) M M') (g : frM m R N N') : Sim Z a m w kd R n M' N' := by
  obtain ⟨h1, h2, h3, h4, h5, h6, h7, h8⟩ := h
  obtain ⟨f1, f2, f3⟩ := f
  obtain ⟨g1, g2, g3, g4, g5, g6⟩ := g
  have na : ∀ i, i < 43 → i ≠ 39 → i ≠ 26 + R → i ≠ 32 + R → M'.1 (a i) = M.1 (a i) := fun i hi i1 i2 i3 => f2 _ (A.na hi (by omega) i1) (A.na hi (by omega) i2) (A.na hi (by omega) i3)
  refine ⟨?_, ?_, ⟨h3.1, ?_, fun r hr => ?_⟩, ⟨h4.1, ?_, fun j hj => ?_⟩, ?_, fun p hp => ?_, ⟨fun k' hk' => ?_, fun p hp => ?_⟩, ?_⟩
  · intro i s k t e
    obtain ⟨u1, u2, u3, u4, u5⟩ := sT_of e
    have eM : M'.1 (a i) s = M.1 (a i) s := by
      by_cases c : i = 39
      · subst c
        refine f3 s ?_
        intro e2
        subst e2
        rcases sT_x (by omega) (by omega) (by omega) e with ⟨q, _⟩ | ⟨q, _⟩ | ⟨_, q, _⟩ | ⟨q, _⟩ | ⟨q, _⟩ <;> omega
      · rw [na i u2 c (by omega) (by omega)]
    have eN : N'.1 (m k) t = N.1 (m k) t := by
      by_cases c : k = 0
      · subst c
        exact g3 t (by omega) (by omega) (by omega)
      · rw [g2 k u3 c (by omega) (by omega) (by omega)]
    rw [eM, eN]
    exact h1 _ _ _ _ e
  · intro p s hp h2' h5'
    rw [f1, g1]; exact h2 p s hp h2' h5'
  · rw [na 0 (by omega) (by omega) (by omega) (by omega)]; exact h3.2.1
  · obtain ⟨⟨L, l1, l2, l3, l4⟩, l5, l6, l7⟩ := h3.2.2 r hr
    unfold sRow
    rw [na (26 + r) (by omega) (by omega) (by omega) (by omega), na (32 + r) (by omega) (by omega) (by omega) (by omega), g5 18 r (by omega) (by omega) (by omega), g5 19 r (by omega) (by omega) (by omega), g5 20 r (by omega) (by omega) (by omega), g5 21 r (by omega) (by omega) (by omega)]
    refine ⟨⟨L, l1, l2, l3, fun k hk => ?_⟩, l5, l6, l7⟩
    rw [g4 (20 * r + k) (by omega)]
    exact l4 k hk
  · rw [f3 1 (by omega)]; exact h4.2.1
  · rw [na 40 (by omega) (by omega) (by omega) (by omega), g2 24 (by omega) (by omega) (by omega) (by omega) (by omega)]; exact h4.2.2 j hj
  · unfold sEnt
    rw [na 41 (by omega) (by omega) (by omega) (by omega)]; exact h5
  · rw [na _ (by omega) (by omega) (by omega) (by omega)]; exact h6 p hp
  · rw [na 19 (by omega) (by omega) (by omega) (by omega)]; exact h7.1 k' hk'
  · rw [na _ (by omega) (by omega) (by omega) (by omega)]; exact h7.2 p hp
  · intro p s hp h2' h5'
    rw [f1]; exact h8 p s hp h2' h5'
/-- the readers look at the text alone -/
theorem pSee_cg {tx ty : Nat → Int32} (h : ∀ j, j < n → tx j = ty j) (k : Nat) (c : Int32) : pSee tx n k c = pSee ty n k c := by
  unfold pSee
  by_cases e : k < n
  · rw [h k e]
  · simp [e]
theorem pDg_cg {tx ty : Nat → Int32} (h : ∀ j, j < n → tx j = ty j) (k : Nat) (c : Int32) : pDg tx n k c = pDg ty n k c := by
  unfold pDg
  by_cases e : k < n
  · rw [h k e]
  · rw [if_neg e, if_neg e]
theorem pOp_cg {tx ty : Nat → Int32} (h : ∀ j, j < n → tx j = ty j) (k : Nat) : pOp tx n k = pOp ty n k := by
  unfold pOp
  rw [pSee_cg h, pSee_cg h]
theorem pLeaf_cg {tx ty : Nat → Int32} (h : ∀ j, j < n → tx j = ty j) (s : pS) (k : Bool × pS) : pLeaf tx n s k = pLeaf ty n s k := by
  unfold pLeaf pZn
  rw [pSee_cg h, pSee_cg h, pSee_cg h, pDg_cg h]
theorem pCl_cg {tx ty : Nat → Int32} (h : ∀ j, j < n → tx j = ty j) (tm : pS → Bool × pS) : ∀ (k : Nat) (s : pS), pCl tx n tm k s = pCl ty n tm k s
  | 0, s => rfl
  | k + 1, s => by
    rw [pCl, pCl, pOp_cg h, pCl_cg h tm k]
theorem pTm_cg {tx ty : Nat → Int32} (h : ∀ j, j < n → tx j = ty j) : ∀ (f : Nat), pTm tx n f = pTm ty n f
  | 0 => by
    funext s
    rw [pTm, pTm, pLeaf_cg h]
  | f + 1 => by
    have e : ∀ s, pCn tx n (pTm ty n f) s = pCn ty n (pTm ty n f) s := fun s => by
      unfold pCn
      rw [pCl_cg h]
    funext s
    rw [pTm, pTm, pLeaf_cg h, pTm_cg h f, e, pSee_cg h, pSee_cg h, pSee_cg h]
theorem pCn_cg {tx ty : Nat → Int32} (h : ∀ j, j < n → tx j = ty j) (s : pS) : pCn tx n (pTm tx n 4) s = pCn ty n (pTm ty n 4) s := by
  rw [pTm_cg h 4]
  unfold pCn
  rw [pCl_cg h]
theorem pTg_cg {tx ty : Nat → Int32} (h : ∀ j, j < n → tx j = ty j) (j : Nat) : pTg tx n j = pTg ty n j := by
  unfold pTg
  rw [pSee_cg h, pDg_cg h, pSee_cg h, pDg_cg h]
theorem pFa_cg {tx ty : Nat → Int32} (h : ∀ j, j < n → tx j = ty j) : pFa tx n = pFa ty n := by
  unfold pFa
  rw [pCn_cg h, pTg_cg h]
theorem pFa_n {tx : Nat → Int32} (hn : n ≤ 20) : pFa tx n = -1 ∨ ∃ k, k ≤ 24 ∧ pFa tx n = nI k := by
  obtain ⟨o1, o2⟩ := cond_ok (tx := tx) (n := n) hn
  unfold pFa
  generalize pCn tx n (pTm tx n 4) (0, []) = y at o1 o2 ⊢
  cases hb : y.1
  · obtain ⟨q, -⟩ := o2 hb
    rw [if_pos rfl]
    exact Or.inr ⟨_, by omega, rfl⟩
  · obtain ⟨F, -, -, q, -⟩ := o1 hb
    rw [if_neg (show ¬ true = false by decide)]
    unfold pTg
    repeat' split
    all_goals first | exact Or.inl rfl | exact Or.inr ⟨_, by omega, rfl⟩
theorem S_rule (A : sAd a m) (h : simP Z a m M N) : (mRule N m).2.1 (m 0) 0 = oK k1 (xRuO a M) ∧ simP Z a m (oM (xRuO a M) M) (mRule N m).2 ∧ (oK k1 (xRuO a M) = 0 → oV (xRuO a M) = (mRule N m).1) := by
  obtain ⟨w, kd, R, n, h⟩ := h
  have hR := h.2.2.1.1
  have eR := h.2.2.1.2.1
  have eR2 : N.1 (m 0) 16 = nI R := by rw [← eR]; exact (h.pf (by simp)).symm
  have bad : mRuT N m = 1 → xRuO a M = .inr xISE → (mRule N m).2.1 (m 0) 0 = oK k1 (xRuO a M) ∧ simP Z a m (oM (xRuO a M) M) (mRule N m).2 ∧ (oK k1 (xRuO a M) = 0 → oV (xRuO a M) = (mRule N m).1) := by
    intro e1 e2
    unfold mRule
    rw [e1, e2, if_neg (show ¬ (1 : Int32) = 0 by decide)]
    exact ⟨pI_same _ _ _ _, (Sim.thrown A h 1).P, fun q => absurd q (by decide)⟩
  by_cases c7 : 2 ≤ N.1 (m 0) 26
  · have c7' : ¬ N.1 (m 0) 26 < 2 := Int32.not_lt.mpr c7
    by_cases c6 : R = 6
    · refine bad ?_ ?_
      · simp [mRuT, c7', eR2, c6]; rfl
      · unfold xRuO
        rw [ent_e h, if_pos (decide_eq_true c7), eR, if_neg (nI_pos (by omega)), if_neg (show ¬ nI R < (6 : Int32) from nI_nlt (b := 6) (by omega) (by omega))]
    have hR6 : R < 6 := by omega
    have hn := h.2.2.2.1.1
    -- the class
    have hX := xRI_n (M := M) (P := a 39) (T := a 40) (r := a (26 + R)) (s := a (32 + R)) (n := n) hn h.2.2.2.1.2.1 (A.na (by omega) (by omega) (by omega)) (A.na (by omega) (by omega) (by omega)) (A.na (by omega) (by omega) (by omega)) (A.na (by omega) (by omega) (by omega)) (A.na (by omega) (by omega) (by omega)) (A.na (by omega) (by omega) (by omega))
    have hs0 := Sim.thrown A h 0
    have e23 : (pI N (m 0) 0 0).1 (m 0) 23 = nI n := by
      rw [pI_diff _ _ _ (by omega), ← h.2.2.2.1.2.1]
      exact (h.1 _ _ _ _ sT_pd).symm
    have hM := mRead_n (m := m) (N := pI N (m 0) 0 0) (n := n) A.2 hn e23 R
    have etx : ∀ j, j < n → (pI N (m 0) 0 0).1 (m 24) j = M.1 (a 40) j := fun j hj => (hs0.2.2.2.1.2.2 j hj).1.symm
    rw [pFa_cg etx, pCn_cg etx, pTg_cg etx] at hM
    have exu : xRu a M = xRI M (a 39) (a 40) (a (26 + R)) (a (32 + R)) := by
      unfold xRu
      rw [eR, show xC (nI R) = R from nI_clamp (by omega)]
    have emu : mRuR N m = mRead (pI N (m 0) 0 0) m R := by
      unfold mRuR
      rw [eR2, nI_clamp (by omega)]
    have eT : mRuT N m = 0 := by
      unfold mRuT
      rw [if_neg c7', eR2, if_neg (show ¬ nI R = (6 : Int32) from fun e => c6 ((nI_eq (b := 6) (by omega) (by omega)).mp e))]
    have eo : xRuO a M = if (xRu a M).1 = -1 then .inl (some (.int 0), pI (xRuM a M) (a 0) 6 ((xRuM a M).1 (a 0) 6 + 1)) else .inl (some (.int (1 + (xRu a M).1)), xRuM a M) := by
      unfold xRuO
      rw [ent_e h, if_pos (decide_eq_true c7), eR, if_neg (nI_pos (by omega)), if_pos (show nI R < (6 : Int32) from nI_lt (b := 6) hR6 (by omega))]
    unfold mRule
    rw [eT, if_pos rfl, eo]
    unfold xRuM mRuM
    rw [exu, emu]
    generalize xRI M (a 39) (a 40) (a (26 + R)) (a (32 + R)) = X at hX ⊢
    generalize mRead (pI N (m 0) 0 0) m R = Y at hM ⊢
    obtain ⟨x1, x2, x3⟩ := hX
    obtain ⟨y1, y2, y3⟩ := hM
    have s1 := Sim.read A hs0 hR6 x2 y2
    have s2 := Sim.wiped A s1
    have thr0 : (pI Y.2 (m 0) 23 0).1 (m 0) 0 = 0 := by
      rw [pI_diff _ _ _ (by omega), y2.2.2.2.2.2, pI_same]
    rw [x1, y1]
    rcases pFa_n (tx := M.1 (a 40)) hn with e | ⟨k, hk, e⟩
    · obtain ⟨o, o1, o2, o3, o4, o5, o6, o7⟩ := x3 e
      obtain ⟨o', p1, p2, p3, p4, p5, p6, p7, p8⟩ := y3 e
      have eo' : o' = o := p1.trans o1.symm
      rw [eo'] at p2 p3 p4 p5
      rw [e, if_pos rfl, if_pos (by decide)]
      have eR3 : (pI X.2 (a 39) 1 0).1 (a 0) 6 + 1 = nI (R + 1) := by
        rw [s2.2.2.1.2.1, nI_1]
      have eR4 : (pI Y.2 (m 0) 23 0).1 (m 0) 16 + 1 = nI (R + 1) := by
        rw [← s2.pf (s := 6) (k := 16) (by simp)]; exact eR3
      rw [eR3, eR4]
      refine ⟨?_, (Sim.rules A s2 (R' := R + 1) (by omega) (fun r hr => ?_)).P, fun _ => rfl⟩
      · show (pI (pI Y.2 (m 0) 23 0) (m 0) 16 (nI (R + 1))).1 (m 0) 0 = _
        rw [pI_diff _ _ _ (by omega)]; exact thr0
      · by_cases c : r = R
        · subst c
          unfold sRow
          rw [pI_1n _ _ _ (A.na (by omega) (by omega) (by omega)), pI_1n _ _ _ (A.na (by omega) (by omega) (by omega)), pI_1n _ _ _ (A.nm (by omega) (by omega) (by omega)), pI_1n _ _ _ (A.nm (by omega) (by omega) (by omega)), pI_1n _ _ _ (A.nm (by omega) (by omega) (by omega)), pI_1n _ _ _ (A.nm (by omega) (by omega) (by omega)), pI_1n _ _ _ (A.nm (by omega) (by omega) (by omega))]
          refine ⟨⟨o.length, o2, o3, p4, fun k hk => ?_⟩, o5.trans p6.symm, o6.trans p7.symm, o7.trans p8.symm⟩
          obtain ⟨q1, q2⟩ := eL_get o o4 p5 k hk
          obtain ⟨v, v1, v2⟩ := p2 _ q2
          exact ⟨v, v1, v2, by rw [← v2]; exact q1.symm⟩
        · exact s2.2.2.1.2.2 r (by omega)
    · have nk : ¬ nI k = -1 := nI_m1 (by omega)
      rw [e, if_neg nk, if_neg (nI_pos (by omega))]
      exact ⟨thr0, s2.P, fun _ => rfl⟩
  · refine bad ?_ ?_
    · simp [mRuT, Int32.not_le.mp c7]
    · unfold xRuO
      rw [ent_e h, if_neg (by simp [c7])]
end SIM13
