section SIM12
/-! the reference reads the same -/
variable {m : Nat → Nat} {n : Nat} {N0 N : pM} {st mw : List Int32}
theorem mRead2_n (D : eMd m) (hn : n ≤ 20) (h : eM m n N0 N st mw) {j : Nat} (hj : pSee (N0.1 (m 24)) n j 62 = true) (r : Nat) :
    (mRead2 N m r j).1 = (pTg (N0.1 (m 24)) n j).1 ∧ ((pTg (N0.1 (m 24)) n j).1 ≠ -1 → (mRead2 N m r j).2 = N) ∧
    ((pTg (N0.1 (m 24)) n j).1 = -1 → (mRead2 N m r j).2 = pI (pI (pI (pI (mCpN m r mw.length N) (m 18) r (nI mw.length)) (m 19) r (pTg (N0.1 (m 24)) n j).2.1) (m 20) r (pTg (N0.1 (m 24)) n j).2.2) (m 21) r 0) := by
  have hjn : j < n := (of_decide_eq_true hj).1
  have h23 : N.1 (m 0) 23 = nI n := by rw [h.2.2.2.2.2.2.2.2 23 (by omega) (by omega)]; exact h.2.2.2.2.2.1
  have h0 := h.1
  have h32 : (N.1 (m 0) 32).toNatClampNeg = mw.length := by rw [h.2.2.1]; exact nI_clamp (by omega)
  have ne1 : ∀ k, k ≤ 30 → ¬ nI k = -1 := fun k hk => nI_m1 (by omega)
  have e48 : ∀ d : Nat, nI (48 + d) - 48 = nI d := fun d => by
    have := pk_sub (a := 48 + d) (b := 48) (by omega)
    rw [show 48 + d - 48 = d by omega] at this
    exact this
  unfold mRead2
  rw [h.lk D hn (by omega), h.lk D hn (by omega), h.lk D hn (by omega), h23, h32]
  unfold mRdW
  rw [h.lk D hn (by omega), h.lk D hn (by omega), h.2.2.1]
  unfold pTg
  rw [if_pos hj]
  rcases dg_in (tx := N0.1 (m 24)) (n := n) (k := j + 1) (b := 6) (B := 6) rfl (by omega) with ⟨e, g⟩ | ⟨d, hd, hk1, e, g⟩
  · rw [if_pos e]
    have k1 : (if aLk (N0.1 (m 24)) n (j + 1) < 48 then (nI (j + 1), N) else if aLk (N0.1 (m 24)) n (j + 1) ≤ 53 then
        (if aLk (N0.1 (m 24)) n (j + 2) = 58 then
          (if aLk (N0.1 (m 24)) n (j + 3) < 48 then (nI (j + 3), N) else if aLk (N0.1 (m 24)) n (j + 3) ≤ 57 then
            (if nI n ≤ nI (j + 4) then (-1, pI (pI (pI (pI (mCpN m r mw.length N) (m 18) r (nI mw.length)) (m 19) r (aLk (N0.1 (m 24)) n (j + 1) - 48)) (m 20) r (if (1 : Int32) = 0 then 0 else aLk (N0.1 (m 24)) n (j + 3) - 48)) (m 21) r 0) else (nI (j + 4), N)) else (nI (j + 3), N))
         else if nI n ≤ nI (j + 2) then (if nI n ≤ nI (j + 4) then (-1, pI (pI (pI (pI (mCpN m r mw.length N) (m 18) r (nI mw.length)) (m 19) r (aLk (N0.1 (m 24)) n (j + 1) - 48)) (m 20) r (if (0 : Int32) = 0 then 0 else aLk (N0.1 (m 24)) n (j + 3) - 48)) (m 21) r 0) else (nI (j + 4), N)) else (nI (j + 2), N))
      else (nI (j + 1), N)) = (nI (j + 1), N) := by
      rcases g with g | g
      · rw [if_pos g]
      · by_cases c : aLk (N0.1 (m 24)) n (j + 1) < 48
        · rw [if_pos c]
        · rw [if_neg c, if_neg (show ¬ aLk (N0.1 (m 24)) n (j + 1) ≤ 53 from g)]
    rw [k1]
    exact ⟨rfl, fun _ => rfl, fun q => absurd q (ne1 _ (by omega))⟩
  rw [e, if_neg (ne1 d (by omega)), g, if_neg (show ¬ nI (48 + d) < 48 from nI_nlt (b := 48) (by omega) (by omega)), if_pos (show nI (48 + d) ≤ 53 from nI_le (b := 53) (by omega) (by omega)), e48]
  have see2 : pSee (N0.1 (m 24)) n (j + 2) 58 = decide (aLk (N0.1 (m 24)) n (j + 2) = 58) := by
    by_cases c : j + 2 < n
    · exact lk_see c 58
    · rw [see_end (by omega)]
      unfold aLk
      rw [if_neg c]
      decide
  rw [see2]
  by_cases c2 : aLk (N0.1 (m 24)) n (j + 2) = 58
  · rw [if_pos c2, if_pos (decide_eq_true c2)]
    rcases dg_in (tx := N0.1 (m 24)) (n := n) (k := j + 3) (b := 10) (B := 10) rfl (by omega) with ⟨e', g'⟩ | ⟨d', hd', hk3, e', g'⟩
    · rw [if_pos e']
      generalize (if nI n ≤ nI (j + 4) then ((-1 : Int32), pI (pI (pI (pI (mCpN m r mw.length N) (m 18) r (nI mw.length)) (m 19) r (nI d)) (m 20) r (if (1 : Int32) = 0 then 0 else aLk (N0.1 (m 24)) n (j + 3) - 48)) (m 21) r 0) else (nI (j + 4), N)) = B
      have k1 : (if aLk (N0.1 (m 24)) n (j + 3) < 48 then (nI (j + 3), N) else if aLk (N0.1 (m 24)) n (j + 3) ≤ 57 then B else (nI (j + 3), N)) = (nI (j + 3), N) := by
        rcases g' with g' | g'
        · rw [if_pos g']
        · by_cases c : aLk (N0.1 (m 24)) n (j + 3) < 48
          · rw [if_pos c]
          · rw [if_neg c, if_neg (show ¬ aLk (N0.1 (m 24)) n (j + 3) ≤ 57 from g')]
      rw [k1]
      exact ⟨rfl, fun _ => rfl, fun q => absurd q (ne1 _ (by omega))⟩
    · rw [e', if_neg (ne1 d' (by omega)), g', if_neg (show ¬ nI (48 + d') < 48 from nI_nlt (b := 48) (by omega) (by omega)), if_pos (show nI (48 + d') ≤ 57 from nI_le (b := 57) (by omega) (by omega)), e48, if_neg (show ¬ (1 : Int32) = 0 by decide)]
      by_cases c4 : j + 4 = n
      · rw [if_pos c4, if_pos (nI_le (by omega) (by omega))]
        exact ⟨rfl, fun q => absurd rfl q, fun _ => rfl⟩
      · rw [if_neg c4, if_neg (nI_ge (by omega) (by omega))]
        exact ⟨rfl, fun _ => rfl, fun q => absurd q (ne1 _ (by omega))⟩
  · rw [if_neg c2, if_neg (show ¬ decide (aLk (N0.1 (m 24)) n (j + 2) = 58) = true by simp [c2]), if_pos (show (0 : Int32) = 0 from rfl)]
    by_cases c3 : j + 2 = n
    · rw [if_pos c3, if_pos (show nI n ≤ nI (j + 2) from nI_le (by omega) (by omega)), if_pos (show nI n ≤ nI (j + 4) from nI_le (by omega) (by omega))]
      exact ⟨rfl, fun q => absurd rfl q, fun _ => rfl⟩
    · rw [if_neg c3, if_neg (show ¬ nI n ≤ nI (j + 2) from nI_ge (by omega) (by omega))]
      exact ⟨rfl, fun _ => rfl, fun q => absurd q (ne1 _ (by omega))⟩
/-- all but the reference's own work and row r -/
def frM (m : Nat → Nat) (r : Nat) (N N' : pM) : Prop := N'.2 = N.2 ∧ (∀ k, k < 34 → k ≠ 0 → k ≠ 31 → k ≠ 33 → ¬ (17 ≤ k ∧ k ≤ 21) → N'.1 (m k) = N.1 (m k)) ∧ (∀ j, j ≠ 0 → j ≠ 30 → j ≠ 32 → N'.1 (m 0) j = N.1 (m 0) j) ∧ (∀ j, j < 20 * r → N'.1 (m 17) j = N.1 (m 17) j) ∧ (∀ k j, 18 ≤ k → k ≤ 21 → j ≠ r → N'.1 (m k) j = N.1 (m k) j) ∧ N'.1 (m 0) 0 = N.1 (m 0) 0
theorem mCpN_os {q : Nat} (hq : q ≠ m 17) (r : Nat) (N : pM) : ∀ i, (mCpN m r i N).1 q = N.1 q ∧ (mCpN m r i N).2 = N.2
  | 0 => ⟨rfl, rfl⟩
  | i + 1 => by
    rw [mCpN, pI_1n _ _ _ hq]
    exact mCpN_os hq r N i
theorem mCpN_w (r : Nat) (N : pM) (j : Nat) : ∀ i, (mCpN m r i N).1 (m 17) j = if 20 * r ≤ j ∧ j < 20 * r + i then N.1 (m 33) (j - 20 * r) else N.1 (m 17) j
  | 0 => by rw [if_neg (by omega)]; rfl
  | i + 1 => by
    rw [mCpN, pI_rd, mCpN_w r N j i]
    by_cases c : j = 20 * r + i
    · rw [if_pos c, if_pos (by omega), show j - 20 * r = i by omega]
    · rw [if_neg c]
      by_cases c2 : 20 * r ≤ j ∧ j < 20 * r + i
      · rw [if_pos c2, if_pos (by omega)]
      · rw [if_neg c2, if_neg (by omega)]
def mAd (m : Nat → Nat) : Prop := ∀ i j, i < 34 → j < 34 → m i = m j → i = j
theorem mAd.ne (A : mAd m) {i j : Nat} (hi : i < 34) (hj : j < 34) (h : i ≠ j) : m i ≠ m j := fun e => h (A i j hi hj e)
theorem mRead_n (A : mAd m) (hn : n ≤ 20) (h23 : N.1 (m 0) 23 = nI n) (r : Nat) :
    (mRead N m r).1 = pFa (N.1 (m 24)) n ∧ frM m r N (mRead N m r).2 ∧
    (pFa (N.1 (m 24)) n = -1 → ∃ o : List Int32, o = (pCn (N.1 (m 24)) n (pTm (N.1 (m 24)) n 4) (0, [])).2.2 ∧ pWds o ∧ o.length ≤ 20 ∧ (mRead N m r).2.1 (m 18) r = nI o.length ∧ eL (fun j => (mRead N m r).2.1 (m 17) (20 * r + j)) o ∧ (mRead N m r).2.1 (m 19) r = (pTg (N.1 (m 24)) n (pCn (N.1 (m 24)) n (pTm (N.1 (m 24)) n 4) (0, [])).2.1).2.1 ∧ (mRead N m r).2.1 (m 20) r = (pTg (N.1 (m 24)) n (pCn (N.1 (m 24)) n (pTm (N.1 (m 24)) n 4) (0, [])).2.1).2.2 ∧ (mRead N m r).2.1 (m 21) r = 0) := by
  have D : eMd m := ⟨A.ne (by omega) (by omega) (by omega), A.ne (by omega) (by omega) (by omega), A.ne (by omega) (by omega) (by omega), A.ne (by omega) (by omega) (by omega), A.ne (by omega) (by omega) (by omega), A.ne (by omega) (by omega) (by omega)⟩
  generalize hN0 : pI (pI N (m 0) 30 0) (m 0) 32 0 = N0
  have e24 : N0.1 (m 24) = N.1 (m 24) := by rw [← hN0, pI_1n _ _ _ D.2.2.2.1, pI_1n _ _ _ D.2.2.2.1]
  have e0 : ∀ j, j ≠ 30 → j ≠ 32 → N0.1 (m 0) j = N.1 (m 0) j := fun j h1 h2 => by rw [← hN0, pI_diff _ _ _ h2, pI_diff _ _ _ h1]
  have eo : ∀ q, q ≠ m 0 → N0.1 q = N.1 q := fun q hq => by rw [← hN0, pI_1n _ _ _ hq, pI_1n _ _ _ hq]
  have e2 : N0.2 = N.2 := by rw [← hN0]; rfl
  have h0 : eM m n N0 N0 [] [] := ⟨by simp, by rw [← hN0, pI_diff _ _ _ (by omega), pI_same]; rfl, by rw [← hN0, pI_same]; rfl, trivial, trivial, by rw [e0 23 (by omega) (by omega)]; exact h23, rfl, fun _ _ _ _ => rfl, fun _ _ _ => rfl⟩
  have hcd := eM.cd D hn (n + 1) true 0 N0 [] [] h0 (by simp) (by omega)
  have hcond : mCond N m = mCd m (n + 1) (bI true) 0 N0 := by
    unfold mCond
    rw [h23, nI_clamp (by omega), hN0]; rfl
  have fr0 : ∀ (N1 : pM) (st mw : List Int32), eM m n N0 N1 st mw → frM m r N N1 := by
    intro N1 st mw hx
    obtain ⟨x0, x1, x2, x3, x4, x5, x6, x7, x8⟩ := hx
    refine ⟨by rw [x6, e2], fun k hk k0 k31 k33 _ => ?_, fun j j0 j30 j32 => ?_, fun j _ => ?_, fun k j k1 k2 _ => ?_, ?_⟩
    · rw [x7 (m k) (A.ne hk (by omega) k0) (A.ne hk (by omega) k31) (A.ne hk (by omega) k33), eo (m k) (A.ne hk (by omega) k0)]
    · rw [x8 j j30 j32, e0 j j30 j32]
    · rw [x7 (m 17) (A.ne (by omega) (by omega) (by omega)) (A.ne (by omega) (by omega) (by omega)) (A.ne (by omega) (by omega) (by omega)), eo (m 17) (A.ne (by omega) (by omega) (by omega))]
    · rw [x7 (m k) (A.ne (by omega) (by omega) (by omega)) (A.ne (by omega) (by omega) (by omega)) (A.ne (by omega) (by omega) (by omega)), eo (m k) (A.ne (by omega) (by omega) (by omega))]
    · rw [x8 0 (by omega) (by omega), e0 0 (by omega) (by omega)]
  have ok := cond_ok (tx := N0.1 (m 24)) (n := n) hn
  unfold mRead pFa
  rw [hcond, ← e24]
  generalize mCd m (n + 1) (bI true) 0 N0 = C at hcd ⊢
  generalize pCn (N0.1 (m 24)) n (pTm (N0.1 (m 24)) n 4) (0, []) = y at ok ⊢
  obtain ⟨hc1, hc2⟩ := hcd
  obtain ⟨ok1, ok2⟩ := ok
  have ng : ∀ k, k ≤ 20 → ¬ (0 : Int32) ≤ -1 - nI k ∧ -1 - (-1 - nI k) = nI k := by decide
  cases hb : y.1
  · obtain ⟨q1, q2⟩ := ok2 hb
    rw [q2] at hc1
    rw [if_pos rfl, hc1, if_neg (ng _ (by omega)).1]
    exact ⟨(ng _ (by omega)).2, fr0 _ _ _ hc2, fun q => absurd q (nI_m1 (by omega))⟩
  · rw [if_neg (show ¬ true = false by decide)]
    obtain ⟨F', q1, q2, q3, q4, q5, q6, q7⟩ := ok1 hb
    obtain ⟨F', rfl⟩ : ∃ G, F' = G + 1 := ⟨F' - 1, by omega⟩
    rw [q7] at hc1 hc2
    by_cases c62 : pSee (N0.1 (m 24)) n y.2.1 62 = true
    · have hlt : y.2.1 < n := (of_decide_eq_true c62).1
      have l62 : aLk (N0.1 (m 24)) n y.2.1 = 62 := by
        have := c62
        rw [lk_see hlt] at this
        exact of_decide_eq_true this
      have ecd : aCd (N0.1 (m 24)) n (F' + 1) false y.2.1 [] y.2.2 = (nI y.2.1, ([], y.2.2)) := by
        rw [aCd, if_neg (by omega), if_pos rfl, l62, if_neg (by decide), if_neg (by decide), if_neg (by decide), if_pos rfl, if_pos rfl]
      rw [ecd] at hc1 hc2
      rw [hc1, if_pos (Int32.not_lt.mp (nI_pos (by omega))), nI_clamp (by omega)]
      obtain ⟨r1, r2, r3⟩ := mRead2_n D hn hc2 c62 r
      refine ⟨r1, ?_, fun q => ?_⟩
      · by_cases cq : (pTg (N0.1 (m 24)) n y.2.1).1 = -1
        · rw [r3 cq]
          obtain ⟨f1, f2, f3, f4, f5, f6⟩ := fr0 _ _ _ hc2
          have z0 : ∀ k j v (X : pM), 17 ≤ k → k ≤ 21 → (pI X (m k) j v).1 (m 0) = X.1 (m 0) := fun k j v X k1 k2 => pI_1n _ _ _ (A.ne (by omega) (by omega) (by omega))
          refine ⟨?_, fun k hk k0 k31 k33 kr => ?_, fun j j0 j30 j32 => ?_, fun j hj => ?_, fun k j k1 k2 hj => ?_, ?_⟩
          · rw [pI_2, pI_2, pI_2, pI_2, (mCpN_os (m := m) (q := m 0) (A.ne (by omega) (by omega) (by omega)) r C.2 _).2]; exact f1
          · rw [pI_1n _ _ _ (A.ne hk (by omega) (by omega)), pI_1n _ _ _ (A.ne hk (by omega) (by omega)), pI_1n _ _ _ (A.ne hk (by omega) (by omega)), pI_1n _ _ _ (A.ne hk (by omega) (by omega)), (mCpN_os (A.ne hk (by omega) (by omega)) r C.2 _).1]
            exact f2 k hk k0 k31 k33 kr
          · rw [z0 _ _ _ _ (by omega) (by omega), z0 _ _ _ _ (by omega) (by omega), z0 _ _ _ _ (by omega) (by omega), z0 _ _ _ _ (by omega) (by omega), (mCpN_os (A.ne (by omega) (by omega) (by omega)) r C.2 _).1]
            exact f3 j j0 j30 j32
          · rw [pI_1n _ _ _ (A.ne (by omega) (by omega) (by omega)), pI_1n _ _ _ (A.ne (by omega) (by omega) (by omega)), pI_1n _ _ _ (A.ne (by omega) (by omega) (by omega)), pI_1n _ _ _ (A.ne (by omega) (by omega) (by omega)), mCpN_w, if_neg (by omega)]
            exact f4 j hj
          · rw [pI_at, if_neg (by omega), pI_at, if_neg (by omega), pI_at, if_neg (by omega), pI_at, if_neg (by omega), (mCpN_os (A.ne (by omega) (by omega) (by omega)) r C.2 _).1]
            exact f5 k j k1 k2 hj
          · rw [z0 _ _ _ _ (by omega) (by omega), z0 _ _ _ _ (by omega) (by omega), z0 _ _ _ _ (by omega) (by omega), z0 _ _ _ _ (by omega) (by omega), (mCpN_os (A.ne (by omega) (by omega) (by omega)) r C.2 _).1]
            exact f6
        · rw [r2 cq]
          exact fr0 _ _ _ hc2
      · rw [r3 q]
        refine ⟨y.2.2, rfl, q5, by simp at q4; omega, ?_, ?_, ?_, ?_, ?_⟩
        · rw [pI_1n _ _ _ (A.ne (by omega) (by omega) (by omega)), pI_1n _ _ _ (A.ne (by omega) (by omega) (by omega)), pI_1n _ _ _ (A.ne (by omega) (by omega) (by omega)), pI_same]
        · refine eL_cg y.2.2 (fun j hj => ?_) hc2.2.2.2.2.1
          rw [pI_1n _ _ _ (A.ne (by omega) (by omega) (by omega)), pI_1n _ _ _ (A.ne (by omega) (by omega) (by omega)), pI_1n _ _ _ (A.ne (by omega) (by omega) (by omega)), pI_1n _ _ _ (A.ne (by omega) (by omega) (by omega)), mCpN_w, if_pos ⟨by omega, by show 20 * r + j < 20 * r + y.2.2.length; omega⟩]
          rw [Nat.add_sub_cancel_left]
        · rw [pI_1n _ _ _ (A.ne (by omega) (by omega) (by omega)), pI_1n _ _ _ (A.ne (by omega) (by omega) (by omega)), pI_same]
        · rw [pI_1n _ _ _ (A.ne (by omega) (by omega) (by omega)), pI_same]
        · rw [pI_same]
    · have ep : pTg (N0.1 (m 24)) n y.2.1 = (nI y.2.1, (0, 0)) := by
        unfold pTg
        rw [if_neg c62]
      have ecd : (aCd (N0.1 (m 24)) n (F' + 1) false y.2.1 [] y.2.2).1 = -1 - nI y.2.1 := by
        rw [aCd]
        by_cases c7 : n ≤ y.2.1
        · rw [if_pos c7, show y.2.1 = n by omega]
        · have hlt : y.2.1 < n := by omega
          rw [if_neg c7, if_pos rfl]
          unfold pOp at q6
          rw [lk_see hlt, lk_see hlt] at q6
          rw [lk_see hlt] at c62
          have d1 : ¬ aLk (N0.1 (m 24)) n y.2.1 = 38 := fun e => by simp [e] at q6
          have d2 : ¬ aLk (N0.1 (m 24)) n y.2.1 = 124 := fun e => by simp [e] at q6
          have d3 : ¬ aLk (N0.1 (m 24)) n y.2.1 = 62 := fun e => by simp [e] at c62
          rw [if_neg d1, if_neg d2]
          by_cases c8 : aLk (N0.1 (m 24)) n y.2.1 = 41
          · rw [if_pos c8, if_pos rfl]
          · rw [if_neg c8, if_neg d3]
      rw [ecd] at hc1
      rw [ep, hc1, if_neg (ng _ (by omega)).1]
      exact ⟨(ng _ (by omega)).2, fr0 _ _ _ hc2, fun q => absurd q (nI_m1 (by omega))⟩
end SIM12
