section SIM7
variable {Z : Nat → UInt32 → Prop} {a m : Nat → Nat} {w kd : Nat → Int32} {R n : Nat} {M N : pM}
theorem xSt_e (c : Int32) : xSt c = mSt c := by
  by_cases h : c = 122 ∨ c = 119 ∨ c = 102 ∨ c = 33 ∨ c = 40 ∨ c = 41 ∨ c = 38 ∨ c = 124 ∨ c = 62 ∨ c = 58
  · rcases h with h | h | h | h | h | h | h | h | h | h <;> subst h <;> decide
  · simp only [not_or] at h
    obtain ⟨h1, h2, h3, h4, h5, h6, h7, h8, h9, h10⟩ := h
    have e0 : xSt2 c = 0 := by simp [xSt2, h1, h2, h3, h4, h5, h6, h7, h8, h9, h10]
    unfold xSt mSt
    simp only [e0, if_neg h1, if_neg h2, if_neg h3, if_neg h4, if_neg h5, if_neg h6, if_neg h7, if_neg h8, if_neg h9, if_neg h10]
    by_cases c1 : c < 48
    · rw [if_pos c1, if_pos c1]
    · rw [if_neg c1, if_neg c1]
      by_cases c2 : c ≤ 57
      · rw [if_pos c2, if_neg (Int32.not_lt.mpr c2)]
      · rw [if_neg c2, if_pos (Int32.not_le.mp c2)]
theorem S_type (A : sAd a m) (h : simP Z a m M N) {c : Int32} (hc : narrow .char (.int c) = .int c) : (xApp M (a 39) (a 40) c).1 = (mType N m c).1 ∧ simP Z a m (xApp M (a 39) (a 40) c).2 (mType N m c).2 := by
  obtain ⟨w, kd, R, n, h⟩ := h
  have hn := h.2.2.2.1.1
  have e1 := h.2.2.2.1.2.1
  have e2 : N.1 (m 0) 23 = nI n := by rw [← e1]; exact (h.1 _ _ _ _ sT_pd).symm
  unfold xApp mType
  rw [xSt_e, e1, e2]
  by_cases c1 : mSt c = 0
  · rw [if_pos c1, if_pos c1]
    exact ⟨rfl, (Sim.thrown A h 0).P⟩
  rw [if_neg c1, if_neg c1, if_neg (nI_pos (by omega)), nI_clamp (by omega)]
  by_cases c2 : n = 20
  · rw [if_neg (show ¬ nI n < (20 : Int32) from nI_nlt (b := 20) (by omega) (by omega)), if_pos (show nI n = (20 : Int32) by rw [c2]; rfl)]
    exact ⟨rfl, (Sim.thrown A h 0).P⟩
  · rw [if_pos (show nI n < (20 : Int32) from nI_lt (b := 20) (by omega) (by omega)), if_neg (show ¬ nI n = (20 : Int32) from fun e => c2 ((nI_eq (b := 20) (by omega) (by omega)).mp e)), nI_1]
    exact ⟨rfl, (Sim.typed A (Sim.thrown A h 0) (by omega) hc).P⟩
theorem S_key (A : sAd a m) (h : simP Z a m M N) (c : Int32) : xKey c = mKey c ∧ simP Z a m (pI M (a 0) 8 (xKey c)) (pI (pI N (m 0) 0 0) (m 0) 26 (mKey c)) := by
  obtain ⟨w, kd, R, n, h⟩ := h
  have e : xKey c = mKey c := by
    unfold xKey mKey
    by_cases c1 : c = 2468
    · subst c1; rfl
    · by_cases c2 : c = 1357
      · subst c2; rfl
      · simp [c1, c2]
  refine ⟨e, ?_⟩
  rw [e]
  exact (Sim.put A (Sim.thrown A h 0) (sT_p (s := 8) (k := 26) (by simp)) (by omega) _).P
theorem Sim.off (A : sAd a m) (h : Sim Z a m w kd R n M N) : ∀ i, i ≤ 6 → Sim Z a m w kd R n (xOffN a i M) (mOffN m i N)
  | 0, _ => h
  | i + 1, hi => by
    rw [xOffN, mOffN]
    exact Sim.put A (Sim.off A h i (by omega)) (sT_ou (by omega)) (by omega) 0
theorem mOffN_0 (A : sAd a m) (N : pM) : ∀ i, (mOffN m i N).1 (m 0) = N.1 (m 0)
  | 0 => rfl
  | i + 1 => by
    rw [mOffN, thr A (by omega) (by omega)]
    exact mOffN_0 A N i
theorem S_forget (A : sAd a m) (h : simP Z a m M N) : (mForg N m).2.1 (m 0) 0 = oK k1 (xForgO a M) ∧ simP Z a m (oM (xForgO a M) M) (mForg N m).2 ∧ (oK k1 (xForgO a M) = 0 → oV (xForgO a M) = (mForg N m).1) := by
  obtain ⟨w, kd, R, n, h⟩ := h
  unfold mForg mForgT xForgO
  rw [ent_e h]
  by_cases c7 : 2 ≤ N.1 (m 0) 26
  · simp only [decide_eq_true c7, if_pos c7, if_true]
    have s0 := Sim.thrown A h 0
    have s1 := Sim.rules A s0 (R' := 0) (by omega) (fun r hr => by omega)
    have s2 := Sim.off A s1 6 (by omega)
    refine ⟨?_, s2.P, fun _ => h.pf (by simp)⟩
    rw [mOffN_0 A, pI_diff _ _ _ (by omega), pI_same]; rfl
  · simp only [decide_eq_false c7, if_neg c7, if_neg (show ¬ (1 : Int32) = 0 by decide), Bool.false_eq_true, if_false]
    exact ⟨pI_same _ _ _ _, (Sim.thrown A h 1).P, fun q => absurd q (by decide)⟩
theorem S_silence (A : sAd a m) (h : simP Z a m M N) : (mSil N m).2.1 (m 0) 0 = oK k1 (xSilO a M) ∧ simP Z a m (oM (xSilO a M) M) (mSil N m).2 ∧ (oK k1 (xSilO a M) = 0 → oV (xSilO a M) = (mSil N m).1) := by
  obtain ⟨w, kd, R, n, h⟩ := h
  have mg : m 0 ≠ m 29 := A.nm (by omega) (by omega) (by omega)
  unfold mSil mSilT xSilO
  rw [ent_e h]
  by_cases c7 : 1 ≤ N.1 (m 0) 26
  · simp only [decide_eq_true c7, if_pos c7, if_true]
    rw [h.pf (s := 9) (k := 27) (by simp)]
    by_cases c8 : N.1 (m 0) 27 = 0
    · simp only [if_pos c8]
      refine ⟨?_, (Sim.note A (Sim.put A (Sim.thrown A h 0) (sT_p (s := 9) (k := 27) (by simp)) (by omega) 1) _ _ ?_).P, fun _ => rfl⟩
      · rw [mNote_0s mg, if_neg (by omega), pI_diff _ _ _ (by omega), pI_same]; rfl
      · rw [pI_diff _ _ _ (by omega), pI_diff _ _ _ (by omega)]; exact h.pf (by simp)
    · simp only [if_neg c8]
      exact ⟨pI_same _ _ _ _, (Sim.thrown A h 0).P, fun _ => rfl⟩
  · simp only [decide_eq_false c7, if_neg c7, if_neg (show ¬ (1 : Int32) = 0 by decide), Bool.false_eq_true, if_false]
    exact ⟨pI_same _ _ _ _, (Sim.thrown A h 1).P, fun q => absurd q (by decide)⟩
theorem Sim.rz (A : sAd a m) (h : Sim Z a m w kd R n M N) : ∀ i, i ≤ 4 → (xRzN a i M).1 = (mRf m i N).1 ∧ Sim Z a m w kd R n (xRzN a i M).2 (mRf m i N).2 ∧ (mRf m i N).2.1 (m 0) = N.1 (m 0)
  | 0, _ => ⟨rfl, h, rfl⟩
  | i + 1, hi => by
    obtain ⟨e1, e2, e3⟩ := Sim.rz A h i (by omega)
    rw [xRzN, mRf]
    unfold xRz1
    rw [e2.zn (z := i) (by omega) (s := 1) (k := 15) (by simp), e1]
    refine ⟨?_, Sim.put A e2 (sT_zn (by omega) (s := 1) (k := 15) (by simp)) (by omega) 0, ?_⟩
    · by_cases c : (mRf m i N).2.1 (m 15) i = 0
      · rw [if_pos c, if_pos c]; exact Int32.add_zero _
      · rw [if_neg c, if_neg c]
    · show (pI (mRf m i N).2 (m 15) i 0).1 (m 0) = _
      rw [thr A (by omega) (by omega), e3]
theorem Sim.ca (A : sAd a m) (h : Sim Z a m w kd R n M N) : ∀ i, i ≤ 16 → Sim Z a m w kd R n (xCaN a i M) (mRa m i N) ∧ (mRa m i N).1 (m 0) = N.1 (m 0)
  | 0, _ => ⟨h, rfl⟩
  | i + 1, hi => by
    obtain ⟨e1, e2⟩ := Sim.ca A h i (by omega)
    rw [xCaN, mRa]
    unfold xCalm
    refine ⟨Sim.put A (Sim.alarm A e1 (p := i) (by omega) (v := 0) (by simp)) (sT_pl (p := i) (by omega) (s := 6) (k := 8) (by simp)) (by omega) 0, ?_⟩
    rw [thr A (by omega) (by omega), thr A (by omega) (by omega), e2]
theorem Sim.hl (A : sAd a m) (h : Sim Z a m w kd R n M N) : ∀ i, i ≤ 6 → Sim Z a m w kd R n (xOffN a i (xHlN a i M)) (mRh m i N) ∧ (mRh m i N).1 (m 0) = N.1 (m 0)
  | 0, _ => ⟨h, rfl⟩
  | i + 1, hi => by
    obtain ⟨e1, e2⟩ := Sim.hl A h i (by omega)
    have cm : ∀ (k : Nat) (M : pM) (v : Int32), xOffN a k (pI M (a (26 + i)) 4 v) = pI (xOffN a k M) (a (26 + i)) 4 v := by
      intro k
      induction k with
      | zero => exact fun M v => rfl
      | succ k ih =>
        intro M v
        rw [xOffN, xOffN, ih, pI_cm _ _ _ (A.na (by omega) (by omega) (by omega))]
    rw [xOffN, xHlN, mRh, cm]
    refine ⟨Sim.put A (Sim.held A e1 (by omega) 0) (sT_ou (k := i) (by omega)) (by omega) 0, ?_⟩
    rw [thr A (by omega) (by omega), thr A (by omega) (by omega), e2]
theorem S_reset (A : sAd a m) (h : simP Z a m M N) : (mRes N m).2.1 (m 0) 0 = oK k1 (xResO a M) ∧ simP Z a m (oM (xResO a M) M) (mRes N m).2 ∧ (oK k1 (xResO a M) = 0 → oV (xResO a M) = (mRes N m).1) := by
  obtain ⟨w, kd, R, n, h⟩ := h
  have mg : m 0 ≠ m 29 := A.nm (by omega) (by omega) (by omega)
  unfold mRes mSilT xResO
  rw [ent_e h]
  by_cases c7 : 1 ≤ N.1 (m 0) 26
  · simp only [decide_eq_true c7, if_pos c7, if_true]
    obtain ⟨e1, e2, e3⟩ := Sim.rz A (Sim.thrown A h 0) 4 (by omega)
    generalize xRzN a 4 M = X1 at e1 e2 ⊢
    generalize mRf m 4 (pI N (m 0) 0 0) = N1 at e1 e2 e3 ⊢
    obtain ⟨f1, f2⟩ := Sim.ca A e2 16 (by omega)
    generalize xCaN a 16 X1.2 = X2 at f1 ⊢
    generalize mRa m 16 N1.2 = N2 at f1 f2 ⊢
    obtain ⟨g1, g2⟩ := Sim.hl A f1 6 (by omega)
    unfold xReE
    generalize xOffN a 6 (xHlN a 6 X2) = X3 at g1 ⊢
    generalize mRh m 6 N2 = N3 at g1 g2 ⊢
    have g0 : N3.1 (m 0) = (pI N (m 0) 0 0).1 (m 0) := by rw [g2, f2, e3]
    have s := Sim.put A g1 (sT_p (s := 9) (k := 27) (by simp)) (by omega) 0
    refine ⟨?_, (Sim.note A s _ _ (s.pf (by simp))).P, fun _ => e1⟩
    show (mNote _ m 6 0).1 (m 0) 0 = _
    rw [mNote_0s mg, if_neg (by omega), pI_diff _ _ _ (by omega), g0, pI_same]; rfl
  · simp only [decide_eq_false c7, if_neg c7, if_neg (show ¬ (1 : Int32) = 0 by decide), Bool.false_eq_true, if_false]
    exact ⟨pI_same _ _ _ _, (Sim.thrown A h 1).P, fun q => absurd q (by decide)⟩
theorem S_off (A : sAd a m) (h : simP Z a m M N) (z p f : Int32) : (mOff N m z p f).2.1 (m 0) 0 = oK k2 (xOffO a M z p f) ∧ simP Z a m (oM (xOffO a M z p f) M) (mOff N m z p f).2 ∧ (oK k2 (xOffO a M z p f) = 0 → oV (xOffO a M z p f) = (mOff N m z p f).1) := by
  obtain ⟨w, kd, R, n, h⟩ := h
  have mg : m 0 ≠ m 29 := A.nm (by omega) (by omega) (by omega)
  have bad : ∀ (cl : String) (c : Int32), k2 cl = c → c ≠ 0 → mOffT N m z p = c → xOffO a M z p f = .inr cl → (mOff N m z p f).2.1 (m 0) 0 = oK k2 (xOffO a M z p f) ∧ simP Z a m (oM (xOffO a M z p f) M) (mOff N m z p f).2 ∧ (oK k2 (xOffO a M z p f) = 0 → oV (xOffO a M z p f) = (mOff N m z p f).1) := by
    intro cl c hc h0 e1 e2
    obtain ⟨q1, q2⟩ := key_e A h k2 cl e2 hc (N' := (mOff N m z p f).2) (by unfold mOff; rw [e1, if_neg h0])
    refine ⟨q1, q2, fun q => ?_⟩
    rw [e2] at q
    exact absurd (hc.symm.trans q) h0
  by_cases c0 : z = 0
  · have i1 : mIn p 0 (if z = 0 then 15 else 3) = if xIn p 16 = true then 1 else 0 := by rw [if_pos c0]; exact mIn_x (by decide)
    by_cases c1 : xIn p 16 = true
    · by_cases c7 : 2 ≤ N.1 (m 0) 26
      · obtain ⟨j, hj, e, ej⟩ := xIn_n (B := 16) rfl (by omega) c1
        have e1 : mOffT N m z p = 0 := by simp [mOffT, i1, c1, c7]
        have e2 : xOffO a M z p f = xOfP a M p f := by simp [xOffO, c0, c1, ent_e h, c7]
        rw [e2]
        unfold mOff xOfP
        rw [e1, if_pos rfl, if_pos c0, show xC p = j from ej, show p.toNatClampNeg = j from ej, h.rd hj (s := 10) (k := 12) (by simp)]
        by_cases c8 : N.1 (m 12) j = f
        · simp only [if_pos c8]
          exact ⟨pI_same _ _ _ _, (Sim.thrown A h 0).P, fun _ => rfl⟩
        · simp only [if_neg c8]
          refine ⟨?_, (Sim.note A (Sim.put A (Sim.thrown A h 0) (sT_pl hj (s := 10) (k := 12) (by simp)) (by omega) f) _ _ ?_).P, fun _ => rfl⟩
          · rw [mNote_0s mg, if_neg (by omega), thr A (by omega) (by omega), pI_same]; rfl
          · rw [thr A (by omega) (by omega), pI_diff _ _ _ (by omega)]; exact h.pf (by simp)
      · exact bad xISE 2 k2_S (by decide) (by simp [mOffT, i1, c1, c7]) (by simp [xOffO, c0, c1, ent_e h, c7])
    · exact bad xNSE 1 k2_N (by decide) (by simp [mOffT, i1, c1]) (by simp [xOffO, c0, c1])
  · have i1 : mIn p 0 (if z = 0 then 15 else 3) = if xIn p 4 = true then 1 else 0 := by rw [if_neg c0]; exact mIn_x (by decide)
    by_cases c1 : xIn p 4 = true
    · by_cases c7 : 2 ≤ N.1 (m 0) 26
      · obtain ⟨j, hj, e, ej⟩ := xIn_n (B := 4) rfl (by omega) c1
        have e1 : mOffT N m z p = 0 := by simp [mOffT, i1, c1, c7]
        have e2 : xOffO a M z p f = xOfZ a M p f := by simp [xOffO, c0, c1, ent_e h, c7]
        rw [e2]
        unfold mOff xOfZ
        rw [e1, if_pos rfl, if_neg c0, show xC p = j from ej, show p.toNatClampNeg = j from ej, h.zn hj (s := 2) (k := 13) (by simp)]
        by_cases c8 : N.1 (m 13) j = f
        · simp only [if_pos c8]
          exact ⟨pI_same _ _ _ _, (Sim.thrown A h 0).P, fun _ => rfl⟩
        · simp only [if_neg c8]
          refine ⟨?_, (Sim.note A (Sim.put A (Sim.thrown A h 0) (sT_zn hj (s := 2) (k := 13) (by simp)) (by omega) f) _ _ ?_).P, fun _ => rfl⟩
          · rw [mNote_0s mg, if_neg (by omega), thr A (by omega) (by omega), pI_same]; rfl
          · rw [thr A (by omega) (by omega), pI_diff _ _ _ (by omega)]; exact h.pf (by simp)
      · exact bad xISE 2 k2_S (by decide) (by simp [mOffT, i1, c1, c7]) (by simp [xOffO, c0, c1, ent_e h, c7])
    · exact bad xNSE 1 k2_N (by decide) (by simp [mOffT, i1, c1]) (by simp [xOffO, c0, c1])
/-! the questions: nothing changes but thrown -/
theorem ask_e (A : sAd a m) (h : Sim Z a m w kd R n M N) {o : xOut} {v : Value} {b : Bool} {cl : String} (ho : o = if b = true then .inl (some v, M) else .inr cl) : (pI N (m 0) 0 (mT1 (if b = true then 1 else 0))).1 (m 0) 0 = oK k1 o ∧ simP Z a m (oM o M) (pI N (m 0) 0 (mT1 (if b = true then 1 else 0))) := by
  subst ho
  rw [pI_same]
  cases b
  · exact ⟨rfl, (Sim.thrown A h _).P⟩
  · exact ⟨rfl, (Sim.thrown A h _).P⟩
theorem S_level (A : sAd a m) (h : simP Z a m M N) (p : Int32) {s k : Nat} (h2 : 2 ≤ s) (h5 : s ≤ 5) (hk : k = s + 2) : (pI N (m 0) 0 (mT1 (mIn p 0 15))).1 (m 0) 0 = oK k1 (xLevO a M p s) ∧ simP Z a m (oM (xLevO a M p s) M) (pI N (m 0) 0 (mT1 (mIn p 0 15))) ∧ (oK k1 (xLevO a M p s) = 0 → oF (xLevO a M p s) = (if mIn p 0 15 = 0 then FP.fconst0 else N.2 (m k) p.toNatClampNeg)) := by
  obtain ⟨w, kd, R, n, h⟩ := h
  rw [mIn_x (b := 16) (by decide)]
  refine ⟨(ask_e A h (o := xLevO a M p s) rfl).1, (ask_e A h (o := xLevO a M p s) rfl).2, fun q => ?_⟩
  unfold xLevO at q ⊢
  by_cases c : xIn p 16 = true
  · obtain ⟨j, hj, e, ej⟩ := xIn_n (B := 16) rfl (by omega) c
    rw [if_pos c, if_pos c, if_neg (show ¬ (1 : Int32) = 0 by decide), show xC p = j from ej, show p.toNatClampNeg = j from ej]
    exact h.rf hj h2 h5 hk
  · rw [if_neg c] at q
    exact absurd q (by decide)
theorem S_place (A : sAd a m) (h : simP Z a m M N) (p : Int32) : (pI N (m 0) 0 (mT1 (mIn p 0 15))).1 (m 0) 0 = oK k1 (xPlO a M p) ∧ simP Z a m (oM (xPlO a M p) M) (pI N (m 0) 0 (mT1 (mIn p 0 15))) ∧ (oK k1 (xPlO a M p) = 0 → oV (xPlO a M p) = mPl N m p) := by
  obtain ⟨w, kd, R, n, h⟩ := h
  unfold mPl
  rw [mIn_x (b := 16) (by decide)]
  refine ⟨(ask_e A h (o := xPlO a M p) rfl).1, (ask_e A h (o := xPlO a M p) rfl).2, fun q => ?_⟩
  unfold xPlO at q ⊢
  by_cases c : xIn p 16 = true
  · obtain ⟨j, hj, e, ej⟩ := xIn_n (B := 16) rfl (by omega) c
    rw [if_pos c, if_pos c, if_neg (show ¬ (1 : Int32) = 0 by decide), show xC p = j from ej, show p.toNatClampNeg = j from ej, h.rd hj (s := 7) (k := 9) (by simp), h.rd hj (s := 9) (k := 11) (by simp), h.rd hj (s := 10) (k := 12) (by simp), h.rd hj (s := 0) (k := 2) (by simp), e, h.rcb hj]
    have : (if mReach N m j = 0 then (0 : Int32) else 1) = mReach N m j := by
      rcases mReach_01 N m j with z | z <;> rw [z] <;> rfl
    rw [this]; rfl
  · rw [if_neg c] at q
    exact absurd q (by decide)
theorem S_zone (A : sAd a m) (h : simP Z a m M N) (p : Int32) : (pI N (m 0) 0 (mT1 (mIn p 0 3))).1 (m 0) 0 = oK k1 (xZoO a M p) ∧ simP Z a m (oM (xZoO a M p) M) (pI N (m 0) 0 (mT1 (mIn p 0 3))) ∧ (oK k1 (xZoO a M p) = 0 → oV (xZoO a M p) = mZo N m p) := by
  obtain ⟨w, kd, R, n, h⟩ := h
  unfold mZo
  rw [mIn_x (b := 4) (by decide)]
  refine ⟨(ask_e A h (o := xZoO a M p) rfl).1, (ask_e A h (o := xZoO a M p) rfl).2, fun q => ?_⟩
  unfold xZoO at q ⊢
  by_cases c : xIn p 4 = true
  · obtain ⟨j, hj, e, ej⟩ := xIn_n (B := 4) rfl (by omega) c
    rw [if_pos c, if_pos c, if_neg (show ¬ (1 : Int32) = 0 by decide), show xC p = j from ej, show p.toNatClampNeg = j from ej, h.zn hj (s := 1) (k := 15) (by simp), h.zn hj (s := 2) (k := 13) (by simp), xHwL_e h p 16 0 (by omega)]
    rfl
  · rw [if_neg c] at q
    exact absurd q (by decide)
theorem S_output (A : sAd a m) (h : simP Z a m M N) (p : Int32) : (pI N (m 0) 0 (mT1 (mIn p 0 5))).1 (m 0) 0 = oK k1 (xOuO a M p) ∧ simP Z a m (oM (xOuO a M p) M) (pI N (m 0) 0 (mT1 (mIn p 0 5))) ∧ (oK k1 (xOuO a M p) = 0 → oV (xOuO a M p) = mOu N m p) := by
  obtain ⟨w, kd, R, n, h⟩ := h
  have hx : xOuO a M p = if xIn p 6 = true then .inl (some (.int (if M.1 (a 38) (xC p) = 0 then 0 else if M.1 (a 0) 9 = 0 then 3 else if 3 ≤ p then 3 else 1)), M) else .inr xNSE := by
    unfold xOuO
    split
    · repeat' split
      all_goals rfl
    · rfl
  unfold mOu
  rw [mIn_x (b := 6) (by decide)]
  refine ⟨(ask_e A h hx).1, (ask_e A h hx).2, fun q => ?_⟩
  rw [hx] at q ⊢
  by_cases c : xIn p 6 = true
  · obtain ⟨j, hj, e, ej⟩ := xIn_n (B := 6) rfl (by omega) c
    rw [if_pos c, if_pos c, if_neg (show ¬ (1 : Int32) = 0 by decide), show xC p = j from ej, show p.toNatClampNeg = j from ej, h.ou hj, h.pf (s := 9) (k := 27) (by simp)]
    show (if N.1 (m 22) j = 0 then (0 : Int32) else if N.1 (m 0) 27 = 0 then 3 else if 3 ≤ p then 3 else 1) = _
    by_cases z1 : N.1 (m 22) j = 0
    · rw [if_pos z1, if_pos z1]
    · rw [if_neg z1, if_neg z1]
      by_cases z2 : N.1 (m 0) 27 = 0 <;> by_cases z3 : 3 ≤ p <;> simp [z2, z3]
  · rw [if_neg c] at q
    exact absurd q (by decide)
theorem sub1 {R : Nat} (h : R ≤ 16) : (nI R - 1).toInt + 1 = (nI R).toInt := by
  have : R = 0 ∨ R = 1 ∨ R = 2 ∨ R = 3 ∨ R = 4 ∨ R = 5 ∨ R = 6 ∨ R = 7 ∨ R = 8 ∨ R = 9 ∨ R = 10 ∨ R = 11 ∨ R = 12 ∨ R = 13 ∨ R = 14 ∨ R = 15 ∨ R = 16 := by omega
  rcases this with rfl | rfl | rfl | rfl | rfl | rfl | rfl | rfl | rfl | rfl | rfl | rfl | rfl | rfl | rfl | rfl | rfl <;> decide
theorem S_held (A : sAd a m) (h : simP Z a m M N) (p : Int32) : (pI N (m 0) 0 (mT1 (mIn p 0 (N.1 (m 0) 16 - 1)))).1 (m 0) 0 = oK k1 (xHeO a M p) ∧ simP Z a m (oM (xHeO a M p) M) (pI N (m 0) 0 (mT1 (mIn p 0 (N.1 (m 0) 16 - 1)))) ∧ (oK k1 (xHeO a M p) = 0 → oV (xHeO a M p) = mHe N m p) := by
  obtain ⟨w, kd, R, n, h⟩ := h
  have hR := h.2.2.1.1
  have e1 := h.2.2.1.2.1
  have e2 : N.1 (m 0) 16 = nI R := by rw [← e1]; exact (h.pf (by simp)).symm
  have hx : xHeO a M p = if xIn p (nI R) = true then .inl (some (.int (M.1 (a (26 + xC p)) 4)), M) else .inr xNSE := by
    unfold xHeO xMn
    rw [e1, if_neg (show ¬ (6 : Int32) < nI R from nI_nlt (a := 6) hR (by omega))]
  unfold mHe
  rw [e2, mIn_x (b := nI R) (sub1 (by omega))]
  refine ⟨(ask_e A h hx).1, (ask_e A h hx).2, fun q => ?_⟩
  rw [hx] at q ⊢
  by_cases c : xIn p (nI R) = true
  · obtain ⟨j, hj, e, ej⟩ := xIn_n (B := R) rfl (by omega) c
    rw [if_pos c, if_pos c, if_neg (show ¬ (1 : Int32) = 0 by decide), show xC p = j from ej, show p.toNatClampNeg = j from ej]
    exact (h.2.2.1.2.2 j hj).2.2.2
  · rw [if_neg c] at q
    exact absurd q (by decide)
theorem S_log (A : sAd a m) (h : simP Z a m M N) (p v : Int32) : (pI N (m 0) 0 (mLoT N m p v)).1 (m 0) 0 = oK k1 (xLoO a M p v) ∧ simP Z a m (oM (xLoO a M p v) M) (pI N (m 0) 0 (mLoT N m p v)) ∧ (oK k1 (xLoO a M p v) = 0 → oV (xLoO a M p v) = mLo N m p v) := by
  obtain ⟨w, kd, R, n, h⟩ := h
  obtain ⟨E, hE, e1⟩ := h.2.2.2.2.1
  have e2 : N.1 (m 0) 28 = nI E := by rw [← e1]; exact (h.1 _ _ _ _ sT_en).symm
  have eT : mLoT N m p v = if xIn p (nI E) = true then (if xIn v 3 = true then 0 else 1) else 1 := by
    unfold mLoT
    rw [e2, mIn_x (b := nI E) (sub1 hE), mIn_x (c := 2) (b := 3) (by decide)]
    by_cases c : xIn p (nI E) = true
    · rw [if_pos c, if_pos c, if_neg (by decide)]
      by_cases c2 : xIn v 3 = true
      · rw [if_pos c2, if_pos c2, if_neg (by decide)]
      · rw [if_neg c2, if_neg c2, if_pos rfl]
    · rw [if_neg c, if_neg c, if_pos rfl]
  have hx : xLoO a M p v = if xIn p (nI E) = true then (if xIn v 3 = true then .inl (some (.int (M.1 (a 42) (xC p * 3 + xC v))), M) else .inr xIAE) else .inr xIAE := by
    unfold xLoO xMn
    rw [e1, if_neg (show ¬ (16 : Int32) < nI E from nI_nlt (a := 16) hE (by omega))]
    unfold xIn
    by_cases c1 : p < 0
    · have d1 : ¬ decide (¬ p < 0 ∧ p < nI E) = true := by simp [c1]
      rw [if_pos c1, if_neg d1]
    · rw [if_neg c1]
      by_cases c2 : p < nI E
      · have d1 : decide (¬ p < 0 ∧ p < nI E) = true := by simp [c1, c2]
        rw [if_neg (Int32.not_le.mpr c2), if_pos d1]
        by_cases c3 : v < 0
        · have d2 : ¬ decide (¬ v < 0 ∧ v < 3) = true := by simp [c3]
          rw [if_pos c3, if_neg d2]
        · rw [if_neg c3]
          by_cases c4 : v < 3
          · have d2 : decide (¬ v < 0 ∧ v < 3) = true := by simp [c3, c4]
            rw [if_neg (Int32.not_le.mpr c4), if_pos d2]
          · have d2 : ¬ decide (¬ v < 0 ∧ v < 3) = true := by simp [c4]
            rw [if_pos (Int32.not_lt.mp c4), if_neg d2]
      · have d1 : ¬ decide (¬ p < 0 ∧ p < nI E) = true := by simp [c2]
        rw [if_pos (Int32.not_lt.mp c2), if_neg d1]
  unfold mLo
  rw [eT, hx]
  by_cases c : xIn p (nI E) = true
  · rw [if_pos c, if_pos c]
    by_cases c2 : xIn v 3 = true
    · obtain ⟨j, hj, e, ej⟩ := xIn_n (B := E) rfl (by omega) c
      obtain ⟨i, hi, e', ei⟩ := xIn_n (B := 3) rfl (by omega) c2
      rw [if_pos c2, if_pos c2, if_pos rfl, show xC p = j from ej, show p.toNatClampNeg = j from ej, show xC v = i from ei, show v.toNatClampNeg = i from ei]
      refine ⟨pI_same _ _ _ _, (Sim.thrown A h 0).P, fun _ => ?_⟩
      show M.1 (a 42) (j * 3 + i) = _
      rw [Nat.mul_comm]
      exact h.1 _ _ _ _ (sT_lg (by omega))
    · rw [if_neg c2, if_neg c2]
      exact ⟨pI_same _ _ _ _, (Sim.thrown A h 1).P, fun q => absurd q (by decide)⟩
  · rw [if_neg c, if_neg c]
    exact ⟨pI_same _ _ _ _, (Sim.thrown A h 1).P, fun q => absurd q (by decide)⟩
theorem S_count (A : sAd a m) (h : simP Z a m M N) (v : Int32) : (pI N (m 0) 0 (mT1 (mIn v 0 5))).1 (m 0) 0 = oK k1 (xCoO a M v) ∧ simP Z a m (oM (xCoO a M v) M) (pI N (m 0) 0 (mT1 (mIn v 0 5))) ∧ (oK k1 (xCoO a M v) = 0 → oV (xCoO a M v) = mCo N m v) := by
  obtain ⟨w, kd, R, n, h⟩ := h
  have good : ∀ x, v = nI x → x < 6 → ∀ r, xCoO a M v = .inl (some (.int r), M) → r = mCo N m v → (pI N (m 0) 0 (mT1 (mIn v 0 5))).1 (m 0) 0 = oK k1 (xCoO a M v) ∧ simP Z a m (oM (xCoO a M v) M) (pI N (m 0) 0 (mT1 (mIn v 0 5))) ∧ (oK k1 (xCoO a M v) = 0 → oV (xCoO a M v) = mCo N m v) := by
    intro x ex hx r e1 e2
    have e3 : mT1 (mIn v 0 5) = 0 := by
      rw [mIn_x (b := 6) (by decide), if_pos]
      · rfl
      · subst ex
        unfold xIn
        exact decide_eq_true ⟨nI_pos (by omega), nI_lt (b := 6) hx (by omega)⟩
    rw [e1, e3]
    exact ⟨pI_same _ _ _ _, (Sim.thrown A h 0).P, fun _ => e2⟩
  by_cases c0 : v = 0
  · exact good 0 c0 (by omega) _ (by simp [xCoO, c0]; rfl) (by simp [mCo, c0]; exact h.pf (by simp))
  by_cases c1 : v = 1
  · exact good 1 c1 (by omega) _ (by simp [xCoO, c1]; rfl) (by simp [mCo, c1]; exact h.pf (by simp))
  by_cases c2 : v = 2
  · exact good 2 c2 (by omega) _ (by simp [xCoO, c2]; rfl) (by simp [mCo, c2]; exact h.pf (by simp))
  by_cases c3 : v = 3
  · exact good 3 c3 (by omega) (if N.1 (m 0) 27 = 0 then 0 else 1) (by simp [xCoO, c3, h.pf (s := 9) (k := 27) (by simp)]) (by simp [mCo, c3])
  by_cases c4 : v = 4
  · exact good 4 c4 (by omega) (N.1 (m 0) 23) (by simp [xCoO, c4]; exact h.1 _ _ _ _ sT_pd) (by simp [mCo, c4])
  by_cases c5 : v = 5
  · exact good 5 c5 (by omega) (mFt N m 16 0 0) (by simp [xCoO, c5]; exact xFtL_e h 16 0 0 (by omega)) (by simp [mCo, c5])
  · have e1 : xCoO a M v = .inr xIAE := by simp [xCoO, c0, c1, c2, c3, c4, c5]
    have e3 : mT1 (mIn v 0 5) = 1 := by
      rw [mIn_x (b := 6) (by decide), if_neg]
      · rfl
      · intro q
        obtain ⟨j, hj, e, -⟩ := xIn_n (B := 6) rfl (by omega) q
        have : j = 0 ∨ j = 1 ∨ j = 2 ∨ j = 3 ∨ j = 4 ∨ j = 5 := by omega
        rcases this with rfl | rfl | rfl | rfl | rfl | rfl
        · exact c0 e
        · exact c1 e
        · exact c2 e
        · exact c3 e
        · exact c4 e
        · exact c5 e
    rw [e1, e3]
    exact ⟨pI_same _ _ _ _, (Sim.thrown A h 1).P, fun q => absurd q (by decide)⟩
end SIM7
