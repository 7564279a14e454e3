section SIM2
variable {Z : Nat → UInt32 → Prop} {a m : Nat → Nat} {w kd : Nat → Int32} {R n : Nat} {M N : pM}
theorem pI_same (M : pM) (q k : Nat) (v : Int32) : (pI M q k v).1 q k = v := by rw [pI_rd, if_pos rfl]
theorem pI_diff (M : pM) (q : Nat) {k j : Nat} (v : Int32) (h : j ≠ k) : (pI M q k v).1 q j = M.1 q j := by rw [pI_rd, if_neg h]
theorem pF_same (M : pM) (q k : Nat) (v : UInt32) : (pF M q k v).2 q k = v := by rw [pF_rd, if_pos rfl]
theorem pF_diff (M : pM) (q : Nat) {k j : Nat} (v : UInt32) (h : j ≠ k) : (pF M q k v).2 q j = M.2 q j := by rw [pF_rd, if_neg h]
theorem pI_id (M : pM) (q k : Nat) : pI M q k (M.1 q k) = M := by
  apply Prod.ext
  · funext b j
    rw [pI_at]
    split
    · rename_i c; rw [c.1, c.2]
    · rfl
  · rfl
theorem mNt_o (m : Nat → Nat) {q : Nat} (hq : q ≠ m 29) : ∀ (n : Nat) (M : pM), (mNt m n M).1 q = M.1 q
  | 0, M => rfl
  | n + 1, M => by
    rw [mNt, mNt_o m hq n, pI_1n _ _ _ hq]
theorem mNt_f (m : Nat → Nat) : ∀ (n : Nat) (M : pM), (mNt m n M).2 = M.2
  | 0, M => rfl
  | n + 1, M => by
    rw [mNt, mNt_f m n]; rfl
theorem mNt_r (m : Nat → Nat) (j : Nat) : ∀ (n : Nat) (M : pM), (mNt m n M).1 (m 29) j = if 3 ≤ j ∧ j < n + 3 then M.1 (m 29) (j - 3) else M.1 (m 29) j
  | 0, M => by
    rw [if_neg (by omega)]; rfl
  | n + 1, M => by
    rw [mNt, mNt_r m j n]
    by_cases h2 : 3 ≤ j ∧ j < n + 3
    · rw [if_pos h2, if_pos (show 3 ≤ j ∧ j < n + 1 + 3 by omega), pI_diff _ _ _ (by omega)]
    · rw [if_neg h2]
      by_cases h1 : j = n + 3
      · subst h1
        rw [pI_same, if_pos (by omega)]
        congr 1
      · rw [pI_diff _ _ _ h1, if_neg (by omega)]
theorem xAdd_o {M : pM} {g w q : Nat} {u v c : Int32} (h1 : q ≠ g) (h2 : q ≠ w) : (xAdd M g w u v c).1 q = M.1 q := by
  unfold xAdd
  rw [pI_1n _ _ _ h1, pI_1n _ _ _ h2, pI_1n _ _ _ h2, pI_1n _ _ _ h2, pR_1n _ _ h2]
theorem xAdd_g {M : pM} {g w : Nat} {u v c : Int32} (h : g ≠ w) (j : Nat) : (xAdd M g w u v c).1 g j = if j = 1 then (if 16 < M.1 g 1 + 1 then 16 else M.1 g 1 + 1) else M.1 g j := by
  unfold xAdd
  rw [pI_rd, pI_1n _ _ _ h, pI_1n _ _ _ h, pI_1n _ _ _ h, pR_1n _ _ h]
theorem xAdd_w {M : pM} {g w : Nat} {u v c : Int32} (h : g ≠ w) {j : Nat} (hj : j < 48) : (xAdd M g w u v c).1 w j = if j = 2 then c else if j = 1 then v else if j = 0 then u else M.1 w (j - 3) := by
  unfold xAdd
  rw [pI_1n _ _ _ (Ne.symm h), pI_rd, pI_rd, pI_rd, pR_rd]
  by_cases h2 : j = 2
  · simp [h2]
  by_cases h1 : j = 1
  · simp [h1]
  by_cases h0 : j = 0
  · simp [h0]
  · rw [if_neg h2, if_neg h1, if_neg h0, if_neg h2, if_neg h1, if_neg h0, pk_cpy_in (by omega) (by omega), Nat.zero_add]
theorem xAdd_2s {M : pM} {g w : Nat} {u v c : Int32} : (xAdd M g w u v c).2 = M.2 := rfl
theorem mNote_o {M : pM} {q : Nat} {u v : Int32} (h1 : q ≠ m 29) (h2 : q ≠ m 0) : (mNote M m u v).1 q = M.1 q := by
  unfold mNote
  rw [pI_1n _ _ _ h2, pI_1n _ _ _ h1, pI_1n _ _ _ h1, pI_1n _ _ _ h1, mNt_o m h1]
theorem mNote_0s {M : pM} {u v : Int32} (h : m 0 ≠ m 29) (j : Nat) : (mNote M m u v).1 (m 0) j = if j = 28 then (if 16 ≤ M.1 (m 0) 28 then 16 else M.1 (m 0) 28 + 1) else M.1 (m 0) j := by
  unfold mNote
  rw [pI_rd, pI_1n _ _ _ h, pI_1n _ _ _ h, pI_1n _ _ _ h, mNt_o m h]
theorem mNote_l {M : pM} {u v : Int32} (h : m 0 ≠ m 29) {j : Nat} (hj : j < 48) : (mNote M m u v).1 (m 29) j = if j = 2 then M.1 (m 0) 25 else if j = 1 then v else if j = 0 then u else M.1 (m 29) (j - 3) := by
  unfold mNote
  rw [pI_1n _ _ _ (Ne.symm h), pI_rd, pI_rd, pI_rd, mNt_r]
  by_cases h2 : j = 2
  · simp [h2]
  by_cases h1 : j = 1
  · simp [h1]
  by_cases h0 : j = 0
  · simp [h0]
  · rw [if_neg h2, if_neg h1, if_neg h0, if_neg h2, if_neg h1, if_neg h0, if_pos (by omega)]
theorem mNote_2s {M : pM} {u v : Int32} : (mNote M m u v).2 = M.2 := by
  unfold mNote
  rw [pI_2, pI_2, pI_2, pI_2, mNt_f]
theorem Sim.note (A : sAd a m) (h : Sim Z a m w kd R n M N) {c : Int32} (u v : Int32) (hc : c = N.1 (m 0) 25) : Sim Z a m w kd R n (xAdd M (a 41) (a 42) u v c) (mNote N m u v) := by
  obtain ⟨h1, h2, h3, h4, h5, h6, h7, h8⟩ := h
  have ag : a 41 ≠ a 42 := A.na (by omega) (by omega) (by omega)
  have mg : m 0 ≠ m 29 := A.nm (by omega) (by omega) (by omega)
  have na : ∀ j, j < 43 → j ≠ 41 → j ≠ 42 → (xAdd M (a 41) (a 42) u v c).1 (a j) = M.1 (a j) := fun j hj n1 n2 => xAdd_o (A.na hj (by omega) n1) (A.na hj (by omega) n2)
  have nk : ∀ j, j < 34 → j ≠ 29 → j ≠ 0 → (mNote N m u v).1 (m j) = N.1 (m j) := fun j hj n1 n2 => mNote_o (A.nm hj (by omega) n1) (A.nm hj (by omega) n2)
  have n0 : ∀ j, j ≠ 28 → (mNote N m u v).1 (m 0) j = N.1 (m 0) j := fun j hj => by rw [mNote_0s mg, if_neg hj]
  obtain ⟨E, hE, hE1⟩ := h5
  have hE2 : N.1 (m 0) 28 = nI E := by rw [← hE1]; exact (h1 _ _ _ _ sT_en).symm
  have hx : (if 16 < M.1 (a 41) 1 + 1 then 16 else M.1 (a 41) 1 + 1) = nI (if E = 16 then 16 else E + 1) := by
    rw [hE1, nI_1]
    by_cases c : E = 16
    · subst c; rfl
    · rw [if_neg c, if_neg]
      show ¬ nI 16 < nI (E + 1)
      exact nI_nlt (by omega) (by omega)
  have hm : (if 16 ≤ N.1 (m 0) 28 then 16 else N.1 (m 0) 28 + 1) = nI (if E = 16 then 16 else E + 1) := by
    rw [hE2, nI_1]
    by_cases c : E = 16
    · subst c; rfl
    · rw [if_neg c, if_neg]
      show ¬ nI 16 ≤ nI E
      exact nI_ge (by omega) (by omega)
  refine ⟨?_, ?_, ⟨h3.1, ?_, fun r hr => ?_⟩, ⟨h4.1, ?_, fun j hj => ?_⟩, ?_, fun p hp => ?_, ⟨fun k' hk' => ?_, fun p hp => ?_⟩, ?_⟩
  · intro i s k t e
    have U := sT_of e
    obtain ⟨u1, u2, u3, u4, u5⟩ := U
    by_cases i42 : i = 42
    · subst i42
      rcases sT_x (by omega) (by omega) (by omega) e with ⟨q, _⟩ | ⟨q, _⟩ | ⟨q, _⟩ | ⟨q, _⟩ | ⟨q, hs, e2⟩
      · omega
      · omega
      · omega
      · omega
      · obtain ⟨rfl, rfl⟩ := Prod.mk.inj e2
        rw [xAdd_w ag hs, mNote_l mg hs, hc]
        repeat' split
        all_goals first | rfl | exact h1 _ _ _ _ (sT_lg (by omega))
    by_cases i41 : i = 41
    · subst i41
      rcases sT_x (by omega) (by omega) (by omega) e with ⟨q, _⟩ | ⟨q, _⟩ | ⟨q, _⟩ | ⟨q, hs, e2⟩ | ⟨q, _⟩
      · omega
      · omega
      · omega
      · obtain ⟨rfl, rfl⟩ := Prod.mk.inj e2
        subst hs
        rw [xAdd_g ag, mNote_0s mg, if_pos rfl, if_pos rfl, hx, hm]
      · omega
    · rw [na i u2 i41 i42]
      by_cases k0 : k = 0
      · subst k0
        rw [n0 t (by omega)]
        exact h1 _ _ _ _ e
      · rw [nk k u3 (by omega) k0]
        exact h1 _ _ _ _ e
  · intro p s hp hs2 hs5
    rw [xAdd_2s, mNote_2s]
    exact h2 p s hp hs2 hs5
  · rw [na 0 (by omega) (by omega) (by omega)]; exact h3.2.1
  · have hR := h3.1
    exact (h3.2.2 r hr).fr (na _ (by omega) (by omega) (by omega)) (na _ (by omega) (by omega) (by omega)) (nk _ (by omega) (by omega) (by omega)) (nk _ (by omega) (by omega) (by omega)) (nk _ (by omega) (by omega) (by omega)) (nk _ (by omega) (by omega) (by omega)) (nk _ (by omega) (by omega) (by omega))
  · rw [na 39 (by omega) (by omega) (by omega)]; exact h4.2.1
  · rw [na 40 (by omega) (by omega) (by omega), nk 24 (by omega) (by omega) (by omega)]; exact h4.2.2 j hj
  · exact ⟨if E = 16 then 16 else E + 1, by split <;> omega, by rw [xAdd_g ag, if_pos rfl, hx]⟩
  · rw [na _ (by omega) (by omega) (by omega)]; exact h6 p hp
  · rw [na 19 (by omega) (by omega) (by omega)]; exact h7.1 k' hk'
  · rw [na _ (by omega) (by omega) (by omega)]; exact h7.2 p hp
  · intro p s hp hs2 hs5
    rw [xAdd_2s]
    exact h8 p s hp hs2 hs5
/-- what the floats of a place keep to (slot 2 the threshold, 3 the reading, 4 the base, 5 the level) -/
def sZ (Z : Nat → UInt32 → Prop) : Prop :=
  (∀ r b l, Z 3 r → Z 4 b → Z 5 l → Z 5 (FP.fadd l (FP.fmul (FP.fsub (FP.fsub r b) l) 1056964608)) ∧ Z 4 (FP.fadd b (FP.fmul (FP.fsub r b) 1031798784)) ∧ Z 5 (FP.fadd (FP.fmul (FP.fsub r b) 1082130432) (FP.fmul r 1048576000))) ∧ (∀ r, Z 3 r → Z 4 r ∧ Z 5 r) ∧ Z 4 FP.fconst0 ∧ Z 5 FP.fconst0
theorem xCount_e (M : pM) (q : Nat) : xCount M q = pI M q 6 (if Op.cmpValue (FP.fcmp (M.2 q 5) (M.2 q 2)) .l < 0 then 0 else M.1 q 6 + 1) := by
  unfold xCount
  split <;> rfl
theorem Sim.rd (h : Sim Z a m w kd R n M N) {p s k : Nat} (hp : p < 16) (g : (s = 0 ∧ k = 2) ∨ (s = 1 ∧ k = 3) ∨ (s = 6 ∧ k = 8) ∨ (s = 7 ∧ k = 9) ∨ (s = 8 ∧ k = 10) ∨ (s = 9 ∧ k = 11) ∨ (s = 10 ∧ k = 12)) : M.1 (a (3 + p)) s = N.1 (m k) p := h.1 _ _ _ _ (sT_pl hp g)
theorem Sim.rf (h : Sim Z a m w kd R n M N) {p s k : Nat} (hp : p < 16) (h2 : 2 ≤ s) (h5 : s ≤ 5) (hk : k = s + 2) : M.2 (a (3 + p)) s = N.2 (m k) p := by
  subst hk
  exact h.2.1 p s hp h2 h5
theorem Sim.smoke (A : sAd a m) (H : sZ Z) (h : Sim Z a m w kd R n M N) {p : Nat} (hp : p < 16) (hk : N.1 (m 2) p = 1) : Sim Z a m w kd R n (xSmoke M (a (3 + p))) (mS3 N m p) := by
  have f2 := h.rf hp (s := 2) (by omega) (by omega) rfl
  have f3 := h.rf hp (s := 3) (by omega) (by omega) rfl
  have f4 := h.rf hp (s := 4) (by omega) (by omega) rfl
  have f5 := h.rf hp (s := 5) (by omega) (by omega) rfl
  have i6 := h.rd hp (s := 6) (k := 8) (by simp)
  have hZ := H.1 _ _ _ (h.2.2.2.2.2.2.2 p 3 hp (by omega) (by omega)) (h.2.2.2.2.2.2.2 p 4 hp (by omega) (by omega)) (h.2.2.2.2.2.2.2 p 5 hp (by omega) (by omega))
  have e1 : xSmL M (a (3 + p)) = mLv N m p := by
    unfold mLv xSmL xD
    rw [if_pos hk, f3, f4, f5]
  have e2 : xSmB M (a (3 + p)) = mSmB N m p := by
    unfold xSmB xD mSmB mDD
    rw [f3, f4]
  have h1 : Sim Z a m w kd R n (xCount (pF M (a (3 + p)) 5 (xSmL M (a (3 + p)))) (a (3 + p))) (mS2 N m p) := by
    rw [xCount_e, pF_same, pF_diff _ _ _ (by omega), e1, f2, pF_1, i6]
    refine Sim.put A (Sim.fl A h hp (by omega) (by omega) rfl ?_) (sT_pl hp (by simp)) (by omega) _
    rw [← e1]; exact hZ.1
  have e3 : (xCount (pF M (a (3 + p)) 5 (xSmL M (a (3 + p)))) (a (3 + p))).1 (a (3 + p)) 6 = mOv N m p := by
    rw [h1.rd hp (s := 6) (k := 8) (by simp)]
    unfold mS2
    rw [pI_rd, if_pos rfl]
  unfold xSmoke mS3
  rw [e3, if_neg (show ¬ N.1 (m 2) p = 2 by rw [hk]; decide)]
  split
  · rw [e2]
    refine Sim.fl A h1 hp (by omega) (by omega) rfl ?_
    rw [← e2]; exact hZ.2.1
  · exact h1
theorem Sim.heat (A : sAd a m) (H : sZ Z) (h : Sim Z a m w kd R n M N) {p : Nat} (hp : p < 16) (hk : N.1 (m 2) p = 2) : Sim Z a m w kd R n (xHeat M (a (3 + p))) (mS3 N m p) := by
  have f2 := h.rf hp (s := 2) (by omega) (by omega) rfl
  have f3 := h.rf hp (s := 3) (by omega) (by omega) rfl
  have f4 := h.rf hp (s := 4) (by omega) (by omega) rfl
  have i6 := h.rd hp (s := 6) (k := 8) (by simp)
  have z3 := h.2.2.2.2.2.2.2 p 3 hp (by omega) (by omega)
  have hZ := H.1 _ _ _ z3 (h.2.2.2.2.2.2.2 p 4 hp (by omega) (by omega)) (h.2.2.2.2.2.2.2 p 5 hp (by omega) (by omega))
  have e1 : xHtL M (a (3 + p)) = mLv N m p := by
    unfold mLv xHtL xD
    rw [hk, if_neg (by decide), f3, f4]
  unfold xHeat mS3
  rw [xCount_e, pF_diff _ _ _ (show 5 ≠ 4 by omega), pF_same, pF_diff _ _ _ (show 2 ≠ 4 by omega), pF_diff _ _ _ (show 2 ≠ 5 by omega), e1, f2, pF_1, pF_1, i6, f3, hk, if_pos rfl]
  have h1 := Sim.fl A h hp (s := 5) (k := 7) (by omega) (by omega) rfl (v := mLv N m p) (by rw [← e1]; exact hZ.2.2)
  have h2 := Sim.fl A h1 hp (s := 4) (k := 6) (by omega) (by omega) rfl (v := N.2 (m 5) p) (by rw [← f3]; exact (H.2.1 _ z3).1)
  exact Sim.put A h2 (sT_pl hp (s := 6) (k := 8) (by simp)) (by omega) (mOv N m p)
theorem Sim.but (A : sAd a m) (H : sZ Z) (h : Sim Z a m w kd R n M N) {p : Nat} (hp : p < 16) : Sim Z a m w kd R n (xBut M (a (3 + p))) (mBut N m p) := by
  have f3 := h.rf hp (s := 3) (by omega) (by omega) rfl
  have i6 := h.rd hp (s := 6) (k := 8) (by simp)
  have z3 := h.2.2.2.2.2.2.2 p 3 hp (by omega) (by omega)
  have key : ∀ v, Sim Z a m w kd R n (pF (pI M (a (3 + p)) 6 v) (a (3 + p)) 5 (N.2 (m 5) p)) (pF (pI N (m 8) p v) (m 7) p (N.2 (m 5) p)) := fun v =>
    Sim.fl A (Sim.put A h (sT_pl hp (s := 6) (k := 8) (by simp)) (by omega) v) hp (by omega) (by omega) rfl (by rw [← f3]; exact (H.2.1 _ z3).2)
  unfold xBut mBut
  rw [f3]
  split
  · have k1 := key (N.1 (m 8) p)
    have : pI M (a (3 + p)) 6 (N.1 (m 8) p) = M := by
      rw [← i6]; exact pI_id _ _ _
    rw [this] at k1
    exact k1
  · exact key 3
theorem Sim.sense (A : sAd a m) (H : sZ Z) (h : Sim Z a m w kd R n M N) {p : Nat} (hp : p < 16) (hk : kd p = 1 ∨ kd p = 2 ∨ kd p = 3) : Sim Z a m w kd R n (xSense M (a (3 + p))) (mSense N m p) := by
  have i0 := h.rd hp (s := 0) (k := 2) (by simp)
  have hkd := h.2.2.2.2.2.2.1.2 p hp
  have h1 : Sim Z a m w kd R n (xSn1 M (a (3 + p))) (mSen1 N m p) := by
    unfold xSn1 mSen1
    rw [i0]
    rw [i0] at hkd
    rcases hk with e | e | e <;> rw [e] at hkd <;> rw [hkd]
    · rw [if_pos rfl, if_neg (by decide)]
      exact Sim.smoke A H h hp hkd
    · rw [if_neg (by decide), if_pos rfl, if_neg (by decide)]
      exact Sim.heat A H h hp hkd
    · rw [if_neg (by decide), if_neg (by decide), if_pos rfl]
      exact Sim.but A H h hp
  have i6 := h1.rd hp (s := 6) (k := 8) (by simp)
  have i7 := h1.rd hp (s := 7) (k := 9) (by simp)
  have al := h1.2.2.2.2.2.1 p hp
  unfold xSense mSense mAl
  rw [i6]
  rw [i7] at al
  have same : pI (xSn1 M (a (3 + p))) (a (3 + p)) 7 ((mSen1 N m p).1 (m 9) p) = xSn1 M (a (3 + p)) := by
    rw [← i7]; exact pI_id _ _ _
  by_cases c : (mSen1 N m p).1 (m 8) p < 3
  · rw [if_pos c, if_pos c]
    rcases al with e | e
    · rw [e, if_pos rfl]
      have := Sim.alarm A h1 hp (v := 0) (by simp)
      rw [e] at same
      rw [same] at this
      exact this
    · rw [e, if_neg (by decide)]
      have := Sim.alarm A h1 hp (v := 1) (by simp)
      rw [e] at same
      rw [same] at this
      exact this
  · rw [if_neg c, if_neg c]
    have : (if (mSen1 N m p).1 (m 9) p = 0 then (1 : Int32) else 1) = 1 := by split <;> rfl
    rw [this]
    exact Sim.alarm A h1 hp (by simp)
end SIM2
