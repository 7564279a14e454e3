section SIM4
variable {Z : Nat → UInt32 → Prop} {a m : Nat → Nat} {w kd : Nat → Int32} {R n : Nat} {M N : pM}
/-! asking the places -/
theorem Sim.pf (h : Sim Z a m w kd R n M N) {s k : Nat} (g : (s = 6 ∧ k = 16) ∨ (s = 7 ∧ k = 25) ∨ (s = 8 ∧ k = 26) ∨ (s = 9 ∧ k = 27)) : M.1 (a 0) s = N.1 (m 0) k := h.1 _ _ _ _ (sT_p g)
theorem Sim.zn (h : Sim Z a m w kd R n M N) {z s k : Nat} (hz : z < 4) (g : (s = 0 ∧ k = 14) ∨ (s = 1 ∧ k = 15) ∨ (s = 2 ∧ k = 13)) : M.1 (a (21 + z)) s = N.1 (m k) z := h.1 _ _ _ _ (sT_zn hz g)
theorem Sim.ou (h : Sim Z a m w kd R n M N) {q : Nat} (hq : q < 6) : M.1 (a 38) q = N.1 (m 22) q := h.1 _ _ _ _ (sT_ou hq)
theorem Sim.rch (h : Sim Z a m w kd R n M N) {p : Nat} (hp : p < 16) : mReach N m p ≠ 0 ↔ rRe w kd p := by
  rw [mReach_n N m hp]
  refine rRe_iff (fun k hk => ?_) (fun q hq => ?_) hp
  · rw [← (h.2.2.2.2.2.2.1.1 k hk).1]
    exact (h.1 _ _ _ _ (sT_wi hk)).symm
  · rw [← h.2.2.2.2.2.2.1.2 q hq]
    exact (h.rd hq (s := 0) (k := 2) (by simp)).symm
theorem Sim.xrc (h : Sim Z a m w kd R n M N) {p : Nat} (hp : p < 16) : bt (xReach M (fun i => a (3 + i)) (a 19)) p = true ↔ rRe w kd p :=
  xReach_n h.2.2.2.2.2.2.1.1 h.2.2.2.2.2.2.1.2 hp
theorem Sim.rcb (h : Sim Z a m w kd R n M N) {p : Nat} (hp : p < 16) : (xReach M (fun i => a (3 + i)) (a 19) >>> (nI p &&& 31)) &&& 1 = mReach N m p := by
  rw [bt_rd _ (by omega)]
  have h1 := h.rch hp
  have h2 := h.xrc hp
  rcases mReach_01 N m p with e | e
  · rw [e, if_neg]
    intro c
    exact (h1.mpr (h2.mp c)) e
  · rw [e, if_pos]
    exact h2.mpr (h1.mp (by rw [e]; decide))
theorem xSens_e (h : Sim Z a m w kd R n M N) {p : Nat} (hp : p < 16) : xSens M (a (3 + p)) = mSens N m p := by
  unfold xSens mSens mIn
  rw [h.rd hp (s := 0) (k := 2) (by simp)]
theorem xSens_k {q : Nat} (h : ¬ xSens M q = 0) : M.1 q 0 = 1 ∨ M.1 q 0 = 2 ∨ M.1 q 0 = 3 := by
  unfold xSens at h
  split at h
  · exact absurd rfl h
  rename_i h1
  split at h
  · exact absurd rfl h
  rename_i h3
  obtain ⟨j, hj, e⟩ := nI_of (x := M.1 q 0) (by
    intro hh
    apply h1
    exact Int32.lt_trans hh (by decide))
  rw [e] at h1 h3 ⊢
  have g1 : 1 ≤ j := by
    by_cases c : 1 ≤ j
    · exact c
    · exact absurd (nI_lt (a := j) (b := 1) (by omega) (by omega)) h1
  have g3 : j ≤ 3 := by
    by_cases c : j ≤ 3
    · exact c
    · exact absurd (nI_lt (a := 3) (b := j) (by omega) (by omega)) h3
  have : j = 1 ∨ j = 2 ∨ j = 3 := by omega
  rcases this with rfl | rfl | rfl
  · left; rfl
  · right; left; rfl
  · right; right; rfl
theorem Sim.miss (A : sAd a m) (h : Sim Z a m w kd R n M N) {p : Nat} (hp : p < 16) : Sim Z a m w kd R n (xMiss a M (a (3 + p)) (nI p)) (if N.1 (m 10) p + 1 = 2 then mNote (pI (pI N (m 10) p (N.1 (m 10) p + 1)) (m 11) p 1) m 2 (nI p) else pI N (m 10) p (N.1 (m 10) p + 1)) := by
  unfold xMiss
  rw [h.rd hp (s := 8) (k := 10) (by simp)]
  have h1 := Sim.put A h (sT_pl hp (s := 8) (k := 10) (by simp)) (by omega) (N.1 (m 10) p + 1)
  split
  · have h2 := Sim.put A h1 (sT_pl hp (s := 9) (k := 11) (by simp)) (by omega) 1
    refine Sim.note A h2 _ _ ?_
    rw [h.pf (s := 7) (k := 25) (by simp), pI_1n _ _ _ (A.nm (by omega) (by omega) (by omega)), pI_1n _ _ _ (A.nm (by omega) (by omega) (by omega))]
  · exact h1
theorem Sim.ans1 (A : sAd a m) (h : Sim Z a m w kd R n M N) {p : Nat} (hp : p < 16) : Sim Z a m w kd R n (xAns1 a M (a (3 + p)) (nI p)) (if N.1 (m 11) p = 0 then pI N (m 10) p 0 else mNote (pI (pI N (m 10) p 0) (m 11) p 0) m 3 (nI p)) := by
  unfold xAns1
  rw [h.rd hp (s := 9) (k := 11) (by simp)]
  have h1 := Sim.put A h (sT_pl hp (s := 8) (k := 10) (by simp)) (by omega) 0
  split
  · exact h1
  · have h2 := Sim.put A h1 (sT_pl hp (s := 9) (k := 11) (by simp)) (by omega) 0
    refine Sim.note A h2 _ _ ?_
    rw [h.pf (s := 7) (k := 25) (by simp), pI_1n _ _ _ (A.nm (by omega) (by omega) (by omega)), pI_1n _ _ _ (A.nm (by omega) (by omega) (by omega))]
theorem Sim.ask1 (A : sAd a m) (H : sZ Z) (h : Sim Z a m w kd R n M N) {p : Nat} (hp : p < 16) {W : Int32} (hW : bt W p = true ↔ rRe w kd p) : Sim Z a m w kd R n (xAsk1 a W M p) (mA1 N m p) := by
  unfold xAsk1 mA1
  rw [xSens_e h hp]
  by_cases c : mSens N m p = 0
  · rw [if_pos c, if_pos c]; exact h
  rw [if_neg c, if_neg c]
  have hk := xSens_k (M := M) (q := a (3 + p)) (by rw [xSens_e h hp]; exact c)
  rw [h.2.2.2.2.2.2.1.2 p hp] at hk
  have hr := h.rch hp
  unfold mAsk
  by_cases c2 : mReach N m p = 0
  · rw [if_pos c2, if_pos ((bt_z W (by omega)).mpr ?_)]
    · exact Sim.miss A h hp
    · cases hb : bt W p
      · rfl
      · exact absurd c2 (hr.mpr (hW.mp hb))
  · rw [if_neg c2, if_neg]
    · unfold xAns
      rw [h.rd hp (s := 10) (k := 12) (by simp)]
      split
      · exact Sim.sense A H (Sim.ans1 A h hp) hp hk
      · exact Sim.ans1 A h hp
    · intro z
      have := (bt_z W (by omega)).mp z
      rw [hW.mpr (hr.mp c2)] at this
      cases this
theorem Sim.askN (A : sAd a m) (H : sZ Z) (h : Sim Z a m w kd R n M N) {W : Int32} (hW : ∀ p, p < 16 → (bt W p = true ↔ rRe w kd p)) : ∀ i, i ≤ 16 → Sim Z a m w kd R n (xAskN a W i M) (mAskN m i N)
  | 0, _ => h
  | i + 1, hi => by
    rw [xAskN, mAskN]
    exact Sim.ask1 A H (Sim.askN A H h hW i (by omega)) (by omega) (hW i (by omega))
theorem Sim.p0 (A : sAd a m) (h : Sim Z a m w kd R n M N) : Sim Z a m w kd R n (pI M (a 0) 7 (M.1 (a 0) 7 + 1)) (mP0 N m) := by
  unfold mP0
  rw [h.pf (s := 7) (k := 25) (by simp)]
  exact Sim.put A (Sim.mine A h (k := 0) (t := 0) (by omega) 0) (sT_p (s := 7) (k := 25) (by simp)) (by omega) _
theorem Sim.p1 (A : sAd a m) (H : sZ Z) (h : Sim Z a m w kd R n M N) : Sim Z a m w kd R n (xP1 a M) (mP1 N m) := by
  unfold xP1 xAsk mP1
  have h0 := Sim.p0 A h
  exact Sim.askN A H h0 (fun p hp => h0.xrc hp) 16 (by omega)
/-! zones -/
theorem xWat_e (h : Sim Z a m w kd R n M N) {p : Nat} (hp : p < 16) (z : Int32) : xWat M (a (3 + p)) z = mMine N m z p := by
  unfold xWat mMine
  rw [xSens_e h hp, h.rd hp (s := 1) (k := 3) (by simp), h.rd hp (s := 10) (k := 12) (by simp)]
theorem mBuL_1 (N : pM) (m : Nat → Nat) (z : Int32) : ∀ (k p : Nat) (c : Int32), (mBuL N m z k p c 1).2 = 1
  | 0, p, c => rfl
  | k + 1, p, c => by
    rw [mBuL, if_neg (show ¬ (1 : Int32) = 0 by decide), mBuL_1 N m z k]
theorem xEnL_e (h : Sim Z a m w kd R n M N) (z need : Int32) : ∀ (k p : Nat) (c : Int32), k + p = 16 → xEnL M (fun i => a (3 + i)) z need k p c = if need ≤ (mBuL N m z k p c 0).1 then 1 else if (mBuL N m z k p c 0).2 = 0 then 0 else 1
  | 0, p, c, hk => by
    rw [xEnL, mBuL]
    by_cases g : c < need
    · rw [if_pos g, if_neg (Int32.not_le.mpr g)]; rfl
    · rw [if_neg g, if_pos (Int32.not_lt.mp g)]
  | k + 1, p, c, hk => by
    rw [xEnL, mBuL, if_pos rfl]
    rw [xWat_e h (show p < 16 by omega), h.rd (show p < 16 by omega) (s := 7) (k := 9) (by simp), h.rd (show p < 16 by omega) (s := 0) (k := 2) (by simp)]
    unfold mIsAl
    by_cases c1 : mMine N m z p = 0
    · rw [if_pos c1, if_pos c1, if_pos rfl, if_pos rfl]
      exact xEnL_e h z need k (p + 1) c (by omega)
    rw [if_neg c1, if_neg c1]
    by_cases c2 : N.1 (m 9) p = 0
    · rw [if_pos c2, if_pos c2, if_pos rfl, if_pos rfl]
      exact xEnL_e h z need k (p + 1) c (by omega)
    rw [if_neg c2, if_neg c2, if_neg (show ¬ (1 : Int32) = 0 by decide), if_neg (show ¬ (1 : Int32) = 0 by decide)]
    by_cases c3 : N.1 (m 2) p = 3
    · rw [if_pos c3, if_pos c3, mBuL_1, if_neg (show ¬ (1 : Int32) = 0 by decide)]
      split <;> rfl
    · rw [if_neg c3, if_neg c3]
      exact xEnL_e h z need k (p + 1) (c + 1) (by omega)
theorem pI_cm (M : pM) {q q' k k' : Nat} (v v' : Int32) (h : q ≠ q') : pI (pI M q k v) q' k' v' = pI (pI M q' k' v') q k v := by
  apply Prod.ext
  · funext b j
    rw [pI_at, pI_at, pI_at, pI_at]
    by_cases c1 : b = q ∧ j = k
    · by_cases c2 : b = q' ∧ j = k'
      · exact absurd (c1.1.symm.trans c2.1) h
      · rw [if_neg c2, if_pos c1, if_pos c1]
    · rw [if_neg c1, if_neg c1]
  · rfl
theorem mNt_cm (m : Nat → Nat) {k : Nat} (v : Int32) (hm : m 0 ≠ m 29) : ∀ (j : Nat) (M : pM), mNt m j (pI M (m 0) k v) = pI (mNt m j M) (m 0) k v
  | 0, M => rfl
  | j + 1, M => by
    rw [mNt, mNt, pI_1n _ _ _ (Ne.symm hm), pI_cm _ _ _ hm, mNt_cm m v hm j]
/-- quiet may be put ahead of the note -/
theorem mNote_cm {M : pM} {u v x : Int32} (hm : m 0 ≠ m 29) : pI (mNote M m u v) (m 0) 27 x = mNote (pI M (m 0) 27 x) m u v := by
  unfold mNote
  rw [mNt_cm m x hm, pI_diff _ _ _ (show 25 ≠ 27 by omega), pI_diff _ _ _ (show 28 ≠ 27 by omega)]
  apply Prod.ext
  · funext b j
    simp only [pI_at]
    by_cases c1 : b = m 0 ∧ j = 27
    · rw [if_pos c1, if_neg (by omega), if_neg (by rintro ⟨d, -⟩; exact hm (c1.1.symm.trans d)), if_neg (by rintro ⟨d, -⟩; exact hm (c1.1.symm.trans d)), if_neg (by rintro ⟨d, -⟩; exact hm (c1.1.symm.trans d)), if_pos c1]
    · simp only [if_neg c1]
  · rfl
theorem Sim.wz (A : sAd a m) {z : Nat} (hz : z < 4) {c d : Int32 × pM} (h : Sim Z a m w kd R n c.2 d.2) (e : c.1 = d.1) : (xWz1 a c z).1 = (mBz1 m d z).1 ∧ Sim Z a m w kd R n (xWz1 a c z).2 (mBz1 m d z).2 := by
  have hB : mBurn d.2 m z = (if c.2.1 (a (21 + z)) 2 = 0 then (if c.2.1 (a (21 + z)) 1 = 0 then xEnL c.2 (fun i => a (3 + i)) (nI z) (c.2.1 (a (21 + z)) 0) 16 0 0 else 0) else 0) := by
    unfold mBurn
    rw [h.zn hz (s := 2) (k := 13) (by simp), h.zn hz (s := 1) (k := 15) (by simp), h.zn hz (s := 0) (k := 14) (by simp), xEnL_e h (nI z) _ 16 0 0 (by omega)]
  unfold xWz1 mBz1
  rw [hB]
  by_cases c1 : c.2.1 (a (21 + z)) 2 = 0
  · rw [if_pos c1, if_pos c1]
    by_cases c2 : c.2.1 (a (21 + z)) 1 = 0
    · rw [if_pos c2, if_pos c2]
      by_cases c3 : xEnL c.2 (fun i => a (3 + i)) (nI z) (c.2.1 (a (21 + z)) 0) 16 0 0 = 0
      · rw [if_pos c3, if_pos c3]
        exact ⟨e, h⟩
      · rw [if_neg c3, if_neg c3]
        have mg : m 0 ≠ m 29 := A.nm (by omega) (by omega) (by omega)
        rw [mNote_cm mg]
        refine ⟨by rw [e], ?_⟩
        refine Sim.note A (Sim.put A (Sim.put A h (sT_zn hz (s := 1) (k := 15) (by simp)) (by omega) 1) (sT_p (s := 9) (k := 27) (by simp)) (by omega) 0) _ _ ?_
        rw [pI_diff _ _ _ (show 25 ≠ 27 by omega), pI_1n _ _ _ (A.nm (by omega) (by omega) (by omega))]
        exact h.pf (by simp)
    · rw [if_neg c2, if_neg c2, if_pos rfl]; exact ⟨e, h⟩
  · rw [if_neg c1, if_neg c1, if_pos rfl]; exact ⟨e, h⟩
theorem Sim.wzN (A : sAd a m) (h : Sim Z a m w kd R n M N) : ∀ i, i ≤ 4 → (xWzN a i M).1 = (mBz m i N).1 ∧ Sim Z a m w kd R n (xWzN a i M).2 (mBz m i N).2
  | 0, _ => ⟨rfl, h⟩
  | i + 1, hi => by
    rw [xWzN, mBz]
    obtain ⟨e1, e2⟩ := Sim.wzN A h i (by omega)
    exact Sim.wz A (by omega) e2 e1
end SIM4
