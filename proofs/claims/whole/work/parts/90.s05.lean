section SIM5
variable {Z : Nat → UInt32 → Prop} {a m : Nat → Nat} {w kd : Nat → Int32} {R n : Nat} {M N : pM}
/-! warnings, faults, facts -/
theorem mWn_1 (N : pM) (m : Nat → Nat) (z : Int32) : ∀ (k p : Nat), mWn N m z k p 1 = 1
  | 0, p => rfl
  | k + 1, p => by
    rw [mWn]
    have : mWn1 N m z p 1 = 1 := by
      unfold mWn1
      rw [if_neg (by decide)]
    rw [this]
    exact mWn_1 N m z k (p + 1)
theorem xHwL_e (h : Sim Z a m w kd R n M N) (z : Int32) : ∀ (k p : Nat), k + p = 16 → xHwL M (fun i => a (3 + i)) z k p = mWn N m z k p 0
  | 0, p, _ => rfl
  | k + 1, p, hk => by
    have hp : p < 16 := by omega
    rw [xHwL, mWn, xWat_e h hp]
    unfold mWn1 xWarn
    rw [if_pos rfl, h.rd hp (s := 7) (k := 9) (by simp), h.rd hp (s := 0) (k := 2) (by simp), h.rf hp (s := 5) (k := 7) (by omega) (by omega) rfl, h.rf hp (s := 2) (k := 4) (by omega) (by omega) rfl]
    by_cases c1 : mMine N m z p = 0
    · rw [if_pos c1, if_pos c1]
      exact xHwL_e h z k (p + 1) (by omega)
    rw [if_neg c1, if_neg c1]
    obtain ⟨B, hB⟩ : ∃ B : Int32, B = (if N.1 (m 9) p = 0 then (if N.1 (m 2) p = 1 then (if Op.cmpValue (FP.fcmp (N.2 (m 7) p) (FP.fmul (N.2 (m 4) p) 1061158912)) .l < 0 then (0 : Int32) else 1) else 0) else 1) := ⟨_, rfl⟩
    rw [← hB]
    have h01 : B = 0 ∨ B = 1 := by
      rw [hB]
      repeat' split
      all_goals simp
    rcases h01 with e | e
    · rw [e, if_pos rfl]
      exact xHwL_e h z k (p + 1) (by omega)
    · rw [e, if_neg (by decide), mWn_1]
theorem xFtL_e (h : Sim Z a m w kd R n M N) : ∀ (k p : Nat) (c : Int32), k + p = 16 → xFtL M (fun i => a (3 + i)) k p c = mFt N m k p c
  | 0, p, c, _ => rfl
  | k + 1, p, c, hk => by
    have hp : p < 16 := by omega
    rw [xFtL, mFt, h.rd hp (s := 9) (k := 11) (by simp), xFtL_e h k (p + 1) _ (by omega)]
    congr 1
    split
    · exact Int32.add_zero c
    · rfl
theorem xFcL_n (a : Nat → Nat) (M : pM) : ∀ (n i : Nat) (f : Int32), n + i = 4 → ∀ j, j < 32 → (bt (xFcL a M n i f) j = true ↔ bt f j = true ∨ (i ≤ j ∧ j < 4 ∧ M.1 (a (21 + j)) 1 ≠ 0) ∨ (4 + i ≤ j ∧ j < 8 ∧ xHwL M (fun i => a (3 + i)) (nI (j - 4)) 16 0 ≠ 0))
  | 0, i, f, h => by
    intro j hj
    rw [xFcL]
    exact ⟨Or.inl, fun h => by rcases h with h | h | h; exact h; omega; omega⟩
  | n + 1, i, f, h => by
    intro j hj
    have e0 : (0 : Int32) + nI i = nI i := by
      show nI 0 + nI i = nI i
      rw [nI_add, Nat.zero_add]
    have e4 : (4 : Int32) + nI i = nI (4 + i) := by
      show nI 4 + nI i = nI (4 + i)
      rw [nI_add]
    rw [xFcL, e0, e4, xFcL_n a M n (i + 1) _ (by omega) j hj]
    have hf : bt (if M.1 (a (21 + i)) 1 = 0 then f else f ||| ((1 : Int32) <<< (nI i &&& 31))) j = true ↔ bt f j = true ∨ (j = i ∧ M.1 (a (21 + i)) 1 ≠ 0) := by
      by_cases c : M.1 (a (21 + i)) 1 = 0
      · rw [if_pos c]; simp [c]
      · rw [if_neg c, bt_or1 f (by omega) hj, Bool.or_eq_true, decide_eq_true_eq]
        simp [c]
    have hg : bt (if xHwL M (fun i => a (3 + i)) (nI i) 16 0 = 0 then (if M.1 (a (21 + i)) 1 = 0 then f else f ||| ((1 : Int32) <<< (nI i &&& 31))) else (if M.1 (a (21 + i)) 1 = 0 then f else f ||| ((1 : Int32) <<< (nI i &&& 31))) ||| ((1 : Int32) <<< (nI (4 + i) &&& 31))) j = true ↔ (bt f j = true ∨ (j = i ∧ M.1 (a (21 + i)) 1 ≠ 0)) ∨ (j = 4 + i ∧ xHwL M (fun i => a (3 + i)) (nI i) 16 0 ≠ 0) := by
      by_cases c : xHwL M (fun i => a (3 + i)) (nI i) 16 0 = 0
      · rw [if_pos c, hf]; simp [c]
      · rw [if_neg c, bt_or1 _ (by omega) hj, Bool.or_eq_true, decide_eq_true_eq, hf]
        simp [c]
    rw [hg]
    constructor
    · rintro (((h1 | ⟨h1, h2⟩) | ⟨h1, h2⟩) | ⟨h1, h2, h3⟩ | ⟨h1, h2, h3⟩)
      · exact Or.inl h1
      · right; left
        rw [h1]; exact ⟨by omega, by omega, h2⟩
      · right; right
        refine ⟨by omega, by omega, ?_⟩
        rw [show j - 4 = i by omega]; exact h2
      · right; left; exact ⟨by omega, h2, h3⟩
      · right; right; exact ⟨by omega, h2, h3⟩
    · rintro (h1 | ⟨h1, h2, h3⟩ | ⟨h1, h2, h3⟩)
      · exact Or.inl (Or.inl (Or.inl h1))
      · by_cases c : j = i
        · rw [c] at h3; exact Or.inl (Or.inl (Or.inr ⟨c, h3⟩))
        · exact Or.inr (Or.inl ⟨by omega, h2, h3⟩)
      · by_cases c : j = 4 + i
        · rw [show j - 4 = i by omega] at h3
          exact Or.inl (Or.inr ⟨c, h3⟩)
        · exact Or.inr (Or.inr ⟨by omega, h2, h3⟩)
theorem bt_256 : ∀ j, j < 32 → bt 256 j = decide (j = 8) := by decide
/-- bit v of the facts -/
theorem Sim.fact (h : Sim Z a m w kd R n M N) {v : Nat} (hv : v ≤ 8) : bt (xFacts a M) v = true ↔ mFact N m (nI v) ≠ 0 := by
  unfold xFacts mFact
  rw [xFcL_n a M 4 0 _ (by omega) v (by omega), xFtL_e h 16 0 0 (by omega)]
  have b0 : bt (if mFt N m 16 0 0 ≤ 0 then (0 : Int32) else 256) v = true ↔ v = 8 ∧ ¬ mFt N m 16 0 0 ≤ 0 := by
    by_cases c : mFt N m 16 0 0 ≤ 0
    · rw [if_pos c, b_0]; simp [c]
    · rw [if_neg c, bt_256 v (by omega)]; simp [c]
  rw [b0]
  by_cases c8 : v = 8
  · subst c8
    rw [if_pos (show nI 8 = 8 from rfl)]
    by_cases c : mFt N m 16 0 0 ≤ 0
    · rw [if_pos c]
      simp [c]
    · rw [if_neg c]
      simp [c]
  · have n8 : ¬ nI v = 8 := fun e => c8 ((nI_eq (a := v) (b := 8) (by omega) (by omega)).mp e)
    rw [if_neg n8]
    by_cases c4 : 4 ≤ v
    · rw [if_pos (show (4 : Int32) ≤ nI v from nI_le (a := 4) c4 (by omega))]
      have e4 : nI v - 4 = nI (v - 4) := pk_sub (a := v) (b := 4) c4
      rw [e4, ← xHwL_e h _ 16 0 (by omega)]
      constructor
      · rintro (⟨q, -⟩ | ⟨q1, q2, -⟩ | ⟨q1, q2, q3⟩)
        · exact absurd q c8
        · omega
        · exact q3
      · exact fun q => Or.inr (Or.inr ⟨by omega, by omega, q⟩)
    · rw [if_neg (show ¬ (4 : Int32) ≤ nI v from nI_ge (b := 4) (by omega) (by omega)), nI_clamp (by omega), ← h.zn (z := v) (by omega) (s := 1) (k := 15) (by simp)]
      constructor
      · rintro (⟨q, -⟩ | ⟨q1, q2, q3⟩ | ⟨q1, q2, -⟩)
        · exact absurd q c8
        · exact q3
        · omega
      · exact fun q => Or.inr (Or.inl ⟨by omega, by omega, q⟩)
/-! a rule's words -/
theorem wk_a (t : Int32) : (t >>> ((1 : Int32) &&& 31)) &&& (-2 ||| (t &&& 1)) = ((t >>> ((2 : Int32) &&& 31)) <<< ((1 : Int32) &&& 31)) ||| ((t &&& 1) &&& ((t >>> ((1 : Int32) &&& 31)) &&& 1)) := by
  apply b_ext
  intro i hi
  have s1 : ∀ i, i < 32 → bt (t >>> ((1 : Int32) &&& 31)) i = if 1 + i < 32 then bt t (1 + i) else bt t 31 := fun i hi => b_sshr 1 (by omega) t hi
  have s2 : ∀ i, i < 32 → bt (t >>> ((2 : Int32) &&& 31)) i = if 2 + i < 32 then bt t (2 + i) else bt t 31 := fun i hi => b_sshr 2 (by omega) t hi
  have l1 : bt ((t >>> ((2 : Int32) &&& 31)) <<< ((1 : Int32) &&& 31)) i = (decide (1 ≤ i) && bt (t >>> ((2 : Int32) &&& 31)) (i - 1)) := b_shl 1 (by omega) _ hi
  have m2 : ∀ i, i < 32 → bt (-2) i = decide (i ≠ 0) := by decide
  rw [b_and, b_or, b_and, b_or, b_and, b_and, b_and, l1, s1 i hi, s2 (i - 1) (by omega), m2 i hi, bt_one i hi]
  by_cases c : i = 0
  · subst c
    simp [Bool.and_comm]
  · have e : 2 + (i - 1) = 1 + i := by omega
    rw [e]
    simp [c]; omega
theorem wk_o (t : Int32) : (t >>> ((1 : Int32) &&& 31)) ||| (t &&& 1) = ((t >>> ((2 : Int32) &&& 31)) <<< ((1 : Int32) &&& 31)) ||| ((t &&& 1) ||| ((t >>> ((1 : Int32) &&& 31)) &&& 1)) := by
  apply b_ext
  intro i hi
  have s1 : ∀ i, i < 32 → bt (t >>> ((1 : Int32) &&& 31)) i = if 1 + i < 32 then bt t (1 + i) else bt t 31 := fun i hi => b_sshr 1 (by omega) t hi
  have s2 : ∀ i, i < 32 → bt (t >>> ((2 : Int32) &&& 31)) i = if 2 + i < 32 then bt t (2 + i) else bt t 31 := fun i hi => b_sshr 2 (by omega) t hi
  have l1 : bt ((t >>> ((2 : Int32) &&& 31)) <<< ((1 : Int32) &&& 31)) i = (decide (1 ≤ i) && bt (t >>> ((2 : Int32) &&& 31)) (i - 1)) := b_shl 1 (by omega) _ hi
  rw [b_or, b_and, b_or, b_or, b_and, b_and, l1, s1 i hi, s2 (i - 1) (by omega), bt_one i hi]
  by_cases c : i = 0
  · subst c
    simp [Bool.or_comm]
  · have e : 2 + (i - 1) = 1 + i := by omega
    rw [e]
    have c1 : 1 ≤ i := by omega
    simp [c, c1]
theorem xWork_e {N : pM} {m : Nat → Nat} {f : Int32} (hf : ∀ v, v ≤ 8 → (bt f v = true ↔ mFact N m (nI v) ≠ 0)) {v : Nat} (hv : v ≤ 11) (t : Int32) : xWork (nI v) t f = mWork N m (nI v) t := by
  unfold xWork mWork
  by_cases c8 : v ≤ 8
  · rw [if_neg (show ¬ (8 : Int32) < nI v from nI_nlt (a := 8) (by omega) (by omega)),
      if_neg (show ¬ nI v = (9 : Int32) from fun e => absurd ((nI_eq (a := v) (b := 9) (by omega) (by omega)).mp e) (by omega)), if_neg (show ¬ nI v = (10 : Int32) from fun e => absurd ((nI_eq (a := v) (b := 10) (by omega) (by omega)).mp e) (by omega)), if_neg (show ¬ nI v = (11 : Int32) from fun e => absurd ((nI_eq (a := v) (b := 11) (by omega) (by omega)).mp e) (by omega))]
    rw [bt_rd f (by omega)]
    congr 1
    have := hf v c8
    by_cases c : mFact N m (nI v) = 0
    · rw [if_pos c, if_neg (fun e => this.mp e c)]
    · rw [if_neg c, if_pos (this.mpr c)]
  · rw [if_pos (show (8 : Int32) < nI v from nI_lt (a := 8) (by omega) (by omega))]
    have : v = 9 ∨ v = 10 ∨ v = 11 := by omega
    rcases this with rfl | rfl | rfl
    · rw [if_pos (show nI 9 = (9 : Int32) from rfl), if_pos (show nI 9 = (9 : Int32) from rfl)]
    · rw [if_neg (show ¬ nI 10 = (9 : Int32) by decide), if_pos (show nI 10 = (10 : Int32) from rfl), if_neg (show ¬ nI 10 = (9 : Int32) by decide), if_pos (show nI 10 = (10 : Int32) from rfl)]
      exact wk_a t
    · rw [if_neg (show ¬ nI 11 = (9 : Int32) by decide), if_neg (show ¬ nI 11 = (10 : Int32) by decide), if_pos (show nI 11 = (11 : Int32) from rfl), if_neg (show ¬ nI 11 = (9 : Int32) by decide), if_neg (show ¬ nI 11 = (10 : Int32) by decide)]
      exact wk_o t
theorem xTr_e {N : pM} {m : Nat → Nat} {f : Int32} (hf : ∀ v, v ≤ 8 → (bt f v = true ↔ mFact N m (nI v) ≠ 0)) {st : Nat → Int32} {L r : Nat} (hL : L ≤ 20) (hN : N.1 (m 18) r = nI L) (hs : ∀ k, k < L → ∃ v : Nat, v ≤ 11 ∧ st k = nI v ∧ N.1 (m 17) (20 * r + k) = nI v) : ∀ (k j : Nat) (t : Int32), k + j ≤ 100 → xTr st (nI L) f k j t = mHoL N m r k j t
  | 0, j, t, _ => rfl
  | k + 1, j, t, hk => by
    rw [xTr, mHoL, hN]
    by_cases c : L ≤ j
    · rw [if_pos (nI_le c (by omega)), if_pos (nI_le c (by omega))]
    · rw [if_neg (nI_ge (by omega) (by omega)), if_neg (nI_ge (by omega) (by omega)), if_neg (show ¬ (20 : Int32) ≤ nI j from nI_ge (b := 20) (by omega) (by omega))]
      obtain ⟨v, hv, e1, e2⟩ := hs j (by omega)
      rw [e1, e2, xWork_e hf hv]
      exact xTr_e hf hL hN hs k (j + 1) _ (by omega)
theorem and1 (x : Int32) : x &&& 1 = 0 ∨ x &&& 1 = 1 := by
  have h : x &&& 1 = if bt x 0 = true then 1 else 0 := by
    apply b_ext
    intro i hi
    rw [b_and, bt_one i hi]
    by_cases c : i = 0
    · subst c
      cases bt x 0 <;> simp [b_0, bt_one]
    · have : bt (if bt x 0 = true then (1 : Int32) else 0) i = false := by
        split
        · rw [bt_one i hi]; simp [c]
        · exact b_0 i
      rw [this]; simp [c]
  rw [h]
  split <;> simp
theorem Sim.holds (h : Sim Z a m w kd R n M N) {f : Int32} (hf : ∀ v, v ≤ 8 → (bt f v = true ↔ mFact N m (nI v) ≠ 0)) {r : Nat} (hr : r < R) : xTrue M (a (26 + r)) (a (32 + r)) f = mHolds N m r := by
  obtain ⟨⟨L, hL, e1, e2, hs⟩, -⟩ := h.2.2.1.2.2 r hr
  unfold xTrue mHolds
  rw [e1, xTr_e hf hL e2 hs 21 0 0 (by omega)]
  rcases and1 (mHoL N m r 21 0 0) with e | e
  · rw [e]; rfl
  · rw [e]; rfl
/-! held, outputs -/
theorem sT_row {r s : Nat} (hr : r < 6) : sT (26 + r) s = none ∧ sT (32 + r) s = none := by
  constructor
  · unfold sT
    repeat rw [if_neg (by omega)]
  · unfold sT
    repeat rw [if_neg (by omega)]
theorem Sim.held (A : sAd a m) (h : Sim Z a m w kd R n M N) {r : Nat} (hr : r < 6) (v : Int32) : Sim Z a m w kd R n (pI M (a (26 + r)) 4 v) (pI N (m 21) r v) := by
  obtain ⟨h1, h2, h3, h4, h5, h6, h7, h8⟩ := h
  have nk : ∀ j, j < 34 → j ≠ 21 → (pI N (m 21) r v).1 (m j) = N.1 (m j) := fun j hj hne => pI_1n _ _ _ (A.nm hj (by omega) hne)
  have na : ∀ j, j < 43 → j ≠ 26 + r → (pI M (a (26 + r)) 4 v).1 (a j) = M.1 (a j) := fun j hj hne => pI_1n _ _ _ (A.na hj (by omega) hne)
  refine ⟨simI_m A (simI_x A h1 (by omega) (sT_row hr).1 v) (by omega) (sT_own (by omega)) v, h2, ⟨h3.1, ?_, fun r' hr' => ?_⟩, ⟨h4.1, ?_, fun j hj => ?_⟩, ?_, fun p hp => ?_, ⟨fun k' hk' => ?_, fun p hp => ?_⟩, h8⟩
  · rw [na 0 (by omega) (by omega)]; exact h3.2.1
  · have hR := h3.1
    have q := h3.2.2 r' hr'
    unfold sRow at q ⊢
    rw [nk 17 (by omega) (by omega), nk 18 (by omega) (by omega), nk 19 (by omega) (by omega), nk 20 (by omega) (by omega), na (32 + r') (by omega) (by omega)]
    by_cases e : r' = r
    · subst e
      rw [pI_diff _ _ _ (show 1 ≠ 4 by omega), pI_diff _ _ _ (show 2 ≠ 4 by omega), pI_diff _ _ _ (show 3 ≠ 4 by omega), pI_same, pI_same]
      exact ⟨q.1, q.2.1, q.2.2.1, rfl⟩
    · rw [na (26 + r') (by omega) (by omega), pI_diff _ _ _ e]
      exact q
  · rw [na 39 (by omega) (by omega)]; exact h4.2.1
  · rw [na 40 (by omega) (by omega), nk 24 (by omega) (by omega)]; exact h4.2.2 j hj
  · unfold sEnt
    rw [na 41 (by omega) (by omega)]; exact h5
  · rw [na _ (by omega) (by omega)]; exact h6 p hp
  · rw [na 19 (by omega) (by omega)]; exact h7.1 k' hk'
  · rw [na _ (by omega) (by omega)]; exact h7.2 p hp
theorem mFt_cg {N N' : pM} (h : N'.1 (m 11) = N.1 (m 11)) : ∀ (k p : Nat) (c : Int32), mFt N' m k p c = mFt N m k p c
  | 0, p, c => rfl
  | k + 1, p, c => by
    rw [mFt, mFt, h, mFt_cg h k]
theorem mWn_cg {N N' : pM} (h2 : N'.1 (m 2) = N.1 (m 2)) (h3 : N'.1 (m 3) = N.1 (m 3)) (h9 : N'.1 (m 9) = N.1 (m 9)) (h12 : N'.1 (m 12) = N.1 (m 12)) (hf : N'.2 = N.2) (z : Int32) : ∀ (k p : Nat) (c : Int32), mWn N' m z k p c = mWn N m z k p c
  | 0, p, c => rfl
  | k + 1, p, c => by
    have : mWn1 N' m z p c = mWn1 N m z p c := by
      unfold mWn1 mMine mSens
      rw [h2, h3, h9, h12, hf]
    rw [mWn, mWn, this, mWn_cg h2 h3 h9 h12 hf z k]
theorem mFact_cg (A : sAd a m) (N : pM) (r : Nat) (v x : Int32) : mFact (pI N (m 21) r v) m x = mFact N m x := by
  have nk : ∀ j, j < 34 → j ≠ 21 → (pI N (m 21) r v).1 (m j) = N.1 (m j) := fun j hj hne => pI_1n _ _ _ (A.nm hj (by omega) hne)
  unfold mFact
  rw [mFt_cg (nk 11 (by omega) (by omega)), mWn_cg (nk 2 (by omega) (by omega)) (nk 3 (by omega) (by omega)) (nk 9 (by omega) (by omega)) (nk 12 (by omega) (by omega)) rfl, nk 15 (by omega) (by omega)]
theorem Sim.fo (A : sAd a m) {f : Int32} (k : Nat) : ∀ (i : Nat) (M N : pM), k + i = 7 → Sim Z a m w kd R n M N → (∀ v, v ≤ 8 → (bt f v = true ↔ mFact N m (nI v) ≠ 0)) → Sim Z a m w kd R n (xFo a f k i M) (mDh m k i N) := by
  induction k with
  | zero => exact fun i M N _ h _ => h
  | succ k ih =>
    intro i M N hk h hf
    have hR := h.2.2.1.1
    rw [xFo, mDh, ← h.pf (s := 6) (k := 16) (by simp), h.2.2.1.2.1]
    by_cases c : R ≤ i
    · rw [if_pos (nI_le c (by omega)), if_pos (nI_le c (by omega))]
      exact h
    · rw [if_neg (nI_ge (by omega) (by omega)), if_neg (nI_ge (by omega) (by omega)), if_neg (show ¬ (6 : Int32) ≤ nI i from nI_ge (b := 6) (by omega) (by omega))]
      have hh := h.holds hf (r := i) (by omega)
      have he : xFo1 a f M i = pI M (a (26 + i)) 4 (if mHolds N m i = 0 then 0 else N.1 (m 21) i + 1) := by
        unfold xFo1
        rw [hh, (h.2.2.1.2.2 i (by omega)).2.2.2]
        by_cases c2 : mHolds N m i = 0
        · rw [if_pos c2, if_pos c2]
        · rw [if_neg c2, if_neg c2]
      rw [he]
      unfold mDh1
      refine ih (i + 1) _ _ (by omega) (Sim.held A h (by omega) _) (fun v hv => ?_)
      rw [mFact_cg A]
      exact hf v hv
theorem mDv_1 (N : pM) (m : Nat → Nat) (q : Int32) : ∀ (k r : Nat), mDv N m q k r 1 = 1
  | 0, r => rfl
  | k + 1, r => by
    rw [mDv, if_neg (show ¬ (1 : Int32) = 0 by decide), mDv_1 N m q k]
    split <;> rfl
theorem Sim.dv (h : Sim Z a m w kd R n M N) (q : Int32) : ∀ (k i : Nat), k + i = 7 → xDvL a M q k i = mDv N m q k i 0
  | 0, i, _ => rfl
  | k + 1, i, hk => by
    have hR := h.2.2.1.1
    rw [xDvL, mDv, ← h.pf (s := 6) (k := 16) (by simp), h.2.2.1.2.1]
    by_cases c : R ≤ i
    · rw [if_pos (nI_le c (by omega)), if_pos (nI_le c (by omega))]
    · rw [if_neg (nI_ge (by omega) (by omega)), if_neg (nI_ge (by omega) (by omega)), if_neg (show ¬ (6 : Int32) ≤ nI i from nI_ge (b := 6) (by omega) (by omega)), if_pos rfl]
      obtain ⟨-, e2, e3, e4⟩ := h.2.2.1.2.2 i (by omega)
      rw [e2, e3, e4]
      by_cases c2 : N.1 (m 19) i = q
      · rw [if_pos c2, if_pos c2]
        by_cases c3 : N.1 (m 21) i ≤ N.1 (m 20) i
        · rw [if_pos c3, if_pos c3]
          exact Sim.dv h q k (i + 1) (by omega)
        · rw [if_neg c3, if_neg c3, mDv_1]
      · rw [if_neg c2, if_neg c2]
        exact Sim.dv h q k (i + 1) (by omega)
theorem Sim.dr (A : sAd a m) (h : Sim Z a m w kd R n M N) {i : Nat} (hi : i < 6) : Sim Z a m w kd R n (xDr1 a M i) (mDr1 N m i) := by
  unfold xDr1 mDr1
  rw [h.dv (nI i) 7 0 (by omega), h.ou hi]
  have P : ∀ (M N : pM) (v : Int32), Sim Z a m w kd R n M N → Sim Z a m w kd R n (pI M (a 38) i v) (pI N (m 22) i v) := fun M N v h => Sim.put A h (sT_ou hi) (by omega) v
  by_cases c : mDv N m (nI i) 7 0 0 = 0
  · rw [if_pos c, if_pos c]; exact P _ _ _ h
  rw [if_neg c, if_neg c]
  by_cases c2 : N.1 (m 22) i = 0
  · rw [if_pos c2, if_pos c2]
    exact P _ _ _ (Sim.note A h _ _ (h.pf (by simp)))
  · rw [if_neg c2, if_neg c2]; exact P _ _ _ h
theorem Sim.drN (A : sAd a m) (h : Sim Z a m w kd R n M N) : ∀ i, i ≤ 6 → Sim Z a m w kd R n (xDrN a i M) (mDr m i N)
  | 0, _ => h
  | i + 1, hi => by
    rw [xDrN, mDr]
    exact Sim.dr A (Sim.drN A h i (by omega)) (by omega)
theorem Sim.p2 (A : sAd a m) (H : sZ Z) (h : Sim Z a m w kd R n M N) : (xWzN a 4 (xP1 a M)).1 = (mP2 N m).1 ∧ Sim Z a m w kd R n (xP2 a M) (mP2 N m).2 := by
  unfold xP2 mP2
  exact Sim.wzN A (Sim.p1 A H h) 4 (by omega)
theorem Sim.poll (A : sAd a m) (H : sZ Z) (h : Sim Z a m w kd R n M N) : (xWzN a 4 (xP1 a M)).1 = (mPoll N m).1 ∧ Sim Z a m w kd R n (xPoll a M) (mPoll N m).2 := by
  obtain ⟨e1, e2⟩ := Sim.p2 A H h
  unfold xPoll xP3 mPoll mDrive
  generalize xWzN a 4 (xP1 a M) = B at e1 ⊢
  generalize xP2 a M = M2 at e2 ⊢
  generalize mP2 N m = N2 at e1 e2 ⊢
  have k1 := Sim.fo (f := xFacts a M2) A 7 0 _ _ (by omega) e2 (fun v hv => e2.fact hv)
  generalize xFo a (xFacts a M2) 7 0 M2 = M3 at k1 ⊢
  generalize mDh m 7 0 N2.2 = N3 at k1 ⊢
  have k2 := Sim.drN A k1 6 (by omega)
  generalize xDrN a 6 M3 = M4 at k2 ⊢
  generalize mDr m 6 N3 = N4 at k2 ⊢
  exact ⟨e1, k2⟩
end SIM5
