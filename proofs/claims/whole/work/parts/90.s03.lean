section SIM3
theorem ge16 {k : Nat} (h : k < 16) : ¬ (16 : Int32) ≤ nI k := nI_ge (b := 16) h (by omega)
theorem bt_one : ∀ i, i < 32 → bt 1 i = decide (i = 0) := by decide
theorem bt_rd (x : Int32) {w : Nat} (hw : w < 32) : (x >>> (nI w &&& 31)) &&& 1 = if bt x w = true then 1 else 0 := by
  apply b_ext
  intro i hi
  rw [b_and, b_sshr w hw x hi, bt_one i hi]
  by_cases h0 : i = 0
  · subst h0
    rw [if_pos (by omega), Nat.add_zero]
    cases bt x w <;> simp [b_0, bt_one]
  · have : bt (if bt x w = true then (1 : Int32) else 0) i = false := by
      split
      · rw [bt_one i hi]; simp [h0]
      · exact b_0 i
    rw [this]; simp [h0]
theorem bt_z (x : Int32) {w : Nat} (hw : w < 32) : (x >>> (nI w &&& 31)) &&& 1 = 0 ↔ bt x w = false := by
  rw [bt_rd x hw]
  cases bt x w <;> simp
theorem bt_or1 (x : Int32) {k i : Nat} (hk : k < 32) (hi : i < 32) : bt (x ||| ((1 : Int32) <<< (nI k &&& 31))) i = (bt x i || decide (i = k)) := by
  rw [b_or, b_shl k hk 1 hi, bt_one (i - k) (by omega)]
  congr 1
  by_cases h : i = k
  · subst h; simp
  · by_cases h2 : k ≤ i
    · have : ¬ i - k = 0 := by omega
      simp [h, h2, this]
    · simp [h, h2]
def rB (kd : Nat → Int32) (i j : Nat) : Prop := ∀ q, i ≤ q → q < j → kd q ≠ 4
def rSh (w kd : Nat → Int32) (k : Nat) : Prop := ∃ i, i < 17 ∧ w i = 2 ∧ rB kd (min i k) (max i k)
def rGo (w kd : Nat → Int32) (k : Nat) : Prop := w k ≠ 1 ∧ ¬ rSh w kd k
def rRe (w kd : Nat → Int32) (p : Nat) : Prop := (∀ k, k ≤ p → rGo w kd k) ∨ (∀ k, p < k → k < 17 → rGo w kd k)
theorem rB_cg {kd kd' : Nat → Int32} (h : ∀ p, p < 16 → kd p = kd' p) {i j : Nat} (hj : j ≤ 16) (g : rB kd i j) : rB kd' i j := fun q h1 h2 => by
  rw [← h q (by omega)]; exact g q h1 h2
theorem rSh_cg {w w' kd kd' : Nat → Int32} (hw : ∀ k, k < 17 → w k = w' k) (h : ∀ p, p < 16 → kd p = kd' p) {k : Nat} (hk : k < 17) (g : rSh w kd k) : rSh w' kd' k := by
  obtain ⟨i, hi, h2, h3⟩ := g
  exact ⟨i, hi, by rw [← hw i hi]; exact h2, rB_cg h (by omega) h3⟩
theorem rGo_cg {w w' kd kd' : Nat → Int32} (hw : ∀ k, k < 17 → w k = w' k) (h : ∀ p, p < 16 → kd p = kd' p) {k : Nat} (hk : k < 17) (g : rGo w kd k) : rGo w' kd' k := by
  refine ⟨by rw [← hw k hk]; exact g.1, fun s => g.2 (rSh_cg (fun k hk => (hw k hk).symm) (fun p hp => (h p hp).symm) hk s)⟩
theorem rRe_cg {w w' kd kd' : Nat → Int32} (hw : ∀ k, k < 17 → w k = w' k) (h : ∀ p, p < 16 → kd p = kd' p) {p : Nat} (hp : p < 16) (g : rRe w kd p) : rRe w' kd' p := by
  rcases g with g | g
  · left; exact fun k hk => rGo_cg hw h (by omega) (g k hk)
  · right; exact fun k hk hk2 => rGo_cg hw h hk2 (g k hk hk2)
theorem rRe_iff {w w' kd kd' : Nat → Int32} (hw : ∀ k, k < 17 → w k = w' k) (h : ∀ p, p < 16 → kd p = kd' p) {p : Nat} (hp : p < 16) : rRe w kd p ↔ rRe w' kd' p :=
  ⟨rRe_cg hw h hp, rRe_cg (fun k hk => (hw k hk).symm) (fun p hp => (h p hp).symm) hp⟩
/-! the reference -/
variable {N : pM} {m : Nat → Nat}
theorem mOr_n (s w : Int32) : mOr s w ≠ 0 ↔ s ≠ 0 ∨ w = 2 := by
  unfold mOr
  by_cases h : s = 0
  · subst h
    by_cases h2 : w = 2 <;> simp [h2]
  · simp [h]
theorem mSL_n (N : pM) (m : Nat → Nat) : ∀ (k : Nat) (s : Int32), mSL N m k s ≠ 0 ↔ s ≠ 0 ∨ ∃ i, i < k ∧ N.1 (m 1) i = 2 ∧ rB (N.1 (m 2)) i k
  | 0, s => by
    rw [mSL]
    constructor
    · exact fun h => Or.inl h
    · rintro (h | ⟨i, h, -⟩)
      · exact h
      · omega
  | k + 1, s => by
    rw [mSL]
    split
    · rename_i c
      constructor
      · exact fun h => Or.inl h
      · rintro (h | ⟨i, h, -, h3⟩)
        · exact h
        · exact absurd c (h3 k (by omega) (by omega))
    · rename_i c
      rw [mSL_n N m k, mOr_n]
      constructor
      · rintro ((h | h) | ⟨i, h1, h2, h3⟩)
        · exact Or.inl h
        · exact Or.inr ⟨k, by omega, h, fun q q1 q2 => by rw [show q = k by omega]; exact c⟩
        · refine Or.inr ⟨i, by omega, h2, fun q q1 q2 => ?_⟩
          by_cases hq : q = k
          · rw [hq]; exact c
          · exact h3 q q1 (by omega)
      · rintro (h | ⟨i, h1, h2, h3⟩)
        · exact Or.inl (Or.inl h)
        · by_cases hi : i = k
          · subst hi; exact Or.inl (Or.inr h2)
          · exact Or.inr ⟨i, by omega, h2, fun q q1 q2 => h3 q q1 (by omega)⟩
theorem mSR_n (N : pM) (m : Nat → Nat) : ∀ (n k : Nat) (s : Int32), n + k = 17 → (mSR N m n k s ≠ 0 ↔ s ≠ 0 ∨ ∃ i, k < i ∧ i < 17 ∧ N.1 (m 1) i = 2 ∧ rB (N.1 (m 2)) k i)
  | 0, k, s, h => by
    rw [mSR]
    constructor
    · exact fun h => Or.inl h
    · rintro (h | ⟨i, h1, h2, -⟩)
      · exact h
      · omega
  | n + 1, k, s, hnk => by
    rw [mSR]
    by_cases h16 : k = 16
    · subst h16
      rw [if_pos (show (16 : Int32) ≤ nI 16 by decide)]
      constructor
      · exact fun h => Or.inl h
      · rintro (h | ⟨i, h1, h2, -⟩)
        · exact h
        · omega
    rw [if_neg (ge16 (by omega))]
    split
    · rename_i c
      constructor
      · exact fun h => Or.inl h
      · rintro (h | ⟨i, h, h', -, h3⟩)
        · exact h
        · exact absurd c (h3 k (by omega) (by omega))
    · rename_i c
      rw [mSR_n N m n (k + 1) _ (by omega), mOr_n]
      constructor
      · rintro ((h | h) | ⟨i, h1, h1', h2, h3⟩)
        · exact Or.inl h
        · exact Or.inr ⟨k + 1, by omega, by omega, h, fun q q1 q2 => by rw [show q = k by omega]; exact c⟩
        · refine Or.inr ⟨i, by omega, h1', h2, fun q q1 q2 => ?_⟩
          by_cases hq : q = k
          · rw [hq]; exact c
          · exact h3 q (by omega) q2
      · rintro (h | ⟨i, h1, h1', h2, h3⟩)
        · exact Or.inl (Or.inl h)
        · by_cases hi : i = k + 1
          · subst hi; exact Or.inl (Or.inr h2)
          · exact Or.inr ⟨i, by omega, h1', h2, fun q q1 q2 => h3 q (by omega) q2⟩
theorem mSS_n (N : pM) (m : Nat → Nat) {k : Nat} (hk : k < 17) : mSS N m k ≠ 0 ↔ rSh (N.1 (m 1)) (N.1 (m 2)) k := by
  unfold mSS
  rw [mSR_n N m _ _ _ (by omega), mSL_n]
  constructor
  · rintro ((h | ⟨i, h1, h2, h3⟩) | ⟨i, h1, h1', h2, h3⟩)
    · have h2 : N.1 (m 1) k = 2 := by
        by_cases c : N.1 (m 1) k = 2
        · exact c
        · rw [if_neg c] at h; exact absurd rfl h
      exact ⟨k, hk, h2, fun q q1 q2 => by omega⟩
    · exact ⟨i, by omega, h2, by rw [Nat.min_eq_left (by omega), Nat.max_eq_right (by omega)]; exact h3⟩
    · exact ⟨i, h1', h2, by rw [Nat.min_eq_right (by omega), Nat.max_eq_left (by omega)]; exact h3⟩
  · rintro ⟨i, h1, h2, h3⟩
    by_cases c : i = k
    · subst c
      left; left
      rw [if_pos h2]; decide
    · by_cases c2 : i < k
      · rw [Nat.min_eq_left (by omega), Nat.max_eq_right (by omega)] at h3
        exact Or.inl (Or.inr ⟨i, c2, h2, h3⟩)
      · rw [Nat.min_eq_right (by omega), Nat.max_eq_left (by omega)] at h3
        exact Or.inr ⟨i, by omega, h1, h2, h3⟩
theorem mGo_n (N : pM) (m : Nat → Nat) {k : Nat} (hk : k < 17) : mGo N m k ≠ 0 ↔ rGo (N.1 (m 1)) (N.1 (m 2)) k := by
  unfold mGo rGo
  rw [← mSS_n N m hk]
  by_cases c : N.1 (m 1) k = 1
  · rw [if_pos c]; simp [c]
  · rw [if_neg c]
    by_cases c2 : mSS N m k = 0
    · rw [if_pos c2]; simp [c, c2]
    · rw [if_neg c2]; simp [c2]
theorem mAnd_n (l g : Int32) : mAnd l g ≠ 0 ↔ l ≠ 0 ∧ g ≠ 0 := by
  unfold mAnd
  by_cases c : l = 0
  · simp [c]
  · by_cases c2 : g = 0
    · simp [c2]
    · simp [c, c2]
theorem mRL_n (N : pM) (m : Nat → Nat) {p : Nat} (hp : p < 16) : ∀ (n k : Nat) (l : Int32), n + k = p + 2 → (mRL N m p n k l ≠ 0 ↔ l ≠ 0 ∧ ∀ j, k ≤ j → j ≤ p → rGo (N.1 (m 1)) (N.1 (m 2)) j)
  | 0, k, l, h => by
    rw [mRL]
    exact ⟨fun h => ⟨h, fun j h1 h2 => by omega⟩, fun h => h.1⟩
  | n + 1, k, l, h => by
    rw [mRL]
    by_cases c : p < k
    · rw [if_pos (nI_lt c (by omega))]
      exact ⟨fun h => ⟨h, fun j h1 h2 => by omega⟩, fun h => h.1⟩
    · rw [if_neg (nI_nlt (by omega) (by omega)), mRL_n N m hp n (k + 1) _ (by omega), mAnd_n, mGo_n N m (by omega)]
      constructor
      · rintro ⟨⟨h1, h2⟩, h3⟩
        refine ⟨h1, fun j j1 j2 => ?_⟩
        by_cases e : j = k
        · rw [e]; exact h2
        · exact h3 j (by omega) j2
      · rintro ⟨h1, h2⟩
        exact ⟨⟨h1, h2 k (by omega) (by omega)⟩, fun j j1 j2 => h2 j (by omega) j2⟩
theorem mRR_n (N : pM) (m : Nat → Nat) : ∀ (n k : Nat) (l : Int32), n + k = 17 → (mRR N m n k l ≠ 0 ↔ l ≠ 0 ∧ ∀ j, k ≤ j → j < 17 → rGo (N.1 (m 1)) (N.1 (m 2)) j)
  | 0, k, l, h => by
    rw [mRR]
    exact ⟨fun h => ⟨h, fun j h1 h2 => by omega⟩, fun h => h.1⟩
  | n + 1, k, l, h => by
    rw [mRR, mRR_n N m n (k + 1) _ (by omega), mAnd_n, mGo_n N m (by omega)]
    constructor
    · rintro ⟨⟨h1, h2⟩, h3⟩
      refine ⟨h1, fun j j1 j2 => ?_⟩
      by_cases e : j = k
      · rw [e]; exact h2
      · exact h3 j (by omega) j2
    · rintro ⟨h1, h2⟩
      exact ⟨⟨h1, h2 k (by omega) (by omega)⟩, fun j j1 j2 => h2 j (by omega) j2⟩
theorem mReach_n (N : pM) (m : Nat → Nat) {p : Nat} (hp : p < 16) : mReach N m p ≠ 0 ↔ rRe (N.1 (m 1)) (N.1 (m 2)) p := by
  unfold mReach rRe
  have h1 := mRL_n N m hp (p + 2) 0 1 (by omega)
  have h2 := mRR_n N m (17 - (p + 1)) (p + 1) 1 (by omega)
  by_cases c : mRL N m p (p + 2) 0 1 = 0
  · rw [if_pos c]
    by_cases c2 : mRR N m (17 - (p + 1)) (p + 1) 1 = 0
    · rw [if_pos c2]
      constructor
      · exact fun h => absurd rfl h
      · rintro (h | h)
        · exact absurd c (h1.mpr ⟨by decide, fun j _ j2 => h j j2⟩)
        · exact absurd c2 (h2.mpr ⟨by decide, fun j j1 j2 => h j (by omega) j2⟩)
    · rw [if_neg c2]
      refine ⟨fun _ => Or.inr fun k k1 k2 => (h2.mp c2).2 k (by omega) k2, fun _ => by decide⟩
  · rw [if_neg c]
    exact ⟨fun _ => Or.inl fun k k1 => (h1.mp c).2 k (by omega) k1, fun _ => by decide⟩
theorem mReach_01 (N : pM) (m : Nat → Nat) (p : Nat) : mReach N m p = 0 ∨ mReach N m p = 1 := by
  unfold mReach
  repeat' split
  all_goals simp
/-! the class -/
theorem rSt {w kd : Nat → Int32} {lo k i : Nat} (h1 : lo ≤ i) (h2 : i ≤ k) (hk : k ≤ 16) (hb : rB kd lo k) (hl : lo = 0 ∨ kd (lo - 1) = 4) (hh : k = 16 ∨ kd k = 4) : rSh w kd i ↔ ∃ j, lo ≤ j ∧ j ≤ k ∧ w j = 2 := by
  constructor
  · rintro ⟨j, j1, j2, j3⟩
    refine ⟨j, ?_, ?_, j2⟩
    · by_cases c : lo ≤ j
      · exact c
      · rcases hl with e | e
        · omega
        · exact absurd e (j3 (lo - 1) (by omega) (by omega))
    · by_cases c : j ≤ k
      · exact c
      · rcases hh with e | e
        · omega
        · exact absurd e (j3 k (by omega) (by omega))
  · rintro ⟨j, j1, j2, j3⟩
    exact ⟨j, by omega, j3, fun q q1 q2 => hb q (by omega) (by omega)⟩
theorem xPW_n {M : pM} {pl : Nat → Nat} {wa : Nat} {w kd : Nat → Int32} (hw : ∀ k, k < 17 → M.1 wa k = w k ∧ (w k = 0 ∨ w k = 1 ∨ w k = 2)) (hkd : ∀ p, p < 16 → M.1 (pl p) 0 = kd p) : ∀ (n k lo : Nat) (p s d : Int32), n + k = 17 → lo ≤ k → (k = 17 → lo = 17) → rB kd lo k → (lo = 0 ∨ kd (lo - 1) = 4 ∨ lo = 17) →
    (∀ i, i < 32 → (bt s i = true ↔ lo ≤ i ∧ i < k ∧ w i = 0)) → (d ≠ 0 ↔ ∃ i, lo ≤ i ∧ i < k ∧ w i = 2) → (∀ i, i < 32 → (bt p i = true ↔ i < lo ∧ rGo w kd i)) → ∀ i, i < 32 → (bt (xPW M pl wa n k p s d) i = true ↔ i < 17 ∧ rGo w kd i)
  | 0, k, lo, p, s, d, hn, hlo, h17, hb, hl, hs, hd, hp => by
    intro i hi
    rw [xPW, hp i hi, h17 (by omega)]
  | n + 1, k, lo, p, s, d, hn, hlo, h17, hb, hl, hs, hd, hp => by
    intro i hi
    rw [xPW]
    have hk : k < 17 := by omega
    have s1 : ∀ i, i < 32 → (bt (xS1 M wa k s) i = true ↔ lo ≤ i ∧ i < k + 1 ∧ w i = 0) := by
      intro i hi
      unfold xS1
      rw [(hw k hk).1]
      by_cases c : w k = 0
      · rw [if_pos c, bt_or1 s (by omega) hi, Bool.or_eq_true, hs i hi, decide_eq_true_eq]
        constructor
        · rintro (⟨h1, h2, h3⟩ | h)
          · exact ⟨h1, by omega, h3⟩
          · rw [h]; exact ⟨hlo, by omega, c⟩
        · rintro ⟨h1, h2, h3⟩
          by_cases e : i = k
          · exact Or.inr e
          · exact Or.inl ⟨h1, by omega, h3⟩
      · rw [if_neg c, hs i hi]
        constructor
        · rintro ⟨h1, h2, h3⟩
          exact ⟨h1, by omega, h3⟩
        · rintro ⟨h1, h2, h3⟩
          refine ⟨h1, ?_, h3⟩
          by_cases e : i = k
          · rw [e] at h3; exact absurd h3 c
          · omega
    have d1 : xD1 M wa k d ≠ 0 ↔ ∃ i, lo ≤ i ∧ i < k + 1 ∧ w i = 2 := by
      have : xD1 M wa k d ≠ 0 ↔ d ≠ 0 ∨ w k = 2 := by
        unfold xD1
        rw [(hw k hk).1]
        by_cases c : d = 0
        · subst c
          by_cases c2 : w k = 2 <;> simp [c2]
        · simp [c]
      rw [this, hd]
      constructor
      · rintro (⟨j, h1, h2, h3⟩ | h)
        · exact ⟨j, h1, by omega, h3⟩
        · exact ⟨k, hlo, by omega, h⟩
      · rintro ⟨j, h1, h2, h3⟩
        by_cases e : j = k
        · rw [e] at h3; exact Or.inr h3
        · exact Or.inl ⟨j, h1, by omega, h3⟩
    have ends : xEnds M pl k = 0 ↔ k < 16 ∧ kd k ≠ 4 := by
      unfold xEnds
      by_cases c : k = 16
      · subst c
        rw [if_pos (show (16 : Int32) ≤ nI 16 by decide)]
        simp
      · rw [if_neg (ge16 (by omega)), hkd k (by omega)]
        by_cases c2 : kd k = 4
        · simp [c2]
        · simp [c2]; omega
    by_cases c : xEnds M pl k = 0
    · rw [if_pos c]
      obtain ⟨c1, c2⟩ := ends.mp c
      refine xPW_n hw hkd n (k + 1) lo p _ _ (by omega) (by omega) (by omega) (fun q q1 q2 => ?_) hl s1 d1 hp i hi
      by_cases e : q = k
      · rw [e]; exact c2
      · exact hb q q1 (by omega)
    · rw [if_neg c]
      have hh : k = 16 ∨ kd k = 4 := by
        by_cases c3 : k < 16
        · right
          by_cases c4 : kd k = 4
          · exact c4
          · exact absurd (ends.mpr ⟨c3, c4⟩) c
        · left; omega
      have e0 : (nI 0 : Int32) = 0 := rfl
      refine xPW_n hw hkd n (k + 1) (k + 1) _ 0 0 (by omega) (by omega) (by omega) (fun q q1 q2 => by omega) ?_ (fun i hi => ?_) ?_ (fun i hi => ?_) i hi
      · rcases hh with e | e
        · right; right; omega
        · right; left
          rw [Nat.add_sub_cancel]; exact e
      · rw [b_0]
        simp; omega
      · simp; omega
      · rw [b_or, Bool.or_eq_true, hp i hi]
        have key : lo ≤ i → i ≤ k → (rGo w kd i ↔ xD1 M wa k d = 0 ∧ w i = 0) := by
          intro g1 g2
          unfold rGo
          rw [rSt g1 g2 (by omega) hb (by rcases hl with e | e | e; exact Or.inl e; exact Or.inr e; omega) hh]
          constructor
          · rintro ⟨q1, q2⟩
            have z : xD1 M wa k d = 0 := by
              by_cases z : xD1 M wa k d = 0
              · exact z
              · obtain ⟨j, j1, j2, j3⟩ := d1.mp z
                exact absurd ⟨j, j1, by omega, j3⟩ q2
            refine ⟨z, ?_⟩
            rcases (hw i (by omega)).2 with e | e | e
            · exact e
            · exact absurd e q1
            · exact absurd ⟨i, g1, g2, e⟩ q2
          · rintro ⟨q1, q2⟩
            refine ⟨by rw [q2]; decide, ?_⟩
            rintro ⟨j, j1, j2, j3⟩
            exact (d1.mpr ⟨j, j1, by omega, j3⟩) q1
        constructor
        · rintro (⟨h1, h2⟩ | h)
          · exact ⟨by omega, h2⟩
          · by_cases z : xD1 M wa k d = 0
            · rw [if_pos z, s1 i hi] at h
              exact ⟨h.2.1, (key h.1 (by omega)).mpr ⟨z, h.2.2⟩⟩
            · rw [if_neg z, b_0] at h
              cases h
        · rintro ⟨h1, h2⟩
          by_cases z : i < lo
          · exact Or.inl ⟨z, h2⟩
          · right
            obtain ⟨z1, z2⟩ := (key (by omega) (by omega)).mp h2
            rw [if_pos z1, s1 i hi]
            exact ⟨by omega, h1, z2⟩
theorem xR1_n (W : Int32) : ∀ (n p : Nat) (r : Int32), n + p = 17 → ∀ i, i < 32 → (bt (xR1 W n p r) i = true ↔ bt r i = true ∨ (p ≤ i ∧ i < 16 ∧ ∀ j, p ≤ j → j ≤ i → bt W j = true))
  | 0, p, r, h => by
    intro i hi
    rw [xR1]
    exact ⟨Or.inl, fun h => by rcases h with h | h; exact h; omega⟩
  | n + 1, p, r, h => by
    intro i hi
    rw [xR1]
    by_cases c : p = 16
    · subst c
      rw [if_pos (show (16 : Int32) ≤ nI 16 by decide)]
      exact ⟨Or.inl, fun h => by rcases h with h | h; exact h; omega⟩
    rw [if_neg (ge16 (by omega))]
    by_cases c2 : bt W p = false
    · rw [if_pos ((bt_z W (by omega)).mpr c2)]
      refine ⟨Or.inl, fun h => ?_⟩
      rcases h with h | ⟨h1, h2, h3⟩
      · exact h
      · rw [h3 p (by omega) h1] at c2; cases c2
    · have c3 : bt W p = true := by
        cases hb : bt W p
        · exact absurd hb c2
        · rfl
      rw [if_neg (fun h => c2 ((bt_z W (by omega)).mp h)), xR1_n W n (p + 1) _ (by omega) i hi, bt_or1 r (by omega) hi, Bool.or_eq_true, decide_eq_true_eq]
      constructor
      · rintro ((h | h) | ⟨h1, h2, h3⟩)
        · exact Or.inl h
        · right
          refine ⟨by omega, by omega, fun j j1 j2 => ?_⟩
          rw [show j = p by omega]; exact c3
        · right
          refine ⟨by omega, h2, fun j j1 j2 => ?_⟩
          by_cases e : j = p
          · rw [e]; exact c3
          · exact h3 j (by omega) j2
      · rintro (h | ⟨h1, h2, h3⟩)
        · exact Or.inl (Or.inl h)
        · by_cases e : i = p
          · exact Or.inl (Or.inr e)
          · exact Or.inr ⟨by omega, h2, fun j j1 j2 => h3 j (by omega) j2⟩
theorem xR2_n (W : Int32) : ∀ (q : Nat) (r : Int32), q ≤ 16 → ∀ i, i < 32 → (bt (xR2 W q r) i = true ↔ bt r i = true ∨ (i < q ∧ ∀ j, i < j → j ≤ q → bt W j = true))
  | 0, r, h => by
    intro i hi
    rw [xR2]
    exact ⟨Or.inl, fun h => by rcases h with h | h; exact h; omega⟩
  | q + 1, r, h => by
    intro i hi
    rw [xR2, nI_1]
    by_cases c2 : bt W (q + 1) = false
    · rw [if_pos ((bt_z W (by omega)).mpr c2)]
      refine ⟨Or.inl, fun h => ?_⟩
      rcases h with h | ⟨h1, h2⟩
      · exact h
      · rw [h2 (q + 1) (by omega) (by omega)] at c2; cases c2
    · have c3 : bt W (q + 1) = true := by
        cases hb : bt W (q + 1)
        · exact absurd hb c2
        · rfl
      rw [if_neg (fun h => c2 ((bt_z W (by omega)).mp h)), xR2_n W q _ (by omega) i hi, bt_or1 r (by omega) hi, Bool.or_eq_true, decide_eq_true_eq]
      constructor
      · rintro ((h | h) | ⟨h1, h3⟩)
        · exact Or.inl h
        · right
          refine ⟨by omega, fun j j1 j2 => ?_⟩
          rw [show j = q + 1 by omega]; exact c3
        · right
          refine ⟨by omega, fun j j1 j2 => ?_⟩
          by_cases e : j = q + 1
          · rw [e]; exact c3
          · exact h3 j j1 (by omega)
      · rintro (h | ⟨h1, h3⟩)
        · exact Or.inl (Or.inl h)
        · by_cases e : i = q
          · exact Or.inl (Or.inr e)
          · exact Or.inr ⟨by omega, fun j j1 j2 => h3 j j1 (by omega)⟩
theorem xReach_n {M : pM} {pl : Nat → Nat} {wa : Nat} {w kd : Nat → Int32} (hw : ∀ k, k < 17 → M.1 wa k = w k ∧ (w k = 0 ∨ w k = 1 ∨ w k = 2)) (hkd : ∀ p, p < 16 → M.1 (pl p) 0 = kd p) {p : Nat} (hp : p < 16) : bt (xReach M pl wa) p = true ↔ rRe w kd p := by
  have P := xPW_n hw hkd 17 0 0 0 0 0 (by omega) (by omega) (by omega) (fun q q1 q2 => by omega) (Or.inl rfl) (fun i hi => by rw [b_0]; simp) (by simp) (fun i hi => by rw [b_0]; simp)
  unfold xReach
  generalize xPW M pl wa 17 0 0 0 0 = W at P
  rw [xR2_n W 16 _ (by omega) p (by omega), xR1_n W 17 0 0 (by omega) p (by omega), b_0]
  unfold rRe
  constructor
  · rintro ((h | ⟨-, -, h⟩) | ⟨-, h⟩)
    · cases h
    · exact Or.inl fun k k1 => ((P k (by omega)).mp (h k (by omega) k1)).2
    · exact Or.inr fun k k1 k2 => ((P k (by omega)).mp (h k k1 (by omega))).2
  · rintro (h | h)
    · exact Or.inl (Or.inr ⟨by omega, hp, fun j j1 j2 => (P j (by omega)).mpr ⟨by omega, h j j2⟩⟩)
    · exact Or.inr ⟨hp, fun j j1 j2 => (P j (by omega)).mpr ⟨by omega, h j j1 (by omega)⟩⟩
end SIM3
