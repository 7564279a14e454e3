/-! CLASS AND REFERENCE: one relation between what the class keeps (cells a 0 .. a 42) and what the reference keeps (cells m 0 .. m 33). -/
section SIM
theorem pI_at (M : pM) (q k : Nat) (v : Int32) (b j : Nat) : (pI M q k v).1 b j = if b = q ∧ j = k then v else M.1 b j := by
  by_cases h : b = q
  · subst h
    rw [pI_rd]
    by_cases hj : j = k <;> simp [hj]
  · rw [pI_1n _ _ _ h]; simp [h]
theorem pF_at (M : pM) (q k : Nat) (v : UInt32) (b j : Nat) : (pF M q k v).2 b j = if b = q ∧ j = k then v else M.2 b j := by
  by_cases h : b = q
  · subst h
    rw [pF_rd]
    by_cases hj : j = k <;> simp [hj]
  · rw [pF_2n _ _ _ h]; simp [h]
/-- where the reference keeps what the class keeps in slot s of cell i -/
def sT (i s : Nat) : Option (Nat × Nat) :=
  if i = 0 then (if s = 6 then some (0, 16) else if s = 7 then some (0, 25) else if s = 8 then some (0, 26) else if s = 9 then some (0, 27) else none)
  else if i < 3 then none
  else if i < 19 then (if s = 0 then some (2, i - 3) else if s = 1 then some (3, i - 3) else if s = 6 then some (8, i - 3) else if s = 7 then some (9, i - 3) else if s = 8 then some (10, i - 3) else if s = 9 then some (11, i - 3) else if s = 10 then some (12, i - 3) else none)
  else if i = 19 then (if s < 17 then some (1, s) else none)
  else if i = 20 then none
  else if i < 25 then (if s = 0 then some (14, i - 21) else if s = 1 then some (15, i - 21) else if s = 2 then some (13, i - 21) else none)
  else if i = 38 then (if s < 6 then some (22, s) else none)
  else if i = 39 then (if s = 1 then some (0, 23) else none)
  else if i = 41 then (if s = 1 then some (0, 28) else none)
  else if i = 42 then (if s < 48 then some (29, s) else none)
  else none
def sU (k t : Nat) : Nat × Nat :=
  if k = 0 then (if t = 16 then (0, 6) else if t = 25 then (0, 7) else if t = 26 then (0, 8) else if t = 27 then (0, 9) else if t = 23 then (39, 1) else (41, 1))
  else if k = 1 then (19, t) else if k = 2 then (3 + t, 0) else if k = 3 then (3 + t, 1) else if k = 8 then (3 + t, 6) else if k = 9 then (3 + t, 7) else if k = 10 then (3 + t, 8) else if k = 11 then (3 + t, 9) else if k = 12 then (3 + t, 10)
  else if k = 14 then (21 + t, 0) else if k = 15 then (21 + t, 1) else if k = 13 then (21 + t, 2) else if k = 22 then (38, t) else (42, t)
theorem sT_0 {s : Nat} {y : Nat × Nat} (h : sT 0 s = some y) : (s = 6 ∧ y = (0, 16)) ∨ (s = 7 ∧ y = (0, 25)) ∨ (s = 8 ∧ y = (0, 26)) ∨ (s = 9 ∧ y = (0, 27)) := by
  unfold sT at h
  rw [if_pos rfl] at h
  repeat' split at h
  all_goals first
    | (cases h; done)
    | (have h2 := (Option.some.inj h).symm; simp_all)
theorem sT_3 {i s : Nat} {y : Nat × Nat} (h3 : 3 ≤ i) (h19 : i < 19) (h : sT i s = some y) : ∃ k, y = (k, i - 3) ∧ ((s = 0 ∧ k = 2) ∨ (s = 1 ∧ k = 3) ∨ (s = 6 ∧ k = 8) ∨ (s = 7 ∧ k = 9) ∨ (s = 8 ∧ k = 10) ∨ (s = 9 ∧ k = 11) ∨ (s = 10 ∧ k = 12)) := by
  unfold sT at h
  rw [if_neg (by omega), if_neg (by omega), if_pos h19] at h
  repeat' split at h
  all_goals first
    | (cases h; done)
    | (have h2 := (Option.some.inj h).symm; refine ⟨_, h2, ?_⟩; omega)
theorem sT_21 {i s : Nat} {y : Nat × Nat} (h3 : 21 ≤ i) (h19 : i < 25) (h : sT i s = some y) : ∃ k, y = (k, i - 21) ∧ ((s = 0 ∧ k = 14) ∨ (s = 1 ∧ k = 15) ∨ (s = 2 ∧ k = 13)) := by
  unfold sT at h
  rw [if_neg (by omega), if_neg (by omega), if_neg (by omega), if_neg (by omega), if_neg (by omega), if_pos h19] at h
  repeat' split at h
  all_goals first
    | (cases h; done)
    | (have h2 := (Option.some.inj h).symm; refine ⟨_, h2, ?_⟩; omega)
theorem sT_x {i s : Nat} {y : Nat × Nat} (h0 : i ≠ 0) (h3 : ¬ (3 ≤ i ∧ i < 19)) (h21 : ¬ (21 ≤ i ∧ i < 25)) (h : sT i s = some y) : (i = 19 ∧ s < 17 ∧ y = (1, s)) ∨ (i = 38 ∧ s < 6 ∧ y = (22, s)) ∨ (i = 39 ∧ s = 1 ∧ y = (0, 23)) ∨ (i = 41 ∧ s = 1 ∧ y = (0, 28)) ∨ (i = 42 ∧ s < 48 ∧ y = (29, s)) := by
  unfold sT at h
  rw [if_neg h0] at h
  split at h
  · cases h
  rw [if_neg (by omega)] at h
  split at h
  · split at h
    · left; exact ⟨by assumption, by assumption, (Option.some.inj h).symm⟩
    · cases h
  split at h
  · cases h
  rw [if_neg (by omega)] at h
  right
  split at h
  · split at h
    · left; exact ⟨by assumption, by assumption, (Option.some.inj h).symm⟩
    · cases h
  right
  split at h
  · split at h
    · left; exact ⟨by assumption, by assumption, (Option.some.inj h).symm⟩
    · cases h
  right
  split at h
  · split at h
    · left; exact ⟨by assumption, by assumption, (Option.some.inj h).symm⟩
    · cases h
  right
  split at h
  · split at h
    · exact ⟨by assumption, by assumption, (Option.some.inj h).symm⟩
    · cases h
  · cases h
/-- what a row of the table says -/
def sTs (i s k t : Nat) : Prop := sU k t = (i, s) ∧ i < 43 ∧ k < 34 ∧ (k = 0 → t = 16 ∧ i = 0 ∧ s = 6 ∨ t = 23 ∧ i = 39 ∨ t = 28 ∧ i = 41 ∨ (t = 25 ∨ t = 26 ∨ t = 27) ∧ i = 0 ∧ s ≠ 6) ∧ (k = 0 ∨ k = 1 ∧ i = 19 ∨ k = 2 ∧ 3 ≤ i ∧ i < 19 ∧ s = 0 ∨ k = 9 ∧ 3 ≤ i ∧ i < 19 ∧ s = 7 ∨ k = 29 ∧ i = 42 ∨ (k = 3 ∨ k = 8 ∨ k = 10 ∨ k = 11 ∨ k = 12) ∧ 3 ≤ i ∧ i < 19 ∧ s ≠ 0 ∧ s ≠ 7 ∨ (k = 14 ∨ k = 15 ∨ k = 13) ∧ 21 ≤ i ∧ i < 25 ∨ k = 22 ∧ i = 38)
theorem sT_of {i s k t : Nat} (h : sT i s = some (k, t)) : sTs i s k t := by
  by_cases h0 : i = 0
  · subst h0
    rcases sT_0 h with ⟨rfl, e⟩ | ⟨rfl, e⟩ | ⟨rfl, e⟩ | ⟨rfl, e⟩ <;> (obtain ⟨rfl, rfl⟩ := Prod.mk.inj e; refine ⟨rfl, ?_, ?_, ?_, ?_⟩ <;> omega)
  by_cases h3 : 3 ≤ i ∧ i < 19
  · obtain ⟨k', e, g⟩ := sT_3 h3.1 h3.2 h
    obtain ⟨rfl, rfl⟩ := Prod.mk.inj e
    rcases g with ⟨rfl, rfl⟩ | ⟨rfl, rfl⟩ | ⟨rfl, rfl⟩ | ⟨rfl, rfl⟩ | ⟨rfl, rfl⟩ | ⟨rfl, rfl⟩ | ⟨rfl, rfl⟩ <;> (refine ⟨?_, ?_, ?_, ?_, ?_⟩; (have : 3 + (i - 3) = i := by omega); simp [sU, this]; all_goals omega)
  by_cases h21 : 21 ≤ i ∧ i < 25
  · obtain ⟨k', e, g⟩ := sT_21 h21.1 h21.2 h
    obtain ⟨rfl, rfl⟩ := Prod.mk.inj e
    rcases g with ⟨rfl, rfl⟩ | ⟨rfl, rfl⟩ | ⟨rfl, rfl⟩ <;> (refine ⟨?_, ?_, ?_, ?_, ?_⟩; (have : 21 + (i - 21) = i := by omega); simp [sU, this]; all_goals omega)
  · rcases sT_x h0 h3 h21 h with ⟨rfl, _, e⟩ | ⟨rfl, _, e⟩ | ⟨rfl, rfl, e⟩ | ⟨rfl, rfl, e⟩ | ⟨rfl, _, e⟩ <;> (obtain ⟨rfl, rfl⟩ := Prod.mk.inj e; refine ⟨by simp [sU], ?_, ?_, ?_, ?_⟩ <;> omega)
def simI (a m : Nat → Nat) (M N : pM) : Prop := ∀ i s k t, sT i s = some (k, t) → M.1 (a i) s = N.1 (m k) t
def simF (a m : Nat → Nat) (M N : pM) : Prop := ∀ p s, p < 16 → 2 ≤ s → s ≤ 5 → M.2 (a (3 + p)) s = N.2 (m (s + 2)) p
/-- the addresses differ -/
def sAd (a m : Nat → Nat) : Prop := (∀ i j, i < 43 → j < 43 → a i = a j → i = j) ∧ (∀ i j, i < 34 → j < 34 → m i = m j → i = j)
theorem simI_put {a m : Nat → Nat} {M N : pM} (A : sAd a m) (h : simI a m M N) {i s k t : Nat} (e : sT i s = some (k, t)) (v : Int32) : simI a m (pI M (a i) s v) (pI N (m k) t v) := by
  intro i' s' k' t' e'
  rw [pI_at, pI_at]
  obtain ⟨u1, u2, u3, -⟩ := sT_of e
  obtain ⟨v1, v2, v3, -⟩ := sT_of e'
  by_cases c : a i' = a i ∧ s' = s
  · obtain ⟨c1, c2⟩ := c
    have := A.1 _ _ v2 u2 c1
    subst this; subst c2
    rw [e] at e'
    obtain ⟨rfl, rfl⟩ := Prod.mk.inj (Option.some.inj e')
    simp
  · have c2 : ¬ (m k' = m k ∧ t' = t) := by
      rintro ⟨d1, d2⟩
      have := A.2 _ _ v3 u3 d1
      subst this; subst d2
      rw [u1] at v1
      obtain ⟨rfl, rfl⟩ := Prod.mk.inj v1
      exact c ⟨rfl, rfl⟩
    rw [if_neg c, if_neg c2]
    exact h _ _ _ _ e'
theorem simI_x {a m : Nat → Nat} {M N : pM} (A : sAd a m) (h : simI a m M N) {i s : Nat} (hi : i < 43) (e : sT i s = none) (v : Int32) : simI a m (pI M (a i) s v) N := by
  intro i' s' k' t' e'
  rw [pI_at]
  obtain ⟨v1, v2, v3, -⟩ := sT_of e'
  rw [if_neg]
  · exact h _ _ _ _ e'
  · rintro ⟨c1, c2⟩
    have := A.1 _ _ v2 hi c1
    subst this; subst c2
    rw [e] at e'; cases e'
theorem simI_m {a m : Nat → Nat} {M N : pM} (A : sAd a m) (h : simI a m M N) {k t : Nat} (hk : k < 34) (e : ∀ i s, sT i s ≠ some (k, t)) (v : Int32) : simI a m M (pI N (m k) t v) := by
  intro i' s' k' t' e'
  rw [pI_at]
  obtain ⟨v1, v2, v3, -⟩ := sT_of e'
  rw [if_neg]
  · exact h _ _ _ _ e'
  · rintro ⟨c1, c2⟩
    have := A.2 _ _ v3 hk c1
    subst this; subst c2
    exact e _ _ e'
theorem simF_put {a m : Nat → Nat} {M N : pM} (A : sAd a m) (h : simF a m M N) {p s k : Nat} (hp : p < 16) (h2 : 2 ≤ s) (h5 : s ≤ 5) (hk : k = s + 2) (v : UInt32) : simF a m (pF M (a (3 + p)) s v) (pF N (m k) p v) := by
  subst hk
  intro p' s' hp' h2' h5'
  rw [pF_at, pF_at]
  by_cases c : a (3 + p') = a (3 + p) ∧ s' = s
  · obtain ⟨c1, c2⟩ := c
    have := A.1 _ _ (by omega) (by omega) c1
    have : p' = p := by omega
    subst this; subst c2
    simp
  · have c2 : ¬ (m (s' + 2) = m (s + 2) ∧ p' = p) := by
      rintro ⟨d1, d2⟩
      have := A.2 _ _ (by omega) (by omega) d1
      subst d2
      exact c ⟨rfl, by omega⟩
    rw [if_neg c, if_neg c2]
    exact h _ _ hp' h2' h5'
/-- a row of the rules -/
def sRow (a m : Nat → Nat) (M N : pM) (r : Nat) : Prop := (∃ L : Nat, L ≤ 20 ∧ M.1 (a (26 + r)) 1 = nI L ∧ N.1 (m 18) r = nI L ∧ ∀ k, k < L → ∃ w : Nat, w ≤ 11 ∧ M.1 (a (32 + r)) k = nI w ∧ N.1 (m 17) (20 * r + k) = nI w) ∧ M.1 (a (26 + r)) 2 = N.1 (m 19) r ∧ M.1 (a (26 + r)) 3 = N.1 (m 20) r ∧ M.1 (a (26 + r)) 4 = N.1 (m 21) r
def sRows (a m : Nat → Nat) (R : Nat) (M N : pM) : Prop := R ≤ 6 ∧ M.1 (a 0) 6 = nI R ∧ ∀ r, r < R → sRow a m M N r
def sPad (a m : Nat → Nat) (n : Nat) (M N : pM) : Prop := n ≤ 20 ∧ M.1 (a 39) 1 = nI n ∧ ∀ j, j < n → M.1 (a 40) j = N.1 (m 24) j ∧ narrow .char (.int (N.1 (m 24) j)) = .int (N.1 (m 24) j)
def sEnt (a : Nat → Nat) (M : pM) : Prop := ∃ E : Nat, E ≤ 16 ∧ M.1 (a 41) 1 = nI E
def sAl (a : Nat → Nat) (M : pM) : Prop := ∀ p, p < 16 → M.1 (a (3 + p)) 7 = 0 ∨ M.1 (a (3 + p)) 7 = 1
def sGh (a : Nat → Nat) (w kd : Nat → Int32) (M : pM) : Prop := (∀ k, k < 17 → M.1 (a 19) k = w k ∧ (w k = 0 ∨ w k = 1 ∨ w k = 2)) ∧ ∀ p, p < 16 → M.1 (a (3 + p)) 0 = kd p
/-- what a place's floats keep to: given later by a test of bits -/
def sFl (Z : Nat → UInt32 → Prop) (a : Nat → Nat) (M : pM) : Prop := ∀ p s, p < 16 → 2 ≤ s → s ≤ 5 → Z s (M.2 (a (3 + p)) s)
def Sim (Z : Nat → UInt32 → Prop) (a m : Nat → Nat) (w kd : Nat → Int32) (R n : Nat) (M N : pM) : Prop := simI a m M N ∧ simF a m M N ∧ sRows a m R M N ∧ sPad a m n M N ∧ sEnt a M ∧ sAl a M ∧ sGh a w kd M ∧ sFl Z a M
variable {Z : Nat → UInt32 → Prop} {a m : Nat → Nat} {w kd : Nat → Int32} {R n : Nat} {M N : pM}
theorem sRow.fr {M' N' : pM} {r : Nat} (h : sRow a m M N r) (h1 : M'.1 (a (26 + r)) = M.1 (a (26 + r))) (h2 : M'.1 (a (32 + r)) = M.1 (a (32 + r))) (h3 : N'.1 (m 17) = N.1 (m 17)) (h4 : N'.1 (m 18) = N.1 (m 18)) (h5 : N'.1 (m 19) = N.1 (m 19)) (h6 : N'.1 (m 20) = N.1 (m 20)) (h7 : N'.1 (m 21) = N.1 (m 21)) : sRow a m M' N' r := by
  unfold sRow at h ⊢
  rw [h1, h2, h3, h4, h5, h6, h7]; exact h
theorem sAd.na (A : sAd a m) {i j : Nat} (hi : i < 43) (hj : j < 43) (h : i ≠ j) : a i ≠ a j := fun e => h (A.1 _ _ hi hj e)
theorem sAd.nm (A : sAd a m) {i j : Nat} (hi : i < 34) (hj : j < 34) (h : i ≠ j) : m i ≠ m j := fun e => h (A.2 _ _ hi hj e)
/-- a pair of puts that touches neither rules, pad, log, wires, kinds nor alarms -/
theorem Sim.put (A : sAd a m) (h : Sim Z a m w kd R n M N) {i s k t : Nat} (e : sT i s = some (k, t)) (g : (i = 0 ∧ s ≠ 6) ∨ (3 ≤ i ∧ i < 19 ∧ s ≠ 0 ∧ s ≠ 7) ∨ (21 ≤ i ∧ i < 25) ∨ i = 38) (v : Int32) : Sim Z a m w kd R n (pI M (a i) s v) (pI N (m k) t v) := by
  obtain ⟨u1, u2, u3, u4, u5⟩ := sT_of e
  obtain ⟨h1, h2, h3, h4, h5, h6, h7, h8⟩ := h
  have nk : ∀ j, j < 34 → j ≠ k → (pI N (m k) t v).1 (m j) = N.1 (m j) := fun j hj hne => pI_1n _ _ _ (A.nm hj u3 hne)
  have na : ∀ j, j < 43 → j ≠ i → (pI M (a i) s v).1 (a j) = M.1 (a j) := fun j hj hne => pI_1n _ _ _ (A.na hj u2 hne)
  refine ⟨simI_put A h1 e v, h2, ⟨h3.1, ?_, fun r hr => ?_⟩, ⟨h4.1, ?_, fun j hj => ?_⟩, ?_, fun p hp => ?_, ⟨fun k' hk' => ?_, fun p hp => ?_⟩, h8⟩
  · rw [pI_at, if_neg]; exact h3.2.1
    rintro ⟨c1, c2⟩
    have := A.1 _ _ (by omega) u2 c1
    omega
  · have hR := h3.1
    refine (h3.2.2 r hr).fr (na _ (by omega) (by omega)) (na _ (by omega) (by omega)) (nk _ (by omega) (by omega)) (nk _ (by omega) (by omega)) (nk _ (by omega) (by omega)) (nk _ (by omega) (by omega)) (nk _ (by omega) (by omega))
  · rw [na 39 (by omega) (by omega)]; exact h4.2.1
  · rw [na 40 (by omega) (by omega), nk 24 (by omega) (by omega)]; exact h4.2.2 j hj
  · unfold sEnt
    rw [na 41 (by omega) (by omega)]; exact h5
  · rw [pI_at, if_neg]; exact h6 p hp
    rintro ⟨c1, c2⟩
    have := A.1 _ _ (by omega) u2 c1
    omega
  · rw [na 19 (by omega) (by omega)]; exact h7.1 k' hk'
  · rw [pI_at, if_neg]; exact h7.2 p hp
    rintro ⟨c1, c2⟩
    have := A.1 _ _ (by omega) u2 c1
    omega
/-- the reference's own cells -/
theorem sT_own {k t : Nat} (h : (k = 0 ∧ (t = 0 ∨ t = 30 ∨ t = 32)) ∨ k = 31 ∨ k = 33 ∨ (17 ≤ k ∧ k ≤ 21) ∨ k = 24) : ∀ i s, sT i s ≠ some (k, t) := by
  intro i s e
  obtain ⟨u1, u2, u3, u4, u5⟩ := sT_of e
  omega
theorem Sim.mine (A : sAd a m) (h : Sim Z a m w kd R n M N) {k t : Nat} (g : (k = 0 ∧ (t = 0 ∨ t = 30 ∨ t = 32)) ∨ k = 31 ∨ k = 33) (v : Int32) : Sim Z a m w kd R n M (pI N (m k) t v) := by
  obtain ⟨h1, h2, h3, h4, h5, h6, h7, h8⟩ := h
  have nk : ∀ j, j < 34 → j ≠ k → (pI N (m k) t v).1 (m j) = N.1 (m j) := fun j hj hne => pI_1n _ _ _ (A.nm hj (by omega) hne)
  refine ⟨simI_m A h1 (by omega) (sT_own (by omega)) v, h2, ⟨h3.1, h3.2.1, fun r hr => ?_⟩, ⟨h4.1, h4.2.1, fun j hj => ?_⟩, h5, h6, h7, h8⟩
  · exact (h3.2.2 r hr).fr rfl rfl (nk _ (by omega) (by omega)) (nk _ (by omega) (by omega)) (nk _ (by omega) (by omega)) (nk _ (by omega) (by omega)) (nk _ (by omega) (by omega))
  · rw [nk 24 (by omega) (by omega)]; exact h4.2.2 j hj
/-- an alarm -/
theorem Sim.alarm (A : sAd a m) (h : Sim Z a m w kd R n M N) {p : Nat} (hp : p < 16) {v : Int32} (hv : v = 0 ∨ v = 1) : Sim Z a m w kd R n (pI M (a (3 + p)) 7 v) (pI N (m 9) p v) := by
  obtain ⟨h1, h2, h3, h4, h5, h6, h7, h8⟩ := h
  have e : sT (3 + p) 7 = some (9, p) := by
    unfold sT
    rw [if_neg (by omega), if_neg (by omega), if_pos (by omega)]
    simp
  have nk : ∀ j, j < 34 → j ≠ 9 → (pI N (m 9) p v).1 (m j) = N.1 (m j) := fun j hj hne => pI_1n _ _ _ (A.nm hj (by omega) hne)
  have na : ∀ j, j < 43 → j ≠ 3 + p → (pI M (a (3 + p)) 7 v).1 (a j) = M.1 (a j) := fun j hj hne => pI_1n _ _ _ (A.na hj (by omega) hne)
  refine ⟨simI_put A h1 e v, h2, ⟨h3.1, ?_, fun r hr => ?_⟩, ⟨h4.1, ?_, fun j hj => ?_⟩, ?_, fun p' hp' => ?_, ⟨fun k' hk' => ?_, fun p' hp' => ?_⟩, h8⟩
  · rw [na 0 (by omega) (by omega)]; exact h3.2.1
  · have hR := h3.1
    refine (h3.2.2 r hr).fr (na _ (by omega) (by omega)) (na _ (by omega) (by omega)) (nk _ (by omega) (by omega)) (nk _ (by omega) (by omega)) (nk _ (by omega) (by omega)) (nk _ (by omega) (by omega)) (nk _ (by omega) (by omega))
  · rw [na 39 (by omega) (by omega)]; exact h4.2.1
  · rw [na 40 (by omega) (by omega), nk 24 (by omega) (by omega)]; exact h4.2.2 j hj
  · unfold sEnt
    rw [na 41 (by omega) (by omega)]; exact h5
  · rw [pI_at]
    split
    · exact hv
    · exact h6 p' hp'
  · rw [na 19 (by omega) (by omega)]; exact h7.1 k' hk'
  · rw [pI_at, if_neg (by omega)]; exact h7.2 p' hp'
/-- a float of a place -/
theorem Sim.fl (A : sAd a m) (h : Sim Z a m w kd R n M N) {p s k : Nat} (hp : p < 16) (h2 : 2 ≤ s) (h5 : s ≤ 5) (hk : k = s + 2) {v : UInt32} (hv : Z s v) : Sim Z a m w kd R n (pF M (a (3 + p)) s v) (pF N (m k) p v) := by
  obtain ⟨g1, g2, g3, g4, g5, g6, g7, g8⟩ := h
  refine ⟨g1, simF_put A g2 hp h2 h5 hk v, g3, g4, g5, g6, g7, fun p' s' hp' h2' h5' => ?_⟩
  rw [pF_at]
  split
  · rename_i c
    rw [c.2]; exact hv
  · exact g8 p' s' hp' h2' h5'
/-- reading -/
theorem sT_pl {p s k : Nat} (hp : p < 16) (h : (s = 0 ∧ k = 2) ∨ (s = 1 ∧ k = 3) ∨ (s = 6 ∧ k = 8) ∨ (s = 7 ∧ k = 9) ∨ (s = 8 ∧ k = 10) ∨ (s = 9 ∧ k = 11) ∨ (s = 10 ∧ k = 12)) : sT (3 + p) s = some (k, p) := by
  unfold sT
  rw [if_neg (by omega), if_neg (by omega), if_pos (by omega)]
  rcases h with ⟨rfl, rfl⟩ | ⟨rfl, rfl⟩ | ⟨rfl, rfl⟩ | ⟨rfl, rfl⟩ | ⟨rfl, rfl⟩ | ⟨rfl, rfl⟩ | ⟨rfl, rfl⟩ <;> simp
theorem sT_zn {z s k : Nat} (hz : z < 4) (h : (s = 0 ∧ k = 14) ∨ (s = 1 ∧ k = 15) ∨ (s = 2 ∧ k = 13)) : sT (21 + z) s = some (k, z) := by
  unfold sT
  rw [if_neg (by omega), if_neg (by omega), if_neg (by omega), if_neg (by omega), if_neg (by omega), if_pos (by omega)]
  rcases h with ⟨rfl, rfl⟩ | ⟨rfl, rfl⟩ | ⟨rfl, rfl⟩ <;> simp
theorem sT_p {s k : Nat} (h : (s = 6 ∧ k = 16) ∨ (s = 7 ∧ k = 25) ∨ (s = 8 ∧ k = 26) ∨ (s = 9 ∧ k = 27)) : sT 0 s = some (0, k) := by
  rcases h with ⟨rfl, rfl⟩ | ⟨rfl, rfl⟩ | ⟨rfl, rfl⟩ | ⟨rfl, rfl⟩ <;> rfl
theorem sT_wi {k : Nat} (h : k < 17) : sT 19 k = some (1, k) := by simp [sT, h]
theorem sT_ou {k : Nat} (h : k < 6) : sT 38 k = some (22, k) := by simp [sT, h]
theorem sT_pd : sT 39 1 = some (0, 23) := rfl
theorem sT_en : sT 41 1 = some (0, 28) := rfl
theorem sT_lg {k : Nat} (h : k < 48) : sT 42 k = some (29, k) := by simp [sT, h]
end SIM
