/-! The world after both constructors: shape gF, memory mF, over a heap that had h cells. -/
def kF (h a : Nat) : Nat := if a < h + 43 then kX (a - h) else kM (a - h - 43)
def nF (h a : Nat) : Nat := if a < h + 43 then nX (a - h) else nM (a - h - 43)
def g0 (h : Nat) : pG := ([], kF h, nF h, fun _ _ => none)
def m0 : pM := (fun _ _ => 0, fun _ _ => 0)
def gXf (G : pG) (h : Nat) : pG := gEnd (gRu (gZn (gOne G h) h 4) h 6) h
def gF (h : Nat) : pG := gMo (pAdd (gXf (pAdd (g0 h) h) h) (h + 43)) (h + 43) 25
def mF (h : Nat) : pM := mMo (mZn m0 h 4) (h + 43) 4
def aX (h i : Nat) : Nat := h + (if i < 26 then i else if i < 32 then 26 + 2 * (i - 26) else if i < 38 then 27 + 2 * (i - 32) else i)
def aM (h k : Nat) : Nat := h + 43 + tM k
theorem aX_inj (h : Nat) : ∀ i j, i < 43 → j < 43 → aX h i = aX h j → i = j := by
  intro i j hi hj e
  unfold aX at e
  split at e <;> split at e <;> (try split at e) <;> (try split at e) <;> (try split at e) <;> (try split at e) <;> (try split at e) <;> omega
theorem tM_inj : ∀ i, i < 34 → ∀ j, j < 34 → tM i = tM j → i = j := by decide
theorem aM_inj (h : Nat) : ∀ i j, i < 34 → j < 34 → aM h i = aM h j → i = j := by
  intro i j hi hj e
  unfold aM at e
  exact tM_inj i hi j hj (by omega)
theorem kF_x {h i : Nat} (hi : i < 43) : kF h (h + i) = kX i := by
  unfold kF
  rw [if_pos (by omega), show h + i - h = i by omega]
theorem nF_x {h i : Nat} (hi : i < 43) : nF h (h + i) = nX i := by
  unfold nF
  rw [if_pos (by omega), show h + i - h = i by omega]
theorem kF_m {h i : Nat} : kF h (h + 43 + i) = kM i := by
  unfold kF
  rw [if_neg (by omega), show h + 43 + i - h - 43 = i by omega]
theorem nF_m {h i : Nat} : nF h (h + 43 + i) = nM i := by
  unfold nF
  rw [if_neg (by omega), show h + 43 + i - h - 43 = i by omega]
theorem gEnd_K (G : pG) (h : Nat) : (gEnd G h).2.1 = G.2.1 := rfl
theorem gEnd_N (G : pG) (h : Nat) : (gEnd G h).2.2.1 = G.2.2.1 := rfl
theorem gXf_K (G : pG) (h : Nat) : (gXf G h).2.1 = G.2.1 := by unfold gXf; rw [gEnd_K, gRu_K, gZn_K, gOne_K]
theorem gXf_N (G : pG) (h : Nat) : (gXf G h).2.2.1 = G.2.2.1 := by unfold gXf; rw [gEnd_N, gRu_N, gZn_N, gOne_N]
theorem gEnd_m {G : pG} {b : Nat} (h : Nat) (hb : b ∈ G.1) : b ∈ (gEnd G h).1 := pm_put _ _ _ (pm_put _ _ _ (pm_old _ (pm_old _ (pm_put _ _ _ (pm_put _ _ _ (pm_old _ (pm_old _ (pm_put _ _ _ (pm_old _ hb)))))))))
theorem gEnd_m2 (G : pG) (h : Nat) : h + 38 ∈ (gEnd G h).1 ∧ h + 39 ∈ (gEnd G h).1 ∧ h + 40 ∈ (gEnd G h).1 ∧ h + 41 ∈ (gEnd G h).1 ∧ h + 42 ∈ (gEnd G h).1 :=
  ⟨pm_put _ _ _ (pm_put _ _ _ (pm_old _ (pm_old _ (pm_put _ _ _ (pm_put _ _ _ (pm_old _ (pm_old _ (pm_put _ _ _ (pm_new _ _))))))))),
   pm_put _ _ _ (pm_put _ _ _ (pm_old _ (pm_old _ (pm_put _ _ _ (pm_put _ _ _ (pm_old _ (pm_new _ _))))))),
   pm_put _ _ _ (pm_put _ _ _ (pm_old _ (pm_old _ (pm_put _ _ _ (pm_put _ _ _ (pm_new _ _)))))),
   pm_put _ _ _ (pm_put _ _ _ (pm_old _ (pm_new _ _))), pm_put _ _ _ (pm_put _ _ _ (pm_new _ _))⟩
theorem gEnd_P (G : pG) (h : Nat) {b : Nat} (h0 : b ≠ h) (h1 : b ≠ h + 39) (h2 : b ≠ h + 41) : (gEnd G h).2.2.2 b = G.2.2.2 b := by
  unfold gEnd
  rw [pm_P _ _ h0, pm_P _ _ h2]
  show (pPut (pPut (pAdd (pAdd (pPut (pAdd G (h + 38)) h 3 (h + 38)) (h + 39)) (h + 40)) (h + 39) 0 (h + 40)) h 4 (h + 39)).2.2.2 b = G.2.2.2 b
  rw [pm_P _ _ h0, pm_P _ _ h1]
  show (pPut (pAdd G (h + 38)) h 3 (h + 38)).2.2.2 b = G.2.2.2 b
  rw [pm_P _ _ h0]
  rfl
theorem gEnd_h (G : pG) (h : Nat) : (gEnd G h).2.2.2 h 3 = some (h + 38) ∧ (gEnd G h).2.2.2 h 4 = some (h + 39) ∧ (gEnd G h).2.2.2 h 5 = some (h + 41) ∧ (gEnd G h).2.2.2 (h + 39) 0 = some (h + 40) ∧ (gEnd G h).2.2.2 (h + 41) 0 = some (h + 42) ∧ ∀ k, k < 3 → (gEnd G h).2.2.2 h k = G.2.2.2 h k := by
  refine ⟨?_, ?_, ?_, ?_, ?_, fun k hk => ?_⟩
  · simp [gEnd, pPut, pAdd, va_up]
  · simp [gEnd, pPut, pAdd, va_up]
  · simp [gEnd, pPut, pAdd, va_up]
  · simp [gEnd, pPut, pAdd, va_up]
  · simp [gEnd, pPut, pAdd, va_up]
  · have e3 : k ≠ 3 := by omega
    have e4 : k ≠ 4 := by omega
    have e5 : k ≠ 5 := by omega
    simp [gEnd, pPut, pAdd, va_up, e3, e4, e5]
/-- every cell of the panel -/
theorem gXf_m (G : pG) (h : Nat) (hm : h ∈ G.1) {i : Nat} (hi : i < 43) : h + i ∈ (gXf G h).1 := by
  obtain ⟨c38, c39, c40, c41, c42⟩ := gEnd_m2 (gRu (gZn (gOne G h) h 4) h 6) h
  unfold gXf
  rcases Nat.lt_or_ge i 38 with q | q
  · refine gEnd_m h ?_
    rcases Nat.lt_or_ge i 25 with q | q
    · refine gRu_m _ h ?_ 6
      rcases Nat.lt_or_ge i 20 with q | q
      · refine gZn_m _ h ?_ 4
        rcases Nat.lt_or_ge i 2 with q | q
        · rcases (show i = 0 ∨ i = 1 by omega) with rfl | rfl
          · exact gOne_m hm
          · exact gOne_m1 G h
        · have := gOne_m2 G h (j := i - 2) (by omega)
          rw [show h + 2 + (i - 2) = h + i by omega] at this
          exact this
      · have := gZn_m2 (gOne G h) h 4 (i - 20) (by omega)
        rw [show h + (20 + (i - 20)) = h + i by omega] at this
        exact this
    · have := gRu_m2 (gZn (gOne G h) h 4) h 6 (i - 25) (by omega)
      rw [show h + (25 + (i - 25)) = h + i by omega] at this
      exact this
  · rcases (show i = 38 ∨ i = 39 ∨ i = 40 ∨ i = 41 ∨ i = 42 by omega) with rfl | rfl | rfl | rfl | rfl <;> assumption
theorem gF_K (h : Nat) : (gF h).2.1 = kF h := by unfold gF; rw [gMo_K, pAdd_K, gXf_K, pAdd_K]; rfl
theorem gF_N (h : Nat) : (gF h).2.2.1 = nF h := by unfold gF; rw [gMo_N, pAdd_N, gXf_N, pAdd_N]; rfl
theorem gF_P (h : Nat) {b : Nat} (hb : b ≠ h + 43) : (gF h).2.2.2 b = (gXf (pAdd (g0 h) h) h).2.2.2 b := by unfold gF; rw [gMo_P _ _ hb]; rfl
theorem gF_m (h : Nat) {i : Nat} (hi : i < 43) : h + i ∈ (gF h).1 := gMo_m _ _ (pm_old _ (gXf_m _ h (pm_new _ _) hi)) 25
theorem gF_mm (h : Nat) {i : Nat} (hi : i < 26) : h + 43 + i ∈ (gF h).1 := by
  rcases Nat.eq_zero_or_pos i with q | q
  · rw [q]; exact gMo_m _ _ (pm_new _ _) 25
  · have := gMo_m2 (pAdd (gXf (pAdd (g0 h) h) h) (h + 43)) (h + 43) 25 (i - 1) (by omega)
    rw [show h + 43 + (1 + (i - 1)) = h + 43 + i by omega] at this
    exact this
theorem gF_cx (h : Nat) {i k : Nat} (hi : i < 43) (hk : kX i = k) : h + i ∈ (gF h).1 ∧ (gF h).2.1 (h + i) = k := ⟨gF_m h hi, by rw [gF_K, kF_x hi]; exact hk⟩
theorem gF_ax (h : Nat) {i k n : Nat} (hi : i < 43) (hk : kX i = k) (hn : nX i = n) : h + i ∈ (gF h).1 ∧ (gF h).2.1 (h + i) = k ∧ (gF h).2.2.1 (h + i) = n := ⟨gF_m h hi, by rw [gF_K, kF_x hi]; exact hk, by rw [gF_N, nF_x hi]; exact hn⟩
section GX
variable (h : Nat)
theorem gx_P {b : Nat} (h0 : b ≠ h) (h1 : b ≠ h + 39) (h2 : b ≠ h + 41) (h3 : b ≠ h + 43) : (gF h).2.2.2 b = (gRu (gZn (gOne (pAdd (g0 h) h) h) h 4) h 6).2.2.2 b := by
  rw [gF_P h h3]; unfold gXf; exact gEnd_P _ h h0 h1 h2
theorem gx_h (k : Nat) : (gF h).2.2.2 h k = (gXf (pAdd (g0 h) h) h).2.2.2 h k := by rw [gF_P h (by omega)]
theorem gx_0 : (gF h).2.2.2 h 0 = some (h + 1) := by
  rw [gx_h]; unfold gXf
  rw [(gEnd_h _ h).2.2.2.2.2 0 (by decide), gRu_h, va_up_ne _ _ (by decide), gZn_h, va_up_ne _ _ (by decide)]
  unfold gOne
  exact pm_Ps _ _ _ _
theorem gx_1 : (gF h).2.2.2 h 1 = some (h + 20) := by
  rw [gx_h]; unfold gXf
  rw [(gEnd_h _ h).2.2.2.2.2 1 (by decide), gRu_h, va_up_ne _ _ (by decide), gZn_h, va_up_self]
theorem gx_2 : (gF h).2.2.2 h 2 = some (h + 25) := by
  rw [gx_h]; unfold gXf
  rw [(gEnd_h _ h).2.2.2.2.2 2 (by decide), gRu_h, va_up_self]
theorem gx_3 : (gF h).2.2.2 h 3 = some (h + 38) := by rw [gx_h]; exact (gEnd_h _ h).1
theorem gx_4 : (gF h).2.2.2 h 4 = some (h + 39) := by rw [gx_h]; exact (gEnd_h _ h).2.1
theorem gx_5 : (gF h).2.2.2 h 5 = some (h + 41) := by rw [gx_h]; exact (gEnd_h _ h).2.2.1
theorem gx_pad : (gF h).2.2.2 (h + 39) 0 = some (h + 40) := by rw [gF_P h (by omega)]; exact (gEnd_h _ h).2.2.2.1
theorem gx_log : (gF h).2.2.2 (h + 41) 0 = some (h + 42) := by rw [gF_P h (by omega)]; exact (gEnd_h _ h).2.2.2.2.1
theorem gx_rule {j : Nat} (hj : j < 6) : (gF h).2.2.2 (h + 25) j = some (h + (26 + 2 * j)) ∧ (gF h).2.2.2 (h + (26 + 2 * j)) 0 = some (h + (27 + 2 * j)) := by
  rw [gx_P h (by omega) (by omega) (by omega) (by omega), gx_P h (by omega) (by omega) (by omega) (by omega)]
  exact gRu_s _ h 6 j hj
theorem gx_zone {j : Nat} (hj : j < 4) : (gF h).2.2.2 (h + 20) j = some (h + (21 + j)) := by
  rw [gx_P h (by omega) (by omega) (by omega) (by omega), gRu_P _ h (by omega) (by omega) 6 (fun j hj => by omega)]
  exact gZn_s _ h 4 j hj
theorem gx_ring : (gF h).2.2.2 (h + 1) 0 = some (h + 2) ∧ (gF h).2.2.2 (h + 1) 1 = some (h + 19) ∧ ∀ j, j < 16 → (gF h).2.2.2 (h + 2) j = some (h + (3 + j)) := by
  rw [gx_P h (by omega) (by omega) (by omega) (by omega), gx_P h (by omega) (by omega) (by omega) (by omega), gRu_P _ h (by omega) (by omega) 6 (fun j hj => by omega), gRu_P _ h (by omega) (by omega) 6 (fun j hj => by omega), gZn_P _ h (by omega) (by omega), gZn_P _ h (by omega) (by omega)]
  unfold gOne
  rw [pm_P _ _ (by omega), pm_P _ _ (by omega)]
  refine ⟨gRing_0 _ (by omega), gRing_1 _ _ _, fun j hj => ?_⟩
  rw [gRing_s _ (by omega) hj]
  congr 1
  omega
end GX
theorem kX_s : ∀ i, i < 6 → kX (26 + 2 * i) = 4 ∧ kX (27 + 2 * i) = 10 ∧ nX (27 + 2 * i) = 20 := by decide
theorem aX_p (h : Nat) {i : Nat} (hi : i < 16) : aX h (3 + i) = h + (3 + i) := by unfold aX; rw [if_pos (by omega)]
theorem aX_z (h : Nat) {i : Nat} (hi : i < 4) : aX h (21 + i) = h + (21 + i) := by unfold aX; rw [if_pos (by omega)]
theorem aX_r (h : Nat) {i : Nat} (hi : i < 6) : aX h (26 + i) = h + (26 + 2 * i) ∧ aX h (32 + i) = h + (27 + 2 * i) := by
  unfold aX
  rw [if_neg (by omega), if_pos (by omega), if_neg (by omega), if_neg (by omega), if_pos (by omega)]
  exact ⟨by omega, by omega⟩
theorem wX_F (h : Nat) : wX (gF h) (aX h) := by
  obtain ⟨r0, r1, r2⟩ := gx_ring h
  refine ⟨⟨(gF_cx h (i := 0) (by decide) rfl).1, (gF_cx h (i := 0) (by decide) rfl).2, gx_0 h, gx_1 h, gx_2 h, gx_3 h, gx_4 h, gx_5 h⟩, ⟨⟨(gF_cx h (i := 1) (by decide) rfl).1, (gF_cx h (i := 1) (by decide) rfl).2, r0, r1⟩, gF_ax h (i := 2) (by decide) rfl rfl, gF_ax h (i := 19) (by decide) rfl rfl, fun i hi => ?_⟩, ⟨(gF_ax h (i := 20) (by decide) rfl rfl).1, (gF_ax h (i := 20) (by decide) rfl rfl).2.1, (gF_ax h (i := 20) (by decide) rfl rfl).2.2, fun i hi => ?_⟩, ⟨(gF_ax h (i := 25) (by decide) rfl rfl).1, (gF_ax h (i := 25) (by decide) rfl rfl).2.1, (gF_ax h (i := 25) (by decide) rfl rfl).2.2, fun i hi => ?_⟩, gF_ax h (i := 38) (by decide) rfl rfl, ⟨(gF_cx h (i := 39) (by decide) rfl).1, (gF_cx h (i := 39) (by decide) rfl).2, gx_pad h, gF_ax h (i := 40) (by decide) rfl rfl⟩, ⟨(gF_cx h (i := 41) (by decide) rfl).1, (gF_cx h (i := 41) (by decide) rfl).2, gx_log h, gF_ax h (i := 42) (by decide) rfl rfl⟩⟩
  · show (gF h).2.2.2 (h + 2) i = some (aX h (3 + i)) ∧ aX h (3 + i) ∈ (gF h).1 ∧ (gF h).2.1 (aX h (3 + i)) = 2
    rw [aX_p h hi]
    exact ⟨r2 i hi, gF_cx h (by omega) (kX_p i hi)⟩
  · show (gF h).2.2.2 (h + 20) i = some (aX h (21 + i)) ∧ _
    rw [aX_z h hi]
    exact ⟨gx_zone h hi, gF_cx h (by omega) (kX_z i hi)⟩
  · show (gF h).2.2.2 (h + 25) i = some (aX h (26 + i)) ∧ _
    rw [(aX_r h hi).1, (aX_r h hi).2]
    obtain ⟨q1, q2⟩ := gx_rule h hi
    obtain ⟨k1, k2, k3⟩ := kX_s i hi
    exact ⟨q1, (gF_cx h (by omega) k1).1, (gF_cx h (by omega) k1).2, q2, gF_ax h (by omega) k2 k3⟩
theorem tM_tab : ∀ k, k < 34 → ∀ kd n, wMt k = some (kd, n) → 0 < tM k ∧ tM k < 26 ∧ kM (tM k) = kd ∧ nM (tM k) = n ∧ slM (tM k - 1) = k := by
  intro k hk kd n e
  have key : ∀ k, k < 34 → ∀ q, wMt k = some q → 0 < tM k ∧ tM k < 26 ∧ kM (tM k) = q.1 ∧ nM (tM k) = q.2 ∧ slM (tM k - 1) = k := by decide
  exact key k hk _ e
theorem wMt_lt {k : Nat} {q : Nat × Nat} (e : wMt k = some q) : k < 34 := by
  rcases Nat.lt_or_ge k 34 with h | h
  · exact h
  · exfalso
    have : wMt k = none := by
      unfold wMt
      split <;> first | (exfalso; omega) | rfl
    rw [this] at e
    cases e
theorem wM_F (h : Nat) : wM (gF h) (aM h) := by
  have e0 : aM h 0 = h + 43 := rfl
  refine ⟨gF_mm h (i := 0) (by decide), by rw [gF_K, e0]; exact kF_m (i := 0), fun k kd n e => ?_, aM_inj h⟩
  have hk := wMt_lt e
  obtain ⟨t0, t1, t2, t3, t4⟩ := tM_tab k hk kd n e
  refine ⟨?_, gF_mm h t1, by rw [gF_K]; exact kF_m.trans t2, by rw [gF_N]; exact nF_m.trans t3⟩
  rw [e0]
  have := gMo_s (pAdd (gXf (pAdd (g0 h) h) h) (h + 43)) (h + 43) 25 (by decide) (tM k - 1) (by omega)
  rw [t4, show h + 43 + (1 + (tM k - 1)) = aM h k by unfold aM; omega] at this
  exact this
/-- the panel's memory and the reference's, at the start -/
theorem mF_x (h : Nat) {i : Nat} (hi : i < 43) (k : Nat) : (mF h).1 (h + i) k = if 21 ≤ i ∧ i < 25 ∧ k = 0 then 1 else 0 := by
  unfold mF
  rw [mMo_o _ _ (by omega)]
  have key : ∀ n, n ≤ 4 → (mZn m0 h n).1 (h + i) k = if 21 ≤ i ∧ i < 21 + n ∧ k = 0 then 1 else 0 := by
    intro n
    induction n with
    | zero => intro _; rw [if_neg (by omega)]; rfl
    | succ n ih =>
      intro hn
      rw [mZn]
      by_cases e : i = 21 + n
      · rw [e, pI_rd]
        by_cases e2 : k = 0
        · rw [if_pos e2, if_pos (by omega)]
        · rw [if_neg e2, if_neg (by omega), ← e, ih (by omega), if_neg (by omega)]
      · rw [pI_1n _ _ _ (by omega), ih (by omega)]
        by_cases q : 21 ≤ i ∧ i < 21 + n ∧ k = 0
        · rw [if_pos q, if_pos (by omega)]
        · rw [if_neg q, if_neg (by omega)]
  exact key 4 (by decide)
theorem mF_m (h : Nat) {i : Nat} (hi : i < 200) (k : Nat) : (mF h).1 (h + 43 + i) k = if i = 14 ∧ k < 4 then 1 else 0 := by
  unfold mF
  have key : ∀ n, n ≤ 4 → (mMo (mZn m0 h 4) (h + 43) n).1 (h + 43 + i) k = if i = 14 ∧ k < n then 1 else 0 := by
    intro n
    induction n with
    | zero =>
      intro _
      rw [if_neg (by omega), mMo, mZn_o _ _ _ (fun j hj => by omega)]; rfl
    | succ n ih =>
      intro hn
      rw [mMo]
      by_cases e : i = 14
      · subst e
        rw [pI_rd]
        by_cases e2 : k = n
        · rw [if_pos e2, if_pos (by omega)]
        · rw [if_neg e2, ih (by omega)]
          by_cases q : k < n
          · rw [if_pos ⟨rfl, q⟩, if_pos (by omega)]
          · rw [if_neg (by omega), if_neg (by omega)]
      · rw [pI_1n _ _ _ (by omega), ih (by omega), if_neg (by omega), if_neg (by omega)]
  exact key 4 (by decide)
theorem mF_2 (h a k : Nat) : (mF h).2 a k = 0 := by
  unfold mF
  rw [mMo_2, mZn_2]; rfl
