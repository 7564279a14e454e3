/-! new FirePanel(): its cells lie behind it, at h + 1 .. h + 42. -/
def kX (i : Nat) : Nat := ([6, 3, 12, 2, 2, 2, 2, 2, 2, 2, 2, 2, 2, 2, 2, 2, 2, 2, 2, 10, 14, 5, 5, 5, 5, 13, 4, 10, 4, 10, 4, 10, 4, 10, 4, 10, 4, 10, 11, 1, 8, 0, 10] : List Nat).getD i 0
def nX (i : Nat) : Nat := ([0, 0, 16, 0, 0, 0, 0, 0, 0, 0, 0, 0, 0, 0, 0, 0, 0, 0, 0, 17, 4, 0, 0, 0, 0, 6, 0, 20, 0, 20, 0, 20, 0, 20, 0, 20, 0, 20, 6, 0, 20, 0, 48] : List Nat).getD i 0
theorem kX_p : ∀ i, i < 16 → kX (3 + i) = 2 := by decide
theorem kX_z : ∀ i, i < 4 → kX (21 + i) = 5 := by decide
theorem kX_r : ∀ i, i < 6 → kX (26 + 2 * i) = 4 ∧ kX (27 + 2 * i) = 10 ∧ nX (27 + 2 * i) = 20 := by decide
def gZn (G : pG) (h : Nat) : Nat → pG
  | 0 => pPut (pAdd G (h + 20)) h 1 (h + 20)
  | i + 1 => pPut (pAdd (gZn G h i) (h + (21 + i))) (h + 20) i (h + (21 + i))
def mZn (M : pM) (h : Nat) : Nat → pM
  | 0 => M
  | i + 1 => pI (mZn M h i) (h + (21 + i)) 0 1
def gRu (G : pG) (h : Nat) : Nat → pG
  | 0 => pPut (pAdd G (h + 25)) h 2 (h + 25)
  | i + 1 => pPut (pPut (pAdd (pAdd (gRu G h i) (h + (26 + 2 * i))) (h + (27 + 2 * i))) (h + (26 + 2 * i)) 0 (h + (27 + 2 * i))) (h + 25) i (h + (26 + 2 * i))
def gEnd (G : pG) (h : Nat) : pG := pPut (pPut (pAdd (pAdd (pPut (pPut (pAdd (pAdd (pPut (pAdd G (h + 38)) h 3 (h + 38)) (h + 39)) (h + 40)) (h + 39) 0 (h + 40)) h 4 (h + 39)) (h + 41)) (h + 42)) (h + 41) 0 (h + 42)) h 5 (h + 41)
def gOne (G : pG) (h : Nat) : pG := pPut (gRing (pAdd G (h + 1)) (h + 2) (h + 1)) h 0 (h + 1)
theorem gZn_K (G : pG) (h : Nat) : ∀ i, (gZn G h i).2.1 = G.2.1
  | 0 => rfl
  | i + 1 => gZn_K G h i
theorem gZn_N (G : pG) (h : Nat) : ∀ i, (gZn G h i).2.2.1 = G.2.2.1
  | 0 => rfl
  | i + 1 => gZn_N G h i
theorem gRu_K (G : pG) (h : Nat) : ∀ i, (gRu G h i).2.1 = G.2.1
  | 0 => rfl
  | i + 1 => gRu_K G h i
theorem gRu_N (G : pG) (h : Nat) : ∀ i, (gRu G h i).2.2.1 = G.2.2.1
  | 0 => rfl
  | i + 1 => gRu_N G h i
theorem gRing_K (G : pG) (sz r : Nat) : (gRing G sz r).2.1 = G.2.1 := gRg_K G sz r 16
theorem gRing_N (G : pG) (sz r : Nat) : (gRing G sz r).2.2.1 = G.2.2.1 := gRg_N G sz r 16
theorem gZn_m (G : pG) (h : Nat) {b : Nat} (hb : b ∈ G.1) : ∀ i, b ∈ (gZn G h i).1
  | 0 => pm_old _ hb
  | i + 1 => pm_old _ (gZn_m G h hb i)
theorem gZn_m2 (G : pG) (h : Nat) : ∀ i j, j ≤ i → h + (20 + j) ∈ (gZn G h i).1
  | 0, j, hj => by rw [show j = 0 by omega]; exact pm_new _ _
  | i + 1, j, hj => by
    by_cases e : j = i + 1
    · rw [e, show h + (20 + (i + 1)) = h + (21 + i) by omega]; exact pm_new _ _
    · exact pm_old _ (gZn_m2 G h i j (by omega))
theorem gRu_m (G : pG) (h : Nat) {b : Nat} (hb : b ∈ G.1) : ∀ i, b ∈ (gRu G h i).1
  | 0 => pm_old _ hb
  | i + 1 => pm_old _ (pm_old _ (gRu_m G h hb i))
theorem gRu_m2 (G : pG) (h : Nat) : ∀ i j, j ≤ 2 * i → h + (25 + j) ∈ (gRu G h i).1
  | 0, j, hj => by rw [show j = 0 by omega]; exact pm_new _ _
  | i + 1, j, hj => by
    by_cases e : j = 2 * i + 2
    · rw [e, show h + (25 + (2 * i + 2)) = h + (27 + 2 * i) by omega]; exact pm_new _ _
    · by_cases e2 : j = 2 * i + 1
      · rw [e2, show h + (25 + (2 * i + 1)) = h + (26 + 2 * i) by omega]; exact pm_old _ (pm_new _ _)
      · exact pm_old _ (pm_old _ (gRu_m2 G h i j (by omega)))
theorem gRing_m (G : pG) (sz r : Nat) {b : Nat} (hb : b ∈ G.1) : b ∈ (gRing G sz r).1 := pm_old _ (gRg_m G sz r hb 16)
theorem gRing_m2 (G : pG) (sz r : Nat) {j : Nat} (hj : j ≤ 17) : sz + j ∈ (gRing G sz r).1 := by
  by_cases e : j = 17
  · rw [e]; exact pm_new _ _
  · exact pm_old _ (gRg_m2 G sz r 16 j (by omega))
theorem gZn_P (G : pG) (h : Nat) {b : Nat} (h1 : b ≠ h) (h2 : b ≠ h + 20) : ∀ i, (gZn G h i).2.2.2 b = G.2.2.2 b
  | 0 => pm_P _ _ h1
  | i + 1 => (pm_P _ _ h2).trans (gZn_P G h h1 h2 i)
theorem gZn_h (G : pG) (h : Nat) : ∀ i, (gZn G h i).2.2.2 h = va_up (G.2.2.2 h) 1 (some (h + 20))
  | 0 => by simp [gZn, pPut, pAdd, va_up]
  | i + 1 => (pm_P _ _ (by omega)).trans (gZn_h G h i)
theorem gZn_s (G : pG) (h : Nat) : ∀ i j, j < i → (gZn G h i).2.2.2 (h + 20) j = some (h + (21 + j))
  | 0, j, hj => by omega
  | i + 1, j, hj => by
    by_cases e : j = i
    · subst e; exact pm_Ps _ _ _ _
    · exact (pm_Pn _ _ _ e).trans (gZn_s G h i j (by omega))
theorem mZn_o (M : pM) (h : Nat) {b : Nat} : ∀ i, (∀ j, j < i → b ≠ h + (21 + j)) → (mZn M h i).1 b = M.1 b
  | 0, _ => rfl
  | i + 1, hb => by rw [mZn, pI_1n _ _ _ (hb i (by omega)), mZn_o M h i (fun j hj => hb j (by omega))]
theorem mZn_2 (M : pM) (h : Nat) : ∀ i, (mZn M h i).2 = M.2
  | 0 => rfl
  | i + 1 => mZn_2 M h i
theorem gRu_P (G : pG) (h : Nat) {b : Nat} (h1 : b ≠ h) (h2 : b ≠ h + 25) : ∀ i, (∀ j, j < i → b ≠ h + (26 + 2 * j)) → (gRu G h i).2.2.2 b = G.2.2.2 b
  | 0, _ => pm_P _ _ h1
  | i + 1, hb => (pm_P _ _ h2).trans ((pm_P _ _ (hb i (by omega))).trans (gRu_P G h h1 h2 i (fun j hj => hb j (by omega))))
theorem gRu_h (G : pG) (h : Nat) : ∀ i, (gRu G h i).2.2.2 h = va_up (G.2.2.2 h) 2 (some (h + 25))
  | 0 => by simp [gRu, pPut, pAdd, va_up]
  | i + 1 => (pm_P _ _ (by omega)).trans ((pm_P _ _ (by omega)).trans (gRu_h G h i))
theorem gRu_s (G : pG) (h : Nat) : ∀ i j, j < i → (gRu G h i).2.2.2 (h + 25) j = some (h + (26 + 2 * j)) ∧ (gRu G h i).2.2.2 (h + (26 + 2 * j)) 0 = some (h + (27 + 2 * j))
  | 0, j, hj => by omega
  | i + 1, j, hj => by
    by_cases e : j = i
    · subst e
      exact ⟨pm_Ps _ _ _ _, by rw [gRu, pm_P _ _ (by omega)]; exact pm_Ps _ _ _ _⟩
    · obtain ⟨h1, h2⟩ := gRu_s G h i j (by omega)
      refine ⟨(pm_Pn _ _ _ e).trans ?_, ?_⟩
      · exact (congrFun (pm_P _ _ (by omega)) j).trans h1
      · rw [gRu, pm_P _ _ (by omega), pm_P _ _ (by omega)]; exact h2

theorem pm_put {G : pG} {b : Nat} (a k v : Nat) (h : b ∈ G.1) : b ∈ (pPut G a k v).1 := h
theorem gRing_P (G : pG) (sz r : Nat) {b : Nat} (h1 : b ≠ r) (h2 : b ≠ sz) : (gRing G sz r).2.2.2 b = G.2.2.2 b := by
  unfold gRing
  rw [pm_P _ _ h1]
  exact gRg_P G sz r h1 h2 16
theorem gRing_0 (G : pG) {sz r : Nat} (h : r ≠ sz) : (gRing G sz r).2.2.2 r 0 = some sz := by
  unfold gRing
  rw [pm_Pn _ _ _ (by decide)]
  show (gRg G sz r 16).2.2.2 r 0 = some sz
  rw [gRg_r G h]; rfl
theorem gRing_1 (G : pG) (sz r : Nat) : (gRing G sz r).2.2.2 r 1 = some (sz + 17) := by
  unfold gRing
  exact pm_Ps _ _ _ _
theorem gRing_s (G : pG) {sz r : Nat} (h : r ≠ sz) {j : Nat} (hj : j < 16) : (gRing G sz r).2.2.2 sz j = some (sz + 1 + j) := by
  unfold gRing
  rw [pm_P _ _ (Ne.symm h)]
  exact gRg_s G h 16 j hj
theorem gOne_m {G : pG} {h b : Nat} (hb : b ∈ G.1) : b ∈ (gOne G h).1 := pm_put _ _ _ (gRing_m _ _ _ (pm_old _ hb))
theorem gOne_m1 (G : pG) (h : Nat) : h + 1 ∈ (gOne G h).1 := pm_put _ _ _ (gRing_m _ _ _ (pm_new _ _))
theorem gOne_m2 (G : pG) (h : Nat) {j : Nat} (hj : j ≤ 17) : h + 2 + j ∈ (gOne G h).1 := pm_put _ _ _ (gRing_m2 _ _ _ hj)
theorem pPut_K (G : pG) (a k v : Nat) : (pPut G a k v).2.1 = G.2.1 := rfl
theorem pPut_N (G : pG) (a k v : Nat) : (pPut G a k v).2.2.1 = G.2.2.1 := rfl
theorem pAdd_K (G : pG) (q : Nat) : (pAdd G q).2.1 = G.2.1 := rfl
theorem pAdd_N (G : pG) (q : Nat) : (pAdd G q).2.2.1 = G.2.2.1 := rfl
theorem gOne_K (G : pG) (h : Nat) : (gOne G h).2.1 = G.2.1 := by unfold gOne; rw [pPut_K, gRing_K, pAdd_K]
theorem gOne_N (G : pG) (h : Nat) : (gOne G h).2.2.1 = G.2.2.1 := by unfold gOne; rw [pPut_N, gRing_N, pAdd_N]
theorem gOne_P (G : pG) (h : Nat) {b : Nat} (h0 : b ≠ h) (h1 : b ≠ h + 1) (h2 : b ≠ h + 2) : (gOne G h).2.2.2 b = G.2.2.2 b := by
  unfold gOne
  rw [pm_P _ _ h0, gRing_P _ _ _ h1 h2]; rfl

set_option maxHeartbeats 1600000 in
set_option maxRecDepth 100000 in
theorem nl_X6_init_85 {C : jC} {G : pG} {X : va_W} {M : pM} {h : Nat} (E9 : jE C cX6_init 2 wsX6_init RX6 none ({ frames := 6, cells := 42, slots := 462, locals := 120 } : Room)) (hinit : (jme C).name = "<init>") (hao : jAO C) (hb : (js C).heap.size = h + 1) (hm : h ∈ G.1) (hTK : ∀ i, i < 43 → G.2.1 (h + i) = kX i) (hTN : ∀ i, i < 43 → G.2.2.1 (h + i) = nX i) (hl : h + 37 ∈ G.1) (hz : ∀ i, 38 ≤ i → i < 43 → pZ G M (h + i)) {i : Int32} : jW (jS C G) 2 85 [(0, .ref h), (1, .int i)] [] X M 37 383 (jZ (jS C (gEnd G h)) X M none 42 462) := by
  have hinX0 : ∀ w ∈ u_ws RX0 TX0 2, w ∈ wsX6_init := by decide +kernel
  have hinX1 : ∀ w ∈ u_ws RX1 TX1 3, w ∈ wsX6_init := by decide +kernel
  have hinX3 : ∀ w ∈ u_ws RX3 TX3 2, w ∈ wsX6_init := by decide +kernel
  have hinX4 : ∀ w ∈ u_ws RX4 TX4 5, w ∈ wsX6_init := by decide +kernel
  have hinX5 : ∀ w ∈ u_ws RX5 TX5 3, w ∈ wsX6_init := by decide +kernel
  have hinX6 : ∀ w ∈ u_ws RX6 TX6 10, w ∈ wsX6_init := by decide +kernel
  have E : ∀ G, jE (jS C G) cX6_init 2 wsX6_init RX6 none ({ frames := 6, cells := 42, slots := 462, locals := 120 } : Room) := fun _ => E9
  refine j_aload_n (E _) dX6_init_85 rfl rfl ?_
  refine j_bipush (v := 6) (E _) dX6_init_86 (by decide) ?_
  refine n_newaZ (N := 6) (q := (h + 38)) E9 dX6_init_88 (by decide +kernel) rfl (by decide) (by rw [hb] <;> omega) (Or.inr (by rw [hb, show h + 1 + (37 - 1) = h + 37 by omega]; exact hl)) (hTK 38 (by decide)) (hTN 38 (by decide)) (hz 38 (by omega) (by omega)) (by decide) (by decide) ?_
  refine n_putR (ci := 6) (k := 3) (Cn := RX6) (T := TX6) (N := 10) E9 hinit dX6_init_90 (pm_old _ hm) (hTK 0 (by decide)) rfl (by decide) hinX6 (by decide +kernel) rfl tyX6 tyX6_ok nmX6 rfl rfl rfl rfl rfl ?_
  refine j_aload_n (E _) dX6_init_93 rfl rfl ?_
  refine n_new (ci := 1) (N := 3) (Cn := RX1) (T := TX1) (q := (h + 39)) E9 dX6_init_94 rfl hinX1 tyX1 tyX1_ok (by decide +kernel) (by decide +kernel) (by decide +kernel) dfX1 (by rw [hb] <;> omega) (Or.inr (by rw [hb, show h + 1 + (38 - 1) = h + 38 by omega]; exact (pm_new _ _))) (hTK 39 (by decide)) (pZ_of (hz 39 (by omega) (by omega)) rfl rfl (pm_P _ _ (by omega))) (by decide) (by decide) ?_
  refine j_dup (E _) dX6_init_97 rfl ?_
  refine n_callN (maxL := 1) (sz := (h + 40)) E9 hao (n_X1_init (g := h + 39) (pm_new _ _) (hTK 39 (by decide)) (hTK 40 (by decide)) (hTN 40 (by decide)) (pZ_of (hz 40 (by omega) (by omega)) rfl rfl (pm_P _ _ (by omega)))) (by rw [hb] <;> omega) (Or.inr (by rw [hb, show h + 1 + (39 - 1) = h + 39 by omega]; exact (pm_new _ _))) dX6_init_98 gX6_init_X1_init rfl (by decide +kernel) (by decide +kernel) (by decide +kernel) rfl (by decide +kernel) ⟨rfl, rfl, by decide, by decide⟩ ⟨by decide, by decide⟩ (Nat.le_of_ble_eq_true rfl) ?_
  refine n_putR (ci := 6) (k := 4) (Cn := RX6) (T := TX6) (N := 10) E9 hinit dX6_init_101 (pm_old _ (pm_old _ (pm_old _ hm))) (hTK 0 (by decide)) rfl (by decide) hinX6 (by decide +kernel) rfl tyX6 tyX6_ok nmX6 rfl rfl rfl rfl rfl ?_
  refine j_aload_n (E _) dX6_init_104 rfl rfl ?_
  refine n_new (ci := 0) (N := 2) (Cn := RX0) (T := TX0) (q := (h + 41)) E9 dX6_init_105 rfl hinX0 tyX0 tyX0_ok (by decide +kernel) (by decide +kernel) (by decide +kernel) dfX0 (by rw [hb] <;> omega) (Or.inr (by rw [hb, show h + 1 + (40 - 1) = h + 40 by omega]; exact (pm_new _ _))) (hTK 41 (by decide)) (pZ_of (hz 41 (by omega) (by omega)) rfl rfl ((pm_P _ _ (by omega)).trans ((pm_P _ _ (by omega)).trans (pm_P _ _ (by omega))))) (by decide) (by decide) ?_
  refine j_dup (E _) dX6_init_108 rfl ?_
  refine n_callN (maxL := 1) (sz := (h + 42)) E9 hao (n_X0_init (g := h + 41) (pm_new _ _) (hTK 41 (by decide)) (hTK 42 (by decide)) (hTN 42 (by decide)) (pZ_of (hz 42 (by omega) (by omega)) rfl rfl ((pm_P _ _ (by omega)).trans ((pm_P _ _ (by omega)).trans (pm_P _ _ (by omega)))))) (by rw [hb] <;> omega) (Or.inr (by rw [hb, show h + 1 + (41 - 1) = h + 41 by omega]; exact (pm_new _ _))) dX6_init_109 gX6_init_X0_init rfl (by decide +kernel) (by decide +kernel) (by decide +kernel) rfl (by decide +kernel) ⟨rfl, rfl, by decide, by decide⟩ ⟨by decide, by decide⟩ (Nat.le_of_ble_eq_true rfl) ?_
  refine n_putR (ci := 6) (k := 5) (Cn := RX6) (T := TX6) (N := 10) E9 hinit dX6_init_112 (pm_old _ (pm_old _ (pm_old _ (pm_old _ (pm_old _ hm))))) (hTK 0 (by decide)) rfl (by decide) hinX6 (by decide +kernel) rfl tyX6 tyX6_ok nmX6 rfl rfl rfl rfl rfl ?_
  exact j_vret (E _) dX6_init_115 rfl (by rfl)

set_option maxHeartbeats 1600000 in
set_option maxRecDepth 100000 in
theorem nl_X6_init_60 {C : jC} {G : pG} {X : va_W} {M : pM} {h : Nat} (E9 : jE C cX6_init 2 wsX6_init RX6 none ({ frames := 6, cells := 42, slots := 462, locals := 120 } : Room)) (hinit : (jme C).name = "<init>") (hao : jAO C) (hb : (js C).heap.size = h + 1) (hm : h ∈ G.1) (hTK : ∀ i, i < 43 → G.2.1 (h + i) = kX i) (hTN : ∀ i, i < 43 → G.2.2.1 (h + i) = nX i) (hz : ∀ i, 25 ≤ i → i < 43 → pZ G M (h + i)) : ∀ (n i : Nat), i + n = 6 → jW (jS C (gRu G h i)) 2 60 [(0, .ref h), (1, .int (nI i))] [] X M (25 + 2 * i) (233 + 25 * i) (jZ (jS C (gEnd (gRu G h 6) h)) X M none 42 462) := by
  have hinX0 : ∀ w ∈ u_ws RX0 TX0 2, w ∈ wsX6_init := by decide +kernel
  have hinX1 : ∀ w ∈ u_ws RX1 TX1 3, w ∈ wsX6_init := by decide +kernel
  have hinX3 : ∀ w ∈ u_ws RX3 TX3 2, w ∈ wsX6_init := by decide +kernel
  have hinX4 : ∀ w ∈ u_ws RX4 TX4 5, w ∈ wsX6_init := by decide +kernel
  have hinX5 : ∀ w ∈ u_ws RX5 TX5 3, w ∈ wsX6_init := by decide +kernel
  have hinX6 : ∀ w ∈ u_ws RX6 TX6 10, w ∈ wsX6_init := by decide +kernel
  have E : ∀ G, jE (jS C G) cX6_init 2 wsX6_init RX6 none ({ frames := 6, cells := 42, slots := 462, locals := 120 } : Room) := fun _ => E9
  intro n
  induction n with
  | zero =>
    intro i hn
    have he : i = 6 := by omega
    refine j_iload_n (E _) dX6_init_60 rfl rfl ?_
    refine j_bipush (v := 6) (E _) dX6_init_61 (by decide) ?_
    refine j_icmp_ge (tgt := 85) (E _) dX6_init_63 (by decide) (fun hc => ?_) (fun hc => absurd (by rw [he]; decide) hc)
    subst he
    exact nl_X6_init_85 E9 hinit hao hb (gRu_m G h hm 6) (by rw [gRu_K]; exact hTK) (by rw [gRu_N]; exact hTN) (gRu_m2 G h 6 12 (by omega)) (fun i h1 h2 => pZ_of (hz i (by omega) h2) rfl rfl (gRu_P G h (by omega) (by omega) 6 (fun j hj => by omega)))
  | succ n ih =>
    intro i hn
    have hi : i < 6 := by omega
    refine j_iload_n (E _) dX6_init_60 rfl rfl ?_
    refine j_bipush (v := 6) (E _) dX6_init_61 (by decide) ?_
    refine j_icmp_ge (tgt := 85) (E _) dX6_init_63 (by decide) (fun h63 => ?_) (fun h63 => ?_)
    · exact absurd h63 (nI_ge (b := 6) hi (by decide))
    · refine j_aload_n (E _) dX6_init_66 rfl rfl ?_
      refine j_getP (ci := 6) (k := 2) (Cn := RX6) (T := TX6) (N := 10) (E _) dX6_init_67 (gRu_m G h hm i) (by show (gRu G h i).2.1 h = 6; rw [gRu_K]; exact hTK 0 (by decide)) rfl (by decide) hinX6 (by decide +kernel) rfl (by show (gRu G h i).2.2.2 h 2 = some (h + 25); rw [gRu_h]; rfl) ?_
      refine j_iload_n (E _) dX6_init_70 rfl rfl ?_
      refine n_new (ci := 4) (N := 5) (Cn := RX4) (T := TX4) (q := (h + (26 + 2 * i))) E9 dX6_init_71 rfl hinX4 tyX4 tyX4_ok (by decide +kernel) (by decide +kernel) (by decide +kernel) dfX4 (by rw [hb]; omega) (Or.inr (by rw [hb, show h + 1 + (25 + 2 * i - 1) = h + (25 + 2 * i) by omega]; exact gRu_m2 G h i (2 * i) (Nat.le_refl _))) (by rw [gRu_K]; exact (hTK (26 + 2 * i) (by omega)).trans (kX_r i hi).1) (pZ_of (hz (26 + 2 * i) (by omega) (by omega)) rfl rfl (gRu_P G h (by omega) (by omega) i (fun j hj => by omega))) (by show 25 + 2 * i + 1 ≤ 42; omega) (by show 233 + 25 * i + 5 ≤ 462; omega) ?_
      refine j_dup (E _) dX6_init_74 rfl ?_
      refine n_callN (maxL := 1) (sz := (h + (27 + 2 * i))) E9 hao (n_X4_init (g := h + (26 + 2 * i)) (pm_new _ _) (by show (gRu G h i).2.1 (h + (26 + 2 * i)) = 4; rw [gRu_K]; exact (hTK (26 + 2 * i) (by omega)).trans (kX_r i hi).1) (by show (gRu G h i).2.1 (h + (27 + 2 * i)) = 10; rw [gRu_K]; exact (hTK (27 + 2 * i) (by omega)).trans (kX_r i hi).2.1) (by show (gRu G h i).2.2.1 (h + (27 + 2 * i)) = 20; rw [gRu_N]; exact (hTN (27 + 2 * i) (by omega)).trans (kX_r i hi).2.2) (pZ_of (hz (27 + 2 * i) (by omega) (by omega)) rfl rfl (gRu_P G h (by omega) (by omega) i (fun j hj => by omega)))) (by rw [hb]; omega) (Or.inr (by rw [hb, show h + 1 + (25 + 2 * i + 1 - 1) = h + (26 + 2 * i) by omega]; exact pm_new _ _)) dX6_init_75 gX6_init_X4_init rfl (by decide +kernel) (by decide +kernel) (by decide +kernel) rfl (by decide +kernel) ⟨rfl, rfl, by decide, by decide⟩ ⟨by show 25 + 2 * i + 1 + 1 ≤ 42; omega, by show 233 + 25 * i + 5 + 20 ≤ 462; omega⟩ (Nat.le_of_ble_eq_true rfl) ?_
      refine n_aastR (n := 6) (kd := 13) (ci := 4) (r := (RX4, TX4, 5)) (j := i) E9 dX6_init_78 (pm_old _ (pm_old _ (gRu_m2 G h i 0 (by omega)))) (by show (gRu G h i).2.2.1 (h + 25) = 6; rw [gRu_N]; exact hTN 25 (by decide)) rfl hi (by decide) (by show (gRu G h i).2.1 (h + 25) = 13; rw [gRu_K]; exact hTK 25 (by decide)) (by decide) rfl (pm_old _ (pm_new _ _)) (by show (gRu G h i).2.1 (h + (26 + 2 * i)) = 4; rw [gRu_K]; exact (hTK (26 + 2 * i) (by omega)).trans (kX_r i hi).1) rfl ?_
      refine j_iinc (E _) dX6_init_79 rfl (by decide) ?_
      refine j_goto (tgt := 60) (E _) dX6_init_82 (by decide) ?_
      exact j_lv [0, 1] rfl (by rw [nI_inc]; exact j_k (by omega) (by omega) (ih (i + 1) (by omega)))

set_option maxHeartbeats 1600000 in
set_option maxRecDepth 100000 in
theorem nl_X6_init_49 {C : jC} {G : pG} {X : va_W} {M : pM} {h : Nat} (E9 : jE C cX6_init 2 wsX6_init RX6 none ({ frames := 6, cells := 42, slots := 462, locals := 120 } : Room)) (hinit : (jme C).name = "<init>") (hao : jAO C) (hb : (js C).heap.size = h + 1) (hm : h ∈ G.1) (hTK : ∀ i, i < 43 → G.2.1 (h + i) = kX i) (hTN : ∀ i, i < 43 → G.2.2.1 (h + i) = nX i) (hl : h + 24 ∈ G.1) (hz : ∀ i, 25 ≤ i → i < 43 → pZ G M (h + i)) {i : Int32} : jW (jS C G) 2 49 [(0, .ref h), (1, .int i)] [] X M 24 227 (jZ (jS C (gEnd (gRu G h 6) h)) X M none 42 462) := by
  have hinX0 : ∀ w ∈ u_ws RX0 TX0 2, w ∈ wsX6_init := by decide +kernel
  have hinX1 : ∀ w ∈ u_ws RX1 TX1 3, w ∈ wsX6_init := by decide +kernel
  have hinX3 : ∀ w ∈ u_ws RX3 TX3 2, w ∈ wsX6_init := by decide +kernel
  have hinX4 : ∀ w ∈ u_ws RX4 TX4 5, w ∈ wsX6_init := by decide +kernel
  have hinX5 : ∀ w ∈ u_ws RX5 TX5 3, w ∈ wsX6_init := by decide +kernel
  have hinX6 : ∀ w ∈ u_ws RX6 TX6 10, w ∈ wsX6_init := by decide +kernel
  have E : ∀ G, jE (jS C G) cX6_init 2 wsX6_init RX6 none ({ frames := 6, cells := 42, slots := 462, locals := 120 } : Room) := fun _ => E9
  refine j_aload_n (E _) dX6_init_49 rfl rfl ?_
  refine j_bipush (v := 6) (E _) dX6_init_50 (by decide) ?_
  refine n_anewR (N := 6) (q := (h + 25)) E9 hao.2.1 dX6_init_52 (by decide +kernel) rfl (by decide) (by rw [hb] <;> omega) (Or.inr (by rw [hb, show h + 1 + (24 - 1) = h + 24 by omega]; exact hl)) (hTK 25 (by decide)) (hTN 25 (by decide)) (hz 25 (by omega) (by omega)) (by decide) (by decide) ?_
  refine n_putR (ci := 6) (k := 2) (Cn := RX6) (T := TX6) (N := 10) E9 hinit dX6_init_55 (pm_old _ hm) (hTK 0 (by decide)) rfl (by decide) hinX6 (by decide +kernel) rfl tyX6 tyX6_ok nmX6 rfl rfl rfl rfl rfl ?_
  refine j_iconst (v := 0) (E _) dX6_init_58 (by decide) ?_
  refine j_istore_n (E _) dX6_init_59 rfl (by decide) ?_
  exact j_lv [0, 1] rfl (nl_X6_init_60 E9 hinit hao hb hm hTK hTN hz 6 0 (by omega))

set_option maxHeartbeats 1600000 in
set_option maxRecDepth 100000 in
theorem nl_X6_init_25 {C : jC} {G : pG} {X : va_W} {M : pM} {h : Nat} (E9 : jE C cX6_init 2 wsX6_init RX6 none ({ frames := 6, cells := 42, slots := 462, locals := 120 } : Room)) (hinit : (jme C).name = "<init>") (hao : jAO C) (hb : (js C).heap.size = h + 1) (hm : h ∈ G.1) (hTK : ∀ i, i < 43 → G.2.1 (h + i) = kX i) (hTN : ∀ i, i < 43 → G.2.2.1 (h + i) = nX i) (hz : ∀ i, 20 ≤ i → i < 43 → pZ G M (h + i)) : ∀ (n i : Nat), i + n = 4 → jW (jS C (gZn G h i)) 2 25 [(0, .ref h), (1, .int (nI i))] [] X (mZn M h i) (20 + i) (215 + 3 * i) (jZ (jS C (gEnd (gRu (gZn G h 4) h 6) h)) X (mZn M h 4) none 42 462) := by
  have hinX0 : ∀ w ∈ u_ws RX0 TX0 2, w ∈ wsX6_init := by decide +kernel
  have hinX1 : ∀ w ∈ u_ws RX1 TX1 3, w ∈ wsX6_init := by decide +kernel
  have hinX3 : ∀ w ∈ u_ws RX3 TX3 2, w ∈ wsX6_init := by decide +kernel
  have hinX4 : ∀ w ∈ u_ws RX4 TX4 5, w ∈ wsX6_init := by decide +kernel
  have hinX5 : ∀ w ∈ u_ws RX5 TX5 3, w ∈ wsX6_init := by decide +kernel
  have hinX6 : ∀ w ∈ u_ws RX6 TX6 10, w ∈ wsX6_init := by decide +kernel
  have E : ∀ G, jE (jS C G) cX6_init 2 wsX6_init RX6 none ({ frames := 6, cells := 42, slots := 462, locals := 120 } : Room) := fun _ => E9
  intro n
  induction n with
  | zero =>
    intro i hn
    have he : i = 4 := by omega
    refine j_iload_n (E _) dX6_init_25 rfl rfl ?_
    refine j_iconst (v := 4) (E _) dX6_init_26 (by decide) ?_
    refine j_icmp_ge (tgt := 49) (E _) dX6_init_27 (by decide) (fun hc => ?_) (fun hc => absurd (by rw [he]; decide) hc)
    subst he
    exact nl_X6_init_49 E9 hinit hao hb (gZn_m G h hm 4) (by rw [gZn_K]; exact hTK) (by rw [gZn_N]; exact hTN) (gZn_m2 G h 4 4 (by omega)) (fun i h1 h2 => pZ_of (hz i (by omega) h2) (mZn_o M h 4 (fun j hj => by omega)) (by rw [mZn_2]) (gZn_P G h (by omega) (by omega) 4))
  | succ n ih =>
    intro i hn
    have hi : i < 4 := by omega
    refine j_iload_n (E _) dX6_init_25 rfl rfl ?_
    refine j_iconst (v := 4) (E _) dX6_init_26 (by decide) ?_
    refine j_icmp_ge (tgt := 49) (E _) dX6_init_27 (by decide) (fun h27 => ?_) (fun h27 => ?_)
    · exact absurd h27 (nI_ge (b := 4) hi (by decide))
    · refine j_aload_n (E _) dX6_init_30 rfl rfl ?_
      refine j_getP (ci := 6) (k := 1) (Cn := RX6) (T := TX6) (N := 10) (E _) dX6_init_31 (gZn_m G h hm i) (by show (gZn G h i).2.1 h = 6; rw [gZn_K]; exact hTK 0 (by decide)) rfl (by decide) hinX6 (by decide +kernel) rfl (by show (gZn G h i).2.2.2 h 1 = some (h + 20); rw [gZn_h]; rfl) ?_
      refine j_iload_n (E _) dX6_init_34 rfl rfl ?_
      refine n_new (ci := 5) (N := 3) (Cn := RX5) (T := TX5) (q := (h + (21 + i))) E9 dX6_init_35 rfl hinX5 tyX5 tyX5_ok (by decide +kernel) (by decide +kernel) (by decide +kernel) dfX5 (by rw [hb]; omega) (Or.inr (by rw [hb, show h + 1 + (20 + i - 1) = h + (20 + i) by omega]; exact gZn_m2 G h i i (Nat.le_refl _))) (by rw [gZn_K]; exact (hTK (21 + i) (by omega)).trans (kX_z i hi)) (pZ_of (hz (21 + i) (by omega) (by omega)) (mZn_o M h i (fun j hj => by omega)) (by rw [mZn_2]) (gZn_P G h (by omega) (by omega) i)) (by show 20 + i + 1 ≤ 42; omega) (by show 215 + 3 * i + 3 ≤ 462; omega) ?_
      refine j_dup (E _) dX6_init_38 rfl ?_
      refine n_callI (maxL := 1) E9 (k_X5_init (pm_new _ _) (by show (gZn G h i).2.1 (h + (21 + i)) = 5; rw [gZn_K]; exact (hTK (21 + i) (by omega)).trans (kX_z i hi))) dX6_init_39 gX6_init_X5_init rfl (by decide +kernel) (by decide +kernel) (by decide +kernel) rfl (by decide +kernel) ⟨rfl, rfl, by decide, by decide⟩ ⟨by show 20 + i + 1 ≤ 42; omega, by show 215 + 3 * i + 3 ≤ 462; omega⟩ (Nat.le_of_ble_eq_true rfl) ?_
      refine n_aastR (n := 4) (kd := 14) (ci := 5) (r := (RX5, TX5, 3)) (j := i) E9 dX6_init_42 (pm_old _ (gZn_m2 G h i 0 (by omega))) (by show (gZn G h i).2.2.1 (h + 20) = 4; rw [gZn_N]; exact hTN 20 (by decide)) rfl hi (by decide) (by show (gZn G h i).2.1 (h + 20) = 14; rw [gZn_K]; exact hTK 20 (by decide)) (by decide) rfl (pm_new _ _) (by show (gZn G h i).2.1 (h + (21 + i)) = 5; rw [gZn_K]; exact (hTK (21 + i) (by omega)).trans (kX_z i hi)) rfl ?_
      refine j_iinc (E _) dX6_init_43 rfl (by decide) ?_
      refine j_goto (tgt := 25) (E _) dX6_init_46 (by decide) ?_
      exact j_lv [0, 1] rfl (by rw [nI_inc]; exact j_k (by omega) (by omega) (ih (i + 1) (by omega)))

set_option maxHeartbeats 1600000 in
set_option maxRecDepth 100000 in
theorem nl_X6_init_15 {C : jC} {G : pG} {X : va_W} {M : pM} {h : Nat} (E9 : jE C cX6_init 2 wsX6_init RX6 none ({ frames := 6, cells := 42, slots := 462, locals := 120 } : Room)) (hinit : (jme C).name = "<init>") (hao : jAO C) (hb : (js C).heap.size = h + 1) (hm : h ∈ G.1) (hTK : ∀ i, i < 43 → G.2.1 (h + i) = kX i) (hTN : ∀ i, i < 43 → G.2.2.1 (h + i) = nX i) (hl : h + 19 ∈ G.1) (hz : ∀ i, 20 ≤ i → i < 43 → pZ G M (h + i)) : jW (jS C G) 2 15 [(0, .ref h)] [] X M 19 211 (jZ (jS C (gEnd (gRu (gZn G h 4) h 6) h)) X (mZn M h 4) none 42 462) := by
  have hinX0 : ∀ w ∈ u_ws RX0 TX0 2, w ∈ wsX6_init := by decide +kernel
  have hinX1 : ∀ w ∈ u_ws RX1 TX1 3, w ∈ wsX6_init := by decide +kernel
  have hinX3 : ∀ w ∈ u_ws RX3 TX3 2, w ∈ wsX6_init := by decide +kernel
  have hinX4 : ∀ w ∈ u_ws RX4 TX4 5, w ∈ wsX6_init := by decide +kernel
  have hinX5 : ∀ w ∈ u_ws RX5 TX5 3, w ∈ wsX6_init := by decide +kernel
  have hinX6 : ∀ w ∈ u_ws RX6 TX6 10, w ∈ wsX6_init := by decide +kernel
  have E : ∀ G, jE (jS C G) cX6_init 2 wsX6_init RX6 none ({ frames := 6, cells := 42, slots := 462, locals := 120 } : Room) := fun _ => E9
  refine j_aload_n (E _) dX6_init_15 rfl rfl ?_
  refine j_iconst (v := 4) (E _) dX6_init_16 (by decide) ?_
  refine n_anewS (N := 4) (q := (h + 20)) E9 hao.2.2 dX6_init_17 (by decide +kernel) rfl (by decide) (by rw [hb] <;> omega) (Or.inr (by rw [hb, show h + 1 + (19 - 1) = h + 19 by omega]; exact hl)) (hTK 20 (by decide)) (hTN 20 (by decide)) (hz 20 (by omega) (by omega)) (by decide) (by decide) ?_
  refine n_putR (ci := 6) (k := 1) (Cn := RX6) (T := TX6) (N := 10) E9 hinit dX6_init_20 (pm_old _ hm) (hTK 0 (by decide)) rfl (by decide) hinX6 (by decide +kernel) rfl tyX6 tyX6_ok nmX6 rfl rfl rfl rfl rfl ?_
  refine j_iconst (v := 0) (E _) dX6_init_23 (by decide) ?_
  refine j_istore_n (E _) dX6_init_24 rfl (by decide) ?_
  exact j_lv [0, 1] rfl (nl_X6_init_25 E9 hinit hao hb hm hTK hTN hz 4 0 (by omega))

set_option maxHeartbeats 1600000 in
set_option maxRecDepth 100000 in
theorem n_X6_init {l : Launch} {D : va_G} {cy : Nat → ClassId} {X : va_W} {G : pG} {M : pM} {h : Nat} (hm : h ∈ G.1) (hTK : ∀ i, i < 43 → G.2.1 (h + i) = kX i) (hTN : ∀ i, i < 43 → G.2.2.1 (h + i) = nX i) (hz : ∀ i, 1 ≤ i → i < 43 → pZ G M (h + i)) : jKN l yX6_init wsX6_init ({ frames := 6, cells := 42, slots := 462, locals := 120 } : Room) D cy X G M [.ref h] (gEnd (gRu (gZn (gOne G h) h 4) h 6) h) (mZn M h 4) 42 462 (h + 1) := by
  refine jKN_of (own := RX6) (by decide) rfl rfl rfl (Nat.le_of_ble_eq_true rfl) (fun C E9 hao hinit hsz hl hD hcy hG => ?_)
  subst hl; subst hD; subst hcy; subst hG
  have hinX0 : ∀ w ∈ u_ws RX0 TX0 2, w ∈ wsX6_init := by decide +kernel
  have hinX1 : ∀ w ∈ u_ws RX1 TX1 3, w ∈ wsX6_init := by decide +kernel
  have hinX3 : ∀ w ∈ u_ws RX3 TX3 2, w ∈ wsX6_init := by decide +kernel
  have hinX4 : ∀ w ∈ u_ws RX4 TX4 5, w ∈ wsX6_init := by decide +kernel
  have hinX5 : ∀ w ∈ u_ws RX5 TX5 3, w ∈ wsX6_init := by decide +kernel
  have hinX6 : ∀ w ∈ u_ws RX6 TX6 10, w ∈ wsX6_init := by decide +kernel
  have E : ∀ G, jE (jS C G) cX6_init 2 wsX6_init RX6 none ({ frames := 6, cells := 42, slots := 462, locals := 120 } : Room) := fun _ => E9
  refine jS_self ?_
  refine j_aload_n (E _) dX6_init_0 rfl rfl ?_
  refine j_objInit (E _) dX6_init_1 (by decide +kernel) (by decide +kernel) (by decide +kernel) (by decide) (Nat.le_of_ble_eq_true rfl) ?_
  refine j_aload_n (E _) dX6_init_4 rfl rfl ?_
  refine n_new (ci := 3) (N := 2) (Cn := RX3) (T := TX3) (q := (h + 1)) E9 dX6_init_5 rfl hinX3 tyX3 tyX3_ok (by decide +kernel) (by decide +kernel) (by decide +kernel) dfX3 hsz (Or.inl rfl) (hTK 1 (by decide)) (hz 1 (by omega) (by omega)) (by decide) (by decide) ?_
  refine j_dup (E _) dX6_init_8 rfl ?_
  refine n_callN (maxL := 2) (sz := (h + 2)) E9 hao (n_X3_init (r := h + 1) (pm_new _ _) (hTK 1 (by decide)) (by omega) (hTK 2 (by decide)) (hTN 2 (by decide)) (fun i hi => by have q := (hTK (3 + i) (by omega)).trans (kX_p i hi); rw [show h + (3 + i) = h + 2 + 1 + i by omega] at q; exact q) (hTK 19 (by decide)) (hTN 19 (by decide)) (fun i hi => by have q := hz (2 + i) (by omega) (by omega); rw [show h + (2 + i) = h + 2 + i by omega] at q; exact q)) (by rw [hsz]) (Or.inr (by rw [hsz]; exact pm_new _ _)) dX6_init_9 gX6_init_X3_init rfl (by decide +kernel) (by decide +kernel) (by decide +kernel) rfl (by decide +kernel) ⟨rfl, rfl, by decide, by decide⟩ ⟨by decide, by decide⟩ (Nat.le_of_ble_eq_true rfl) ?_
  refine n_putR (ci := 6) (k := 0) (Cn := RX6) (T := TX6) (N := 10) E9 hinit dX6_init_12 (gRing_m (pAdd (jG C) (h + 1)) (h + 2) (h + 1) (pm_old _ hm)) (by show (gRing (pAdd (jG C) (h + 1)) (h + 2) (h + 1)).2.1 h = 6; rw [gRing_K]; exact hTK 0 (by decide)) rfl (by decide) hinX6 (by decide +kernel) rfl tyX6 tyX6_ok nmX6 rfl rfl rfl rfl rfl ?_
  exact nl_X6_init_15 (G := gOne (jG C) h) E9 hinit hao hsz (gOne_m hm) (by rw [gOne_K]; exact hTK) (by rw [gOne_N]; exact hTN) (gOne_m2 (jG C) h (j := 17) (by omega)) (fun i h1 h2 => pZ_of (hz i (by omega) h2) rfl rfl (gOne_P (jG C) h (by omega) (by omega) (by omega)))
