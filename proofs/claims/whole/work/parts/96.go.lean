theorem gXf_out (h : Nat) {i : Nat} (hi : 43 ≤ i) : (gXf (pAdd (g0 h) h) h).2.2.2 (h + i) = (fun _ => none) := by
  unfold gXf
  rw [gEnd_P _ _ (by omega) (by omega) (by omega), gRu_P _ _ (by omega) (by omega) 6 (fun j hj => by omega), gZn_P _ _ (by omega) (by omega) 4, gOne_P _ _ (by omega) (by omega) (by omega)]
  rfl
/-! from the entry to the loop -/
section GO
variable {C : jC} {b L h : Nat} {xs : Nat → Int32} {Q : State → Prop}
theorem law_go (E : jE C cL_law 8 wsL_law RL ret room_1) (hlt : (jl C).stackTraces = false) (hx : xW (jA C) (js C) (js C).heap) (hn3 : xN3 (js C)) (hao : jAO C) (hs : lS C b L xs) (hsz : (js C).heap.size = h) (hL : L ≤ 2560)
    (fin : ∀ (M : pM) (o : Nat → Int64) (v : Nat → UInt64) (lv : List (Nat × Value)), jW (jS C (gF h)) 8 1249 lv [] (lX (jcy (jS C (gF h))) h o v) M 639400 7177904 Q) : jW (jS C (g0 h)) 8 0 [(0, .ref b)] [] [] m0 0 0 Q := by
  have hin6 : ∀ w ∈ u_ws RX6 TX6 10, w ∈ wsL_law := by decide +kernel
  have hin7 : ∀ w ∈ u_ws RX7 TX7 34, w ∈ wsL_law := by decide +kernel
  have hz0 : ∀ q, pZ (g0 h) m0 q := fun q => ⟨rfl, rfl, rfl⟩
  have k6 : kF h h = 6 := by
    have := kF_x (h := h) (i := 0) (by omega)
    rw [Nat.add_zero] at this
    rw [this]; rfl
  refine n_new (ci := 6) (N := 10) (Cn := RX6) (T := TX6) (q := h) E dL_law_0 rfl hin6 tyX6 tyX6_ok (by decide +kernel) (by decide +kernel) (by decide +kernel) dfX6 (by rw [hsz]; rfl) (Or.inl rfl) k6 (hz0 h) (by decide) (by decide) ?_
  refine j_dup (jS_E E) dL_law_3 rfl ?_
  refine n_callN (maxL := 2) (sz := h + 1) E hao (n_X6_init (h := h) (pm_new _ _) (fun i hi => kF_x hi) (fun i hi => nF_x hi) (fun i _ _ => ⟨rfl, rfl, rfl⟩)) (by rw [hsz]) (Or.inr (by rw [hsz]; exact pm_new _ _)) dL_law_4 gL_law_X6_init rfl (by decide +kernel) (by decide +kernel) (by decide +kernel) rfl (by decide +kernel) ⟨rfl, rfl, by decide, by decide⟩ ⟨by decide, by decide⟩ (Nat.le_of_ble_eq_true rfl) ?_
  refine j_astore_n (jS_E E) dL_law_7 rfl (by decide) ?_
  -- the reference
  have hP0 : ∀ i, 43 ≤ i → (gXf (pAdd (g0 h) h) h).2.2.2 (h + i) = (fun _ => none) := fun i hi => gXf_out h hi
  have kM0 : ∀ G : pG, G.2.1 = kF h → ∀ i, i < 26 → G.2.1 (h + 43 + i) = kM i := fun G e i _ => by rw [e]; exact kF_m
  have nM0 : ∀ G : pG, G.2.2.1 = nF h → ∀ i, i < 26 → G.2.2.1 (h + 43 + i) = nM i := fun G e i _ => by rw [e]; exact nF_m
  have gK : (gXf (pAdd (g0 h) h) h).2.1 = kF h := gXf_K _ _
  have gN : (gXf (pAdd (g0 h) h) h).2.2.1 = nF h := gXf_N _ _
  have mz : ∀ i, 43 ≤ i → (mZn m0 h 4).1 (h + i) = (fun _ => 0) ∧ (mZn m0 h 4).2 (h + i) = (fun _ => 0) := fun i hi => ⟨mZn_o m0 h 4 (fun j hj => by omega), by rw [mZn_2]; rfl⟩
  have k43 : (gXf (pAdd (g0 h) h) h).2.1 (h + 43) = 7 := by
    have := kM0 _ gK 0 (by omega)
    rw [Nat.add_zero] at this
    rw [this]; rfl
  refine n_new (ci := 7) (N := 34) (Cn := RX7) (T := TX7) (G := gXf (pAdd (g0 h) h) h) (q := h + 43) E dL_law_8 rfl hin7 tyX7 tyX7_ok (by decide +kernel) (by decide +kernel) (by decide +kernel) dfX7 (by rw [hsz]) (Or.inr (by rw [hsz]; exact gXf_m _ h (pm_new _ _) (i := 42) (by omega))) k43 ⟨(mz 43 (by omega)).1, (mz 43 (by omega)).2, hP0 43 (by omega)⟩ (by decide) (by decide) ?_
  refine j_dup (jS_E E) dL_law_11 rfl ?_
  refine n_callN (maxL := 2) (sz := h + 43 + 1) E hao (n_X7_init (h := h + 43) (pm_new _ _) (kM0 _ gK) (nM0 _ gN) (fun i h1 hi => by rw [Nat.add_assoc]; exact ⟨(mz (43 + i) (by omega)).1, (mz (43 + i) (by omega)).2, hP0 (43 + i) (by omega)⟩)) (by rw [hsz]) (Or.inr (by rw [hsz]; exact pm_new _ _)) dL_law_12 gL_law_X7_init rfl (by decide +kernel) (by decide +kernel) (by decide +kernel) rfl (by decide +kernel) ⟨rfl, rfl, by decide, by decide⟩ ⟨by decide, by decide⟩ (Nat.le_of_ble_eq_true rfl) ?_
  refine j_astore_n (jS_E E) dL_law_15 rfl (by decide) ?_
  refine j_iconst (jS_E E) dL_law_16 (v := 1) (by decide) ?_
  have EF : jE (jS C (gF h)) cL_law 8 wsL_law RL ret room_1 := jS_E E
  show jW (jS C (gF h)) 8 17 _ [.int 1] [] (mF h) 69 977 Q
  refine j_newL (h := h) EF dL_law_17 (by decide +kernel) (by show (js C).heap.size + 69 = _; rw [hsz]) (Or.inr (by show (js C).heap.size + 68 ∈ (gF h).1; rw [hsz]; exact gF_mm h (i := 25) (by omega))) (by decide) (by decide) ?_
  refine j_astore_n EF dL_law_19 rfl (by decide) ?_
  refine j_iconst EF dL_law_20 (v := 1) (by decide) ?_
  refine j_newD (h := h) EF dL_law_21 (by decide +kernel) (by show (js C).heap.size + 70 = _; rw [hsz]) (by decide) (by decide) ?_
  refine j_astore EF dL_law_23 (by decide) ?_
  refine j_iconst EF dL_law_25 (v := 0) (by decide) ?_
  refine j_istore EF dL_law_26 (by decide) ?_
  have e0 : aX h 0 = h := by unfold aX; rw [if_pos (by omega), Nat.add_zero]
  have e1 : aM h 0 = h + 43 := rfl
  have hs' : lS (jS C (gF h)) b L xs := ⟨hs.1, hs.2.1, hs.2.2.1, hs.2.2.2⟩
  have lp := law_loop (C := jS C (gF h)) (h := h) EF hlt hx hn3 hs' (wX_F h) (wM_F h) (sAd0 h) (sAp0 h) hL fin (L / 5) 0 (mF h) (fun _ => 0) (fun _ => 0) (by omega) (sim0 h)
  refine j_lv [0, 1, 2, 3, 4, 5] (lv' := lvB (aX h) (aM h) b h 0) (by unfold lvB; rw [e0]; rfl) ?_
  exact lp
end GO
