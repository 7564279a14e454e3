section SIM6
variable {Z : Nat → UInt32 → Prop} {a m : Nat → Nat} {w kd : Nat → Int32} {R n : Nat} {M N : pM}
def simP (Z : Nat → UInt32 → Prop) (a m : Nat → Nat) (M N : pM) : Prop := ∃ w kd R n, Sim Z a m w kd R n M N
/-- what an outcome leaves, its code, its number -/
def oM (o : xOut) (M : pM) : pM := match o with
  | .inl r => r.2
  | .inr _ => M
def oK (f : String → Int32) (o : xOut) : Int32 := match o with
  | .inl _ => 0
  | .inr c => f c
def oV (o : xOut) : Int32 := match o with
  | .inl (some (.int v), _) => v
  | _ => 0
def oF (o : xOut) : UInt32 := match o with
  | .inl (some (.float v), _) => v
  | _ => 0
def k3 (c : String) : Int32 := if c = xNSE then 1 else if c = xIAE then 2 else 3
def k1 (_ : String) : Int32 := 1
def k2 (c : String) : Int32 := if c = xNSE then 1 else 2
theorem k3_N : k3 xNSE = 1 := by decide
theorem k3_A : k3 xIAE = 2 := by decide
theorem k3_S : k3 xISE = 3 := by decide
theorem k2_N : k2 xNSE = 1 := by decide
theorem k2_A : k2 xIAE = 2 := by decide
theorem k2_S : k2 xISE = 2 := by decide
theorem mIn_x {p b c : Int32} (h : c.toInt + 1 = b.toInt) : mIn p 0 c = if xIn p b = true then 1 else 0 := by
  unfold mIn xIn
  by_cases h0 : p < 0
  · rw [if_pos h0, if_neg (by simp [h0])]
  · rw [if_neg h0]
    have e : c < p ↔ ¬ p < b := by
      rw [Int32.lt_iff_toInt_lt, Int32.lt_iff_toInt_lt]; omega
    by_cases h1 : p < b
    · rw [if_neg (fun q => e.mp q h1), if_pos (by simp [h0, h1])]
    · rw [if_pos (e.mpr h1), if_neg (by simp [h1])]
theorem xIn_n {p b : Int32} {B : Nat} (hb : b = nI B) (hB : B < 2 ^ 31) (h : xIn p b = true) : ∃ j, j < B ∧ p = nI j ∧ xC p = j := by
  unfold xIn at h
  obtain ⟨h0, h1⟩ := of_decide_eq_true h
  obtain ⟨j, hj, e⟩ := nI_of h0
  subst e
  rw [hb] at h1
  exact ⟨j, (nI_ltI hj hB).mp h1, rfl, nI_clamp hj⟩
theorem thr {k t : Nat} {v : Int32} (A : sAd a m) (hk : k < 34) (h0 : k ≠ 0) : (pI N (m k) t v).1 (m 0) = N.1 (m 0) := pI_1n _ _ _ (A.nm (by omega) hk (Ne.symm h0))
theorem Sim.thrown (A : sAd a m) (h : Sim Z a m w kd R n M N) (v : Int32) : Sim Z a m w kd R n M (pI N (m 0) 0 v) := Sim.mine A h (by omega) v
theorem Sim.P (h : Sim Z a m w kd R n M N) : simP Z a m M N := ⟨_, _, _, _, h⟩
/-! new wires, kinds, texts, counts -/
theorem Sim.wire (A : sAd a m) (h : Sim Z a m w kd R n M N) {j : Nat} (hj : j < 17) {v : Int32} (hv : v = 0 ∨ v = 1 ∨ v = 2) : Sim Z a m (va_up w j v) kd R n (pI M (a 19) j v) (pI N (m 1) j v) := by
  obtain ⟨h1, h2, h3, h4, h5, h6, h7, h8⟩ := h
  have nk : ∀ i, i < 34 → i ≠ 1 → (pI N (m 1) j v).1 (m i) = N.1 (m i) := fun i hi hne => pI_1n _ _ _ (A.nm hi (by omega) hne)
  have na : ∀ i, i < 43 → i ≠ 19 → (pI M (a 19) j v).1 (a i) = M.1 (a i) := fun i hi hne => pI_1n _ _ _ (A.na hi (by omega) hne)
  refine ⟨simI_put A h1 (sT_wi hj) v, h2, ⟨h3.1, ?_, fun r hr => ?_⟩, ⟨h4.1, ?_, fun i hi => ?_⟩, ?_, fun p hp => ?_, ⟨fun k' hk' => ?_, fun p hp => ?_⟩, h8⟩
  · rw [na 0 (by omega) (by omega)]; exact h3.2.1
  · have hR := h3.1
    exact (h3.2.2 r hr).fr (na _ (by omega) (by omega)) (na _ (by omega) (by omega)) (nk _ (by omega) (by omega)) (nk _ (by omega) (by omega)) (nk _ (by omega) (by omega)) (nk _ (by omega) (by omega)) (nk _ (by omega) (by omega))
  · rw [na 39 (by omega) (by omega)]; exact h4.2.1
  · rw [na 40 (by omega) (by omega), nk 24 (by omega) (by omega)]; exact h4.2.2 i hi
  · unfold sEnt
    rw [na 41 (by omega) (by omega)]; exact h5
  · rw [na _ (by omega) (by omega)]; exact h6 p hp
  · rw [pI_rd]
    unfold va_up
    by_cases c : k' = j
    · rw [if_pos c, if_pos c]; exact ⟨rfl, hv⟩
    · rw [if_neg c, if_neg c]; exact h7.1 k' hk'
  · rw [na _ (by omega) (by omega)]; exact h7.2 p hp
theorem Sim.kind (A : sAd a m) (h : Sim Z a m w kd R n M N) {p : Nat} (hp : p < 16) (v : Int32) : Sim Z a m w (va_up kd p v) R n (pI M (a (3 + p)) 0 v) (pI N (m 2) p v) := by
  obtain ⟨h1, h2, h3, h4, h5, h6, h7, h8⟩ := h
  have nk : ∀ i, i < 34 → i ≠ 2 → (pI N (m 2) p v).1 (m i) = N.1 (m i) := fun i hi hne => pI_1n _ _ _ (A.nm hi (by omega) hne)
  have na : ∀ i, i < 43 → i ≠ 3 + p → (pI M (a (3 + p)) 0 v).1 (a i) = M.1 (a i) := fun i hi hne => pI_1n _ _ _ (A.na hi (by omega) hne)
  refine ⟨simI_put A h1 (sT_pl hp (s := 0) (k := 2) (by simp)) v, h2, ⟨h3.1, ?_, fun r hr => ?_⟩, ⟨h4.1, ?_, fun i hi => ?_⟩, ?_, fun p' hp' => ?_, ⟨fun k' hk' => ?_, fun p' hp' => ?_⟩, h8⟩
  · rw [na 0 (by omega) (by omega)]; exact h3.2.1
  · have hR := h3.1
    exact (h3.2.2 r hr).fr (na _ (by omega) (by omega)) (na _ (by omega) (by omega)) (nk _ (by omega) (by omega)) (nk _ (by omega) (by omega)) (nk _ (by omega) (by omega)) (nk _ (by omega) (by omega)) (nk _ (by omega) (by omega))
  · rw [na 39 (by omega) (by omega)]; exact h4.2.1
  · rw [na 40 (by omega) (by omega), nk 24 (by omega) (by omega)]; exact h4.2.2 i hi
  · unfold sEnt
    rw [na 41 (by omega) (by omega)]; exact h5
  · rw [pI_at, if_neg (by omega)]; exact h6 p' hp'
  · rw [na 19 (by omega) (by omega)]; exact h7.1 k' hk'
  · unfold va_up
    by_cases c : p' = p
    · subst c
      rw [pI_same, if_pos rfl]
    · rw [na _ (by omega) (by omega), if_neg c]; exact h7.2 p' hp'
theorem Sim.typed (A : sAd a m) (h : Sim Z a m w kd R n M N) (hn : n < 20) {c : Int32} (hc : narrow .char (.int c) = .int c) : Sim Z a m w kd R (n + 1) (pI (pI M (a 40) n c) (a 39) 1 (nI (n + 1))) (pI (pI N (m 24) n c) (m 0) 23 (nI (n + 1))) := by
  obtain ⟨h1, h2, h3, h4, h5, h6, h7, h8⟩ := h
  have nk : ∀ i, i < 34 → i ≠ 24 → i ≠ 0 → (pI (pI N (m 24) n c) (m 0) 23 (nI (n + 1))).1 (m i) = N.1 (m i) := fun i hi hne h0 => by
    rw [pI_1n _ _ _ (A.nm hi (by omega) h0), pI_1n _ _ _ (A.nm hi (by omega) hne)]
  have na : ∀ i, i < 43 → i ≠ 39 → i ≠ 40 → (pI (pI M (a 40) n c) (a 39) 1 (nI (n + 1))).1 (a i) = M.1 (a i) := fun i hi hne h0 => by
    rw [pI_1n _ _ _ (A.na hi (by omega) hne), pI_1n _ _ _ (A.na hi (by omega) h0)]
  have x40 : sT 40 n = none := by
    unfold sT
    repeat rw [if_neg (by omega)]
  refine ⟨simI_put A (simI_m A (simI_x A h1 (by omega) x40 c) (by omega) (sT_own (by omega)) c) sT_pd (nI (n + 1)), h2, ⟨h3.1, ?_, fun r hr => ?_⟩, ⟨by omega, ?_, fun i hi => ?_⟩, ?_, fun p hp => ?_, ⟨fun k' hk' => ?_, fun p hp => ?_⟩, h8⟩
  · rw [na 0 (by omega) (by omega) (by omega)]; exact h3.2.1
  · have hR := h3.1
    exact (h3.2.2 r hr).fr (na _ (by omega) (by omega) (by omega)) (na _ (by omega) (by omega) (by omega)) (nk _ (by omega) (by omega) (by omega)) (nk _ (by omega) (by omega) (by omega)) (nk _ (by omega) (by omega) (by omega)) (nk _ (by omega) (by omega) (by omega)) (nk _ (by omega) (by omega) (by omega))
  · rw [pI_same]
  · rw [pI_1n _ _ _ (A.na (by omega) (by omega) (by omega)), pI_1n _ _ _ (A.nm (by omega) (by omega) (by omega)), pI_rd, pI_rd]
    by_cases e : i = n
    · rw [if_pos e, if_pos e]; exact ⟨rfl, hc⟩
    · rw [if_neg e, if_neg e]; exact h4.2.2 i (by omega)
  · unfold sEnt
    rw [na 41 (by omega) (by omega) (by omega)]; exact h5
  · rw [na _ (by omega) (by omega) (by omega)]; exact h6 p hp
  · rw [na 19 (by omega) (by omega) (by omega)]; exact h7.1 k' hk'
  · rw [na _ (by omega) (by omega) (by omega)]; exact h7.2 p hp
/-- the text is taken away -/
theorem Sim.wiped (A : sAd a m) (h : Sim Z a m w kd R n M N) : Sim Z a m w kd R 0 (pI M (a 39) 1 0) (pI N (m 0) 23 0) := by
  obtain ⟨h1, h2, h3, h4, h5, h6, h7, h8⟩ := h
  have nk : ∀ i, i < 34 → i ≠ 0 → (pI N (m 0) 23 0).1 (m i) = N.1 (m i) := fun i hi h0 => pI_1n _ _ _ (A.nm hi (by omega) h0)
  have na : ∀ i, i < 43 → i ≠ 39 → (pI M (a 39) 1 0).1 (a i) = M.1 (a i) := fun i hi hne => pI_1n _ _ _ (A.na hi (by omega) hne)
  refine ⟨simI_put A h1 sT_pd 0, h2, ⟨h3.1, ?_, fun r hr => ?_⟩, ⟨by omega, ?_, fun i hi => by omega⟩, ?_, fun p hp => ?_, ⟨fun k' hk' => ?_, fun p hp => ?_⟩, h8⟩
  · rw [na 0 (by omega) (by omega)]; exact h3.2.1
  · have hR := h3.1
    exact (h3.2.2 r hr).fr (na _ (by omega) (by omega)) (na _ (by omega) (by omega)) (nk _ (by omega) (by omega)) (nk _ (by omega) (by omega)) (nk _ (by omega) (by omega)) (nk _ (by omega) (by omega)) (nk _ (by omega) (by omega))
  · rw [pI_same]; rfl
  · unfold sEnt
    rw [na 41 (by omega) (by omega)]; exact h5
  · rw [na _ (by omega) (by omega)]; exact h6 p hp
  · rw [na 19 (by omega) (by omega)]; exact h7.1 k' hk'
  · rw [na _ (by omega) (by omega)]; exact h7.2 p hp
/-- so many rules -/
theorem Sim.rules (A : sAd a m) (h : Sim Z a m w kd R n M N) {R' : Nat} (hR' : R' ≤ 6) (hr : ∀ r, r < R' → sRow a m M N r) : Sim Z a m w kd R' n (pI M (a 0) 6 (nI R')) (pI N (m 0) 16 (nI R')) := by
  obtain ⟨h1, h2, h3, h4, h5, h6, h7, h8⟩ := h
  have nk : ∀ i, i < 34 → i ≠ 0 → (pI N (m 0) 16 (nI R')).1 (m i) = N.1 (m i) := fun i hi h0 => pI_1n _ _ _ (A.nm hi (by omega) h0)
  have na : ∀ i, i < 43 → i ≠ 0 → (pI M (a 0) 6 (nI R')).1 (a i) = M.1 (a i) := fun i hi hne => pI_1n _ _ _ (A.na hi (by omega) hne)
  refine ⟨simI_put A h1 (sT_p (s := 6) (k := 16) (by simp)) _, h2, ⟨hR', ?_, fun r hr' => ?_⟩, ⟨h4.1, ?_, fun i hi => ?_⟩, ?_, fun p hp => ?_, ⟨fun k' hk' => ?_, fun p hp => ?_⟩, h8⟩
  · rw [pI_same]
  · exact (hr r hr').fr (na _ (by omega) (by omega)) (na _ (by omega) (by omega)) (nk _ (by omega) (by omega)) (nk _ (by omega) (by omega)) (nk _ (by omega) (by omega)) (nk _ (by omega) (by omega)) (nk _ (by omega) (by omega))
  · rw [na 39 (by omega) (by omega)]; exact h4.2.1
  · rw [na 40 (by omega) (by omega), nk 24 (by omega) (by omega)]; exact h4.2.2 i hi
  · unfold sEnt
    rw [na 41 (by omega) (by omega)]; exact h5
  · rw [na _ (by omega) (by omega)]; exact h6 p hp
  · rw [na 19 (by omega) (by omega)]; exact h7.1 k' hk'
  · rw [na _ (by omega) (by omega)]; exact h7.2 p hp
/-! the calls -/
theorem ent_e (h : Sim Z a m w kd R n M N) (v : Int32) : xEnt a M v = decide (v ≤ N.1 (m 0) 26) := by
  unfold xEnt
  rw [h.pf (s := 8) (k := 26) (by simp)]
  simp only [Int32.not_lt]
theorem pos_e {x : Int32} : 0 < x ↔ ¬ x ≤ 0 := Int32.not_le.symm
theorem key_e (A : sAd a m) (h : Sim Z a m w kd R n M N) {o : xOut} {N' : pM} (f : String → Int32) (cl : String) {c : Int32} (ho : o = .inr cl) (hc : f cl = c) (hN : N' = pI N (m 0) 0 c) : N'.1 (m 0) 0 = oK f o ∧ simP Z a m (oM o M) N' := by
  subst hN; subst ho
  exact ⟨by rw [pI_same]; exact hc.symm, (Sim.thrown A h c).P⟩
theorem S_fit (A : sAd a m) (H : sZ Z) (hT : ∀ t, ¬ Op.cmpValue (FP.fcmp t 1056964608) .l < 0 → Op.cmpValue (FP.fcmp t 1120403456) .g ≤ 0 → Z 2 t) (h : simP Z a m M N) (p k z : Int32) (t : UInt32) : (mFit N m p k z t).1 (m 0) 0 = oK k3 (xFitO a M p k z t) ∧ simP Z a m (oM (xFitO a M p k z t) M) (mFit N m p k z t) := by
  obtain ⟨w, kd, R, n, h⟩ := h
  have kin : mIn k 0 4 = if k < 0 then 0 else if 4 < k then 0 else 1 := rfl
  have i1 := mIn_x (p := p) (c := 15) (b := 16) (by decide)
  have i2 := mIn_x (p := z) (c := 3) (b := 4) (by decide)
  have bad : ∀ (cl : String) (c : Int32), k3 cl = c → c ≠ 0 → mFitT N m p k z t = c → xFitO a M p k z t = .inr cl → (mFit N m p k z t).1 (m 0) 0 = oK k3 (xFitO a M p k z t) ∧ simP Z a m (oM (xFitO a M p k z t) M) (mFit N m p k z t) := fun cl c hc h0 e1 e2 => key_e A h k3 cl e2 hc (by unfold mFit; rw [e1, if_neg h0])
  by_cases c1 : xIn p 16 = true
  · by_cases c2 : xIn z 4 = true
    · by_cases c3 : k < 0
      · exact bad xIAE 2 k3_A (by decide) (by simp [mFitT, i1, i2, kin, c1, c2, c3]) (by simp [xFitO, c1, c2, c3])
      by_cases c4 : 4 < k
      · exact bad xIAE 2 k3_A (by decide) (by simp [mFitT, i1, i2, kin, c1, c2, c3, c4]) (by simp [xFitO, c1, c2, c3, c4])
      by_cases c5 : Op.cmpValue (FP.fcmp t 1056964608) .l < 0
      · exact bad xIAE 2 k3_A (by decide) (by simp [mFitT, i1, i2, kin, c1, c2, c3, c4, c5]) (by simp [xFitO, c1, c2, c3, c4, c5])
      by_cases c6 : Op.cmpValue (FP.fcmp t 1120403456) .g ≤ 0
      · have c6' : ¬ 0 < Op.cmpValue (FP.fcmp t 1120403456) .g := fun q => pos_e.mp q c6
        by_cases c7 : 2 ≤ N.1 (m 0) 26
        · obtain ⟨j, hj, e, ej⟩ := xIn_n (B := 16) rfl (by omega) c1
          have e1 : mFitT N m p k z t = 0 := by simp [mFitT, i1, i2, kin, c1, c2, c3, c4, c5, c6, c7]
          have e2 : xFitO a M p k z t = .inl (none, xBegin M (a (3 + j)) k z t) := by
            rw [← ej]
            simp [xFitO, c1, c2, c3, c4, c5, c6', ent_e h, c7]
          rw [e2]
          unfold mFit
          rw [e1, if_pos rfl, show p.toNatClampNeg = j from ej]
          constructor
          · rw [thr A (by omega) (by omega), thr A (by omega) (by omega), thr A (by omega) (by omega), thr A (by omega) (by omega), pF_1, pF_1, pF_1, thr A (by omega) (by omega), thr A (by omega) (by omega), pI_same]; rfl
          · have s0 := Sim.thrown A h 0
            have s1 := Sim.kind A s0 hj k
            have s2 := Sim.put A s1 (sT_pl hj (s := 1) (k := 3) (by simp)) (by omega) z
            have s3 := Sim.fl A s2 hj (s := 2) (k := 4) (by omega) (by omega) rfl (hT t c5 c6)
            have s4 := Sim.fl A s3 hj (s := 4) (k := 6) (by omega) (by omega) rfl H.2.2.1
            have s5 := Sim.fl A s4 hj (s := 5) (k := 7) (by omega) (by omega) rfl H.2.2.2
            have s6 := Sim.put A s5 (sT_pl hj (s := 6) (k := 8) (by simp)) (by omega) 0
            have s7 := Sim.alarm A s6 hj (v := 0) (by simp)
            have s8 := Sim.put A s7 (sT_pl hj (s := 8) (k := 10) (by simp)) (by omega) 0
            have s9 := Sim.put A s8 (sT_pl hj (s := 9) (k := 11) (by simp)) (by omega) 0
            exact s9.P
        · exact bad xISE 3 k3_S (by decide) (by simp [mFitT, i1, i2, kin, c1, c2, c3, c4, c5, c6, c7]) (by simp [xFitO, c1, c2, c3, c4, c5, c6', ent_e h, c7])
      · exact bad xIAE 2 k3_A (by decide) (by simp [mFitT, i1, i2, kin, c1, c2, c3, c4, c5, c6]) (by simp [xFitO, c1, c2, c3, c4, c5, pos_e.mpr c6])
    · exact bad xNSE 1 k3_N (by decide) (by simp [mFitT, i1, i2, c1, c2]) (by simp [xFitO, c1, c2])
  · exact bad xNSE 1 k3_N (by decide) (by simp [mFitT, i1, c1]) (by simp [xFitO, c1])
theorem S_need (A : sAd a m) (h : simP Z a m M N) (z k : Int32) : (mNeed N m z k).1 (m 0) 0 = oK k3 (xNeedO a M z k) ∧ simP Z a m (oM (xNeedO a M z k) M) (mNeed N m z k) := by
  obtain ⟨w, kd, R, n, h⟩ := h
  have kin : mIn k 1 4 = if k < 1 then 0 else if 4 < k then 0 else 1 := rfl
  have i2 := mIn_x (p := z) (c := 3) (b := 4) (by decide)
  have bad : ∀ (cl : String) (c : Int32), k3 cl = c → c ≠ 0 → mNeedT N m z k = c → xNeedO a M z k = .inr cl → (mNeed N m z k).1 (m 0) 0 = oK k3 (xNeedO a M z k) ∧ simP Z a m (oM (xNeedO a M z k) M) (mNeed N m z k) := fun cl c hc h0 e1 e2 => key_e A h k3 cl e2 hc (by unfold mNeed; rw [e1, if_neg h0])
  by_cases c2 : xIn z 4 = true
  · by_cases c3 : k < 1
    · exact bad xIAE 2 k3_A (by decide) (by simp [mNeedT, i2, kin, c2, c3]) (by simp [xNeedO, c2, c3])
    by_cases c4 : 4 < k
    · exact bad xIAE 2 k3_A (by decide) (by simp [mNeedT, i2, kin, c2, c3, c4]) (by simp [xNeedO, c2, c3, c4])
    by_cases c7 : 2 ≤ N.1 (m 0) 26
    · obtain ⟨j, hj, e, ej⟩ := xIn_n (B := 4) rfl (by omega) c2
      have e1 : mNeedT N m z k = 0 := by simp [mNeedT, i2, kin, c2, c3, c4, c7]
      have e2 : xNeedO a M z k = .inl (none, pI M (a (21 + j)) 0 k) := by
        rw [← ej]
        simp [xNeedO, c2, c3, c4, ent_e h, c7]
      rw [e2]
      unfold mNeed
      rw [e1, if_pos rfl, show z.toNatClampNeg = j from ej]
      constructor
      · rw [thr A (by omega) (by omega), pI_same]; rfl
      · exact (Sim.put A (Sim.thrown A h 0) (sT_zn hj (s := 0) (k := 14) (by simp)) (by omega) k).P
    · exact bad xISE 3 k3_S (by decide) (by simp [mNeedT, i2, kin, c2, c3, c4, c7]) (by simp [xNeedO, c2, c3, c4, ent_e h, c7])
  · exact bad xNSE 1 k3_N (by decide) (by simp [mNeedT, i2, c2]) (by simp [xNeedO, c2])
theorem S_wire (A : sAd a m) (h : simP Z a m M N) (p v : Int32) : (mWire N m p v).1 (m 0) 0 = oK k3 (xWireO a M p v) ∧ simP Z a m (oM (xWireO a M p v) M) (mWire N m p v) := by
  obtain ⟨w, kd, R, n, h⟩ := h
  have kin : mIn v 0 2 = if v < 0 then 0 else if 2 < v then 0 else 1 := rfl
  have i2 := mIn_x (p := p) (c := 16) (b := 17) (by decide)
  have bad : ∀ (cl : String) (c : Int32), k3 cl = c → c ≠ 0 → mWireT p v = c → xWireO a M p v = .inr cl → (mWire N m p v).1 (m 0) 0 = oK k3 (xWireO a M p v) ∧ simP Z a m (oM (xWireO a M p v) M) (mWire N m p v) := fun cl c hc h0 e1 e2 => key_e A h k3 cl e2 hc (by unfold mWire; rw [e1, if_neg h0])
  by_cases c2 : xIn p 17 = true
  · by_cases c3 : v < 0
    · exact bad xIAE 2 k3_A (by decide) (by simp [mWireT, i2, kin, c2, c3]) (by simp [xWireO, c2, c3])
    by_cases c4 : 2 < v
    · exact bad xIAE 2 k3_A (by decide) (by simp [mWireT, i2, kin, c2, c3, c4]) (by simp [xWireO, c2, c3, c4])
    · obtain ⟨j, hj, e, ej⟩ := xIn_n (B := 17) rfl (by omega) c2
      have e1 : mWireT p v = 0 := by simp [mWireT, i2, kin, c2, c3, c4]
      have e2 : xWireO a M p v = .inl (none, pI M (a 19) j v) := by
        rw [← ej]
        simp [xWireO, c2, c3, c4]
      have hv : v = 0 ∨ v = 1 ∨ v = 2 := by
        obtain ⟨q, hq, eq⟩ := nI_of c3
        subst eq
        have : q ≤ 2 := by
          by_cases c : q ≤ 2
          · exact c
          · exact absurd (nI_lt (a := 2) (by omega) hq) c4
        have : q = 0 ∨ q = 1 ∨ q = 2 := by omega
        rcases this with rfl | rfl | rfl
        · left; rfl
        · right; left; rfl
        · right; right; rfl
      rw [e2]
      unfold mWire
      rw [e1, if_pos rfl, show p.toNatClampNeg = j from ej]
      constructor
      · rw [thr A (by omega) (by omega), pI_same]; rfl
      · exact (Sim.wire A (Sim.thrown A h 0) hj hv).P
  · exact bad xNSE 1 k3_N (by decide) (by simp [mWireT, i2, c2]) (by simp [xWireO, c2])
theorem S_reading (A : sAd a m) (hT : ∀ t, ¬ Op.cmpValue (FP.fcmp t 3267887104) .l < 0 → Op.cmpValue (FP.fcmp t 1128792064) .g ≤ 0 → Z 3 t) (h : simP Z a m M N) (p : Int32) (v : UInt32) : (mRd N m p v).1 (m 0) 0 = oK k3 (xRdO a M p v) ∧ simP Z a m (oM (xRdO a M p v) M) (mRd N m p v) := by
  obtain ⟨w, kd, R, n, h⟩ := h
  have i2 := mIn_x (p := p) (c := 15) (b := 16) (by decide)
  have bad : ∀ (cl : String) (c : Int32), k3 cl = c → c ≠ 0 → mRdT p v = c → xRdO a M p v = .inr cl → (mRd N m p v).1 (m 0) 0 = oK k3 (xRdO a M p v) ∧ simP Z a m (oM (xRdO a M p v) M) (mRd N m p v) := fun cl c hc h0 e1 e2 => key_e A h k3 cl e2 hc (by unfold mRd; rw [e1, if_neg h0])
  by_cases c2 : xIn p 16 = true
  · by_cases c3 : Op.cmpValue (FP.fcmp v 3267887104) .l < 0
    · exact bad xIAE 2 k3_A (by decide) (by simp [mRdT, i2, c2, c3]) (by simp [xRdO, c2, c3])
    by_cases c4 : Op.cmpValue (FP.fcmp v 1128792064) .g ≤ 0
    · have c4' : ¬ 0 < Op.cmpValue (FP.fcmp v 1128792064) .g := fun q => pos_e.mp q c4
      obtain ⟨j, hj, e, ej⟩ := xIn_n (B := 16) rfl (by omega) c2
      have e1 : mRdT p v = 0 := by simp [mRdT, i2, c2, c3, c4]
      have e2 : xRdO a M p v = .inl (none, pF M (a (3 + j)) 3 v) := by
        rw [← ej]
        simp [xRdO, c2, c3, c4']
      rw [e2]
      unfold mRd
      rw [e1, if_pos rfl, show p.toNatClampNeg = j from ej]
      constructor
      · rw [pF_1, pI_same]; rfl
      · exact (Sim.fl A (Sim.thrown A h 0) hj (s := 3) (k := 5) (by omega) (by omega) rfl (hT v c3 c4)).P
    · exact bad xIAE 2 k3_A (by decide) (by simp [mRdT, i2, c2, c3, c4]) (by simp [xRdO, c2, c3, pos_e.mpr c4])
  · exact bad xNSE 1 k3_N (by decide) (by simp [mRdT, i2, c2]) (by simp [xRdO, c2])
end SIM6
