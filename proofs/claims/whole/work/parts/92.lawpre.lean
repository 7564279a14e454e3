/-! THE LAW'S LOOP: what each call is given, what is compared. -/
def lS (C : jC) (b L : Nat) (xs : Nat → Int32) : Prop := va_X b L xs (js C) (jH C) ∧ b < (jH C).size ∧ ¬ jA C b ∧ L < 2 ^ 31
theorem i8_no (x : Int32) : vf_n32 (FP.fmul (FP.i2f x) 1040187392) := Free.Fl.fmul_out (Free.Fl.i2f_fin x) (by unfold Free.Fl.Fin32; decide)
def c16 (x : Int32) : Int32 := (x.toUInt32 % 65536).toInt32
theorem c16_n (x : Int32) : narrow .char (.int (c16 x)) = .int (c16 x) := by
  unfold c16
  rw [pk_char x]
  exact (pk_charN (Nat.mod_lt _ (by decide))).1
theorem c16_v (x : Int32) : vp_nar .char (c16 x) = c16 x := by
  have h := c16_n x
  unfold vp_nar
  rw [h]
theorem k1_ne (c : String) : ¬ k1 c = 0 := by unfold k1; decide
theorem k2_ne (c : String) : ¬ k2 c = 0 := by
  unfold k2
  split <;> decide
theorem lO_0 {f : String → Int32} (hf : ∀ c, ¬ f c = 0) {O : xOut} {o : Nat → Int64} (h : oK f O = 0) : lO O o 0 = (oV O).toInt64 := by
  cases O with
  | inl r => simp [lO, vp_updL]
  | inr c => exact absurd h (hf c)
theorem lD_0 {f : String → Int32} (hf : ∀ c, ¬ f c = 0) {O : xOut} {v : Nat → UInt64} (h : oK f O = 0) : lD O v 0 = FP.f2d (oF O) := by
  cases O with
  | inl r => simp [lD, vf_upd]
  | inr c => exact absurd h (hf c)
theorem oV01 {f : String → Int32} (hf : ∀ c, ¬ f c = 0) {O : xOut} (hr : ∀ r, O = .inl r → r.1 = some (.int 0) ∨ r.1 = some (.int 1)) (h : oK f O = 0) : oV O = 0 ∨ oV O = 1 := by
  cases O with
  | inl r =>
    obtain ⟨r1, M2⟩ := r
    rcases hr _ rfl with e | e
    · left
      have e' : r1 = some (.int 0) := e
      subst e'; rfl
    · right
      have e' : r1 = some (.int 1) := e
      subst e'; rfl
  | inr c => exact absurd h (hf c)
theorem dcmp_l {x : UInt64} (h : vf_n64 x) : Op.cmpValue (FP.dcmp x x) .l = 0 := by
  have h2 : FP.Core.val64 x ≠ .nan := Free.Fl.val64_no.mp h
  have h1 : FP.dcmp x x = some .eq := FP.Core.dcmp_eq.mpr ⟨h2, h2, rfl⟩
  rw [h1]; rfl
theorem mLv_no {a m : Nat → Nat} {M N : pM} (h : simP zZ a m M N) : (∀ p, p < 16 → vf_n32 (M.2 (a (3 + p)) 5)) ∧ (∀ p, p < 16 → vf_n32 (M.2 (a (3 + p)) 4)) ∧ (∀ p, p < 16 → okW M (a (3 + p))) ∧ (∀ p, p < 16 → vf_n32 (FP.fmul (N.2 (m 4) p) 1061158912)) := by
  obtain ⟨w, kd, R, n, h⟩ := h
  refine ⟨fun p hp => (z5.mp (h.2.2.2.2.2.2.2 p 5 hp (by omega) (by omega))).no, fun p hp => (z4.mp (h.2.2.2.2.2.2.2 p 4 hp (by omega) (by omega))).no, fun p hp => h.okW hp, h.okWm⟩
theorem mRs_no {a m : Nat → Nat} {M N : pM} (h : simP zZ a m M N) : (∃ n, okP N m n) ∧ (∃ R : Nat, R ≤ 6 ∧ N.1 (m 0) 16 = nI R) ∧ (∃ R : Nat, R ≤ 16 ∧ N.1 (m 0) 28 = nI R) ∧ (∃ j : Nat, j ≤ 20 ∧ N.1 (m 0) 23 = nI j) := by
  obtain ⟨w, kd, R, n, h⟩ := h
  have hP := h.okP
  obtain ⟨R', r1, r2, -⟩ := h.okRs
  obtain ⟨E, e1, e2⟩ := h.2.2.2.2.1
  refine ⟨⟨n, hP⟩, ⟨R', r1, r2⟩, ⟨E, e1, ?_⟩, ⟨n, hP.1, hP.2.1⟩⟩
  rw [← e2]
  exact (h.1 _ _ _ _ sT_en).symm
/-- what poll asks for -/
theorem poll_x {a m : Nat → Nat} {M N : pM} (A : sAd a m) (h : simP zZ a m M N) : (∀ i, i < 16 → okS (xAskN a (xReach (pI M (a 0) 7 (M.1 (a 0) 7 + 1)) (fun i => a (3 + i)) (a 19)) i (pI M (a 0) 7 (M.1 (a 0) 7 + 1))) (a (3 + i))) ∧ (∀ i, i < 16 → okW (xP2 a M) (a (3 + i))) := by
  obtain ⟨w, kd, R, n, h⟩ := h
  have h0 := Sim.p0 A h
  refine ⟨fun i hi => ?_, fun i hi => ?_⟩
  · exact (Sim.askN A sZ_zZ h0 (fun p hp => h0.xrc hp) i (by omega)).okS hi
  · exact (Sim.p2 A sZ_zZ h).2.okW hi
theorem poll_m {a m : Nat → Nat} {M N : pM} (A : sAd a m) (h : simP zZ a m M N) : (∀ p, p < 16 → (mAskN m p (mP0 N m)).1 (m 2) p ≠ 3 → okM (mAskN m p (mP0 N m)) m p) ∧ okRs (mP2 N m).2 m ∧ okWm (mP2 N m).2 m := by
  obtain ⟨w, kd, R, n, h⟩ := h
  have h0 := Sim.p0 A h
  refine ⟨fun p hp _ => ?_, (Sim.p2 A sZ_zZ h).2.okRs, (Sim.p2 A sZ_zZ h).2.okWm⟩
  exact (Sim.askN A sZ_zZ h0 (fun p hp => h0.xrc hp) p (by omega)).okM hp
theorem S_poll {a m : Nat → Nat} {M N : pM} (A : sAd a m) (h : simP zZ a m M N) : (xWzN a 4 (xP1 a M)).1 = (mPoll N m).1 ∧ simP zZ a m (xPoll a M) (mPoll N m).2 := by
  obtain ⟨w, kd, R, n, h⟩ := h
  obtain ⟨h1, h2⟩ := Sim.poll A sZ_zZ h
  exact ⟨h1, h2.P⟩
theorem lev_no {a m : Nat → Nat} {M : pM} {p : Int32} {s : Nat} (h : simP zZ a m M M) (hs : s = 5 ∨ s = 4) (c0 : oK k1 (xLevO a M p s) = 0) : vf_n64 (FP.f2d (oF (xLevO a M p s))) := by
  unfold xLevO at c0 ⊢
  by_cases c : xIn p 16 = true
  · obtain ⟨q, hq, -, eq⟩ := xIn_n (B := 16) rfl (by omega) c
    rw [if_pos c, show xC p = q from eq]
    rcases hs with rfl | rfl
    · exact Free.Fl.f2d_out ((mLv_no h).1 q hq)
    · exact Free.Fl.f2d_out ((mLv_no h).2.1 q hq)
  · rw [if_neg c] at c0
    exact absurd c0 (by decide)
abbrev lvB (a m : Nat → Nat) (b h j : Nat) : List (Nat × Value) := [(0, .ref b), (1, .ref (a 0)), (2, .ref (m 0)), (3, .ref (h + 69)), (4, .ref (h + 70)), (5, .int (nI (5 * j)))]
