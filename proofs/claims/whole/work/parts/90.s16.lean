section SIM16
/-- the bounds: threshold, reading, base, level -/
def zZ (s : Nat) (x : UInt32) : Prop := if s = 2 then zr 0 100 x else if s = 3 then zr (-200) 200 x else if s = 4 then zr (-1024) 1024 x else zr (-8192) 8192 x
theorem z_d {r b : UInt32} (hr : zr (-200) 200 r) (hb : zr (-1024) 1024 b) : zr (-1224) 1224 (FP.fsub r b) := by
  have fr := hr.fin (by decide) (by decide)
  have fb := hb.fin (by decide) (by decide)
  obtain ⟨r1, r2, r3⟩ := hr
  obtain ⟨b1, b2, b3⟩ := hb
  have hp := zu_pos
  refine ⟨sub_no fr fb, sub_ge fr fb z_1224.2.1 z_1224.2.2 ?_, sub_le fr fb z_1224.1.1 z_1224.1.2 ?_⟩ <;> generalize zu = u at * <;> omega
theorem z_e {d l : UInt32} (hd : zr (-1224) 1224 d) (hl : zr (-8192) 8192 l) : zr (-9416) 9416 (FP.fsub d l) ∧ (2000 * zu < zv l → zv (FP.fsub d l) ≤ 0) ∧ (zv l < -2000 * zu → 0 ≤ zv (FP.fsub d l)) := by
  have fd := hd.fin (by decide) (by decide)
  have fl := hl.fin (by decide) (by decide)
  obtain ⟨r1, r2, r3⟩ := hd
  obtain ⟨b1, b2, b3⟩ := hl
  have hp := zu_pos
  refine ⟨⟨sub_no fd fl, sub_ge fd fl z_9416.2.1 z_9416.2.2 ?_, sub_le fd fl z_9416.1.1 z_9416.1.2 ?_⟩, fun h => sub_le fd fl z_0.1 (by rw [z_0.2]; exact Int.zero_mul _) ?_, fun h => sub_ge fd fl z_0.1 (by rw [z_0.2]; exact Int.zero_mul _) ?_⟩ <;> generalize zu = u at * <;> omega
theorem z_h {e : UInt32} (he : zr (-9416) 9416 e) : zr (-4708) 4708 (FP.fmul e 1056964608) ∧ (zv e ≤ 0 → zv (FP.fmul e 1056964608) ≤ 0) ∧ (0 ≤ zv e → 0 ≤ zv (FP.fmul e 1056964608)) := by
  have fe := he.fin (by decide) (by decide)
  obtain ⟨r1, r2, r3⟩ := he
  have hp := zu_pos
  have e2 : ((2 ^ (-(-24 : Int)).toNat : Nat) : Int) = 16777216 := by decide
  refine ⟨⟨mul_no fe ⟨_, _, _, q_half⟩, mul_ge fe q_half (by decide) z_4708.2.1 z_4708.2.2 ?_, mul_le fe q_half (by decide) z_4708.1.1 z_4708.1.2 ?_⟩, fun h => mul_le fe q_half (by decide) z_0.1 (by rw [z_0.2]; exact Int.zero_mul _) ?_, fun h => mul_ge fe q_half (by decide) z_0.1 (by rw [z_0.2]; exact Int.zero_mul _) ?_⟩ <;> rw [e2] <;> generalize zu = u at * <;> omega
theorem z_l {l h : UInt32} (hl : zr (-8192) 8192 l) (hh : zr (-4708) 4708 h) (h1 : 2000 * zu < zv l → zv h ≤ 0) (h2 : zv l < -2000 * zu → 0 ≤ zv h) : zr (-8192) 8192 (FP.fadd l h) := by
  have fl := hl.fin (by decide) (by decide)
  have fh := hh.fin (by decide) (by decide)
  obtain ⟨r1, r2, r3⟩ := hl
  obtain ⟨b1, b2, b3⟩ := hh
  have hp := zu_pos
  refine ⟨add_no fl fh, ?_, ?_⟩
  · refine add_ge fl fh z_8192.2.1 z_8192.2.2 ?_
    by_cases c : zv l < -2000 * zu
    · have := h2 c
      omega
    · generalize zu = u at *
      omega
  · refine add_le fl fh z_8192.1.1 z_8192.1.2 ?_
    by_cases c : 2000 * zu < zv l
    · have := h1 c
      omega
    · generalize zu = u at *
      omega
theorem z_b {r b : UInt32} (hr : zr (-200) 200 r) (hb : zr (-1024) 1024 b) : zr (-77) 77 (FP.fmul (FP.fsub r b) 1031798784) ∧ zr (-1024) 1024 (FP.fadd b (FP.fmul (FP.fsub r b) 1031798784)) := by
  have hd := z_d hr hb
  have fr := hr.fin (by decide) (by decide)
  have fb := hb.fin (by decide) (by decide)
  have fd := hd.fin (by decide) (by decide)
  obtain ⟨r1, r2, r3⟩ := hr
  obtain ⟨b1, b2, b3⟩ := hb
  obtain ⟨d1, d2, d3⟩ := hd
  have hp := zu_pos
  have e2 : ((2 ^ (-(-27 : Int)).toNat : Nat) : Int) = 134217728 := by decide
  have m : zr (-77) 77 (FP.fmul (FP.fsub r b) 1031798784) := by
    refine ⟨mul_no fd ⟨_, _, _, q_16th⟩, mul_ge fd q_16th (by decide) z_77.2.1 z_77.2.2 ?_, mul_le fd q_16th (by decide) z_77.1.1 z_77.1.2 ?_⟩ <;> rw [e2] <;> generalize zu = u at * <;> omega
  have fm := m.fin (by decide) (by decide)
  obtain ⟨m1, m2, m3⟩ := id m
  refine ⟨m, add_no fb fm, ?_, ?_⟩
  · refine add_ge fb fm z_1024.2.1 z_1024.2.2 ?_
    by_cases c : zv b < -900 * zu
    · have k1 : 0 ≤ zv (FP.fsub r b) := sub_ge fr fb z_0.1 (by rw [z_0.2]; exact Int.zero_mul _) (by generalize zu = u at *; omega)
      have k2 : 0 ≤ zv (FP.fmul (FP.fsub r b) 1031798784) := mul_ge fd q_16th (by decide) z_0.1 (by rw [z_0.2]; exact Int.zero_mul _) (by rw [e2]; omega)
      omega
    · generalize zu = u at *
      omega
  · refine add_le fb fm z_1024.1.1 z_1024.1.2 ?_
    by_cases c : 900 * zu < zv b
    · have k1 : zv (FP.fsub r b) ≤ 0 := sub_le fr fb z_0.1 (by rw [z_0.2]; exact Int.zero_mul _) (by generalize zu = u at *; omega)
      have k2 : zv (FP.fmul (FP.fsub r b) 1031798784) ≤ 0 := mul_le fd q_16th (by decide) z_0.1 (by rw [z_0.2]; exact Int.zero_mul _) (by rw [e2]; omega)
      omega
    · generalize zu = u at *
      omega
theorem z_t {r b : UInt32} (hr : zr (-200) 200 r) (hb : zr (-1024) 1024 b) : zr (-4896) 4896 (FP.fmul (FP.fsub r b) 1082130432) ∧ zr (-50) 50 (FP.fmul r 1048576000) ∧ zr (-8192) 8192 (FP.fadd (FP.fmul (FP.fsub r b) 1082130432) (FP.fmul r 1048576000)) := by
  have hd := z_d hr hb
  have fr := hr.fin (by decide) (by decide)
  have fd := hd.fin (by decide) (by decide)
  obtain ⟨r1, r2, r3⟩ := hr
  obtain ⟨d1, d2, d3⟩ := hd
  have hp := zu_pos
  have e4 : ((2 ^ (-(-21 : Int)).toNat : Nat) : Int) = 2097152 := by decide
  have e25 : ((2 ^ (-(-25 : Int)).toNat : Nat) : Int) = 33554432 := by decide
  have m : zr (-4896) 4896 (FP.fmul (FP.fsub r b) 1082130432) := by
    refine ⟨mul_no fd ⟨_, _, _, q_4⟩, mul_ge fd q_4 (by decide) z_4896.2.1 z_4896.2.2 ?_, mul_le fd q_4 (by decide) z_4896.1.1 z_4896.1.2 ?_⟩ <;> rw [e4] <;> generalize zu = u at * <;> omega
  have n : zr (-50) 50 (FP.fmul r 1048576000) := by
    refine ⟨mul_no fr ⟨_, _, _, q_4th⟩, mul_ge fr q_4th (by decide) z_50.2.1 z_50.2.2 ?_, mul_le fr q_4th (by decide) z_50.1.1 z_50.1.2 ?_⟩ <;> rw [e25] <;> generalize zu = u at * <;> omega
  have fm := m.fin (by decide) (by decide)
  have fn := n.fin (by decide) (by decide)
  obtain ⟨m1, m2, m3⟩ := id m
  obtain ⟨n1, n2, n3⟩ := id n
  refine ⟨m, n, add_no fm fn, ?_, ?_⟩
  · refine add_ge fm fn z_8192.2.1 z_8192.2.2 ?_
    generalize zu = u at *
    omega
  · refine add_le fm fn z_8192.1.1 z_8192.1.2 ?_
    generalize zu = u at *
    omega
theorem z2 {x : UInt32} : zZ 2 x ↔ zr 0 100 x := Iff.rfl
theorem z3 {x : UInt32} : zZ 3 x ↔ zr (-200) 200 x := Iff.rfl
theorem z4 {x : UInt32} : zZ 4 x ↔ zr (-1024) 1024 x := Iff.rfl
theorem z5 {x : UInt32} : zZ 5 x ↔ zr (-8192) 8192 x := Iff.rfl
theorem zc0 {lo hi : Int} (h1 : lo ≤ 0) (h2 : 0 ≤ hi) : zr lo hi FP.fconst0 := by
  have h : zr 0 0 FP.fconst0 := ⟨z_0.1, by rw [show FP.fconst0 = (0 : UInt32) from rfl, z_0.2]; exact Int.le_refl _, by rw [show FP.fconst0 = (0 : UInt32) from rfl, z_0.2]; exact Int.le_refl _⟩
  exact h.mono h1 h2
theorem z_sm {r b l : UInt32} (hr : zr (-200) 200 r) (hb : zr (-1024) 1024 b) (hl : zr (-8192) 8192 l) : zr (-8192) 8192 (FP.fadd l (FP.fmul (FP.fsub (FP.fsub r b) l) 1056964608)) := by
  have e := z_e (z_d hr hb) hl
  have h := z_h e.1
  exact z_l hl h.1 (fun c => h.2.1 (e.2.1 c)) (fun c => h.2.2 (e.2.2 c))
theorem sZ_zZ : sZ zZ := by
  refine ⟨fun r b l hr hb hl => ⟨z_sm hr hb hl, (z_b hr hb).2, (z_t hr hb).2.2⟩, fun r hr => ⟨?_, ?_⟩, zc0 (by decide) (by decide), zc0 (by decide) (by decide)⟩
  · exact (z3.mp hr).mono (by decide) (by decide)
  · exact (z3.mp hr).mono (by decide) (by decide)
/-- so nothing is NaN -/
theorem zZ_ok {r b l : UInt32} (hr : zZ 3 r) (hb : zZ 4 b) (hl : zZ 5 l) : (vf_n32 (FP.fsub r b) ∧ vf_n32 (FP.fsub (FP.fsub r b) l) ∧ vf_n32 (FP.fmul (FP.fsub (FP.fsub r b) l) 1056964608) ∧ vf_n32 (FP.fadd l (FP.fmul (FP.fsub (FP.fsub r b) l) 1056964608)) ∧ vf_n32 (FP.fmul (FP.fsub r b) 1031798784) ∧ vf_n32 (FP.fadd b (FP.fmul (FP.fsub r b) 1031798784))) ∧ (vf_n32 (FP.fmul (FP.fsub r b) 1082130432) ∧ vf_n32 (FP.fmul r 1048576000) ∧ vf_n32 (FP.fadd (FP.fmul (FP.fsub r b) 1082130432) (FP.fmul r 1048576000))) := by
  have d := z_d hr hb
  have e := z_e d hl
  have h := z_h e.1
  have bb := z_b hr hb
  have t := z_t hr hb
  exact ⟨⟨d.no, e.1.no, h.1.no, (z_sm hr hb hl).no, bb.1.no, bb.2.no⟩, t.1.no, t.2.1.no, t.2.2.no⟩
theorem zZ_75 {t : UInt32} (h : zZ 2 t) : vf_n32 (FP.fmul t 1061158912) := by
  show Free.Fl.NoNaN32 _
  rw [Free.Fl.val32_no]
  exact mul_no ((z2.mp h).fin (by decide) (by decide)) q_75
/-- the tests of fit and reading -/
theorem cmp_l {o : Option Ordering} (h : ¬ Op.cmpValue o .l < 0) : o = some .gt ∨ o = some .eq := by
  rcases o with _ | (_ | _ | _)
  · exact absurd (by decide) h
  · exact absurd (by decide) h
  · exact Or.inr rfl
  · exact Or.inl rfl
theorem cmp_g {o : Option Ordering} (h : Op.cmpValue o .g ≤ 0) : o = some .lt ∨ o = some .eq := by
  rcases o with _ | (_ | _ | _)
  · exact absurd h (by decide)
  · exact Or.inl rfl
  · exact Or.inr rfl
  · exact absurd h (by decide)
theorem zT_fit (t : UInt32) (h1 : ¬ Op.cmpValue (FP.fcmp t 1056964608) .l < 0) (h2 : Op.cmpValue (FP.fcmp t 1120403456) .g ≤ 0) : zZ 2 t := by
  obtain ⟨a1, a2, a3⟩ := FP.Core.fcmp_ge.mp (cmp_l h1)
  obtain ⟨b1, b2, b3⟩ := FP.Core.fcmp_le.mp (cmp_g h2)
  have e1 : 0 ≤ FP.Core.zval FP.Core.b32 (FP.Core.val32 1056964608) := by decide +kernel
  have e2 : FP.Core.zval FP.Core.b32 (FP.Core.val32 1120403456) = 100 * zu := by decide +kernel
  refine z2.mpr ⟨a1, ?_, ?_⟩
  · rw [Int.zero_mul]; exact Int.le_trans e1 a3
  · rw [← e2]; exact b3
theorem zT_rd (t : UInt32) (h1 : ¬ Op.cmpValue (FP.fcmp t 3267887104) .l < 0) (h2 : Op.cmpValue (FP.fcmp t 1128792064) .g ≤ 0) : zZ 3 t := by
  obtain ⟨a1, a2, a3⟩ := FP.Core.fcmp_ge.mp (cmp_l h1)
  obtain ⟨b1, b2, b3⟩ := FP.Core.fcmp_le.mp (cmp_g h2)
  have e1 : (-200) * zu ≤ FP.Core.zval FP.Core.b32 (FP.Core.val32 3267887104) := by decide +kernel
  have e2 : FP.Core.zval FP.Core.b32 (FP.Core.val32 1128792064) = 200 * zu := by decide +kernel
  refine z3.mpr ⟨a1, ?_, ?_⟩
  · exact Int.le_trans e1 a3
  · rw [← e2]; exact b3
/-! what the calls ask for -/
variable {a m : Nat → Nat} {M N : pM} {w kd : Nat → Int32} {R n : Nat}
theorem Sim.okS (h : Sim zZ a m w kd R n M N) {p : Nat} (hp : p < 16) : okS M (a (3 + p)) := by
  have h3 := h.2.2.2.2.2.2.2 p 3 hp (by omega) (by omega)
  have h4 := h.2.2.2.2.2.2.2 p 4 hp (by omega) (by omega)
  have h5 := h.2.2.2.2.2.2.2 p 5 hp (by omega) (by omega)
  obtain ⟨⟨k1, k2, k3, k4, k5, k6⟩, k7, k8, k9⟩ := zZ_ok h3 h4 h5
  exact ⟨fun _ => ⟨k1, k2, k3, k4, k5, k6⟩, fun _ => ⟨k1, k7, k8, k9⟩⟩
theorem Sim.okW (h : Sim zZ a m w kd R n M N) {p : Nat} (hp : p < 16) : okW M (a (3 + p)) := zZ_75 (h.2.2.2.2.2.2.2 p 2 hp (by omega) (by omega))
theorem Sim.okWm (h : Sim zZ a m w kd R n M N) : okWm N m := fun p hp => by
  have := zZ_75 (h.2.2.2.2.2.2.2 p 2 hp (by omega) (by omega))
  rw [h.rf hp (s := 2) (k := 4) (by omega) (by omega) rfl] at this
  exact this
theorem Sim.okM (h : Sim zZ a m w kd R n M N) {p : Nat} (hp : p < 16) : okM N m p := by
  have h3 := h.2.2.2.2.2.2.2 p 3 hp (by omega) (by omega)
  have h4 := h.2.2.2.2.2.2.2 p 4 hp (by omega) (by omega)
  have h5 := h.2.2.2.2.2.2.2 p 5 hp (by omega) (by omega)
  rw [h.rf hp (s := 3) (k := 5) (by omega) (by omega) rfl] at h3
  rw [h.rf hp (s := 4) (k := 6) (by omega) (by omega) rfl] at h4
  rw [h.rf hp (s := 5) (k := 7) (by omega) (by omega) rfl] at h5
  obtain ⟨⟨k1, k2, k3, k4, k5, k6⟩, k7, k8, k9⟩ := zZ_ok h3 h4 h5
  exact ⟨k1, fun _ => ⟨k2, k3, k4⟩, fun _ => ⟨k7, k8, k9⟩, k5, k6⟩
theorem Sim.okRs (h : Sim zZ a m w kd R n M N) : okRs N m := by
  have e2 : N.1 (m 0) 16 = nI R := by rw [← h.2.2.1.2.1]; exact (h.pf (by simp)).symm
  refine ⟨R, h.2.2.1.1, e2, fun r hr => ?_⟩
  obtain ⟨⟨L, l1, l2, l3, l4⟩, -⟩ := h.2.2.1.2.2 r hr
  refine ⟨L, l1, l3, fun k hk => ?_⟩
  obtain ⟨v, v1, v2, v3⟩ := l4 k hk
  exact ⟨v, v1, v3⟩
theorem Sim.okP (h : Sim zZ a m w kd R n M N) : okP N m n := by
  have e2 : N.1 (m 0) 23 = nI n := by rw [← h.2.2.2.1.2.1]; exact (h.1 _ _ _ _ sT_pd).symm
  exact ⟨h.2.2.2.1.1, e2, fun j hj => (h.2.2.2.1.2.2 j hj).2⟩
end SIM16
