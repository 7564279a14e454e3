section SIM15
/-! FLOATS: what a place keeps stays within bounds, so nothing is ever NaN. Values are counted in units of 2^-149. -/
def zv (a : UInt32) : Int := FP.Core.zval FP.Core.b32 (FP.Core.val32 a)
def zu : Int := ((2 ^ 149 : Nat) : Int)
theorem zu_pos : 0 < zu := by unfold zu; exact Int.natCast_pos.mpr (Nat.two_pow_pos _)
def zr (lo hi : Int) (a : UInt32) : Prop := FP.Core.val32 a ≠ .nan ∧ lo * zu ≤ zv a ∧ zv a ≤ hi * zu
theorem zr.no {lo hi : Int} {a : UInt32} (h : zr lo hi a) : vf_n32 a := by
  show Free.Fl.NoNaN32 a
  rw [Free.Fl.noNaN32_no, ← Bool.not_eq_true, FP.Core.fIsNaN_iff]
  exact h.1
theorem zr.fin {lo hi : Int} {a : UInt32} (h : zr lo hi a) (hl : -65536 ≤ lo) (hh : hi ≤ 65536) : ∃ s c q, FP.Core.val32 a = .fin s c q := by
  obtain ⟨h1, h2, h3⟩ := h
  cases e : FP.Core.val32 a with
  | nan => exact absurd e h1
  | inf s =>
    exfalso
    have hb : (65536 : Int) * zu < ((FP.Core.b32.tails * 2 ^ (FP.Core.b32.exps - 2) : Nat) : Int) := by decide +kernel
    have hp := zu_pos
    have l1 : (-65536) * zu ≤ lo * zu := Int.mul_le_mul_of_nonneg_right hl (Int.le_of_lt hp)
    have l2 : hi * zu ≤ 65536 * zu := Int.mul_le_mul_of_nonneg_right hh (Int.le_of_lt hp)
    have ez : zv a = FP.Core.signed s (FP.Core.b32.tails * 2 ^ (FP.Core.b32.exps - 2)) := by
      unfold zv
      rw [e]; rfl
    rw [ez] at h2 h3
    generalize FP.Core.b32.tails * 2 ^ (FP.Core.b32.exps - 2) = top at *
    generalize zu = u at *
    cases s <;> simp only [FP.Core.signed, if_true, Bool.false_eq_true, if_false] at h2 h3 <;> omega
  | fin s c q => exact ⟨s, c, q, rfl⟩
theorem zr.mono {lo hi lo' hi' : Int} {a : UInt32} (h : zr lo hi a) (hl : lo' ≤ lo) (hh : hi ≤ hi') : zr lo' hi' a := by
  have hp := zu_pos
  have l1 : lo' * zu ≤ lo * zu := Int.mul_le_mul_of_nonneg_right hl (Int.le_of_lt hp)
  have l2 : hi * zu ≤ hi' * zu := Int.mul_le_mul_of_nonneg_right hh (Int.le_of_lt hp)
  exact ⟨h.1, by have := h.2.1; omega, by have := h.2.2; omega⟩
/-- whole numbers that are floats -/
def zi (V : UInt32) (i : Int) : Prop := FP.Core.val32 V ≠ .nan ∧ zv V = i * zu
theorem add_le {a b V : UInt32} {x : Int} (ha : ∃ s c q, FP.Core.val32 a = .fin s c q) (hb : ∃ s c q, FP.Core.val32 b = .fin s c q) (hV : FP.Core.val32 V ≠ .nan) (hx : zv V = x) (h : zv a + zv b ≤ x) : zv (FP.fadd a b) ≤ x := by
  subst hx
  unfold zv at h ⊢
  rw [show FP.fadd a b = FP.Core.fadd a b from rfl, FP.Core.val32_fadd]
  exact FP.Core.sum_le FP.Core.good_b32 ha hb (FP.Core.val32_fits a) (FP.Core.val32_fits b) (FP.Core.val32_fits V) hV h
theorem add_ge {a b V : UInt32} {x : Int} (ha : ∃ s c q, FP.Core.val32 a = .fin s c q) (hb : ∃ s c q, FP.Core.val32 b = .fin s c q) (hV : FP.Core.val32 V ≠ .nan) (hx : zv V = x) (h : x ≤ zv a + zv b) : x ≤ zv (FP.fadd a b) := by
  subst hx
  unfold zv at h ⊢
  rw [show FP.fadd a b = FP.Core.fadd a b from rfl, FP.Core.val32_fadd]
  exact FP.Core.sum_ge FP.Core.good_b32 ha hb (FP.Core.val32_fits a) (FP.Core.val32_fits b) (FP.Core.val32_fits V) hV h
theorem neg_fin {b : UInt32} (hb : ∃ s c q, FP.Core.val32 b = .fin s c q) : ∃ s c q, FP.Core.negate (FP.Core.val32 b) = .fin s c q := by
  obtain ⟨s, c, q, e⟩ := hb
  exact ⟨!s, c, q, by rw [e]; rfl⟩
theorem sub_le {a b V : UInt32} {x : Int} (ha : ∃ s c q, FP.Core.val32 a = .fin s c q) (hb : ∃ s c q, FP.Core.val32 b = .fin s c q) (hV : FP.Core.val32 V ≠ .nan) (hx : zv V = x) (h : zv a - zv b ≤ x) : zv (FP.fsub a b) ≤ x := by
  subst hx
  unfold zv at h ⊢
  rw [show FP.fsub a b = FP.Core.fsub a b from rfl, FP.Core.val32_fsub]
  exact FP.Core.sum_le FP.Core.good_b32 ha (neg_fin hb) (FP.Core.val32_fits a) (FP.Core.negate_fits (FP.Core.val32_fits b)) (FP.Core.val32_fits V) hV (by rw [FP.Core.zval_negate]; omega)
theorem sub_ge {a b V : UInt32} {x : Int} (ha : ∃ s c q, FP.Core.val32 a = .fin s c q) (hb : ∃ s c q, FP.Core.val32 b = .fin s c q) (hV : FP.Core.val32 V ≠ .nan) (hx : zv V = x) (h : x ≤ zv a - zv b) : x ≤ zv (FP.fsub a b) := by
  subst hx
  unfold zv at h ⊢
  rw [show FP.fsub a b = FP.Core.fsub a b from rfl, FP.Core.val32_fsub]
  exact FP.Core.sum_ge FP.Core.good_b32 ha (neg_fin hb) (FP.Core.val32_fits a) (FP.Core.negate_fits (FP.Core.val32_fits b)) (FP.Core.val32_fits V) hV (by rw [FP.Core.zval_negate]; omega)
/-- times a power of two -/
theorem prod_sg {s : Bool} {c : Nat} {q k : Int} {e : Nat} (hq : FP.Core.b32.qmin ≤ q) : FP.Core.signed (s != false) (FP.Core.inUnits (c * 8388608) (q + k) (FP.Core.b32.qmin + k)) = FP.Core.signed s (FP.Core.inUnits c q FP.Core.b32.qmin) * 8388608 := by
  have e1 : (q + k - (FP.Core.b32.qmin + k)) = q - FP.Core.b32.qmin := by omega
  unfold FP.Core.inUnits
  rw [e1]
  generalize 2 ^ (q - FP.Core.b32.qmin).toNat = y
  have : c * 8388608 * y = c * y * 8388608 := by
    rw [Nat.mul_assoc, Nat.mul_comm 8388608 y, Nat.mul_assoc]
  rw [this]
  cases s <;> simp [FP.Core.signed, Int.neg_mul]
theorem mul_le {a K V : UInt32} {x k : Int} (ha : ∃ s c q, FP.Core.val32 a = .fin s c q) (hK : FP.Core.val32 K = .fin false 8388608 k) (hk : k ≤ 0) (hV : FP.Core.val32 V ≠ .nan) (hx : zv V = x) (h : zv a * 8388608 ≤ x * ((2 ^ (-k).toNat : Nat) : Int)) : zv (FP.fmul a K) ≤ x := by
  subst hx
  obtain ⟨s, c, q, e⟩ := ha
  have hf := FP.Core.val32_fits a
  rw [e] at hf
  have hq : FP.Core.b32.qmin ≤ q := hf.2.1
  unfold zv at h ⊢
  rw [show FP.fmul a K = FP.Core.fmul a K from rfl, FP.Core.val32_fmul, e, hK]
  show FP.Core.zval FP.Core.b32 (FP.Core.round FP.Core.b32 (.fin (s != false) (c * 8388608) (q + k))) ≤ _
  refine FP.Core.zval_round_le FP.Core.good_b32 (FP.Core.val32_fits V) hV (e0 := FP.Core.b32.qmin + k) (by omega) (by omega) ?_
  rw [prod_sg (e := 0) hq, show FP.Core.b32.qmin - (FP.Core.b32.qmin + k) = -k by omega]
  rw [e] at h
  exact h
theorem mul_ge {a K V : UInt32} {x k : Int} (ha : ∃ s c q, FP.Core.val32 a = .fin s c q) (hK : FP.Core.val32 K = .fin false 8388608 k) (hk : k ≤ 0) (hV : FP.Core.val32 V ≠ .nan) (hx : zv V = x) (h : x * ((2 ^ (-k).toNat : Nat) : Int) ≤ zv a * 8388608) : x ≤ zv (FP.fmul a K) := by
  subst hx
  obtain ⟨s, c, q, e⟩ := ha
  have hf := FP.Core.val32_fits a
  rw [e] at hf
  have hq : FP.Core.b32.qmin ≤ q := hf.2.1
  unfold zv at h ⊢
  rw [show FP.fmul a K = FP.Core.fmul a K from rfl, FP.Core.val32_fmul, e, hK]
  show _ ≤ FP.Core.zval FP.Core.b32 (FP.Core.round FP.Core.b32 (.fin (s != false) (c * 8388608) (q + k)))
  refine FP.Core.zval_round_ge FP.Core.good_b32 (FP.Core.val32_fits V) hV (e0 := FP.Core.b32.qmin + k) (by omega) (by omega) ?_
  rw [prod_sg (e := 0) hq, show FP.Core.b32.qmin - (FP.Core.b32.qmin + k) = -k by omega]
  rw [e] at h
  exact h
theorem add_no {a b : UInt32} (ha : ∃ s c q, FP.Core.val32 a = .fin s c q) (hb : ∃ s c q, FP.Core.val32 b = .fin s c q) : FP.Core.val32 (FP.fadd a b) ≠ .nan := by
  have := FP.Core.fadd_out (a := a) (b := b) (by
    obtain ⟨s, c, q, e⟩ := ha
    rw [← Bool.not_eq_true, FP.Core.fIsNaN_iff, e]; exact FP.Core.Datum.noConfusion) hb
  rw [← Bool.not_eq_true, FP.Core.fIsNaN_iff] at this
  exact this
theorem sub_no {a b : UInt32} (ha : ∃ s c q, FP.Core.val32 a = .fin s c q) (hb : ∃ s c q, FP.Core.val32 b = .fin s c q) : FP.Core.val32 (FP.fsub a b) ≠ .nan := by
  have := FP.Core.fsub_out (a := a) (b := b) (by
    obtain ⟨s, c, q, e⟩ := ha
    rw [← Bool.not_eq_true, FP.Core.fIsNaN_iff, e]; exact FP.Core.Datum.noConfusion) hb
  rw [← Bool.not_eq_true, FP.Core.fIsNaN_iff] at this
  exact this
theorem mul_no {a b : UInt32} (ha : ∃ s c q, FP.Core.val32 a = .fin s c q) (hb : ∃ s c q, FP.Core.val32 b = .fin s c q) : FP.Core.val32 (FP.fmul a b) ≠ .nan := by
  have := FP.Core.fmul_out (a := a) (b := b) ha hb
  rw [← Bool.not_eq_true, FP.Core.fIsNaN_iff] at this
  exact this
/-! the numbers -/
theorem z_0 : zi 0 0 := ⟨by decide +kernel, by decide +kernel⟩
theorem z_8192 : zi 0x46000000 8192 ∧ zi 0xc6000000 (-8192) := ⟨⟨by decide +kernel, by decide +kernel⟩, ⟨by decide +kernel, by decide +kernel⟩⟩
theorem z_1024 : zi 0x44800000 1024 ∧ zi 0xc4800000 (-1024) := ⟨⟨by decide +kernel, by decide +kernel⟩, ⟨by decide +kernel, by decide +kernel⟩⟩
theorem z_1224 : zi 0x44990000 1224 ∧ zi 0xc4990000 (-1224) := ⟨⟨by decide +kernel, by decide +kernel⟩, ⟨by decide +kernel, by decide +kernel⟩⟩
theorem z_9416 : zi 0x46132000 9416 ∧ zi 0xc6132000 (-9416) := ⟨⟨by decide +kernel, by decide +kernel⟩, ⟨by decide +kernel, by decide +kernel⟩⟩
theorem z_4708 : zi 0x45932000 4708 ∧ zi 0xc5932000 (-4708) := ⟨⟨by decide +kernel, by decide +kernel⟩, ⟨by decide +kernel, by decide +kernel⟩⟩
theorem z_77 : zi 0x429a0000 77 ∧ zi 0xc29a0000 (-77) := ⟨⟨by decide +kernel, by decide +kernel⟩, ⟨by decide +kernel, by decide +kernel⟩⟩
theorem z_4896 : zi 0x45990000 4896 ∧ zi 0xc5990000 (-4896) := ⟨⟨by decide +kernel, by decide +kernel⟩, ⟨by decide +kernel, by decide +kernel⟩⟩
theorem z_50 : zi 0x42480000 50 ∧ zi 0xc2480000 (-50) := ⟨⟨by decide +kernel, by decide +kernel⟩, ⟨by decide +kernel, by decide +kernel⟩⟩
theorem q_half : FP.Core.val32 1056964608 = .fin false 8388608 (-24) := by decide +kernel
theorem q_16th : FP.Core.val32 1031798784 = .fin false 8388608 (-27) := by decide +kernel
theorem q_4 : FP.Core.val32 1082130432 = .fin false 8388608 (-21) := by decide +kernel
theorem q_4th : FP.Core.val32 1048576000 = .fin false 8388608 (-25) := by decide +kernel
theorem q_75 : ∃ s c q, FP.Core.val32 1061158912 = .fin s c q := ⟨false, 12582912, -24, by decide +kernel⟩
end SIM15
