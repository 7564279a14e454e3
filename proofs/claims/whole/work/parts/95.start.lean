/-! THE START: what the tables and the start give; the empty panel and the empty reference are alike. -/
theorem arr_of {s : State} {args : Array Value} {ty : FieldType} (h : (Cond.arrayClass ty).before args s = true) : ∃ cA, ArrOfT s cA ty ∧ s.vm.findClass ("[" ++ ty.toString) = some cA := by
  obtain ⟨c, k, comp, h1, h2, h3⟩ := Cond.arrayClass_spec h
  exact ⟨c, fun n z => ⟨fun k h => (by cases h), k, h2, comp, h3⟩, h1⟩
theorem arr_ov {s : State} {Cn : String} (h : va_AO Cn s) : ∃ cA, ArrOfT s cA (.object Cn) ∧ va_RA s cA (.object Cn) := by
  obtain ⟨comp, c, k, h1, -, h3, h4, h5⟩ := Cond.arrayOver_spec h
  exact ⟨c, fun n z => ⟨fun k h => (by cases h), k, h3, comp, h4⟩, k, comp, h3, h4, h1, h5⟩
theorem law_K {s : State} {args : Array Value} (ht : ∀ w ∈ wsL_law, w.before args s = true) (h2 : va_AO RX2 s) (h4 : va_AO RX4 s) (h5 : va_AO RX5 s) : ∃ (D : va_G) (cy : Nat → ClassId), va_K D vwCl (ptys cy) s := by
  obtain ⟨c0, i0, k0⟩ := u_known (C := RX0) (T := TX0) (N := 2) (n := 2) ht (by decide +kernel) (ht _ (by decide +kernel))
  obtain ⟨c1, i1, k1⟩ := u_known (C := RX1) (T := TX1) (N := 3) (n := 3) ht (by decide +kernel) (ht _ (by decide +kernel))
  obtain ⟨c2, i2, k2⟩ := u_known (C := RX2) (T := TX2) (N := 11) (n := 11) ht (by decide +kernel) (ht _ (by decide +kernel))
  obtain ⟨c3, i3, k3⟩ := u_known (C := RX3) (T := TX3) (N := 2) (n := 2) ht (by decide +kernel) (ht _ (by decide +kernel))
  obtain ⟨c4, i4, k4⟩ := u_known (C := RX4) (T := TX4) (N := 5) (n := 5) ht (by decide +kernel) (ht _ (by decide +kernel))
  obtain ⟨c5, i5, k5⟩ := u_known (C := RX5) (T := TX5) (N := 3) (n := 3) ht (by decide +kernel) (ht _ (by decide +kernel))
  obtain ⟨c6, i6, k6⟩ := u_known (C := RX6) (T := TX6) (N := 10) (n := 10) ht (by decide +kernel) (ht _ (by decide +kernel))
  obtain ⟨c7, i7, k7⟩ := u_known (C := RX7) (T := TX7) (N := 34) (n := 34) ht (by decide +kernel) (ht _ (by decide +kernel))
  obtain ⟨a0, p0, q0⟩ := arr_of (ht (Cond.arrayClass .char) (by decide +kernel))
  obtain ⟨a1, p1, q1⟩ := arr_of (ht (Cond.arrayClass .float) (by decide +kernel))
  obtain ⟨a2, p2, q2⟩ := arr_of (ht (Cond.arrayClass .int) (by decide +kernel))
  obtain ⟨a3, p3, q3⟩ := arr_of (ht (Cond.arrayClass .boolean) (by decide +kernel))
  obtain ⟨a4, p4, q4⟩ := arr_ov h2
  obtain ⟨a5, p5, q5⟩ := arr_ov h4
  obtain ⟨a6, p6, q6⟩ := arr_ov h5
  obtain ⟨a7, p7, q7⟩ := arr_of (ht (Cond.arrayClass .long) (by decide +kernel))
  obtain ⟨a8, p8, q8⟩ := arr_of (ht (Cond.arrayClass .double) (by decide +kernel))
  refine ⟨(fun c => match c with | 0 => c0 | 1 => c1 | 2 => c2 | 3 => c3 | 4 => c4 | 5 => c5 | 6 => c6 | _ => c7, fun c => match c with | 0 => i0 | 1 => i1 | 2 => i2 | 3 => i3 | 4 => i4 | 5 => i5 | 6 => i6 | _ => i7), fun k => match k with | 0 => a0 | 1 => a1 | 2 => a2 | 3 => a3 | 4 => a4 | 5 => a5 | 6 => a6 | 7 => a7 | _ => a8, ?_, ?_⟩
  · intro c q hq
    match c, hq with
    | 0, hq => have e := Option.some.inj hq; subst e; exact k0
    | 1, hq => have e := Option.some.inj hq; subst e; exact k1
    | 2, hq => have e := Option.some.inj hq; subst e; exact k2
    | 3, hq => have e := Option.some.inj hq; subst e; exact k3
    | 4, hq => have e := Option.some.inj hq; subst e; exact k4
    | 5, hq => have e := Option.some.inj hq; subst e; exact k5
    | 6, hq => have e := Option.some.inj hq; subst e; exact k6
    | 7, hq => have e := Option.some.inj hq; subst e; exact k7
    | n + 8, hq => cases hq
  · intro c q hq
    match c, hq with
    | 0, hq => have e := Option.some.inj hq; subst e; exact ⟨p0, q0⟩
    | 1, hq => have e := Option.some.inj hq; subst e; exact ⟨p1, q1⟩
    | 2, hq => have e := Option.some.inj hq; subst e; exact ⟨p2, q2⟩
    | 3, hq => have e := Option.some.inj hq; subst e; exact ⟨p3, q3⟩
    | 4, hq => have e := Option.some.inj hq; subst e; exact ⟨p4, q4⟩
    | 5, hq => have e := Option.some.inj hq; subst e; exact ⟨p5, q5⟩
    | 6, hq => have e := Option.some.inj hq; subst e; exact ⟨p6, q6⟩
    | 7, hq => have e := Option.some.inj hq; subst e; exact ⟨p7, q7⟩
    | 8, hq => have e := Option.some.inj hq; subst e; exact ⟨p8, q8⟩
    | n + 9, hq => cases hq
theorem vk_of {s : State} {args : Array Value} {k : Nat} {tx : String} (h1 : (Cond.stringRef RX6 k tx).before args s = true) (h2 : (Cond.exactly (.string RX6 k) "java/lang/String").before args s = true) : ∃ sa, vk_R RX6 k tx sa s := by
  obtain ⟨a, c, cell, kk, e, -⟩ := Cond.exactly_spec h2
  exact ⟨a, vk_R.of h1 e⟩
/-! alike at the start -/
theorem sim0 (h : Nat) : simP zZ (aX h) (aM h) (mF h) (mF h) := by
  have ax : ∀ i, i < 26 ∨ 38 ≤ i → aX h i = h + i := by
    intro i hi
    unfold aX
    rcases hi with hi | hi
    · rw [if_pos hi]
    · rw [if_neg (by omega), if_neg (by omega), if_neg (by omega)]
  have z0 : ∀ s, 2 ≤ s → s ≤ 5 → zZ s 0 := by
    intro s h2 h5
    have : s = 2 ∨ s = 3 ∨ s = 4 ∨ s = 5 := by omega
    rcases this with rfl | rfl | rfl | rfl
    · exact zc0 (by decide) (by decide)
    · exact zc0 (by decide) (by decide)
    · exact zc0 (by decide) (by decide)
    · exact zc0 (by decide) (by decide)
  refine ⟨fun _ => 0, fun _ => 0, 0, 0, ?_, ?_, ⟨by omega, ?_, fun r hr => by omega⟩, ⟨by omega, ?_, fun j hj => by omega⟩, ⟨0, by omega, ?_⟩, fun p hp => Or.inl ?_, ⟨fun k hk => ⟨?_, Or.inl rfl⟩, fun p hp => ?_⟩, ?_⟩
  · intro i s k t e
    obtain ⟨u1, u2, u3, u4, u5⟩ := sT_of e
    have hi : i < 26 ∨ 38 ≤ i := by omega
    rw [ax i hi, mF_x h u2]
    unfold aM
    have t14 : ∀ k, k < 34 → (tM k = 14 ↔ k = 14) := by decide
    have t200 : ∀ k, k < 34 → tM k < 200 := by decide
    rw [mF_m h (t200 k u3)]
    by_cases c : 21 ≤ i ∧ i < 25 ∧ s = 0
    · obtain ⟨k', e', g⟩ := sT_21 c.1 c.2.1 e
      obtain ⟨rfl, rfl⟩ := Prod.mk.inj e'
      have hk : k = 14 := by omega
      rw [if_pos c, if_pos ⟨(t14 k u3).mpr hk, by omega⟩]
    · rw [if_neg c, if_neg]
      rintro ⟨d1, d2⟩
      have hk : k = 14 := (t14 k u3).mp d1
      apply c
      have h21 : 21 ≤ i ∧ i < 25 := by omega
      obtain ⟨k', e', g⟩ := sT_21 h21.1 h21.2 e
      obtain ⟨rfl, rfl⟩ := Prod.mk.inj e'
      exact ⟨h21.1, h21.2, by omega⟩
  · intro p s hp h2 h5
    rw [mF_2, mF_2]
  · rw [ax 0 (by omega), mF_x h (by omega), if_neg (by omega)]; rfl
  · rw [ax 39 (by omega), mF_x h (by omega), if_neg (by omega)]; rfl
  · rw [ax 41 (by omega), mF_x h (by omega), if_neg (by omega)]; rfl
  · rw [ax (3 + p) (by omega), mF_x h (by omega), if_neg (by omega)]
  · rw [ax 19 (by omega), mF_x h (by omega), if_neg (by omega)]
  · rw [ax (3 + p) (by omega), mF_x h (by omega), if_neg (by omega)]
  · intro p s hp h2 h5
    rw [mF_2]
    exact z0 s h2 h5
theorem sAd0 (h : Nat) : sAd (aX h) (aM h) := ⟨aX_inj h, aM_inj h⟩
theorem sAp0 (h : Nat) : sAp (aX h) (aM h) := by
  intro i k hi hk e
  unfold aX aM at e
  split at e
  · omega
  · split at e
    · omega
    · split at e <;> omega
