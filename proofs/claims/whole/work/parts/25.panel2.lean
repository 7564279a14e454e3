theorem nar01 {v : Int32} (h : v = 0 ∨ v = 1) : vp_nar .boolean v = v := by rcases h with rfl | rfl <;> rfl
theorem xApp_01 (M : pM) (P T : Nat) (c : Int32) : (xApp M P T c).1 = 0 ∨ (xApp M P T c).1 = 1 := by
  unfold xApp
  split
  · exact Or.inl rfl
  · split
    · exact Or.inl rfl
    · split
      · exact Or.inr rfl
      · exact Or.inl rfl

set_option maxHeartbeats 1600000 in
set_option maxRecDepth 100000 in
theorem kl_X6_watchZones_4 {C : jC} (E : jE C cX6_watchZones 4 wsX6_watchZones RX6 (some .int) ({ frames := 3, cells := 0, slots := 0, locals := 83 } : Room)) {X : va_W} {M : pM} {a : Nat → Nat} (hX : wX (jG C) a) : ∀ (n i : Nat), i + n = 4 → jW C 4 4 [(0, .ref (a 0)), (1, .int (xWzN a i M).1), (2, .int (nI i))] [] X (xWzN a i M).2 0 0 (jZ C X (xWzN a 4 M).2 (some (.int (xWzN a 4 M).1)) 0 0) := by
  have hinX5 : ∀ w ∈ u_ws RX5 TX5 3, w ∈ wsX6_watchZones := by decide +kernel
  have hinX6 : ∀ w ∈ u_ws RX6 TX6 10, w ∈ wsX6_watchZones := by decide +kernel
  have hX0 := hX
  obtain ⟨⟨hx1, hx2, hx3, hx4, hx5, hx6, hx7, hx8⟩, hRing, ⟨hz1, hz2, hz3, hz⟩, ⟨hu1, hu2, hu3, hu⟩, ⟨ho1, ho2, ho3⟩, hPad, hLog⟩ := hX
  have hRing0 := hRing
  obtain ⟨⟨hr1, hr2, hr3, hr4⟩, ⟨hp1, hp2, hp3⟩, ⟨hw1, hw2, hw3⟩, hpl⟩ := hRing
  have hLog0 := hLog
  obtain ⟨hg1, hg2, hg3, hv1, hv2, hv3⟩ := hLog
  have hPad0 := hPad
  obtain ⟨hP1, hP2, hP3, hT1, hT2, hT3⟩ := hPad
  intro n
  induction n with
  | zero =>
    intro i hn
    obtain rfl : i = 4 := by omega
    refine j_iload_n E dX6_watchZones_4 rfl rfl ?_
    refine j_iconst (v := 4) E dX6_watchZones_5 (by decide) ?_
    refine j_icmp_ge (tgt := 74) E dX6_watchZones_6 (by decide) (fun h => ?_) (fun h => absurd (by decide) h)
    refine j_iload_n E dX6_watchZones_74 rfl rfl ?_
    exact j_iret E dX6_watchZones_75 (by rfl) rfl (by rfl)
  | succ n ih =>
    intro i hn
    have hi : i < 4 := by omega
    obtain ⟨q1, q2, q3⟩ := hz i hi
    have h0z : a 0 ≠ a (21 + i) := ne_kind hx2 q3 (by decide)
    refine j_iload_n E dX6_watchZones_4 rfl rfl ?_
    refine j_iconst (v := 4) E dX6_watchZones_5 (by decide) ?_
    refine j_icmp_ge (tgt := 74) E dX6_watchZones_6 (by decide) (fun h6 => ?_) (fun h6 => ?_)
    · exact absurd h6 (nI_ge (b := 4) hi (by decide))
    · refine j_aload_n E dX6_watchZones_9 rfl rfl ?_
      refine j_getP (ci := 6) (k := 1) (Cn := RX6) (T := TX6) (N := 10) E dX6_watchZones_10 hx1 hx2 rfl (by decide) hinX6 (by decide +kernel) rfl hx4 ?_
      refine j_iload_n E dX6_watchZones_13 rfl rfl ?_
      refine j_aldZ E dX6_watchZones_14 hz1 hz3 rfl hi (by decide) hz2 q1 ?_
      refine j_astore_n E dX6_watchZones_15 rfl (by decide) ?_
      refine j_aload_n E dX6_watchZones_16 rfl rfl ?_
      refine j_getI (ci := 5) (k := 2) (Cn := RX5) (T := TX5) (N := 3) E dX6_watchZones_17 q2 q3 rfl (by decide) hinX5 (by decide +kernel) rfl ?_
      refine j_if_ne (tgt := 68) E dX6_watchZones_20 (by decide) (fun h20 => ?_) (fun h20 => ?_)
      · refine j_iinc E dX6_watchZones_68 rfl (by decide) ?_
        refine j_goto (tgt := 4) E dX6_watchZones_71 (by decide) ?_
        exact j_lv [0, 1, 2] rfl (by rw [nI_inc]; have h9 := ih (i + 1) (by omega); simp only [xWzN, xWz1, h6, h20, ↓reduceIte] at h9; exact h9)
      · refine j_aload_n E dX6_watchZones_23 rfl rfl ?_
        refine j_getI (ci := 5) (k := 1) (Cn := RX5) (T := TX5) (N := 3) E dX6_watchZones_24 q2 q3 rfl (by decide) hinX5 (by decide +kernel) rfl ?_
        refine j_if_ne (tgt := 68) E dX6_watchZones_27 (by decide) (fun h27 => ?_) (fun h27 => ?_)
        · refine j_iinc E dX6_watchZones_68 rfl (by decide) ?_
          refine j_goto (tgt := 4) E dX6_watchZones_71 (by decide) ?_
          exact j_lv [0, 1, 2] rfl (by rw [nI_inc]; have h9 := ih (i + 1) (by omega); simp only [xWzN, xWz1, h6, h20, h27, ↓reduceIte] at h9; exact h9)
        · refine j_aload_n E dX6_watchZones_30 rfl rfl ?_
          refine j_iload_n E dX6_watchZones_31 rfl rfl ?_
          refine j_aload_n E dX6_watchZones_32 rfl rfl ?_
          refine j_getI (ci := 5) (k := 0) (Cn := RX5) (T := TX5) (N := 3) E dX6_watchZones_33 q2 q3 rfl (by decide) hinX5 (by decide +kernel) rfl ?_
          refine j_callV1 (ci := 6) (n := 2) E (k_X6_hasEnoughAlarms hX0) dX6_watchZones_36 gX6_watchZones_X6_hasEnoughAlarms rfl (by decide +kernel) ⟨rfl, rfl, by decide, by decide⟩ ⟨Nat.zero_le _, Nat.zero_le _⟩ hx1 hx2 rfl rfl rfl (Nat.le_of_ble_eq_true rfl) rfl ?_
          refine j_if_eq (tgt := 68) E dX6_watchZones_39 (by decide) (fun h39 => ?_) (fun h39 => ?_)
          · refine j_iinc E dX6_watchZones_68 rfl (by decide) ?_
            refine j_goto (tgt := 4) E dX6_watchZones_71 (by decide) ?_
            exact j_lv [0, 1, 2] rfl (by rw [nI_inc]; have h9 := ih (i + 1) (by omega); simp only [xWzN, xWz1, h6, h20, h27, h39, ↓reduceIte] at h9; exact h9)
          · refine j_aload_n E dX6_watchZones_42 rfl rfl ?_
            refine j_iconst (v := 1) E dX6_watchZones_43 (by decide) ?_
            refine j_putI (ci := 5) (k := 1) (Cn := RX5) (T := TX5) (N := 3) E dX6_watchZones_44 q2 q3 rfl (by decide) hinX5 (by decide +kernel) rfl tyX5 tyX5_ok nmX5 rfl rfl rfl rfl ?_
            refine j_aload_n E dX6_watchZones_47 rfl rfl ?_
            refine j_iconst (v := 0) E dX6_watchZones_48 (by decide) ?_
            refine j_putI (ci := 6) (k := 9) (Cn := RX6) (T := TX6) (N := 10) E dX6_watchZones_49 hx1 hx2 rfl (by decide) hinX6 (by decide +kernel) rfl tyX6 tyX6_ok nmX6 rfl rfl rfl rfl ?_
            refine j_aload_n E dX6_watchZones_52 rfl rfl ?_
            refine j_getP (ci := 6) (k := 5) (Cn := RX6) (T := TX6) (N := 10) E dX6_watchZones_53 hx1 hx2 rfl (by decide) hinX6 (by decide +kernel) rfl hx8 ?_
            refine j_iconst (v := 1) E dX6_watchZones_56 (by decide) ?_
            refine j_iload_n E dX6_watchZones_57 rfl rfl ?_
            refine j_aload_n E dX6_watchZones_58 rfl rfl ?_
            refine j_getI (ci := 6) (k := 7) (Cn := RX6) (T := TX6) (N := 10) E dX6_watchZones_59 hx1 hx2 rfl (by decide) hinX6 (by decide +kernel) rfl ?_
            try simp only [pI_rd, pF_rd, pR_rd, pI_2, pF_1, pR_2, Nat.reduceEqDiff, ↓reduceIte, (fun M k v => pI_1n M k v h0z)]
            refine j_callV0 (ci := 0) (n := 3) E (k_X0_add hLog0) dX6_watchZones_62 gX6_watchZones_X0_add rfl (by decide +kernel) ⟨rfl, rfl, by decide, by decide⟩ ⟨Nat.zero_le _, Nat.zero_le _⟩ hg1 hg2 rfl rfl rfl (Nat.le_of_ble_eq_true rfl) rfl ?_
            refine j_iinc E dX6_watchZones_65 rfl (by decide) ?_
            refine j_iinc E dX6_watchZones_68 rfl (by decide) ?_
            refine j_goto (tgt := 4) E dX6_watchZones_71 (by decide) ?_
            exact j_lv [0, 1, 2] rfl (by rw [nI_inc]; have h9 := ih (i + 1) (by omega); simp only [xWzN, xWz1, h6, h20, h27, h39, ↓reduceIte] at h9; exact h9)

set_option maxHeartbeats 1600000 in
set_option maxRecDepth 100000 in
theorem k_X6_watchZones {l : Launch} {D : va_G} {cy : Nat → ClassId} {X : va_W} {G : pG} {M : pM} {a : Nat → Nat} (hX : wX G a) : jK l yX6_watchZones wsX6_watchZones ({ frames := 3, cells := 0, slots := 0, locals := 83 } : Room) D cy X G M [.ref (a 0)] (some (.int (xWzN a 4 M).1)) X (xWzN a 4 M).2 := by
  refine jK_of (own := RX6) (by decide) rfl rfl (Nat.le_of_ble_eq_true rfl) (fun C E hl hD hcy hG => ?_)
  subst hl; subst hD; subst hcy; subst hG

  have hX0 := hX
  obtain ⟨⟨hx1, hx2, hx3, hx4, hx5, hx6, hx7, hx8⟩, hRing, ⟨hz1, hz2, hz3, hz⟩, ⟨hu1, hu2, hu3, hu⟩, ⟨ho1, ho2, ho3⟩, hPad, hLog⟩ := hX
  have hRing0 := hRing
  obtain ⟨⟨hr1, hr2, hr3, hr4⟩, ⟨hp1, hp2, hp3⟩, ⟨hw1, hw2, hw3⟩, hpl⟩ := hRing
  have hLog0 := hLog
  obtain ⟨hg1, hg2, hg3, hv1, hv2, hv3⟩ := hLog
  have hPad0 := hPad
  obtain ⟨hP1, hP2, hP3, hT1, hT2, hT3⟩ := hPad
  refine j_iconst (v := 0) E dX6_watchZones_0 (by decide) ?_
  refine j_istore_n E dX6_watchZones_1 rfl (by decide) ?_
  refine j_iconst (v := 0) E dX6_watchZones_2 (by decide) ?_
  refine j_istore_n E dX6_watchZones_3 rfl (by decide) ?_
  exact j_lv [0, 1, 2] rfl (kl_X6_watchZones_4 E hX0 4 0 (by omega))

set_option maxHeartbeats 1600000 in
set_option maxRecDepth 100000 in
theorem kl_X6_followRules_7 {C : jC} (E : jE C cX6_followRules 4 wsX6_followRules RX6 none ({ frames := 4, cells := 0, slots := 0, locals := 88 } : Room)) {X : va_W} {a : Nat → Nat} {f : Int32} (hX : wX (jG C) a) : ∀ (n i : Nat) (M : pM), i ≤ 6 → i + n = 7 → jW C 4 7 [(0, .ref (a 0)), (1, .int f), (2, .int (nI i))] [] X M 0 0 (jZ C X (xFo a f n i M) none 0 0) := by
  have hinX4 : ∀ w ∈ u_ws RX4 TX4 5, w ∈ wsX6_followRules := by decide +kernel
  have hinX6 : ∀ w ∈ u_ws RX6 TX6 10, w ∈ wsX6_followRules := by decide +kernel
  have hX0 := hX
  obtain ⟨⟨hx1, hx2, hx3, hx4, hx5, hx6, hx7, hx8⟩, hRing, ⟨hz1, hz2, hz3, hz⟩, ⟨hu1, hu2, hu3, hu⟩, ⟨ho1, ho2, ho3⟩, hPad, hLog⟩ := hX
  have hRing0 := hRing
  obtain ⟨⟨hr1, hr2, hr3, hr4⟩, ⟨hp1, hp2, hp3⟩, ⟨hw1, hw2, hw3⟩, hpl⟩ := hRing
  have hLog0 := hLog
  obtain ⟨hg1, hg2, hg3, hv1, hv2, hv3⟩ := hLog
  have hPad0 := hPad
  obtain ⟨hP1, hP2, hP3, hT1, hT2, hT3⟩ := hPad
  intro n
  induction n with
  | zero => intro i M h1 h2; omega
  | succ n ih =>
    intro i M hi6 hn
    refine j_iload_n E dX6_followRules_7 rfl rfl ?_
    refine j_aload_n E dX6_followRules_8 rfl rfl ?_
    refine j_getI (ci := 6) (k := 6) (Cn := RX6) (T := TX6) (N := 10) E dX6_followRules_9 hx1 hx2 rfl (by decide) hinX6 (by decide +kernel) rfl ?_
    refine j_icmp_ge (tgt := 56) E dX6_followRules_12 (by decide) (fun h12 => ?_) (fun h12 => ?_)
    · exact j_vret E dX6_followRules_56 rfl (by first | rfl | (simp [xFo, h12]; done))
    · refine j_iload_n E dX6_followRules_15 rfl rfl ?_
      refine j_bipush (v := 6) E dX6_followRules_16 (by decide) ?_
      refine j_icmp_ge (tgt := 56) E dX6_followRules_18 (by decide) (fun h18 => ?_) (fun h18 => ?_)
      · exact j_vret E dX6_followRules_56 rfl (by first | rfl | (simp [xFo, h12, h18]; done))
      · have hi : i < 6 := lt_of_nge h18 (by omega)
        obtain ⟨q1, qR⟩ := hu i hi
        have qR0 := qR
        obtain ⟨q2, q3, q4, q5, q6, q7⟩ := qR
        refine j_aload_n E dX6_followRules_21 rfl rfl ?_
        refine j_getP (ci := 6) (k := 2) (Cn := RX6) (T := TX6) (N := 10) E dX6_followRules_22 hx1 hx2 rfl (by decide) hinX6 (by decide +kernel) rfl hx5 ?_
        refine j_iload_n E dX6_followRules_25 rfl rfl ?_
        refine j_aldR E dX6_followRules_26 hu1 hu3 rfl hi (by decide) hu2 q1 ?_
        refine j_astore_n E dX6_followRules_27 rfl (by decide) ?_
        refine j_aload_n E dX6_followRules_28 rfl rfl ?_
        refine j_aload_n E dX6_followRules_29 rfl rfl ?_
        refine j_iload_n E dX6_followRules_30 rfl rfl ?_
        refine j_callV1 (ci := 4) (n := 1) E (k_X4_isTrue qR0) dX6_followRules_31 gX6_followRules_X4_isTrue rfl (by decide +kernel) ⟨rfl, rfl, by decide, by decide⟩ ⟨Nat.zero_le _, Nat.zero_le _⟩ q2 q3 rfl rfl rfl (Nat.le_of_ble_eq_true rfl) rfl ?_
        refine j_if_eq (tgt := 46) E dX6_followRules_34 (by decide) (fun h34 => ?_) (fun h34 => ?_)
        · refine j_iconst (v := 0) E dX6_followRules_46 (by decide) ?_
          refine j_putI (ci := 4) (k := 4) (Cn := RX4) (T := TX4) (N := 5) E dX6_followRules_47 q2 q3 rfl (by decide) hinX4 (by decide +kernel) rfl tyX4 tyX4_ok nmX4 rfl rfl rfl rfl ?_
          refine j_iinc E dX6_followRules_50 rfl (by decide) ?_
          refine j_goto (tgt := 7) E dX6_followRules_53 (by decide) ?_
          exact j_lv [0, 1, 2] rfl (by rw [nI_inc]; exact j_r rfl (by simp [xFo, xFo1, h12, h18, h34]) (ih (i + 1) _ (by omega) (by omega)))
        · refine j_aload_n E dX6_followRules_37 rfl rfl ?_
          refine j_getI (ci := 4) (k := 4) (Cn := RX4) (T := TX4) (N := 5) E dX6_followRules_38 q2 q3 rfl (by decide) hinX4 (by decide +kernel) rfl ?_
          refine j_iconst (v := 1) E dX6_followRules_41 (by decide) ?_
          refine j_iadd E dX6_followRules_42 ?_
          refine j_goto (tgt := 47) E dX6_followRules_43 (by decide) ?_
          refine j_putI (ci := 4) (k := 4) (Cn := RX4) (T := TX4) (N := 5) E dX6_followRules_47 q2 q3 rfl (by decide) hinX4 (by decide +kernel) rfl tyX4 tyX4_ok nmX4 rfl rfl rfl rfl ?_
          refine j_iinc E dX6_followRules_50 rfl (by decide) ?_
          refine j_goto (tgt := 7) E dX6_followRules_53 (by decide) ?_
          exact j_lv [0, 1, 2] rfl (by rw [nI_inc]; exact j_r rfl (by simp [xFo, xFo1, h12, h18, h34]) (ih (i + 1) _ (by omega) (by omega)))

set_option maxHeartbeats 1600000 in
set_option maxRecDepth 100000 in
theorem k_X6_followRules {l : Launch} {D : va_G} {cy : Nat → ClassId} {X : va_W} {G : pG} {M : pM} {a : Nat → Nat} (hX : wX G a) (hok : ∀ i, i < 16 → okW M (a (3 + i))) : jK l yX6_followRules wsX6_followRules ({ frames := 4, cells := 0, slots := 0, locals := 88 } : Room) D cy X G M [.ref (a 0)] none X (xFo a (xFacts a M) 7 0 M) := by
  refine jK_of (own := RX6) (by decide) rfl rfl (Nat.le_of_ble_eq_true rfl) (fun C E hl hD hcy hG => ?_)
  subst hl; subst hD; subst hcy; subst hG

  have hX0 := hX
  obtain ⟨⟨hx1, hx2, hx3, hx4, hx5, hx6, hx7, hx8⟩, hRing, ⟨hz1, hz2, hz3, hz⟩, ⟨hu1, hu2, hu3, hu⟩, ⟨ho1, ho2, ho3⟩, hPad, hLog⟩ := hX
  have hRing0 := hRing
  obtain ⟨⟨hr1, hr2, hr3, hr4⟩, ⟨hp1, hp2, hp3⟩, ⟨hw1, hw2, hw3⟩, hpl⟩ := hRing
  have hLog0 := hLog
  obtain ⟨hg1, hg2, hg3, hv1, hv2, hv3⟩ := hLog
  have hPad0 := hPad
  obtain ⟨hP1, hP2, hP3, hT1, hT2, hT3⟩ := hPad
  refine j_aload_n E dX6_followRules_0 rfl rfl ?_
  refine j_callV1 (ci := 6) (n := 0) E (k_X6_facts hX0 hok) dX6_followRules_1 gX6_followRules_X6_facts rfl (by decide +kernel) ⟨rfl, rfl, by decide, by decide⟩ ⟨Nat.zero_le _, Nat.zero_le _⟩ hx1 hx2 rfl rfl rfl (Nat.le_of_ble_eq_true rfl) rfl ?_
  refine j_istore_n E dX6_followRules_4 rfl (by decide) ?_
  refine j_iconst (v := 0) E dX6_followRules_5 (by decide) ?_
  refine j_istore_n E dX6_followRules_6 rfl (by decide) ?_
  exact j_lv [0, 1, 2] rfl (kl_X6_followRules_7 E hX0 7 0 M (by omega) (by omega))

set_option maxHeartbeats 1600000 in
set_option maxRecDepth 100000 in
theorem kl_X6_isDriven_2 {C : jC} (E : jE C cX6_isDriven 3 wsX6_isDriven RX6 (some .boolean) ({ frames := 0, cells := 0, slots := 0, locals := 0 } : Room)) {X : va_W} {a : Nat → Nat} {M : pM} {o : Int32} (hX : wX (jG C) a) : ∀ (n i : Nat), i ≤ 6 → i + n = 7 → jW C 3 2 [(0, .ref (a 0)), (1, .int o), (2, .int (nI i))] [] X M 0 0 (jZ C X M (some (.int (xDvL a M o n i))) 0 0) := by
  have hinX4 : ∀ w ∈ u_ws RX4 TX4 5, w ∈ wsX6_isDriven := by decide +kernel
  have hinX6 : ∀ w ∈ u_ws RX6 TX6 10, w ∈ wsX6_isDriven := by decide +kernel
  have hX0 := hX
  obtain ⟨⟨hx1, hx2, hx3, hx4, hx5, hx6, hx7, hx8⟩, hRing, ⟨hz1, hz2, hz3, hz⟩, ⟨hu1, hu2, hu3, hu⟩, ⟨ho1, ho2, ho3⟩, hPad, hLog⟩ := hX
  have hRing0 := hRing
  obtain ⟨⟨hr1, hr2, hr3, hr4⟩, ⟨hp1, hp2, hp3⟩, ⟨hw1, hw2, hw3⟩, hpl⟩ := hRing
  have hLog0 := hLog
  obtain ⟨hg1, hg2, hg3, hv1, hv2, hv3⟩ := hLog
  have hPad0 := hPad
  obtain ⟨hP1, hP2, hP3, hT1, hT2, hT3⟩ := hPad
  intro n
  induction n with
  | zero => intro i h1 h2; omega
  | succ n ih =>
    intro i hi6 hn
    refine j_iload_n E dX6_isDriven_2 rfl rfl ?_
    refine j_aload_n E dX6_isDriven_3 rfl rfl ?_
    refine j_getI (ci := 6) (k := 6) (Cn := RX6) (T := TX6) (N := 10) E dX6_isDriven_4 hx1 hx2 rfl (by decide) hinX6 (by decide +kernel) rfl ?_
    refine j_icmp_ge (tgt := 58) E dX6_isDriven_7 (by decide) (fun h7 => ?_) (fun h7 => ?_)
    · refine j_iconst (v := 0) E dX6_isDriven_58 (by decide) ?_
      exact j_zret E dX6_isDriven_59 rfl (by first | rfl | (simp [xDvL, h7]; done)) rfl (by first | rfl | (simp [xDvL, h7]; done))
    · refine j_iload_n E dX6_isDriven_10 rfl rfl ?_
      refine j_bipush (v := 6) E dX6_isDriven_11 (by decide) ?_
      refine j_icmp_ge (tgt := 58) E dX6_isDriven_13 (by decide) (fun h13 => ?_) (fun h13 => ?_)
      · refine j_iconst (v := 0) E dX6_isDriven_58 (by decide) ?_
        exact j_zret E dX6_isDriven_59 rfl (by first | rfl | (simp [xDvL, h7, h13]; done)) rfl (by first | rfl | (simp [xDvL, h7, h13]; done))
      · have hi : i < 6 := lt_of_nge h13 (by omega)
        obtain ⟨q1, qR⟩ := hu i hi
        have qR0 := qR
        obtain ⟨q2, q3, q4, q5, q6, q7⟩ := qR
        refine j_aload_n E dX6_isDriven_16 rfl rfl ?_
        refine j_getP (ci := 6) (k := 2) (Cn := RX6) (T := TX6) (N := 10) E dX6_isDriven_17 hx1 hx2 rfl (by decide) hinX6 (by decide +kernel) rfl hx5 ?_
        refine j_iload_n E dX6_isDriven_20 rfl rfl ?_
        refine j_aldR E dX6_isDriven_21 hu1 hu3 rfl hi (by decide) hu2 q1 ?_
        refine j_getI (ci := 4) (k := 2) (Cn := RX4) (T := TX4) (N := 5) E dX6_isDriven_22 q2 q3 rfl (by decide) hinX4 (by decide +kernel) rfl ?_
        refine j_iload_n E dX6_isDriven_25 rfl rfl ?_
        refine j_icmp_ne (tgt := 52) E dX6_isDriven_26 (by decide) (fun h26 => ?_) (fun h26 => ?_)
        · refine j_iinc E dX6_isDriven_52 rfl (by decide) ?_
          refine j_goto (tgt := 2) E dX6_isDriven_55 (by decide) ?_
          exact j_lv [0, 1, 2] rfl (by rw [nI_inc]; exact j_r (by simp [xDvL, h7, h13, h26]) rfl (ih (i + 1) (by omega) (by omega)))
        · refine j_aload_n E dX6_isDriven_29 rfl rfl ?_
          refine j_getP (ci := 6) (k := 2) (Cn := RX6) (T := TX6) (N := 10) E dX6_isDriven_30 hx1 hx2 rfl (by decide) hinX6 (by decide +kernel) rfl hx5 ?_
          refine j_iload_n E dX6_isDriven_33 rfl rfl ?_
          refine j_aldR E dX6_isDriven_34 hu1 hu3 rfl hi (by decide) hu2 q1 ?_
          refine j_getI (ci := 4) (k := 4) (Cn := RX4) (T := TX4) (N := 5) E dX6_isDriven_35 q2 q3 rfl (by decide) hinX4 (by decide +kernel) rfl ?_
          refine j_aload_n E dX6_isDriven_38 rfl rfl ?_
          refine j_getP (ci := 6) (k := 2) (Cn := RX6) (T := TX6) (N := 10) E dX6_isDriven_39 hx1 hx2 rfl (by decide) hinX6 (by decide +kernel) rfl hx5 ?_
          refine j_iload_n E dX6_isDriven_42 rfl rfl ?_
          refine j_aldR E dX6_isDriven_43 hu1 hu3 rfl hi (by decide) hu2 q1 ?_
          refine j_getI (ci := 4) (k := 3) (Cn := RX4) (T := TX4) (N := 5) E dX6_isDriven_44 q2 q3 rfl (by decide) hinX4 (by decide +kernel) rfl ?_
          refine j_icmp_le (tgt := 52) E dX6_isDriven_47 (by decide) (fun h47 => ?_) (fun h47 => ?_)
          · refine j_iinc E dX6_isDriven_52 rfl (by decide) ?_
            refine j_goto (tgt := 2) E dX6_isDriven_55 (by decide) ?_
            exact j_lv [0, 1, 2] rfl (by rw [nI_inc]; exact j_r (by simp [xDvL, h7, h13, h26, h47]) rfl (ih (i + 1) (by omega) (by omega)))
          · refine j_iconst (v := 1) E dX6_isDriven_50 (by decide) ?_
            exact j_zret E dX6_isDriven_51 rfl (by first | rfl | (simp [xDvL, h7, h13, h26, h47]; done)) rfl (by first | rfl | (simp [xDvL, h7, h13, h26, h47]; done))

set_option maxHeartbeats 1600000 in
set_option maxRecDepth 100000 in
theorem k_X6_isDriven {l : Launch} {D : va_G} {cy : Nat → ClassId} {X : va_W} {G : pG} {M : pM} {a : Nat → Nat} {o : Int32} (hX : wX G a) : jK l yX6_isDriven wsX6_isDriven ({ frames := 0, cells := 0, slots := 0, locals := 0 } : Room) D cy X G M [.ref (a 0), .int o] (some (.int (xDvL a M o 7 0))) X M := by
  refine jK_of (own := RX6) (by decide) rfl rfl (Nat.le_of_ble_eq_true rfl) (fun C E hl hD hcy hG => ?_)
  subst hl; subst hD; subst hcy; subst hG

  have hX0 := hX
  refine j_iconst (v := 0) E dX6_isDriven_0 (by decide) ?_
  refine j_istore_n E dX6_isDriven_1 rfl (by decide) ?_
  exact j_lv [0, 1, 2] rfl (kl_X6_isDriven_2 E hX0 7 0 (by omega) (by omega))

set_option maxHeartbeats 1600000 in
set_option maxRecDepth 100000 in
theorem kl_X6_driveOutputs_2 {C : jC} (E : jE C cX6_driveOutputs 3 wsX6_driveOutputs RX6 none ({ frames := 2, cells := 0, slots := 0, locals := 83 } : Room)) {X : va_W} {M : pM} {a : Nat → Nat} (hX : wX (jG C) a) : ∀ (n i : Nat), i + n = 6 → jW C 3 2 [(0, .ref (a 0)), (1, .int (nI i))] [] X (xDrN a i M) 0 0 (jZ C X (xDrN a 6 M) none 0 0) := by
  have hinX6 : ∀ w ∈ u_ws RX6 TX6 10, w ∈ wsX6_driveOutputs := by decide +kernel
  have hX0 := hX
  obtain ⟨⟨hx1, hx2, hx3, hx4, hx5, hx6, hx7, hx8⟩, hRing, ⟨hz1, hz2, hz3, hz⟩, ⟨hu1, hu2, hu3, hu⟩, ⟨ho1, ho2, ho3⟩, hPad, hLog⟩ := hX
  have hRing0 := hRing
  obtain ⟨⟨hr1, hr2, hr3, hr4⟩, ⟨hp1, hp2, hp3⟩, ⟨hw1, hw2, hw3⟩, hpl⟩ := hRing
  have hLog0 := hLog
  obtain ⟨hg1, hg2, hg3, hv1, hv2, hv3⟩ := hLog
  have hPad0 := hPad
  obtain ⟨hP1, hP2, hP3, hT1, hT2, hT3⟩ := hPad
  intro n
  induction n with
  | zero =>
    intro i hn
    obtain rfl : i = 6 := by omega
    refine j_iload_n E dX6_driveOutputs_2 rfl rfl ?_
    refine j_bipush (v := 6) E dX6_driveOutputs_3 (by decide) ?_
    refine j_icmp_ge (tgt := 53) E dX6_driveOutputs_5 (by decide) (fun h => ?_) (fun h => absurd (by decide) h)
    exact j_vret E dX6_driveOutputs_53 rfl rfl
  | succ n ih =>
    intro i hn
    have hi : i < 6 := by omega
    refine j_iload_n E dX6_driveOutputs_2 rfl rfl ?_
    refine j_bipush (v := 6) E dX6_driveOutputs_3 (by decide) ?_
    refine j_icmp_ge (tgt := 53) E dX6_driveOutputs_5 (by decide) (fun h5 => ?_) (fun h5 => ?_)
    · exact absurd h5 (nI_ge (b := 6) hi (by decide))
    · refine j_aload_n E dX6_driveOutputs_8 rfl rfl ?_
      refine j_iload_n E dX6_driveOutputs_9 rfl rfl ?_
      refine j_callV1 (ci := 6) (n := 1) E (k_X6_isDriven hX0) dX6_driveOutputs_10 gX6_driveOutputs_X6_isDriven rfl (by decide +kernel) ⟨rfl, rfl, by decide, by decide⟩ ⟨Nat.zero_le _, Nat.zero_le _⟩ hx1 hx2 rfl rfl rfl (Nat.le_of_ble_eq_true rfl) rfl ?_
      refine j_istore_n E dX6_driveOutputs_13 rfl (by decide) ?_
      refine j_iload_n E dX6_driveOutputs_14 rfl rfl ?_
      refine j_if_eq (tgt := 40) E dX6_driveOutputs_15 (by decide) (fun h15 => ?_) (fun h15 => ?_)
      · refine j_aload_n E dX6_driveOutputs_40 rfl rfl ?_
        refine j_getP (ci := 6) (k := 3) (Cn := RX6) (T := TX6) (N := 10) E dX6_driveOutputs_41 hx1 hx2 rfl (by decide) hinX6 (by decide +kernel) rfl hx6 ?_
        refine j_iload_n E dX6_driveOutputs_44 rfl rfl ?_
        refine j_iload_n E dX6_driveOutputs_45 rfl rfl ?_
        refine j_zast E dX6_driveOutputs_46 ho1 ho3 rfl hi (by decide) ho2 (nar01 (xDvL_01 _ _ _ _ _)) ?_
        refine j_iinc E dX6_driveOutputs_47 rfl (by decide) ?_
        refine j_goto (tgt := 2) E dX6_driveOutputs_50 (by decide) ?_
        exact j_lv [0, 1] rfl (by rw [nI_inc]; exact j_M (M' := xDrN a (i + 1) M) (by first | (simp [xDrN, xDr1, h5, h15]; done) | (simp [xDrN, xDr1, h5, h15, hd1]; done)) (ih (i + 1) (by omega)))
      · have hd1 : xDvL a (xDrN a i M) (nI i) 7 0 = 1 := (xDvL_01 _ _ _ _ _).resolve_left h15
        refine j_aload_n E dX6_driveOutputs_18 rfl rfl ?_
        refine j_getP (ci := 6) (k := 3) (Cn := RX6) (T := TX6) (N := 10) E dX6_driveOutputs_19 hx1 hx2 rfl (by decide) hinX6 (by decide +kernel) rfl hx6 ?_
        refine j_iload_n E dX6_driveOutputs_22 rfl rfl ?_
        refine j_zald E dX6_driveOutputs_23 ho1 ho3 rfl hi (by decide) ho2 ?_
        refine j_if_ne (tgt := 40) E dX6_driveOutputs_24 (by decide) (fun h24 => ?_) (fun h24 => ?_)
        · refine j_aload_n E dX6_driveOutputs_40 rfl rfl ?_
          refine j_getP (ci := 6) (k := 3) (Cn := RX6) (T := TX6) (N := 10) E dX6_driveOutputs_41 hx1 hx2 rfl (by decide) hinX6 (by decide +kernel) rfl hx6 ?_
          refine j_iload_n E dX6_driveOutputs_44 rfl rfl ?_
          refine j_iload_n E dX6_driveOutputs_45 rfl rfl ?_
          refine j_zast E dX6_driveOutputs_46 ho1 ho3 rfl hi (by decide) ho2 (nar01 (xDvL_01 _ _ _ _ _)) ?_
          refine j_iinc E dX6_driveOutputs_47 rfl (by decide) ?_
          refine j_goto (tgt := 2) E dX6_driveOutputs_50 (by decide) ?_
          exact j_lv [0, 1] rfl (by rw [nI_inc]; exact j_M (M' := xDrN a (i + 1) M) (by first | (simp [xDrN, xDr1, h5, h15, h24]; done) | (simp [xDrN, xDr1, h5, h15, h24, hd1]; done)) (ih (i + 1) (by omega)))
        · refine j_aload_n E dX6_driveOutputs_27 rfl rfl ?_
          refine j_getP (ci := 6) (k := 5) (Cn := RX6) (T := TX6) (N := 10) E dX6_driveOutputs_28 hx1 hx2 rfl (by decide) hinX6 (by decide +kernel) rfl hx8 ?_
          refine j_iconst (v := 4) E dX6_driveOutputs_31 (by decide) ?_
          refine j_iload_n E dX6_driveOutputs_32 rfl rfl ?_
          refine j_aload_n E dX6_driveOutputs_33 rfl rfl ?_
          refine j_getI (ci := 6) (k := 7) (Cn := RX6) (T := TX6) (N := 10) E dX6_driveOutputs_34 hx1 hx2 rfl (by decide) hinX6 (by decide +kernel) rfl ?_
          refine j_callV0 (ci := 0) (n := 3) E (k_X0_add hLog0) dX6_driveOutputs_37 gX6_driveOutputs_X0_add rfl (by decide +kernel) ⟨rfl, rfl, by decide, by decide⟩ ⟨Nat.zero_le _, Nat.zero_le _⟩ hg1 hg2 rfl rfl rfl (Nat.le_of_ble_eq_true rfl) rfl ?_
          refine j_aload_n E dX6_driveOutputs_40 rfl rfl ?_
          refine j_getP (ci := 6) (k := 3) (Cn := RX6) (T := TX6) (N := 10) E dX6_driveOutputs_41 hx1 hx2 rfl (by decide) hinX6 (by decide +kernel) rfl hx6 ?_
          refine j_iload_n E dX6_driveOutputs_44 rfl rfl ?_
          refine j_iload_n E dX6_driveOutputs_45 rfl rfl ?_
          refine j_zast E dX6_driveOutputs_46 ho1 ho3 rfl hi (by decide) ho2 (nar01 (xDvL_01 _ _ _ _ _)) ?_
          refine j_iinc E dX6_driveOutputs_47 rfl (by decide) ?_
          refine j_goto (tgt := 2) E dX6_driveOutputs_50 (by decide) ?_
          exact j_lv [0, 1] rfl (by rw [nI_inc]; exact j_M (M' := xDrN a (i + 1) M) (by first | (simp [xDrN, xDr1, h5, h15, h24]; done) | (simp [xDrN, xDr1, h5, h15, h24, hd1]; done)) (ih (i + 1) (by omega)))

set_option maxHeartbeats 1600000 in
set_option maxRecDepth 100000 in
theorem k_X6_driveOutputs {l : Launch} {D : va_G} {cy : Nat → ClassId} {X : va_W} {G : pG} {M : pM} {a : Nat → Nat} (hX : wX G a) : jK l yX6_driveOutputs wsX6_driveOutputs ({ frames := 2, cells := 0, slots := 0, locals := 83 } : Room) D cy X G M [.ref (a 0)] none X (xDrN a 6 M) := by
  refine jK_of (own := RX6) (by decide) rfl rfl (Nat.le_of_ble_eq_true rfl) (fun C E hl hD hcy hG => ?_)
  subst hl; subst hD; subst hcy; subst hG

  have hX0 := hX
  refine j_iconst (v := 0) E dX6_driveOutputs_0 (by decide) ?_
  refine j_istore_n E dX6_driveOutputs_1 rfl (by decide) ?_
  exact j_lv [0, 1] rfl (kl_X6_driveOutputs_2 E hX0 6 0 (by omega))

set_option maxHeartbeats 1600000 in
set_option maxRecDepth 100000 in
theorem kl_X6_allOutputsOff_2 {C : jC} (E : jE C cX6_allOutputsOff 2 wsX6_allOutputsOff RX6 none ({ frames := 0, cells := 0, slots := 0, locals := 0 } : Room)) {X : va_W} {M : pM} {a : Nat → Nat} (hX : wX (jG C) a) : ∀ (n i : Nat), i + n = 6 → jW C 2 2 [(0, .ref (a 0)), (1, .int (nI i))] [] X (xOffN a i M) 0 0 (jZ C X (xOffN a 6 M) none 0 0) := by
  have hinX6 : ∀ w ∈ u_ws RX6 TX6 10, w ∈ wsX6_allOutputsOff := by decide +kernel
  have hX0 := hX
  obtain ⟨⟨hx1, hx2, hx3, hx4, hx5, hx6, hx7, hx8⟩, hRing, ⟨hz1, hz2, hz3, hz⟩, ⟨hu1, hu2, hu3, hu⟩, ⟨ho1, ho2, ho3⟩, hPad, hLog⟩ := hX
  have hRing0 := hRing
  obtain ⟨⟨hr1, hr2, hr3, hr4⟩, ⟨hp1, hp2, hp3⟩, ⟨hw1, hw2, hw3⟩, hpl⟩ := hRing
  have hLog0 := hLog
  obtain ⟨hg1, hg2, hg3, hv1, hv2, hv3⟩ := hLog
  have hPad0 := hPad
  obtain ⟨hP1, hP2, hP3, hT1, hT2, hT3⟩ := hPad
  intro n
  induction n with
  | zero =>
    intro i hn
    obtain rfl : i = 6 := by omega
    refine j_iload_n E dX6_allOutputsOff_2 rfl rfl ?_
    refine j_bipush (v := 6) E dX6_allOutputsOff_3 (by decide) ?_
    refine j_icmp_ge (tgt := 21) E dX6_allOutputsOff_5 (by decide) (fun h => ?_) (fun h => absurd (by decide) h)
    exact j_vret E dX6_allOutputsOff_21 rfl rfl
  | succ n ih =>
    intro i hn
    have hi : i < 6 := by omega
    refine j_iload_n E dX6_allOutputsOff_2 rfl rfl ?_
    refine j_bipush (v := 6) E dX6_allOutputsOff_3 (by decide) ?_
    refine j_icmp_ge (tgt := 21) E dX6_allOutputsOff_5 (by decide) (fun h5 => ?_) (fun h5 => ?_)
    · exact absurd h5 (nI_ge (b := 6) hi (by decide))
    · refine j_aload_n E dX6_allOutputsOff_8 rfl rfl ?_
      refine j_getP (ci := 6) (k := 3) (Cn := RX6) (T := TX6) (N := 10) E dX6_allOutputsOff_9 hx1 hx2 rfl (by decide) hinX6 (by decide +kernel) rfl hx6 ?_
      refine j_iload_n E dX6_allOutputsOff_12 rfl rfl ?_
      refine j_iconst (v := 0) E dX6_allOutputsOff_13 (by decide) ?_
      refine j_zast E dX6_allOutputsOff_14 ho1 ho3 rfl hi (by decide) ho2 rfl ?_
      refine j_iinc E dX6_allOutputsOff_15 rfl (by decide) ?_
      refine j_goto (tgt := 2) E dX6_allOutputsOff_18 (by decide) ?_
      exact j_lv [0, 1] rfl (by rw [nI_inc]; exact ih (i + 1) (by omega))

set_option maxHeartbeats 1600000 in
set_option maxRecDepth 100000 in
theorem k_X6_allOutputsOff {l : Launch} {D : va_G} {cy : Nat → ClassId} {X : va_W} {G : pG} {M : pM} {a : Nat → Nat} (hX : wX G a) : jK l yX6_allOutputsOff wsX6_allOutputsOff ({ frames := 0, cells := 0, slots := 0, locals := 0 } : Room) D cy X G M [.ref (a 0)] none X (xOffN a 6 M) := by
  refine jK_of (own := RX6) (by decide) rfl rfl (Nat.le_of_ble_eq_true rfl) (fun C E hl hD hcy hG => ?_)
  subst hl; subst hD; subst hcy; subst hG

  have hX0 := hX
  refine j_iconst (v := 0) E dX6_allOutputsOff_0 (by decide) ?_
  refine j_istore_n E dX6_allOutputsOff_1 rfl (by decide) ?_
  exact j_lv [0, 1] rfl (kl_X6_allOutputsOff_2 E hX0 6 0 (by omega))

set_option maxHeartbeats 1600000 in
set_option maxRecDepth 100000 in
theorem k_X6_poll {l : Launch} {D : va_G} {cy : Nat → ClassId} {X : va_W} {G : pG} {M : pM} {a : Nat → Nat} (hX : wX G a) (hok : ∀ i, i < 16 → okS (xAskN a (xReach (pI M (a 0) 7 (M.1 (a 0) 7 + 1)) (fun i => a (3 + i)) (a 19)) i (pI M (a 0) 7 (M.1 (a 0) 7 + 1))) (a (3 + i))) (hokw : ∀ i, i < 16 → okW (xP2 a M) (a (3 + i))) : jK l yX6_poll wsX6_poll ({ frames := 5, cells := 0, slots := 0, locals := 128 } : Room) D cy X G M [.ref (a 0)] (some (.int (xWzN a 4 (xP1 a M)).1)) X (xPoll a M) := by
  refine jK_of (own := RX6) (by decide) rfl rfl (Nat.le_of_ble_eq_true rfl) (fun C E hl hD hcy hG => ?_)
  subst hl; subst hD; subst hcy; subst hG
  have hinX6 : ∀ w ∈ u_ws RX6 TX6 10, w ∈ wsX6_poll := by decide +kernel
  have hX0 := hX
  obtain ⟨⟨hx1, hx2, hx3, hx4, hx5, hx6, hx7, hx8⟩, hRing, ⟨hz1, hz2, hz3, hz⟩, ⟨hu1, hu2, hu3, hu⟩, ⟨ho1, ho2, ho3⟩, hPad, hLog⟩ := hX
  have hRing0 := hRing
  obtain ⟨⟨hr1, hr2, hr3, hr4⟩, ⟨hp1, hp2, hp3⟩, ⟨hw1, hw2, hw3⟩, hpl⟩ := hRing
  have hLog0 := hLog
  obtain ⟨hg1, hg2, hg3, hv1, hv2, hv3⟩ := hLog
  have hPad0 := hPad
  obtain ⟨hP1, hP2, hP3, hT1, hT2, hT3⟩ := hPad
  refine j_aload_n E dX6_poll_0 rfl rfl ?_
  refine j_dup E dX6_poll_1 rfl ?_
  refine j_getI (ci := 6) (k := 7) (Cn := RX6) (T := TX6) (N := 10) E dX6_poll_2 hx1 hx2 rfl (by decide) hinX6 (by decide +kernel) rfl ?_
  refine j_iconst (v := 1) E dX6_poll_5 (by decide) ?_
  refine j_iadd E dX6_poll_6 ?_
  refine j_putI (ci := 6) (k := 7) (Cn := RX6) (T := TX6) (N := 10) E dX6_poll_7 hx1 hx2 rfl (by decide) hinX6 (by decide +kernel) rfl tyX6 tyX6_ok nmX6 rfl rfl rfl rfl ?_
  refine j_aload_n E dX6_poll_10 rfl rfl ?_
  refine j_callV0 (ci := 6) (n := 0) E (k_X6_askPlaces hX0 hok) dX6_poll_11 gX6_poll_X6_askPlaces rfl (by decide +kernel) ⟨rfl, rfl, by decide, by decide⟩ ⟨Nat.zero_le _, Nat.zero_le _⟩ hx1 hx2 rfl rfl rfl (Nat.le_of_ble_eq_true rfl) rfl ?_
  refine j_aload_n E dX6_poll_14 rfl rfl ?_
  refine j_callV1 (ci := 6) (n := 0) E (k_X6_watchZones hX0) dX6_poll_15 gX6_poll_X6_watchZones rfl (by decide +kernel) ⟨rfl, rfl, by decide, by decide⟩ ⟨Nat.zero_le _, Nat.zero_le _⟩ hx1 hx2 rfl rfl rfl (Nat.le_of_ble_eq_true rfl) rfl ?_
  refine j_istore_n E dX6_poll_18 rfl (by decide) ?_
  refine j_aload_n E dX6_poll_19 rfl rfl ?_
  refine j_callV0 (ci := 6) (n := 0) E (k_X6_followRules hX0 hokw) dX6_poll_20 gX6_poll_X6_followRules rfl (by decide +kernel) ⟨rfl, rfl, by decide, by decide⟩ ⟨Nat.zero_le _, Nat.zero_le _⟩ hx1 hx2 rfl rfl rfl (Nat.le_of_ble_eq_true rfl) rfl ?_
  refine j_aload_n E dX6_poll_23 rfl rfl ?_
  refine j_callV0 (ci := 6) (n := 0) E (k_X6_driveOutputs hX0) dX6_poll_24 gX6_poll_X6_driveOutputs rfl (by decide +kernel) ⟨rfl, rfl, by decide, by decide⟩ ⟨Nat.zero_le _, Nat.zero_le _⟩ hx1 hx2 rfl rfl rfl (Nat.le_of_ble_eq_true rfl) rfl ?_
  refine j_iload_n E dX6_poll_27 rfl rfl ?_
  exact j_iret E dX6_poll_28 (by rfl) rfl (by rfl)

set_option maxHeartbeats 1600000 in
set_option maxRecDepth 100000 in
theorem k_X6_key {l : Launch} {D : va_G} {cy : Nat → ClassId} {X : va_W} {G : pG} {M : pM} {a : Nat → Nat} {c : Int32} (hX : wX G a) : jK l yX6_key wsX6_key ({ frames := 0, cells := 0, slots := 0, locals := 0 } : Room) D cy X G M [.ref (a 0), .int c] (some (.int (xKey c))) X (pI M (a 0) 8 (xKey c)) := by
  refine jK_of (own := RX6) (by decide) rfl rfl (Nat.le_of_ble_eq_true rfl) (fun C E hl hD hcy hG => ?_)
  subst hl; subst hD; subst hcy; subst hG
  have hinX6 : ∀ w ∈ u_ws RX6 TX6 10, w ∈ wsX6_key := by decide +kernel
  have hX0 := hX
  obtain ⟨⟨hx1, hx2, hx3, hx4, hx5, hx6, hx7, hx8⟩, hRing, ⟨hz1, hz2, hz3, hz⟩, ⟨hu1, hu2, hu3, hu⟩, ⟨ho1, ho2, ho3⟩, hPad, hLog⟩ := hX
  have hRing0 := hRing
  obtain ⟨⟨hr1, hr2, hr3, hr4⟩, ⟨hp1, hp2, hp3⟩, ⟨hw1, hw2, hw3⟩, hpl⟩ := hRing
  have hLog0 := hLog
  obtain ⟨hg1, hg2, hg3, hv1, hv2, hv3⟩ := hLog
  have hPad0 := hPad
  obtain ⟨hP1, hP2, hP3, hT1, hT2, hT3⟩ := hPad
  refine j_aload_n E dX6_key_0 rfl rfl ?_
  refine j_iload_n E dX6_key_1 rfl rfl ?_
  refine j_sipush (v := 2468) E dX6_key_2 (by decide) ?_
  refine j_icmp_ne (tgt := 12) E dX6_key_5 (by decide) (fun h5 => ?_) (fun h5 => ?_)
  · refine j_iload_n E dX6_key_12 rfl rfl ?_
    refine j_sipush (v := 1357) E dX6_key_13 (by decide) ?_
    refine j_icmp_ne (tgt := 23) E dX6_key_16 (by decide) (fun h16 => ?_) (fun h16 => ?_)
    · refine j_iconst (v := 0) E dX6_key_23 (by decide) ?_
      refine j_putI (ci := 6) (k := 8) (Cn := RX6) (T := TX6) (N := 10) E dX6_key_24 hx1 hx2 rfl (by decide) hinX6 (by decide +kernel) rfl tyX6 tyX6_ok nmX6 rfl rfl rfl rfl ?_
      refine j_aload_n E dX6_key_27 rfl rfl ?_
      refine j_getI (ci := 6) (k := 8) (Cn := RX6) (T := TX6) (N := 10) E dX6_key_28 hx1 hx2 rfl (by decide) hinX6 (by decide +kernel) rfl ?_
      try simp only [pI_rd, pF_rd, pR_rd, pI_2, pF_1, pR_2, Nat.reduceEqDiff, ↓reduceIte]
      exact j_iret E dX6_key_31 (by simp [xKey, h5, h16]) rfl (by simp [xKey, h5, h16])
    · refine j_iconst (v := 1) E dX6_key_19 (by decide) ?_
      refine j_goto (tgt := 24) E dX6_key_20 (by decide) ?_
      refine j_putI (ci := 6) (k := 8) (Cn := RX6) (T := TX6) (N := 10) E dX6_key_24 hx1 hx2 rfl (by decide) hinX6 (by decide +kernel) rfl tyX6 tyX6_ok nmX6 rfl rfl rfl rfl ?_
      refine j_aload_n E dX6_key_27 rfl rfl ?_
      refine j_getI (ci := 6) (k := 8) (Cn := RX6) (T := TX6) (N := 10) E dX6_key_28 hx1 hx2 rfl (by decide) hinX6 (by decide +kernel) rfl ?_
      try simp only [pI_rd, pF_rd, pR_rd, pI_2, pF_1, pR_2, Nat.reduceEqDiff, ↓reduceIte]
      exact j_iret E dX6_key_31 (by simp [xKey, h5, h16]) rfl (by simp [xKey, h5, h16])
  · refine j_iconst (v := 2) E dX6_key_8 (by decide) ?_
    refine j_goto (tgt := 24) E dX6_key_9 (by decide) ?_
    refine j_putI (ci := 6) (k := 8) (Cn := RX6) (T := TX6) (N := 10) E dX6_key_24 hx1 hx2 rfl (by decide) hinX6 (by decide +kernel) rfl tyX6 tyX6_ok nmX6 rfl rfl rfl rfl ?_
    refine j_aload_n E dX6_key_27 rfl rfl ?_
    refine j_getI (ci := 6) (k := 8) (Cn := RX6) (T := TX6) (N := 10) E dX6_key_28 hx1 hx2 rfl (by decide) hinX6 (by decide +kernel) rfl ?_
    try simp only [pI_rd, pF_rd, pR_rd, pI_2, pF_1, pR_2, Nat.reduceEqDiff, ↓reduceIte]
    exact j_iret E dX6_key_31 (by simp [xKey, h5]) rfl (by simp [xKey, h5])

set_option maxHeartbeats 1600000 in
set_option maxRecDepth 100000 in
theorem k_X6_type {l : Launch} {D : va_G} {cy : Nat → ClassId} {X : va_W} {G : pG} {M : pM} {a : Nat → Nat} {c : Int32} (hX : wX G a) (hc : vp_nar .char c = c) : jK l yX6_type wsX6_type ({ frames := 2, cells := 0, slots := 0, locals := 41 } : Room) D cy X G M [.ref (a 0), .int c] (some (.int (xApp M (a 39) (a 40) c).1)) X (xApp M (a 39) (a 40) c).2 := by
  refine jK_of (own := RX6) (by decide) rfl rfl (Nat.le_of_ble_eq_true rfl) (fun C E hl hD hcy hG => ?_)
  subst hl; subst hD; subst hcy; subst hG
  have hinX6 : ∀ w ∈ u_ws RX6 TX6 10, w ∈ wsX6_type := by decide +kernel
  have hX0 := hX
  obtain ⟨⟨hx1, hx2, hx3, hx4, hx5, hx6, hx7, hx8⟩, hRing, ⟨hz1, hz2, hz3, hz⟩, ⟨hu1, hu2, hu3, hu⟩, ⟨ho1, ho2, ho3⟩, hPad, hLog⟩ := hX
  have hRing0 := hRing
  obtain ⟨⟨hr1, hr2, hr3, hr4⟩, ⟨hp1, hp2, hp3⟩, ⟨hw1, hw2, hw3⟩, hpl⟩ := hRing
  have hLog0 := hLog
  obtain ⟨hg1, hg2, hg3, hv1, hv2, hv3⟩ := hLog
  have hPad0 := hPad
  obtain ⟨hP1, hP2, hP3, hT1, hT2, hT3⟩ := hPad
  refine j_aload_n E dX6_type_0 rfl rfl ?_
  refine j_getP (ci := 6) (k := 4) (Cn := RX6) (T := TX6) (N := 10) E dX6_type_1 hx1 hx2 rfl (by decide) hinX6 (by decide +kernel) rfl hx7 ?_
  refine j_iload_n E dX6_type_4 rfl rfl ?_
  refine j_callV1 (ci := 1) (n := 1) E (k_X1_append hPad0 hc) dX6_type_5 gX6_type_X1_append rfl (by decide +kernel) ⟨rfl, rfl, by decide, by decide⟩ ⟨Nat.zero_le _, Nat.zero_le _⟩ hP1 hP2 rfl rfl rfl (Nat.le_of_ble_eq_true rfl) rfl ?_
  exact j_zret E dX6_type_8 (nz01 (xApp_01 _ _ _ _)) (by rfl) rfl (by rfl)
