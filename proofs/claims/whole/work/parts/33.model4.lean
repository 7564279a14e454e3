set_option maxHeartbeats 1600000 in
set_option maxRecDepth 100000 in
theorem kl_X7_reset_95 {C : jC} (E : jE C cX7_reset 3 wsX7_reset RX7 (some .int) ({ frames := 1, cells := 0, slots := 0, locals := 23 } : Room)) {X : va_W} {M : pM} {m : Nat → Nat} {c : Int32} (hM : wM (jG C) m) : ∀ (n i : Nat), i + n = 6 → jW C 3 95 [(0, .ref (m 0)), (1, .int c), (2, .int (nI i))] [] X (mRh m i M) 0 0 (jZ C X (mNote (pI (mRh m 6 M) (m 0) 27 0) m 6 0) (some (.int c)) 0 0) := by
  have hinX7 : ∀ w ∈ u_ws RX7 TX7 34, w ∈ wsX7_reset := by decide +kernel
  have hM0 := hM
  obtain ⟨hm1, hm2, hmt, hinj⟩ := hM
  obtain ⟨mp8, ml8, mk8, mn8⟩ := hmt 8 10 16 rfl
  obtain ⟨mp9, ml9, mk9, mn9⟩ := hmt 9 11 16 rfl
  obtain ⟨mp15, ml15, mk15, mn15⟩ := hmt 15 11 4 rfl
  obtain ⟨mp21, ml21, mk21, mn21⟩ := hmt 21 10 6 rfl
  obtain ⟨mp22, ml22, mk22, mn22⟩ := hmt 22 11 6 rfl
  intro n
  induction n with
  | zero =>
    intro i hn
    obtain rfl : i = 6 := by omega
    refine j_iload_n E dX7_reset_95 rfl rfl ?_
    refine j_bipush (v := 6) E dX7_reset_96 (by decide) ?_
    refine j_icmp_ge (tgt := 121) E dX7_reset_98 (by decide) (fun h => ?_) (fun h => absurd (by decide) h)
    refine j_aload_n E dX7_reset_121 rfl rfl ?_
    refine j_iconst (v := 0) E dX7_reset_122 (by decide) ?_
    refine j_putI (ci := 7) (k := 27) (Cn := RX7) (T := TX7) (N := 34) E dX7_reset_123 hm1 hm2 rfl (by decide) hinX7 (by decide +kernel) rfl tyX7 tyX7_ok nmX7 rfl rfl rfl rfl ?_
    refine j_aload_n E dX7_reset_126 rfl rfl ?_
    refine j_bipush (v := 6) E dX7_reset_127 (by decide) ?_
    refine j_iconst (v := 0) E dX7_reset_129 (by decide) ?_
    refine j_callV0 (ci := 7) (n := 2) E (k_X7_note hM0) dX7_reset_130 gX7_reset_X7_note rfl (by decide +kernel) ⟨rfl, rfl, by decide, by decide⟩ ⟨Nat.zero_le _, Nat.zero_le _⟩ hm1 hm2 rfl rfl rfl (Nat.le_of_ble_eq_true rfl) rfl ?_
    refine j_iload_n E dX7_reset_133 rfl rfl ?_
    exact j_iret E dX7_reset_134 (by rfl) rfl (by rfl)
  | succ n ih =>
    intro i hn
    have hi : i < 6 := by omega
    refine j_iload_n E dX7_reset_95 rfl rfl ?_
    refine j_bipush (v := 6) E dX7_reset_96 (by decide) ?_
    refine j_icmp_ge (tgt := 121) E dX7_reset_98 (by decide) (fun h98 => ?_) (fun h98 => ?_)
    · exact absurd h98 (nI_ge (b := 6) hi (by decide))
    · refine j_aload_n E dX7_reset_101 rfl rfl ?_
      refine j_getP (ci := 7) (k := 21) (Cn := RX7) (T := TX7) (N := 34) E dX7_reset_102 hm1 hm2 rfl (by decide) hinX7 (by decide +kernel) rfl mp21 ?_
      refine j_iload_n E dX7_reset_105 rfl rfl ?_
      refine j_iconst (v := 0) E dX7_reset_106 (by decide) ?_
      refine j_iast E dX7_reset_107 ml21 mn21 rfl hi (by decide) mk21 ?_
      refine j_aload_n E dX7_reset_108 rfl rfl ?_
      refine j_getP (ci := 7) (k := 22) (Cn := RX7) (T := TX7) (N := 34) E dX7_reset_109 hm1 hm2 rfl (by decide) hinX7 (by decide +kernel) rfl mp22 ?_
      refine j_iload_n E dX7_reset_112 rfl rfl ?_
      refine j_iconst (v := 0) E dX7_reset_113 (by decide) ?_
      refine j_zast E dX7_reset_114 ml22 mn22 rfl hi (by decide) mk22 rfl ?_
      refine j_iinc E dX7_reset_115 rfl (by decide) ?_
      refine j_goto (tgt := 95) E dX7_reset_118 (by decide) ?_
      exact j_lv [0, 1, 2] rfl (by rw [nI_inc]; exact ih (i + 1) (by omega))

set_option maxHeartbeats 1600000 in
set_option maxRecDepth 100000 in
theorem kl_X7_reset_67 {C : jC} (E : jE C cX7_reset 3 wsX7_reset RX7 (some .int) ({ frames := 1, cells := 0, slots := 0, locals := 23 } : Room)) {X : va_W} {M : pM} {m : Nat → Nat} {c : Int32} (hM : wM (jG C) m) : ∀ (n i : Nat), i + n = 16 → jW C 3 67 [(0, .ref (m 0)), (1, .int c), (2, .int (nI i))] [] X (mRa m i M) 0 0 (jZ C X (mNote (pI (mRh m 6 (mRa m 16 M)) (m 0) 27 0) m 6 0) (some (.int c)) 0 0) := by
  have hinX7 : ∀ w ∈ u_ws RX7 TX7 34, w ∈ wsX7_reset := by decide +kernel
  have hM0 := hM
  obtain ⟨hm1, hm2, hmt, hinj⟩ := hM
  obtain ⟨mp8, ml8, mk8, mn8⟩ := hmt 8 10 16 rfl
  obtain ⟨mp9, ml9, mk9, mn9⟩ := hmt 9 11 16 rfl
  obtain ⟨mp15, ml15, mk15, mn15⟩ := hmt 15 11 4 rfl
  obtain ⟨mp21, ml21, mk21, mn21⟩ := hmt 21 10 6 rfl
  obtain ⟨mp22, ml22, mk22, mn22⟩ := hmt 22 11 6 rfl
  intro n
  induction n with
  | zero =>
    intro i hn
    obtain rfl : i = 16 := by omega
    refine j_iload_n E dX7_reset_67 rfl rfl ?_
    refine j_bipush (v := 16) E dX7_reset_68 (by decide) ?_
    refine j_icmp_ge (tgt := 93) E dX7_reset_70 (by decide) (fun h => ?_) (fun h => absurd (by decide) h)
    refine j_iconst (v := 0) E dX7_reset_93 (by decide) ?_
    refine j_istore_n E dX7_reset_94 rfl (by decide) ?_
    exact j_lv [0, 1, 2] rfl (kl_X7_reset_95 (M := mRa m 16 M) E hM0 6 0 (by omega))
  | succ n ih =>
    intro i hn
    have hi : i < 16 := by omega
    refine j_iload_n E dX7_reset_67 rfl rfl ?_
    refine j_bipush (v := 16) E dX7_reset_68 (by decide) ?_
    refine j_icmp_ge (tgt := 93) E dX7_reset_70 (by decide) (fun h70 => ?_) (fun h70 => ?_)
    · exact absurd h70 (nI_ge (b := 16) hi (by decide))
    · refine j_aload_n E dX7_reset_73 rfl rfl ?_
      refine j_getP (ci := 7) (k := 9) (Cn := RX7) (T := TX7) (N := 34) E dX7_reset_74 hm1 hm2 rfl (by decide) hinX7 (by decide +kernel) rfl mp9 ?_
      refine j_iload_n E dX7_reset_77 rfl rfl ?_
      refine j_iconst (v := 0) E dX7_reset_78 (by decide) ?_
      refine j_zast E dX7_reset_79 ml9 mn9 rfl hi (by decide) mk9 rfl ?_
      refine j_aload_n E dX7_reset_80 rfl rfl ?_
      refine j_getP (ci := 7) (k := 8) (Cn := RX7) (T := TX7) (N := 34) E dX7_reset_81 hm1 hm2 rfl (by decide) hinX7 (by decide +kernel) rfl mp8 ?_
      refine j_iload_n E dX7_reset_84 rfl rfl ?_
      refine j_iconst (v := 0) E dX7_reset_85 (by decide) ?_
      refine j_iast E dX7_reset_86 ml8 mn8 rfl hi (by decide) mk8 ?_
      refine j_iinc E dX7_reset_87 rfl (by decide) ?_
      refine j_goto (tgt := 67) E dX7_reset_90 (by decide) ?_
      exact j_lv [0, 1, 2] rfl (by rw [nI_inc]; exact ih (i + 1) (by omega))

set_option maxHeartbeats 1600000 in
set_option maxRecDepth 100000 in
theorem kl_X7_reset_30 {C : jC} (E : jE C cX7_reset 3 wsX7_reset RX7 (some .int) ({ frames := 1, cells := 0, slots := 0, locals := 23 } : Room)) {X : va_W} {M : pM} {m : Nat → Nat} (hM : wM (jG C) m) : ∀ (n i : Nat), i + n = 4 → jW C 3 30 [(0, .ref (m 0)), (1, .int (mRf m i M).1), (2, .int (nI i))] [] X (mRf m i M).2 0 0 (jZ C X (mNote (pI (mRh m 6 (mRa m 16 (mRf m 4 M).2)) (m 0) 27 0) m 6 0) (some (.int (mRf m 4 M).1)) 0 0) := by
  have hinX7 : ∀ w ∈ u_ws RX7 TX7 34, w ∈ wsX7_reset := by decide +kernel
  have hM0 := hM
  obtain ⟨hm1, hm2, hmt, hinj⟩ := hM
  obtain ⟨mp8, ml8, mk8, mn8⟩ := hmt 8 10 16 rfl
  obtain ⟨mp9, ml9, mk9, mn9⟩ := hmt 9 11 16 rfl
  obtain ⟨mp15, ml15, mk15, mn15⟩ := hmt 15 11 4 rfl
  obtain ⟨mp21, ml21, mk21, mn21⟩ := hmt 21 10 6 rfl
  obtain ⟨mp22, ml22, mk22, mn22⟩ := hmt 22 11 6 rfl
  intro n
  induction n with
  | zero =>
    intro i hn
    obtain rfl : i = 4 := by omega
    refine j_iload_n E dX7_reset_30 rfl rfl ?_
    refine j_iconst (v := 4) E dX7_reset_31 (by decide) ?_
    refine j_icmp_ge (tgt := 65) E dX7_reset_32 (by decide) (fun h => ?_) (fun h => absurd (by decide) h)
    refine j_iconst (v := 0) E dX7_reset_65 (by decide) ?_
    refine j_istore_n E dX7_reset_66 rfl (by decide) ?_
    exact j_lv [0, 1, 2] rfl (kl_X7_reset_67 (M := (mRf m 4 M).2) E hM0 16 0 (by omega))
  | succ n ih =>
    intro i hn
    have hi : i < 4 := by omega
    refine j_iload_n E dX7_reset_30 rfl rfl ?_
    refine j_iconst (v := 4) E dX7_reset_31 (by decide) ?_
    refine j_icmp_ge (tgt := 65) E dX7_reset_32 (by decide) (fun h32 => ?_) (fun h32 => ?_)
    · exact absurd h32 (nI_ge (b := 4) hi (by decide))
    · refine j_aload_n E dX7_reset_35 rfl rfl ?_
      refine j_getP (ci := 7) (k := 15) (Cn := RX7) (T := TX7) (N := 34) E dX7_reset_36 hm1 hm2 rfl (by decide) hinX7 (by decide +kernel) rfl mp15 ?_
      refine j_iload_n E dX7_reset_39 rfl rfl ?_
      refine j_zald E dX7_reset_40 ml15 mn15 rfl hi (by decide) mk15 ?_
      refine j_if_eq (tgt := 50) E dX7_reset_41 (by decide) (fun h41 => ?_) (fun h41 => ?_)
      · refine j_iload_n E dX7_reset_50 rfl rfl ?_
        refine j_istore_n E dX7_reset_51 rfl (by decide) ?_
        refine j_aload_n E dX7_reset_52 rfl rfl ?_
        refine j_getP (ci := 7) (k := 15) (Cn := RX7) (T := TX7) (N := 34) E dX7_reset_53 hm1 hm2 rfl (by decide) hinX7 (by decide +kernel) rfl mp15 ?_
        refine j_iload_n E dX7_reset_56 rfl rfl ?_
        refine j_iconst (v := 0) E dX7_reset_57 (by decide) ?_
        refine j_zast E dX7_reset_58 ml15 mn15 rfl hi (by decide) mk15 rfl ?_
        refine j_iinc E dX7_reset_59 rfl (by decide) ?_
        refine j_goto (tgt := 30) E dX7_reset_62 (by decide) ?_
        exact j_lv [0, 1, 2] rfl (by rw [nI_inc]; have h9 := ih (i + 1) (by omega); simp only [mRf, h32, h41, ↓reduceIte] at h9; exact h9)
      · refine j_iload_n E dX7_reset_44 rfl rfl ?_
        refine j_iconst (v := 1) E dX7_reset_45 (by decide) ?_
        refine j_iadd E dX7_reset_46 ?_
        refine j_goto (tgt := 51) E dX7_reset_47 (by decide) ?_
        refine j_istore_n E dX7_reset_51 rfl (by decide) ?_
        refine j_aload_n E dX7_reset_52 rfl rfl ?_
        refine j_getP (ci := 7) (k := 15) (Cn := RX7) (T := TX7) (N := 34) E dX7_reset_53 hm1 hm2 rfl (by decide) hinX7 (by decide +kernel) rfl mp15 ?_
        refine j_iload_n E dX7_reset_56 rfl rfl ?_
        refine j_iconst (v := 0) E dX7_reset_57 (by decide) ?_
        refine j_zast E dX7_reset_58 ml15 mn15 rfl hi (by decide) mk15 rfl ?_
        refine j_iinc E dX7_reset_59 rfl (by decide) ?_
        refine j_goto (tgt := 30) E dX7_reset_62 (by decide) ?_
        exact j_lv [0, 1, 2] rfl (by rw [nI_inc]; have h9 := ih (i + 1) (by omega); simp only [mRf, h32, h41, ↓reduceIte] at h9; exact h9)

set_option maxHeartbeats 1600000 in
set_option maxRecDepth 100000 in
theorem k_X7_reset {l : Launch} {D : va_G} {cy : Nat → ClassId} {X : va_W} {G : pG} {M : pM} {m : Nat → Nat} (hM : wM G m) : jK l yX7_reset wsX7_reset ({ frames := 1, cells := 0, slots := 0, locals := 23 } : Room) D cy X G M [.ref (m 0)] (some (.int (mRes M m).1)) X (mRes M m).2 := by
  refine jK_of (own := RX7) (by decide) rfl rfl (Nat.le_of_ble_eq_true rfl) (fun C E hl hD hcy hG => ?_)
  subst hl; subst hD; subst hcy; subst hG
  have hinX7 : ∀ w ∈ u_ws RX7 TX7 34, w ∈ wsX7_reset := by decide +kernel
  have hM0 := hM
  obtain ⟨hm1, hm2, hmt, hinj⟩ := hM
  obtain ⟨mp8, ml8, mk8, mn8⟩ := hmt 8 10 16 rfl
  obtain ⟨mp9, ml9, mk9, mn9⟩ := hmt 9 11 16 rfl
  obtain ⟨mp15, ml15, mk15, mn15⟩ := hmt 15 11 4 rfl
  obtain ⟨mp21, ml21, mk21, mn21⟩ := hmt 21 10 6 rfl
  obtain ⟨mp22, ml22, mk22, mn22⟩ := hmt 22 11 6 rfl
  refine j_aload_n E dX7_reset_0 rfl rfl ?_
  refine j_aload_n E dX7_reset_1 rfl rfl ?_
  refine j_getI (ci := 7) (k := 26) (Cn := RX7) (T := TX7) (N := 34) E dX7_reset_2 hm1 hm2 rfl (by decide) hinX7 (by decide +kernel) rfl ?_
  refine j_iconst (v := 1) E dX7_reset_5 (by decide) ?_
  refine j_icmp_ge (tgt := 13) E dX7_reset_6 (by decide) (fun h6 => ?_) (fun h6 => ?_)
  · refine j_iconst (v := 0) E dX7_reset_13 (by decide) ?_
    refine j_putI (ci := 7) (k := 0) (Cn := RX7) (T := TX7) (N := 34) E dX7_reset_14 hm1 hm2 rfl (by decide) hinX7 (by decide +kernel) rfl tyX7 tyX7_ok nmX7 rfl rfl rfl rfl ?_
    refine j_aload_n E dX7_reset_17 rfl rfl ?_
    refine j_getI (ci := 7) (k := 0) (Cn := RX7) (T := TX7) (N := 34) E dX7_reset_18 hm1 hm2 rfl (by decide) hinX7 (by decide +kernel) rfl ?_
    try simp only [pI_m hinj, pF_m hinj, pI_2, pF_1, Nat.reduceEqDiff, Nat.reduceLT, Nat.reduceLeDiff, eq_self, ↓reduceIte]
    refine j_if_le (tgt := 26) E dX7_reset_21 (by decide) (fun h21 => ?_) (fun h21 => ?_)
    · first
      | exact absurd h21 (by decide)
      | exact absurd (by decide) h21
      | (
          refine j_iconst (v := 0) E dX7_reset_26 (by decide) ?_
          refine j_istore_n E dX7_reset_27 rfl (by decide) ?_
          refine j_iconst (v := 0) E dX7_reset_28 (by decide) ?_
          refine j_istore_n E dX7_reset_29 rfl (by decide) ?_
          exact j_lv [0, 1, 2] rfl (j_r (by simp only [mRes, mSilT, h6, h21, ↓reduceIte]) (by simp only [mRes, mSilT, h6, h21, ↓reduceIte]) (kl_X7_reset_30 (M := pI M (m 0) 0 0) E hM0 4 0 (by omega)))
        )
    · first
      | exact absurd h21 (by decide)
      | exact absurd (by decide) h21
      | (
          refine j_iconst (v := 0) E dX7_reset_24 (by decide) ?_
          exact j_iret E dX7_reset_25 (by simp [mRes, mSilT, h6, h21]) rfl (by simp [mRes, mSilT, h6, h21])
        )
  · refine j_iconst (v := 1) E dX7_reset_9 (by decide) ?_
    refine j_goto (tgt := 14) E dX7_reset_10 (by decide) ?_
    refine j_putI (ci := 7) (k := 0) (Cn := RX7) (T := TX7) (N := 34) E dX7_reset_14 hm1 hm2 rfl (by decide) hinX7 (by decide +kernel) rfl tyX7 tyX7_ok nmX7 rfl rfl rfl rfl ?_
    refine j_aload_n E dX7_reset_17 rfl rfl ?_
    refine j_getI (ci := 7) (k := 0) (Cn := RX7) (T := TX7) (N := 34) E dX7_reset_18 hm1 hm2 rfl (by decide) hinX7 (by decide +kernel) rfl ?_
    try simp only [pI_m hinj, pF_m hinj, pI_2, pF_1, Nat.reduceEqDiff, Nat.reduceLT, Nat.reduceLeDiff, eq_self, ↓reduceIte]
    refine j_if_le (tgt := 26) E dX7_reset_21 (by decide) (fun h21 => ?_) (fun h21 => ?_)
    · first
      | exact absurd h21 (by decide)
      | exact absurd (by decide) h21
      | (
          refine j_iconst (v := 0) E dX7_reset_26 (by decide) ?_
          refine j_istore_n E dX7_reset_27 rfl (by decide) ?_
          refine j_iconst (v := 0) E dX7_reset_28 (by decide) ?_
          refine j_istore_n E dX7_reset_29 rfl (by decide) ?_
          exact j_lv [0, 1, 2] rfl (j_r (by simp only [mRes, mSilT, h6, h21, ↓reduceIte]) (by simp only [mRes, mSilT, h6, h21, ↓reduceIte]) (kl_X7_reset_30 (M := pI M (m 0) 0 0) E hM0 4 0 (by omega)))
        )
    · first
      | exact absurd h21 (by decide)
      | exact absurd (by decide) h21
      | (
          refine j_iconst (v := 0) E dX7_reset_24 (by decide) ?_
          exact j_iret E dX7_reset_25 (by simp [mRes, mSilT, h6, h21]) rfl (by simp [mRes, mSilT, h6, h21])
        )


set_option maxHeartbeats 1600000 in
set_option maxRecDepth 100000 in
theorem k_X7_level {l : Launch} {D : va_G} {cy : Nat → ClassId} {X : va_W} {G : pG} {M : pM} {m : Nat → Nat} {p : Int32} (hM : wM G m) : jK l yX7_level wsX7_level ({ frames := 1, cells := 0, slots := 0, locals := 22 } : Room) D cy X G M [.ref (m 0), .int p] (some (.float (if mIn p 0 15 = 0 then FP.fconst0 else M.2 (m 7) p.toNatClampNeg))) X (pI M (m 0) 0 (mT1 (mIn p 0 15))) := by
  refine jK_of (own := RX7) (by decide) rfl rfl (Nat.le_of_ble_eq_true rfl) (fun C E hl hD hcy hG => ?_)
  subst hl; subst hD; subst hcy; subst hG
  have hinX7 : ∀ w ∈ u_ws RX7 TX7 34, w ∈ wsX7_level := by decide +kernel
  have hM0 := hM
  obtain ⟨hm1, hm2, hmt, hinj⟩ := hM
  obtain ⟨mp7, ml7, mk7, mn7⟩ := hmt 7 9 16 rfl
  refine j_aload_n E dX7_level_0 rfl rfl ?_
  refine j_iload_n E dX7_level_1 rfl rfl ?_
  refine j_iconst (v := 0) E dX7_level_2 (by decide) ?_
  refine j_bipush (v := 15) E dX7_level_3 (by decide) ?_
  refine j_callS1 (n := 3) E (k_X7_in ) dX7_level_5 gX7_level_X7_in rfl (by decide +kernel) ⟨rfl, rfl, by decide, by decide⟩ ⟨Nat.zero_le _, Nat.zero_le _⟩ rfl rfl (Nat.le_of_ble_eq_true rfl) rfl ?_
  refine j_if_eq (tgt := 15) E dX7_level_8 (by decide) (fun h8 => ?_) (fun h8 => ?_)
  · refine j_iconst (v := 1) E dX7_level_15 (by decide) ?_
    refine j_putI (ci := 7) (k := 0) (Cn := RX7) (T := TX7) (N := 34) E dX7_level_16 hm1 hm2 rfl (by decide) hinX7 (by decide +kernel) rfl tyX7 tyX7_ok nmX7 rfl rfl rfl rfl ?_
    refine j_aload_n E dX7_level_19 rfl rfl ?_
    refine j_getI (ci := 7) (k := 0) (Cn := RX7) (T := TX7) (N := 34) E dX7_level_20 hm1 hm2 rfl (by decide) hinX7 (by decide +kernel) rfl ?_
    try simp only [pI_m hinj, pF_m hinj, pI_2, pF_1, Nat.reduceEqDiff, Nat.reduceLT, Nat.reduceLeDiff, eq_self, ↓reduceIte]
    refine j_if_le (tgt := 30) E dX7_level_23 (by decide) (fun h23 => ?_) (fun h23 => ?_)
    · first
      | exact absurd h23 (by decide)
      | exact absurd (by decide) h23
      | (
          refine j_aload_n E dX7_level_30 rfl rfl ?_
          refine j_getP (ci := 7) (k := 7) (Cn := RX7) (T := TX7) (N := 34) E dX7_level_31 hm1 hm2 rfl (by decide) hinX7 (by decide +kernel) rfl mp7 ?_
          refine j_iload_n E dX7_level_34 rfl rfl ?_
          refine j_fald E dX7_level_35 ml7 mn7 (ix01 (n := 15) h8 (by decide)).1 (ix01 (n := 15) h8 (by decide)).2 (by decide) mk7 ?_
          try simp only [pI_m hinj, pF_m hinj, pI_2, pF_1, Nat.reduceEqDiff, Nat.reduceLT, Nat.reduceLeDiff, eq_self, ↓reduceIte]
          exact j_fret E dX7_level_36 (by simp [mT1, h8, h23]) rfl (by simp [mT1, h8, h23])
        )
    · first
      | exact absurd h23 (by decide)
      | exact absurd (by decide) h23
      | (
          refine j_fconst0 E dX7_level_26 ?_
          refine j_goto (tgt := 36) E dX7_level_27 (by decide) ?_
          exact j_fret E dX7_level_36 (by simp [mT1, h8, h23]) rfl (by simp [mT1, h8, h23])
        )
  · refine j_iconst (v := 0) E dX7_level_11 (by decide) ?_
    refine j_goto (tgt := 16) E dX7_level_12 (by decide) ?_
    refine j_putI (ci := 7) (k := 0) (Cn := RX7) (T := TX7) (N := 34) E dX7_level_16 hm1 hm2 rfl (by decide) hinX7 (by decide +kernel) rfl tyX7 tyX7_ok nmX7 rfl rfl rfl rfl ?_
    refine j_aload_n E dX7_level_19 rfl rfl ?_
    refine j_getI (ci := 7) (k := 0) (Cn := RX7) (T := TX7) (N := 34) E dX7_level_20 hm1 hm2 rfl (by decide) hinX7 (by decide +kernel) rfl ?_
    try simp only [pI_m hinj, pF_m hinj, pI_2, pF_1, Nat.reduceEqDiff, Nat.reduceLT, Nat.reduceLeDiff, eq_self, ↓reduceIte]
    refine j_if_le (tgt := 30) E dX7_level_23 (by decide) (fun h23 => ?_) (fun h23 => ?_)
    · first
      | exact absurd h23 (by decide)
      | exact absurd (by decide) h23
      | (
          refine j_aload_n E dX7_level_30 rfl rfl ?_
          refine j_getP (ci := 7) (k := 7) (Cn := RX7) (T := TX7) (N := 34) E dX7_level_31 hm1 hm2 rfl (by decide) hinX7 (by decide +kernel) rfl mp7 ?_
          refine j_iload_n E dX7_level_34 rfl rfl ?_
          refine j_fald E dX7_level_35 ml7 mn7 (ix01 (n := 15) h8 (by decide)).1 (ix01 (n := 15) h8 (by decide)).2 (by decide) mk7 ?_
          try simp only [pI_m hinj, pF_m hinj, pI_2, pF_1, Nat.reduceEqDiff, Nat.reduceLT, Nat.reduceLeDiff, eq_self, ↓reduceIte]
          exact j_fret E dX7_level_36 (by simp [mT1, h8, h23]) rfl (by simp [mT1, h8, h23])
        )
    · first
      | exact absurd h23 (by decide)
      | exact absurd (by decide) h23
      | (
          refine j_fconst0 E dX7_level_26 ?_
          refine j_goto (tgt := 36) E dX7_level_27 (by decide) ?_
          exact j_fret E dX7_level_36 (by simp [mT1, h8, h23]) rfl (by simp [mT1, h8, h23])
        )

set_option maxHeartbeats 1600000 in
set_option maxRecDepth 100000 in
theorem k_X7_base {l : Launch} {D : va_G} {cy : Nat → ClassId} {X : va_W} {G : pG} {M : pM} {m : Nat → Nat} {p : Int32} (hM : wM G m) : jK l yX7_base wsX7_base ({ frames := 1, cells := 0, slots := 0, locals := 22 } : Room) D cy X G M [.ref (m 0), .int p] (some (.float (if mIn p 0 15 = 0 then FP.fconst0 else M.2 (m 6) p.toNatClampNeg))) X (pI M (m 0) 0 (mT1 (mIn p 0 15))) := by
  refine jK_of (own := RX7) (by decide) rfl rfl (Nat.le_of_ble_eq_true rfl) (fun C E hl hD hcy hG => ?_)
  subst hl; subst hD; subst hcy; subst hG
  have hinX7 : ∀ w ∈ u_ws RX7 TX7 34, w ∈ wsX7_base := by decide +kernel
  have hM0 := hM
  obtain ⟨hm1, hm2, hmt, hinj⟩ := hM
  obtain ⟨mp6, ml6, mk6, mn6⟩ := hmt 6 9 16 rfl
  refine j_aload_n E dX7_base_0 rfl rfl ?_
  refine j_iload_n E dX7_base_1 rfl rfl ?_
  refine j_iconst (v := 0) E dX7_base_2 (by decide) ?_
  refine j_bipush (v := 15) E dX7_base_3 (by decide) ?_
  refine j_callS1 (n := 3) E (k_X7_in ) dX7_base_5 gX7_base_X7_in rfl (by decide +kernel) ⟨rfl, rfl, by decide, by decide⟩ ⟨Nat.zero_le _, Nat.zero_le _⟩ rfl rfl (Nat.le_of_ble_eq_true rfl) rfl ?_
  refine j_if_eq (tgt := 15) E dX7_base_8 (by decide) (fun h8 => ?_) (fun h8 => ?_)
  · refine j_iconst (v := 1) E dX7_base_15 (by decide) ?_
    refine j_putI (ci := 7) (k := 0) (Cn := RX7) (T := TX7) (N := 34) E dX7_base_16 hm1 hm2 rfl (by decide) hinX7 (by decide +kernel) rfl tyX7 tyX7_ok nmX7 rfl rfl rfl rfl ?_
    refine j_aload_n E dX7_base_19 rfl rfl ?_
    refine j_getI (ci := 7) (k := 0) (Cn := RX7) (T := TX7) (N := 34) E dX7_base_20 hm1 hm2 rfl (by decide) hinX7 (by decide +kernel) rfl ?_
    try simp only [pI_m hinj, pF_m hinj, pI_2, pF_1, Nat.reduceEqDiff, Nat.reduceLT, Nat.reduceLeDiff, eq_self, ↓reduceIte]
    refine j_if_le (tgt := 30) E dX7_base_23 (by decide) (fun h23 => ?_) (fun h23 => ?_)
    · first
      | exact absurd h23 (by decide)
      | exact absurd (by decide) h23
      | (
          refine j_aload_n E dX7_base_30 rfl rfl ?_
          refine j_getP (ci := 7) (k := 6) (Cn := RX7) (T := TX7) (N := 34) E dX7_base_31 hm1 hm2 rfl (by decide) hinX7 (by decide +kernel) rfl mp6 ?_
          refine j_iload_n E dX7_base_34 rfl rfl ?_
          refine j_fald E dX7_base_35 ml6 mn6 (ix01 (n := 15) h8 (by decide)).1 (ix01 (n := 15) h8 (by decide)).2 (by decide) mk6 ?_
          try simp only [pI_m hinj, pF_m hinj, pI_2, pF_1, Nat.reduceEqDiff, Nat.reduceLT, Nat.reduceLeDiff, eq_self, ↓reduceIte]
          exact j_fret E dX7_base_36 (by simp [mT1, h8, h23]) rfl (by simp [mT1, h8, h23])
        )
    · first
      | exact absurd h23 (by decide)
      | exact absurd (by decide) h23
      | (
          refine j_fconst0 E dX7_base_26 ?_
          refine j_goto (tgt := 36) E dX7_base_27 (by decide) ?_
          exact j_fret E dX7_base_36 (by simp [mT1, h8, h23]) rfl (by simp [mT1, h8, h23])
        )
  · refine j_iconst (v := 0) E dX7_base_11 (by decide) ?_
    refine j_goto (tgt := 16) E dX7_base_12 (by decide) ?_
    refine j_putI (ci := 7) (k := 0) (Cn := RX7) (T := TX7) (N := 34) E dX7_base_16 hm1 hm2 rfl (by decide) hinX7 (by decide +kernel) rfl tyX7 tyX7_ok nmX7 rfl rfl rfl rfl ?_
    refine j_aload_n E dX7_base_19 rfl rfl ?_
    refine j_getI (ci := 7) (k := 0) (Cn := RX7) (T := TX7) (N := 34) E dX7_base_20 hm1 hm2 rfl (by decide) hinX7 (by decide +kernel) rfl ?_
    try simp only [pI_m hinj, pF_m hinj, pI_2, pF_1, Nat.reduceEqDiff, Nat.reduceLT, Nat.reduceLeDiff, eq_self, ↓reduceIte]
    refine j_if_le (tgt := 30) E dX7_base_23 (by decide) (fun h23 => ?_) (fun h23 => ?_)
    · first
      | exact absurd h23 (by decide)
      | exact absurd (by decide) h23
      | (
          refine j_aload_n E dX7_base_30 rfl rfl ?_
          refine j_getP (ci := 7) (k := 6) (Cn := RX7) (T := TX7) (N := 34) E dX7_base_31 hm1 hm2 rfl (by decide) hinX7 (by decide +kernel) rfl mp6 ?_
          refine j_iload_n E dX7_base_34 rfl rfl ?_
          refine j_fald E dX7_base_35 ml6 mn6 (ix01 (n := 15) h8 (by decide)).1 (ix01 (n := 15) h8 (by decide)).2 (by decide) mk6 ?_
          try simp only [pI_m hinj, pF_m hinj, pI_2, pF_1, Nat.reduceEqDiff, Nat.reduceLT, Nat.reduceLeDiff, eq_self, ↓reduceIte]
          exact j_fret E dX7_base_36 (by simp [mT1, h8, h23]) rfl (by simp [mT1, h8, h23])
        )
    · first
      | exact absurd h23 (by decide)
      | exact absurd (by decide) h23
      | (
          refine j_fconst0 E dX7_base_26 ?_
          refine j_goto (tgt := 36) E dX7_base_27 (by decide) ?_
          exact j_fret E dX7_base_36 (by simp [mT1, h8, h23]) rfl (by simp [mT1, h8, h23])
        )


set_option maxHeartbeats 1600000 in
set_option maxRecDepth 100000 in
theorem k_X7_output {l : Launch} {D : va_G} {cy : Nat → ClassId} {X : va_W} {G : pG} {M : pM} {m : Nat → Nat} {o : Int32} (hM : wM G m) : jK l yX7_output wsX7_output ({ frames := 1, cells := 0, slots := 0, locals := 22 } : Room) D cy X G M [.ref (m 0), .int o] (some (.int (mOu M m o))) X (pI M (m 0) 0 (mT1 (mIn o 0 5))) := by
  refine jK_of (own := RX7) (by decide) rfl rfl (Nat.le_of_ble_eq_true rfl) (fun C E hl hD hcy hG => ?_)
  subst hl; subst hD; subst hcy; subst hG
  have hinX7 : ∀ w ∈ u_ws RX7 TX7 34, w ∈ wsX7_output := by decide +kernel
  have hM0 := hM
  obtain ⟨hm1, hm2, hmt, hinj⟩ := hM
  obtain ⟨mp22, ml22, mk22, mn22⟩ := hmt 22 11 6 rfl
  refine j_aload_n E dX7_output_0 rfl rfl ?_
  refine j_iload_n E dX7_output_1 rfl rfl ?_
  refine j_iconst (v := 0) E dX7_output_2 (by decide) ?_
  refine j_iconst (v := 5) E dX7_output_3 (by decide) ?_
  refine j_callS1 (n := 3) E (k_X7_in ) dX7_output_4 gX7_output_X7_in rfl (by decide +kernel) ⟨rfl, rfl, by decide, by decide⟩ ⟨Nat.zero_le _, Nat.zero_le _⟩ rfl rfl (Nat.le_of_ble_eq_true rfl) rfl ?_
  refine j_if_eq (tgt := 14) E dX7_output_7 (by decide) (fun h7 => ?_) (fun h7 => ?_)
  · refine j_iconst (v := 1) E dX7_output_14 (by decide) ?_
    refine j_putI (ci := 7) (k := 0) (Cn := RX7) (T := TX7) (N := 34) E dX7_output_15 hm1 hm2 rfl (by decide) hinX7 (by decide +kernel) rfl tyX7 tyX7_ok nmX7 rfl rfl rfl rfl ?_
    refine j_aload_n E dX7_output_18 rfl rfl ?_
    refine j_getI (ci := 7) (k := 0) (Cn := RX7) (T := TX7) (N := 34) E dX7_output_19 hm1 hm2 rfl (by decide) hinX7 (by decide +kernel) rfl ?_
    try simp only [pI_m hinj, pF_m hinj, pI_2, pF_1, Nat.reduceEqDiff, Nat.reduceLT, Nat.reduceLeDiff, eq_self, ↓reduceIte]
    refine j_if_gt (tgt := 34) E dX7_output_22 (by decide) (fun h22 => ?_) (fun h22 => ?_)
    · first
      | exact absurd h22 (by decide)
      | exact absurd (by decide) h22
      | (
          refine j_iconst (v := 0) E dX7_output_34 (by decide) ?_
          exact j_iret E dX7_output_35 (by simp [mOu, mT1, h7, h22]) rfl (by simp [mOu, mT1, h7, h22])
        )
    · first
      | exact absurd h22 (by decide)
      | exact absurd (by decide) h22
      | (
          refine j_aload_n E dX7_output_25 rfl rfl ?_
          refine j_getP (ci := 7) (k := 22) (Cn := RX7) (T := TX7) (N := 34) E dX7_output_26 hm1 hm2 rfl (by decide) hinX7 (by decide +kernel) rfl mp22 ?_
          refine j_iload_n E dX7_output_29 rfl rfl ?_
          refine j_zald E dX7_output_30 ml22 mn22 (ix01 (n := 5) h7 (by decide)).1 (ix01 (n := 5) h7 (by decide)).2 (by decide) mk22 ?_
          try simp only [pI_m hinj, pF_m hinj, pI_2, pF_1, Nat.reduceEqDiff, Nat.reduceLT, Nat.reduceLeDiff, eq_self, ↓reduceIte]
          refine j_if_ne (tgt := 36) E dX7_output_31 (by decide) (fun h31 => ?_) (fun h31 => ?_)
          · refine j_iload_n E dX7_output_36 rfl rfl ?_
            refine j_iconst (v := 3) E dX7_output_37 (by decide) ?_
            refine j_icmp_ge (tgt := 52) E dX7_output_38 (by decide) (fun h38 => ?_) (fun h38 => ?_)
            · refine j_iconst (v := 3) E dX7_output_52 (by decide) ?_
              exact j_iret E dX7_output_53 (by simp [mOu, mT1, h7, h22, h31, h38]) rfl (by simp [mOu, mT1, h7, h22, h31, h38])
            · refine j_aload_n E dX7_output_41 rfl rfl ?_
              refine j_getI (ci := 7) (k := 27) (Cn := RX7) (T := TX7) (N := 34) E dX7_output_42 hm1 hm2 rfl (by decide) hinX7 (by decide +kernel) rfl ?_
              try simp only [pI_m hinj, pF_m hinj, pI_2, pF_1, Nat.reduceEqDiff, Nat.reduceLT, Nat.reduceLeDiff, eq_self, ↓reduceIte]
              refine j_if_eq (tgt := 52) E dX7_output_45 (by decide) (fun h45 => ?_) (fun h45 => ?_)
              · refine j_iconst (v := 3) E dX7_output_52 (by decide) ?_
                exact j_iret E dX7_output_53 (by simp [mOu, mT1, h7, h22, h31, h38, h45]) rfl (by simp [mOu, mT1, h7, h22, h31, h38, h45])
              · refine j_iconst (v := 1) E dX7_output_48 (by decide) ?_
                refine j_goto (tgt := 53) E dX7_output_49 (by decide) ?_
                exact j_iret E dX7_output_53 (by simp [mOu, mT1, h7, h22, h31, h38, h45]) rfl (by simp [mOu, mT1, h7, h22, h31, h38, h45])
          · refine j_iconst (v := 0) E dX7_output_34 (by decide) ?_
            exact j_iret E dX7_output_35 (by simp [mOu, mT1, h7, h22, h31]) rfl (by simp [mOu, mT1, h7, h22, h31])
        )
  · refine j_iconst (v := 0) E dX7_output_10 (by decide) ?_
    refine j_goto (tgt := 15) E dX7_output_11 (by decide) ?_
    refine j_putI (ci := 7) (k := 0) (Cn := RX7) (T := TX7) (N := 34) E dX7_output_15 hm1 hm2 rfl (by decide) hinX7 (by decide +kernel) rfl tyX7 tyX7_ok nmX7 rfl rfl rfl rfl ?_
    refine j_aload_n E dX7_output_18 rfl rfl ?_
    refine j_getI (ci := 7) (k := 0) (Cn := RX7) (T := TX7) (N := 34) E dX7_output_19 hm1 hm2 rfl (by decide) hinX7 (by decide +kernel) rfl ?_
    try simp only [pI_m hinj, pF_m hinj, pI_2, pF_1, Nat.reduceEqDiff, Nat.reduceLT, Nat.reduceLeDiff, eq_self, ↓reduceIte]
    refine j_if_gt (tgt := 34) E dX7_output_22 (by decide) (fun h22 => ?_) (fun h22 => ?_)
    · first
      | exact absurd h22 (by decide)
      | exact absurd (by decide) h22
      | (
          refine j_iconst (v := 0) E dX7_output_34 (by decide) ?_
          exact j_iret E dX7_output_35 (by simp [mOu, mT1, h7, h22]) rfl (by simp [mOu, mT1, h7, h22])
        )
    · first
      | exact absurd h22 (by decide)
      | exact absurd (by decide) h22
      | (
          refine j_aload_n E dX7_output_25 rfl rfl ?_
          refine j_getP (ci := 7) (k := 22) (Cn := RX7) (T := TX7) (N := 34) E dX7_output_26 hm1 hm2 rfl (by decide) hinX7 (by decide +kernel) rfl mp22 ?_
          refine j_iload_n E dX7_output_29 rfl rfl ?_
          refine j_zald E dX7_output_30 ml22 mn22 (ix01 (n := 5) h7 (by decide)).1 (ix01 (n := 5) h7 (by decide)).2 (by decide) mk22 ?_
          try simp only [pI_m hinj, pF_m hinj, pI_2, pF_1, Nat.reduceEqDiff, Nat.reduceLT, Nat.reduceLeDiff, eq_self, ↓reduceIte]
          refine j_if_ne (tgt := 36) E dX7_output_31 (by decide) (fun h31 => ?_) (fun h31 => ?_)
          · refine j_iload_n E dX7_output_36 rfl rfl ?_
            refine j_iconst (v := 3) E dX7_output_37 (by decide) ?_
            refine j_icmp_ge (tgt := 52) E dX7_output_38 (by decide) (fun h38 => ?_) (fun h38 => ?_)
            · refine j_iconst (v := 3) E dX7_output_52 (by decide) ?_
              exact j_iret E dX7_output_53 (by simp [mOu, mT1, h7, h22, h31, h38]) rfl (by simp [mOu, mT1, h7, h22, h31, h38])
            · refine j_aload_n E dX7_output_41 rfl rfl ?_
              refine j_getI (ci := 7) (k := 27) (Cn := RX7) (T := TX7) (N := 34) E dX7_output_42 hm1 hm2 rfl (by decide) hinX7 (by decide +kernel) rfl ?_
              try simp only [pI_m hinj, pF_m hinj, pI_2, pF_1, Nat.reduceEqDiff, Nat.reduceLT, Nat.reduceLeDiff, eq_self, ↓reduceIte]
              refine j_if_eq (tgt := 52) E dX7_output_45 (by decide) (fun h45 => ?_) (fun h45 => ?_)
              · refine j_iconst (v := 3) E dX7_output_52 (by decide) ?_
                exact j_iret E dX7_output_53 (by simp [mOu, mT1, h7, h22, h31, h38, h45]) rfl (by simp [mOu, mT1, h7, h22, h31, h38, h45])
              · refine j_iconst (v := 1) E dX7_output_48 (by decide) ?_
                refine j_goto (tgt := 53) E dX7_output_49 (by decide) ?_
                exact j_iret E dX7_output_53 (by simp [mOu, mT1, h7, h22, h31, h38, h45]) rfl (by simp [mOu, mT1, h7, h22, h31, h38, h45])
          · refine j_iconst (v := 0) E dX7_output_34 (by decide) ?_
            exact j_iret E dX7_output_35 (by simp [mOu, mT1, h7, h22, h31]) rfl (by simp [mOu, mT1, h7, h22, h31])
        )
