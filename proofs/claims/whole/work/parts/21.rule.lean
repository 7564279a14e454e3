/-! FirePanel$Log (0 words, 1 size) and FirePanel$Rule (0 steps, 1 stepCount, 2 output, 3 delay, 4 held). -/
theorem ne_kind {G : pG} {a b i j : Nat} (h1 : G.2.1 a = i) (h2 : G.2.1 b = j) (h : i ≠ j) : a ≠ b := fun e => h (by rw [← h1, ← h2, e])
def xAdd (M : pM) (g w : Nat) (a b c : Int32) : pM := pI (pI (pI (pI (pR M w (va_cpy (M.1 w) (M.1 w) 0 3 45)) w 0 a) w 1 b) w 2 c) g 1 (if 16 < M.1 g 1 + 1 then 16 else M.1 g 1 + 1)
def wLog (G : pG) (g w : Nat) : Prop := g ∈ G.1 ∧ G.2.1 g = 0 ∧ G.2.2.2 g 0 = some w ∧ w ∈ G.1 ∧ G.2.1 w = 10 ∧ G.2.2.1 w = 48
def xClear (M : pM) (r : Nat) : pM := pI (pI (pI (pI M r 1 0) r 2 0) r 3 0) r 4 0
def wRule (G : pG) (r s : Nat) : Prop := r ∈ G.1 ∧ G.2.1 r = 4 ∧ G.2.2.2 r 0 = some s ∧ s ∈ G.1 ∧ G.2.1 s = 10 ∧ G.2.2.1 s = 20
def xStep (M : pM) (r s : Nat) (v : Int32) : pM := if M.1 r 1 < 0 then M else if 20 ≤ M.1 r 1 then M else pI (pI M s (M.1 r 1).toNatClampNeg v) r 1 (M.1 r 1 + 1)
def xWork (s t f : Int32) : Int32 := if s = 9 then t ^^^ 1 else if s = 10 then (t >>> ((1 : Int32) &&& 31)) &&& (-2 ||| (t &&& 1)) else if s = 11 then (t >>> ((1 : Int32) &&& 31)) ||| (t &&& 1) else (t <<< ((1 : Int32) &&& 31)) ||| ((f >>> (s &&& 31)) &&& 1)
def xTr (st : Nat → Int32) (cnt f : Int32) : Nat → Nat → Int32 → Int32
  | 0, _, t => t
  | n + 1, j, t => if cnt ≤ nI j then t else if 20 ≤ nI j then t else xTr st cnt f n (j + 1) (xWork (st j) t f)
def xTrue (M : pM) (r s : Nat) (f : Int32) : Int32 := if xTr (M.1 s) (M.1 r 1) f 21 0 0 &&& 1 = 0 then 0 else 1
theorem nI_inc (j : Nat) : nI j + Int32.ofInt 1 = nI (j + 1) := nI_1 j

set_option maxHeartbeats 4000000 in
set_option maxRecDepth 100000 in
theorem k_X0_add {l : Launch} {D : va_G} {cy : Nat → ClassId} {X : va_W} {G : pG} {M : pM} {g w : Nat} {a b c : Int32} (hW : wLog G g w) : jK l yX0_add wsX0_add ({ frames := 1, cells := 0, slots := 0, locals := 60 } : Room) D cy X G M [.ref g, .int a, .int b, .int c] none X (xAdd M g w a b c) := by
  refine jK_of (own := RX0) (by decide) rfl rfl (Nat.le_of_ble_eq_true rfl) (fun C E hl hD hcy hG => ?_)
  subst hl; subst hD; subst hcy; subst hG
  have hinX0 : ∀ w ∈ u_ws RX0 TX0 2, w ∈ wsX0_add := by decide +kernel
  obtain ⟨h1, h2, h3, h4, h5, h6⟩ := hW
  have hgw : g ≠ w := ne_kind h2 h5 (by decide)
  refine j_aload_n E dX0_add_0 rfl rfl ?_
  refine j_getP (ci := 0) (k := 0) (Cn := RX0) (T := TX0) (N := 2) E dX0_add_1 (by assumption) (by assumption) rfl (by decide) hinX0 (by decide +kernel) rfl (by assumption) ?_
  refine j_iconst (v := 0) E dX0_add_4 (by decide) ?_
  refine j_aload_n E dX0_add_5 rfl rfl ?_
  refine j_getP (ci := 0) (k := 0) (Cn := RX0) (T := TX0) (N := 2) E dX0_add_6 (by assumption) (by assumption) rfl (by decide) hinX0 (by decide +kernel) rfl (by assumption) ?_
  refine j_iconst (v := 3) E dX0_add_9 (by decide) ?_
  refine j_bipush (v := 45) E dX0_add_10 (by decide) ?_
  refine j_copyI (N := 48) (spN := 0) (dpN := 3) (nN := 45) E dX0_add_12 (by decide +kernel) (by decide +kernel) (by decide +kernel) (by decide +kernel) (by decide) (Nat.le_of_ble_eq_true rfl) (by assumption) (by assumption) (by assumption) rfl rfl rfl (by decide) ?_
  refine j_aload_n E dX0_add_15 rfl rfl ?_
  refine j_getP (ci := 0) (k := 0) (Cn := RX0) (T := TX0) (N := 2) E dX0_add_16 (by assumption) (by assumption) rfl (by decide) hinX0 (by decide +kernel) rfl (by assumption) ?_
  refine j_iconst (v := 0) E dX0_add_19 (by decide) ?_
  refine j_iload_n E dX0_add_20 rfl rfl ?_
  refine j_iast E dX0_add_21 (by assumption) (by assumption) (j := 0) rfl (by decide) (by decide) (by assumption) ?_
  refine j_aload_n E dX0_add_22 rfl rfl ?_
  refine j_getP (ci := 0) (k := 0) (Cn := RX0) (T := TX0) (N := 2) E dX0_add_23 (by assumption) (by assumption) rfl (by decide) hinX0 (by decide +kernel) rfl (by assumption) ?_
  refine j_iconst (v := 1) E dX0_add_26 (by decide) ?_
  refine j_iload_n E dX0_add_27 rfl rfl ?_
  refine j_iast E dX0_add_28 (by assumption) (by assumption) (j := 1) rfl (by decide) (by decide) (by assumption) ?_
  refine j_aload_n E dX0_add_29 rfl rfl ?_
  refine j_getP (ci := 0) (k := 0) (Cn := RX0) (T := TX0) (N := 2) E dX0_add_30 (by assumption) (by assumption) rfl (by decide) hinX0 (by decide +kernel) rfl (by assumption) ?_
  refine j_iconst (v := 2) E dX0_add_33 (by decide) ?_
  refine j_iload_n E dX0_add_34 rfl rfl ?_
  refine j_iast E dX0_add_35 (by assumption) (by assumption) (j := 2) rfl (by decide) (by decide) (by assumption) ?_
  refine j_aload_n E dX0_add_36 rfl rfl ?_
  refine j_aload_n E dX0_add_37 rfl rfl ?_
  refine j_getI (ci := 0) (k := 1) (Cn := RX0) (T := TX0) (N := 2) E dX0_add_38 (by assumption) (by assumption) rfl (by decide) hinX0 (by decide +kernel) rfl ?_
  try simp only [pI_rd, pF_rd, pR_rd, pI_2, pF_1, pR_2, Nat.reduceEqDiff, ↓reduceIte, (fun M k v => pI_1n M k v hgw), (fun M f => pR_1n M f hgw)]
  refine j_iconst (v := 1) E dX0_add_41 (by decide) ?_
  refine j_iadd E dX0_add_42 ?_
  refine j_bipush (v := 16) E dX0_add_43 (by decide) ?_
  refine j_min E dX0_add_45 (by decide +kernel) (by decide +kernel) (by decide +kernel) (by decide +kernel) (by decide) (Nat.le_of_ble_eq_true rfl) (Nat.zero_le _) (Nat.zero_le _) ?_
  refine j_putI (ci := 0) (k := 1) (Cn := RX0) (T := TX0) (N := 2) E dX0_add_48 (by assumption) (by assumption) rfl (by decide) hinX0 (by decide +kernel) rfl tyX0 tyX0_ok nmX0 rfl rfl rfl rfl ?_
  exact j_vret E dX0_add_51 rfl (by rfl)

set_option maxHeartbeats 4000000 in
set_option maxRecDepth 100000 in
theorem k_X4_clear {l : Launch} {D : va_G} {cy : Nat → ClassId} {X : va_W} {G : pG} {M : pM} {r : Nat} (hL : r ∈ G.1) (hK : G.2.1 r = 4) : jK l yX4_clear wsX4_clear ({ frames := 0, cells := 0, slots := 0, locals := 0 } : Room) D cy X G M [.ref r] none X (xClear M r) := by
  refine jK_of (own := RX4) (by decide) rfl rfl (Nat.le_of_ble_eq_true rfl) (fun C E hl hD hcy hG => ?_)
  subst hl; subst hD; subst hcy; subst hG
  have hinX4 : ∀ w ∈ u_ws RX4 TX4 5, w ∈ wsX4_clear := by decide +kernel
  refine j_aload_n E dX4_clear_0 rfl rfl ?_
  refine j_iconst (v := 0) E dX4_clear_1 (by decide) ?_
  refine j_putI (ci := 4) (k := 1) (Cn := RX4) (T := TX4) (N := 5) E dX4_clear_2 (by assumption) (by assumption) rfl (by decide) hinX4 (by decide +kernel) rfl tyX4 tyX4_ok nmX4 rfl rfl rfl rfl ?_
  refine j_aload_n E dX4_clear_5 rfl rfl ?_
  refine j_iconst (v := 0) E dX4_clear_6 (by decide) ?_
  refine j_putI (ci := 4) (k := 2) (Cn := RX4) (T := TX4) (N := 5) E dX4_clear_7 (by assumption) (by assumption) rfl (by decide) hinX4 (by decide +kernel) rfl tyX4 tyX4_ok nmX4 rfl rfl rfl rfl ?_
  refine j_aload_n E dX4_clear_10 rfl rfl ?_
  refine j_iconst (v := 0) E dX4_clear_11 (by decide) ?_
  refine j_putI (ci := 4) (k := 3) (Cn := RX4) (T := TX4) (N := 5) E dX4_clear_12 (by assumption) (by assumption) rfl (by decide) hinX4 (by decide +kernel) rfl tyX4 tyX4_ok nmX4 rfl rfl rfl rfl ?_
  refine j_aload_n E dX4_clear_15 rfl rfl ?_
  refine j_iconst (v := 0) E dX4_clear_16 (by decide) ?_
  refine j_putI (ci := 4) (k := 4) (Cn := RX4) (T := TX4) (N := 5) E dX4_clear_17 (by assumption) (by assumption) rfl (by decide) hinX4 (by decide +kernel) rfl tyX4 tyX4_ok nmX4 rfl rfl rfl rfl ?_
  exact j_vret E dX4_clear_20 rfl (by rfl)

set_option maxHeartbeats 4000000 in
set_option maxRecDepth 100000 in
theorem k_X4_addStep {l : Launch} {D : va_G} {cy : Nat → ClassId} {X : va_W} {G : pG} {M : pM} {r s : Nat} {v : Int32} (hW : wRule G r s) : jK l yX4_addStep wsX4_addStep ({ frames := 0, cells := 0, slots := 0, locals := 0 } : Room) D cy X G M [.ref r, .int v] none X (xStep M r s v) := by
  refine jK_of (own := RX4) (by decide) rfl rfl (Nat.le_of_ble_eq_true rfl) (fun C E hl hD hcy hG => ?_)
  subst hl; subst hD; subst hcy; subst hG
  have hinX4 : ∀ w ∈ u_ws RX4 TX4 5, w ∈ wsX4_addStep := by decide +kernel
  obtain ⟨h1, h2, h3, h4, h5, h6⟩ := hW
  have hrs : r ≠ s := ne_kind h2 h5 (by decide)
  refine j_aload_n E dX4_addStep_0 rfl rfl ?_
  refine j_getI (ci := 4) (k := 1) (Cn := RX4) (T := TX4) (N := 5) E dX4_addStep_1 (by assumption) (by assumption) rfl (by decide) hinX4 (by decide +kernel) rfl ?_
  refine j_if_lt (tgt := 36) E dX4_addStep_4 (by decide) (fun h4 => ?_) (fun h4 => ?_)
  · exact j_vret E dX4_addStep_36 rfl (by first | (simp only [xStep, if_pos h4]; done) | (simp only [xStep, if_neg h4, if_pos h13]; done) | (simp only [xStep, if_neg h4, if_neg h13]; rw [ej, nI_clamp (by omega)]))
  · refine j_aload_n E dX4_addStep_7 rfl rfl ?_
    refine j_getI (ci := 4) (k := 1) (Cn := RX4) (T := TX4) (N := 5) E dX4_addStep_8 (by assumption) (by assumption) rfl (by decide) hinX4 (by decide +kernel) rfl ?_
    refine j_bipush (v := 20) E dX4_addStep_11 (by decide) ?_
    refine j_icmp_ge (tgt := 36) E dX4_addStep_13 (by decide) (fun h13 => ?_) (fun h13 => ?_)
    · exact j_vret E dX4_addStep_36 rfl (by first | (simp only [xStep, if_pos h4, h13]; done) | (simp only [xStep, if_neg h4, if_pos h13]; done) | (simp only [xStep, if_neg h4, if_neg h13]; rw [ej, nI_clamp (by omega)]))
    · obtain ⟨j, hj, ej⟩ : ∃ j : Nat, j < 20 ∧ M.1 r 1 = nI j := by
        rcases pk_ix (M.1 r 1) (n := 20) (by decide) with h | h | h
        · exact absurd h h4
        · exact absurd h h13
        · exact h
      refine j_aload_n E dX4_addStep_16 rfl rfl ?_
      refine j_getP (ci := 4) (k := 0) (Cn := RX4) (T := TX4) (N := 5) E dX4_addStep_17 (by assumption) (by assumption) rfl (by decide) hinX4 (by decide +kernel) rfl (by assumption) ?_
      refine j_aload_n E dX4_addStep_20 rfl rfl ?_
      refine j_getI (ci := 4) (k := 1) (Cn := RX4) (T := TX4) (N := 5) E dX4_addStep_21 (by assumption) (by assumption) rfl (by decide) hinX4 (by decide +kernel) rfl ?_
      refine j_iload_n E dX4_addStep_24 rfl rfl ?_
      refine j_iast E dX4_addStep_25 (by assumption) (by assumption) ej hj (by decide) (by assumption) ?_
      refine j_aload_n E dX4_addStep_26 rfl rfl ?_
      refine j_dup E dX4_addStep_27 rfl ?_
      refine j_getI (ci := 4) (k := 1) (Cn := RX4) (T := TX4) (N := 5) E dX4_addStep_28 (by assumption) (by assumption) rfl (by decide) hinX4 (by decide +kernel) rfl ?_
      try simp only [pI_rd, pF_rd, pR_rd, pI_2, pF_1, pR_2, Nat.reduceEqDiff, ↓reduceIte, (fun M k v => pI_1n M k v hrs)]
      refine j_iconst (v := 1) E dX4_addStep_31 (by decide) ?_
      refine j_iadd E dX4_addStep_32 ?_
      refine j_putI (ci := 4) (k := 1) (Cn := RX4) (T := TX4) (N := 5) E dX4_addStep_33 (by assumption) (by assumption) rfl (by decide) hinX4 (by decide +kernel) rfl tyX4 tyX4_ok nmX4 rfl rfl rfl rfl ?_
      exact j_vret E dX4_addStep_36 rfl (by first | (simp only [xStep, if_pos h4, h13]; done) | (simp only [xStep, if_neg h4, if_pos h13]; done) | (simp only [xStep, if_neg h4, if_neg h13]; rw [ej, nI_clamp (by omega)]))

set_option maxHeartbeats 4000000 in
set_option maxRecDepth 100000 in
theorem k_X4_workOff {l : Launch} {D : va_G} {cy : Nat → ClassId} {X : va_W} {G : pG} {M : pM} {s t f : Int32}  : jK l yX4_workOff wsX4_workOff ({ frames := 0, cells := 0, slots := 0, locals := 0 } : Room) D cy X G M [.int s, .int t, .int f] (some (.int (xWork s t f))) X M := by
  refine jK_of (own := RX4) (by decide) rfl rfl (Nat.le_of_ble_eq_true rfl) (fun C E hl hD hcy hG => ?_)
  subst hl; subst hD; subst hcy; subst hG

  refine j_iload_n E dX4_workOff_0 rfl rfl ?_
  refine j_iconst (v := 1) E dX4_workOff_1 (by decide) ?_
  refine j_iand E dX4_workOff_2 ?_
  refine j_istore_n E dX4_workOff_3 rfl (by decide) ?_
  refine j_iload_n E dX4_workOff_4 rfl rfl ?_
  refine j_iconst (v := 1) E dX4_workOff_5 (by decide) ?_
  refine j_ishr E dX4_workOff_6 ?_
  refine j_istore E dX4_workOff_7 (by decide) ?_
  refine j_iload_n E dX4_workOff_9 rfl rfl ?_
  refine j_table (lo := 9) (hi := 11) (tgt := 53) E dX4_workOff_10 (by decide) (by decide) (fun h => ?_) (fun k h1 h2 e => ?_)
  · have n9 : ¬ s = 9 := by rintro rfl; rcases h with h | h <;> exact absurd h (by decide)
    have n10 : ¬ s = 10 := by rintro rfl; rcases h with h | h <;> exact absurd h (by decide)
    have n11 : ¬ s = 11 := by rintro rfl; rcases h with h | h <;> exact absurd h (by decide)
    refine j_iload_n E dX4_workOff_53 rfl rfl ?_
    refine j_iconst (v := 1) E dX4_workOff_54 (by decide) ?_
    refine j_ishl E dX4_workOff_55 ?_
    refine j_iload_n E dX4_workOff_56 rfl rfl ?_
    refine j_iload_n E dX4_workOff_57 rfl rfl ?_
    refine j_ishr E dX4_workOff_58 ?_
    refine j_iconst (v := 1) E dX4_workOff_59 (by decide) ?_
    refine j_iand E dX4_workOff_60 ?_
    refine j_ior E dX4_workOff_61 ?_
    exact j_iret E dX4_workOff_62 (by first | rfl | (simp [xWork, n9, n10, n11]; done)) rfl (by first | rfl | (simp [xWork, n9, n10, n11]; done))
  · obtain rfl | rfl | rfl : k = 9 ∨ k = 10 ∨ k = 11 := by omega
    · refine j_tabIn (off := 26) (tgt := 36) E dX4_workOff_10 (by rw [e]; decide) (by rw [e]; decide) (by rw [e]; rfl) (by decide) ?_
      refine j_iload_n E dX4_workOff_36 rfl rfl ?_
      refine j_iconst (v := 1) E dX4_workOff_37 (by decide) ?_
      refine j_ixor E dX4_workOff_38 ?_
      exact j_iret E dX4_workOff_39 (by first | rfl | (subst e; rfl)) rfl (by first | rfl | (subst e; rfl))
    · refine j_tabIn (off := 30) (tgt := 40) E dX4_workOff_10 (by rw [e]; decide) (by rw [e]; decide) (by rw [e]; rfl) (by decide) ?_
      refine j_iload E dX4_workOff_40 rfl ?_
      refine j_bipush (v := -2) E dX4_workOff_42 (by decide) ?_
      refine j_iload_n E dX4_workOff_44 rfl rfl ?_
      refine j_ior E dX4_workOff_45 ?_
      refine j_iand E dX4_workOff_46 ?_
      exact j_iret E dX4_workOff_47 (by first | rfl | (subst e; rfl)) rfl (by first | rfl | (subst e; rfl))
    · refine j_tabIn (off := 38) (tgt := 48) E dX4_workOff_10 (by rw [e]; decide) (by rw [e]; decide) (by rw [e]; rfl) (by decide) ?_
      refine j_iload E dX4_workOff_48 rfl ?_
      refine j_iload_n E dX4_workOff_50 rfl rfl ?_
      refine j_ior E dX4_workOff_51 ?_
      exact j_iret E dX4_workOff_52 (by first | rfl | (subst e; rfl)) rfl (by first | rfl | (subst e; rfl))

set_option maxHeartbeats 4000000 in
set_option maxRecDepth 100000 in
theorem kl_X4_isTrue_4 {C : jC} (E : jE C cX4_isTrue 4 wsX4_isTrue RX4 (some .boolean) ({ frames := 1, cells := 0, slots := 0, locals := 24 } : Room)) {X : va_W} {M : pM} {r s : Nat} {f : Int32} (h1 : r ∈ (jG C).1) (h2 : (jG C).2.1 r = 4) (h3 : (jG C).2.2.2 r 0 = some s) (h4 : s ∈ (jG C).1) (h5 : (jG C).2.1 s = 10) (h6 : (jG C).2.2.1 s = 20) : ∀ (n j : Nat) (t : Int32), j ≤ 20 → j + n = 21 → jW C 4 4 [(0, .ref r), (1, .int f), (2, .int t), (3, .int (nI j))] [] X M 0 0 (jZ C X M (some (.int (if xTr (M.1 s) (M.1 r 1) f n j t &&& 1 = 0 then 0 else 1))) 0 0) := by
  have hinX4 : ∀ w ∈ u_ws RX4 TX4 5, w ∈ wsX4_isTrue := by decide +kernel
  intro n
  induction n with
  | zero => intro j t hj hn; omega
  | succ n ih =>
    intro j t hj hn
    refine j_iload_n E dX4_isTrue_4 rfl rfl ?_
    refine j_aload_n E dX4_isTrue_5 rfl rfl ?_
    refine j_getI (ci := 4) (k := 1) (Cn := RX4) (T := TX4) (N := 5) E dX4_isTrue_6 (by assumption) (by assumption) rfl (by decide) hinX4 (by decide +kernel) rfl ?_
    refine j_icmp_ge (tgt := 36) E dX4_isTrue_9 (by decide) (fun h9 => ?_) (fun h9 => ?_)
    · refine j_iload_n E dX4_isTrue_36 rfl rfl ?_
      refine j_iconst (v := 1) E dX4_isTrue_37 (by decide) ?_
      refine j_iand E dX4_isTrue_38 ?_
      refine j_if_eq (tgt := 46) E dX4_isTrue_39 (by decide) (fun h39 => ?_) (fun h39 => ?_)
      · refine j_iconst (v := 0) E dX4_isTrue_46 (by decide) ?_
        exact j_zret E dX4_isTrue_47 rfl (by first | rfl | (simp [xTr, h9, h39]; done)) rfl (by first | rfl | (simp [xTr, h9, h39]; done))
      · refine j_iconst (v := 1) E dX4_isTrue_42 (by decide) ?_
        refine j_goto (tgt := 47) E dX4_isTrue_43 (by decide) ?_
        exact j_zret E dX4_isTrue_47 rfl (by first | rfl | (simp [xTr, h9, h39]; done)) rfl (by first | rfl | (simp [xTr, h9, h39]; done))
    · refine j_iload_n E dX4_isTrue_12 rfl rfl ?_
      refine j_bipush (v := 20) E dX4_isTrue_13 (by decide) ?_
      refine j_icmp_ge (tgt := 36) E dX4_isTrue_15 (by decide) (fun h15 => ?_) (fun h15 => ?_)
      · refine j_iload_n E dX4_isTrue_36 rfl rfl ?_
        refine j_iconst (v := 1) E dX4_isTrue_37 (by decide) ?_
        refine j_iand E dX4_isTrue_38 ?_
        refine j_if_eq (tgt := 46) E dX4_isTrue_39 (by decide) (fun h39 => ?_) (fun h39 => ?_)
        · refine j_iconst (v := 0) E dX4_isTrue_46 (by decide) ?_
          exact j_zret E dX4_isTrue_47 rfl (by first | rfl | (simp [xTr, h9, h15, h39]; done)) rfl (by first | rfl | (simp [xTr, h9, h15, h39]; done))
        · refine j_iconst (v := 1) E dX4_isTrue_42 (by decide) ?_
          refine j_goto (tgt := 47) E dX4_isTrue_43 (by decide) ?_
          exact j_zret E dX4_isTrue_47 rfl (by first | rfl | (simp [xTr, h9, h15, h39]; done)) rfl (by first | rfl | (simp [xTr, h9, h15, h39]; done))
      · have hj20 : j < 20 := by
          rcases Nat.lt_or_ge j 20 with q | q
          · exact q
          · exact absurd (nI_le q (by omega)) h15
        refine j_aload_n E dX4_isTrue_18 rfl rfl ?_
        refine j_getP (ci := 4) (k := 0) (Cn := RX4) (T := TX4) (N := 5) E dX4_isTrue_19 (by assumption) (by assumption) rfl (by decide) hinX4 (by decide +kernel) rfl (by assumption) ?_
        refine j_iload_n E dX4_isTrue_22 rfl rfl ?_
        refine j_iald E dX4_isTrue_23 (by assumption) (by assumption) rfl hj20 (by decide) (by assumption) ?_
        refine j_iload_n E dX4_isTrue_24 rfl rfl ?_
        refine j_iload_n E dX4_isTrue_25 rfl rfl ?_
        refine j_callS1 (n := 3) E (k_X4_workOff ) dX4_isTrue_26 gX4_isTrue_X4_workOff rfl (by decide +kernel) ⟨rfl, rfl, by decide, by decide⟩ ⟨Nat.zero_le _, Nat.zero_le _⟩ rfl rfl (Nat.le_of_ble_eq_true rfl) rfl ?_
        refine j_istore_n E dX4_isTrue_29 rfl (by decide) ?_
        refine j_iinc E dX4_isTrue_30 rfl (by decide) ?_
        refine j_goto (tgt := 4) E dX4_isTrue_33 (by decide) ?_
        refine j_lv [0, 1, 2, 3] rfl ?_
        rw [nI_inc]
        have hx : xTr (M.1 s) (M.1 r 1) f (n + 1) j t = xTr (M.1 s) (M.1 r 1) f n (j + 1) (xWork (M.1 s j) t f) := by simp [xTr, h9, h15]
        rw [hx]
        exact ih (j + 1) (xWork (M.1 s j) t f) (by omega) (by omega)

set_option maxHeartbeats 4000000 in
set_option maxRecDepth 100000 in
theorem k_X4_isTrue {l : Launch} {D : va_G} {cy : Nat → ClassId} {X : va_W} {G : pG} {M : pM} {r s : Nat} {f : Int32} (hW : wRule G r s) : jK l yX4_isTrue wsX4_isTrue ({ frames := 1, cells := 0, slots := 0, locals := 24 } : Room) D cy X G M [.ref r, .int f] (some (.int (xTrue M r s f))) X M := by
  refine jK_of (own := RX4) (by decide) rfl rfl (Nat.le_of_ble_eq_true rfl) (fun C E hl hD hcy hG => ?_)
  subst hl; subst hD; subst hcy; subst hG

  obtain ⟨h1, h2, h3, h4, h5, h6⟩ := hW
  refine j_iconst (v := 0) E dX4_isTrue_0 (by decide) ?_
  refine j_istore_n E dX4_isTrue_1 rfl (by decide) ?_
  refine j_iconst (v := 0) E dX4_isTrue_2 (by decide) ?_
  refine j_istore_n E dX4_isTrue_3 rfl (by decide) ?_
  refine j_lv [0, 1, 2, 3] rfl ?_
  exact kl_X4_isTrue_4 E h1 h2 h3 h4 h5 h6 21 0 0 (by omega) (by omega)
