/-! The constructors of the class. -/
theorem pm_new (G : pG) (q : Nat) : q ∈ (pAdd G q).1 := List.mem_append_right _ (List.mem_singleton.mpr rfl)
theorem pm_old {G : pG} {b : Nat} (q : Nat) (h : b ∈ G.1) : b ∈ (pAdd G q).1 := List.mem_append_left _ h
theorem pm_P {G : pG} {a b : Nat} (k v : Nat) (h : b ≠ a) : (pPut G a k v).2.2.2 b = G.2.2.2 b := by simp [pPut, va_up, h]
theorem pm_Ps (G : pG) (a k v : Nat) : (pPut G a k v).2.2.2 a k = some v := by simp [pPut, va_up]
theorem pm_Pn (G : pG) (a : Nat) {k j : Nat} (v : Nat) (h : j ≠ k) : (pPut G a k v).2.2.2 a j = G.2.2.2 a j := by simp [pPut, va_up, h]
theorem pZ_of {G G' : pG} {M M' : pM} {q : Nat} (h : pZ G M q) (h1 : M'.1 q = M.1 q) (h2 : M'.2 q = M.2 q) (h3 : G'.2.2.2 q = G.2.2.2 q) : pZ G' M' q := ⟨h1.trans h.1, h2.trans h.2.1, h3.trans h.2.2⟩
theorem j_k {C : jC} {nL pc kc ks a b : Nat} {lv : List (Nat × Value)} {st : List Value} {X : va_W} {M : pM} {Q : State → Prop} (h1 : kc = a) (h2 : ks = b) (k : jW C nL pc lv st X M a b Q) : jW C nL pc lv st X M kc ks Q := by subst h1; subst h2; exact k

theorem dfX0 : ∀ j, j < 2 → defaultValue (tyX0 j) = vp_V (pdf (pty 0)) j := by decide +kernel
theorem dfX1 : ∀ j, j < 3 → defaultValue (tyX1 j) = vp_V (pdf (pty 1)) j := by decide +kernel
theorem dfX2 : ∀ j, j < 11 → defaultValue (tyX2 j) = vp_V (pdf (pty 2)) j := by decide +kernel
theorem dfX3 : ∀ j, j < 2 → defaultValue (tyX3 j) = vp_V (pdf (pty 3)) j := by decide +kernel
theorem dfX4 : ∀ j, j < 5 → defaultValue (tyX4 j) = vp_V (pdf (pty 4)) j := by decide +kernel
theorem dfX5 : ∀ j, j < 3 → defaultValue (tyX5 j) = vp_V (pdf (pty 5)) j := by decide +kernel
theorem dfX6 : ∀ j, j < 10 → defaultValue (tyX6 j) = vp_V (pdf (pty 6)) j := by decide +kernel
theorem dfX7 : ∀ j, j < 34 → defaultValue (tyX7 j) = vp_V (pdf (pty 7)) j := by decide +kernel
set_option maxHeartbeats 1600000 in
set_option maxRecDepth 100000 in
theorem k_X2_init {l : Launch} {D : va_G} {cy : Nat → ClassId} {X : va_W} {G : pG} {M : pM} {q : Nat}  : jK l yX2_init wsX2_init ({ frames := 1, cells := 0, slots := 0, locals := 20 } : Room) D cy X G M [.ref q] none X M := by
  refine jK_of (own := RX2) (by decide) rfl rfl (Nat.le_of_ble_eq_true rfl) (fun C E hl hD hcy hG => ?_)
  subst hl; subst hD; subst hcy; subst hG

  refine j_aload_n E dX2_init_0 rfl rfl ?_
  refine j_objInit E dX2_init_1 (by decide +kernel) (by decide +kernel) (by decide +kernel) (by decide) (Nat.le_of_ble_eq_true rfl) ?_
  exact j_vret E dX2_init_4 rfl (by rfl)

set_option maxHeartbeats 1600000 in
set_option maxRecDepth 100000 in
theorem k_X5_init {l : Launch} {D : va_G} {cy : Nat → ClassId} {X : va_W} {G : pG} {M : pM} {q : Nat} (hL : q ∈ G.1) (hK : G.2.1 q = 5) : jK l yX5_init wsX5_init ({ frames := 1, cells := 0, slots := 0, locals := 20 } : Room) D cy X G M [.ref q] none X (pI M q 0 1) := by
  refine jK_of (own := RX5) (by decide) rfl rfl (Nat.le_of_ble_eq_true rfl) (fun C E hl hD hcy hG => ?_)
  subst hl; subst hD; subst hcy; subst hG
  have hinX5 : ∀ w ∈ u_ws RX5 TX5 3, w ∈ wsX5_init := by decide +kernel
  refine j_aload_n E dX5_init_0 rfl rfl ?_
  refine j_objInit E dX5_init_1 (by decide +kernel) (by decide +kernel) (by decide +kernel) (by decide) (Nat.le_of_ble_eq_true rfl) ?_
  refine j_aload_n E dX5_init_4 rfl rfl ?_
  refine j_iconst (v := 1) E dX5_init_5 (by decide) ?_
  refine j_putI (ci := 5) (k := 0) (Cn := RX5) (T := TX5) (N := 3) E dX5_init_6 (by assumption) (by assumption) rfl (by decide) hinX5 (by decide +kernel) rfl tyX5 tyX5_ok nmX5 rfl rfl rfl rfl ?_
  exact j_vret E dX5_init_9 rfl (by rfl)

set_option maxHeartbeats 1600000 in
set_option maxRecDepth 100000 in
theorem n_X0_init {l : Launch} {D : va_G} {cy : Nat → ClassId} {X : va_W} {G : pG} {M : pM} {g sz : Nat} (hL : g ∈ G.1) (hK : G.2.1 g = 0) (hk : G.2.1 sz = 10) (hn : G.2.2.1 sz = 48) (hz : pZ G M sz) : jKN l yX0_init wsX0_init ({ frames := 1, cells := 1, slots := 48, locals := 20 } : Room) D cy X G M [.ref g] (pPut (pAdd G sz) g 0 sz) M 1 48 sz := by
  refine jKN_of (own := RX0) (by decide) rfl rfl rfl (Nat.le_of_ble_eq_true rfl) (fun C E hao hinit hsz hl hD hcy hG => ?_)
  subst hl; subst hD; subst hcy; subst hG
  have hinX0 : ∀ w ∈ u_ws RX0 TX0 2, w ∈ wsX0_init := by decide +kernel
  have hb : (js C).heap.size + 0 = sz := hsz
  have E9 := E
  have E : ∀ G, jE (jS C G) cX0_init 1 wsX0_init RX0 none ({ frames := 1, cells := 1, slots := 48, locals := 20 } : Room) := fun _ => E9
  refine jS_self ?_
  refine j_aload_n (E _) dX0_init_0 rfl rfl ?_
  refine j_objInit (E _) dX0_init_1 (by decide +kernel) (by decide +kernel) (by decide +kernel) (by decide) (Nat.le_of_ble_eq_true rfl) ?_
  refine j_aload_n (E _) dX0_init_4 rfl rfl ?_
  refine j_bipush (v := 48) (E _) dX0_init_5 (by decide) ?_
  refine n_newaI (N := 48) (q := sz) E9 dX0_init_7 (by decide +kernel) rfl (by decide) hb (Or.inl rfl) hk hn hz (by decide) (by decide) ?_
  refine n_putR (ci := 0) (k := 0) (Cn := RX0) (T := TX0) (N := 2) E9 hinit dX0_init_9 (pm_old _ hL) hK rfl (by decide) hinX0 (by decide +kernel) rfl tyX0 tyX0_ok nmX0 rfl rfl rfl rfl rfl ?_
  exact j_vret (E _) dX0_init_12 rfl (by rfl)

set_option maxHeartbeats 1600000 in
set_option maxRecDepth 100000 in
theorem n_X1_init {l : Launch} {D : va_G} {cy : Nat → ClassId} {X : va_W} {G : pG} {M : pM} {g sz : Nat} (hL : g ∈ G.1) (hK : G.2.1 g = 1) (hk : G.2.1 sz = 8) (hn : G.2.2.1 sz = 20) (hz : pZ G M sz) : jKN l yX1_init wsX1_init ({ frames := 1, cells := 1, slots := 20, locals := 20 } : Room) D cy X G M [.ref g] (pPut (pAdd G sz) g 0 sz) M 1 20 sz := by
  refine jKN_of (own := RX1) (by decide) rfl rfl rfl (Nat.le_of_ble_eq_true rfl) (fun C E hao hinit hsz hl hD hcy hG => ?_)
  subst hl; subst hD; subst hcy; subst hG
  have hinX1 : ∀ w ∈ u_ws RX1 TX1 3, w ∈ wsX1_init := by decide +kernel
  have hb : (js C).heap.size + 0 = sz := hsz
  have E9 := E
  have E : ∀ G, jE (jS C G) cX1_init 1 wsX1_init RX1 none ({ frames := 1, cells := 1, slots := 20, locals := 20 } : Room) := fun _ => E9
  refine jS_self ?_
  refine j_aload_n (E _) dX1_init_0 rfl rfl ?_
  refine j_objInit (E _) dX1_init_1 (by decide +kernel) (by decide +kernel) (by decide +kernel) (by decide) (Nat.le_of_ble_eq_true rfl) ?_
  refine j_aload_n (E _) dX1_init_4 rfl rfl ?_
  refine j_bipush (v := 20) (E _) dX1_init_5 (by decide) ?_
  refine n_newaC (N := 20) (q := sz) E9 dX1_init_7 (by decide +kernel) rfl (by decide) hb (Or.inl rfl) hk hn hz (by decide) (by decide) ?_
  refine n_putR (ci := 1) (k := 0) (Cn := RX1) (T := TX1) (N := 3) E9 hinit dX1_init_9 (pm_old _ hL) hK rfl (by decide) hinX1 (by decide +kernel) rfl tyX1 tyX1_ok nmX1 rfl rfl rfl rfl rfl ?_
  exact j_vret (E _) dX1_init_12 rfl (by rfl)

set_option maxHeartbeats 1600000 in
set_option maxRecDepth 100000 in
theorem n_X4_init {l : Launch} {D : va_G} {cy : Nat → ClassId} {X : va_W} {G : pG} {M : pM} {g sz : Nat} (hL : g ∈ G.1) (hK : G.2.1 g = 4) (hk : G.2.1 sz = 10) (hn : G.2.2.1 sz = 20) (hz : pZ G M sz) : jKN l yX4_init wsX4_init ({ frames := 1, cells := 1, slots := 20, locals := 20 } : Room) D cy X G M [.ref g] (pPut (pAdd G sz) g 0 sz) M 1 20 sz := by
  refine jKN_of (own := RX4) (by decide) rfl rfl rfl (Nat.le_of_ble_eq_true rfl) (fun C E hao hinit hsz hl hD hcy hG => ?_)
  subst hl; subst hD; subst hcy; subst hG
  have hinX4 : ∀ w ∈ u_ws RX4 TX4 5, w ∈ wsX4_init := by decide +kernel
  have hb : (js C).heap.size + 0 = sz := hsz
  have E9 := E
  have E : ∀ G, jE (jS C G) cX4_init 1 wsX4_init RX4 none ({ frames := 1, cells := 1, slots := 20, locals := 20 } : Room) := fun _ => E9
  refine jS_self ?_
  refine j_aload_n (E _) dX4_init_0 rfl rfl ?_
  refine j_objInit (E _) dX4_init_1 (by decide +kernel) (by decide +kernel) (by decide +kernel) (by decide) (Nat.le_of_ble_eq_true rfl) ?_
  refine j_aload_n (E _) dX4_init_4 rfl rfl ?_
  refine j_bipush (v := 20) (E _) dX4_init_5 (by decide) ?_
  refine n_newaI (N := 20) (q := sz) E9 dX4_init_7 (by decide +kernel) rfl (by decide) hb (Or.inl rfl) hk hn hz (by decide) (by decide) ?_
  refine n_putR (ci := 4) (k := 0) (Cn := RX4) (T := TX4) (N := 5) E9 hinit dX4_init_9 (pm_old _ hL) hK rfl (by decide) hinX4 (by decide +kernel) rfl tyX4 tyX4_ok nmX4 rfl rfl rfl rfl rfl ?_
  exact j_vret (E _) dX4_init_12 rfl (by rfl)

def gRg (G : pG) (sz r : Nat) : Nat → pG
  | 0 => pPut (pAdd G sz) r 0 sz
  | i + 1 => pPut (pAdd (gRg G sz r i) (sz + 1 + i)) sz i (sz + 1 + i)
def gRing (G : pG) (sz r : Nat) : pG := pPut (pAdd (gRg G sz r 16) (sz + 17)) r 1 (sz + 17)
theorem gRg_K (G : pG) (sz r : Nat) : ∀ i, (gRg G sz r i).2.1 = G.2.1
  | 0 => rfl
  | i + 1 => gRg_K G sz r i
theorem gRg_N (G : pG) (sz r : Nat) : ∀ i, (gRg G sz r i).2.2.1 = G.2.2.1
  | 0 => rfl
  | i + 1 => gRg_N G sz r i
theorem gRg_P (G : pG) (sz r : Nat) {b : Nat} (h1 : b ≠ r) (h2 : b ≠ sz) : ∀ i, (gRg G sz r i).2.2.2 b = G.2.2.2 b
  | 0 => pm_P _ _ h1
  | i + 1 => (pm_P _ _ h2).trans (gRg_P G sz r h1 h2 i)
theorem gRg_r (G : pG) {sz r : Nat} (h : r ≠ sz) : ∀ i, (gRg G sz r i).2.2.2 r = va_up (G.2.2.2 r) 0 (some sz)
  | 0 => by simp [gRg, pPut, pAdd, va_up]
  | i + 1 => (pm_P _ _ h).trans (gRg_r G h i)
theorem gRg_s (G : pG) {sz r : Nat} (h : r ≠ sz) : ∀ i j, j < i → (gRg G sz r i).2.2.2 sz j = some (sz + 1 + j)
  | 0, j, hj => by omega
  | i + 1, j, hj => by
    by_cases e : j = i
    · subst e; exact pm_Ps _ _ _ _
    · exact (pm_Pn _ _ _ e).trans (gRg_s G h i j (by omega))
theorem gRg_m (G : pG) (sz r : Nat) {b : Nat} (h : b ∈ G.1) : ∀ i, b ∈ (gRg G sz r i).1
  | 0 => pm_old _ h
  | i + 1 => pm_old _ (gRg_m G sz r h i)
theorem gRg_m2 (G : pG) (sz r : Nat) : ∀ i j, j ≤ i → sz + j ∈ (gRg G sz r i).1
  | 0, j, hj => by rw [show j = 0 by omega]; exact pm_new _ _
  | i + 1, j, hj => by
    by_cases e : j = i + 1
    · rw [e, show sz + (i + 1) = sz + 1 + i by omega]; exact pm_new _ _
    · exact pm_old _ (gRg_m2 G sz r i j (by omega))

set_option maxHeartbeats 1600000 in
set_option maxRecDepth 100000 in
theorem nl_X3_init_40 {C : jC} {G : pG} {X : va_W} {M : pM} {sz r : Nat} (E9 : jE C cX3_init 2 wsX3_init RX3 none ({ frames := 3, cells := 18, slots := 209, locals := 60 } : Room)) (hinit : (jme C).name = "<init>") (hb : (js C).heap.size = sz) (hm : r ∈ G.1) (hm2 : sz + 16 ∈ G.1) (hKr : G.2.1 r = 3) (hkw : G.2.1 (sz + 17) = 10) (hnw : G.2.2.1 (sz + 17) = 17) (hz : pZ G M (sz + 17)) {i : Int32} : jW (jS C G) 2 40 [(0, .ref r), (1, .int i)] [] X M 17 192 (jZ (jS C (pPut (pAdd G (sz + 17)) r 1 (sz + 17))) X M none 18 209) := by
  have hinX3 : ∀ w ∈ u_ws RX3 TX3 2, w ∈ wsX3_init := by decide +kernel
  have E : ∀ G, jE (jS C G) cX3_init 2 wsX3_init RX3 none ({ frames := 3, cells := 18, slots := 209, locals := 60 } : Room) := fun _ => E9
  refine j_aload_n (E _) dX3_init_40 rfl rfl ?_
  refine j_bipush (v := 17) (E _) dX3_init_41 (by decide) ?_
  refine n_newaI (N := 17) (q := (sz + 17)) E9 dX3_init_43 (by decide +kernel) rfl (by decide) (by rw [hb]) (Or.inr (by rw [hb]; exact hm2)) hkw hnw hz (by decide) (by decide) ?_
  refine n_putR (ci := 3) (k := 1) (Cn := RX3) (T := TX3) (N := 2) E9 hinit dX3_init_45 (pm_old _ hm) hKr rfl (by decide) hinX3 (by decide +kernel) rfl tyX3 tyX3_ok nmX3 rfl rfl rfl rfl rfl ?_
  exact j_vret (E _) dX3_init_48 rfl (by rfl)

set_option maxHeartbeats 1600000 in
set_option maxRecDepth 100000 in
theorem nl_X3_init_15 {C : jC} {G : pG} {X : va_W} {M : pM} {sz r : Nat} (hLr : r ∈ G.1) (hKr : G.2.1 r = 3) (hrs : r < sz) (hk0 : G.2.1 sz = 12) (hn0 : G.2.2.1 sz = 16) (hkp : ∀ i, i < 16 → G.2.1 (sz + 1 + i) = 2) (hkw : G.2.1 (sz + 17) = 10) (hnw : G.2.2.1 (sz + 17) = 17) (hz : ∀ i, i < 18 → pZ G M (sz + i)) (E9 : jE C cX3_init 2 wsX3_init RX3 none ({ frames := 3, cells := 18, slots := 209, locals := 60 } : Room)) (hinit : (jme C).name = "<init>") (hb : (js C).heap.size = sz) : ∀ (n i : Nat), i + n = 16 → jW (jS C (gRg G sz r i)) 2 15 [(0, .ref r), (1, .int (nI i))] [] X M (1 + i) (16 + 11 * i) (jZ (jS C (pPut (pAdd (gRg G sz r 16) (sz + 17)) r 1 (sz + 17))) X M none 18 209) := by
  have hinX3 : ∀ w ∈ u_ws RX3 TX3 2, w ∈ wsX3_init := by decide +kernel
  have hinX2 : ∀ w ∈ u_ws RX2 TX2 11, w ∈ wsX3_init := by decide +kernel
  have E : ∀ G, jE (jS C G) cX3_init 2 wsX3_init RX3 none ({ frames := 3, cells := 18, slots := 209, locals := 60 } : Room) := fun _ => E9
  intro n
  induction n with
  | zero =>
    intro i hn
    have he : i = 16 := by omega
    refine j_iload_n (E _) dX3_init_15 rfl rfl ?_
    refine j_bipush (v := 16) (E _) dX3_init_16 (by decide) ?_
    refine j_icmp_ge (tgt := 40) (E _) dX3_init_18 (by decide) (fun h => ?_) (fun h => absurd (by rw [he]; decide) h)
    subst he
    exact nl_X3_init_40 E9 hinit hb (gRg_m G sz r hLr 16) (gRg_m2 G sz r 16 16 (Nat.le_refl _)) (by rw [gRg_K]; exact hKr) (by rw [gRg_K]; exact hkw) (by rw [gRg_N]; exact hnw) (pZ_of (hz 17 (by omega)) rfl rfl (gRg_P G sz r (by omega) (by omega) 16))
  | succ n ih =>
    intro i hn
    have hi : i < 16 := by omega
    refine j_iload_n (E _) dX3_init_15 rfl rfl ?_
    refine j_bipush (v := 16) (E _) dX3_init_16 (by decide) ?_
    refine j_icmp_ge (tgt := 40) (E _) dX3_init_18 (by decide) (fun h18 => ?_) (fun h18 => ?_)
    · exact absurd h18 (nI_ge (b := 16) hi (by decide))
    · refine j_aload_n (E _) dX3_init_21 rfl rfl ?_
      refine j_getP (ci := 3) (k := 0) (Cn := RX3) (T := TX3) (N := 2) (E _) dX3_init_22 (gRg_m G sz r hLr i) (by show (gRg G sz r i).2.1 r = 3; rw [gRg_K]; exact hKr) rfl (by decide) hinX3 (by decide +kernel) rfl (by show (gRg G sz r i).2.2.2 r 0 = some sz; rw [gRg_r G (by omega)]; rfl) ?_
      refine j_iload_n (E _) dX3_init_25 rfl rfl ?_
      refine n_new (ci := 2) (N := 11) (Cn := RX2) (T := TX2) (q := (sz + 1 + i)) E9 dX3_init_26 rfl hinX2 tyX2 tyX2_ok (by decide +kernel) (by decide +kernel) (by decide +kernel) dfX2 (by rw [hb]; omega) (Or.inr (by rw [hb, show sz + (1 + i - 1) = sz + i by omega]; exact gRg_m2 G sz r i i (Nat.le_refl _))) (by rw [gRg_K]; exact hkp i hi) (pZ_of (by have h := hz (1 + i) (by omega); rw [show sz + (1 + i) = sz + 1 + i by omega] at h; exact h) rfl rfl (gRg_P G sz r (by omega) (by omega) i)) (by show 1 + i + 1 ≤ 18; omega) (by show 16 + 11 * i + 11 ≤ 209; omega) ?_
      refine j_dup (E _) dX3_init_29 rfl ?_
      refine n_callI (maxL := 1) E9 k_X2_init dX3_init_30 gX3_init_X2_init rfl (by decide +kernel) (by decide +kernel) (by decide +kernel) rfl (by decide +kernel) ⟨rfl, rfl, by decide, by decide⟩ ⟨by show 1 + i + 1 ≤ 18; omega, by show 16 + 11 * i + 11 ≤ 209; omega⟩ (Nat.le_of_ble_eq_true rfl) ?_
      refine n_aastR (n := 16) (kd := 12) (ci := 2) (r := (RX2, TX2, 11)) (j := i) E9 dX3_init_33 (pm_old _ (gRg_m2 G sz r i 0 (by omega))) (by show (gRg G sz r i).2.2.1 sz = 16; rw [gRg_N]; exact hn0) rfl hi (by decide) (by show (gRg G sz r i).2.1 sz = 12; rw [gRg_K]; exact hk0) (by decide) rfl (pm_new _ _) (by show (gRg G sz r i).2.1 (sz + 1 + i) = 2; rw [gRg_K]; exact hkp i hi) rfl ?_
      refine j_iinc (E _) dX3_init_34 rfl (by decide) ?_
      refine j_goto (tgt := 15) (E _) dX3_init_37 (by decide) ?_
      exact j_lv [0, 1] rfl (by rw [nI_inc]; exact j_k (by omega) (by omega) (ih (i + 1) (by omega)))

set_option maxHeartbeats 1600000 in
set_option maxRecDepth 100000 in
theorem n_X3_init {l : Launch} {D : va_G} {cy : Nat → ClassId} {X : va_W} {G : pG} {M : pM} {sz r : Nat} (hLr : r ∈ G.1) (hKr : G.2.1 r = 3) (hrs : r < sz) (hk0 : G.2.1 sz = 12) (hn0 : G.2.2.1 sz = 16) (hkp : ∀ i, i < 16 → G.2.1 (sz + 1 + i) = 2) (hkw : G.2.1 (sz + 17) = 10) (hnw : G.2.2.1 (sz + 17) = 17) (hz : ∀ i, i < 18 → pZ G M (sz + i)) : jKN l yX3_init wsX3_init ({ frames := 3, cells := 18, slots := 209, locals := 60 } : Room) D cy X G M [.ref r] (gRing G sz r) M 18 209 sz := by
  refine jKN_of (own := RX3) (by decide) rfl rfl rfl (Nat.le_of_ble_eq_true rfl) (fun C E9 hao hinit hsz hl hD hcy hG => ?_)
  subst hl; subst hD; subst hcy; subst hG
  have hinX3 : ∀ w ∈ u_ws RX3 TX3 2, w ∈ wsX3_init := by decide +kernel
  have hb0 : (js C).heap.size + 0 = sz := hsz
  have E : ∀ G, jE (jS C G) cX3_init 2 wsX3_init RX3 none ({ frames := 3, cells := 18, slots := 209, locals := 60 } : Room) := fun _ => E9
  refine jS_self ?_
  refine j_aload_n (E _) dX3_init_0 rfl rfl ?_
  refine j_objInit (E _) dX3_init_1 (by decide +kernel) (by decide +kernel) (by decide +kernel) (by decide) (Nat.le_of_ble_eq_true rfl) ?_
  refine j_aload_n (E _) dX3_init_4 rfl rfl ?_
  refine j_bipush (v := 16) (E _) dX3_init_5 (by decide) ?_
  refine n_anewP (N := 16) (q := sz) E9 hao.1 dX3_init_7 (by decide +kernel) rfl (by decide) hb0 (Or.inl rfl) hk0 hn0 (hz 0 (by omega)) (by decide) (by decide) ?_
  refine n_putR (ci := 3) (k := 0) (Cn := RX3) (T := TX3) (N := 2) E9 hinit dX3_init_10 (pm_old _ hLr) hKr rfl (by decide) hinX3 (by decide +kernel) rfl tyX3 tyX3_ok nmX3 rfl rfl rfl rfl rfl ?_
  refine j_iconst (v := 0) (E _) dX3_init_13 (by decide) ?_
  refine j_istore_n (E _) dX3_init_14 rfl (by decide) ?_
  exact j_lv [0, 1] rfl (nl_X3_init_15 hLr hKr hrs hk0 hn0 hkp hkw hnw hz E9 hinit hsz 16 0 (by omega))
