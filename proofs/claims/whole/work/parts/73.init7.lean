/-! new FirePanelModel(): its arrays lie behind it, at h + 1 .. h + 25. -/
def slM (t : Nat) : Nat := ([1, 2, 3, 4, 5, 6, 7, 8, 9, 10, 11, 12, 13, 14, 15, 17, 18, 19, 20, 21, 22, 24, 29, 31, 33] : List Nat).getD t 0
def kM (i : Nat) : Nat := ([7, 10, 10, 10, 9, 9, 9, 9, 10, 11, 10, 11, 11, 11, 10, 11, 10, 10, 10, 10, 10, 11, 8, 10, 8, 10] : List Nat).getD i 0
def nM (i : Nat) : Nat := ([0, 17, 16, 16, 16, 16, 16, 16, 16, 16, 16, 16, 16, 4, 4, 4, 120, 6, 6, 6, 6, 6, 20, 48, 24, 24] : List Nat).getD i 0
def tM (k : Nat) : Nat := ([0, 1, 2, 3, 4, 5, 6, 7, 8, 9, 10, 11, 12, 13, 14, 15, 116, 16, 17, 18, 19, 20, 21, 123, 22, 125, 126, 127, 128, 23, 130, 24, 132, 25] : List Nat).getD k 0
def gMo (G : pG) (h : Nat) : Nat → pG
  | 0 => G
  | t + 1 => pPut (pAdd (gMo G h t) (h + (1 + t))) h (slM t) (h + (1 + t))
def mMo (M : pM) (h : Nat) : Nat → pM
  | 0 => M
  | i + 1 => pI (mMo M h i) (h + 14) i 1
theorem gMo_K (G : pG) (h : Nat) : ∀ t, (gMo G h t).2.1 = G.2.1
  | 0 => rfl
  | t + 1 => by rw [gMo, pPut_K, pAdd_K, gMo_K G h t]
theorem gMo_N (G : pG) (h : Nat) : ∀ t, (gMo G h t).2.2.1 = G.2.2.1
  | 0 => rfl
  | t + 1 => by rw [gMo, pPut_N, pAdd_N, gMo_N G h t]
theorem gMo_m (G : pG) (h : Nat) {b : Nat} (hb : b ∈ G.1) : ∀ t, b ∈ (gMo G h t).1
  | 0 => hb
  | t + 1 => pm_put _ _ _ (pm_old _ (gMo_m G h hb t))
theorem gMo_m2 (G : pG) (h : Nat) : ∀ t j, j < t → h + (1 + j) ∈ (gMo G h t).1
  | 0, j, hj => by omega
  | t + 1, j, hj => by
    by_cases e : j = t
    · rw [e]; exact pm_put _ _ _ (pm_new _ _)
    · exact pm_put _ _ _ (pm_old _ (gMo_m2 G h t j (by omega)))
theorem gMo_P (G : pG) (h : Nat) {b : Nat} (hb : b ≠ h) : ∀ t, (gMo G h t).2.2.2 b = G.2.2.2 b
  | 0 => rfl
  | t + 1 => by rw [gMo, pm_P _ _ hb]; exact gMo_P G h hb t
theorem slM_inj : ∀ i, i < 25 → ∀ j, j < 25 → slM i = slM j → i = j := by decide
theorem gMo_s (G : pG) (h : Nat) : ∀ t, t ≤ 25 → ∀ j, j < t → (gMo G h t).2.2.2 h (slM j) = some (h + (1 + j))
  | 0, _, j, hj => by omega
  | t + 1, ht, j, hj => by
    by_cases e : j = t
    · subst e; exact pm_Ps _ _ _ _
    · rw [gMo, pm_Pn _ _ _ (fun q => e (slM_inj j (by omega) t (by omega) q))]
      exact gMo_s G h t (by omega) j (by omega)
theorem mMo_o (M : pM) (h : Nat) {b : Nat} (hb : b ≠ h + 14) : ∀ i, (mMo M h i).1 b = M.1 b
  | 0 => rfl
  | i + 1 => by rw [mMo, pI_1n _ _ _ hb, mMo_o M h hb i]
theorem mMo_2 (M : pM) (h : Nat) : ∀ i, (mMo M h i).2 = M.2
  | 0 => rfl
  | i + 1 => by rw [mMo, pI_2, mMo_2 M h i]
theorem j_sh {C : jC} {G G' : pG} {nL pc kc ks : Nat} {lv : List (Nat × Value)} {st : List Value} {X : va_W} {M : pM} {Q : State → Prop} (h : G = G') (k : jW (jS C G') nL pc lv st X M kc ks Q) : jW (jS C G) nL pc lv st X M kc ks Q := h ▸ k

set_option maxHeartbeats 1600000 in
set_option maxRecDepth 100000 in
theorem nl_X7_init_203 {C : jC} {G : pG} {X : va_W} {M : pM} {h : Nat} (E9 : jE C cX7_init 2 wsX7_init RX7 none ({ frames := 1, cells := 25, slots := 471, locals := 30 } : Room)) (hinit : (jme C).name = "<init>") (hb : (js C).heap.size = h + 1) (hm : h ∈ G.1) (hTK : ∀ i, i < 26 → G.2.1 (h + i) = kM i) (hTN : ∀ i, i < 26 → G.2.2.1 (h + i) = nM i) (hm14 : h + 14 ∈ G.1) (hp : G.2.2.2 h 14 = some (h + 14)) : ∀ (n i : Nat), i + n = 4 → jW (jS C G) 2 203 [(0, .ref h), (1, .int (nI i))] [] X (mMo M h i) 25 471 (jZ (jS C G) X (mMo M h 4) none 25 471) := by
  have hinX7 : ∀ w ∈ u_ws RX7 TX7 34, w ∈ wsX7_init := by decide +kernel
  have E : ∀ G, jE (jS C G) cX7_init 2 wsX7_init RX7 none ({ frames := 1, cells := 25, slots := 471, locals := 30 } : Room) := fun _ => E9
  intro n
  induction n with
  | zero =>
    intro i hn
    have he : i = 4 := by omega
    refine j_iload_n (E _) dX7_init_203 rfl rfl ?_
    refine j_iconst (v := 4) (E _) dX7_init_204 (by decide) ?_
    refine j_icmp_ge (tgt := 221) (E _) dX7_init_205 (by decide) (fun hc => ?_) (fun hc => absurd (by rw [he]; decide) hc)
    subst he
    exact j_vret (E _) dX7_init_221 rfl rfl
  | succ n ih =>
    intro i hn
    have hi : i < 4 := by omega
    refine j_iload_n (E _) dX7_init_203 rfl rfl ?_
    refine j_iconst (v := 4) (E _) dX7_init_204 (by decide) ?_
    refine j_icmp_ge (tgt := 221) (E _) dX7_init_205 (by decide) (fun h205 => ?_) (fun h205 => ?_)
    · exact absurd h205 (nI_ge (b := 4) hi (by decide))
    · refine j_aload_n (E _) dX7_init_208 rfl rfl ?_
      refine j_getP (ci := 7) (k := 14) (Cn := RX7) (T := TX7) (N := 34) (E _) dX7_init_209 hm (hTK 0 (by decide)) rfl (by decide) hinX7 (by decide +kernel) rfl hp ?_
      refine j_iload_n (E _) dX7_init_212 rfl rfl ?_
      refine j_iconst (v := 1) (E _) dX7_init_213 (by decide) ?_
      refine j_iast (E _) dX7_init_214 hm14 (hTN 14 (by decide)) rfl hi (by decide) (hTK 14 (by decide)) ?_
      refine j_iinc (E _) dX7_init_215 rfl (by decide) ?_
      refine j_goto (tgt := 203) (E _) dX7_init_218 (by decide) ?_
      exact j_lv [0, 1] rfl (by rw [nI_inc]; exact ih (i + 1) (by omega))

set_option maxHeartbeats 1600000 in
set_option maxRecDepth 100000 in
theorem n_X7_init {l : Launch} {D : va_G} {cy : Nat → ClassId} {X : va_W} {G : pG} {M : pM} {h : Nat} (hm : h ∈ G.1) (hTK : ∀ i, i < 26 → G.2.1 (h + i) = kM i) (hTN : ∀ i, i < 26 → G.2.2.1 (h + i) = nM i) (hz : ∀ i, 1 ≤ i → i < 26 → pZ G M (h + i)) : jKN l yX7_init wsX7_init ({ frames := 1, cells := 25, slots := 471, locals := 30 } : Room) D cy X G M [.ref h] (gMo G h 25) (mMo M h 4) 25 471 (h + 1) := by
  refine jKN_of (own := RX7) (by decide) rfl rfl rfl (Nat.le_of_ble_eq_true rfl) (fun C E9 hao hinit hsz hl hD hcy hG => ?_)
  subst hl; subst hD; subst hcy; subst hG
  have hinX7 : ∀ w ∈ u_ws RX7 TX7 34, w ∈ wsX7_init := by decide +kernel
  have E : ∀ G, jE (jS C G) cX7_init 2 wsX7_init RX7 none ({ frames := 1, cells := 25, slots := 471, locals := 30 } : Room) := fun _ => E9
  refine jS_self ?_
  refine j_sh (G' := gMo (jG C) h 0) rfl ?_
  refine j_aload_n (E _) dX7_init_0 rfl rfl ?_
  refine j_objInit (E _) dX7_init_1 (by decide +kernel) (by decide +kernel) (by decide +kernel) (by decide) (Nat.le_of_ble_eq_true rfl) ?_
  refine j_aload_n (E _) dX7_init_4 rfl rfl ?_
  refine j_bipush (v := 17) (E _) dX7_init_5 (by decide) ?_
  refine n_newaI (N := 17) (q := (h + (1 + 0))) E9 dX7_init_7 (by decide +kernel) rfl (by decide) (by rw [hsz] <;> omega) (Or.inl rfl) (by rw [gMo_K]; exact hTK 1 (by decide)) (by rw [gMo_N]; exact hTN 1 (by decide)) (pZ_of (hz 1 (by decide) (by decide)) rfl rfl (gMo_P (jG C) h (by omega) 0)) (by decide) (by decide) ?_
  refine n_putR (ci := 7) (k := 1) (Cn := RX7) (T := TX7) (N := 34) E9 hinit dX7_init_9 (pm_old _ (gMo_m (jG C) h hm 0)) (by show (gMo (jG C) h 0).2.1 h = 7; rw [gMo_K]; exact hTK 0 (by decide)) rfl (by decide) hinX7 (by decide +kernel) rfl tyX7 tyX7_ok nmX7 rfl rfl rfl rfl rfl ?_
  refine j_sh (G' := gMo (jG C) h 1) rfl ?_
  refine j_aload_n (E _) dX7_init_12 rfl rfl ?_
  refine j_bipush (v := 16) (E _) dX7_init_13 (by decide) ?_
  refine n_newaI (N := 16) (q := (h + (1 + 1))) E9 dX7_init_15 (by decide +kernel) rfl (by decide) (by rw [hsz] <;> omega) (Or.inr (by rw [hsz]; exact gMo_m2 (jG C) h 1 0 (by decide))) (by rw [gMo_K]; exact hTK 2 (by decide)) (by rw [gMo_N]; exact hTN 2 (by decide)) (pZ_of (hz 2 (by decide) (by decide)) rfl rfl (gMo_P (jG C) h (by omega) 1)) (by decide) (by decide) ?_
  refine n_putR (ci := 7) (k := 2) (Cn := RX7) (T := TX7) (N := 34) E9 hinit dX7_init_17 (pm_old _ (gMo_m (jG C) h hm 1)) (by show (gMo (jG C) h 1).2.1 h = 7; rw [gMo_K]; exact hTK 0 (by decide)) rfl (by decide) hinX7 (by decide +kernel) rfl tyX7 tyX7_ok nmX7 rfl rfl rfl rfl rfl ?_
  refine j_sh (G' := gMo (jG C) h 2) rfl ?_
  refine j_aload_n (E _) dX7_init_20 rfl rfl ?_
  refine j_bipush (v := 16) (E _) dX7_init_21 (by decide) ?_
  refine n_newaI (N := 16) (q := (h + (1 + 2))) E9 dX7_init_23 (by decide +kernel) rfl (by decide) (by rw [hsz] <;> omega) (Or.inr (by rw [hsz]; exact gMo_m2 (jG C) h 2 1 (by decide))) (by rw [gMo_K]; exact hTK 3 (by decide)) (by rw [gMo_N]; exact hTN 3 (by decide)) (pZ_of (hz 3 (by decide) (by decide)) rfl rfl (gMo_P (jG C) h (by omega) 2)) (by decide) (by decide) ?_
  refine n_putR (ci := 7) (k := 3) (Cn := RX7) (T := TX7) (N := 34) E9 hinit dX7_init_25 (pm_old _ (gMo_m (jG C) h hm 2)) (by show (gMo (jG C) h 2).2.1 h = 7; rw [gMo_K]; exact hTK 0 (by decide)) rfl (by decide) hinX7 (by decide +kernel) rfl tyX7 tyX7_ok nmX7 rfl rfl rfl rfl rfl ?_
  refine j_sh (G' := gMo (jG C) h 3) rfl ?_
  refine j_aload_n (E _) dX7_init_28 rfl rfl ?_
  refine j_bipush (v := 16) (E _) dX7_init_29 (by decide) ?_
  refine n_newaF (N := 16) (q := (h + (1 + 3))) E9 dX7_init_31 (by decide +kernel) rfl (by decide) (by rw [hsz] <;> omega) (Or.inr (by rw [hsz]; exact gMo_m2 (jG C) h 3 2 (by decide))) (by rw [gMo_K]; exact hTK 4 (by decide)) (by rw [gMo_N]; exact hTN 4 (by decide)) (pZ_of (hz 4 (by decide) (by decide)) rfl rfl (gMo_P (jG C) h (by omega) 3)) (by decide) (by decide) ?_
  refine n_putR (ci := 7) (k := 4) (Cn := RX7) (T := TX7) (N := 34) E9 hinit dX7_init_33 (pm_old _ (gMo_m (jG C) h hm 3)) (by show (gMo (jG C) h 3).2.1 h = 7; rw [gMo_K]; exact hTK 0 (by decide)) rfl (by decide) hinX7 (by decide +kernel) rfl tyX7 tyX7_ok nmX7 rfl rfl rfl rfl rfl ?_
  refine j_sh (G' := gMo (jG C) h 4) rfl ?_
  refine j_aload_n (E _) dX7_init_36 rfl rfl ?_
  refine j_bipush (v := 16) (E _) dX7_init_37 (by decide) ?_
  refine n_newaF (N := 16) (q := (h + (1 + 4))) E9 dX7_init_39 (by decide +kernel) rfl (by decide) (by rw [hsz] <;> omega) (Or.inr (by rw [hsz]; exact gMo_m2 (jG C) h 4 3 (by decide))) (by rw [gMo_K]; exact hTK 5 (by decide)) (by rw [gMo_N]; exact hTN 5 (by decide)) (pZ_of (hz 5 (by decide) (by decide)) rfl rfl (gMo_P (jG C) h (by omega) 4)) (by decide) (by decide) ?_
  refine n_putR (ci := 7) (k := 5) (Cn := RX7) (T := TX7) (N := 34) E9 hinit dX7_init_41 (pm_old _ (gMo_m (jG C) h hm 4)) (by show (gMo (jG C) h 4).2.1 h = 7; rw [gMo_K]; exact hTK 0 (by decide)) rfl (by decide) hinX7 (by decide +kernel) rfl tyX7 tyX7_ok nmX7 rfl rfl rfl rfl rfl ?_
  refine j_sh (G' := gMo (jG C) h 5) rfl ?_
  refine j_aload_n (E _) dX7_init_44 rfl rfl ?_
  refine j_bipush (v := 16) (E _) dX7_init_45 (by decide) ?_
  refine n_newaF (N := 16) (q := (h + (1 + 5))) E9 dX7_init_47 (by decide +kernel) rfl (by decide) (by rw [hsz] <;> omega) (Or.inr (by rw [hsz]; exact gMo_m2 (jG C) h 5 4 (by decide))) (by rw [gMo_K]; exact hTK 6 (by decide)) (by rw [gMo_N]; exact hTN 6 (by decide)) (pZ_of (hz 6 (by decide) (by decide)) rfl rfl (gMo_P (jG C) h (by omega) 5)) (by decide) (by decide) ?_
  refine n_putR (ci := 7) (k := 6) (Cn := RX7) (T := TX7) (N := 34) E9 hinit dX7_init_49 (pm_old _ (gMo_m (jG C) h hm 5)) (by show (gMo (jG C) h 5).2.1 h = 7; rw [gMo_K]; exact hTK 0 (by decide)) rfl (by decide) hinX7 (by decide +kernel) rfl tyX7 tyX7_ok nmX7 rfl rfl rfl rfl rfl ?_
  refine j_sh (G' := gMo (jG C) h 6) rfl ?_
  refine j_aload_n (E _) dX7_init_52 rfl rfl ?_
  refine j_bipush (v := 16) (E _) dX7_init_53 (by decide) ?_
  refine n_newaF (N := 16) (q := (h + (1 + 6))) E9 dX7_init_55 (by decide +kernel) rfl (by decide) (by rw [hsz] <;> omega) (Or.inr (by rw [hsz]; exact gMo_m2 (jG C) h 6 5 (by decide))) (by rw [gMo_K]; exact hTK 7 (by decide)) (by rw [gMo_N]; exact hTN 7 (by decide)) (pZ_of (hz 7 (by decide) (by decide)) rfl rfl (gMo_P (jG C) h (by omega) 6)) (by decide) (by decide) ?_
  refine n_putR (ci := 7) (k := 7) (Cn := RX7) (T := TX7) (N := 34) E9 hinit dX7_init_57 (pm_old _ (gMo_m (jG C) h hm 6)) (by show (gMo (jG C) h 6).2.1 h = 7; rw [gMo_K]; exact hTK 0 (by decide)) rfl (by decide) hinX7 (by decide +kernel) rfl tyX7 tyX7_ok nmX7 rfl rfl rfl rfl rfl ?_
  refine j_sh (G' := gMo (jG C) h 7) rfl ?_
  refine j_aload_n (E _) dX7_init_60 rfl rfl ?_
  refine j_bipush (v := 16) (E _) dX7_init_61 (by decide) ?_
  refine n_newaI (N := 16) (q := (h + (1 + 7))) E9 dX7_init_63 (by decide +kernel) rfl (by decide) (by rw [hsz] <;> omega) (Or.inr (by rw [hsz]; exact gMo_m2 (jG C) h 7 6 (by decide))) (by rw [gMo_K]; exact hTK 8 (by decide)) (by rw [gMo_N]; exact hTN 8 (by decide)) (pZ_of (hz 8 (by decide) (by decide)) rfl rfl (gMo_P (jG C) h (by omega) 7)) (by decide) (by decide) ?_
  refine n_putR (ci := 7) (k := 8) (Cn := RX7) (T := TX7) (N := 34) E9 hinit dX7_init_65 (pm_old _ (gMo_m (jG C) h hm 7)) (by show (gMo (jG C) h 7).2.1 h = 7; rw [gMo_K]; exact hTK 0 (by decide)) rfl (by decide) hinX7 (by decide +kernel) rfl tyX7 tyX7_ok nmX7 rfl rfl rfl rfl rfl ?_
  refine j_sh (G' := gMo (jG C) h 8) rfl ?_
  refine j_aload_n (E _) dX7_init_68 rfl rfl ?_
  refine j_bipush (v := 16) (E _) dX7_init_69 (by decide) ?_
  refine n_newaZ (N := 16) (q := (h + (1 + 8))) E9 dX7_init_71 (by decide +kernel) rfl (by decide) (by rw [hsz] <;> omega) (Or.inr (by rw [hsz]; exact gMo_m2 (jG C) h 8 7 (by decide))) (by rw [gMo_K]; exact hTK 9 (by decide)) (by rw [gMo_N]; exact hTN 9 (by decide)) (pZ_of (hz 9 (by decide) (by decide)) rfl rfl (gMo_P (jG C) h (by omega) 8)) (by decide) (by decide) ?_
  refine n_putR (ci := 7) (k := 9) (Cn := RX7) (T := TX7) (N := 34) E9 hinit dX7_init_73 (pm_old _ (gMo_m (jG C) h hm 8)) (by show (gMo (jG C) h 8).2.1 h = 7; rw [gMo_K]; exact hTK 0 (by decide)) rfl (by decide) hinX7 (by decide +kernel) rfl tyX7 tyX7_ok nmX7 rfl rfl rfl rfl rfl ?_
  refine j_sh (G' := gMo (jG C) h 9) rfl ?_
  refine j_aload_n (E _) dX7_init_76 rfl rfl ?_
  refine j_bipush (v := 16) (E _) dX7_init_77 (by decide) ?_
  refine n_newaI (N := 16) (q := (h + (1 + 9))) E9 dX7_init_79 (by decide +kernel) rfl (by decide) (by rw [hsz] <;> omega) (Or.inr (by rw [hsz]; exact gMo_m2 (jG C) h 9 8 (by decide))) (by rw [gMo_K]; exact hTK 10 (by decide)) (by rw [gMo_N]; exact hTN 10 (by decide)) (pZ_of (hz 10 (by decide) (by decide)) rfl rfl (gMo_P (jG C) h (by omega) 9)) (by decide) (by decide) ?_
  refine n_putR (ci := 7) (k := 10) (Cn := RX7) (T := TX7) (N := 34) E9 hinit dX7_init_81 (pm_old _ (gMo_m (jG C) h hm 9)) (by show (gMo (jG C) h 9).2.1 h = 7; rw [gMo_K]; exact hTK 0 (by decide)) rfl (by decide) hinX7 (by decide +kernel) rfl tyX7 tyX7_ok nmX7 rfl rfl rfl rfl rfl ?_
  refine j_sh (G' := gMo (jG C) h 10) rfl ?_
  refine j_aload_n (E _) dX7_init_84 rfl rfl ?_
  refine j_bipush (v := 16) (E _) dX7_init_85 (by decide) ?_
  refine n_newaZ (N := 16) (q := (h + (1 + 10))) E9 dX7_init_87 (by decide +kernel) rfl (by decide) (by rw [hsz] <;> omega) (Or.inr (by rw [hsz]; exact gMo_m2 (jG C) h 10 9 (by decide))) (by rw [gMo_K]; exact hTK 11 (by decide)) (by rw [gMo_N]; exact hTN 11 (by decide)) (pZ_of (hz 11 (by decide) (by decide)) rfl rfl (gMo_P (jG C) h (by omega) 10)) (by decide) (by decide) ?_
  refine n_putR (ci := 7) (k := 11) (Cn := RX7) (T := TX7) (N := 34) E9 hinit dX7_init_89 (pm_old _ (gMo_m (jG C) h hm 10)) (by show (gMo (jG C) h 10).2.1 h = 7; rw [gMo_K]; exact hTK 0 (by decide)) rfl (by decide) hinX7 (by decide +kernel) rfl tyX7 tyX7_ok nmX7 rfl rfl rfl rfl rfl ?_
  refine j_sh (G' := gMo (jG C) h 11) rfl ?_
  refine j_aload_n (E _) dX7_init_92 rfl rfl ?_
  refine j_bipush (v := 16) (E _) dX7_init_93 (by decide) ?_
  refine n_newaZ (N := 16) (q := (h + (1 + 11))) E9 dX7_init_95 (by decide +kernel) rfl (by decide) (by rw [hsz] <;> omega) (Or.inr (by rw [hsz]; exact gMo_m2 (jG C) h 11 10 (by decide))) (by rw [gMo_K]; exact hTK 12 (by decide)) (by rw [gMo_N]; exact hTN 12 (by decide)) (pZ_of (hz 12 (by decide) (by decide)) rfl rfl (gMo_P (jG C) h (by omega) 11)) (by decide) (by decide) ?_
  refine n_putR (ci := 7) (k := 12) (Cn := RX7) (T := TX7) (N := 34) E9 hinit dX7_init_97 (pm_old _ (gMo_m (jG C) h hm 11)) (by show (gMo (jG C) h 11).2.1 h = 7; rw [gMo_K]; exact hTK 0 (by decide)) rfl (by decide) hinX7 (by decide +kernel) rfl tyX7 tyX7_ok nmX7 rfl rfl rfl rfl rfl ?_
  refine j_sh (G' := gMo (jG C) h 12) rfl ?_
  refine j_aload_n (E _) dX7_init_100 rfl rfl ?_
  refine j_iconst (v := 4) (E _) dX7_init_101 (by decide) ?_
  refine n_newaZ (N := 4) (q := (h + (1 + 12))) E9 dX7_init_102 (by decide +kernel) rfl (by decide) (by rw [hsz] <;> omega) (Or.inr (by rw [hsz]; exact gMo_m2 (jG C) h 12 11 (by decide))) (by rw [gMo_K]; exact hTK 13 (by decide)) (by rw [gMo_N]; exact hTN 13 (by decide)) (pZ_of (hz 13 (by decide) (by decide)) rfl rfl (gMo_P (jG C) h (by omega) 12)) (by decide) (by decide) ?_
  refine n_putR (ci := 7) (k := 13) (Cn := RX7) (T := TX7) (N := 34) E9 hinit dX7_init_104 (pm_old _ (gMo_m (jG C) h hm 12)) (by show (gMo (jG C) h 12).2.1 h = 7; rw [gMo_K]; exact hTK 0 (by decide)) rfl (by decide) hinX7 (by decide +kernel) rfl tyX7 tyX7_ok nmX7 rfl rfl rfl rfl rfl ?_
  refine j_sh (G' := gMo (jG C) h 13) rfl ?_
  refine j_aload_n (E _) dX7_init_107 rfl rfl ?_
  refine j_iconst (v := 4) (E _) dX7_init_108 (by decide) ?_
  refine n_newaI (N := 4) (q := (h + (1 + 13))) E9 dX7_init_109 (by decide +kernel) rfl (by decide) (by rw [hsz] <;> omega) (Or.inr (by rw [hsz]; exact gMo_m2 (jG C) h 13 12 (by decide))) (by rw [gMo_K]; exact hTK 14 (by decide)) (by rw [gMo_N]; exact hTN 14 (by decide)) (pZ_of (hz 14 (by decide) (by decide)) rfl rfl (gMo_P (jG C) h (by omega) 13)) (by decide) (by decide) ?_
  refine n_putR (ci := 7) (k := 14) (Cn := RX7) (T := TX7) (N := 34) E9 hinit dX7_init_111 (pm_old _ (gMo_m (jG C) h hm 13)) (by show (gMo (jG C) h 13).2.1 h = 7; rw [gMo_K]; exact hTK 0 (by decide)) rfl (by decide) hinX7 (by decide +kernel) rfl tyX7 tyX7_ok nmX7 rfl rfl rfl rfl rfl ?_
  refine j_sh (G' := gMo (jG C) h 14) rfl ?_
  refine j_aload_n (E _) dX7_init_114 rfl rfl ?_
  refine j_iconst (v := 4) (E _) dX7_init_115 (by decide) ?_
  refine n_newaZ (N := 4) (q := (h + (1 + 14))) E9 dX7_init_116 (by decide +kernel) rfl (by decide) (by rw [hsz] <;> omega) (Or.inr (by rw [hsz]; exact gMo_m2 (jG C) h 14 13 (by decide))) (by rw [gMo_K]; exact hTK 15 (by decide)) (by rw [gMo_N]; exact hTN 15 (by decide)) (pZ_of (hz 15 (by decide) (by decide)) rfl rfl (gMo_P (jG C) h (by omega) 14)) (by decide) (by decide) ?_
  refine n_putR (ci := 7) (k := 15) (Cn := RX7) (T := TX7) (N := 34) E9 hinit dX7_init_118 (pm_old _ (gMo_m (jG C) h hm 14)) (by show (gMo (jG C) h 14).2.1 h = 7; rw [gMo_K]; exact hTK 0 (by decide)) rfl (by decide) hinX7 (by decide +kernel) rfl tyX7 tyX7_ok nmX7 rfl rfl rfl rfl rfl ?_
  refine j_sh (G' := gMo (jG C) h 15) rfl ?_
  refine j_aload_n (E _) dX7_init_121 rfl rfl ?_
  refine j_bipush (v := 120) (E _) dX7_init_122 (by decide) ?_
  refine n_newaI (N := 120) (q := (h + (1 + 15))) E9 dX7_init_124 (by decide +kernel) rfl (by decide) (by rw [hsz] <;> omega) (Or.inr (by rw [hsz]; exact gMo_m2 (jG C) h 15 14 (by decide))) (by rw [gMo_K]; exact hTK 16 (by decide)) (by rw [gMo_N]; exact hTN 16 (by decide)) (pZ_of (hz 16 (by decide) (by decide)) rfl rfl (gMo_P (jG C) h (by omega) 15)) (by decide) (by decide) ?_
  refine n_putR (ci := 7) (k := 17) (Cn := RX7) (T := TX7) (N := 34) E9 hinit dX7_init_126 (pm_old _ (gMo_m (jG C) h hm 15)) (by show (gMo (jG C) h 15).2.1 h = 7; rw [gMo_K]; exact hTK 0 (by decide)) rfl (by decide) hinX7 (by decide +kernel) rfl tyX7 tyX7_ok nmX7 rfl rfl rfl rfl rfl ?_
  refine j_sh (G' := gMo (jG C) h 16) rfl ?_
  refine j_aload_n (E _) dX7_init_129 rfl rfl ?_
  refine j_bipush (v := 6) (E _) dX7_init_130 (by decide) ?_
  refine n_newaI (N := 6) (q := (h + (1 + 16))) E9 dX7_init_132 (by decide +kernel) rfl (by decide) (by rw [hsz] <;> omega) (Or.inr (by rw [hsz]; exact gMo_m2 (jG C) h 16 15 (by decide))) (by rw [gMo_K]; exact hTK 17 (by decide)) (by rw [gMo_N]; exact hTN 17 (by decide)) (pZ_of (hz 17 (by decide) (by decide)) rfl rfl (gMo_P (jG C) h (by omega) 16)) (by decide) (by decide) ?_
  refine n_putR (ci := 7) (k := 18) (Cn := RX7) (T := TX7) (N := 34) E9 hinit dX7_init_134 (pm_old _ (gMo_m (jG C) h hm 16)) (by show (gMo (jG C) h 16).2.1 h = 7; rw [gMo_K]; exact hTK 0 (by decide)) rfl (by decide) hinX7 (by decide +kernel) rfl tyX7 tyX7_ok nmX7 rfl rfl rfl rfl rfl ?_
  refine j_sh (G' := gMo (jG C) h 17) rfl ?_
  refine j_aload_n (E _) dX7_init_137 rfl rfl ?_
  refine j_bipush (v := 6) (E _) dX7_init_138 (by decide) ?_
  refine n_newaI (N := 6) (q := (h + (1 + 17))) E9 dX7_init_140 (by decide +kernel) rfl (by decide) (by rw [hsz] <;> omega) (Or.inr (by rw [hsz]; exact gMo_m2 (jG C) h 17 16 (by decide))) (by rw [gMo_K]; exact hTK 18 (by decide)) (by rw [gMo_N]; exact hTN 18 (by decide)) (pZ_of (hz 18 (by decide) (by decide)) rfl rfl (gMo_P (jG C) h (by omega) 17)) (by decide) (by decide) ?_
  refine n_putR (ci := 7) (k := 19) (Cn := RX7) (T := TX7) (N := 34) E9 hinit dX7_init_142 (pm_old _ (gMo_m (jG C) h hm 17)) (by show (gMo (jG C) h 17).2.1 h = 7; rw [gMo_K]; exact hTK 0 (by decide)) rfl (by decide) hinX7 (by decide +kernel) rfl tyX7 tyX7_ok nmX7 rfl rfl rfl rfl rfl ?_
  refine j_sh (G' := gMo (jG C) h 18) rfl ?_
  refine j_aload_n (E _) dX7_init_145 rfl rfl ?_
  refine j_bipush (v := 6) (E _) dX7_init_146 (by decide) ?_
  refine n_newaI (N := 6) (q := (h + (1 + 18))) E9 dX7_init_148 (by decide +kernel) rfl (by decide) (by rw [hsz] <;> omega) (Or.inr (by rw [hsz]; exact gMo_m2 (jG C) h 18 17 (by decide))) (by rw [gMo_K]; exact hTK 19 (by decide)) (by rw [gMo_N]; exact hTN 19 (by decide)) (pZ_of (hz 19 (by decide) (by decide)) rfl rfl (gMo_P (jG C) h (by omega) 18)) (by decide) (by decide) ?_
  refine n_putR (ci := 7) (k := 20) (Cn := RX7) (T := TX7) (N := 34) E9 hinit dX7_init_150 (pm_old _ (gMo_m (jG C) h hm 18)) (by show (gMo (jG C) h 18).2.1 h = 7; rw [gMo_K]; exact hTK 0 (by decide)) rfl (by decide) hinX7 (by decide +kernel) rfl tyX7 tyX7_ok nmX7 rfl rfl rfl rfl rfl ?_
  refine j_sh (G' := gMo (jG C) h 19) rfl ?_
  refine j_aload_n (E _) dX7_init_153 rfl rfl ?_
  refine j_bipush (v := 6) (E _) dX7_init_154 (by decide) ?_
  refine n_newaI (N := 6) (q := (h + (1 + 19))) E9 dX7_init_156 (by decide +kernel) rfl (by decide) (by rw [hsz] <;> omega) (Or.inr (by rw [hsz]; exact gMo_m2 (jG C) h 19 18 (by decide))) (by rw [gMo_K]; exact hTK 20 (by decide)) (by rw [gMo_N]; exact hTN 20 (by decide)) (pZ_of (hz 20 (by decide) (by decide)) rfl rfl (gMo_P (jG C) h (by omega) 19)) (by decide) (by decide) ?_
  refine n_putR (ci := 7) (k := 21) (Cn := RX7) (T := TX7) (N := 34) E9 hinit dX7_init_158 (pm_old _ (gMo_m (jG C) h hm 19)) (by show (gMo (jG C) h 19).2.1 h = 7; rw [gMo_K]; exact hTK 0 (by decide)) rfl (by decide) hinX7 (by decide +kernel) rfl tyX7 tyX7_ok nmX7 rfl rfl rfl rfl rfl ?_
  refine j_sh (G' := gMo (jG C) h 20) rfl ?_
  refine j_aload_n (E _) dX7_init_161 rfl rfl ?_
  refine j_bipush (v := 6) (E _) dX7_init_162 (by decide) ?_
  refine n_newaZ (N := 6) (q := (h + (1 + 20))) E9 dX7_init_164 (by decide +kernel) rfl (by decide) (by rw [hsz] <;> omega) (Or.inr (by rw [hsz]; exact gMo_m2 (jG C) h 20 19 (by decide))) (by rw [gMo_K]; exact hTK 21 (by decide)) (by rw [gMo_N]; exact hTN 21 (by decide)) (pZ_of (hz 21 (by decide) (by decide)) rfl rfl (gMo_P (jG C) h (by omega) 20)) (by decide) (by decide) ?_
  refine n_putR (ci := 7) (k := 22) (Cn := RX7) (T := TX7) (N := 34) E9 hinit dX7_init_166 (pm_old _ (gMo_m (jG C) h hm 20)) (by show (gMo (jG C) h 20).2.1 h = 7; rw [gMo_K]; exact hTK 0 (by decide)) rfl (by decide) hinX7 (by decide +kernel) rfl tyX7 tyX7_ok nmX7 rfl rfl rfl rfl rfl ?_
  refine j_sh (G' := gMo (jG C) h 21) rfl ?_
  refine j_aload_n (E _) dX7_init_169 rfl rfl ?_
  refine j_bipush (v := 20) (E _) dX7_init_170 (by decide) ?_
  refine n_newaC (N := 20) (q := (h + (1 + 21))) E9 dX7_init_172 (by decide +kernel) rfl (by decide) (by rw [hsz] <;> omega) (Or.inr (by rw [hsz]; exact gMo_m2 (jG C) h 21 20 (by decide))) (by rw [gMo_K]; exact hTK 22 (by decide)) (by rw [gMo_N]; exact hTN 22 (by decide)) (pZ_of (hz 22 (by decide) (by decide)) rfl rfl (gMo_P (jG C) h (by omega) 21)) (by decide) (by decide) ?_
  refine n_putR (ci := 7) (k := 24) (Cn := RX7) (T := TX7) (N := 34) E9 hinit dX7_init_174 (pm_old _ (gMo_m (jG C) h hm 21)) (by show (gMo (jG C) h 21).2.1 h = 7; rw [gMo_K]; exact hTK 0 (by decide)) rfl (by decide) hinX7 (by decide +kernel) rfl tyX7 tyX7_ok nmX7 rfl rfl rfl rfl rfl ?_
  refine j_sh (G' := gMo (jG C) h 22) rfl ?_
  refine j_aload_n (E _) dX7_init_177 rfl rfl ?_
  refine j_bipush (v := 48) (E _) dX7_init_178 (by decide) ?_
  refine n_newaI (N := 48) (q := (h + (1 + 22))) E9 dX7_init_180 (by decide +kernel) rfl (by decide) (by rw [hsz] <;> omega) (Or.inr (by rw [hsz]; exact gMo_m2 (jG C) h 22 21 (by decide))) (by rw [gMo_K]; exact hTK 23 (by decide)) (by rw [gMo_N]; exact hTN 23 (by decide)) (pZ_of (hz 23 (by decide) (by decide)) rfl rfl (gMo_P (jG C) h (by omega) 22)) (by decide) (by decide) ?_
  refine n_putR (ci := 7) (k := 29) (Cn := RX7) (T := TX7) (N := 34) E9 hinit dX7_init_182 (pm_old _ (gMo_m (jG C) h hm 22)) (by show (gMo (jG C) h 22).2.1 h = 7; rw [gMo_K]; exact hTK 0 (by decide)) rfl (by decide) hinX7 (by decide +kernel) rfl tyX7 tyX7_ok nmX7 rfl rfl rfl rfl rfl ?_
  refine j_sh (G' := gMo (jG C) h 23) rfl ?_
  refine j_aload_n (E _) dX7_init_185 rfl rfl ?_
  refine j_bipush (v := 24) (E _) dX7_init_186 (by decide) ?_
  refine n_newaC (N := 24) (q := (h + (1 + 23))) E9 dX7_init_188 (by decide +kernel) rfl (by decide) (by rw [hsz] <;> omega) (Or.inr (by rw [hsz]; exact gMo_m2 (jG C) h 23 22 (by decide))) (by rw [gMo_K]; exact hTK 24 (by decide)) (by rw [gMo_N]; exact hTN 24 (by decide)) (pZ_of (hz 24 (by decide) (by decide)) rfl rfl (gMo_P (jG C) h (by omega) 23)) (by decide) (by decide) ?_
  refine n_putR (ci := 7) (k := 31) (Cn := RX7) (T := TX7) (N := 34) E9 hinit dX7_init_190 (pm_old _ (gMo_m (jG C) h hm 23)) (by show (gMo (jG C) h 23).2.1 h = 7; rw [gMo_K]; exact hTK 0 (by decide)) rfl (by decide) hinX7 (by decide +kernel) rfl tyX7 tyX7_ok nmX7 rfl rfl rfl rfl rfl ?_
  refine j_sh (G' := gMo (jG C) h 24) rfl ?_
  refine j_aload_n (E _) dX7_init_193 rfl rfl ?_
  refine j_bipush (v := 24) (E _) dX7_init_194 (by decide) ?_
  refine n_newaI (N := 24) (q := (h + (1 + 24))) E9 dX7_init_196 (by decide +kernel) rfl (by decide) (by rw [hsz] <;> omega) (Or.inr (by rw [hsz]; exact gMo_m2 (jG C) h 24 23 (by decide))) (by rw [gMo_K]; exact hTK 25 (by decide)) (by rw [gMo_N]; exact hTN 25 (by decide)) (pZ_of (hz 25 (by decide) (by decide)) rfl rfl (gMo_P (jG C) h (by omega) 24)) (by decide) (by decide) ?_
  refine n_putR (ci := 7) (k := 33) (Cn := RX7) (T := TX7) (N := 34) E9 hinit dX7_init_198 (pm_old _ (gMo_m (jG C) h hm 24)) (by show (gMo (jG C) h 24).2.1 h = 7; rw [gMo_K]; exact hTK 0 (by decide)) rfl (by decide) hinX7 (by decide +kernel) rfl tyX7 tyX7_ok nmX7 rfl rfl rfl rfl rfl ?_
  refine j_sh (G' := gMo (jG C) h 25) rfl ?_
  refine j_iconst (v := 0) (E _) dX7_init_201 (by decide) ?_
  refine j_istore_n (E _) dX7_init_202 rfl (by decide) ?_
  exact j_lv [0, 1] rfl (nl_X7_init_203 (G := gMo (jG C) h 25) E9 hinit hsz (gMo_m (jG C) h hm 25) (by rw [gMo_K]; exact hTK) (by rw [gMo_N]; exact hTN) (gMo_m2 (jG C) h 25 13 (by decide)) (gMo_s (jG C) h 25 (by decide) 13 (by decide)) 4 0 (by omega))
