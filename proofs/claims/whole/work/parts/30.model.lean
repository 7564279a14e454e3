/-! FirePanelModel: m 0 its address, m k the array in its slot k. -/
def wMt : Nat → Option (Nat × Nat)
  | 1 => some (10, 17)
  | 2 => some (10, 16)
  | 3 => some (10, 16)
  | 4 => some (9, 16)
  | 5 => some (9, 16)
  | 6 => some (9, 16)
  | 7 => some (9, 16)
  | 8 => some (10, 16)
  | 9 => some (11, 16)
  | 10 => some (10, 16)
  | 11 => some (11, 16)
  | 12 => some (11, 16)
  | 13 => some (11, 4)
  | 14 => some (10, 4)
  | 15 => some (11, 4)
  | 17 => some (10, 120)
  | 18 => some (10, 6)
  | 19 => some (10, 6)
  | 20 => some (10, 6)
  | 21 => some (10, 6)
  | 22 => some (11, 6)
  | 24 => some (8, 20)
  | 29 => some (10, 48)
  | 31 => some (8, 24)
  | 33 => some (10, 24)
  | _ => none
def wM (G : pG) (m : Nat → Nat) : Prop := m 0 ∈ G.1 ∧ G.2.1 (m 0) = 7 ∧ (∀ k kd n, wMt k = some (kd, n) → G.2.2.2 (m 0) k = some (m k) ∧ m k ∈ G.1 ∧ G.2.1 (m k) = kd ∧ G.2.2.1 (m k) = n) ∧ ∀ i j, i < 34 → j < 34 → m i = m j → i = j
theorem pI_m {m : Nat → Nat} (hinj : ∀ i j, i < 34 → j < 34 → m i = m j → i = j) (M : pM) (i j k x : Nat) (v : Int32) (hi : i < 34) (hj : j < 34) : (pI M (m i) k v).1 (m j) x = if j = i then (if x = k then v else M.1 (m j) x) else M.1 (m j) x := by
  by_cases h : j = i
  · subst h; rw [if_pos rfl, pI_rd]
  · rw [if_neg h, pI_1n M k v (fun e => h (hinj j i hj hi e))]
theorem pF_m {m : Nat → Nat} (hinj : ∀ i j, i < 34 → j < 34 → m i = m j → i = j) (M : pM) (i j k x : Nat) (v : UInt32) (hi : i < 34) (hj : j < 34) : (pF M (m i) k v).2 (m j) x = if j = i then (if x = k then v else M.2 (m j) x) else M.2 (m j) x := by
  by_cases h : j = i
  · subst h; rw [if_pos rfl, pF_rd]
  · rw [if_neg h, pF_2n M k v (fun e => h (hinj j i hj hi e))]
def mIn (v lo hi : Int32) : Int32 := if v < lo then 0 else if hi < v then 0 else 1
theorem mIn_01 (v lo hi : Int32) : mIn v lo hi = 0 ∨ mIn v lo hi = 1 := by unfold mIn; split; exact Or.inl rfl; split; exact Or.inl rfl; exact Or.inr rfl
def mOr (s w : Int32) : Int32 := if s = 0 then (if w = 2 then 1 else 0) else 1
def mAnd (l g : Int32) : Int32 := if l = 0 then 0 else if g = 0 then 0 else 1
def mSL (M : pM) (m : Nat → Nat) : Nat → Int32 → Int32
  | 0, s => s
  | k + 1, s => if M.1 (m 2) k = 4 then s else mSL M m k (mOr s (M.1 (m 1) k))
def mSR (M : pM) (m : Nat → Nat) : Nat → Nat → Int32 → Int32
  | 0, _, s => s
  | n + 1, k, s => if 16 ≤ nI k then s else if M.1 (m 2) k = 4 then s else mSR M m n (k + 1) (mOr s (M.1 (m 1) (k + 1)))
def mSS (M : pM) (m : Nat → Nat) (w : Nat) : Int32 := mSR M m (17 - w) w (mSL M m w (if M.1 (m 1) w = 2 then 1 else 0))
def mGo (M : pM) (m : Nat → Nat) (w : Nat) : Int32 := if M.1 (m 1) w = 1 then 0 else if mSS M m w = 0 then 1 else 0
def mRL (M : pM) (m : Nat → Nat) (p : Nat) : Nat → Nat → Int32 → Int32
  | 0, _, l => l
  | n + 1, k, l => if nI p < nI k then l else mRL M m p n (k + 1) (mAnd l (mGo M m k))
def mRR (M : pM) (m : Nat → Nat) : Nat → Nat → Int32 → Int32
  | 0, _, r => r
  | n + 1, k, r => mRR M m n (k + 1) (mAnd r (mGo M m k))
def mReach (M : pM) (m : Nat → Nat) (p : Nat) : Int32 := if mRL M m p (p + 2) 0 1 = 0 then (if mRR M m (17 - (p + 1)) (p + 1) 1 = 0 then 0 else 1) else 1
def mSens (M : pM) (m : Nat → Nat) (p : Nat) : Int32 := mIn (M.1 (m 2) p) 1 3
def mNt (m : Nat → Nat) : Nat → pM → pM
  | 0, M => M
  | j + 1, M => mNt m j (pI M (m 29) (j + 3) (M.1 (m 29) j))
theorem mNt_0 {m : Nat → Nat} (hinj : ∀ i j, i < 34 → j < 34 → m i = m j → i = j) : ∀ (j : Nat) (M : pM), (mNt m j M).1 (m 0) = M.1 (m 0)
  | 0, M => rfl
  | j + 1, M => by
    rw [mNt, mNt_0 hinj j, pI_1n _ _ _ (fun e => absurd (hinj 0 29 (by decide) (by decide) e) (by decide))]
def mNote (M : pM) (m : Nat → Nat) (u v : Int32) : pM := pI (pI (pI (pI (mNt m 45 M) (m 29) 0 u) (m 29) 1 v) (m 29) 2 (M.1 (m 0) 25)) (m 0) 28 (if 16 ≤ M.1 (m 0) 28 then 16 else M.1 (m 0) 28 + 1)
theorem nI_m3 (j : Nat) : nI (j + 3) - 3 = nI j := by
  have h := pk_sub (a := j + 3) (b := 3) (by omega)
  rw [show j + 3 - 3 = j by omega] at h
  exact h
def mFt (M : pM) (m : Nat → Nat) : Nat → Nat → Int32 → Int32
  | 0, _, c => c
  | n + 1, i, c => mFt M m n (i + 1) (if M.1 (m 11) i = 0 then c else c + 1)
def mMine (M : pM) (m : Nat → Nat) (z : Int32) (p : Nat) : Int32 := if mSens M m p = 0 then 0 else if M.1 (m 3) p = z then (if M.1 (m 12) p = 0 then 1 else 0) else 0
def mWn1 (M : pM) (m : Nat → Nat) (z : Int32) (p : Nat) (s : Int32) : Int32 := if s = 0 then (if mMine M m z p = 0 then 0 else if M.1 (m 9) p = 0 then (if M.1 (m 2) p = 1 then (if Op.cmpValue (FP.fcmp (M.2 (m 7) p) (FP.fmul (M.2 (m 4) p) 1061158912)) .l < 0 then 0 else 1) else 0) else 1) else 1
def mWn (M : pM) (m : Nat → Nat) (z : Int32) : Nat → Nat → Int32 → Int32
  | 0, _, s => s
  | n + 1, p, s => mWn M m z n (p + 1) (mWn1 M m z p s)

set_option maxHeartbeats 1600000 in
set_option maxRecDepth 100000 in
theorem k_X7_thrown {l : Launch} {D : va_G} {cy : Nat → ClassId} {X : va_W} {G : pG} {M : pM} {m : Nat → Nat} (hM : wM G m) : jK l yX7_thrown wsX7_thrown ({ frames := 0, cells := 0, slots := 0, locals := 0 } : Room) D cy X G M [.ref (m 0)] (some (.int (M.1 (m 0) 0))) X M := by
  refine jK_of (own := RX7) (by decide) rfl rfl (Nat.le_of_ble_eq_true rfl) (fun C E hl hD hcy hG => ?_)
  subst hl; subst hD; subst hcy; subst hG
  have hinX7 : ∀ w ∈ u_ws RX7 TX7 34, w ∈ wsX7_thrown := by decide +kernel
  have hM0 := hM
  obtain ⟨hm1, hm2, hmt, hinj⟩ := hM
  refine j_aload_n E dX7_thrown_0 rfl rfl ?_
  refine j_getI (ci := 7) (k := 0) (Cn := RX7) (T := TX7) (N := 34) E dX7_thrown_1 hm1 hm2 rfl (by decide) hinX7 (by decide +kernel) rfl ?_
  exact j_iret E dX7_thrown_4 (by rfl) rfl (by rfl)

set_option maxHeartbeats 1600000 in
set_option maxRecDepth 100000 in
theorem k_X7_in {l : Launch} {D : va_G} {cy : Nat → ClassId} {X : va_W} {G : pG} {M : pM} {v lo hi : Int32}  : jK l yX7_in wsX7_in ({ frames := 0, cells := 0, slots := 0, locals := 0 } : Room) D cy X G M [.int v, .int lo, .int hi] (some (.int (mIn v lo hi))) X M := by
  refine jK_of (own := RX7) (by decide) rfl rfl (Nat.le_of_ble_eq_true rfl) (fun C E hl hD hcy hG => ?_)
  subst hl; subst hD; subst hcy; subst hG
  refine j_iload_n E dX7_in_0 rfl rfl ?_
  refine j_iload_n E dX7_in_1 rfl rfl ?_
  refine j_icmp_lt (tgt := 14) E dX7_in_2 (by decide) (fun h2 => ?_) (fun h2 => ?_)
  · refine j_iconst (v := 0) E dX7_in_14 (by decide) ?_
    exact j_zret E dX7_in_15 rfl (by simp [mIn, h2]) rfl (by simp [mIn, h2])
  · refine j_iload_n E dX7_in_5 rfl rfl ?_
    refine j_iload_n E dX7_in_6 rfl rfl ?_
    refine j_icmp_gt (tgt := 14) E dX7_in_7 (by decide) (fun h7 => ?_) (fun h7 => ?_)
    · refine j_iconst (v := 0) E dX7_in_14 (by decide) ?_
      exact j_zret E dX7_in_15 rfl (by simp [mIn, h2, h7]) rfl (by simp [mIn, h2, h7])
    · refine j_iconst (v := 1) E dX7_in_10 (by decide) ?_
      refine j_goto (tgt := 15) E dX7_in_11 (by decide) ?_
      exact j_zret E dX7_in_15 rfl (by simp [mIn, h2, h7]) rfl (by simp [mIn, h2, h7])

set_option maxHeartbeats 1600000 in
set_option maxRecDepth 100000 in
theorem kl_X7_stretchShort_64 {C : jC} (E : jE C cX7_stretchShort 4 wsX7_stretchShort RX7 (some .boolean) ({ frames := 0, cells := 0, slots := 0, locals := 0 } : Room)) {X : va_W} {M : pM} {m : Nat → Nat} {w : Int32} (hM : wM (jG C) m) : ∀ (n k : Nat) (s : Int32), k ≤ 16 → k + n = 17 → (s = 0 ∨ s = 1) → jW C 4 64 [(0, .ref (m 0)), (1, .int w), (2, .int s), (3, .int (nI k))] [] X M 0 0 (jZ C X M (some (.int (mSR M m n k s))) 0 0) := by
  have hinX7 : ∀ w ∈ u_ws RX7 TX7 34, w ∈ wsX7_stretchShort := by decide +kernel
  have hM0 := hM
  obtain ⟨hm1, hm2, hmt, hinj⟩ := hM
  obtain ⟨mp1, ml1, mk1, mn1⟩ := hmt 1 10 17 rfl
  obtain ⟨mp2, ml2, mk2, mn2⟩ := hmt 2 10 16 rfl
  intro n
  induction n with
  | zero => intro k s h1 h2; omega
  | succ n ih =>
    intro k s hk hn hs
    refine j_iload_n E dX7_stretchShort_64 rfl rfl ?_
    refine j_bipush (v := 16) E dX7_stretchShort_65 (by decide) ?_
    refine j_icmp_ge (tgt := 108) E dX7_stretchShort_67 (by decide) (fun h67 => ?_) (fun h67 => ?_)
    · refine j_iload_n E dX7_stretchShort_108 rfl rfl ?_
      exact j_zret E dX7_stretchShort_109 (nz01 hs) (by first | rfl | (simp [mSR, h67]; done)) rfl (by first | rfl | (simp [mSR, h67]; done))
    · have hk16 : k < 16 := lt_of_nge (n := 16) h67 (by omega)
      refine j_aload_n E dX7_stretchShort_70 rfl rfl ?_
      refine j_getP (ci := 7) (k := 2) (Cn := RX7) (T := TX7) (N := 34) E dX7_stretchShort_71 hm1 hm2 rfl (by decide) hinX7 (by decide +kernel) rfl mp2 ?_
      refine j_iload_n E dX7_stretchShort_74 rfl rfl ?_
      refine j_iald E dX7_stretchShort_75 ml2 mn2 rfl hk16 (by decide) mk2 ?_
      refine j_iconst (v := 4) E dX7_stretchShort_76 (by decide) ?_
      refine j_icmp_eq (tgt := 108) E dX7_stretchShort_77 (by decide) (fun h77 => ?_) (fun h77 => ?_)
      · refine j_iload_n E dX7_stretchShort_108 rfl rfl ?_
        exact j_zret E dX7_stretchShort_109 (nz01 hs) (by first | rfl | (simp [mSR, h67, h77]; done)) rfl (by first | rfl | (simp [mSR, h67, h77]; done))
      · refine j_iload_n E dX7_stretchShort_80 rfl rfl ?_
        refine j_if_ne (tgt := 96) E dX7_stretchShort_81 (by decide) (fun h81 => ?_) (fun h81 => ?_)
        · refine j_iconst (v := 1) E dX7_stretchShort_96 (by decide) ?_
          refine j_goto (tgt := 101) E dX7_stretchShort_97 (by decide) ?_
          refine j_istore_n E dX7_stretchShort_101 rfl (by decide) ?_
          refine j_iinc E dX7_stretchShort_102 rfl (by decide) ?_
          refine j_goto (tgt := 64) E dX7_stretchShort_105 (by decide) ?_
          exact j_lv [0, 1, 2, 3] rfl (by rw [nI_inc]; exact j_r (by simp [mSR, mOr, h67, h77, h81]) rfl (ih (k + 1) _ (by omega) (by omega) (by simp)))
        · refine j_aload_n E dX7_stretchShort_84 rfl rfl ?_
          refine j_getP (ci := 7) (k := 1) (Cn := RX7) (T := TX7) (N := 34) E dX7_stretchShort_85 hm1 hm2 rfl (by decide) hinX7 (by decide +kernel) rfl mp1 ?_
          refine j_iload_n E dX7_stretchShort_88 rfl rfl ?_
          refine j_iconst (v := 1) E dX7_stretchShort_89 (by decide) ?_
          refine j_iadd E dX7_stretchShort_90 ?_
          refine j_iald E dX7_stretchShort_91 ml1 mn1 (nI_1 k) (by omega) (by decide) mk1 ?_
          refine j_iconst (v := 2) E dX7_stretchShort_92 (by decide) ?_
          refine j_icmp_ne (tgt := 100) E dX7_stretchShort_93 (by decide) (fun h93 => ?_) (fun h93 => ?_)
          · refine j_iconst (v := 0) E dX7_stretchShort_100 (by decide) ?_
            refine j_istore_n E dX7_stretchShort_101 rfl (by decide) ?_
            refine j_iinc E dX7_stretchShort_102 rfl (by decide) ?_
            refine j_goto (tgt := 64) E dX7_stretchShort_105 (by decide) ?_
            exact j_lv [0, 1, 2, 3] rfl (by rw [nI_inc]; exact j_r (by simp [mSR, mOr, h67, h77, h81, h93]) rfl (ih (k + 1) _ (by omega) (by omega) (by simp)))
          · refine j_iconst (v := 1) E dX7_stretchShort_96 (by decide) ?_
            refine j_goto (tgt := 101) E dX7_stretchShort_97 (by decide) ?_
            refine j_istore_n E dX7_stretchShort_101 rfl (by decide) ?_
            refine j_iinc E dX7_stretchShort_102 rfl (by decide) ?_
            refine j_goto (tgt := 64) E dX7_stretchShort_105 (by decide) ?_
            exact j_lv [0, 1, 2, 3] rfl (by rw [nI_inc]; exact j_r (by simp [mSR, mOr, h67, h77, h81, h93]) rfl (ih (k + 1) _ (by omega) (by omega) (by simp)))

set_option maxHeartbeats 1600000 in
set_option maxRecDepth 100000 in
theorem kl_X7_stretchShort_18 {C : jC} (E : jE C cX7_stretchShort 4 wsX7_stretchShort RX7 (some .boolean) ({ frames := 0, cells := 0, slots := 0, locals := 0 } : Room)) {X : va_W} {M : pM} {m : Nat → Nat} {w : Nat} (hM : wM (jG C) m) (hw : w ≤ 16) : ∀ (k : Nat) (s : Int32), k ≤ w → (s = 0 ∨ s = 1) → jW C 4 18 [(0, .ref (m 0)), (1, .int (nI w)), (2, .int s), (3, .int (nI k))] [] X M 0 0 (jZ C X M (some (.int (mSR M m (17 - w) w (mSL M m k s)))) 0 0) := by
  have hinX7 : ∀ w ∈ u_ws RX7 TX7 34, w ∈ wsX7_stretchShort := by decide +kernel
  have hM0 := hM
  obtain ⟨hm1, hm2, hmt, hinj⟩ := hM
  obtain ⟨mp1, ml1, mk1, mn1⟩ := hmt 1 10 17 rfl
  obtain ⟨mp2, ml2, mk2, mn2⟩ := hmt 2 10 16 rfl
  have hsl : ∀ (k : Nat) (s : Int32), (s = 0 ∨ s = 1) → (mSL M m k s = 0 ∨ mSL M m k s = 1) := by
    intro k
    induction k with
    | zero => intro s h; exact h
    | succ k ih =>
      intro s h
      unfold mSL
      split
      · exact h
      · exact ih _ (by unfold mOr; split; split; exact Or.inr rfl; exact Or.inl rfl; exact Or.inr rfl)
  intro k
  induction k with
  | zero =>
    intro s hk hs
    refine j_iload_n E dX7_stretchShort_18 rfl rfl ?_
    refine j_if_le (tgt := 62) E dX7_stretchShort_19 (by decide) (fun h => ?_) (fun h => absurd (by decide) h)
    refine j_iload_n E dX7_stretchShort_62 rfl rfl ?_
    refine j_istore_n E dX7_stretchShort_63 rfl (by decide) ?_
    exact j_lv [0, 1, 2, 3] rfl (j_r (by simp [mSL, true_and]) rfl (kl_X7_stretchShort_64 E hM0 (17 - w) w _ hw (by omega) hs))
  | succ k ih =>
    intro s hk hs
    refine j_iload_n E dX7_stretchShort_18 rfl rfl ?_
    refine j_if_le (tgt := 62) E dX7_stretchShort_19 (by decide) (fun h19 => ?_) (fun h19 => ?_)
    · exact absurd h19 (nI_nle (by omega) (by omega))
    · refine j_aload_n E dX7_stretchShort_22 rfl rfl ?_
      refine j_getP (ci := 7) (k := 2) (Cn := RX7) (T := TX7) (N := 34) E dX7_stretchShort_23 hm1 hm2 rfl (by decide) hinX7 (by decide +kernel) rfl mp2 ?_
      refine j_iload_n E dX7_stretchShort_26 rfl rfl ?_
      refine j_iconst (v := 1) E dX7_stretchShort_27 (by decide) ?_
      refine j_isub E dX7_stretchShort_28 ?_
      refine j_iald E dX7_stretchShort_29 ml2 mn2 (nI_pred k) (by omega) (by decide) mk2 ?_
      refine j_iconst (v := 4) E dX7_stretchShort_30 (by decide) ?_
      refine j_icmp_eq (tgt := 62) E dX7_stretchShort_31 (by decide) (fun h31 => ?_) (fun h31 => ?_)
      · refine j_iload_n E dX7_stretchShort_62 rfl rfl ?_
        refine j_istore_n E dX7_stretchShort_63 rfl (by decide) ?_
        exact j_lv [0, 1, 2, 3] rfl (j_r (by simp [mSL, h19, h31]) rfl (kl_X7_stretchShort_64 E hM0 (17 - w) w _ hw (by omega) hs))
      · refine j_iload_n E dX7_stretchShort_34 rfl rfl ?_
        refine j_if_ne (tgt := 50) E dX7_stretchShort_35 (by decide) (fun h35 => ?_) (fun h35 => ?_)
        · refine j_iconst (v := 1) E dX7_stretchShort_50 (by decide) ?_
          refine j_goto (tgt := 55) E dX7_stretchShort_51 (by decide) ?_
          refine j_istore_n E dX7_stretchShort_55 rfl (by decide) ?_
          refine j_iinc E dX7_stretchShort_56 rfl (by decide) ?_
          refine j_goto (tgt := 18) E dX7_stretchShort_59 (by decide) ?_
          exact j_lv [0, 1, 2, 3] rfl (by rw [show nI (k + 1) + Int32.ofInt (-1) = nI k from pk_m1 k]; exact j_r (by simp [mSL, mOr, h19, h31, h35]) rfl (ih _ (by omega) (by simp)))
        · refine j_aload_n E dX7_stretchShort_38 rfl rfl ?_
          refine j_getP (ci := 7) (k := 1) (Cn := RX7) (T := TX7) (N := 34) E dX7_stretchShort_39 hm1 hm2 rfl (by decide) hinX7 (by decide +kernel) rfl mp1 ?_
          refine j_iload_n E dX7_stretchShort_42 rfl rfl ?_
          refine j_iconst (v := 1) E dX7_stretchShort_43 (by decide) ?_
          refine j_isub E dX7_stretchShort_44 ?_
          refine j_iald E dX7_stretchShort_45 ml1 mn1 (nI_pred k) (by omega) (by decide) mk1 ?_
          refine j_iconst (v := 2) E dX7_stretchShort_46 (by decide) ?_
          refine j_icmp_ne (tgt := 54) E dX7_stretchShort_47 (by decide) (fun h47 => ?_) (fun h47 => ?_)
          · refine j_iconst (v := 0) E dX7_stretchShort_54 (by decide) ?_
            refine j_istore_n E dX7_stretchShort_55 rfl (by decide) ?_
            refine j_iinc E dX7_stretchShort_56 rfl (by decide) ?_
            refine j_goto (tgt := 18) E dX7_stretchShort_59 (by decide) ?_
            exact j_lv [0, 1, 2, 3] rfl (by rw [show nI (k + 1) + Int32.ofInt (-1) = nI k from pk_m1 k]; exact j_r (by simp [mSL, mOr, h19, h31, h35, h47]) rfl (ih _ (by omega) (by simp)))
          · refine j_iconst (v := 1) E dX7_stretchShort_50 (by decide) ?_
            refine j_goto (tgt := 55) E dX7_stretchShort_51 (by decide) ?_
            refine j_istore_n E dX7_stretchShort_55 rfl (by decide) ?_
            refine j_iinc E dX7_stretchShort_56 rfl (by decide) ?_
            refine j_goto (tgt := 18) E dX7_stretchShort_59 (by decide) ?_
            exact j_lv [0, 1, 2, 3] rfl (by rw [show nI (k + 1) + Int32.ofInt (-1) = nI k from pk_m1 k]; exact j_r (by simp [mSL, mOr, h19, h31, h35, h47]) rfl (ih _ (by omega) (by simp)))

set_option maxHeartbeats 1600000 in
set_option maxRecDepth 100000 in
theorem k_X7_stretchShort {l : Launch} {D : va_G} {cy : Nat → ClassId} {X : va_W} {G : pG} {M : pM} {m : Nat → Nat} {w : Nat} (hM : wM G m) (hw : w < 17) : jK l yX7_stretchShort wsX7_stretchShort ({ frames := 0, cells := 0, slots := 0, locals := 0 } : Room) D cy X G M [.ref (m 0), .int (nI w)] (some (.int (mSS M m w))) X M := by
  refine jK_of (own := RX7) (by decide) rfl rfl (Nat.le_of_ble_eq_true rfl) (fun C E hl hD hcy hG => ?_)
  subst hl; subst hD; subst hcy; subst hG
  have hinX7 : ∀ w ∈ u_ws RX7 TX7 34, w ∈ wsX7_stretchShort := by decide +kernel
  have hM0 := hM
  obtain ⟨hm1, hm2, hmt, hinj⟩ := hM
  obtain ⟨mp1, ml1, mk1, mn1⟩ := hmt 1 10 17 rfl
  obtain ⟨mp2, ml2, mk2, mn2⟩ := hmt 2 10 16 rfl
  refine j_aload_n E dX7_stretchShort_0 rfl rfl ?_
  refine j_getP (ci := 7) (k := 1) (Cn := RX7) (T := TX7) (N := 34) E dX7_stretchShort_1 hm1 hm2 rfl (by decide) hinX7 (by decide +kernel) rfl mp1 ?_
  refine j_iload_n E dX7_stretchShort_4 rfl rfl ?_
  refine j_iald E dX7_stretchShort_5 ml1 mn1 rfl hw (by decide) mk1 ?_
  refine j_iconst (v := 2) E dX7_stretchShort_6 (by decide) ?_
  refine j_icmp_ne (tgt := 14) E dX7_stretchShort_7 (by decide) (fun h7 => ?_) (fun h7 => ?_)
  · refine j_iconst (v := 0) E dX7_stretchShort_14 (by decide) ?_
    refine j_istore_n E dX7_stretchShort_15 rfl (by decide) ?_
    refine j_iload_n E dX7_stretchShort_16 rfl rfl ?_
    refine j_istore_n E dX7_stretchShort_17 rfl (by decide) ?_
    exact j_lv [0, 1, 2, 3] rfl (j_r (by simp [mSS, h7]) rfl (kl_X7_stretchShort_18 E hM0 (by omega) w _ (Nat.le_refl w) (by simp)))
  · refine j_iconst (v := 1) E dX7_stretchShort_10 (by decide) ?_
    refine j_goto (tgt := 15) E dX7_stretchShort_11 (by decide) ?_
    refine j_istore_n E dX7_stretchShort_15 rfl (by decide) ?_
    refine j_iload_n E dX7_stretchShort_16 rfl rfl ?_
    refine j_istore_n E dX7_stretchShort_17 rfl (by decide) ?_
    exact j_lv [0, 1, 2, 3] rfl (j_r (by simp [mSS, h7]) rfl (kl_X7_stretchShort_18 E hM0 (by omega) w _ (Nat.le_refl w) (by simp)))

set_option maxHeartbeats 1600000 in
set_option maxRecDepth 100000 in
theorem k_X7_goes {l : Launch} {D : va_G} {cy : Nat → ClassId} {X : va_W} {G : pG} {M : pM} {m : Nat → Nat} {w : Nat} (hM : wM G m) (hw : w < 17) : jK l yX7_goes wsX7_goes ({ frames := 1, cells := 0, slots := 0, locals := 23 } : Room) D cy X G M [.ref (m 0), .int (nI w)] (some (.int (mGo M m w))) X M := by
  refine jK_of (own := RX7) (by decide) rfl rfl (Nat.le_of_ble_eq_true rfl) (fun C E hl hD hcy hG => ?_)
  subst hl; subst hD; subst hcy; subst hG
  have hinX7 : ∀ w ∈ u_ws RX7 TX7 34, w ∈ wsX7_goes := by decide +kernel
  have hM0 := hM
  obtain ⟨hm1, hm2, hmt, hinj⟩ := hM
  obtain ⟨mp1, ml1, mk1, mn1⟩ := hmt 1 10 17 rfl
  refine j_aload_n E dX7_goes_0 rfl rfl ?_
  refine j_getP (ci := 7) (k := 1) (Cn := RX7) (T := TX7) (N := 34) E dX7_goes_1 hm1 hm2 rfl (by decide) hinX7 (by decide +kernel) rfl mp1 ?_
  refine j_iload_n E dX7_goes_4 rfl rfl ?_
  refine j_iald E dX7_goes_5 ml1 mn1 rfl hw (by decide) mk1 ?_
  refine j_iconst (v := 1) E dX7_goes_6 (by decide) ?_
  refine j_icmp_eq (tgt := 22) E dX7_goes_7 (by decide) (fun h7 => ?_) (fun h7 => ?_)
  · refine j_iconst (v := 0) E dX7_goes_22 (by decide) ?_
    exact j_zret E dX7_goes_23 rfl (by simp [mGo, h7]) rfl (by simp [mGo, h7])
  · refine j_aload_n E dX7_goes_10 rfl rfl ?_
    refine j_iload_n E dX7_goes_11 rfl rfl ?_
    refine j_callV1 (ci := 7) (n := 1) E (k_X7_stretchShort hM0 hw) dX7_goes_12 gX7_goes_X7_stretchShort rfl (by decide +kernel) ⟨rfl, rfl, by decide, by decide⟩ ⟨Nat.zero_le _, Nat.zero_le _⟩ hm1 hm2 rfl rfl rfl (Nat.le_of_ble_eq_true rfl) rfl ?_
    refine j_if_ne (tgt := 22) E dX7_goes_15 (by decide) (fun h15 => ?_) (fun h15 => ?_)
    · refine j_iconst (v := 0) E dX7_goes_22 (by decide) ?_
      exact j_zret E dX7_goes_23 rfl (by simp [mGo, h7, h15]) rfl (by simp [mGo, h7, h15])
    · refine j_iconst (v := 1) E dX7_goes_18 (by decide) ?_
      refine j_goto (tgt := 23) E dX7_goes_19 (by decide) ?_
      exact j_zret E dX7_goes_23 rfl (by simp [mGo, h7, h15]) rfl (by simp [mGo, h7, h15])

set_option maxHeartbeats 1600000 in
set_option maxRecDepth 100000 in
theorem kl_X7_reached_40 {C : jC} (E : jE C cX7_reached 5 wsX7_reached RX7 (some .boolean) ({ frames := 2, cells := 0, slots := 0, locals := 44 } : Room)) {X : va_W} {M : pM} {m : Nat → Nat} {p : Nat} {l : Int32} (hM : wM (jG C) m) : ∀ (n k : Nat) (r : Int32), k + n = 17 → jW C 5 40 [(0, .ref (m 0)), (1, .int (nI p)), (2, .int l), (3, .int r), (4, .int (nI k))] [] X M 0 0 (jZ C X M (some (.int (if l = 0 then (if mRR M m n k r = 0 then 0 else 1) else 1))) 0 0) := by

  have hM0 := hM
  obtain ⟨hm1, hm2, hmt, hinj⟩ := hM
  intro n
  induction n with
  | zero =>
    intro k r hn
    obtain rfl : k = 17 := by omega
    refine j_iload E dX7_reached_40 rfl ?_
    refine j_bipush (v := 17) E dX7_reached_42 (by decide) ?_
    refine j_icmp_ge (tgt := 72) E dX7_reached_44 (by decide) (fun h => ?_) (fun h => absurd (by decide) h)
    refine j_iload_n E dX7_reached_72 rfl rfl ?_
    refine j_if_ne (tgt := 80) E dX7_reached_73 (by decide) (fun h73 => ?_) (fun h73 => ?_)
    · refine j_iconst (v := 1) E dX7_reached_80 (by decide) ?_
      refine j_goto (tgt := 85) E dX7_reached_81 (by decide) ?_
      exact j_zret E dX7_reached_85 rfl (by simp [mRR, h73]) rfl (by simp [mRR, h73])
    · refine j_iload_n E dX7_reached_76 rfl rfl ?_
      refine j_if_eq (tgt := 84) E dX7_reached_77 (by decide) (fun h77 => ?_) (fun h77 => ?_)
      · refine j_iconst (v := 0) E dX7_reached_84 (by decide) ?_
        exact j_zret E dX7_reached_85 rfl (by simp [mRR, h73, h77]) rfl (by simp [mRR, h73, h77])
      · refine j_iconst (v := 1) E dX7_reached_80 (by decide) ?_
        refine j_goto (tgt := 85) E dX7_reached_81 (by decide) ?_
        exact j_zret E dX7_reached_85 rfl (by simp [mRR, h73, h77]) rfl (by simp [mRR, h73, h77])
  | succ n ih =>
    intro k r hn
    have hk : k < 17 := by omega
    refine j_iload E dX7_reached_40 rfl ?_
    refine j_bipush (v := 17) E dX7_reached_42 (by decide) ?_
    refine j_icmp_ge (tgt := 72) E dX7_reached_44 (by decide) (fun h44 => ?_) (fun h44 => ?_)
    · exact absurd h44 (nI_ge (b := 17) hk (by decide))
    · refine j_iload_n E dX7_reached_47 rfl rfl ?_
      refine j_if_eq (tgt := 64) E dX7_reached_48 (by decide) (fun h48 => ?_) (fun h48 => ?_)
      · refine j_iconst (v := 0) E dX7_reached_64 (by decide) ?_
        refine j_istore_n E dX7_reached_65 rfl (by decide) ?_
        refine j_iinc E dX7_reached_66 rfl (by decide) ?_
        refine j_goto (tgt := 40) E dX7_reached_69 (by decide) ?_
        exact j_lv [0, 1, 2, 3, 4] rfl (by rw [nI_inc]; exact j_r (by simp [mRR, mAnd, h44, h48]) rfl (ih (k + 1) _ (by omega)))
      · refine j_aload_n E dX7_reached_51 rfl rfl ?_
        refine j_iload E dX7_reached_52 rfl ?_
        refine j_callV1 (ci := 7) (n := 1) E (k_X7_goes hM0 hk) dX7_reached_54 gX7_reached_X7_goes rfl (by decide +kernel) ⟨rfl, rfl, by decide, by decide⟩ ⟨Nat.zero_le _, Nat.zero_le _⟩ hm1 hm2 rfl rfl rfl (Nat.le_of_ble_eq_true rfl) rfl ?_
        refine j_if_eq (tgt := 64) E dX7_reached_57 (by decide) (fun h57 => ?_) (fun h57 => ?_)
        · refine j_iconst (v := 0) E dX7_reached_64 (by decide) ?_
          refine j_istore_n E dX7_reached_65 rfl (by decide) ?_
          refine j_iinc E dX7_reached_66 rfl (by decide) ?_
          refine j_goto (tgt := 40) E dX7_reached_69 (by decide) ?_
          exact j_lv [0, 1, 2, 3, 4] rfl (by rw [nI_inc]; exact j_r (by simp [mRR, mAnd, h44, h48, h57]) rfl (ih (k + 1) _ (by omega)))
        · refine j_iconst (v := 1) E dX7_reached_60 (by decide) ?_
          refine j_goto (tgt := 65) E dX7_reached_61 (by decide) ?_
          refine j_istore_n E dX7_reached_65 rfl (by decide) ?_
          refine j_iinc E dX7_reached_66 rfl (by decide) ?_
          refine j_goto (tgt := 40) E dX7_reached_69 (by decide) ?_
          exact j_lv [0, 1, 2, 3, 4] rfl (by rw [nI_inc]; exact j_r (by simp [mRR, mAnd, h44, h48, h57]) rfl (ih (k + 1) _ (by omega)))

set_option maxHeartbeats 1600000 in
set_option maxRecDepth 100000 in
theorem kl_X7_reached_4 {C : jC} (E : jE C cX7_reached 5 wsX7_reached RX7 (some .boolean) ({ frames := 2, cells := 0, slots := 0, locals := 44 } : Room)) {X : va_W} {M : pM} {m : Nat → Nat} {p : Nat} (hM : wM (jG C) m) (hp : p < 16) : ∀ (n k : Nat) (l : Int32), k ≤ p + 1 → k + n = p + 2 → jW C 5 4 [(0, .ref (m 0)), (1, .int (nI p)), (2, .int l), (3, .int (nI k))] [] X M 0 0 (jZ C X M (some (.int (if mRL M m p n k l = 0 then (if mRR M m (17 - (p + 1)) (p + 1) 1 = 0 then 0 else 1) else 1))) 0 0) := by

  have hM0 := hM
  obtain ⟨hm1, hm2, hmt, hinj⟩ := hM
  intro n
  induction n with
  | zero => intro k l h1 h2; omega
  | succ n ih =>
    intro k l hk hn
    refine j_iload_n E dX7_reached_4 rfl rfl ?_
    refine j_iload_n E dX7_reached_5 rfl rfl ?_
    refine j_icmp_gt (tgt := 33) E dX7_reached_6 (by decide) (fun h6 => ?_) (fun h6 => ?_)
    · refine j_iconst (v := 1) E dX7_reached_33 (by decide) ?_
      refine j_istore_n E dX7_reached_34 rfl (by decide) ?_
      refine j_iload_n E dX7_reached_35 rfl rfl ?_
      refine j_iconst (v := 1) E dX7_reached_36 (by decide) ?_
      refine j_iadd E dX7_reached_37 ?_
      refine j_istore E dX7_reached_38 (by decide) ?_
      exact j_lv [0, 1, 2, 3, 4] rfl (by rw [show nI p + 1 = nI (p + 1) from nI_1 p]; exact j_r (by simp [mRL, h6]) rfl (kl_X7_reached_40 E hM0 (17 - (p + 1)) (p + 1) 1 (by omega)))
    · have hkp : k ≤ p := by
        rcases Nat.lt_or_ge p k with q | q
        · exact absurd (nI_lt q (by omega)) h6
        · exact q
      refine j_iload_n E dX7_reached_9 rfl rfl ?_
      refine j_if_eq (tgt := 25) E dX7_reached_10 (by decide) (fun h10 => ?_) (fun h10 => ?_)
      · refine j_iconst (v := 0) E dX7_reached_25 (by decide) ?_
        refine j_istore_n E dX7_reached_26 rfl (by decide) ?_
        refine j_iinc E dX7_reached_27 rfl (by decide) ?_
        refine j_goto (tgt := 4) E dX7_reached_30 (by decide) ?_
        exact j_lv [0, 1, 2, 3] rfl (by rw [nI_inc]; exact j_r (by simp [mRL, mAnd, h6, h10]) rfl (ih (k + 1) _ (by omega) (by omega)))
      · refine j_aload_n E dX7_reached_13 rfl rfl ?_
        refine j_iload_n E dX7_reached_14 rfl rfl ?_
        refine j_callV1 (ci := 7) (n := 1) E (k_X7_goes hM0 (by omega)) dX7_reached_15 gX7_reached_X7_goes rfl (by decide +kernel) ⟨rfl, rfl, by decide, by decide⟩ ⟨Nat.zero_le _, Nat.zero_le _⟩ hm1 hm2 rfl rfl rfl (Nat.le_of_ble_eq_true rfl) rfl ?_
        refine j_if_eq (tgt := 25) E dX7_reached_18 (by decide) (fun h18 => ?_) (fun h18 => ?_)
        · refine j_iconst (v := 0) E dX7_reached_25 (by decide) ?_
          refine j_istore_n E dX7_reached_26 rfl (by decide) ?_
          refine j_iinc E dX7_reached_27 rfl (by decide) ?_
          refine j_goto (tgt := 4) E dX7_reached_30 (by decide) ?_
          exact j_lv [0, 1, 2, 3] rfl (by rw [nI_inc]; exact j_r (by simp [mRL, mAnd, h6, h10, h18]) rfl (ih (k + 1) _ (by omega) (by omega)))
        · refine j_iconst (v := 1) E dX7_reached_21 (by decide) ?_
          refine j_goto (tgt := 26) E dX7_reached_22 (by decide) ?_
          refine j_istore_n E dX7_reached_26 rfl (by decide) ?_
          refine j_iinc E dX7_reached_27 rfl (by decide) ?_
          refine j_goto (tgt := 4) E dX7_reached_30 (by decide) ?_
          exact j_lv [0, 1, 2, 3] rfl (by rw [nI_inc]; exact j_r (by simp [mRL, mAnd, h6, h10, h18]) rfl (ih (k + 1) _ (by omega) (by omega)))

set_option maxHeartbeats 1600000 in
set_option maxRecDepth 100000 in
theorem k_X7_reached {l : Launch} {D : va_G} {cy : Nat → ClassId} {X : va_W} {G : pG} {M : pM} {m : Nat → Nat} {p : Nat} (hM : wM G m) (hp : p < 16) : jK l yX7_reached wsX7_reached ({ frames := 2, cells := 0, slots := 0, locals := 44 } : Room) D cy X G M [.ref (m 0), .int (nI p)] (some (.int (mReach M m p))) X M := by
  refine jK_of (own := RX7) (by decide) rfl rfl (Nat.le_of_ble_eq_true rfl) (fun C E hl hD hcy hG => ?_)
  subst hl; subst hD; subst hcy; subst hG

  have hM0 := hM
  obtain ⟨hm1, hm2, hmt, hinj⟩ := hM
  refine j_iconst (v := 1) E dX7_reached_0 (by decide) ?_
  refine j_istore_n E dX7_reached_1 rfl (by decide) ?_
  refine j_iconst (v := 0) E dX7_reached_2 (by decide) ?_
  refine j_istore_n E dX7_reached_3 rfl (by decide) ?_
  exact j_lv [0, 1, 2, 3] rfl (kl_X7_reached_4 E hM0 hp (p + 2) 0 1 (by omega) (by omega))

set_option maxHeartbeats 1600000 in
set_option maxRecDepth 100000 in
theorem k_X7_isSensor {l : Launch} {D : va_G} {cy : Nat → ClassId} {X : va_W} {G : pG} {M : pM} {m : Nat → Nat} {p : Nat} (hM : wM G m) (hp : p < 16) : jK l yX7_isSensor wsX7_isSensor ({ frames := 1, cells := 0, slots := 0, locals := 22 } : Room) D cy X G M [.ref (m 0), .int (nI p)] (some (.int (mSens M m p))) X M := by
  refine jK_of (own := RX7) (by decide) rfl rfl (Nat.le_of_ble_eq_true rfl) (fun C E hl hD hcy hG => ?_)
  subst hl; subst hD; subst hcy; subst hG
  have hinX7 : ∀ w ∈ u_ws RX7 TX7 34, w ∈ wsX7_isSensor := by decide +kernel
  have hM0 := hM
  obtain ⟨hm1, hm2, hmt, hinj⟩ := hM
  obtain ⟨mp2, ml2, mk2, mn2⟩ := hmt 2 10 16 rfl
  refine j_aload_n E dX7_isSensor_0 rfl rfl ?_
  refine j_getP (ci := 7) (k := 2) (Cn := RX7) (T := TX7) (N := 34) E dX7_isSensor_1 hm1 hm2 rfl (by decide) hinX7 (by decide +kernel) rfl mp2 ?_
  refine j_iload_n E dX7_isSensor_4 rfl rfl ?_
  refine j_iald E dX7_isSensor_5 ml2 mn2 rfl hp (by decide) mk2 ?_
  refine j_iconst (v := 1) E dX7_isSensor_6 (by decide) ?_
  refine j_iconst (v := 3) E dX7_isSensor_7 (by decide) ?_
  refine j_callS1 (n := 3) E (k_X7_in ) dX7_isSensor_8 gX7_isSensor_X7_in rfl (by decide +kernel) ⟨rfl, rfl, by decide, by decide⟩ ⟨Nat.zero_le _, Nat.zero_le _⟩ rfl rfl (Nat.le_of_ble_eq_true rfl) rfl ?_
  exact j_zret E dX7_isSensor_11 (nz01 (mIn_01 _ _ _)) (by rfl) rfl (by rfl)

set_option maxHeartbeats 1600000 in
set_option maxRecDepth 100000 in
theorem kl_X7_note_3 {C : jC} (E : jE C cX7_note 4 wsX7_note RX7 none ({ frames := 0, cells := 0, slots := 0, locals := 0 } : Room)) {X : va_W} {m : Nat → Nat} {u v : Int32} (hM : wM (jG C) m) : ∀ (j : Nat) (M : pM), j ≤ 45 → jW C 4 3 [(0, .ref (m 0)), (1, .int u), (2, .int v), (3, .int (nI (j + 2)))] [] X M 0 0 (jZ C X (pI (pI (pI (pI (mNt m j M) (m 29) 0 u) (m 29) 1 v) (m 29) 2 (M.1 (m 0) 25)) (m 0) 28 (if 16 ≤ M.1 (m 0) 28 then 16 else M.1 (m 0) 28 + 1)) none 0 0) := by
  have hinX7 : ∀ w ∈ u_ws RX7 TX7 34, w ∈ wsX7_note := by decide +kernel
  have hM0 := hM
  obtain ⟨hm1, hm2, hmt, hinj⟩ := hM
  obtain ⟨mp29, ml29, mk29, mn29⟩ := hmt 29 10 48 rfl
  intro j
  induction j with
  | zero =>
    intro M hj
    refine j_iload_n E dX7_note_3 rfl rfl ?_
    refine j_iconst (v := 2) E dX7_note_4 (by decide) ?_
    refine j_icmp_le (tgt := 28) E dX7_note_5 (by decide) (fun h => ?_) (fun h => absurd (by decide) h)
    refine j_aload_n E dX7_note_28 rfl rfl ?_
    refine j_getP (ci := 7) (k := 29) (Cn := RX7) (T := TX7) (N := 34) E dX7_note_29 hm1 hm2 rfl (by decide) hinX7 (by decide +kernel) rfl mp29 ?_
    refine j_iconst (v := 0) E dX7_note_32 (by decide) ?_
    refine j_iload_n E dX7_note_33 rfl rfl ?_
    refine j_iast E dX7_note_34 ml29 mn29 (j := 0) rfl (by decide) (by decide) mk29 ?_
    refine j_aload_n E dX7_note_35 rfl rfl ?_
    refine j_getP (ci := 7) (k := 29) (Cn := RX7) (T := TX7) (N := 34) E dX7_note_36 hm1 hm2 rfl (by decide) hinX7 (by decide +kernel) rfl mp29 ?_
    refine j_iconst (v := 1) E dX7_note_39 (by decide) ?_
    refine j_iload_n E dX7_note_40 rfl rfl ?_
    refine j_iast E dX7_note_41 ml29 mn29 (j := 1) rfl (by decide) (by decide) mk29 ?_
    refine j_aload_n E dX7_note_42 rfl rfl ?_
    refine j_getP (ci := 7) (k := 29) (Cn := RX7) (T := TX7) (N := 34) E dX7_note_43 hm1 hm2 rfl (by decide) hinX7 (by decide +kernel) rfl mp29 ?_
    refine j_iconst (v := 2) E dX7_note_46 (by decide) ?_
    refine j_aload_n E dX7_note_47 rfl rfl ?_
    refine j_getI (ci := 7) (k := 25) (Cn := RX7) (T := TX7) (N := 34) E dX7_note_48 hm1 hm2 rfl (by decide) hinX7 (by decide +kernel) rfl ?_
    try simp only [pI_m hinj, pF_m hinj, pI_2, pF_1, Nat.reduceEqDiff, Nat.reduceLT, Nat.reduceLeDiff, eq_self, ↓reduceIte]
    refine j_iast E dX7_note_51 ml29 mn29 (j := 2) rfl (by decide) (by decide) mk29 ?_
    refine j_aload_n E dX7_note_52 rfl rfl ?_
    refine j_aload_n E dX7_note_53 rfl rfl ?_
    refine j_getI (ci := 7) (k := 28) (Cn := RX7) (T := TX7) (N := 34) E dX7_note_54 hm1 hm2 rfl (by decide) hinX7 (by decide +kernel) rfl ?_
    try simp only [pI_m hinj, pF_m hinj, pI_2, pF_1, Nat.reduceEqDiff, Nat.reduceLT, Nat.reduceLeDiff, eq_self, ↓reduceIte]
    refine j_bipush (v := 16) E dX7_note_57 (by decide) ?_
    refine j_icmp_ge (tgt := 71) E dX7_note_59 (by decide) (fun h59 => ?_) (fun h59 => ?_)
    · refine j_bipush (v := 16) E dX7_note_71 (by decide) ?_
      refine j_putI (ci := 7) (k := 28) (Cn := RX7) (T := TX7) (N := 34) E dX7_note_73 hm1 hm2 rfl (by decide) hinX7 (by decide +kernel) rfl tyX7 tyX7_ok nmX7 rfl rfl rfl rfl ?_
      exact j_vret E dX7_note_76 rfl (by simp [mNt, h59])
    · refine j_aload_n E dX7_note_62 rfl rfl ?_
      refine j_getI (ci := 7) (k := 28) (Cn := RX7) (T := TX7) (N := 34) E dX7_note_63 hm1 hm2 rfl (by decide) hinX7 (by decide +kernel) rfl ?_
      try simp only [pI_m hinj, pF_m hinj, pI_2, pF_1, Nat.reduceEqDiff, Nat.reduceLT, Nat.reduceLeDiff, eq_self, ↓reduceIte]
      refine j_iconst (v := 1) E dX7_note_66 (by decide) ?_
      refine j_iadd E dX7_note_67 ?_
      refine j_goto (tgt := 73) E dX7_note_68 (by decide) ?_
      refine j_putI (ci := 7) (k := 28) (Cn := RX7) (T := TX7) (N := 34) E dX7_note_73 hm1 hm2 rfl (by decide) hinX7 (by decide +kernel) rfl tyX7 tyX7_ok nmX7 rfl rfl rfl rfl ?_
      exact j_vret E dX7_note_76 rfl (by simp [mNt, h59])
  | succ j ih =>
    intro M hj
    refine j_iload_n E dX7_note_3 rfl rfl ?_
    refine j_iconst (v := 2) E dX7_note_4 (by decide) ?_
    refine j_icmp_le (tgt := 28) E dX7_note_5 (by decide) (fun h5 => ?_) (fun h5 => ?_)
    · exact absurd h5 (nI_ge (b := j + 1 + 2) (a := 2) (by omega) (by omega))
    · refine j_aload_n E dX7_note_8 rfl rfl ?_
      refine j_getP (ci := 7) (k := 29) (Cn := RX7) (T := TX7) (N := 34) E dX7_note_9 hm1 hm2 rfl (by decide) hinX7 (by decide +kernel) rfl mp29 ?_
      refine j_iload_n E dX7_note_12 rfl rfl ?_
      refine j_aload_n E dX7_note_13 rfl rfl ?_
      refine j_getP (ci := 7) (k := 29) (Cn := RX7) (T := TX7) (N := 34) E dX7_note_14 hm1 hm2 rfl (by decide) hinX7 (by decide +kernel) rfl mp29 ?_
      refine j_iload_n E dX7_note_17 rfl rfl ?_
      refine j_iconst (v := 3) E dX7_note_18 (by decide) ?_
      refine j_isub E dX7_note_19 ?_
      refine j_iald E dX7_note_20 ml29 mn29 (nI_m3 j) (by omega) (by decide) mk29 ?_
      refine j_iast E dX7_note_21 ml29 mn29 rfl (by omega) (by decide) mk29 ?_
      refine j_iinc E dX7_note_22 rfl (by decide) ?_
      refine j_goto (tgt := 3) E dX7_note_25 (by decide) ?_
      exact j_lv [0, 1, 2, 3] rfl (by rw [show nI (j + 1 + 2) + Int32.ofInt (-1) = nI (j + 2) from pk_m1 (j + 2)]; have h9 := ih (pI M (m 29) (j + 3) (M.1 (m 29) j)) (by omega); simp only [pI_m hinj, Nat.reduceEqDiff, Nat.reduceLT, Nat.reduceLeDiff, ↓reduceIte] at h9; exact h9)

set_option maxHeartbeats 1600000 in
set_option maxRecDepth 100000 in
theorem k_X7_note {l : Launch} {D : va_G} {cy : Nat → ClassId} {X : va_W} {G : pG} {M : pM} {m : Nat → Nat} {u v : Int32} (hM : wM G m) : jK l yX7_note wsX7_note ({ frames := 0, cells := 0, slots := 0, locals := 0 } : Room) D cy X G M [.ref (m 0), .int u, .int v] none X (mNote M m u v) := by
  refine jK_of (own := RX7) (by decide) rfl rfl (Nat.le_of_ble_eq_true rfl) (fun C E hl hD hcy hG => ?_)
  subst hl; subst hD; subst hcy; subst hG

  have hM0 := hM
  obtain ⟨hm1, hm2, hmt, hinj⟩ := hM
  obtain ⟨mp29, ml29, mk29, mn29⟩ := hmt 29 10 48 rfl
  refine j_bipush (v := 47) E dX7_note_0 (by decide) ?_
  refine j_istore_n E dX7_note_2 rfl (by decide) ?_
  exact j_lv [0, 1, 2, 3] rfl (kl_X7_note_3 E hM0 45 M (by omega))
