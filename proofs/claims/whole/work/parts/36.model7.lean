/-! The reference: reading a rule's text. -/
def okP (M : pM) (m : Nat → Nat) (n : Nat) : Prop := n ≤ 20 ∧ M.1 (m 0) 23 = nI n ∧ ∀ j, j < n → narrow .char (.int (M.1 (m 24) j)) = .int (M.1 (m 24) j)
def mLk (M : pM) (m : Nat → Nat) (k : Nat) : Int32 := if M.1 (m 0) 23 ≤ nI k then 0 else M.1 (m 24) k
def mWord (M : pM) (m : Nat → Nat) (w : Int32) : pM := pI (pI M (m 33) (M.1 (m 0) 32).toNatClampNeg w) (m 0) 32 (M.1 (m 0) 32 + 1)
def mPut (M : pM) (m : Nat → Nat) (c : Int32) : pM := pI (pI M (m 31) (M.1 (m 0) 30).toNatClampNeg c) (m 0) 30 (M.1 (m 0) 30 + 1)
def mDp (M : pM) (m : Nat → Nat) : Nat → Nat → Int32 → Int32
  | 0, _, c => c
  | n + 1, i, c => if M.1 (m 0) 30 ≤ nI i then c else mDp M m n (i + 1) (if M.1 (m 31) i = 33 then c + 1 else if M.1 (m 31) i = 40 then c + 1 else c)
def mTd (m : Nat → Nat) : Nat → pM → pM
  | 0, M => M
  | W + 1, M => if M.1 (m 31) W = 40 then M else mTd m W (mWord (pI M (m 0) 30 (nI W)) m (if M.1 (m 31) W = 33 then 9 else if M.1 (m 31) W = 38 then 10 else 11))
def mTdd (M : pM) (m : Nat → Nat) : pM := mTd m (M.1 (m 0) 30).toNatClampNeg M
def mCd (m : Nat → Nat) : Nat → Int32 → Nat → pM → Int32 × pM
  | 0, _, _, M => (0, M)
  | f + 1, t, k, M => if M.1 (m 0) 23 ≤ nI k then (-1 - M.1 (m 0) 23, M) else
    if t = 0 then
      (if mLk M m k = 38 then mCd m f 1 (k + 1) (mPut M m (mLk M m k)) else if mLk M m k = 124 then mCd m f 1 (k + 1) (mPut M m (mLk M m k)) else
       if mLk M m k = 41 then (if M.1 (m 0) 30 ≤ 0 then (-1 - nI k, M) else mCd m f 0 (k + 1) (mTdd (pI M (m 0) 30 (M.1 (m 0) 30 - 1)) m)) else
       if mLk M m k = 62 then (if M.1 (m 0) 30 = 0 then (nI k, M) else (-1 - nI k, M)) else (-1 - nI k, M))
    else
      (if mLk M m k = 33 ∨ mLk M m k = 40 then (if mDp M m 25 0 0 = 4 then (-1 - nI k, M) else mCd m f t (k + 1) (mPut M m (mLk M m k))) else
       if mLk M m k = 102 then mCd m f 0 (k + 1) (mTdd (mWord M m 8) m) else
       if mLk M m k = 122 ∨ mLk M m k = 119 then (if mLk M m (k + 1) < 48 then (-1 - nI (k + 1), M) else if mLk M m (k + 1) ≤ 51 then mCd m f 0 (k + 2) (mTdd (mWord M m (mLk M m (k + 1) - 48 + (if mLk M m k = 119 then 4 else 0))) m) else (-1 - nI (k + 1), M)) else (-1 - nI k, M))
/-- the numbers of the reader: typed n, waiting W, made N -/
def ivM (M : pM) (m : Nat → Nat) (n W N : Nat) : Prop := okP M m n ∧ M.1 (m 0) 30 = nI W ∧ M.1 (m 0) 32 = nI N
theorem vpn {x : Int32} (h : narrow .char (.int x) = .int x) : vp_nar .char x = x := by simp [vp_nar, h]
section PM
variable {m : Nat → Nat} (hinj : ∀ i j, i < 34 → j < 34 → m i = m j → i = j)
theorem okP_ok {M M' : pM} {n : Nat} (h0 : M.1 (m 0) 23 = M'.1 (m 0) 23) (h24 : M.1 (m 24) = M'.1 (m 24)) (h : okP M m n) : okP M' m n := ⟨h.1, by rw [← h0]; exact h.2.1, by rw [← h24]; exact h.2.2⟩
theorem mWord_iv (hinj : ∀ i j, i < 34 → j < 34 → m i = m j → i = j) {M : pM} {n W N : Nat} (w : Int32) (h : ivM M m n W N) : ivM (mWord M m w) m n W (N + 1) := by
  obtain ⟨h1, h2, h3⟩ := h
  refine ⟨okP_ok ?_ ?_ h1, ?_, ?_⟩ <;> unfold mWord
  · simp [pI_m hinj]
  · rw [pI_1n _ _ _ (fun e => absurd (hinj 24 0 (by decide) (by decide) e) (by decide)), pI_1n _ _ _ (fun e => absurd (hinj 24 33 (by decide) (by decide) e) (by decide))]
  · rw [pI_rd, if_neg (by decide), pI_1n _ _ _ (fun e => absurd (hinj 0 33 (by decide) (by decide) e) (by decide))]; exact h2
  · rw [pI_rd, if_pos rfl, h3]; exact nI_1 N
theorem mPut_iv (hinj : ∀ i j, i < 34 → j < 34 → m i = m j → i = j) {M : pM} {n W N : Nat} (w : Int32) (h : ivM M m n W N) : ivM (mPut M m w) m n (W + 1) N := by
  obtain ⟨h1, h2, h3⟩ := h
  refine ⟨okP_ok ?_ ?_ h1, ?_, ?_⟩ <;> unfold mPut
  · simp [pI_m hinj]
  · rw [pI_1n _ _ _ (fun e => absurd (hinj 24 0 (by decide) (by decide) e) (by decide)), pI_1n _ _ _ (fun e => absurd (hinj 24 31 (by decide) (by decide) e) (by decide))]
  · rw [pI_rd, if_pos rfl, h2]; exact nI_1 W
  · rw [pI_rd, if_neg (by decide), pI_1n _ _ _ (fun e => absurd (hinj 0 31 (by decide) (by decide) e) (by decide))]; exact h3
theorem mW_iv (hinj : ∀ i j, i < 34 → j < 34 → m i = m j → i = j) {M : pM} {n W N : Nat} (W' : Nat) (h : ivM M m n W N) : ivM (pI M (m 0) 30 (nI W')) m n W' N := by
  obtain ⟨h1, h2, h3⟩ := h
  refine ⟨okP_ok ?_ ?_ h1, ?_, ?_⟩
  · rw [pI_rd, if_neg (by decide)]
  · rw [pI_1n _ _ _ (fun e => absurd (hinj 24 0 (by decide) (by decide) e) (by decide))]
  · rw [pI_rd, if_pos rfl]
  · rw [pI_rd, if_neg (by decide)]; exact h3
theorem mTd_iv (hinj : ∀ i j, i < 34 → j < 34 → m i = m j → i = j) : ∀ (W : Nat) {M : pM} {n N : Nat}, ivM M m n W N → ∃ W' N', ivM (mTd m W M) m n W' N' ∧ W' + N' = W + N
  | 0, M, n, N, h => ⟨0, N, h, rfl⟩
  | W + 1, M, n, N, h => by
    rw [mTd]
    split
    · exact ⟨W + 1, N, h, rfl⟩
    · obtain ⟨W', N', h1, h2⟩ := mTd_iv hinj W (mWord_iv hinj (if M.1 (m 31) W = 33 then 9 else if M.1 (m 31) W = 38 then 10 else 11) (mW_iv hinj W h))
      exact ⟨W', N', h1, by omega⟩
theorem mTdd_iv (hinj : ∀ i j, i < 34 → j < 34 → m i = m j → i = j) {M : pM} {n W N : Nat} (h : ivM M m n W N) (hW : W < 1000) : ∃ W' N', ivM (mTdd M m) m n W' N' ∧ W' + N' = W + N := by
  unfold mTdd
  rw [h.2.1, nI_clamp (by omega)]
  exact mTd_iv hinj W h
end PM

set_option maxHeartbeats 1600000 in
set_option maxRecDepth 100000 in
theorem k_X7_look {l : Launch} {D : va_G} {cy : Nat → ClassId} {X : va_W} {G : pG} {M : pM} {m : Nat → Nat} {n k : Nat} (hM : wM G m) (hP : okP M m n) (hk : k < 1000) : jK l yX7_look wsX7_look ({ frames := 0, cells := 0, slots := 0, locals := 0 } : Room) D cy X G M [.ref (m 0), .int (nI k)] (some (.int (mLk M m k))) X M := by
  refine jK_of (own := RX7) (by decide) rfl rfl (Nat.le_of_ble_eq_true rfl) (fun C E hl hD hcy hG => ?_)
  subst hl; subst hD; subst hcy; subst hG
  have hinX7 : ∀ w ∈ u_ws RX7 TX7 34, w ∈ wsX7_look := by decide +kernel
  have hM0 := hM
  obtain ⟨hm1, hm2, hmt, hinj⟩ := hM
  obtain ⟨mp24, ml24, mk24, mn24⟩ := hmt 24 8 20 rfl
  obtain ⟨hn, eT, hch⟩ := hP
  refine j_iload_n E dX7_look_0 rfl rfl ?_
  refine j_aload_n E dX7_look_1 rfl rfl ?_
  refine j_getI (ci := 7) (k := 23) (Cn := RX7) (T := TX7) (N := 34) E dX7_look_2 hm1 hm2 rfl (by decide) hinX7 (by decide +kernel) rfl ?_
  refine j_icmp_ge (tgt := 17) E dX7_look_5 (by decide) (fun h5 => ?_) (fun h5 => ?_)
  · refine j_iconst (v := 0) E dX7_look_17 (by decide) ?_
    exact j_cret E dX7_look_18 (by first | rfl | exact hch k hkn) (by simp [mLk, h5]) rfl (by simp [mLk, h5])
  · have hkn : k < n := lt_of_nge (n := n) (by rw [← eT]; exact h5) (by omega)
    refine j_aload_n E dX7_look_8 rfl rfl ?_
    refine j_getP (ci := 7) (k := 24) (Cn := RX7) (T := TX7) (N := 34) E dX7_look_9 hm1 hm2 rfl (by decide) hinX7 (by decide +kernel) rfl mp24 ?_
    refine j_iload_n E dX7_look_12 rfl rfl ?_
    refine j_cald E dX7_look_13 ml24 mn24 rfl (by omega) (by decide) mk24 ?_
    refine j_goto (tgt := 18) E dX7_look_14 (by decide) ?_
    exact j_cret E dX7_look_18 (by first | rfl | exact hch k hkn) (by simp [mLk, h5]) rfl (by simp [mLk, h5])

set_option maxHeartbeats 1600000 in
set_option maxRecDepth 100000 in
theorem k_X7_word {l : Launch} {D : va_G} {cy : Nat → ClassId} {X : va_W} {G : pG} {M : pM} {m : Nat → Nat} {w : Int32} {N : Nat} (hM : wM G m) (hN : M.1 (m 0) 32 = nI N) (hN2 : N < 24) : jK l yX7_word wsX7_word ({ frames := 0, cells := 0, slots := 0, locals := 0 } : Room) D cy X G M [.ref (m 0), .int w] none X (mWord M m w) := by
  refine jK_of (own := RX7) (by decide) rfl rfl (Nat.le_of_ble_eq_true rfl) (fun C E hl hD hcy hG => ?_)
  subst hl; subst hD; subst hcy; subst hG
  have hinX7 : ∀ w ∈ u_ws RX7 TX7 34, w ∈ wsX7_word := by decide +kernel
  have hM0 := hM
  obtain ⟨hm1, hm2, hmt, hinj⟩ := hM
  obtain ⟨mp33, ml33, mk33, mn33⟩ := hmt 33 10 24 rfl
  have hix : M.1 (m 0) 32 = nI (M.1 (m 0) 32).toNatClampNeg := by rw [hN, nI_clamp (by omega)]
  have hlt : (M.1 (m 0) 32).toNatClampNeg < 24 := by rw [hN, nI_clamp (by omega)]; exact hN2
  refine j_aload_n E dX7_word_0 rfl rfl ?_
  refine j_getP (ci := 7) (k := 33) (Cn := RX7) (T := TX7) (N := 34) E dX7_word_1 hm1 hm2 rfl (by decide) hinX7 (by decide +kernel) rfl mp33 ?_
  refine j_aload_n E dX7_word_4 rfl rfl ?_
  refine j_getI (ci := 7) (k := 32) (Cn := RX7) (T := TX7) (N := 34) E dX7_word_5 hm1 hm2 rfl (by decide) hinX7 (by decide +kernel) rfl ?_
  refine j_iload_n E dX7_word_8 rfl rfl ?_
  refine j_iast E dX7_word_9 ml33 mn33 hix hlt (by decide) mk33 ?_
  refine j_aload_n E dX7_word_10 rfl rfl ?_
  refine j_dup E dX7_word_11 rfl ?_
  refine j_getI (ci := 7) (k := 32) (Cn := RX7) (T := TX7) (N := 34) E dX7_word_12 hm1 hm2 rfl (by decide) hinX7 (by decide +kernel) rfl ?_
  try simp only [pI_m hinj, pF_m hinj, pI_2, pF_1, Nat.reduceEqDiff, Nat.reduceLT, Nat.reduceLeDiff, eq_self, ↓reduceIte]
  refine j_iconst (v := 1) E dX7_word_15 (by decide) ?_
  refine j_iadd E dX7_word_16 ?_
  refine j_putI (ci := 7) (k := 32) (Cn := RX7) (T := TX7) (N := 34) E dX7_word_17 hm1 hm2 rfl (by decide) hinX7 (by decide +kernel) rfl tyX7 tyX7_ok nmX7 rfl rfl rfl rfl ?_
  exact j_vret E dX7_word_20 rfl (by rfl)

set_option maxHeartbeats 1600000 in
set_option maxRecDepth 100000 in
theorem k_X7_put {l : Launch} {D : va_G} {cy : Nat → ClassId} {X : va_W} {G : pG} {M : pM} {m : Nat → Nat} {c : Int32} {W : Nat} (hM : wM G m) (hW : M.1 (m 0) 30 = nI W) (hW2 : W < 24) (hc : vp_nar .char c = c) : jK l yX7_put wsX7_put ({ frames := 0, cells := 0, slots := 0, locals := 0 } : Room) D cy X G M [.ref (m 0), .int c] none X (mPut M m c) := by
  refine jK_of (own := RX7) (by decide) rfl rfl (Nat.le_of_ble_eq_true rfl) (fun C E hl hD hcy hG => ?_)
  subst hl; subst hD; subst hcy; subst hG
  have hinX7 : ∀ w ∈ u_ws RX7 TX7 34, w ∈ wsX7_put := by decide +kernel
  have hM0 := hM
  obtain ⟨hm1, hm2, hmt, hinj⟩ := hM
  obtain ⟨mp31, ml31, mk31, mn31⟩ := hmt 31 8 24 rfl
  have hix : M.1 (m 0) 30 = nI (M.1 (m 0) 30).toNatClampNeg := by rw [hW, nI_clamp (by omega)]
  have hlt : (M.1 (m 0) 30).toNatClampNeg < 24 := by rw [hW, nI_clamp (by omega)]; exact hW2
  refine j_aload_n E dX7_put_0 rfl rfl ?_
  refine j_getP (ci := 7) (k := 31) (Cn := RX7) (T := TX7) (N := 34) E dX7_put_1 hm1 hm2 rfl (by decide) hinX7 (by decide +kernel) rfl mp31 ?_
  refine j_aload_n E dX7_put_4 rfl rfl ?_
  refine j_getI (ci := 7) (k := 30) (Cn := RX7) (T := TX7) (N := 34) E dX7_put_5 hm1 hm2 rfl (by decide) hinX7 (by decide +kernel) rfl ?_
  refine j_iload_n E dX7_put_8 rfl rfl ?_
  refine j_cast E dX7_put_9 ml31 mn31 hix hlt (by decide) mk31 hc ?_
  refine j_aload_n E dX7_put_10 rfl rfl ?_
  refine j_dup E dX7_put_11 rfl ?_
  refine j_getI (ci := 7) (k := 30) (Cn := RX7) (T := TX7) (N := 34) E dX7_put_12 hm1 hm2 rfl (by decide) hinX7 (by decide +kernel) rfl ?_
  try simp only [pI_m hinj, pF_m hinj, pI_2, pF_1, Nat.reduceEqDiff, Nat.reduceLT, Nat.reduceLeDiff, eq_self, ↓reduceIte]
  refine j_iconst (v := 1) E dX7_put_15 (by decide) ?_
  refine j_iadd E dX7_put_16 ?_
  refine j_putI (ci := 7) (k := 30) (Cn := RX7) (T := TX7) (N := 34) E dX7_put_17 hm1 hm2 rfl (by decide) hinX7 (by decide +kernel) rfl tyX7 tyX7_ok nmX7 rfl rfl rfl rfl ?_
  exact j_vret E dX7_put_20 rfl (by rfl)

set_option maxHeartbeats 1600000 in
set_option maxRecDepth 100000 in
theorem kl_X7_deepness_4 {C : jC} (E : jE C cX7_deepness 3 wsX7_deepness RX7 (some .int) ({ frames := 0, cells := 0, slots := 0, locals := 0 } : Room)) {X : va_W} {M : pM} {m : Nat → Nat} {W : Nat} (hM : wM (jG C) m) (hW : M.1 (m 0) 30 = nI W) (hW2 : W ≤ 24) : ∀ (n i : Nat) (c : Int32), i ≤ 24 → i + n = 25 → jW C 3 4 [(0, .ref (m 0)), (1, .int c), (2, .int (nI i))] [] X M 0 0 (jZ C X M (some (.int (mDp M m n i c))) 0 0) := by
  have hinX7 : ∀ w ∈ u_ws RX7 TX7 34, w ∈ wsX7_deepness := by decide +kernel
  have hM0 := hM
  obtain ⟨hm1, hm2, hmt, hinj⟩ := hM
  obtain ⟨mp31, ml31, mk31, mn31⟩ := hmt 31 8 24 rfl
  intro n
  induction n with
  | zero => intro i c h1 h2; omega
  | succ n ih =>
    intro i c hi hn
    refine j_iload_n E dX7_deepness_4 rfl rfl ?_
    refine j_aload_n E dX7_deepness_5 rfl rfl ?_
    refine j_getI (ci := 7) (k := 30) (Cn := RX7) (T := TX7) (N := 34) E dX7_deepness_6 hm1 hm2 rfl (by decide) hinX7 (by decide +kernel) rfl ?_
    refine j_icmp_ge (tgt := 48) E dX7_deepness_9 (by decide) (fun h9 => ?_) (fun h9 => ?_)
    · refine j_iload_n E dX7_deepness_48 rfl rfl ?_
      exact j_iret E dX7_deepness_49 (by simp [mDp, h9]) rfl (by simp [mDp, h9])
    · have hiW : i < W := lt_of_nge (n := W) (by rw [← hW]; exact h9) (by omega)
      have hi24 : i < 24 := by omega
      refine j_aload_n E dX7_deepness_12 rfl rfl ?_
      refine j_getP (ci := 7) (k := 31) (Cn := RX7) (T := TX7) (N := 34) E dX7_deepness_13 hm1 hm2 rfl (by decide) hinX7 (by decide +kernel) rfl mp31 ?_
      refine j_iload_n E dX7_deepness_16 rfl rfl ?_
      refine j_cald E dX7_deepness_17 ml31 mn31 rfl hi24 (by decide) mk31 ?_
      refine j_bipush (v := 33) E dX7_deepness_18 (by decide) ?_
      refine j_icmp_eq (tgt := 34) E dX7_deepness_20 (by decide) (fun h20 => ?_) (fun h20 => ?_)
      · refine j_iload_n E dX7_deepness_34 rfl rfl ?_
        refine j_iconst (v := 1) E dX7_deepness_35 (by decide) ?_
        refine j_iadd E dX7_deepness_36 ?_
        refine j_goto (tgt := 41) E dX7_deepness_37 (by decide) ?_
        refine j_istore_n E dX7_deepness_41 rfl (by decide) ?_
        refine j_iinc E dX7_deepness_42 rfl (by decide) ?_
        refine j_goto (tgt := 4) E dX7_deepness_45 (by decide) ?_
        exact j_lv [0, 1, 2] rfl (by rw [nI_inc]; exact j_r (by simp [mDp, h9, h20]) rfl (ih (i + 1) _ (by omega) (by omega)))
      · refine j_aload_n E dX7_deepness_23 rfl rfl ?_
        refine j_getP (ci := 7) (k := 31) (Cn := RX7) (T := TX7) (N := 34) E dX7_deepness_24 hm1 hm2 rfl (by decide) hinX7 (by decide +kernel) rfl mp31 ?_
        refine j_iload_n E dX7_deepness_27 rfl rfl ?_
        refine j_cald E dX7_deepness_28 ml31 mn31 rfl hi24 (by decide) mk31 ?_
        refine j_bipush (v := 40) E dX7_deepness_29 (by decide) ?_
        refine j_icmp_ne (tgt := 40) E dX7_deepness_31 (by decide) (fun h31 => ?_) (fun h31 => ?_)
        · refine j_iload_n E dX7_deepness_40 rfl rfl ?_
          refine j_istore_n E dX7_deepness_41 rfl (by decide) ?_
          refine j_iinc E dX7_deepness_42 rfl (by decide) ?_
          refine j_goto (tgt := 4) E dX7_deepness_45 (by decide) ?_
          exact j_lv [0, 1, 2] rfl (by rw [nI_inc]; exact j_r (by simp [mDp, h9, h20, h31]) rfl (ih (i + 1) _ (by omega) (by omega)))
        · refine j_iload_n E dX7_deepness_34 rfl rfl ?_
          refine j_iconst (v := 1) E dX7_deepness_35 (by decide) ?_
          refine j_iadd E dX7_deepness_36 ?_
          refine j_goto (tgt := 41) E dX7_deepness_37 (by decide) ?_
          refine j_istore_n E dX7_deepness_41 rfl (by decide) ?_
          refine j_iinc E dX7_deepness_42 rfl (by decide) ?_
          refine j_goto (tgt := 4) E dX7_deepness_45 (by decide) ?_
          exact j_lv [0, 1, 2] rfl (by rw [nI_inc]; exact j_r (by simp [mDp, h9, h20, h31]) rfl (ih (i + 1) _ (by omega) (by omega)))

set_option maxHeartbeats 1600000 in
set_option maxRecDepth 100000 in
theorem k_X7_deepness {l : Launch} {D : va_G} {cy : Nat → ClassId} {X : va_W} {G : pG} {M : pM} {m : Nat → Nat} {W : Nat} (hM : wM G m) (hW : M.1 (m 0) 30 = nI W) (hW2 : W ≤ 24) : jK l yX7_deepness wsX7_deepness ({ frames := 0, cells := 0, slots := 0, locals := 0 } : Room) D cy X G M [.ref (m 0)] (some (.int (mDp M m 25 0 0))) X M := by
  refine jK_of (own := RX7) (by decide) rfl rfl (Nat.le_of_ble_eq_true rfl) (fun C E hl hD hcy hG => ?_)
  subst hl; subst hD; subst hcy; subst hG

  have hM0 := hM
  obtain ⟨hm1, hm2, hmt, hinj⟩ := hM
  obtain ⟨mp31, ml31, mk31, mn31⟩ := hmt 31 8 24 rfl
  refine j_iconst (v := 0) E dX7_deepness_0 (by decide) ?_
  refine j_istore_n E dX7_deepness_1 rfl (by decide) ?_
  refine j_iconst (v := 0) E dX7_deepness_2 (by decide) ?_
  refine j_istore_n E dX7_deepness_3 rfl (by decide) ?_
  exact j_lv [0, 1, 2] rfl (kl_X7_deepness_4 E hM0 hW hW2 25 0 0 (by omega) (by omega))


set_option maxHeartbeats 1600000 in
set_option maxRecDepth 100000 in
theorem kl_X7_termDone_0 {C : jC} (E : jE C cX7_termDone 1 wsX7_termDone RX7 none ({ frames := 1, cells := 0, slots := 0, locals := 21 } : Room)) {X : va_W} {m : Nat → Nat} {n : Nat} (hM : wM (jG C) m) : ∀ (W : Nat) (M : pM) (N : Nat), ivM M m n W N → W + N ≤ 24 → jW C 1 0 [(0, .ref (m 0))] [] X M 0 0 (jZ C X (mTd m W M) none 0 0) := by
  have hinX7 : ∀ w ∈ u_ws RX7 TX7 34, w ∈ wsX7_termDone := by decide +kernel
  have hM0 := hM
  obtain ⟨hm1, hm2, hmt, hinj⟩ := hM
  obtain ⟨mp31, ml31, mk31, mn31⟩ := hmt 31 8 24 rfl
  intro W
  induction W with
  | zero =>
    intro M N h hWN
    refine j_aload_n E dX7_termDone_0 rfl rfl ?_
    refine j_getI (ci := 7) (k := 30) (Cn := RX7) (T := TX7) (N := 34) E dX7_termDone_1 hm1 hm2 rfl (by decide) hinX7 (by decide +kernel) rfl ?_
    refine j_if_le (tgt := 80) E dX7_termDone_4 (by decide) (fun h4 => ?_) (fun h4 => ?_)
    · exact j_vret E dX7_termDone_80 rfl (by rfl)
    · exact absurd (by rw [h.2.1]; decide) h4
  | succ W ih =>
    intro M N h hWN
    have eW : M.1 (m 0) 30 = nI (W + 1) := h.2.1
    have eW1 : M.1 (m 0) 30 - 1 = nI W := by rw [eW]; exact nI_pred W
    have hWa := mW_iv hinj W h
    refine j_aload_n E dX7_termDone_0 rfl rfl ?_
    refine j_getI (ci := 7) (k := 30) (Cn := RX7) (T := TX7) (N := 34) E dX7_termDone_1 hm1 hm2 rfl (by decide) hinX7 (by decide +kernel) rfl ?_
    refine j_if_le (tgt := 80) E dX7_termDone_4 (by decide) (fun h4 => ?_) (fun h4 => ?_)
    · exact absurd h4 (by rw [eW]; exact nI_nle (by omega) (by omega))
    · refine j_aload_n E dX7_termDone_7 rfl rfl ?_
      refine j_getP (ci := 7) (k := 31) (Cn := RX7) (T := TX7) (N := 34) E dX7_termDone_8 hm1 hm2 rfl (by decide) hinX7 (by decide +kernel) rfl mp31 ?_
      refine j_aload_n E dX7_termDone_11 rfl rfl ?_
      refine j_getI (ci := 7) (k := 30) (Cn := RX7) (T := TX7) (N := 34) E dX7_termDone_12 hm1 hm2 rfl (by decide) hinX7 (by decide +kernel) rfl ?_
      refine j_iconst (v := 1) E dX7_termDone_15 (by decide) ?_
      refine j_isub E dX7_termDone_16 ?_
      refine j_cald E dX7_termDone_17 ml31 mn31 eW1 (by omega) (by decide) mk31 ?_
      refine j_bipush (v := 40) E dX7_termDone_18 (by decide) ?_
      refine j_icmp_eq (tgt := 80) E dX7_termDone_20 (by decide) (fun h20 => ?_) (fun h20 => ?_)
      · exact j_vret E dX7_termDone_80 rfl (by simp [mTd, h4, h20])
      · refine j_aload_n E dX7_termDone_23 rfl rfl ?_
        refine j_dup E dX7_termDone_24 rfl ?_
        refine j_getI (ci := 7) (k := 30) (Cn := RX7) (T := TX7) (N := 34) E dX7_termDone_25 hm1 hm2 rfl (by decide) hinX7 (by decide +kernel) rfl ?_
        refine j_iconst (v := 1) E dX7_termDone_28 (by decide) ?_
        refine j_isub E dX7_termDone_29 ?_
        refine j_putI (ci := 7) (k := 30) (Cn := RX7) (T := TX7) (N := 34) E dX7_termDone_30 hm1 hm2 rfl (by decide) hinX7 (by decide +kernel) rfl tyX7 tyX7_ok nmX7 rfl rfl rfl rfl ?_
        refine j_aload_n E dX7_termDone_33 rfl rfl ?_
        refine j_aload_n E dX7_termDone_34 rfl rfl ?_
        refine j_getP (ci := 7) (k := 31) (Cn := RX7) (T := TX7) (N := 34) E dX7_termDone_35 hm1 hm2 rfl (by decide) hinX7 (by decide +kernel) rfl mp31 ?_
        refine j_aload_n E dX7_termDone_38 rfl rfl ?_
        refine j_getI (ci := 7) (k := 30) (Cn := RX7) (T := TX7) (N := 34) E dX7_termDone_39 hm1 hm2 rfl (by decide) hinX7 (by decide +kernel) rfl ?_
        try simp only [pI_m hinj, pF_m hinj, pI_2, pF_1, Nat.reduceEqDiff, Nat.reduceLT, Nat.reduceLeDiff, eq_self, ↓reduceIte]
        refine j_cald E dX7_termDone_42 ml31 mn31 eW1 (by omega) (by decide) mk31 ?_
        try simp only [pI_m hinj, pF_m hinj, pI_2, pF_1, Nat.reduceEqDiff, Nat.reduceLT, Nat.reduceLeDiff, eq_self, ↓reduceIte]
        refine j_bipush (v := 33) E dX7_termDone_43 (by decide) ?_
        refine j_icmp_ne (tgt := 53) E dX7_termDone_45 (by decide) (fun h45 => ?_) (fun h45 => ?_)
        · refine j_aload_n E dX7_termDone_53 rfl rfl ?_
          refine j_getP (ci := 7) (k := 31) (Cn := RX7) (T := TX7) (N := 34) E dX7_termDone_54 hm1 hm2 rfl (by decide) hinX7 (by decide +kernel) rfl mp31 ?_
          refine j_aload_n E dX7_termDone_57 rfl rfl ?_
          refine j_getI (ci := 7) (k := 30) (Cn := RX7) (T := TX7) (N := 34) E dX7_termDone_58 hm1 hm2 rfl (by decide) hinX7 (by decide +kernel) rfl ?_
          try simp only [pI_m hinj, pF_m hinj, pI_2, pF_1, Nat.reduceEqDiff, Nat.reduceLT, Nat.reduceLeDiff, eq_self, ↓reduceIte]
          refine j_cald E dX7_termDone_61 ml31 mn31 eW1 (by omega) (by decide) mk31 ?_
          try simp only [pI_m hinj, pF_m hinj, pI_2, pF_1, Nat.reduceEqDiff, Nat.reduceLT, Nat.reduceLeDiff, eq_self, ↓reduceIte]
          refine j_bipush (v := 38) E dX7_termDone_62 (by decide) ?_
          refine j_icmp_ne (tgt := 72) E dX7_termDone_64 (by decide) (fun h64 => ?_) (fun h64 => ?_)
          · refine j_bipush (v := 11) E dX7_termDone_72 (by decide) ?_
            refine j_callV0 (ci := 7) (n := 1) E (k_X7_word hM0 (N := N) (by rw [pI_rd, if_neg (by decide)]; exact h.2.2) (by omega)) dX7_termDone_74 gX7_termDone_X7_word rfl (by decide +kernel) ⟨rfl, rfl, by decide, by decide⟩ ⟨Nat.zero_le _, Nat.zero_le _⟩ hm1 hm2 rfl rfl rfl (Nat.le_of_ble_eq_true rfl) rfl ?_
            refine j_goto (tgt := 0) E dX7_termDone_77 (by decide) ?_
            exact j_lv [0] rfl (j_r rfl (by rw [mTd]; simp [h4, h20, h45, h64, eW1]) (ih _ _ (by rw [eW1]; exact mWord_iv hinj _ hWa) (by omega)))
          · refine j_bipush (v := 10) E dX7_termDone_67 (by decide) ?_
            refine j_goto (tgt := 74) E dX7_termDone_69 (by decide) ?_
            refine j_callV0 (ci := 7) (n := 1) E (k_X7_word hM0 (N := N) (by rw [pI_rd, if_neg (by decide)]; exact h.2.2) (by omega)) dX7_termDone_74 gX7_termDone_X7_word rfl (by decide +kernel) ⟨rfl, rfl, by decide, by decide⟩ ⟨Nat.zero_le _, Nat.zero_le _⟩ hm1 hm2 rfl rfl rfl (Nat.le_of_ble_eq_true rfl) rfl ?_
            refine j_goto (tgt := 0) E dX7_termDone_77 (by decide) ?_
            exact j_lv [0] rfl (j_r rfl (by rw [mTd]; simp [h4, h20, h45, h64, eW1]) (ih _ _ (by rw [eW1]; exact mWord_iv hinj _ hWa) (by omega)))
        · refine j_bipush (v := 9) E dX7_termDone_48 (by decide) ?_
          refine j_goto (tgt := 74) E dX7_termDone_50 (by decide) ?_
          refine j_callV0 (ci := 7) (n := 1) E (k_X7_word hM0 (N := N) (by rw [pI_rd, if_neg (by decide)]; exact h.2.2) (by omega)) dX7_termDone_74 gX7_termDone_X7_word rfl (by decide +kernel) ⟨rfl, rfl, by decide, by decide⟩ ⟨Nat.zero_le _, Nat.zero_le _⟩ hm1 hm2 rfl rfl rfl (Nat.le_of_ble_eq_true rfl) rfl ?_
          refine j_goto (tgt := 0) E dX7_termDone_77 (by decide) ?_
          exact j_lv [0] rfl (j_r rfl (by rw [mTd]; simp [h4, h20, h45, eW1]) (ih _ _ (by rw [eW1]; exact mWord_iv hinj _ hWa) (by omega)))

set_option maxHeartbeats 1600000 in
set_option maxRecDepth 100000 in
theorem k_X7_termDone {l : Launch} {D : va_G} {cy : Nat → ClassId} {X : va_W} {G : pG} {M : pM} {m : Nat → Nat} {n W N : Nat} (hM : wM G m) (hv : ivM M m n W N) (hv2 : W + N ≤ 24) : jK l yX7_termDone wsX7_termDone ({ frames := 1, cells := 0, slots := 0, locals := 21 } : Room) D cy X G M [.ref (m 0)] none X (mTdd M m) := by
  refine jK_of (own := RX7) (by decide) rfl rfl (Nat.le_of_ble_eq_true rfl) (fun C E hl hD hcy hG => ?_)
  subst hl; subst hD; subst hcy; subst hG

  have e : mTdd M m = mTd m W M := by unfold mTdd; rw [hv.2.1, nI_clamp (by omega)]
  rw [e]
  exact kl_X7_termDone_0 E hM W M N hv hv2
