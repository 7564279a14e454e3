theorem mneg {k : Nat} (h : k < 1000) : ¬ (0 : Int32) ≤ -1 - nI k := by
  rw [Int32.le_iff_toInt_le]
  have e : (-1 - nI k : Int32) = -(nI (k + 1)) := by rw [← nI_1]; rw [Int32.neg_add, Int32.sub_eq_add_neg, Int32.add_comm]; exact (Int32.sub_eq_add_neg _ _).symm
  have e1 : (-(nI (k + 1)) : Int32).toInt = -((k + 1 : Nat) : Int) := by
    rw [Int32.toInt_neg, nI_toInt (by omega)]
    rw [Int.bmod_eq_of_le (by omega) (by omega)]
  rw [e, e1]
  have e2 : (0 : Int32).toInt = 0 := by decide
  omega
theorem nI_2 (a : Nat) : nI a + 2 = nI (a + 2) := nI_add a 2
theorem nI_3 (a : Nat) : nI a + 3 = nI (a + 3) := nI_add a 3
theorem nI_4 (a : Nat) : nI a + 4 = nI (a + 4) := nI_add a 4
def mSh (m : Nat → Nat) (n : Nat) (c : Int32 × pM) : Prop := (∃ W' N', ivM c.2 m n W' N' ∧ W' + N' ≤ n) ∧ (¬ 0 ≤ c.1 ∨ ∃ j, j < n ∧ c.1 = nI j)
theorem mCd_sh {m : Nat → Nat} (hinj : ∀ i j, i < 34 → j < 34 → m i = m j → i = j) {n : Nat} (hn : n ≤ 20) : ∀ (f : Nat) (t : Int32) (k : Nat) (M : pM) (W N : Nat), ivM M m n W N → W + N ≤ k → k ≤ n → n + 1 ≤ k + f → mSh m n (mCd m f t k M) := by
  intro f
  induction f with
  | zero => intro t k M W N h1 h2 h3 h4; omega
  | succ f ih =>
    intro t k M W N hiv hWN hkn hf
    have stay : ∀ x : Int32, ¬ 0 ≤ x → mSh m n (x, M) := fun x hx => ⟨⟨W, N, hiv, by omega⟩, Or.inl hx⟩
    rw [mCd]
    split
    · rw [hiv.1.2.1]; exact stay _ (mneg (by omega))
    · rename_i h0
      have hk : k < n := lt_of_nge (n := n) (by rw [← hiv.1.2.1]; exact h0) (by omega)
      have sk := stay _ (mneg (k := k) (by omega))
      have sk1 := stay _ (mneg (k := k + 1) (by omega))
      split
      · split
        · exact ih 1 (k + 1) _ (W + 1) N (mPut_iv hinj _ hiv) (by omega) (by omega) (by omega)
        · split
          · exact ih 1 (k + 1) _ (W + 1) N (mPut_iv hinj _ hiv) (by omega) (by omega) (by omega)
          · split
            · split
              · exact sk
              · rename_i h195
                cases W with
                | zero => exact absurd (by rw [hiv.2.1]; decide) h195
                | succ W1 =>
                  have hv1 : ivM (pI M (m 0) 30 (M.1 (m 0) 30 - 1)) m n W1 N := by rw [hiv.2.1, nI_pred]; exact mW_iv hinj W1 hiv
                  obtain ⟨W2, N2, hv2, hs2⟩ := mTdd_iv hinj hv1 (by omega)
                  exact ih _ (k + 1) _ W2 N2 hv2 (by omega) (by omega) (by omega)
            · split
              · split
                · exact ⟨⟨W, N, hiv, by omega⟩, Or.inr ⟨k, hk, rfl⟩⟩
                · exact sk
              · exact sk
      · split
        · split
          · exact sk
          · exact ih _ (k + 1) _ (W + 1) N (mPut_iv hinj _ hiv) (by omega) (by omega) (by omega)
        · split
          · obtain ⟨W2, N2, hv2, hs2⟩ := mTdd_iv hinj (mWord_iv hinj 8 hiv) (by omega)
            exact ih 0 (k + 1) _ W2 N2 hv2 (by omega) (by omega) (by omega)
          · split
            · split
              · exact sk1
              · rename_i h110
                split
                · have hk2 : k + 2 ≤ n := by
                    rcases Nat.lt_or_ge (k + 1) n with q | q
                    · omega
                    · exfalso; apply h110; unfold mLk; rw [if_pos (by rw [hiv.1.2.1]; exact nI_le q (by omega))]; decide
                  obtain ⟨W2, N2, hv2, hs2⟩ := mTdd_iv hinj (mWord_iv hinj (mLk M m (k + 1) - 48 + if mLk M m k = 119 then 4 else 0) hiv) (by omega)
                  exact ih 0 (k + 2) _ W2 N2 hv2 (by omega) (by omega) (by omega)
                · exact sk1
            · exact sk
theorem mCond_sh {m : Nat → Nat} (hinj : ∀ i j, i < 34 → j < 34 → m i = m j → i = j) {n : Nat} {M : pM} (hP : okP M m n) : mSh m n (mCond M m) := by
  unfold mCond
  rw [hP.2.1, nI_clamp (by have := hP.1; omega)]
  exact mCd_sh hinj hP.1 (n + 1) 1 0 _ 0 0 ⟨okP_ok (by simp [pI_rd]) (by rw [pI0 hinj _ _ _ 24 (by decide) (by decide), pI0 hinj _ _ _ 24 (by decide) (by decide)]) hP, by simp [pI_rd]; rfl, by simp [pI_rd]; rfl⟩ (by omega) (by omega) (by omega)
def mCpN (m : Nat → Nat) (r : Nat) : Nat → pM → pM
  | 0, M => M
  | i + 1, M => pI (mCpN m r i M) (m 17) (20 * r + i) (M.1 (m 33) i)
theorem mCpN_o {m : Nat → Nat} {r b : Nat} (h : b ≠ m 17) : ∀ (i : Nat) (M : pM), (mCpN m r i M).1 b = M.1 b
  | 0, M => rfl
  | i + 1, M => by rw [mCpN, pI_1n _ _ _ h, mCpN_o h i]
theorem mCpN_2 {m : Nat → Nat} {r : Nat} : ∀ (i : Nat) (M : pM), (mCpN m r i M).2 = M.2
  | 0, M => rfl
  | i + 1, M => by rw [mCpN, pI_2, mCpN_2 i]
def mRdW (M : pM) (m : Nat → Nat) (r j N : Nat) (d : Int32) : pM := pI (pI (pI (pI (mCpN m r N M) (m 18) r (M.1 (m 0) 32)) (m 19) r (mLk M m (j + 1) - 48)) (m 20) r (if d = 0 then 0 else mLk M m (j + 3) - 48)) (m 21) r 0
def mRead2 (M : pM) (m : Nat → Nat) (r j : Nat) : Int32 × pM :=
  if mLk M m (j + 1) < 48 then (nI (j + 1), M) else if mLk M m (j + 1) ≤ 53 then
    (if mLk M m (j + 2) = 58 then
      (if mLk M m (j + 3) < 48 then (nI (j + 3), M) else if mLk M m (j + 3) ≤ 57 then
        (if M.1 (m 0) 23 ≤ nI (j + 4) then (-1, mRdW M m r j (M.1 (m 0) 32).toNatClampNeg 1) else (nI (j + 4), M)) else (nI (j + 3), M))
     else if M.1 (m 0) 23 ≤ nI (j + 2) then (if M.1 (m 0) 23 ≤ nI (j + 4) then (-1, mRdW M m r j (M.1 (m 0) 32).toNatClampNeg 0) else (nI (j + 4), M)) else (nI (j + 2), M))
  else (nI (j + 1), M)
def mRead (M : pM) (m : Nat → Nat) (r : Nat) : Int32 × pM := if 0 ≤ (mCond M m).1 then mRead2 (mCond M m).2 m r (mCond M m).1.toNatClampNeg else (-1 - (mCond M m).1, (mCond M m).2)
def mRuT (M : pM) (m : Nat → Nat) : Int32 := if M.1 (m 0) 26 < 2 then 1 else if M.1 (m 0) 16 = 6 then 1 else 0
def mRuR (M : pM) (m : Nat → Nat) : Int32 × pM := mRead (pI M (m 0) 0 0) m (M.1 (m 0) 16).toNatClampNeg
def mRuM (M : pM) (m : Nat → Nat) : pM := pI (mRuR M m).2 (m 0) 23 0
def mRule (M : pM) (m : Nat → Nat) : Int32 × pM := if mRuT M m = 0 then (if (mRuR M m).1 < 0 then (0, pI (mRuM M m) (m 0) 16 ((mRuM M m).1 (m 0) 16 + 1)) else (1 + (mRuR M m).1, mRuM M m)) else (0, pI M (m 0) 0 1)
theorem mne {m : Nat → Nat} (hinj : ∀ i j, i < 34 → j < 34 → m i = m j → i = j) {i j : Nat} (hi : i < 34) (hj : j < 34) (h : i ≠ j) : m i ≠ m j := fun e => h (hinj i j hi hj e)
theorem okP_w {m : Nat → Nat} (hinj : ∀ i j, i < 34 → j < 34 → m i = m j → i = j) {M : pM} {n x : Nat} {v : Int32} (q : Nat) (hq : q < 34) (h0 : q ≠ 0) (h24 : q ≠ 24) (h : okP M m n) : okP (pI M (m q) x v) m n := okP_ok (by rw [pI_1n _ _ _ (mne hinj (by decide) hq (fun e => h0 e.symm))]) (by rw [pI_1n _ _ _ (mne hinj (by decide) hq (fun e => h24 e.symm))]) h
theorem okP_c {m : Nat → Nat} (hinj : ∀ i j, i < 34 → j < 34 → m i = m j → i = j) {M : pM} {n r i : Nat} (h : okP M m n) : okP (mCpN m r i M) m n := okP_ok (by rw [mCpN_o (mne hinj (by decide) (by decide) (by decide))]) (by rw [mCpN_o (mne hinj (by decide) (by decide) (by decide))]) h
theorem mLk_ok {M M' : pM} {m : Nat → Nat} (h0 : M.1 (m 0) 23 = M'.1 (m 0) 23) (h : M.1 (m 24) = M'.1 (m 24)) (k : Nat) : mLk M m k = mLk M' m k := by unfold mLk; rw [h0, h]
theorem mLk_w {m : Nat → Nat} (hinj : ∀ i j, i < 34 → j < 34 → m i = m j → i = j) {M : pM} {x k : Nat} {v : Int32} (q : Nat) (hq : q < 34) (h0 : q ≠ 0) (h24 : q ≠ 24) : mLk (pI M (m q) x v) m k = mLk M m k := mLk_ok (by rw [pI_1n _ _ _ (mne hinj (by decide) hq (fun e => h0 e.symm))]) (by rw [pI_1n _ _ _ (mne hinj (by decide) hq (fun e => h24 e.symm))]) k
theorem mLk_c {m : Nat → Nat} (hinj : ∀ i j, i < 34 → j < 34 → m i = m j → i = j) {M : pM} {r i k : Nat} : mLk (mCpN m r i M) m k = mLk M m k := mLk_ok (by rw [mCpN_o (mne hinj (by decide) (by decide) (by decide))]) (by rw [mCpN_o (mne hinj (by decide) (by decide) (by decide))]) k

set_option maxHeartbeats 1600000 in
set_option maxRecDepth 100000 in
theorem kl_X7_read_126 {C : jC} (E : jE C cX7_read 5 wsX7_read RX7 (some .int) ({ frames := 3, cells := 0, slots := 0, locals := 65 } : Room)) {X : va_W} {M : pM} {m : Nat → Nat} {n N j r : Nat} {d : Int32} (hM : wM (jG C) m) (hP : okP M m n) (hN : M.1 (m 0) 32 = nI N) (hN2 : N ≤ 20) (hr : r < 6) (hj : j < n) : ∀ (q i : Nat), i + q = N → jW C 5 126 [(0, .ref (m 0)), (1, .int (nI r)), (2, .int (nI j)), (3, .int d), (4, .int (nI i))] [] X (mCpN m r i M) 0 0 (jZ C X (mRdW M m r j N d) (some (.int (-1))) 0 0) := by
  have hinX7 : ∀ w ∈ u_ws RX7 TX7 34, w ∈ wsX7_read := by decide +kernel
  have hM0 := hM
  obtain ⟨hm1, hm2, hmt, hinj⟩ := hM
  obtain ⟨mp17, ml17, mk17, mn17⟩ := hmt 17 10 120 rfl
  obtain ⟨mp18, ml18, mk18, mn18⟩ := hmt 18 10 6 rfl
  obtain ⟨mp19, ml19, mk19, mn19⟩ := hmt 19 10 6 rfl
  obtain ⟨mp20, ml20, mk20, mn20⟩ := hmt 20 10 6 rfl
  obtain ⟨mp21, ml21, mk21, mn21⟩ := hmt 21 10 6 rfl
  obtain ⟨mp33, ml33, mk33, mn33⟩ := hmt 33 10 24 rfl
  have hn20 := hP.1
  intro q
  induction q with
  | zero =>
    intro i hn
    obtain rfl : i = N := by omega
    refine j_iload E dX7_read_126 rfl ?_
    refine j_aload_n E dX7_read_128 rfl rfl ?_
    refine j_getI (ci := 7) (k := 32) (Cn := RX7) (T := TX7) (N := 34) E dX7_read_129 hm1 hm2 rfl (by decide) hinX7 (by decide +kernel) rfl ?_
    try simp only [pI_m hinj, pF_m hinj, pI_2, pF_1, Nat.reduceEqDiff, Nat.reduceLT, Nat.reduceLeDiff, eq_self, ↓reduceIte, (fun i M => mCpN_o (r := r) (mne hinj (i := 0) (j := 17) (by decide) (by decide) (by decide)) i M), (fun i M => mCpN_o (r := r) (mne hinj (i := 33) (j := 17) (by decide) (by decide) (by decide)) i M)]
    refine j_icmp_ge (tgt := 160) E dX7_read_132 (by decide) (fun h132 => ?_) (fun h132 => ?_)
    · refine j_aload_n E dX7_read_160 rfl rfl ?_
      refine j_getP (ci := 7) (k := 18) (Cn := RX7) (T := TX7) (N := 34) E dX7_read_161 hm1 hm2 rfl (by decide) hinX7 (by decide +kernel) rfl mp18 ?_
      refine j_iload_n E dX7_read_164 rfl rfl ?_
      refine j_aload_n E dX7_read_165 rfl rfl ?_
      refine j_getI (ci := 7) (k := 32) (Cn := RX7) (T := TX7) (N := 34) E dX7_read_166 hm1 hm2 rfl (by decide) hinX7 (by decide +kernel) rfl ?_
      try simp only [pI_m hinj, pF_m hinj, pI_2, pF_1, Nat.reduceEqDiff, Nat.reduceLT, Nat.reduceLeDiff, eq_self, ↓reduceIte, (fun i M => mCpN_o (r := r) (mne hinj (i := 0) (j := 17) (by decide) (by decide) (by decide)) i M), (fun i M => mCpN_o (r := r) (mne hinj (i := 33) (j := 17) (by decide) (by decide) (by decide)) i M)]
      refine j_iast E dX7_read_169 ml18 mn18 rfl hr (by decide) mk18 ?_
      refine j_aload_n E dX7_read_170 rfl rfl ?_
      refine j_getP (ci := 7) (k := 19) (Cn := RX7) (T := TX7) (N := 34) E dX7_read_171 hm1 hm2 rfl (by decide) hinX7 (by decide +kernel) rfl mp19 ?_
      refine j_iload_n E dX7_read_174 rfl rfl ?_
      refine j_aload_n E dX7_read_175 rfl rfl ?_
      refine j_iload_n E dX7_read_176 rfl rfl ?_
      refine j_iconst (v := 1) E dX7_read_177 (by decide) ?_
      refine j_iadd E dX7_read_178 ?_
      rw [nI_1]
      refine j_callV1 (ci := 7) (n := 1) E (k_X7_look hM0 (okP_w hinj 18 (by decide) (by decide) (by decide) (okP_c hinj hP)) (by omega)) dX7_read_179 gX7_read_X7_look rfl (by decide +kernel) ⟨rfl, rfl, by decide, by decide⟩ ⟨Nat.zero_le _, Nat.zero_le _⟩ hm1 hm2 rfl rfl rfl (Nat.le_of_ble_eq_true rfl) rfl ?_
      rw [mLk_w hinj 18 (by decide) (by decide) (by decide), mLk_c hinj]
      refine j_bipush (v := 48) E dX7_read_182 (by decide) ?_
      refine j_isub E dX7_read_184 ?_
      refine j_iast E dX7_read_185 ml19 mn19 rfl hr (by decide) mk19 ?_
      refine j_aload_n E dX7_read_186 rfl rfl ?_
      refine j_getP (ci := 7) (k := 20) (Cn := RX7) (T := TX7) (N := 34) E dX7_read_187 hm1 hm2 rfl (by decide) hinX7 (by decide +kernel) rfl mp20 ?_
      refine j_iload_n E dX7_read_190 rfl rfl ?_
      refine j_iload_n E dX7_read_191 rfl rfl ?_
      refine j_if_eq (tgt := 208) E dX7_read_192 (by decide) (fun h192 => ?_) (fun h192 => ?_)
      · refine j_iconst (v := 0) E dX7_read_208 (by decide) ?_
        refine j_iast E dX7_read_209 ml20 mn20 rfl hr (by decide) mk20 ?_
        refine j_aload_n E dX7_read_210 rfl rfl ?_
        refine j_getP (ci := 7) (k := 21) (Cn := RX7) (T := TX7) (N := 34) E dX7_read_211 hm1 hm2 rfl (by decide) hinX7 (by decide +kernel) rfl mp21 ?_
        refine j_iload_n E dX7_read_214 rfl rfl ?_
        refine j_iconst (v := 0) E dX7_read_215 (by decide) ?_
        refine j_iast E dX7_read_216 ml21 mn21 rfl hr (by decide) mk21 ?_
        refine j_iconst (v := -1) E dX7_read_217 (by decide) ?_
        exact j_iret E dX7_read_218 (by simp [mRdW, h132, h192]) rfl (by simp [mRdW, h132, h192])
      · refine j_aload_n E dX7_read_195 rfl rfl ?_
        refine j_iload_n E dX7_read_196 rfl rfl ?_
        refine j_iconst (v := 3) E dX7_read_197 (by decide) ?_
        refine j_iadd E dX7_read_198 ?_
        rw [nI_3]
        refine j_callV1 (ci := 7) (n := 1) E (k_X7_look hM0 (okP_w hinj 19 (by decide) (by decide) (by decide) (okP_w hinj 18 (by decide) (by decide) (by decide) (okP_c hinj hP))) (by omega)) dX7_read_199 gX7_read_X7_look rfl (by decide +kernel) ⟨rfl, rfl, by decide, by decide⟩ ⟨Nat.zero_le _, Nat.zero_le _⟩ hm1 hm2 rfl rfl rfl (Nat.le_of_ble_eq_true rfl) rfl ?_
        rw [mLk_w hinj 19 (by decide) (by decide) (by decide), mLk_w hinj 18 (by decide) (by decide) (by decide), mLk_c hinj]
        refine j_bipush (v := 48) E dX7_read_202 (by decide) ?_
        refine j_isub E dX7_read_204 ?_
        refine j_goto (tgt := 209) E dX7_read_205 (by decide) ?_
        refine j_iast E dX7_read_209 ml20 mn20 rfl hr (by decide) mk20 ?_
        refine j_aload_n E dX7_read_210 rfl rfl ?_
        refine j_getP (ci := 7) (k := 21) (Cn := RX7) (T := TX7) (N := 34) E dX7_read_211 hm1 hm2 rfl (by decide) hinX7 (by decide +kernel) rfl mp21 ?_
        refine j_iload_n E dX7_read_214 rfl rfl ?_
        refine j_iconst (v := 0) E dX7_read_215 (by decide) ?_
        refine j_iast E dX7_read_216 ml21 mn21 rfl hr (by decide) mk21 ?_
        refine j_iconst (v := -1) E dX7_read_217 (by decide) ?_
        exact j_iret E dX7_read_218 (by simp [mRdW, h132, h192]) rfl (by simp [mRdW, h132, h192])
    · exact absurd (by rw [hN]; exact nI_le (Nat.le_refl _) (by omega)) h132
  | succ q ih =>
    intro i hn
    refine j_iload E dX7_read_126 rfl ?_
    refine j_aload_n E dX7_read_128 rfl rfl ?_
    refine j_getI (ci := 7) (k := 32) (Cn := RX7) (T := TX7) (N := 34) E dX7_read_129 hm1 hm2 rfl (by decide) hinX7 (by decide +kernel) rfl ?_
    try simp only [pI_m hinj, pF_m hinj, pI_2, pF_1, Nat.reduceEqDiff, Nat.reduceLT, Nat.reduceLeDiff, eq_self, ↓reduceIte, (fun i M => mCpN_o (r := r) (mne hinj (i := 0) (j := 17) (by decide) (by decide) (by decide)) i M), (fun i M => mCpN_o (r := r) (mne hinj (i := 33) (j := 17) (by decide) (by decide) (by decide)) i M)]
    refine j_icmp_ge (tgt := 160) E dX7_read_132 (by decide) (fun h132 => ?_) (fun h132 => ?_)
    · exact absurd h132 (by rw [hN]; exact nI_ge (by omega) (by omega))
    · refine j_aload_n E dX7_read_135 rfl rfl ?_
      refine j_getP (ci := 7) (k := 17) (Cn := RX7) (T := TX7) (N := 34) E dX7_read_136 hm1 hm2 rfl (by decide) hinX7 (by decide +kernel) rfl mp17 ?_
      refine j_bipush (v := 20) E dX7_read_139 (by decide) ?_
      refine j_iload_n E dX7_read_141 rfl rfl ?_
      refine j_imul E dX7_read_142 ?_
      refine j_iload E dX7_read_143 rfl ?_
      refine j_iadd E dX7_read_145 ?_
      refine j_aload_n E dX7_read_146 rfl rfl ?_
      refine j_getP (ci := 7) (k := 33) (Cn := RX7) (T := TX7) (N := 34) E dX7_read_147 hm1 hm2 rfl (by decide) hinX7 (by decide +kernel) rfl mp33 ?_
      refine j_iload E dX7_read_150 rfl ?_
      refine j_iald E dX7_read_152 ml33 mn33 rfl (by omega) (by decide) mk33 ?_
      try simp only [pI_m hinj, pF_m hinj, pI_2, pF_1, Nat.reduceEqDiff, Nat.reduceLT, Nat.reduceLeDiff, eq_self, ↓reduceIte, (fun i M => mCpN_o (r := r) (mne hinj (i := 0) (j := 17) (by decide) (by decide) (by decide)) i M), (fun i M => mCpN_o (r := r) (mne hinj (i := 33) (j := 17) (by decide) (by decide) (by decide)) i M)]
      refine j_iast E dX7_read_153 ml17 mn17 (mix20 r i) (by omega) (by decide) mk17 ?_
      refine j_iinc E dX7_read_154 rfl (by decide) ?_
      refine j_goto (tgt := 126) E dX7_read_157 (by decide) ?_
      exact j_lv [0, 1, 2, 3, 4] rfl (by rw [nI_inc]; exact ih (i + 1) (by omega))

set_option maxHeartbeats 1600000 in
set_option maxRecDepth 100000 in
theorem k_X7_read {l : Launch} {D : va_G} {cy : Nat → ClassId} {X : va_W} {G : pG} {M : pM} {m : Nat → Nat} {n r : Nat} (hM : wM G m) (hP : okP M m n) (hr : r < 6) : jK l yX7_read wsX7_read ({ frames := 3, cells := 0, slots := 0, locals := 65 } : Room) D cy X G M [.ref (m 0), .int (nI r)] (some (.int (mRead M m r).1)) X (mRead M m r).2 := by
  refine jK_of (own := RX7) (by decide) rfl rfl (Nat.le_of_ble_eq_true rfl) (fun C E hl hD hcy hG => ?_)
  subst hl; subst hD; subst hcy; subst hG
  have hinX7 : ∀ w ∈ u_ws RX7 TX7 34, w ∈ wsX7_read := by decide +kernel
  have hM0 := hM
  obtain ⟨hm1, hm2, hmt, hinj⟩ := hM
  obtain ⟨mp17, ml17, mk17, mn17⟩ := hmt 17 10 120 rfl
  obtain ⟨mp18, ml18, mk18, mn18⟩ := hmt 18 10 6 rfl
  obtain ⟨mp19, ml19, mk19, mn19⟩ := hmt 19 10 6 rfl
  obtain ⟨mp20, ml20, mk20, mn20⟩ := hmt 20 10 6 rfl
  obtain ⟨mp21, ml21, mk21, mn21⟩ := hmt 21 10 6 rfl
  obtain ⟨mp33, ml33, mk33, mn33⟩ := hmt 33 10 24 rfl
  have hn20 := hP.1
  obtain ⟨⟨W, N, hiv, hWN⟩, hsh⟩ := mCond_sh hinj hP
  have eN : ((mCond M m).2.1 (m 0) 32).toNatClampNeg = N := by rw [hiv.2.2, nI_clamp (by omega)]
  refine j_aload_n E dX7_read_0 rfl rfl ?_
  refine j_callV1 (ci := 7) (n := 0) E (k_X7_condition hM0 hP) dX7_read_1 gX7_read_X7_condition rfl (by decide +kernel) ⟨rfl, rfl, by decide, by decide⟩ ⟨Nat.zero_le _, Nat.zero_le _⟩ hm1 hm2 rfl rfl rfl (Nat.le_of_ble_eq_true rfl) rfl ?_
  refine j_istore_n E dX7_read_4 rfl (by decide) ?_
  refine j_iload_n E dX7_read_5 rfl rfl ?_
  refine j_if_ge (tgt := 13) E dX7_read_6 (by decide) (fun h6 => ?_) (fun h6 => ?_)
  · obtain ⟨j, hj, ej⟩ := hsh.resolve_left (fun h => h h6)
    have hrd : mRead M m r = mRead2 (mCond M m).2 m r j := by unfold mRead; rw [if_pos h6, ej, nI_clamp (by omega)]
    rw [hrd, ej]
    refine j_aload_n E dX7_read_13 rfl rfl ?_
    refine j_iload_n E dX7_read_14 rfl rfl ?_
    refine j_iconst (v := 1) E dX7_read_15 (by decide) ?_
    refine j_iadd E dX7_read_16 ?_
    rw [nI_1]
    refine j_callV1 (ci := 7) (n := 1) E (k_X7_look hM0 hiv.1 (by omega)) dX7_read_17 gX7_read_X7_look rfl (by decide +kernel) ⟨rfl, rfl, by decide, by decide⟩ ⟨Nat.zero_le _, Nat.zero_le _⟩ hm1 hm2 rfl rfl rfl (Nat.le_of_ble_eq_true rfl) rfl ?_
    refine j_bipush (v := 48) E dX7_read_20 (by decide) ?_
    refine j_icmp_lt (tgt := 37) E dX7_read_22 (by decide) (fun h22 => ?_) (fun h22 => ?_)
    · refine j_iload_n E dX7_read_37 rfl rfl ?_
      refine j_iconst (v := 1) E dX7_read_38 (by decide) ?_
      refine j_iadd E dX7_read_39 ?_
      rw [nI_1]
      exact j_iret E dX7_read_40 (by simp [mRead2, h6, h22]) rfl (by simp [mRead2, h6, h22])
    · refine j_aload_n E dX7_read_25 rfl rfl ?_
      refine j_iload_n E dX7_read_26 rfl rfl ?_
      refine j_iconst (v := 1) E dX7_read_27 (by decide) ?_
      refine j_iadd E dX7_read_28 ?_
      rw [nI_1]
      refine j_callV1 (ci := 7) (n := 1) E (k_X7_look hM0 hiv.1 (by omega)) dX7_read_29 gX7_read_X7_look rfl (by decide +kernel) ⟨rfl, rfl, by decide, by decide⟩ ⟨Nat.zero_le _, Nat.zero_le _⟩ hm1 hm2 rfl rfl rfl (Nat.le_of_ble_eq_true rfl) rfl ?_
      refine j_bipush (v := 53) E dX7_read_32 (by decide) ?_
      refine j_icmp_le (tgt := 41) E dX7_read_34 (by decide) (fun h34 => ?_) (fun h34 => ?_)
      · refine j_aload_n E dX7_read_41 rfl rfl ?_
        refine j_iload_n E dX7_read_42 rfl rfl ?_
        refine j_iconst (v := 2) E dX7_read_43 (by decide) ?_
        refine j_iadd E dX7_read_44 ?_
        rw [nI_2]
        refine j_callV1 (ci := 7) (n := 1) E (k_X7_look hM0 hiv.1 (by omega)) dX7_read_45 gX7_read_X7_look rfl (by decide +kernel) ⟨rfl, rfl, by decide, by decide⟩ ⟨Nat.zero_le _, Nat.zero_le _⟩ hm1 hm2 rfl rfl rfl (Nat.le_of_ble_eq_true rfl) rfl ?_
        refine j_bipush (v := 58) E dX7_read_48 (by decide) ?_
        refine j_icmp_ne (tgt := 57) E dX7_read_50 (by decide) (fun h50 => ?_) (fun h50 => ?_)
        · refine j_iconst (v := 0) E dX7_read_57 (by decide) ?_
          refine j_istore_n E dX7_read_58 rfl (by decide) ?_
          refine j_iload_n E dX7_read_59 rfl rfl ?_
          refine j_iconst (v := 2) E dX7_read_60 (by decide) ?_
          refine j_iadd E dX7_read_61 ?_
          refine j_aload_n E dX7_read_62 rfl rfl ?_
          refine j_getI (ci := 7) (k := 23) (Cn := RX7) (T := TX7) (N := 34) E dX7_read_63 hm1 hm2 rfl (by decide) hinX7 (by decide +kernel) rfl ?_
          rw [nI_2]
          refine j_icmp_ge (tgt := 77) E dX7_read_66 (by decide) (fun h66 => ?_) (fun h66 => ?_)
          · refine j_iload_n E dX7_read_77 rfl rfl ?_
            refine j_if_eq (tgt := 109) E dX7_read_78 (by decide) (fun h78 => ?_) (fun h78 => ?_)
            · first
              | exact absurd h78 (by decide)
              | exact absurd (by decide) h78
              | (
                  refine j_iload_n E dX7_read_109 rfl rfl ?_
                  refine j_iconst (v := 4) E dX7_read_110 (by decide) ?_
                  refine j_iadd E dX7_read_111 ?_
                  refine j_aload_n E dX7_read_112 rfl rfl ?_
                  refine j_getI (ci := 7) (k := 23) (Cn := RX7) (T := TX7) (N := 34) E dX7_read_113 hm1 hm2 rfl (by decide) hinX7 (by decide +kernel) rfl ?_
                  rw [nI_4]
                  refine j_icmp_ge (tgt := 123) E dX7_read_116 (by decide) (fun h116 => ?_) (fun h116 => ?_)
                  · refine j_iconst (v := 0) E dX7_read_123 (by decide) ?_
                    refine j_istore E dX7_read_124 (by decide) ?_
                    exact j_lv [0, 1, 2, 3, 4] rfl (j_r (by simp [mRead2, h6, h22, h34, h50, h66, h78, h116]) (by simp [mRead2, eN, h6, h22, h34, h50, h66, h78, h116]) (kl_X7_read_126 E hM0 hiv.1 hiv.2.2 (by omega) hr hj N 0 (by omega)))
                  · refine j_iload_n E dX7_read_119 rfl rfl ?_
                    refine j_iconst (v := 4) E dX7_read_120 (by decide) ?_
                    refine j_iadd E dX7_read_121 ?_
                    rw [nI_4]
                    exact j_iret E dX7_read_122 (by simp [mRead2, h6, h22, h34, h50, h66, h78, h116]) rfl (by simp [mRead2, h6, h22, h34, h50, h66, h78, h116])
                )
            · first
              | exact absurd h78 (by decide)
              | exact absurd (by decide) h78
              | (
                  refine j_aload_n E dX7_read_81 rfl rfl ?_
                  refine j_iload_n E dX7_read_82 rfl rfl ?_
                  refine j_iconst (v := 3) E dX7_read_83 (by decide) ?_
                  refine j_iadd E dX7_read_84 ?_
                  rw [nI_3]
                  refine j_callV1 (ci := 7) (n := 1) E (k_X7_look hM0 hiv.1 (by omega)) dX7_read_85 gX7_read_X7_look rfl (by decide +kernel) ⟨rfl, rfl, by decide, by decide⟩ ⟨Nat.zero_le _, Nat.zero_le _⟩ hm1 hm2 rfl rfl rfl (Nat.le_of_ble_eq_true rfl) rfl ?_
                  refine j_bipush (v := 48) E dX7_read_88 (by decide) ?_
                  refine j_icmp_lt (tgt := 105) E dX7_read_90 (by decide) (fun h90 => ?_) (fun h90 => ?_)
                  · refine j_iload_n E dX7_read_105 rfl rfl ?_
                    refine j_iconst (v := 3) E dX7_read_106 (by decide) ?_
                    refine j_iadd E dX7_read_107 ?_
                    rw [nI_3]
                    exact j_iret E dX7_read_108 (by simp [mRead2, h6, h22, h34, h50, h66, h78, h90]) rfl (by simp [mRead2, h6, h22, h34, h50, h66, h78, h90])
                  · refine j_aload_n E dX7_read_93 rfl rfl ?_
                    refine j_iload_n E dX7_read_94 rfl rfl ?_
                    refine j_iconst (v := 3) E dX7_read_95 (by decide) ?_
                    refine j_iadd E dX7_read_96 ?_
                    rw [nI_3]
                    refine j_callV1 (ci := 7) (n := 1) E (k_X7_look hM0 hiv.1 (by omega)) dX7_read_97 gX7_read_X7_look rfl (by decide +kernel) ⟨rfl, rfl, by decide, by decide⟩ ⟨Nat.zero_le _, Nat.zero_le _⟩ hm1 hm2 rfl rfl rfl (Nat.le_of_ble_eq_true rfl) rfl ?_
                    refine j_bipush (v := 57) E dX7_read_100 (by decide) ?_
                    refine j_icmp_le (tgt := 109) E dX7_read_102 (by decide) (fun h102 => ?_) (fun h102 => ?_)
                    · refine j_iload_n E dX7_read_109 rfl rfl ?_
                      refine j_iconst (v := 4) E dX7_read_110 (by decide) ?_
                      refine j_iadd E dX7_read_111 ?_
                      refine j_aload_n E dX7_read_112 rfl rfl ?_
                      refine j_getI (ci := 7) (k := 23) (Cn := RX7) (T := TX7) (N := 34) E dX7_read_113 hm1 hm2 rfl (by decide) hinX7 (by decide +kernel) rfl ?_
                      rw [nI_4]
                      refine j_icmp_ge (tgt := 123) E dX7_read_116 (by decide) (fun h116 => ?_) (fun h116 => ?_)
                      · refine j_iconst (v := 0) E dX7_read_123 (by decide) ?_
                        refine j_istore E dX7_read_124 (by decide) ?_
                        exact j_lv [0, 1, 2, 3, 4] rfl (j_r (by simp [mRead2, h6, h22, h34, h50, h66, h78, h90, h102, h116]) (by simp [mRead2, eN, h6, h22, h34, h50, h66, h78, h90, h102, h116]) (kl_X7_read_126 E hM0 hiv.1 hiv.2.2 (by omega) hr hj N 0 (by omega)))
                      · refine j_iload_n E dX7_read_119 rfl rfl ?_
                        refine j_iconst (v := 4) E dX7_read_120 (by decide) ?_
                        refine j_iadd E dX7_read_121 ?_
                        rw [nI_4]
                        exact j_iret E dX7_read_122 (by simp [mRead2, h6, h22, h34, h50, h66, h78, h90, h102, h116]) rfl (by simp [mRead2, h6, h22, h34, h50, h66, h78, h90, h102, h116])
                    · refine j_iload_n E dX7_read_105 rfl rfl ?_
                      refine j_iconst (v := 3) E dX7_read_106 (by decide) ?_
                      refine j_iadd E dX7_read_107 ?_
                      rw [nI_3]
                      exact j_iret E dX7_read_108 (by simp [mRead2, h6, h22, h34, h50, h66, h78, h90, h102]) rfl (by simp [mRead2, h6, h22, h34, h50, h66, h78, h90, h102])
                )
          · refine j_iload_n E dX7_read_69 rfl rfl ?_
            refine j_if_ne (tgt := 77) E dX7_read_70 (by decide) (fun h70 => ?_) (fun h70 => ?_)
            · first
              | exact absurd h70 (by decide)
              | exact absurd (by decide) h70
              | (
                  refine j_iload_n E dX7_read_77 rfl rfl ?_
                  refine j_if_eq (tgt := 109) E dX7_read_78 (by decide) (fun h78 => ?_) (fun h78 => ?_)
                  · first
                    | exact absurd h78 (by decide)
                    | exact absurd (by decide) h78
                    | (
                        refine j_iload_n E dX7_read_109 rfl rfl ?_
                        refine j_iconst (v := 4) E dX7_read_110 (by decide) ?_
                        refine j_iadd E dX7_read_111 ?_
                        refine j_aload_n E dX7_read_112 rfl rfl ?_
                        refine j_getI (ci := 7) (k := 23) (Cn := RX7) (T := TX7) (N := 34) E dX7_read_113 hm1 hm2 rfl (by decide) hinX7 (by decide +kernel) rfl ?_
                        rw [nI_4]
                        refine j_icmp_ge (tgt := 123) E dX7_read_116 (by decide) (fun h116 => ?_) (fun h116 => ?_)
                        · refine j_iconst (v := 0) E dX7_read_123 (by decide) ?_
                          refine j_istore E dX7_read_124 (by decide) ?_
                          exact j_lv [0, 1, 2, 3, 4] rfl (j_r (by simp [mRead2, h6, h22, h34, h50, h66, h70, h78, h116]) (by simp [mRead2, eN, h6, h22, h34, h50, h66, h70, h78, h116]) (kl_X7_read_126 E hM0 hiv.1 hiv.2.2 (by omega) hr hj N 0 (by omega)))
                        · refine j_iload_n E dX7_read_119 rfl rfl ?_
                          refine j_iconst (v := 4) E dX7_read_120 (by decide) ?_
                          refine j_iadd E dX7_read_121 ?_
                          rw [nI_4]
                          exact j_iret E dX7_read_122 (by simp [mRead2, h6, h22, h34, h50, h66, h70, h78, h116]) rfl (by simp [mRead2, h6, h22, h34, h50, h66, h70, h78, h116])
                      )
                  · first
                    | exact absurd h78 (by decide)
                    | exact absurd (by decide) h78
                    | (
                        refine j_aload_n E dX7_read_81 rfl rfl ?_
                        refine j_iload_n E dX7_read_82 rfl rfl ?_
                        refine j_iconst (v := 3) E dX7_read_83 (by decide) ?_
                        refine j_iadd E dX7_read_84 ?_
                        rw [nI_3]
                        refine j_callV1 (ci := 7) (n := 1) E (k_X7_look hM0 hiv.1 (by omega)) dX7_read_85 gX7_read_X7_look rfl (by decide +kernel) ⟨rfl, rfl, by decide, by decide⟩ ⟨Nat.zero_le _, Nat.zero_le _⟩ hm1 hm2 rfl rfl rfl (Nat.le_of_ble_eq_true rfl) rfl ?_
                        refine j_bipush (v := 48) E dX7_read_88 (by decide) ?_
                        refine j_icmp_lt (tgt := 105) E dX7_read_90 (by decide) (fun h90 => ?_) (fun h90 => ?_)
                        · refine j_iload_n E dX7_read_105 rfl rfl ?_
                          refine j_iconst (v := 3) E dX7_read_106 (by decide) ?_
                          refine j_iadd E dX7_read_107 ?_
                          rw [nI_3]
                          exact j_iret E dX7_read_108 (by simp [mRead2, h6, h22, h34, h50, h66, h70, h78, h90]) rfl (by simp [mRead2, h6, h22, h34, h50, h66, h70, h78, h90])
                        · refine j_aload_n E dX7_read_93 rfl rfl ?_
                          refine j_iload_n E dX7_read_94 rfl rfl ?_
                          refine j_iconst (v := 3) E dX7_read_95 (by decide) ?_
                          refine j_iadd E dX7_read_96 ?_
                          rw [nI_3]
                          refine j_callV1 (ci := 7) (n := 1) E (k_X7_look hM0 hiv.1 (by omega)) dX7_read_97 gX7_read_X7_look rfl (by decide +kernel) ⟨rfl, rfl, by decide, by decide⟩ ⟨Nat.zero_le _, Nat.zero_le _⟩ hm1 hm2 rfl rfl rfl (Nat.le_of_ble_eq_true rfl) rfl ?_
                          refine j_bipush (v := 57) E dX7_read_100 (by decide) ?_
                          refine j_icmp_le (tgt := 109) E dX7_read_102 (by decide) (fun h102 => ?_) (fun h102 => ?_)
                          · refine j_iload_n E dX7_read_109 rfl rfl ?_
                            refine j_iconst (v := 4) E dX7_read_110 (by decide) ?_
                            refine j_iadd E dX7_read_111 ?_
                            refine j_aload_n E dX7_read_112 rfl rfl ?_
                            refine j_getI (ci := 7) (k := 23) (Cn := RX7) (T := TX7) (N := 34) E dX7_read_113 hm1 hm2 rfl (by decide) hinX7 (by decide +kernel) rfl ?_
                            rw [nI_4]
                            refine j_icmp_ge (tgt := 123) E dX7_read_116 (by decide) (fun h116 => ?_) (fun h116 => ?_)
                            · refine j_iconst (v := 0) E dX7_read_123 (by decide) ?_
                              refine j_istore E dX7_read_124 (by decide) ?_
                              exact j_lv [0, 1, 2, 3, 4] rfl (j_r (by simp [mRead2, h6, h22, h34, h50, h66, h70, h78, h90, h102, h116]) (by simp [mRead2, eN, h6, h22, h34, h50, h66, h70, h78, h90, h102, h116]) (kl_X7_read_126 E hM0 hiv.1 hiv.2.2 (by omega) hr hj N 0 (by omega)))
                            · refine j_iload_n E dX7_read_119 rfl rfl ?_
                              refine j_iconst (v := 4) E dX7_read_120 (by decide) ?_
                              refine j_iadd E dX7_read_121 ?_
                              rw [nI_4]
                              exact j_iret E dX7_read_122 (by simp [mRead2, h6, h22, h34, h50, h66, h70, h78, h90, h102, h116]) rfl (by simp [mRead2, h6, h22, h34, h50, h66, h70, h78, h90, h102, h116])
                          · refine j_iload_n E dX7_read_105 rfl rfl ?_
                            refine j_iconst (v := 3) E dX7_read_106 (by decide) ?_
                            refine j_iadd E dX7_read_107 ?_
                            rw [nI_3]
                            exact j_iret E dX7_read_108 (by simp [mRead2, h6, h22, h34, h50, h66, h70, h78, h90, h102]) rfl (by simp [mRead2, h6, h22, h34, h50, h66, h70, h78, h90, h102])
                      )
                )
            · first
              | exact absurd h70 (by decide)
              | exact absurd (by decide) h70
              | (
                  refine j_iload_n E dX7_read_73 rfl rfl ?_
                  refine j_iconst (v := 2) E dX7_read_74 (by decide) ?_
                  refine j_iadd E dX7_read_75 ?_
                  rw [nI_2]
                  exact j_iret E dX7_read_76 (by simp [mRead2, h6, h22, h34, h50, h66, h70]) rfl (by simp [mRead2, h6, h22, h34, h50, h66, h70])
                )
        · refine j_iconst (v := 1) E dX7_read_53 (by decide) ?_
          refine j_goto (tgt := 58) E dX7_read_54 (by decide) ?_
          refine j_istore_n E dX7_read_58 rfl (by decide) ?_
          refine j_iload_n E dX7_read_59 rfl rfl ?_
          refine j_iconst (v := 2) E dX7_read_60 (by decide) ?_
          refine j_iadd E dX7_read_61 ?_
          refine j_aload_n E dX7_read_62 rfl rfl ?_
          refine j_getI (ci := 7) (k := 23) (Cn := RX7) (T := TX7) (N := 34) E dX7_read_63 hm1 hm2 rfl (by decide) hinX7 (by decide +kernel) rfl ?_
          rw [nI_2]
          refine j_icmp_ge (tgt := 77) E dX7_read_66 (by decide) (fun h66 => ?_) (fun h66 => ?_)
          · refine j_iload_n E dX7_read_77 rfl rfl ?_
            refine j_if_eq (tgt := 109) E dX7_read_78 (by decide) (fun h78 => ?_) (fun h78 => ?_)
            · first
              | exact absurd h78 (by decide)
              | exact absurd (by decide) h78
              | (
                  refine j_iload_n E dX7_read_109 rfl rfl ?_
                  refine j_iconst (v := 4) E dX7_read_110 (by decide) ?_
                  refine j_iadd E dX7_read_111 ?_
                  refine j_aload_n E dX7_read_112 rfl rfl ?_
                  refine j_getI (ci := 7) (k := 23) (Cn := RX7) (T := TX7) (N := 34) E dX7_read_113 hm1 hm2 rfl (by decide) hinX7 (by decide +kernel) rfl ?_
                  rw [nI_4]
                  refine j_icmp_ge (tgt := 123) E dX7_read_116 (by decide) (fun h116 => ?_) (fun h116 => ?_)
                  · refine j_iconst (v := 0) E dX7_read_123 (by decide) ?_
                    refine j_istore E dX7_read_124 (by decide) ?_
                    exact j_lv [0, 1, 2, 3, 4] rfl (j_r (by simp [mRead2, h6, h22, h34, h50, h66, h78, h116]) (by simp [mRead2, eN, h6, h22, h34, h50, h66, h78, h116]) (kl_X7_read_126 E hM0 hiv.1 hiv.2.2 (by omega) hr hj N 0 (by omega)))
                  · refine j_iload_n E dX7_read_119 rfl rfl ?_
                    refine j_iconst (v := 4) E dX7_read_120 (by decide) ?_
                    refine j_iadd E dX7_read_121 ?_
                    rw [nI_4]
                    exact j_iret E dX7_read_122 (by simp [mRead2, h6, h22, h34, h50, h66, h78, h116]) rfl (by simp [mRead2, h6, h22, h34, h50, h66, h78, h116])
                )
            · first
              | exact absurd h78 (by decide)
              | exact absurd (by decide) h78
              | (
                  refine j_aload_n E dX7_read_81 rfl rfl ?_
                  refine j_iload_n E dX7_read_82 rfl rfl ?_
                  refine j_iconst (v := 3) E dX7_read_83 (by decide) ?_
                  refine j_iadd E dX7_read_84 ?_
                  rw [nI_3]
                  refine j_callV1 (ci := 7) (n := 1) E (k_X7_look hM0 hiv.1 (by omega)) dX7_read_85 gX7_read_X7_look rfl (by decide +kernel) ⟨rfl, rfl, by decide, by decide⟩ ⟨Nat.zero_le _, Nat.zero_le _⟩ hm1 hm2 rfl rfl rfl (Nat.le_of_ble_eq_true rfl) rfl ?_
                  refine j_bipush (v := 48) E dX7_read_88 (by decide) ?_
                  refine j_icmp_lt (tgt := 105) E dX7_read_90 (by decide) (fun h90 => ?_) (fun h90 => ?_)
                  · refine j_iload_n E dX7_read_105 rfl rfl ?_
                    refine j_iconst (v := 3) E dX7_read_106 (by decide) ?_
                    refine j_iadd E dX7_read_107 ?_
                    rw [nI_3]
                    exact j_iret E dX7_read_108 (by simp [mRead2, h6, h22, h34, h50, h66, h78, h90]) rfl (by simp [mRead2, h6, h22, h34, h50, h66, h78, h90])
                  · refine j_aload_n E dX7_read_93 rfl rfl ?_
                    refine j_iload_n E dX7_read_94 rfl rfl ?_
                    refine j_iconst (v := 3) E dX7_read_95 (by decide) ?_
                    refine j_iadd E dX7_read_96 ?_
                    rw [nI_3]
                    refine j_callV1 (ci := 7) (n := 1) E (k_X7_look hM0 hiv.1 (by omega)) dX7_read_97 gX7_read_X7_look rfl (by decide +kernel) ⟨rfl, rfl, by decide, by decide⟩ ⟨Nat.zero_le _, Nat.zero_le _⟩ hm1 hm2 rfl rfl rfl (Nat.le_of_ble_eq_true rfl) rfl ?_
                    refine j_bipush (v := 57) E dX7_read_100 (by decide) ?_
                    refine j_icmp_le (tgt := 109) E dX7_read_102 (by decide) (fun h102 => ?_) (fun h102 => ?_)
                    · refine j_iload_n E dX7_read_109 rfl rfl ?_
                      refine j_iconst (v := 4) E dX7_read_110 (by decide) ?_
                      refine j_iadd E dX7_read_111 ?_
                      refine j_aload_n E dX7_read_112 rfl rfl ?_
                      refine j_getI (ci := 7) (k := 23) (Cn := RX7) (T := TX7) (N := 34) E dX7_read_113 hm1 hm2 rfl (by decide) hinX7 (by decide +kernel) rfl ?_
                      rw [nI_4]
                      refine j_icmp_ge (tgt := 123) E dX7_read_116 (by decide) (fun h116 => ?_) (fun h116 => ?_)
                      · refine j_iconst (v := 0) E dX7_read_123 (by decide) ?_
                        refine j_istore E dX7_read_124 (by decide) ?_
                        exact j_lv [0, 1, 2, 3, 4] rfl (j_r (by simp [mRead2, h6, h22, h34, h50, h66, h78, h90, h102, h116]) (by simp [mRead2, eN, h6, h22, h34, h50, h66, h78, h90, h102, h116]) (kl_X7_read_126 E hM0 hiv.1 hiv.2.2 (by omega) hr hj N 0 (by omega)))
                      · refine j_iload_n E dX7_read_119 rfl rfl ?_
                        refine j_iconst (v := 4) E dX7_read_120 (by decide) ?_
                        refine j_iadd E dX7_read_121 ?_
                        rw [nI_4]
                        exact j_iret E dX7_read_122 (by simp [mRead2, h6, h22, h34, h50, h66, h78, h90, h102, h116]) rfl (by simp [mRead2, h6, h22, h34, h50, h66, h78, h90, h102, h116])
                    · refine j_iload_n E dX7_read_105 rfl rfl ?_
                      refine j_iconst (v := 3) E dX7_read_106 (by decide) ?_
                      refine j_iadd E dX7_read_107 ?_
                      rw [nI_3]
                      exact j_iret E dX7_read_108 (by simp [mRead2, h6, h22, h34, h50, h66, h78, h90, h102]) rfl (by simp [mRead2, h6, h22, h34, h50, h66, h78, h90, h102])
                )
          · refine j_iload_n E dX7_read_69 rfl rfl ?_
            refine j_if_ne (tgt := 77) E dX7_read_70 (by decide) (fun h70 => ?_) (fun h70 => ?_)
            · first
              | exact absurd h70 (by decide)
              | exact absurd (by decide) h70
              | (
                  refine j_iload_n E dX7_read_77 rfl rfl ?_
                  refine j_if_eq (tgt := 109) E dX7_read_78 (by decide) (fun h78 => ?_) (fun h78 => ?_)
                  · first
                    | exact absurd h78 (by decide)
                    | exact absurd (by decide) h78
                    | (
                        refine j_iload_n E dX7_read_109 rfl rfl ?_
                        refine j_iconst (v := 4) E dX7_read_110 (by decide) ?_
                        refine j_iadd E dX7_read_111 ?_
                        refine j_aload_n E dX7_read_112 rfl rfl ?_
                        refine j_getI (ci := 7) (k := 23) (Cn := RX7) (T := TX7) (N := 34) E dX7_read_113 hm1 hm2 rfl (by decide) hinX7 (by decide +kernel) rfl ?_
                        rw [nI_4]
                        refine j_icmp_ge (tgt := 123) E dX7_read_116 (by decide) (fun h116 => ?_) (fun h116 => ?_)
                        · refine j_iconst (v := 0) E dX7_read_123 (by decide) ?_
                          refine j_istore E dX7_read_124 (by decide) ?_
                          exact j_lv [0, 1, 2, 3, 4] rfl (j_r (by simp [mRead2, h6, h22, h34, h50, h66, h70, h78, h116]) (by simp [mRead2, eN, h6, h22, h34, h50, h66, h70, h78, h116]) (kl_X7_read_126 E hM0 hiv.1 hiv.2.2 (by omega) hr hj N 0 (by omega)))
                        · refine j_iload_n E dX7_read_119 rfl rfl ?_
                          refine j_iconst (v := 4) E dX7_read_120 (by decide) ?_
                          refine j_iadd E dX7_read_121 ?_
                          rw [nI_4]
                          exact j_iret E dX7_read_122 (by simp [mRead2, h6, h22, h34, h50, h66, h70, h78, h116]) rfl (by simp [mRead2, h6, h22, h34, h50, h66, h70, h78, h116])
                      )
                  · first
                    | exact absurd h78 (by decide)
                    | exact absurd (by decide) h78
                    | (
                        refine j_aload_n E dX7_read_81 rfl rfl ?_
                        refine j_iload_n E dX7_read_82 rfl rfl ?_
                        refine j_iconst (v := 3) E dX7_read_83 (by decide) ?_
                        refine j_iadd E dX7_read_84 ?_
                        rw [nI_3]
                        refine j_callV1 (ci := 7) (n := 1) E (k_X7_look hM0 hiv.1 (by omega)) dX7_read_85 gX7_read_X7_look rfl (by decide +kernel) ⟨rfl, rfl, by decide, by decide⟩ ⟨Nat.zero_le _, Nat.zero_le _⟩ hm1 hm2 rfl rfl rfl (Nat.le_of_ble_eq_true rfl) rfl ?_
                        refine j_bipush (v := 48) E dX7_read_88 (by decide) ?_
                        refine j_icmp_lt (tgt := 105) E dX7_read_90 (by decide) (fun h90 => ?_) (fun h90 => ?_)
                        · refine j_iload_n E dX7_read_105 rfl rfl ?_
                          refine j_iconst (v := 3) E dX7_read_106 (by decide) ?_
                          refine j_iadd E dX7_read_107 ?_
                          rw [nI_3]
                          exact j_iret E dX7_read_108 (by simp [mRead2, h6, h22, h34, h50, h66, h70, h78, h90]) rfl (by simp [mRead2, h6, h22, h34, h50, h66, h70, h78, h90])
                        · refine j_aload_n E dX7_read_93 rfl rfl ?_
                          refine j_iload_n E dX7_read_94 rfl rfl ?_
                          refine j_iconst (v := 3) E dX7_read_95 (by decide) ?_
                          refine j_iadd E dX7_read_96 ?_
                          rw [nI_3]
                          refine j_callV1 (ci := 7) (n := 1) E (k_X7_look hM0 hiv.1 (by omega)) dX7_read_97 gX7_read_X7_look rfl (by decide +kernel) ⟨rfl, rfl, by decide, by decide⟩ ⟨Nat.zero_le _, Nat.zero_le _⟩ hm1 hm2 rfl rfl rfl (Nat.le_of_ble_eq_true rfl) rfl ?_
                          refine j_bipush (v := 57) E dX7_read_100 (by decide) ?_
                          refine j_icmp_le (tgt := 109) E dX7_read_102 (by decide) (fun h102 => ?_) (fun h102 => ?_)
                          · refine j_iload_n E dX7_read_109 rfl rfl ?_
                            refine j_iconst (v := 4) E dX7_read_110 (by decide) ?_
                            refine j_iadd E dX7_read_111 ?_
                            refine j_aload_n E dX7_read_112 rfl rfl ?_
                            refine j_getI (ci := 7) (k := 23) (Cn := RX7) (T := TX7) (N := 34) E dX7_read_113 hm1 hm2 rfl (by decide) hinX7 (by decide +kernel) rfl ?_
                            rw [nI_4]
                            refine j_icmp_ge (tgt := 123) E dX7_read_116 (by decide) (fun h116 => ?_) (fun h116 => ?_)
                            · refine j_iconst (v := 0) E dX7_read_123 (by decide) ?_
                              refine j_istore E dX7_read_124 (by decide) ?_
                              exact j_lv [0, 1, 2, 3, 4] rfl (j_r (by simp [mRead2, h6, h22, h34, h50, h66, h70, h78, h90, h102, h116]) (by simp [mRead2, eN, h6, h22, h34, h50, h66, h70, h78, h90, h102, h116]) (kl_X7_read_126 E hM0 hiv.1 hiv.2.2 (by omega) hr hj N 0 (by omega)))
                            · refine j_iload_n E dX7_read_119 rfl rfl ?_
                              refine j_iconst (v := 4) E dX7_read_120 (by decide) ?_
                              refine j_iadd E dX7_read_121 ?_
                              rw [nI_4]
                              exact j_iret E dX7_read_122 (by simp [mRead2, h6, h22, h34, h50, h66, h70, h78, h90, h102, h116]) rfl (by simp [mRead2, h6, h22, h34, h50, h66, h70, h78, h90, h102, h116])
                          · refine j_iload_n E dX7_read_105 rfl rfl ?_
                            refine j_iconst (v := 3) E dX7_read_106 (by decide) ?_
                            refine j_iadd E dX7_read_107 ?_
                            rw [nI_3]
                            exact j_iret E dX7_read_108 (by simp [mRead2, h6, h22, h34, h50, h66, h70, h78, h90, h102]) rfl (by simp [mRead2, h6, h22, h34, h50, h66, h70, h78, h90, h102])
                      )
                )
            · first
              | exact absurd h70 (by decide)
              | exact absurd (by decide) h70
              | (
                  refine j_iload_n E dX7_read_73 rfl rfl ?_
                  refine j_iconst (v := 2) E dX7_read_74 (by decide) ?_
                  refine j_iadd E dX7_read_75 ?_
                  rw [nI_2]
                  exact j_iret E dX7_read_76 (by simp [mRead2, h6, h22, h34, h50, h66, h70]) rfl (by simp [mRead2, h6, h22, h34, h50, h66, h70])
                )
      · refine j_iload_n E dX7_read_37 rfl rfl ?_
        refine j_iconst (v := 1) E dX7_read_38 (by decide) ?_
        refine j_iadd E dX7_read_39 ?_
        rw [nI_1]
        exact j_iret E dX7_read_40 (by simp [mRead2, h6, h22, h34]) rfl (by simp [mRead2, h6, h22, h34])
  · refine j_iconst (v := -1) E dX7_read_9 (by decide) ?_
    refine j_iload_n E dX7_read_10 rfl rfl ?_
    refine j_isub E dX7_read_11 ?_
    exact j_iret E dX7_read_12 (by simp [mRead, h6]) rfl (by simp [mRead, h6])

set_option maxHeartbeats 1600000 in
set_option maxRecDepth 100000 in
theorem k_X7_rule {l : Launch} {D : va_G} {cy : Nat → ClassId} {X : va_W} {G : pG} {M : pM} {m : Nat → Nat} {n : Nat} (hM : wM G m) (hP : okP M m n) (hR : ∃ R : Nat, R ≤ 6 ∧ M.1 (m 0) 16 = nI R) : jK l yX7_rule wsX7_rule ({ frames := 4, cells := 0, slots := 0, locals := 89 } : Room) D cy X G M [.ref (m 0)] (some (.int (mRule M m).1)) X (mRule M m).2 := by
  refine jK_of (own := RX7) (by decide) rfl rfl (Nat.le_of_ble_eq_true rfl) (fun C E hl hD hcy hG => ?_)
  subst hl; subst hD; subst hcy; subst hG
  have hinX7 : ∀ w ∈ u_ws RX7 TX7 34, w ∈ wsX7_rule := by decide +kernel
  have hM0 := hM
  obtain ⟨hm1, hm2, hmt, hinj⟩ := hM
  obtain ⟨R, hR7, eR⟩ := hR
  refine j_aload_n E dX7_rule_0 rfl rfl ?_
  refine j_aload_n E dX7_rule_1 rfl rfl ?_
  refine j_getI (ci := 7) (k := 26) (Cn := RX7) (T := TX7) (N := 34) E dX7_rule_2 hm1 hm2 rfl (by decide) hinX7 (by decide +kernel) rfl ?_
  refine j_iconst (v := 2) E dX7_rule_5 (by decide) ?_
  refine j_icmp_lt (tgt := 18) E dX7_rule_6 (by decide) (fun h6 => ?_) (fun h6 => ?_)
  · refine j_iconst (v := 1) E dX7_rule_18 (by decide) ?_
    refine j_goto (tgt := 23) E dX7_rule_19 (by decide) ?_
    refine j_putI (ci := 7) (k := 0) (Cn := RX7) (T := TX7) (N := 34) E dX7_rule_23 hm1 hm2 rfl (by decide) hinX7 (by decide +kernel) rfl tyX7 tyX7_ok nmX7 rfl rfl rfl rfl ?_
    refine j_aload_n E dX7_rule_26 rfl rfl ?_
    refine j_getI (ci := 7) (k := 0) (Cn := RX7) (T := TX7) (N := 34) E dX7_rule_27 hm1 hm2 rfl (by decide) hinX7 (by decide +kernel) rfl ?_
    try simp only [pI_m hinj, pF_m hinj, pI_2, pF_1, Nat.reduceEqDiff, Nat.reduceLT, Nat.reduceLeDiff, eq_self, ↓reduceIte]
    refine j_if_le (tgt := 35) E dX7_rule_30 (by decide) (fun h30 => ?_) (fun h30 => ?_)
    · first
      | exact absurd h30 (by decide)
      | exact absurd (by decide) h30
      | (
          have hT0 : mRuT M m = 0 := by simp [mRuT, h6, h15]
          have hR6 : R < 6 := by
            rcases Nat.lt_or_ge R 6 with q | q
            · exact q
            · exact absurd (by rw [eR, show R = 6 by omega]; rfl) h15
          have eR2 : M.1 (m 0) 16 = nI (M.1 (m 0) 16).toNatClampNeg := by rw [eR, nI_clamp (by omega)]
          refine j_aload_n E dX7_rule_35 rfl rfl ?_
          refine j_aload_n E dX7_rule_36 rfl rfl ?_
          refine j_getI (ci := 7) (k := 16) (Cn := RX7) (T := TX7) (N := 34) E dX7_rule_37 hm1 hm2 rfl (by decide) hinX7 (by decide +kernel) rfl ?_
          try simp only [pI_m hinj, pF_m hinj, pI_2, pF_1, Nat.reduceEqDiff, Nat.reduceLT, Nat.reduceLeDiff, eq_self, ↓reduceIte]
          rw [eR2]
          refine j_callV1 (ci := 7) (n := 1) E (k_X7_read hM0 (okP_ok (by rw [pI_rd, if_neg (by decide)]) (by rw [pI0 hinj _ _ _ 24 (by decide) (by decide)]) hP) (by rw [eR, nI_clamp (by omega)]; exact hR6)) dX7_rule_40 gX7_rule_X7_read rfl (by decide +kernel) ⟨rfl, rfl, by decide, by decide⟩ ⟨Nat.zero_le _, Nat.zero_le _⟩ hm1 hm2 rfl rfl rfl (Nat.le_of_ble_eq_true rfl) rfl ?_
          refine j_istore_n E dX7_rule_43 rfl (by decide) ?_
          refine j_aload_n E dX7_rule_44 rfl rfl ?_
          refine j_iconst (v := 0) E dX7_rule_45 (by decide) ?_
          refine j_putI (ci := 7) (k := 23) (Cn := RX7) (T := TX7) (N := 34) E dX7_rule_46 hm1 hm2 rfl (by decide) hinX7 (by decide +kernel) rfl tyX7 tyX7_ok nmX7 rfl rfl rfl rfl ?_
          refine j_iload_n E dX7_rule_49 rfl rfl ?_
          refine j_if_lt (tgt := 57) E dX7_rule_50 (by decide) (fun h50 => ?_) (fun h50 => ?_)
          · refine j_aload_n E dX7_rule_57 rfl rfl ?_
            refine j_dup E dX7_rule_58 rfl ?_
            refine j_getI (ci := 7) (k := 16) (Cn := RX7) (T := TX7) (N := 34) E dX7_rule_59 hm1 hm2 rfl (by decide) hinX7 (by decide +kernel) rfl ?_
            refine j_iconst (v := 1) E dX7_rule_62 (by decide) ?_
            refine j_iadd E dX7_rule_63 ?_
            refine j_putI (ci := 7) (k := 16) (Cn := RX7) (T := TX7) (N := 34) E dX7_rule_64 hm1 hm2 rfl (by decide) hinX7 (by decide +kernel) rfl tyX7 tyX7_ok nmX7 rfl rfl rfl rfl ?_
            refine j_iconst (v := 0) E dX7_rule_67 (by decide) ?_
            exact j_iret E dX7_rule_68 (by simp [mRule, hT0, mRuM, mRuR, h6, h30, h50]) rfl (by simp [mRule, hT0, mRuM, mRuR, h6, h30, h50])
          · refine j_iconst (v := 1) E dX7_rule_53 (by decide) ?_
            refine j_iload_n E dX7_rule_54 rfl rfl ?_
            refine j_iadd E dX7_rule_55 ?_
            exact j_iret E dX7_rule_56 (by simp [mRule, hT0, mRuM, mRuR, h6, h30, h50]) rfl (by simp [mRule, hT0, mRuM, mRuR, h6, h30, h50])
        )
    · first
      | exact absurd h30 (by decide)
      | exact absurd (by decide) h30
      | (
          refine j_iconst (v := 0) E dX7_rule_33 (by decide) ?_
          exact j_iret E dX7_rule_34 (by simp [mRule, mRuT, h6, h30]) rfl (by simp [mRule, mRuT, h6, h30])
        )
  · refine j_aload_n E dX7_rule_9 rfl rfl ?_
    refine j_getI (ci := 7) (k := 16) (Cn := RX7) (T := TX7) (N := 34) E dX7_rule_10 hm1 hm2 rfl (by decide) hinX7 (by decide +kernel) rfl ?_
    refine j_bipush (v := 6) E dX7_rule_13 (by decide) ?_
    refine j_icmp_ne (tgt := 22) E dX7_rule_15 (by decide) (fun h15 => ?_) (fun h15 => ?_)
    · refine j_iconst (v := 0) E dX7_rule_22 (by decide) ?_
      refine j_putI (ci := 7) (k := 0) (Cn := RX7) (T := TX7) (N := 34) E dX7_rule_23 hm1 hm2 rfl (by decide) hinX7 (by decide +kernel) rfl tyX7 tyX7_ok nmX7 rfl rfl rfl rfl ?_
      refine j_aload_n E dX7_rule_26 rfl rfl ?_
      refine j_getI (ci := 7) (k := 0) (Cn := RX7) (T := TX7) (N := 34) E dX7_rule_27 hm1 hm2 rfl (by decide) hinX7 (by decide +kernel) rfl ?_
      try simp only [pI_m hinj, pF_m hinj, pI_2, pF_1, Nat.reduceEqDiff, Nat.reduceLT, Nat.reduceLeDiff, eq_self, ↓reduceIte]
      refine j_if_le (tgt := 35) E dX7_rule_30 (by decide) (fun h30 => ?_) (fun h30 => ?_)
      · first
        | exact absurd h30 (by decide)
        | exact absurd (by decide) h30
        | (
            have hT0 : mRuT M m = 0 := by simp [mRuT, h6, h15]
            have hR6 : R < 6 := by
              rcases Nat.lt_or_ge R 6 with q | q
              · exact q
              · exact absurd (by rw [eR, show R = 6 by omega]; rfl) h15
            have eR2 : M.1 (m 0) 16 = nI (M.1 (m 0) 16).toNatClampNeg := by rw [eR, nI_clamp (by omega)]
            refine j_aload_n E dX7_rule_35 rfl rfl ?_
            refine j_aload_n E dX7_rule_36 rfl rfl ?_
            refine j_getI (ci := 7) (k := 16) (Cn := RX7) (T := TX7) (N := 34) E dX7_rule_37 hm1 hm2 rfl (by decide) hinX7 (by decide +kernel) rfl ?_
            try simp only [pI_m hinj, pF_m hinj, pI_2, pF_1, Nat.reduceEqDiff, Nat.reduceLT, Nat.reduceLeDiff, eq_self, ↓reduceIte]
            rw [eR2]
            refine j_callV1 (ci := 7) (n := 1) E (k_X7_read hM0 (okP_ok (by rw [pI_rd, if_neg (by decide)]) (by rw [pI0 hinj _ _ _ 24 (by decide) (by decide)]) hP) (by rw [eR, nI_clamp (by omega)]; exact hR6)) dX7_rule_40 gX7_rule_X7_read rfl (by decide +kernel) ⟨rfl, rfl, by decide, by decide⟩ ⟨Nat.zero_le _, Nat.zero_le _⟩ hm1 hm2 rfl rfl rfl (Nat.le_of_ble_eq_true rfl) rfl ?_
            refine j_istore_n E dX7_rule_43 rfl (by decide) ?_
            refine j_aload_n E dX7_rule_44 rfl rfl ?_
            refine j_iconst (v := 0) E dX7_rule_45 (by decide) ?_
            refine j_putI (ci := 7) (k := 23) (Cn := RX7) (T := TX7) (N := 34) E dX7_rule_46 hm1 hm2 rfl (by decide) hinX7 (by decide +kernel) rfl tyX7 tyX7_ok nmX7 rfl rfl rfl rfl ?_
            refine j_iload_n E dX7_rule_49 rfl rfl ?_
            refine j_if_lt (tgt := 57) E dX7_rule_50 (by decide) (fun h50 => ?_) (fun h50 => ?_)
            · refine j_aload_n E dX7_rule_57 rfl rfl ?_
              refine j_dup E dX7_rule_58 rfl ?_
              refine j_getI (ci := 7) (k := 16) (Cn := RX7) (T := TX7) (N := 34) E dX7_rule_59 hm1 hm2 rfl (by decide) hinX7 (by decide +kernel) rfl ?_
              refine j_iconst (v := 1) E dX7_rule_62 (by decide) ?_
              refine j_iadd E dX7_rule_63 ?_
              refine j_putI (ci := 7) (k := 16) (Cn := RX7) (T := TX7) (N := 34) E dX7_rule_64 hm1 hm2 rfl (by decide) hinX7 (by decide +kernel) rfl tyX7 tyX7_ok nmX7 rfl rfl rfl rfl ?_
              refine j_iconst (v := 0) E dX7_rule_67 (by decide) ?_
              exact j_iret E dX7_rule_68 (by simp [mRule, hT0, mRuM, mRuR, h6, h15, h30, h50]) rfl (by simp [mRule, hT0, mRuM, mRuR, h6, h15, h30, h50])
            · refine j_iconst (v := 1) E dX7_rule_53 (by decide) ?_
              refine j_iload_n E dX7_rule_54 rfl rfl ?_
              refine j_iadd E dX7_rule_55 ?_
              exact j_iret E dX7_rule_56 (by simp [mRule, hT0, mRuM, mRuR, h6, h15, h30, h50]) rfl (by simp [mRule, hT0, mRuM, mRuR, h6, h15, h30, h50])
          )
      · first
        | exact absurd h30 (by decide)
        | exact absurd (by decide) h30
        | (
            refine j_iconst (v := 0) E dX7_rule_33 (by decide) ?_
            exact j_iret E dX7_rule_34 (by simp [mRule, mRuT, h6, h15, h30]) rfl (by simp [mRule, mRuT, h6, h15, h30])
          )
    · refine j_iconst (v := 1) E dX7_rule_18 (by decide) ?_
      refine j_goto (tgt := 23) E dX7_rule_19 (by decide) ?_
      refine j_putI (ci := 7) (k := 0) (Cn := RX7) (T := TX7) (N := 34) E dX7_rule_23 hm1 hm2 rfl (by decide) hinX7 (by decide +kernel) rfl tyX7 tyX7_ok nmX7 rfl rfl rfl rfl ?_
      refine j_aload_n E dX7_rule_26 rfl rfl ?_
      refine j_getI (ci := 7) (k := 0) (Cn := RX7) (T := TX7) (N := 34) E dX7_rule_27 hm1 hm2 rfl (by decide) hinX7 (by decide +kernel) rfl ?_
      try simp only [pI_m hinj, pF_m hinj, pI_2, pF_1, Nat.reduceEqDiff, Nat.reduceLT, Nat.reduceLeDiff, eq_self, ↓reduceIte]
      refine j_if_le (tgt := 35) E dX7_rule_30 (by decide) (fun h30 => ?_) (fun h30 => ?_)
      · first
        | exact absurd h30 (by decide)
        | exact absurd (by decide) h30
        | (
            have hT0 : mRuT M m = 0 := by simp [mRuT, h6, h15]
            have hR6 : R < 6 := by
              rcases Nat.lt_or_ge R 6 with q | q
              · exact q
              · exact absurd (by rw [eR, show R = 6 by omega]; rfl) h15
            have eR2 : M.1 (m 0) 16 = nI (M.1 (m 0) 16).toNatClampNeg := by rw [eR, nI_clamp (by omega)]
            refine j_aload_n E dX7_rule_35 rfl rfl ?_
            refine j_aload_n E dX7_rule_36 rfl rfl ?_
            refine j_getI (ci := 7) (k := 16) (Cn := RX7) (T := TX7) (N := 34) E dX7_rule_37 hm1 hm2 rfl (by decide) hinX7 (by decide +kernel) rfl ?_
            try simp only [pI_m hinj, pF_m hinj, pI_2, pF_1, Nat.reduceEqDiff, Nat.reduceLT, Nat.reduceLeDiff, eq_self, ↓reduceIte]
            rw [eR2]
            refine j_callV1 (ci := 7) (n := 1) E (k_X7_read hM0 (okP_ok (by rw [pI_rd, if_neg (by decide)]) (by rw [pI0 hinj _ _ _ 24 (by decide) (by decide)]) hP) (by rw [eR, nI_clamp (by omega)]; exact hR6)) dX7_rule_40 gX7_rule_X7_read rfl (by decide +kernel) ⟨rfl, rfl, by decide, by decide⟩ ⟨Nat.zero_le _, Nat.zero_le _⟩ hm1 hm2 rfl rfl rfl (Nat.le_of_ble_eq_true rfl) rfl ?_
            refine j_istore_n E dX7_rule_43 rfl (by decide) ?_
            refine j_aload_n E dX7_rule_44 rfl rfl ?_
            refine j_iconst (v := 0) E dX7_rule_45 (by decide) ?_
            refine j_putI (ci := 7) (k := 23) (Cn := RX7) (T := TX7) (N := 34) E dX7_rule_46 hm1 hm2 rfl (by decide) hinX7 (by decide +kernel) rfl tyX7 tyX7_ok nmX7 rfl rfl rfl rfl ?_
            refine j_iload_n E dX7_rule_49 rfl rfl ?_
            refine j_if_lt (tgt := 57) E dX7_rule_50 (by decide) (fun h50 => ?_) (fun h50 => ?_)
            · refine j_aload_n E dX7_rule_57 rfl rfl ?_
              refine j_dup E dX7_rule_58 rfl ?_
              refine j_getI (ci := 7) (k := 16) (Cn := RX7) (T := TX7) (N := 34) E dX7_rule_59 hm1 hm2 rfl (by decide) hinX7 (by decide +kernel) rfl ?_
              refine j_iconst (v := 1) E dX7_rule_62 (by decide) ?_
              refine j_iadd E dX7_rule_63 ?_
              refine j_putI (ci := 7) (k := 16) (Cn := RX7) (T := TX7) (N := 34) E dX7_rule_64 hm1 hm2 rfl (by decide) hinX7 (by decide +kernel) rfl tyX7 tyX7_ok nmX7 rfl rfl rfl rfl ?_
              refine j_iconst (v := 0) E dX7_rule_67 (by decide) ?_
              exact j_iret E dX7_rule_68 (by simp [mRule, hT0, mRuM, mRuR, h6, h15, h30, h50]) rfl (by simp [mRule, hT0, mRuM, mRuR, h6, h15, h30, h50])
            · refine j_iconst (v := 1) E dX7_rule_53 (by decide) ?_
              refine j_iload_n E dX7_rule_54 rfl rfl ?_
              refine j_iadd E dX7_rule_55 ?_
              exact j_iret E dX7_rule_56 (by simp [mRule, hT0, mRuM, mRuR, h6, h15, h30, h50]) rfl (by simp [mRule, hT0, mRuM, mRuR, h6, h15, h30, h50])
          )
      · first
        | exact absurd h30 (by decide)
        | exact absurd (by decide) h30
        | (
            refine j_iconst (v := 0) E dX7_rule_33 (by decide) ?_
            exact j_iret E dX7_rule_34 (by simp [mRule, mRuT, h6, h15, h30]) rfl (by simp [mRule, mRuT, h6, h15, h30])
          )
