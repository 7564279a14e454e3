theorem mLk_n {M : pM} {m : Nat → Nat} {n k : Nat} (h : okP M m n) (hk : k < 1000) : narrow .char (.int (mLk M m k)) = .int (mLk M m k) := by
  unfold mLk
  split
  · rfl
  · rename_i h1
    exact h.2.2 k (lt_of_nge (n := n) (by rw [← h.2.1]; exact h1) (by omega))
def mCond (M : pM) (m : Nat → Nat) : Int32 × pM := mCd m ((M.1 (m 0) 23).toNatClampNeg + 1) 1 0 (pI (pI M (m 0) 30 0) (m 0) 32 0)

set_option maxHeartbeats 1600000 in
set_option maxRecDepth 100000 in
theorem kl_X7_condition_14 {C : jC} (E : jE C cX7_condition 5 wsX7_condition RX7 (some .int) ({ frames := 2, cells := 0, slots := 0, locals := 41 } : Room)) {X : va_W} {m : Nat → Nat} {n : Nat} (hM : wM (jG C) m) (hn : n ≤ 20) : ∀ (f : Nat) (t : Int32) (k : Nat) (M : pM) (W N : Nat), ivM M m n W N → W + N ≤ k → k ≤ n → n + 1 ≤ k + f → jW C 5 14 [(0, .ref (m 0)), (1, .int t), (2, .int (nI k))] [] X M 0 0 (jZ C X (mCd m f t k M).2 (some (.int (mCd m f t k M).1)) 0 0) := by
  have hinX7 : ∀ w ∈ u_ws RX7 TX7 34, w ∈ wsX7_condition := by decide +kernel
  have hM0 := hM
  obtain ⟨hm1, hm2, hmt, hinj⟩ := hM
  intro f
  induction f with
  | zero => intro t k M W N h1 h2 h3 h4; omega
  | succ f ih =>
    intro t k M W N hiv hWN hkn hf
    refine j_iload_n E dX7_condition_14 rfl rfl ?_
    refine j_aload_n E dX7_condition_15 rfl rfl ?_
    refine j_getI (ci := 7) (k := 23) (Cn := RX7) (T := TX7) (N := 34) E dX7_condition_16 hm1 hm2 rfl (by decide) hinX7 (by decide +kernel) rfl ?_
    refine j_icmp_ge (tgt := 240) E dX7_condition_19 (by decide) (fun h19 => ?_) (fun h19 => ?_)
    · refine j_iconst (v := -1) E dX7_condition_240 (by decide) ?_
      refine j_aload_n E dX7_condition_241 rfl rfl ?_
      refine j_getI (ci := 7) (k := 23) (Cn := RX7) (T := TX7) (N := 34) E dX7_condition_242 hm1 hm2 rfl (by decide) hinX7 (by decide +kernel) rfl ?_
      refine j_isub E dX7_condition_245 ?_
      exact j_iret E dX7_condition_246 (by first | (simp [mCd, nI_1, h19]; done) | (exfalso; rw [h188] at h218; exact absurd h218 (by decide))) rfl (by first | (simp [mCd, nI_1, h19]; done) | (exfalso; rw [h188] at h218; exact absurd h218 (by decide)))
    · have hk : k < n := lt_of_nge (n := n) (by rw [← hiv.1.2.1]; exact h19) (by omega)
      refine j_aload_n E dX7_condition_22 rfl rfl ?_
      refine j_iload_n E dX7_condition_23 rfl rfl ?_
      refine j_callV1 (ci := 7) (n := 1) E (k_X7_look hM0 hiv.1 (by omega)) dX7_condition_24 gX7_condition_X7_look rfl (by decide +kernel) ⟨rfl, rfl, by decide, by decide⟩ ⟨Nat.zero_le _, Nat.zero_le _⟩ hm1 hm2 rfl rfl rfl (Nat.le_of_ble_eq_true rfl) rfl ?_
      refine j_istore_n E dX7_condition_27 rfl (by decide) ?_
      refine j_iload_n E dX7_condition_28 rfl rfl ?_
      refine j_if_eq (tgt := 163) E dX7_condition_29 (by decide) (fun h29 => ?_) (fun h29 => ?_)
      · refine j_iload_n E dX7_condition_163 rfl rfl ?_
        refine j_bipush (v := 38) E dX7_condition_164 (by decide) ?_
        refine j_icmp_eq (tgt := 175) E dX7_condition_166 (by decide) (fun h166 => ?_) (fun h166 => ?_)
        · refine j_aload_n E dX7_condition_175 rfl rfl ?_
          refine j_iload_n E dX7_condition_176 rfl rfl ?_
          refine j_callV0 (ci := 7) (n := 1) E (k_X7_put hM0 hiv.2.1 (by omega) (vpn (mLk_n hiv.1 (by omega)))) dX7_condition_177 gX7_condition_X7_put rfl (by decide +kernel) ⟨rfl, rfl, by decide, by decide⟩ ⟨Nat.zero_le _, Nat.zero_le _⟩ hm1 hm2 rfl rfl rfl (Nat.le_of_ble_eq_true rfl) rfl ?_
          refine j_iconst (v := 1) E dX7_condition_180 (by decide) ?_
          refine j_istore_n E dX7_condition_181 rfl (by decide) ?_
          refine j_goto (tgt := 234) E dX7_condition_182 (by decide) ?_
          refine j_iinc E dX7_condition_234 rfl (by decide) ?_
          refine j_goto (tgt := 14) E dX7_condition_237 (by decide) ?_
          exact j_lv [0, 1, 2] rfl (by rw [nI_inc]; exact j_r (by simp [mCd, h19, h29, h166]) (by simp [mCd, h19, h29, h166]) (ih 1 (k + 1) _ (W + 1) N (mPut_iv hinj _ hiv) (by omega) (by omega) (by omega)))
        · refine j_iload_n E dX7_condition_169 rfl rfl ?_
          refine j_bipush (v := 124) E dX7_condition_170 (by decide) ?_
          refine j_icmp_ne (tgt := 185) E dX7_condition_172 (by decide) (fun h172 => ?_) (fun h172 => ?_)
          · refine j_iload_n E dX7_condition_185 rfl rfl ?_
            refine j_bipush (v := 41) E dX7_condition_186 (by decide) ?_
            refine j_icmp_ne (tgt := 215) E dX7_condition_188 (by decide) (fun h188 => ?_) (fun h188 => ?_)
            · refine j_iload_n E dX7_condition_215 rfl rfl ?_
              refine j_bipush (v := 62) E dX7_condition_216 (by decide) ?_
              refine j_icmp_ne (tgt := 230) E dX7_condition_218 (by decide) (fun h218 => ?_) (fun h218 => ?_)
              · refine j_iconst (v := -1) E dX7_condition_230 (by decide) ?_
                refine j_iload_n E dX7_condition_231 rfl rfl ?_
                refine j_isub E dX7_condition_232 ?_
                exact j_iret E dX7_condition_233 (by first | (simp [mCd, nI_1, h19, h29, h166, h172, h188, h218]; done) | (exfalso; rw [h188] at h218; exact absurd h218 (by decide))) rfl (by first | (simp [mCd, nI_1, h19, h29, h166, h172, h188, h218]; done) | (exfalso; rw [h188] at h218; exact absurd h218 (by decide)))
              · refine j_aload_n E dX7_condition_221 rfl rfl ?_
                refine j_getI (ci := 7) (k := 30) (Cn := RX7) (T := TX7) (N := 34) E dX7_condition_222 hm1 hm2 rfl (by decide) hinX7 (by decide +kernel) rfl ?_
                refine j_if_ne (tgt := 230) E dX7_condition_225 (by decide) (fun h225 => ?_) (fun h225 => ?_)
                · refine j_iconst (v := -1) E dX7_condition_230 (by decide) ?_
                  refine j_iload_n E dX7_condition_231 rfl rfl ?_
                  refine j_isub E dX7_condition_232 ?_
                  exact j_iret E dX7_condition_233 (by first | (simp [mCd, nI_1, h19, h29, h166, h172, h188, h218, h225]; done) | (exfalso; rw [h188] at h218; exact absurd h218 (by decide))) rfl (by first | (simp [mCd, nI_1, h19, h29, h166, h172, h188, h218, h225]; done) | (exfalso; rw [h188] at h218; exact absurd h218 (by decide)))
                · refine j_iload_n E dX7_condition_228 rfl rfl ?_
                  exact j_iret E dX7_condition_229 (by first | (simp [mCd, nI_1, h19, h29, h166, h172, h188, h218, h225]; done) | (exfalso; rw [h188] at h218; exact absurd h218 (by decide))) rfl (by first | (simp [mCd, nI_1, h19, h29, h166, h172, h188, h218, h225]; done) | (exfalso; rw [h188] at h218; exact absurd h218 (by decide)))
            · refine j_aload_n E dX7_condition_191 rfl rfl ?_
              refine j_getI (ci := 7) (k := 30) (Cn := RX7) (T := TX7) (N := 34) E dX7_condition_192 hm1 hm2 rfl (by decide) hinX7 (by decide +kernel) rfl ?_
              refine j_if_le (tgt := 215) E dX7_condition_195 (by decide) (fun h195 => ?_) (fun h195 => ?_)
              · refine j_iload_n E dX7_condition_215 rfl rfl ?_
                refine j_bipush (v := 62) E dX7_condition_216 (by decide) ?_
                refine j_icmp_ne (tgt := 230) E dX7_condition_218 (by decide) (fun h218 => ?_) (fun h218 => ?_)
                · refine j_iconst (v := -1) E dX7_condition_230 (by decide) ?_
                  refine j_iload_n E dX7_condition_231 rfl rfl ?_
                  refine j_isub E dX7_condition_232 ?_
                  exact j_iret E dX7_condition_233 (by first | (simp [mCd, nI_1, h19, h29, h166, h172, h188, h195, h218]; done) | (exfalso; rw [h188] at h218; exact absurd h218 (by decide))) rfl (by first | (simp [mCd, nI_1, h19, h29, h166, h172, h188, h195, h218]; done) | (exfalso; rw [h188] at h218; exact absurd h218 (by decide)))
                · refine j_aload_n E dX7_condition_221 rfl rfl ?_
                  refine j_getI (ci := 7) (k := 30) (Cn := RX7) (T := TX7) (N := 34) E dX7_condition_222 hm1 hm2 rfl (by decide) hinX7 (by decide +kernel) rfl ?_
                  refine j_if_ne (tgt := 230) E dX7_condition_225 (by decide) (fun h225 => ?_) (fun h225 => ?_)
                  · refine j_iconst (v := -1) E dX7_condition_230 (by decide) ?_
                    refine j_iload_n E dX7_condition_231 rfl rfl ?_
                    refine j_isub E dX7_condition_232 ?_
                    exact j_iret E dX7_condition_233 (by first | (simp [mCd, nI_1, h19, h29, h166, h172, h188, h195, h218, h225]; done) | (exfalso; rw [h188] at h218; exact absurd h218 (by decide))) rfl (by first | (simp [mCd, nI_1, h19, h29, h166, h172, h188, h195, h218, h225]; done) | (exfalso; rw [h188] at h218; exact absurd h218 (by decide)))
                  · refine j_iload_n E dX7_condition_228 rfl rfl ?_
                    exact j_iret E dX7_condition_229 (by first | (simp [mCd, nI_1, h19, h29, h166, h172, h188, h195, h218, h225]; done) | (exfalso; rw [h188] at h218; exact absurd h218 (by decide))) rfl (by first | (simp [mCd, nI_1, h19, h29, h166, h172, h188, h195, h218, h225]; done) | (exfalso; rw [h188] at h218; exact absurd h218 (by decide)))
              · obtain ⟨W1, eW1⟩ : ∃ W1, W = W1 + 1 := by
                  cases W with
                  | zero => exact absurd (by rw [hiv.2.1]; decide) h195
                  | succ W1 => exact ⟨W1, rfl⟩
                subst eW1
                have hv1 : ivM (pI M (m 0) 30 (M.1 (m 0) 30 - 1)) m n W1 N := by rw [hiv.2.1, nI_pred]; exact mW_iv hinj W1 hiv
                refine j_aload_n E dX7_condition_198 rfl rfl ?_
                refine j_dup E dX7_condition_199 rfl ?_
                refine j_getI (ci := 7) (k := 30) (Cn := RX7) (T := TX7) (N := 34) E dX7_condition_200 hm1 hm2 rfl (by decide) hinX7 (by decide +kernel) rfl ?_
                refine j_iconst (v := 1) E dX7_condition_203 (by decide) ?_
                refine j_isub E dX7_condition_204 ?_
                refine j_putI (ci := 7) (k := 30) (Cn := RX7) (T := TX7) (N := 34) E dX7_condition_205 hm1 hm2 rfl (by decide) hinX7 (by decide +kernel) rfl tyX7 tyX7_ok nmX7 rfl rfl rfl rfl ?_
                refine j_aload_n E dX7_condition_208 rfl rfl ?_
                refine j_callV0 (ci := 7) (n := 0) E (k_X7_termDone hM0 hv1 (by omega)) dX7_condition_209 gX7_condition_X7_termDone rfl (by decide +kernel) ⟨rfl, rfl, by decide, by decide⟩ ⟨Nat.zero_le _, Nat.zero_le _⟩ hm1 hm2 rfl rfl rfl (Nat.le_of_ble_eq_true rfl) rfl ?_
                refine j_goto (tgt := 234) E dX7_condition_212 (by decide) ?_
                refine j_iinc E dX7_condition_234 rfl (by decide) ?_
                refine j_goto (tgt := 14) E dX7_condition_237 (by decide) ?_
                exact j_lv [0, 1, 2] rfl (by rw [nI_inc]; obtain ⟨W2, N2, hv2, hs2⟩ := mTdd_iv hinj hv1 (by omega); exact j_r (by simp [mCd, h19, h29, h166, h172, h188, h195]) (by simp [mCd, h19, h29, h166, h172, h188, h195]) (ih _ (k + 1) _ W2 N2 hv2 (by omega) (by omega) (by omega)))
          · refine j_aload_n E dX7_condition_175 rfl rfl ?_
            refine j_iload_n E dX7_condition_176 rfl rfl ?_
            refine j_callV0 (ci := 7) (n := 1) E (k_X7_put hM0 hiv.2.1 (by omega) (vpn (mLk_n hiv.1 (by omega)))) dX7_condition_177 gX7_condition_X7_put rfl (by decide +kernel) ⟨rfl, rfl, by decide, by decide⟩ ⟨Nat.zero_le _, Nat.zero_le _⟩ hm1 hm2 rfl rfl rfl (Nat.le_of_ble_eq_true rfl) rfl ?_
            refine j_iconst (v := 1) E dX7_condition_180 (by decide) ?_
            refine j_istore_n E dX7_condition_181 rfl (by decide) ?_
            refine j_goto (tgt := 234) E dX7_condition_182 (by decide) ?_
            refine j_iinc E dX7_condition_234 rfl (by decide) ?_
            refine j_goto (tgt := 14) E dX7_condition_237 (by decide) ?_
            exact j_lv [0, 1, 2] rfl (by rw [nI_inc]; exact j_r (by simp [mCd, h19, h29, h166, h172]) (by simp [mCd, h19, h29, h166, h172]) (ih 1 (k + 1) _ (W + 1) N (mPut_iv hinj _ hiv) (by omega) (by omega) (by omega)))
      · refine j_iload_n E dX7_condition_32 rfl rfl ?_
        refine j_bipush (v := 33) E dX7_condition_33 (by decide) ?_
        refine j_icmp_eq (tgt := 44) E dX7_condition_35 (by decide) (fun h35 => ?_) (fun h35 => ?_)
        · refine j_aload_n E dX7_condition_44 rfl rfl ?_
          refine j_callV1 (ci := 7) (n := 0) E (k_X7_deepness hM0 hiv.2.1 (by omega)) dX7_condition_45 gX7_condition_X7_deepness rfl (by decide +kernel) ⟨rfl, rfl, by decide, by decide⟩ ⟨Nat.zero_le _, Nat.zero_le _⟩ hm1 hm2 rfl rfl rfl (Nat.le_of_ble_eq_true rfl) rfl ?_
          refine j_iconst (v := 4) E dX7_condition_48 (by decide) ?_
          refine j_icmp_ne (tgt := 56) E dX7_condition_49 (by decide) (fun h49 => ?_) (fun h49 => ?_)
          · refine j_aload_n E dX7_condition_56 rfl rfl ?_
            refine j_iload_n E dX7_condition_57 rfl rfl ?_
            refine j_callV0 (ci := 7) (n := 1) E (k_X7_put hM0 hiv.2.1 (by omega) (vpn (mLk_n hiv.1 (by omega)))) dX7_condition_58 gX7_condition_X7_put rfl (by decide +kernel) ⟨rfl, rfl, by decide, by decide⟩ ⟨Nat.zero_le _, Nat.zero_le _⟩ hm1 hm2 rfl rfl rfl (Nat.le_of_ble_eq_true rfl) rfl ?_
            refine j_goto (tgt := 234) E dX7_condition_61 (by decide) ?_
            refine j_iinc E dX7_condition_234 rfl (by decide) ?_
            refine j_goto (tgt := 14) E dX7_condition_237 (by decide) ?_
            exact j_lv [0, 1, 2] rfl (by rw [nI_inc]; exact j_r (by simp [mCd, h19, h29, h35, h49]) (by simp [mCd, h19, h29, h35, h49]) (ih _ (k + 1) _ (W + 1) N (mPut_iv hinj _ hiv) (by omega) (by omega) (by omega)))
          · refine j_iconst (v := -1) E dX7_condition_52 (by decide) ?_
            refine j_iload_n E dX7_condition_53 rfl rfl ?_
            refine j_isub E dX7_condition_54 ?_
            exact j_iret E dX7_condition_55 (by first | (simp [mCd, nI_1, h19, h29, h35, h49]; done) | (exfalso; rw [h188] at h218; exact absurd h218 (by decide))) rfl (by first | (simp [mCd, nI_1, h19, h29, h35, h49]; done) | (exfalso; rw [h188] at h218; exact absurd h218 (by decide)))
        · refine j_iload_n E dX7_condition_38 rfl rfl ?_
          refine j_bipush (v := 40) E dX7_condition_39 (by decide) ?_
          refine j_icmp_ne (tgt := 64) E dX7_condition_41 (by decide) (fun h41 => ?_) (fun h41 => ?_)
          · refine j_iload_n E dX7_condition_64 rfl rfl ?_
            refine j_bipush (v := 102) E dX7_condition_65 (by decide) ?_
            refine j_icmp_ne (tgt := 85) E dX7_condition_67 (by decide) (fun h67 => ?_) (fun h67 => ?_)
            · refine j_iload_n E dX7_condition_85 rfl rfl ?_
              refine j_bipush (v := 122) E dX7_condition_86 (by decide) ?_
              refine j_icmp_eq (tgt := 97) E dX7_condition_88 (by decide) (fun h88 => ?_) (fun h88 => ?_)
              · refine j_aload_n E dX7_condition_97 rfl rfl ?_
                refine j_iload_n E dX7_condition_98 rfl rfl ?_
                refine j_iconst (v := 1) E dX7_condition_99 (by decide) ?_
                refine j_iadd E dX7_condition_100 ?_
                rw [nI_1]
                refine j_callV1 (ci := 7) (n := 1) E (k_X7_look hM0 hiv.1 (by omega)) dX7_condition_101 gX7_condition_X7_look rfl (by decide +kernel) ⟨rfl, rfl, by decide, by decide⟩ ⟨Nat.zero_le _, Nat.zero_le _⟩ hm1 hm2 rfl rfl rfl (Nat.le_of_ble_eq_true rfl) rfl ?_
                refine j_istore E dX7_condition_104 (by decide) ?_
                refine j_iload E dX7_condition_106 rfl ?_
                refine j_bipush (v := 48) E dX7_condition_108 (by decide) ?_
                refine j_icmp_lt (tgt := 120) E dX7_condition_110 (by decide) (fun h110 => ?_) (fun h110 => ?_)
                · refine j_iconst (v := -1) E dX7_condition_120 (by decide) ?_
                  refine j_iload_n E dX7_condition_121 rfl rfl ?_
                  refine j_iconst (v := 1) E dX7_condition_122 (by decide) ?_
                  refine j_iadd E dX7_condition_123 ?_
                  refine j_isub E dX7_condition_124 ?_
                  exact j_iret E dX7_condition_125 (by first | (simp [mCd, nI_1, h19, h29, h35, h41, h67, h88, h110]; done) | (exfalso; rw [h188] at h218; exact absurd h218 (by decide))) rfl (by first | (simp [mCd, nI_1, h19, h29, h35, h41, h67, h88, h110]; done) | (exfalso; rw [h188] at h218; exact absurd h218 (by decide)))
                · refine j_iload E dX7_condition_113 rfl ?_
                  refine j_bipush (v := 51) E dX7_condition_115 (by decide) ?_
                  refine j_icmp_le (tgt := 126) E dX7_condition_117 (by decide) (fun h117 => ?_) (fun h117 => ?_)
                  · have hk2 : k + 2 ≤ n := by
                      rcases Nat.lt_or_ge (k + 1) n with q | q
                      · omega
                      · exfalso; apply h110; unfold mLk; rw [if_pos (by rw [hiv.1.2.1]; exact nI_le q (by omega))]; decide
                    refine j_iinc E dX7_condition_126 rfl (by decide) ?_
                    refine j_aload_n E dX7_condition_129 rfl rfl ?_
                    refine j_iload E dX7_condition_130 rfl ?_
                    refine j_bipush (v := 48) E dX7_condition_132 (by decide) ?_
                    refine j_isub E dX7_condition_134 ?_
                    refine j_iload_n E dX7_condition_135 rfl rfl ?_
                    refine j_bipush (v := 119) E dX7_condition_136 (by decide) ?_
                    refine j_icmp_ne (tgt := 145) E dX7_condition_138 (by decide) (fun h138 => ?_) (fun h138 => ?_)
                    · refine j_iconst (v := 0) E dX7_condition_145 (by decide) ?_
                      refine j_iadd E dX7_condition_146 ?_
                      refine j_callV0 (ci := 7) (n := 1) E (k_X7_word hM0 hiv.2.2 (by omega)) dX7_condition_147 gX7_condition_X7_word rfl (by decide +kernel) ⟨rfl, rfl, by decide, by decide⟩ ⟨Nat.zero_le _, Nat.zero_le _⟩ hm1 hm2 rfl rfl rfl (Nat.le_of_ble_eq_true rfl) rfl ?_
                      refine j_aload_n E dX7_condition_150 rfl rfl ?_
                      refine j_callV0 (ci := 7) (n := 0) E (k_X7_termDone hM0 (mWord_iv hinj _ hiv) (by omega)) dX7_condition_151 gX7_condition_X7_termDone rfl (by decide +kernel) ⟨rfl, rfl, by decide, by decide⟩ ⟨Nat.zero_le _, Nat.zero_le _⟩ hm1 hm2 rfl rfl rfl (Nat.le_of_ble_eq_true rfl) rfl ?_
                      refine j_iconst (v := 0) E dX7_condition_154 (by decide) ?_
                      refine j_istore_n E dX7_condition_155 rfl (by decide) ?_
                      refine j_goto (tgt := 234) E dX7_condition_156 (by decide) ?_
                      refine j_iinc E dX7_condition_234 rfl (by decide) ?_
                      refine j_goto (tgt := 14) E dX7_condition_237 (by decide) ?_
                      first | (exact j_lv [0, 1, 2] rfl (by rw [nI_inc, nI_inc]; obtain ⟨W2, N2, hv2, hs2⟩ := mTdd_iv hinj (mWord_iv hinj (mLk M m (k + 1) - 48 + 4) hiv) (by omega); exact j_r (by first | (simp [mCd, h19, h29, h35, h41, h67, h88, h110, h117, h138]; done) | (exfalso; rw [h88] at h138; exact absurd h138 (by decide))) (by first | (simp [mCd, h19, h29, h35, h41, h67, h88, h110, h117, h138]; done) | (exfalso; rw [h88] at h138; exact absurd h138 (by decide))) (ih 0 (k + 2) _ W2 N2 hv2 (by omega) (by omega) (by omega)))) | (exact j_lv [0, 1, 2] rfl (by rw [nI_inc, nI_inc]; obtain ⟨W2, N2, hv2, hs2⟩ := mTdd_iv hinj (mWord_iv hinj (mLk M m (k + 1) - 48 + 0) hiv) (by omega); exact j_r (by first | (simp [mCd, h19, h29, h35, h41, h67, h88, h110, h117, h138]; done) | (exfalso; rw [h88] at h138; exact absurd h138 (by decide))) (by first | (simp [mCd, h19, h29, h35, h41, h67, h88, h110, h117, h138]; done) | (exfalso; rw [h88] at h138; exact absurd h138 (by decide))) (ih 0 (k + 2) _ W2 N2 hv2 (by omega) (by omega) (by omega))))
                    · refine j_iconst (v := 4) E dX7_condition_141 (by decide) ?_
                      refine j_goto (tgt := 146) E dX7_condition_142 (by decide) ?_
                      refine j_iadd E dX7_condition_146 ?_
                      refine j_callV0 (ci := 7) (n := 1) E (k_X7_word hM0 hiv.2.2 (by omega)) dX7_condition_147 gX7_condition_X7_word rfl (by decide +kernel) ⟨rfl, rfl, by decide, by decide⟩ ⟨Nat.zero_le _, Nat.zero_le _⟩ hm1 hm2 rfl rfl rfl (Nat.le_of_ble_eq_true rfl) rfl ?_
                      refine j_aload_n E dX7_condition_150 rfl rfl ?_
                      refine j_callV0 (ci := 7) (n := 0) E (k_X7_termDone hM0 (mWord_iv hinj _ hiv) (by omega)) dX7_condition_151 gX7_condition_X7_termDone rfl (by decide +kernel) ⟨rfl, rfl, by decide, by decide⟩ ⟨Nat.zero_le _, Nat.zero_le _⟩ hm1 hm2 rfl rfl rfl (Nat.le_of_ble_eq_true rfl) rfl ?_
                      refine j_iconst (v := 0) E dX7_condition_154 (by decide) ?_
                      refine j_istore_n E dX7_condition_155 rfl (by decide) ?_
                      refine j_goto (tgt := 234) E dX7_condition_156 (by decide) ?_
                      refine j_iinc E dX7_condition_234 rfl (by decide) ?_
                      refine j_goto (tgt := 14) E dX7_condition_237 (by decide) ?_
                      first | (exact j_lv [0, 1, 2] rfl (by rw [nI_inc, nI_inc]; obtain ⟨W2, N2, hv2, hs2⟩ := mTdd_iv hinj (mWord_iv hinj (mLk M m (k + 1) - 48 + 4) hiv) (by omega); exact j_r (by first | (simp [mCd, h19, h29, h35, h41, h67, h88, h110, h117, h138]; done) | (exfalso; rw [h88] at h138; exact absurd h138 (by decide))) (by first | (simp [mCd, h19, h29, h35, h41, h67, h88, h110, h117, h138]; done) | (exfalso; rw [h88] at h138; exact absurd h138 (by decide))) (ih 0 (k + 2) _ W2 N2 hv2 (by omega) (by omega) (by omega)))) | (exact j_lv [0, 1, 2] rfl (by rw [nI_inc, nI_inc]; obtain ⟨W2, N2, hv2, hs2⟩ := mTdd_iv hinj (mWord_iv hinj (mLk M m (k + 1) - 48 + 0) hiv) (by omega); exact j_r (by first | (simp [mCd, h19, h29, h35, h41, h67, h88, h110, h117, h138]; done) | (exfalso; rw [h88] at h138; exact absurd h138 (by decide))) (by first | (simp [mCd, h19, h29, h35, h41, h67, h88, h110, h117, h138]; done) | (exfalso; rw [h88] at h138; exact absurd h138 (by decide))) (ih 0 (k + 2) _ W2 N2 hv2 (by omega) (by omega) (by omega))))
                  · refine j_iconst (v := -1) E dX7_condition_120 (by decide) ?_
                    refine j_iload_n E dX7_condition_121 rfl rfl ?_
                    refine j_iconst (v := 1) E dX7_condition_122 (by decide) ?_
                    refine j_iadd E dX7_condition_123 ?_
                    refine j_isub E dX7_condition_124 ?_
                    exact j_iret E dX7_condition_125 (by first | (simp [mCd, nI_1, h19, h29, h35, h41, h67, h88, h110, h117]; done) | (exfalso; rw [h188] at h218; exact absurd h218 (by decide))) rfl (by first | (simp [mCd, nI_1, h19, h29, h35, h41, h67, h88, h110, h117]; done) | (exfalso; rw [h188] at h218; exact absurd h218 (by decide)))
              · refine j_iload_n E dX7_condition_91 rfl rfl ?_
                refine j_bipush (v := 119) E dX7_condition_92 (by decide) ?_
                refine j_icmp_ne (tgt := 159) E dX7_condition_94 (by decide) (fun h94 => ?_) (fun h94 => ?_)
                · refine j_iconst (v := -1) E dX7_condition_159 (by decide) ?_
                  refine j_iload_n E dX7_condition_160 rfl rfl ?_
                  refine j_isub E dX7_condition_161 ?_
                  exact j_iret E dX7_condition_162 (by first | (simp [mCd, nI_1, h19, h29, h35, h41, h67, h88, h94]; done) | (exfalso; rw [h188] at h218; exact absurd h218 (by decide))) rfl (by first | (simp [mCd, nI_1, h19, h29, h35, h41, h67, h88, h94]; done) | (exfalso; rw [h188] at h218; exact absurd h218 (by decide)))
                · refine j_aload_n E dX7_condition_97 rfl rfl ?_
                  refine j_iload_n E dX7_condition_98 rfl rfl ?_
                  refine j_iconst (v := 1) E dX7_condition_99 (by decide) ?_
                  refine j_iadd E dX7_condition_100 ?_
                  rw [nI_1]
                  refine j_callV1 (ci := 7) (n := 1) E (k_X7_look hM0 hiv.1 (by omega)) dX7_condition_101 gX7_condition_X7_look rfl (by decide +kernel) ⟨rfl, rfl, by decide, by decide⟩ ⟨Nat.zero_le _, Nat.zero_le _⟩ hm1 hm2 rfl rfl rfl (Nat.le_of_ble_eq_true rfl) rfl ?_
                  refine j_istore E dX7_condition_104 (by decide) ?_
                  refine j_iload E dX7_condition_106 rfl ?_
                  refine j_bipush (v := 48) E dX7_condition_108 (by decide) ?_
                  refine j_icmp_lt (tgt := 120) E dX7_condition_110 (by decide) (fun h110 => ?_) (fun h110 => ?_)
                  · refine j_iconst (v := -1) E dX7_condition_120 (by decide) ?_
                    refine j_iload_n E dX7_condition_121 rfl rfl ?_
                    refine j_iconst (v := 1) E dX7_condition_122 (by decide) ?_
                    refine j_iadd E dX7_condition_123 ?_
                    refine j_isub E dX7_condition_124 ?_
                    exact j_iret E dX7_condition_125 (by first | (simp [mCd, nI_1, h19, h29, h35, h41, h67, h88, h94, h110]; done) | (exfalso; rw [h188] at h218; exact absurd h218 (by decide))) rfl (by first | (simp [mCd, nI_1, h19, h29, h35, h41, h67, h88, h94, h110]; done) | (exfalso; rw [h188] at h218; exact absurd h218 (by decide)))
                  · refine j_iload E dX7_condition_113 rfl ?_
                    refine j_bipush (v := 51) E dX7_condition_115 (by decide) ?_
                    refine j_icmp_le (tgt := 126) E dX7_condition_117 (by decide) (fun h117 => ?_) (fun h117 => ?_)
                    · have hk2 : k + 2 ≤ n := by
                        rcases Nat.lt_or_ge (k + 1) n with q | q
                        · omega
                        · exfalso; apply h110; unfold mLk; rw [if_pos (by rw [hiv.1.2.1]; exact nI_le q (by omega))]; decide
                      refine j_iinc E dX7_condition_126 rfl (by decide) ?_
                      refine j_aload_n E dX7_condition_129 rfl rfl ?_
                      refine j_iload E dX7_condition_130 rfl ?_
                      refine j_bipush (v := 48) E dX7_condition_132 (by decide) ?_
                      refine j_isub E dX7_condition_134 ?_
                      refine j_iload_n E dX7_condition_135 rfl rfl ?_
                      refine j_bipush (v := 119) E dX7_condition_136 (by decide) ?_
                      refine j_icmp_ne (tgt := 145) E dX7_condition_138 (by decide) (fun h138 => ?_) (fun h138 => ?_)
                      · refine j_iconst (v := 0) E dX7_condition_145 (by decide) ?_
                        refine j_iadd E dX7_condition_146 ?_
                        refine j_callV0 (ci := 7) (n := 1) E (k_X7_word hM0 hiv.2.2 (by omega)) dX7_condition_147 gX7_condition_X7_word rfl (by decide +kernel) ⟨rfl, rfl, by decide, by decide⟩ ⟨Nat.zero_le _, Nat.zero_le _⟩ hm1 hm2 rfl rfl rfl (Nat.le_of_ble_eq_true rfl) rfl ?_
                        refine j_aload_n E dX7_condition_150 rfl rfl ?_
                        refine j_callV0 (ci := 7) (n := 0) E (k_X7_termDone hM0 (mWord_iv hinj _ hiv) (by omega)) dX7_condition_151 gX7_condition_X7_termDone rfl (by decide +kernel) ⟨rfl, rfl, by decide, by decide⟩ ⟨Nat.zero_le _, Nat.zero_le _⟩ hm1 hm2 rfl rfl rfl (Nat.le_of_ble_eq_true rfl) rfl ?_
                        refine j_iconst (v := 0) E dX7_condition_154 (by decide) ?_
                        refine j_istore_n E dX7_condition_155 rfl (by decide) ?_
                        refine j_goto (tgt := 234) E dX7_condition_156 (by decide) ?_
                        refine j_iinc E dX7_condition_234 rfl (by decide) ?_
                        refine j_goto (tgt := 14) E dX7_condition_237 (by decide) ?_
                        first | (exact j_lv [0, 1, 2] rfl (by rw [nI_inc, nI_inc]; obtain ⟨W2, N2, hv2, hs2⟩ := mTdd_iv hinj (mWord_iv hinj (mLk M m (k + 1) - 48 + 4) hiv) (by omega); exact j_r (by first | (simp [mCd, h19, h29, h35, h41, h67, h88, h94, h110, h117, h138]; done) | exact absurd h94 h138) (by first | (simp [mCd, h19, h29, h35, h41, h67, h88, h94, h110, h117, h138]; done) | exact absurd h94 h138) (ih 0 (k + 2) _ W2 N2 hv2 (by omega) (by omega) (by omega)))) | (exact j_lv [0, 1, 2] rfl (by rw [nI_inc, nI_inc]; obtain ⟨W2, N2, hv2, hs2⟩ := mTdd_iv hinj (mWord_iv hinj (mLk M m (k + 1) - 48 + 0) hiv) (by omega); exact j_r (by first | (simp [mCd, h19, h29, h35, h41, h67, h88, h94, h110, h117, h138]; done) | exact absurd h94 h138) (by first | (simp [mCd, h19, h29, h35, h41, h67, h88, h94, h110, h117, h138]; done) | exact absurd h94 h138) (ih 0 (k + 2) _ W2 N2 hv2 (by omega) (by omega) (by omega))))
                      · refine j_iconst (v := 4) E dX7_condition_141 (by decide) ?_
                        refine j_goto (tgt := 146) E dX7_condition_142 (by decide) ?_
                        refine j_iadd E dX7_condition_146 ?_
                        refine j_callV0 (ci := 7) (n := 1) E (k_X7_word hM0 hiv.2.2 (by omega)) dX7_condition_147 gX7_condition_X7_word rfl (by decide +kernel) ⟨rfl, rfl, by decide, by decide⟩ ⟨Nat.zero_le _, Nat.zero_le _⟩ hm1 hm2 rfl rfl rfl (Nat.le_of_ble_eq_true rfl) rfl ?_
                        refine j_aload_n E dX7_condition_150 rfl rfl ?_
                        refine j_callV0 (ci := 7) (n := 0) E (k_X7_termDone hM0 (mWord_iv hinj _ hiv) (by omega)) dX7_condition_151 gX7_condition_X7_termDone rfl (by decide +kernel) ⟨rfl, rfl, by decide, by decide⟩ ⟨Nat.zero_le _, Nat.zero_le _⟩ hm1 hm2 rfl rfl rfl (Nat.le_of_ble_eq_true rfl) rfl ?_
                        refine j_iconst (v := 0) E dX7_condition_154 (by decide) ?_
                        refine j_istore_n E dX7_condition_155 rfl (by decide) ?_
                        refine j_goto (tgt := 234) E dX7_condition_156 (by decide) ?_
                        refine j_iinc E dX7_condition_234 rfl (by decide) ?_
                        refine j_goto (tgt := 14) E dX7_condition_237 (by decide) ?_
                        first | (exact j_lv [0, 1, 2] rfl (by rw [nI_inc, nI_inc]; obtain ⟨W2, N2, hv2, hs2⟩ := mTdd_iv hinj (mWord_iv hinj (mLk M m (k + 1) - 48 + 4) hiv) (by omega); exact j_r (by first | (simp [mCd, h19, h29, h35, h41, h67, h88, h94, h110, h117, h138]; done) | exact absurd h94 h138) (by first | (simp [mCd, h19, h29, h35, h41, h67, h88, h94, h110, h117, h138]; done) | exact absurd h94 h138) (ih 0 (k + 2) _ W2 N2 hv2 (by omega) (by omega) (by omega)))) | (exact j_lv [0, 1, 2] rfl (by rw [nI_inc, nI_inc]; obtain ⟨W2, N2, hv2, hs2⟩ := mTdd_iv hinj (mWord_iv hinj (mLk M m (k + 1) - 48 + 0) hiv) (by omega); exact j_r (by first | (simp [mCd, h19, h29, h35, h41, h67, h88, h94, h110, h117, h138]; done) | exact absurd h94 h138) (by first | (simp [mCd, h19, h29, h35, h41, h67, h88, h94, h110, h117, h138]; done) | exact absurd h94 h138) (ih 0 (k + 2) _ W2 N2 hv2 (by omega) (by omega) (by omega))))
                    · refine j_iconst (v := -1) E dX7_condition_120 (by decide) ?_
                      refine j_iload_n E dX7_condition_121 rfl rfl ?_
                      refine j_iconst (v := 1) E dX7_condition_122 (by decide) ?_
                      refine j_iadd E dX7_condition_123 ?_
                      refine j_isub E dX7_condition_124 ?_
                      exact j_iret E dX7_condition_125 (by first | (simp [mCd, nI_1, h19, h29, h35, h41, h67, h88, h94, h110, h117]; done) | (exfalso; rw [h188] at h218; exact absurd h218 (by decide))) rfl (by first | (simp [mCd, nI_1, h19, h29, h35, h41, h67, h88, h94, h110, h117]; done) | (exfalso; rw [h188] at h218; exact absurd h218 (by decide)))
            · refine j_aload_n E dX7_condition_70 rfl rfl ?_
              refine j_bipush (v := 8) E dX7_condition_71 (by decide) ?_
              refine j_callV0 (ci := 7) (n := 1) E (k_X7_word hM0 hiv.2.2 (by omega)) dX7_condition_73 gX7_condition_X7_word rfl (by decide +kernel) ⟨rfl, rfl, by decide, by decide⟩ ⟨Nat.zero_le _, Nat.zero_le _⟩ hm1 hm2 rfl rfl rfl (Nat.le_of_ble_eq_true rfl) rfl ?_
              refine j_aload_n E dX7_condition_76 rfl rfl ?_
              refine j_callV0 (ci := 7) (n := 0) E (k_X7_termDone hM0 (mWord_iv hinj _ hiv) (by omega)) dX7_condition_77 gX7_condition_X7_termDone rfl (by decide +kernel) ⟨rfl, rfl, by decide, by decide⟩ ⟨Nat.zero_le _, Nat.zero_le _⟩ hm1 hm2 rfl rfl rfl (Nat.le_of_ble_eq_true rfl) rfl ?_
              refine j_iconst (v := 0) E dX7_condition_80 (by decide) ?_
              refine j_istore_n E dX7_condition_81 rfl (by decide) ?_
              refine j_goto (tgt := 234) E dX7_condition_82 (by decide) ?_
              refine j_iinc E dX7_condition_234 rfl (by decide) ?_
              refine j_goto (tgt := 14) E dX7_condition_237 (by decide) ?_
              exact j_lv [0, 1, 2] rfl (by rw [nI_inc]; obtain ⟨W2, N2, hv2, hs2⟩ := mTdd_iv hinj (mWord_iv hinj 8 hiv) (by omega); exact j_r (by simp [mCd, h19, h29, h35, h41, h67]) (by simp [mCd, h19, h29, h35, h41, h67]) (ih 0 (k + 1) _ W2 N2 hv2 (by omega) (by omega) (by omega)))
          · refine j_aload_n E dX7_condition_44 rfl rfl ?_
            refine j_callV1 (ci := 7) (n := 0) E (k_X7_deepness hM0 hiv.2.1 (by omega)) dX7_condition_45 gX7_condition_X7_deepness rfl (by decide +kernel) ⟨rfl, rfl, by decide, by decide⟩ ⟨Nat.zero_le _, Nat.zero_le _⟩ hm1 hm2 rfl rfl rfl (Nat.le_of_ble_eq_true rfl) rfl ?_
            refine j_iconst (v := 4) E dX7_condition_48 (by decide) ?_
            refine j_icmp_ne (tgt := 56) E dX7_condition_49 (by decide) (fun h49 => ?_) (fun h49 => ?_)
            · refine j_aload_n E dX7_condition_56 rfl rfl ?_
              refine j_iload_n E dX7_condition_57 rfl rfl ?_
              refine j_callV0 (ci := 7) (n := 1) E (k_X7_put hM0 hiv.2.1 (by omega) (vpn (mLk_n hiv.1 (by omega)))) dX7_condition_58 gX7_condition_X7_put rfl (by decide +kernel) ⟨rfl, rfl, by decide, by decide⟩ ⟨Nat.zero_le _, Nat.zero_le _⟩ hm1 hm2 rfl rfl rfl (Nat.le_of_ble_eq_true rfl) rfl ?_
              refine j_goto (tgt := 234) E dX7_condition_61 (by decide) ?_
              refine j_iinc E dX7_condition_234 rfl (by decide) ?_
              refine j_goto (tgt := 14) E dX7_condition_237 (by decide) ?_
              exact j_lv [0, 1, 2] rfl (by rw [nI_inc]; exact j_r (by simp [mCd, h19, h29, h35, h41, h49]) (by simp [mCd, h19, h29, h35, h41, h49]) (ih _ (k + 1) _ (W + 1) N (mPut_iv hinj _ hiv) (by omega) (by omega) (by omega)))
            · refine j_iconst (v := -1) E dX7_condition_52 (by decide) ?_
              refine j_iload_n E dX7_condition_53 rfl rfl ?_
              refine j_isub E dX7_condition_54 ?_
              exact j_iret E dX7_condition_55 (by first | (simp [mCd, nI_1, h19, h29, h35, h41, h49]; done) | (exfalso; rw [h188] at h218; exact absurd h218 (by decide))) rfl (by first | (simp [mCd, nI_1, h19, h29, h35, h41, h49]; done) | (exfalso; rw [h188] at h218; exact absurd h218 (by decide)))

set_option maxHeartbeats 1600000 in
set_option maxRecDepth 100000 in
theorem k_X7_condition {l : Launch} {D : va_G} {cy : Nat → ClassId} {X : va_W} {G : pG} {M : pM} {m : Nat → Nat} {n : Nat} (hM : wM G m) (hP : okP M m n) : jK l yX7_condition wsX7_condition ({ frames := 2, cells := 0, slots := 0, locals := 41 } : Room) D cy X G M [.ref (m 0)] (some (.int (mCond M m).1)) X (mCond M m).2 := by
  refine jK_of (own := RX7) (by decide) rfl rfl (Nat.le_of_ble_eq_true rfl) (fun C E hl hD hcy hG => ?_)
  subst hl; subst hD; subst hcy; subst hG
  have hinX7 : ∀ w ∈ u_ws RX7 TX7 34, w ∈ wsX7_condition := by decide +kernel
  have hM0 := hM
  obtain ⟨hm1, hm2, hmt, hinj⟩ := hM
  refine j_aload_n E dX7_condition_0 rfl rfl ?_
  refine j_iconst (v := 0) E dX7_condition_1 (by decide) ?_
  refine j_putI (ci := 7) (k := 30) (Cn := RX7) (T := TX7) (N := 34) E dX7_condition_2 hm1 hm2 rfl (by decide) hinX7 (by decide +kernel) rfl tyX7 tyX7_ok nmX7 rfl rfl rfl rfl ?_
  refine j_aload_n E dX7_condition_5 rfl rfl ?_
  refine j_iconst (v := 0) E dX7_condition_6 (by decide) ?_
  refine j_putI (ci := 7) (k := 32) (Cn := RX7) (T := TX7) (N := 34) E dX7_condition_7 hm1 hm2 rfl (by decide) hinX7 (by decide +kernel) rfl tyX7 tyX7_ok nmX7 rfl rfl rfl rfl ?_
  refine j_iconst (v := 1) E dX7_condition_10 (by decide) ?_
  refine j_istore_n E dX7_condition_11 rfl (by decide) ?_
  refine j_iconst (v := 0) E dX7_condition_12 (by decide) ?_
  refine j_istore_n E dX7_condition_13 rfl (by decide) ?_
  exact j_lv [0, 1, 2] rfl (j_r (by unfold mCond; rw [hP.2.1, nI_clamp (by have := hP.1; omega)]) (by unfold mCond; rw [hP.2.1, nI_clamp (by have := hP.1; omega)]) (kl_X7_condition_14 E hM0 hP.1 (n + 1) 1 0 _ 0 0 ⟨okP_ok (by simp [pI_rd]) (by rw [pI0 hinj _ _ _ 24 (by decide) (by decide), pI0 hinj _ _ _ 24 (by decide) (by decide)]) hP, by simp [pI_rd]; rfl, by simp [pI_rd]; rfl⟩ (by omega) (by omega) (by omega)))
