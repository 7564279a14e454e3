theorem ixm1 {v : Int32} {R : Nat} (h : ¬ mIn v 0 (nI R - 1) = 0) (hR : R ≤ 1000) : v = nI v.toNatClampNeg ∧ v.toNatClampNeg < R := by
  cases R with
  | zero =>
    exfalso
    unfold mIn at h
    by_cases h1 : v < 0
    · rw [if_pos h1] at h; exact absurd rfl h
    · rw [if_neg h1] at h
      by_cases h2 : nI 0 - 1 < v
      · rw [if_pos h2] at h; exact absurd rfl h
      · rw [Int32.lt_iff_toInt_lt] at h1 h2
        have e1 : (nI 0 - 1).toInt = -1 := by decide
        have e2 : (0 : Int32).toInt = 0 := by decide
        omega
  | succ R => rw [nI_pred] at h; exact ix01 h (by omega)
theorem mWn_ok {M M' : pM} {m : Nat → Nat} (h2 : M.1 (m 2) = M'.1 (m 2)) (h3 : M.1 (m 3) = M'.1 (m 3)) (h9 : M.1 (m 9) = M'.1 (m 9)) (h12 : M.1 (m 12) = M'.1 (m 12)) (hF : M.2 = M'.2) (z : Int32) : ∀ n p s, mWn M m z n p s = mWn M' m z n p s := by
  intro n
  induction n with
  | zero => intro p s; rfl
  | succ n ih => intro p s; unfold mWn; unfold mWn1 mMine mSens; rw [h2, h3, h9, h12, hF, ih]
theorem mFt_ok {M M' : pM} {m : Nat → Nat} (h11 : M.1 (m 11) = M'.1 (m 11)) : ∀ n p s, mFt M m n p s = mFt M' m n p s := by
  intro n
  induction n with
  | zero => intro p s; rfl
  | succ n ih => intro p s; unfold mFt; rw [h11, ih]
theorem pI0 {m : Nat → Nat} (hinj : ∀ i j, i < 34 → j < 34 → m i = m j → i = j) (M : pM) (k : Nat) (v : Int32) (i : Nat) (hi : i < 34) (h0 : i ≠ 0) : (pI M (m 0) k v).1 (m i) = M.1 (m i) := pI_1n M k v (fun e => h0 (hinj i 0 hi (by decide) e))
theorem mix3 (i w : Nat) : (3 : Int32) * nI i + nI w = nI (3 * i + w) := by rw [show (3 : Int32) = nI 3 from rfl, pk_mul, nI_add]
theorem mix20 (r k : Nat) : (20 : Int32) * nI r + nI k = nI (20 * r + k) := by rw [show (20 : Int32) = nI 20 from rfl, pk_mul, nI_add]

set_option maxHeartbeats 1600000 in
set_option maxRecDepth 100000 in
theorem k_X7_off {l : Launch} {D : va_G} {cy : Nat → ClassId} {X : va_W} {G : pG} {M : pM} {m : Nat → Nat} {z n o : Int32} (hM : wM G m) (ho : o = 0 ∨ o = 1) : jK l yX7_off wsX7_off ({ frames := 1, cells := 0, slots := 0, locals := 23 } : Room) D cy X G M [.ref (m 0), .int z, .int n, .int o] (some (.int (mOff M m z n o).1)) X (mOff M m z n o).2 := by
  refine jK_of (own := RX7) (by decide) rfl rfl (Nat.le_of_ble_eq_true rfl) (fun C E hl hD hcy hG => ?_)
  subst hl; subst hD; subst hcy; subst hG
  have hinX7 : ∀ w ∈ u_ws RX7 TX7 34, w ∈ wsX7_off := by decide +kernel
  have hM0 := hM
  obtain ⟨hm1, hm2, hmt, hinj⟩ := hM
  obtain ⟨mp12, ml12, mk12, mn12⟩ := hmt 12 11 16 rfl
  obtain ⟨mp13, ml13, mk13, mn13⟩ := hmt 13 11 4 rfl
  refine j_aload_n E dX7_off_0 rfl rfl ?_
  refine j_iload_n E dX7_off_1 rfl rfl ?_
  refine j_iconst (v := 0) E dX7_off_2 (by decide) ?_
  refine j_iload_n E dX7_off_3 rfl rfl ?_
  refine j_if_eq (tgt := 11) E dX7_off_4 (by decide) (fun h4 => ?_) (fun h4 => ?_)
  · refine j_bipush (v := 15) E dX7_off_11 (by decide) ?_
    refine j_callS1 (n := 3) E (k_X7_in ) dX7_off_13 gX7_off_X7_in rfl (by decide +kernel) ⟨rfl, rfl, by decide, by decide⟩ ⟨Nat.zero_le _, Nat.zero_le _⟩ rfl rfl (Nat.le_of_ble_eq_true rfl) rfl ?_
    refine j_if_ne (tgt := 23) E dX7_off_16 (by decide) (fun h16 => ?_) (fun h16 => ?_)
    · refine j_aload_n E dX7_off_23 rfl rfl ?_
      refine j_getI (ci := 7) (k := 26) (Cn := RX7) (T := TX7) (N := 34) E dX7_off_24 hm1 hm2 rfl (by decide) hinX7 (by decide +kernel) rfl ?_
      refine j_iconst (v := 2) E dX7_off_27 (by decide) ?_
      refine j_icmp_ge (tgt := 35) E dX7_off_28 (by decide) (fun h28 => ?_) (fun h28 => ?_)
      · refine j_iconst (v := 0) E dX7_off_35 (by decide) ?_
        refine j_putI (ci := 7) (k := 0) (Cn := RX7) (T := TX7) (N := 34) E dX7_off_36 hm1 hm2 rfl (by decide) hinX7 (by decide +kernel) rfl tyX7 tyX7_ok nmX7 rfl rfl rfl rfl ?_
        refine j_aload_n E dX7_off_39 rfl rfl ?_
        refine j_getI (ci := 7) (k := 0) (Cn := RX7) (T := TX7) (N := 34) E dX7_off_40 hm1 hm2 rfl (by decide) hinX7 (by decide +kernel) rfl ?_
        try simp only [pI_m hinj, pF_m hinj, pI_2, pF_1, Nat.reduceEqDiff, Nat.reduceLT, Nat.reduceLeDiff, eq_self, ↓reduceIte]
        refine j_if_le (tgt := 48) E dX7_off_43 (by decide) (fun h43 => ?_) (fun h43 => ?_)
        · first
          | exact absurd h43 (by decide)
          | exact absurd (by decide) h43
          | (
              refine j_iload_n E dX7_off_48 rfl rfl ?_
              refine j_if_eq (tgt := 61) E dX7_off_49 (by decide) (fun h49 => ?_) (fun h49 => ?_)
              · first
                | exact absurd h4 h49
                | exact absurd h49 h4
                | (
                    refine j_aload_n E dX7_off_61 rfl rfl ?_
                    refine j_getP (ci := 7) (k := 12) (Cn := RX7) (T := TX7) (N := 34) E dX7_off_62 hm1 hm2 rfl (by decide) hinX7 (by decide +kernel) rfl mp12 ?_
                    refine j_iload_n E dX7_off_65 rfl rfl ?_
                    refine j_zald E dX7_off_66 ml12 mn12 (ix01 (n := 15) h16 (by decide)).1 (ix01 (n := 15) h16 (by decide)).2 (by decide) mk12 ?_
                    try simp only [pI_m hinj, pF_m hinj, pI_2, pF_1, Nat.reduceEqDiff, Nat.reduceLT, Nat.reduceLeDiff, eq_self, ↓reduceIte]
                    refine j_istore E dX7_off_67 (by decide) ?_
                    refine j_iload E dX7_off_69 rfl ?_
                    refine j_iload_n E dX7_off_71 rfl rfl ?_
                    refine j_icmp_ne (tgt := 77) E dX7_off_72 (by decide) (fun h72 => ?_) (fun h72 => ?_)
                    · refine j_iload_n E dX7_off_77 rfl rfl ?_
                      refine j_if_eq (tgt := 91) E dX7_off_78 (by decide) (fun h78 => ?_) (fun h78 => ?_)
                      · first
                        | exact absurd h4 h78
                        | exact absurd h78 h4
                        | (
                            refine j_aload_n E dX7_off_91 rfl rfl ?_
                            refine j_getP (ci := 7) (k := 12) (Cn := RX7) (T := TX7) (N := 34) E dX7_off_92 hm1 hm2 rfl (by decide) hinX7 (by decide +kernel) rfl mp12 ?_
                            refine j_iload_n E dX7_off_95 rfl rfl ?_
                            refine j_iload_n E dX7_off_96 rfl rfl ?_
                            refine j_zast E dX7_off_97 ml12 mn12 (ix01 (n := 15) h16 (by decide)).1 (ix01 (n := 15) h16 (by decide)).2 (by decide) mk12 (nar01 ho) ?_
                            refine j_aload_n E dX7_off_98 rfl rfl ?_
                            refine j_bipush (v := 7) E dX7_off_99 (by decide) ?_
                            refine j_iload_n E dX7_off_101 rfl rfl ?_
                            refine j_if_eq (tgt := 109) E dX7_off_102 (by decide) (fun h102 => ?_) (fun h102 => ?_)
                            · first
                              | exact absurd h4 h102
                              | exact absurd h102 h4
                              | (
                                  refine j_bipush (v := 10) E dX7_off_109 (by decide) ?_
                                  refine j_iload_n E dX7_off_111 rfl rfl ?_
                                  refine j_iadd E dX7_off_112 ?_
                                  refine j_callV0 (ci := 7) (n := 2) E (k_X7_note hM0) dX7_off_113 gX7_off_X7_note rfl (by decide +kernel) ⟨rfl, rfl, by decide, by decide⟩ ⟨Nat.zero_le _, Nat.zero_le _⟩ hm1 hm2 rfl rfl rfl (Nat.le_of_ble_eq_true rfl) rfl ?_
                                  refine j_iconst (v := 1) E dX7_off_116 (by decide) ?_
                                  exact j_zret E dX7_off_117 rfl (by simp [mOff, mOffT, h4, h16, h28, h43, h49, h72, h78, h102]) rfl (by simp [mOff, mOffT, h4, h16, h28, h43, h49, h72, h78, h102])
                                )
                            · first
                              | exact absurd h4 h102
                              | exact absurd h102 h4
                              | (
                                  refine j_iload_n E dX7_off_105 rfl rfl ?_
                                  refine j_goto (tgt := 113) E dX7_off_106 (by decide) ?_
                                  refine j_callV0 (ci := 7) (n := 2) E (k_X7_note hM0) dX7_off_113 gX7_off_X7_note rfl (by decide +kernel) ⟨rfl, rfl, by decide, by decide⟩ ⟨Nat.zero_le _, Nat.zero_le _⟩ hm1 hm2 rfl rfl rfl (Nat.le_of_ble_eq_true rfl) rfl ?_
                                  refine j_iconst (v := 1) E dX7_off_116 (by decide) ?_
                                  exact j_zret E dX7_off_117 rfl (by simp [mOff, mOffT, h4, h16, h28, h43, h49, h72, h78, h102]) rfl (by simp [mOff, mOffT, h4, h16, h28, h43, h49, h72, h78, h102])
                                )
                          )
                      · first
                        | exact absurd h4 h78
                        | exact absurd h78 h4
                        | (
                            refine j_aload_n E dX7_off_81 rfl rfl ?_
                            refine j_getP (ci := 7) (k := 13) (Cn := RX7) (T := TX7) (N := 34) E dX7_off_82 hm1 hm2 rfl (by decide) hinX7 (by decide +kernel) rfl mp13 ?_
                            refine j_iload_n E dX7_off_85 rfl rfl ?_
                            refine j_iload_n E dX7_off_86 rfl rfl ?_
                            refine j_zast E dX7_off_87 ml13 mn13 (ix01 (n := 3) h16 (by decide)).1 (ix01 (n := 3) h16 (by decide)).2 (by decide) mk13 (nar01 ho) ?_
                            refine j_goto (tgt := 98) E dX7_off_88 (by decide) ?_
                            refine j_aload_n E dX7_off_98 rfl rfl ?_
                            refine j_bipush (v := 7) E dX7_off_99 (by decide) ?_
                            refine j_iload_n E dX7_off_101 rfl rfl ?_
                            refine j_if_eq (tgt := 109) E dX7_off_102 (by decide) (fun h102 => ?_) (fun h102 => ?_)
                            · first
                              | exact absurd h4 h102
                              | exact absurd h102 h4
                              | (
                                  refine j_bipush (v := 10) E dX7_off_109 (by decide) ?_
                                  refine j_iload_n E dX7_off_111 rfl rfl ?_
                                  refine j_iadd E dX7_off_112 ?_
                                  refine j_callV0 (ci := 7) (n := 2) E (k_X7_note hM0) dX7_off_113 gX7_off_X7_note rfl (by decide +kernel) ⟨rfl, rfl, by decide, by decide⟩ ⟨Nat.zero_le _, Nat.zero_le _⟩ hm1 hm2 rfl rfl rfl (Nat.le_of_ble_eq_true rfl) rfl ?_
                                  refine j_iconst (v := 1) E dX7_off_116 (by decide) ?_
                                  exact j_zret E dX7_off_117 rfl (by simp [mOff, mOffT, h4, h16, h28, h43, h49, h72, h78, h102]) rfl (by simp [mOff, mOffT, h4, h16, h28, h43, h49, h72, h78, h102])
                                )
                            · first
                              | exact absurd h4 h102
                              | exact absurd h102 h4
                              | (
                                  refine j_iload_n E dX7_off_105 rfl rfl ?_
                                  refine j_goto (tgt := 113) E dX7_off_106 (by decide) ?_
                                  refine j_callV0 (ci := 7) (n := 2) E (k_X7_note hM0) dX7_off_113 gX7_off_X7_note rfl (by decide +kernel) ⟨rfl, rfl, by decide, by decide⟩ ⟨Nat.zero_le _, Nat.zero_le _⟩ hm1 hm2 rfl rfl rfl (Nat.le_of_ble_eq_true rfl) rfl ?_
                                  refine j_iconst (v := 1) E dX7_off_116 (by decide) ?_
                                  exact j_zret E dX7_off_117 rfl (by simp [mOff, mOffT, h4, h16, h28, h43, h49, h72, h78, h102]) rfl (by simp [mOff, mOffT, h4, h16, h28, h43, h49, h72, h78, h102])
                                )
                          )
                    · refine j_iconst (v := 0) E dX7_off_75 (by decide) ?_
                      exact j_zret E dX7_off_76 rfl (by simp [mOff, mOffT, h4, h16, h28, h43, h49, h72]) rfl (by simp [mOff, mOffT, h4, h16, h28, h43, h49, h72])
                  )
              · first
                | exact absurd h4 h49
                | exact absurd h49 h4
                | (
                    refine j_aload_n E dX7_off_52 rfl rfl ?_
                    refine j_getP (ci := 7) (k := 13) (Cn := RX7) (T := TX7) (N := 34) E dX7_off_53 hm1 hm2 rfl (by decide) hinX7 (by decide +kernel) rfl mp13 ?_
                    refine j_iload_n E dX7_off_56 rfl rfl ?_
                    refine j_zald E dX7_off_57 ml13 mn13 (ix01 (n := 3) h16 (by decide)).1 (ix01 (n := 3) h16 (by decide)).2 (by decide) mk13 ?_
                    try simp only [pI_m hinj, pF_m hinj, pI_2, pF_1, Nat.reduceEqDiff, Nat.reduceLT, Nat.reduceLeDiff, eq_self, ↓reduceIte]
                    refine j_goto (tgt := 67) E dX7_off_58 (by decide) ?_
                    refine j_istore E dX7_off_67 (by decide) ?_
                    refine j_iload E dX7_off_69 rfl ?_
                    refine j_iload_n E dX7_off_71 rfl rfl ?_
                    refine j_icmp_ne (tgt := 77) E dX7_off_72 (by decide) (fun h72 => ?_) (fun h72 => ?_)
                    · refine j_iload_n E dX7_off_77 rfl rfl ?_
                      refine j_if_eq (tgt := 91) E dX7_off_78 (by decide) (fun h78 => ?_) (fun h78 => ?_)
                      · first
                        | exact absurd h4 h78
                        | exact absurd h78 h4
                        | (
                            refine j_aload_n E dX7_off_91 rfl rfl ?_
                            refine j_getP (ci := 7) (k := 12) (Cn := RX7) (T := TX7) (N := 34) E dX7_off_92 hm1 hm2 rfl (by decide) hinX7 (by decide +kernel) rfl mp12 ?_
                            refine j_iload_n E dX7_off_95 rfl rfl ?_
                            refine j_iload_n E dX7_off_96 rfl rfl ?_
                            refine j_zast E dX7_off_97 ml12 mn12 (ix01 (n := 15) h16 (by decide)).1 (ix01 (n := 15) h16 (by decide)).2 (by decide) mk12 (nar01 ho) ?_
                            refine j_aload_n E dX7_off_98 rfl rfl ?_
                            refine j_bipush (v := 7) E dX7_off_99 (by decide) ?_
                            refine j_iload_n E dX7_off_101 rfl rfl ?_
                            refine j_if_eq (tgt := 109) E dX7_off_102 (by decide) (fun h102 => ?_) (fun h102 => ?_)
                            · first
                              | exact absurd h4 h102
                              | exact absurd h102 h4
                              | (
                                  refine j_bipush (v := 10) E dX7_off_109 (by decide) ?_
                                  refine j_iload_n E dX7_off_111 rfl rfl ?_
                                  refine j_iadd E dX7_off_112 ?_
                                  refine j_callV0 (ci := 7) (n := 2) E (k_X7_note hM0) dX7_off_113 gX7_off_X7_note rfl (by decide +kernel) ⟨rfl, rfl, by decide, by decide⟩ ⟨Nat.zero_le _, Nat.zero_le _⟩ hm1 hm2 rfl rfl rfl (Nat.le_of_ble_eq_true rfl) rfl ?_
                                  refine j_iconst (v := 1) E dX7_off_116 (by decide) ?_
                                  exact j_zret E dX7_off_117 rfl (by simp [mOff, mOffT, h4, h16, h28, h43, h49, h72, h78, h102]) rfl (by simp [mOff, mOffT, h4, h16, h28, h43, h49, h72, h78, h102])
                                )
                            · first
                              | exact absurd h4 h102
                              | exact absurd h102 h4
                              | (
                                  refine j_iload_n E dX7_off_105 rfl rfl ?_
                                  refine j_goto (tgt := 113) E dX7_off_106 (by decide) ?_
                                  refine j_callV0 (ci := 7) (n := 2) E (k_X7_note hM0) dX7_off_113 gX7_off_X7_note rfl (by decide +kernel) ⟨rfl, rfl, by decide, by decide⟩ ⟨Nat.zero_le _, Nat.zero_le _⟩ hm1 hm2 rfl rfl rfl (Nat.le_of_ble_eq_true rfl) rfl ?_
                                  refine j_iconst (v := 1) E dX7_off_116 (by decide) ?_
                                  exact j_zret E dX7_off_117 rfl (by simp [mOff, mOffT, h4, h16, h28, h43, h49, h72, h78, h102]) rfl (by simp [mOff, mOffT, h4, h16, h28, h43, h49, h72, h78, h102])
                                )
                          )
                      · first
                        | exact absurd h4 h78
                        | exact absurd h78 h4
                        | (
                            refine j_aload_n E dX7_off_81 rfl rfl ?_
                            refine j_getP (ci := 7) (k := 13) (Cn := RX7) (T := TX7) (N := 34) E dX7_off_82 hm1 hm2 rfl (by decide) hinX7 (by decide +kernel) rfl mp13 ?_
                            refine j_iload_n E dX7_off_85 rfl rfl ?_
                            refine j_iload_n E dX7_off_86 rfl rfl ?_
                            refine j_zast E dX7_off_87 ml13 mn13 (ix01 (n := 3) h16 (by decide)).1 (ix01 (n := 3) h16 (by decide)).2 (by decide) mk13 (nar01 ho) ?_
                            refine j_goto (tgt := 98) E dX7_off_88 (by decide) ?_
                            refine j_aload_n E dX7_off_98 rfl rfl ?_
                            refine j_bipush (v := 7) E dX7_off_99 (by decide) ?_
                            refine j_iload_n E dX7_off_101 rfl rfl ?_
                            refine j_if_eq (tgt := 109) E dX7_off_102 (by decide) (fun h102 => ?_) (fun h102 => ?_)
                            · first
                              | exact absurd h4 h102
                              | exact absurd h102 h4
                              | (
                                  refine j_bipush (v := 10) E dX7_off_109 (by decide) ?_
                                  refine j_iload_n E dX7_off_111 rfl rfl ?_
                                  refine j_iadd E dX7_off_112 ?_
                                  refine j_callV0 (ci := 7) (n := 2) E (k_X7_note hM0) dX7_off_113 gX7_off_X7_note rfl (by decide +kernel) ⟨rfl, rfl, by decide, by decide⟩ ⟨Nat.zero_le _, Nat.zero_le _⟩ hm1 hm2 rfl rfl rfl (Nat.le_of_ble_eq_true rfl) rfl ?_
                                  refine j_iconst (v := 1) E dX7_off_116 (by decide) ?_
                                  exact j_zret E dX7_off_117 rfl (by simp [mOff, mOffT, h4, h16, h28, h43, h49, h72, h78, h102]) rfl (by simp [mOff, mOffT, h4, h16, h28, h43, h49, h72, h78, h102])
                                )
                            · first
                              | exact absurd h4 h102
                              | exact absurd h102 h4
                              | (
                                  refine j_iload_n E dX7_off_105 rfl rfl ?_
                                  refine j_goto (tgt := 113) E dX7_off_106 (by decide) ?_
                                  refine j_callV0 (ci := 7) (n := 2) E (k_X7_note hM0) dX7_off_113 gX7_off_X7_note rfl (by decide +kernel) ⟨rfl, rfl, by decide, by decide⟩ ⟨Nat.zero_le _, Nat.zero_le _⟩ hm1 hm2 rfl rfl rfl (Nat.le_of_ble_eq_true rfl) rfl ?_
                                  refine j_iconst (v := 1) E dX7_off_116 (by decide) ?_
                                  exact j_zret E dX7_off_117 rfl (by simp [mOff, mOffT, h4, h16, h28, h43, h49, h72, h78, h102]) rfl (by simp [mOff, mOffT, h4, h16, h28, h43, h49, h72, h78, h102])
                                )
                          )
                    · refine j_iconst (v := 0) E dX7_off_75 (by decide) ?_
                      exact j_zret E dX7_off_76 rfl (by simp [mOff, mOffT, h4, h16, h28, h43, h49, h72]) rfl (by simp [mOff, mOffT, h4, h16, h28, h43, h49, h72])
                  )
            )
        · first
          | exact absurd h43 (by decide)
          | exact absurd (by decide) h43
          | (
              refine j_iconst (v := 0) E dX7_off_46 (by decide) ?_
              exact j_zret E dX7_off_47 rfl (by simp [mOff, mOffT, h4, h16, h28, h43]) rfl (by simp [mOff, mOffT, h4, h16, h28, h43])
            )
      · refine j_iconst (v := 2) E dX7_off_31 (by decide) ?_
        refine j_goto (tgt := 36) E dX7_off_32 (by decide) ?_
        refine j_putI (ci := 7) (k := 0) (Cn := RX7) (T := TX7) (N := 34) E dX7_off_36 hm1 hm2 rfl (by decide) hinX7 (by decide +kernel) rfl tyX7 tyX7_ok nmX7 rfl rfl rfl rfl ?_
        refine j_aload_n E dX7_off_39 rfl rfl ?_
        refine j_getI (ci := 7) (k := 0) (Cn := RX7) (T := TX7) (N := 34) E dX7_off_40 hm1 hm2 rfl (by decide) hinX7 (by decide +kernel) rfl ?_
        try simp only [pI_m hinj, pF_m hinj, pI_2, pF_1, Nat.reduceEqDiff, Nat.reduceLT, Nat.reduceLeDiff, eq_self, ↓reduceIte]
        refine j_if_le (tgt := 48) E dX7_off_43 (by decide) (fun h43 => ?_) (fun h43 => ?_)
        · first
          | exact absurd h43 (by decide)
          | exact absurd (by decide) h43
          | (
              refine j_iload_n E dX7_off_48 rfl rfl ?_
              refine j_if_eq (tgt := 61) E dX7_off_49 (by decide) (fun h49 => ?_) (fun h49 => ?_)
              · first
                | exact absurd h4 h49
                | exact absurd h49 h4
                | (
                    refine j_aload_n E dX7_off_61 rfl rfl ?_
                    refine j_getP (ci := 7) (k := 12) (Cn := RX7) (T := TX7) (N := 34) E dX7_off_62 hm1 hm2 rfl (by decide) hinX7 (by decide +kernel) rfl mp12 ?_
                    refine j_iload_n E dX7_off_65 rfl rfl ?_
                    refine j_zald E dX7_off_66 ml12 mn12 (ix01 (n := 15) h16 (by decide)).1 (ix01 (n := 15) h16 (by decide)).2 (by decide) mk12 ?_
                    try simp only [pI_m hinj, pF_m hinj, pI_2, pF_1, Nat.reduceEqDiff, Nat.reduceLT, Nat.reduceLeDiff, eq_self, ↓reduceIte]
                    refine j_istore E dX7_off_67 (by decide) ?_
                    refine j_iload E dX7_off_69 rfl ?_
                    refine j_iload_n E dX7_off_71 rfl rfl ?_
                    refine j_icmp_ne (tgt := 77) E dX7_off_72 (by decide) (fun h72 => ?_) (fun h72 => ?_)
                    · refine j_iload_n E dX7_off_77 rfl rfl ?_
                      refine j_if_eq (tgt := 91) E dX7_off_78 (by decide) (fun h78 => ?_) (fun h78 => ?_)
                      · first
                        | exact absurd h4 h78
                        | exact absurd h78 h4
                        | (
                            refine j_aload_n E dX7_off_91 rfl rfl ?_
                            refine j_getP (ci := 7) (k := 12) (Cn := RX7) (T := TX7) (N := 34) E dX7_off_92 hm1 hm2 rfl (by decide) hinX7 (by decide +kernel) rfl mp12 ?_
                            refine j_iload_n E dX7_off_95 rfl rfl ?_
                            refine j_iload_n E dX7_off_96 rfl rfl ?_
                            refine j_zast E dX7_off_97 ml12 mn12 (ix01 (n := 15) h16 (by decide)).1 (ix01 (n := 15) h16 (by decide)).2 (by decide) mk12 (nar01 ho) ?_
                            refine j_aload_n E dX7_off_98 rfl rfl ?_
                            refine j_bipush (v := 7) E dX7_off_99 (by decide) ?_
                            refine j_iload_n E dX7_off_101 rfl rfl ?_
                            refine j_if_eq (tgt := 109) E dX7_off_102 (by decide) (fun h102 => ?_) (fun h102 => ?_)
                            · first
                              | exact absurd h4 h102
                              | exact absurd h102 h4
                              | (
                                  refine j_bipush (v := 10) E dX7_off_109 (by decide) ?_
                                  refine j_iload_n E dX7_off_111 rfl rfl ?_
                                  refine j_iadd E dX7_off_112 ?_
                                  refine j_callV0 (ci := 7) (n := 2) E (k_X7_note hM0) dX7_off_113 gX7_off_X7_note rfl (by decide +kernel) ⟨rfl, rfl, by decide, by decide⟩ ⟨Nat.zero_le _, Nat.zero_le _⟩ hm1 hm2 rfl rfl rfl (Nat.le_of_ble_eq_true rfl) rfl ?_
                                  refine j_iconst (v := 1) E dX7_off_116 (by decide) ?_
                                  exact j_zret E dX7_off_117 rfl (by simp [mOff, mOffT, h4, h16, h28, h43, h49, h72, h78, h102]) rfl (by simp [mOff, mOffT, h4, h16, h28, h43, h49, h72, h78, h102])
                                )
                            · first
                              | exact absurd h4 h102
                              | exact absurd h102 h4
                              | (
                                  refine j_iload_n E dX7_off_105 rfl rfl ?_
                                  refine j_goto (tgt := 113) E dX7_off_106 (by decide) ?_
                                  refine j_callV0 (ci := 7) (n := 2) E (k_X7_note hM0) dX7_off_113 gX7_off_X7_note rfl (by decide +kernel) ⟨rfl, rfl, by decide, by decide⟩ ⟨Nat.zero_le _, Nat.zero_le _⟩ hm1 hm2 rfl rfl rfl (Nat.le_of_ble_eq_true rfl) rfl ?_
                                  refine j_iconst (v := 1) E dX7_off_116 (by decide) ?_
                                  exact j_zret E dX7_off_117 rfl (by simp [mOff, mOffT, h4, h16, h28, h43, h49, h72, h78, h102]) rfl (by simp [mOff, mOffT, h4, h16, h28, h43, h49, h72, h78, h102])
                                )
                          )
                      · first
                        | exact absurd h4 h78
                        | exact absurd h78 h4
                        | (
                            refine j_aload_n E dX7_off_81 rfl rfl ?_
                            refine j_getP (ci := 7) (k := 13) (Cn := RX7) (T := TX7) (N := 34) E dX7_off_82 hm1 hm2 rfl (by decide) hinX7 (by decide +kernel) rfl mp13 ?_
                            refine j_iload_n E dX7_off_85 rfl rfl ?_
                            refine j_iload_n E dX7_off_86 rfl rfl ?_
                            refine j_zast E dX7_off_87 ml13 mn13 (ix01 (n := 3) h16 (by decide)).1 (ix01 (n := 3) h16 (by decide)).2 (by decide) mk13 (nar01 ho) ?_
                            refine j_goto (tgt := 98) E dX7_off_88 (by decide) ?_
                            refine j_aload_n E dX7_off_98 rfl rfl ?_
                            refine j_bipush (v := 7) E dX7_off_99 (by decide) ?_
                            refine j_iload_n E dX7_off_101 rfl rfl ?_
                            refine j_if_eq (tgt := 109) E dX7_off_102 (by decide) (fun h102 => ?_) (fun h102 => ?_)
                            · first
                              | exact absurd h4 h102
                              | exact absurd h102 h4
                              | (
                                  refine j_bipush (v := 10) E dX7_off_109 (by decide) ?_
                                  refine j_iload_n E dX7_off_111 rfl rfl ?_
                                  refine j_iadd E dX7_off_112 ?_
                                  refine j_callV0 (ci := 7) (n := 2) E (k_X7_note hM0) dX7_off_113 gX7_off_X7_note rfl (by decide +kernel) ⟨rfl, rfl, by decide, by decide⟩ ⟨Nat.zero_le _, Nat.zero_le _⟩ hm1 hm2 rfl rfl rfl (Nat.le_of_ble_eq_true rfl) rfl ?_
                                  refine j_iconst (v := 1) E dX7_off_116 (by decide) ?_
                                  exact j_zret E dX7_off_117 rfl (by simp [mOff, mOffT, h4, h16, h28, h43, h49, h72, h78, h102]) rfl (by simp [mOff, mOffT, h4, h16, h28, h43, h49, h72, h78, h102])
                                )
                            · first
                              | exact absurd h4 h102
                              | exact absurd h102 h4
                              | (
                                  refine j_iload_n E dX7_off_105 rfl rfl ?_
                                  refine j_goto (tgt := 113) E dX7_off_106 (by decide) ?_
                                  refine j_callV0 (ci := 7) (n := 2) E (k_X7_note hM0) dX7_off_113 gX7_off_X7_note rfl (by decide +kernel) ⟨rfl, rfl, by decide, by decide⟩ ⟨Nat.zero_le _, Nat.zero_le _⟩ hm1 hm2 rfl rfl rfl (Nat.le_of_ble_eq_true rfl) rfl ?_
                                  refine j_iconst (v := 1) E dX7_off_116 (by decide) ?_
                                  exact j_zret E dX7_off_117 rfl (by simp [mOff, mOffT, h4, h16, h28, h43, h49, h72, h78, h102]) rfl (by simp [mOff, mOffT, h4, h16, h28, h43, h49, h72, h78, h102])
                                )
                          )
                    · refine j_iconst (v := 0) E dX7_off_75 (by decide) ?_
                      exact j_zret E dX7_off_76 rfl (by simp [mOff, mOffT, h4, h16, h28, h43, h49, h72]) rfl (by simp [mOff, mOffT, h4, h16, h28, h43, h49, h72])
                  )
              · first
                | exact absurd h4 h49
                | exact absurd h49 h4
                | (
                    refine j_aload_n E dX7_off_52 rfl rfl ?_
                    refine j_getP (ci := 7) (k := 13) (Cn := RX7) (T := TX7) (N := 34) E dX7_off_53 hm1 hm2 rfl (by decide) hinX7 (by decide +kernel) rfl mp13 ?_
                    refine j_iload_n E dX7_off_56 rfl rfl ?_
                    refine j_zald E dX7_off_57 ml13 mn13 (ix01 (n := 3) h16 (by decide)).1 (ix01 (n := 3) h16 (by decide)).2 (by decide) mk13 ?_
                    try simp only [pI_m hinj, pF_m hinj, pI_2, pF_1, Nat.reduceEqDiff, Nat.reduceLT, Nat.reduceLeDiff, eq_self, ↓reduceIte]
                    refine j_goto (tgt := 67) E dX7_off_58 (by decide) ?_
                    refine j_istore E dX7_off_67 (by decide) ?_
                    refine j_iload E dX7_off_69 rfl ?_
                    refine j_iload_n E dX7_off_71 rfl rfl ?_
                    refine j_icmp_ne (tgt := 77) E dX7_off_72 (by decide) (fun h72 => ?_) (fun h72 => ?_)
                    · refine j_iload_n E dX7_off_77 rfl rfl ?_
                      refine j_if_eq (tgt := 91) E dX7_off_78 (by decide) (fun h78 => ?_) (fun h78 => ?_)
                      · first
                        | exact absurd h4 h78
                        | exact absurd h78 h4
                        | (
                            refine j_aload_n E dX7_off_91 rfl rfl ?_
                            refine j_getP (ci := 7) (k := 12) (Cn := RX7) (T := TX7) (N := 34) E dX7_off_92 hm1 hm2 rfl (by decide) hinX7 (by decide +kernel) rfl mp12 ?_
                            refine j_iload_n E dX7_off_95 rfl rfl ?_
                            refine j_iload_n E dX7_off_96 rfl rfl ?_
                            refine j_zast E dX7_off_97 ml12 mn12 (ix01 (n := 15) h16 (by decide)).1 (ix01 (n := 15) h16 (by decide)).2 (by decide) mk12 (nar01 ho) ?_
                            refine j_aload_n E dX7_off_98 rfl rfl ?_
                            refine j_bipush (v := 7) E dX7_off_99 (by decide) ?_
                            refine j_iload_n E dX7_off_101 rfl rfl ?_
                            refine j_if_eq (tgt := 109) E dX7_off_102 (by decide) (fun h102 => ?_) (fun h102 => ?_)
                            · first
                              | exact absurd h4 h102
                              | exact absurd h102 h4
                              | (
                                  refine j_bipush (v := 10) E dX7_off_109 (by decide) ?_
                                  refine j_iload_n E dX7_off_111 rfl rfl ?_
                                  refine j_iadd E dX7_off_112 ?_
                                  refine j_callV0 (ci := 7) (n := 2) E (k_X7_note hM0) dX7_off_113 gX7_off_X7_note rfl (by decide +kernel) ⟨rfl, rfl, by decide, by decide⟩ ⟨Nat.zero_le _, Nat.zero_le _⟩ hm1 hm2 rfl rfl rfl (Nat.le_of_ble_eq_true rfl) rfl ?_
                                  refine j_iconst (v := 1) E dX7_off_116 (by decide) ?_
                                  exact j_zret E dX7_off_117 rfl (by simp [mOff, mOffT, h4, h16, h28, h43, h49, h72, h78, h102]) rfl (by simp [mOff, mOffT, h4, h16, h28, h43, h49, h72, h78, h102])
                                )
                            · first
                              | exact absurd h4 h102
                              | exact absurd h102 h4
                              | (
                                  refine j_iload_n E dX7_off_105 rfl rfl ?_
                                  refine j_goto (tgt := 113) E dX7_off_106 (by decide) ?_
                                  refine j_callV0 (ci := 7) (n := 2) E (k_X7_note hM0) dX7_off_113 gX7_off_X7_note rfl (by decide +kernel) ⟨rfl, rfl, by decide, by decide⟩ ⟨Nat.zero_le _, Nat.zero_le _⟩ hm1 hm2 rfl rfl rfl (Nat.le_of_ble_eq_true rfl) rfl ?_
                                  refine j_iconst (v := 1) E dX7_off_116 (by decide) ?_
                                  exact j_zret E dX7_off_117 rfl (by simp [mOff, mOffT, h4, h16, h28, h43, h49, h72, h78, h102]) rfl (by simp [mOff, mOffT, h4, h16, h28, h43, h49, h72, h78, h102])
                                )
                          )
                      · first
                        | exact absurd h4 h78
                        | exact absurd h78 h4
                        | (
                            refine j_aload_n E dX7_off_81 rfl rfl ?_
                            refine j_getP (ci := 7) (k := 13) (Cn := RX7) (T := TX7) (N := 34) E dX7_off_82 hm1 hm2 rfl (by decide) hinX7 (by decide +kernel) rfl mp13 ?_
                            refine j_iload_n E dX7_off_85 rfl rfl ?_
                            refine j_iload_n E dX7_off_86 rfl rfl ?_
                            refine j_zast E dX7_off_87 ml13 mn13 (ix01 (n := 3) h16 (by decide)).1 (ix01 (n := 3) h16 (by decide)).2 (by decide) mk13 (nar01 ho) ?_
                            refine j_goto (tgt := 98) E dX7_off_88 (by decide) ?_
                            refine j_aload_n E dX7_off_98 rfl rfl ?_
                            refine j_bipush (v := 7) E dX7_off_99 (by decide) ?_
                            refine j_iload_n E dX7_off_101 rfl rfl ?_
                            refine j_if_eq (tgt := 109) E dX7_off_102 (by decide) (fun h102 => ?_) (fun h102 => ?_)
                            · first
                              | exact absurd h4 h102
                              | exact absurd h102 h4
                              | (
                                  refine j_bipush (v := 10) E dX7_off_109 (by decide) ?_
                                  refine j_iload_n E dX7_off_111 rfl rfl ?_
                                  refine j_iadd E dX7_off_112 ?_
                                  refine j_callV0 (ci := 7) (n := 2) E (k_X7_note hM0) dX7_off_113 gX7_off_X7_note rfl (by decide +kernel) ⟨rfl, rfl, by decide, by decide⟩ ⟨Nat.zero_le _, Nat.zero_le _⟩ hm1 hm2 rfl rfl rfl (Nat.le_of_ble_eq_true rfl) rfl ?_
                                  refine j_iconst (v := 1) E dX7_off_116 (by decide) ?_
                                  exact j_zret E dX7_off_117 rfl (by simp [mOff, mOffT, h4, h16, h28, h43, h49, h72, h78, h102]) rfl (by simp [mOff, mOffT, h4, h16, h28, h43, h49, h72, h78, h102])
                                )
                            · first
                              | exact absurd h4 h102
                              | exact absurd h102 h4
                              | (
                                  refine j_iload_n E dX7_off_105 rfl rfl ?_
                                  refine j_goto (tgt := 113) E dX7_off_106 (by decide) ?_
                                  refine j_callV0 (ci := 7) (n := 2) E (k_X7_note hM0) dX7_off_113 gX7_off_X7_note rfl (by decide +kernel) ⟨rfl, rfl, by decide, by decide⟩ ⟨Nat.zero_le _, Nat.zero_le _⟩ hm1 hm2 rfl rfl rfl (Nat.le_of_ble_eq_true rfl) rfl ?_
                                  refine j_iconst (v := 1) E dX7_off_116 (by decide) ?_
                                  exact j_zret E dX7_off_117 rfl (by simp [mOff, mOffT, h4, h16, h28, h43, h49, h72, h78, h102]) rfl (by simp [mOff, mOffT, h4, h16, h28, h43, h49, h72, h78, h102])
                                )
                          )
                    · refine j_iconst (v := 0) E dX7_off_75 (by decide) ?_
                      exact j_zret E dX7_off_76 rfl (by simp [mOff, mOffT, h4, h16, h28, h43, h49, h72]) rfl (by simp [mOff, mOffT, h4, h16, h28, h43, h49, h72])
                  )
            )
        · first
          | exact absurd h43 (by decide)
          | exact absurd (by decide) h43
          | (
              refine j_iconst (v := 0) E dX7_off_46 (by decide) ?_
              exact j_zret E dX7_off_47 rfl (by simp [mOff, mOffT, h4, h16, h28, h43]) rfl (by simp [mOff, mOffT, h4, h16, h28, h43])
            )
    · refine j_iconst (v := 1) E dX7_off_19 (by decide) ?_
      refine j_goto (tgt := 36) E dX7_off_20 (by decide) ?_
      refine j_putI (ci := 7) (k := 0) (Cn := RX7) (T := TX7) (N := 34) E dX7_off_36 hm1 hm2 rfl (by decide) hinX7 (by decide +kernel) rfl tyX7 tyX7_ok nmX7 rfl rfl rfl rfl ?_
      refine j_aload_n E dX7_off_39 rfl rfl ?_
      refine j_getI (ci := 7) (k := 0) (Cn := RX7) (T := TX7) (N := 34) E dX7_off_40 hm1 hm2 rfl (by decide) hinX7 (by decide +kernel) rfl ?_
      try simp only [pI_m hinj, pF_m hinj, pI_2, pF_1, Nat.reduceEqDiff, Nat.reduceLT, Nat.reduceLeDiff, eq_self, ↓reduceIte]
      refine j_if_le (tgt := 48) E dX7_off_43 (by decide) (fun h43 => ?_) (fun h43 => ?_)
      · first
        | exact absurd h43 (by decide)
        | exact absurd (by decide) h43
        | (
            refine j_iload_n E dX7_off_48 rfl rfl ?_
            refine j_if_eq (tgt := 61) E dX7_off_49 (by decide) (fun h49 => ?_) (fun h49 => ?_)
            · first
              | exact absurd h4 h49
              | exact absurd h49 h4
              | (
                  refine j_aload_n E dX7_off_61 rfl rfl ?_
                  refine j_getP (ci := 7) (k := 12) (Cn := RX7) (T := TX7) (N := 34) E dX7_off_62 hm1 hm2 rfl (by decide) hinX7 (by decide +kernel) rfl mp12 ?_
                  refine j_iload_n E dX7_off_65 rfl rfl ?_
                  refine j_zald E dX7_off_66 ml12 mn12 (ix01 (n := 15) h16 (by decide)).1 (ix01 (n := 15) h16 (by decide)).2 (by decide) mk12 ?_
                  try simp only [pI_m hinj, pF_m hinj, pI_2, pF_1, Nat.reduceEqDiff, Nat.reduceLT, Nat.reduceLeDiff, eq_self, ↓reduceIte]
                  refine j_istore E dX7_off_67 (by decide) ?_
                  refine j_iload E dX7_off_69 rfl ?_
                  refine j_iload_n E dX7_off_71 rfl rfl ?_
                  refine j_icmp_ne (tgt := 77) E dX7_off_72 (by decide) (fun h72 => ?_) (fun h72 => ?_)
                  · refine j_iload_n E dX7_off_77 rfl rfl ?_
                    refine j_if_eq (tgt := 91) E dX7_off_78 (by decide) (fun h78 => ?_) (fun h78 => ?_)
                    · first
                      | exact absurd h4 h78
                      | exact absurd h78 h4
                      | (
                          refine j_aload_n E dX7_off_91 rfl rfl ?_
                          refine j_getP (ci := 7) (k := 12) (Cn := RX7) (T := TX7) (N := 34) E dX7_off_92 hm1 hm2 rfl (by decide) hinX7 (by decide +kernel) rfl mp12 ?_
                          refine j_iload_n E dX7_off_95 rfl rfl ?_
                          refine j_iload_n E dX7_off_96 rfl rfl ?_
                          refine j_zast E dX7_off_97 ml12 mn12 (ix01 (n := 15) h16 (by decide)).1 (ix01 (n := 15) h16 (by decide)).2 (by decide) mk12 (nar01 ho) ?_
                          refine j_aload_n E dX7_off_98 rfl rfl ?_
                          refine j_bipush (v := 7) E dX7_off_99 (by decide) ?_
                          refine j_iload_n E dX7_off_101 rfl rfl ?_
                          refine j_if_eq (tgt := 109) E dX7_off_102 (by decide) (fun h102 => ?_) (fun h102 => ?_)
                          · first
                            | exact absurd h4 h102
                            | exact absurd h102 h4
                            | (
                                refine j_bipush (v := 10) E dX7_off_109 (by decide) ?_
                                refine j_iload_n E dX7_off_111 rfl rfl ?_
                                refine j_iadd E dX7_off_112 ?_
                                refine j_callV0 (ci := 7) (n := 2) E (k_X7_note hM0) dX7_off_113 gX7_off_X7_note rfl (by decide +kernel) ⟨rfl, rfl, by decide, by decide⟩ ⟨Nat.zero_le _, Nat.zero_le _⟩ hm1 hm2 rfl rfl rfl (Nat.le_of_ble_eq_true rfl) rfl ?_
                                refine j_iconst (v := 1) E dX7_off_116 (by decide) ?_
                                exact j_zret E dX7_off_117 rfl (by simp [mOff, mOffT, h4, h16, h43, h49, h72, h78, h102]) rfl (by simp [mOff, mOffT, h4, h16, h43, h49, h72, h78, h102])
                              )
                          · first
                            | exact absurd h4 h102
                            | exact absurd h102 h4
                            | (
                                refine j_iload_n E dX7_off_105 rfl rfl ?_
                                refine j_goto (tgt := 113) E dX7_off_106 (by decide) ?_
                                refine j_callV0 (ci := 7) (n := 2) E (k_X7_note hM0) dX7_off_113 gX7_off_X7_note rfl (by decide +kernel) ⟨rfl, rfl, by decide, by decide⟩ ⟨Nat.zero_le _, Nat.zero_le _⟩ hm1 hm2 rfl rfl rfl (Nat.le_of_ble_eq_true rfl) rfl ?_
                                refine j_iconst (v := 1) E dX7_off_116 (by decide) ?_
                                exact j_zret E dX7_off_117 rfl (by simp [mOff, mOffT, h4, h16, h43, h49, h72, h78, h102]) rfl (by simp [mOff, mOffT, h4, h16, h43, h49, h72, h78, h102])
                              )
                        )
                    · first
                      | exact absurd h4 h78
                      | exact absurd h78 h4
                      | (
                          refine j_aload_n E dX7_off_81 rfl rfl ?_
                          refine j_getP (ci := 7) (k := 13) (Cn := RX7) (T := TX7) (N := 34) E dX7_off_82 hm1 hm2 rfl (by decide) hinX7 (by decide +kernel) rfl mp13 ?_
                          refine j_iload_n E dX7_off_85 rfl rfl ?_
                          refine j_iload_n E dX7_off_86 rfl rfl ?_
                          refine j_zast E dX7_off_87 ml13 mn13 (ix01 (n := 3) h16 (by decide)).1 (ix01 (n := 3) h16 (by decide)).2 (by decide) mk13 (nar01 ho) ?_
                          refine j_goto (tgt := 98) E dX7_off_88 (by decide) ?_
                          refine j_aload_n E dX7_off_98 rfl rfl ?_
                          refine j_bipush (v := 7) E dX7_off_99 (by decide) ?_
                          refine j_iload_n E dX7_off_101 rfl rfl ?_
                          refine j_if_eq (tgt := 109) E dX7_off_102 (by decide) (fun h102 => ?_) (fun h102 => ?_)
                          · first
                            | exact absurd h4 h102
                            | exact absurd h102 h4
                            | (
                                refine j_bipush (v := 10) E dX7_off_109 (by decide) ?_
                                refine j_iload_n E dX7_off_111 rfl rfl ?_
                                refine j_iadd E dX7_off_112 ?_
                                refine j_callV0 (ci := 7) (n := 2) E (k_X7_note hM0) dX7_off_113 gX7_off_X7_note rfl (by decide +kernel) ⟨rfl, rfl, by decide, by decide⟩ ⟨Nat.zero_le _, Nat.zero_le _⟩ hm1 hm2 rfl rfl rfl (Nat.le_of_ble_eq_true rfl) rfl ?_
                                refine j_iconst (v := 1) E dX7_off_116 (by decide) ?_
                                exact j_zret E dX7_off_117 rfl (by simp [mOff, mOffT, h4, h16, h43, h49, h72, h78, h102]) rfl (by simp [mOff, mOffT, h4, h16, h43, h49, h72, h78, h102])
                              )
                          · first
                            | exact absurd h4 h102
                            | exact absurd h102 h4
                            | (
                                refine j_iload_n E dX7_off_105 rfl rfl ?_
                                refine j_goto (tgt := 113) E dX7_off_106 (by decide) ?_
                                refine j_callV0 (ci := 7) (n := 2) E (k_X7_note hM0) dX7_off_113 gX7_off_X7_note rfl (by decide +kernel) ⟨rfl, rfl, by decide, by decide⟩ ⟨Nat.zero_le _, Nat.zero_le _⟩ hm1 hm2 rfl rfl rfl (Nat.le_of_ble_eq_true rfl) rfl ?_
                                refine j_iconst (v := 1) E dX7_off_116 (by decide) ?_
                                exact j_zret E dX7_off_117 rfl (by simp [mOff, mOffT, h4, h16, h43, h49, h72, h78, h102]) rfl (by simp [mOff, mOffT, h4, h16, h43, h49, h72, h78, h102])
                              )
                        )
                  · refine j_iconst (v := 0) E dX7_off_75 (by decide) ?_
                    exact j_zret E dX7_off_76 rfl (by simp [mOff, mOffT, h4, h16, h43, h49, h72]) rfl (by simp [mOff, mOffT, h4, h16, h43, h49, h72])
                )
            · first
              | exact absurd h4 h49
              | exact absurd h49 h4
              | (
                  refine j_aload_n E dX7_off_52 rfl rfl ?_
                  refine j_getP (ci := 7) (k := 13) (Cn := RX7) (T := TX7) (N := 34) E dX7_off_53 hm1 hm2 rfl (by decide) hinX7 (by decide +kernel) rfl mp13 ?_
                  refine j_iload_n E dX7_off_56 rfl rfl ?_
                  refine j_zald E dX7_off_57 ml13 mn13 (ix01 (n := 3) h16 (by decide)).1 (ix01 (n := 3) h16 (by decide)).2 (by decide) mk13 ?_
                  try simp only [pI_m hinj, pF_m hinj, pI_2, pF_1, Nat.reduceEqDiff, Nat.reduceLT, Nat.reduceLeDiff, eq_self, ↓reduceIte]
                  refine j_goto (tgt := 67) E dX7_off_58 (by decide) ?_
                  refine j_istore E dX7_off_67 (by decide) ?_
                  refine j_iload E dX7_off_69 rfl ?_
                  refine j_iload_n E dX7_off_71 rfl rfl ?_
                  refine j_icmp_ne (tgt := 77) E dX7_off_72 (by decide) (fun h72 => ?_) (fun h72 => ?_)
                  · refine j_iload_n E dX7_off_77 rfl rfl ?_
                    refine j_if_eq (tgt := 91) E dX7_off_78 (by decide) (fun h78 => ?_) (fun h78 => ?_)
                    · first
                      | exact absurd h4 h78
                      | exact absurd h78 h4
                      | (
                          refine j_aload_n E dX7_off_91 rfl rfl ?_
                          refine j_getP (ci := 7) (k := 12) (Cn := RX7) (T := TX7) (N := 34) E dX7_off_92 hm1 hm2 rfl (by decide) hinX7 (by decide +kernel) rfl mp12 ?_
                          refine j_iload_n E dX7_off_95 rfl rfl ?_
                          refine j_iload_n E dX7_off_96 rfl rfl ?_
                          refine j_zast E dX7_off_97 ml12 mn12 (ix01 (n := 15) h16 (by decide)).1 (ix01 (n := 15) h16 (by decide)).2 (by decide) mk12 (nar01 ho) ?_
                          refine j_aload_n E dX7_off_98 rfl rfl ?_
                          refine j_bipush (v := 7) E dX7_off_99 (by decide) ?_
                          refine j_iload_n E dX7_off_101 rfl rfl ?_
                          refine j_if_eq (tgt := 109) E dX7_off_102 (by decide) (fun h102 => ?_) (fun h102 => ?_)
                          · first
                            | exact absurd h4 h102
                            | exact absurd h102 h4
                            | (
                                refine j_bipush (v := 10) E dX7_off_109 (by decide) ?_
                                refine j_iload_n E dX7_off_111 rfl rfl ?_
                                refine j_iadd E dX7_off_112 ?_
                                refine j_callV0 (ci := 7) (n := 2) E (k_X7_note hM0) dX7_off_113 gX7_off_X7_note rfl (by decide +kernel) ⟨rfl, rfl, by decide, by decide⟩ ⟨Nat.zero_le _, Nat.zero_le _⟩ hm1 hm2 rfl rfl rfl (Nat.le_of_ble_eq_true rfl) rfl ?_
                                refine j_iconst (v := 1) E dX7_off_116 (by decide) ?_
                                exact j_zret E dX7_off_117 rfl (by simp [mOff, mOffT, h4, h16, h43, h49, h72, h78, h102]) rfl (by simp [mOff, mOffT, h4, h16, h43, h49, h72, h78, h102])
                              )
                          · first
                            | exact absurd h4 h102
                            | exact absurd h102 h4
                            | (
                                refine j_iload_n E dX7_off_105 rfl rfl ?_
                                refine j_goto (tgt := 113) E dX7_off_106 (by decide) ?_
                                refine j_callV0 (ci := 7) (n := 2) E (k_X7_note hM0) dX7_off_113 gX7_off_X7_note rfl (by decide +kernel) ⟨rfl, rfl, by decide, by decide⟩ ⟨Nat.zero_le _, Nat.zero_le _⟩ hm1 hm2 rfl rfl rfl (Nat.le_of_ble_eq_true rfl) rfl ?_
                                refine j_iconst (v := 1) E dX7_off_116 (by decide) ?_
                                exact j_zret E dX7_off_117 rfl (by simp [mOff, mOffT, h4, h16, h43, h49, h72, h78, h102]) rfl (by simp [mOff, mOffT, h4, h16, h43, h49, h72, h78, h102])
                              )
                        )
                    · first
                      | exact absurd h4 h78
                      | exact absurd h78 h4
                      | (
                          refine j_aload_n E dX7_off_81 rfl rfl ?_
                          refine j_getP (ci := 7) (k := 13) (Cn := RX7) (T := TX7) (N := 34) E dX7_off_82 hm1 hm2 rfl (by decide) hinX7 (by decide +kernel) rfl mp13 ?_
                          refine j_iload_n E dX7_off_85 rfl rfl ?_
                          refine j_iload_n E dX7_off_86 rfl rfl ?_
                          refine j_zast E dX7_off_87 ml13 mn13 (ix01 (n := 3) h16 (by decide)).1 (ix01 (n := 3) h16 (by decide)).2 (by decide) mk13 (nar01 ho) ?_
                          refine j_goto (tgt := 98) E dX7_off_88 (by decide) ?_
                          refine j_aload_n E dX7_off_98 rfl rfl ?_
                          refine j_bipush (v := 7) E dX7_off_99 (by decide) ?_
                          refine j_iload_n E dX7_off_101 rfl rfl ?_
                          refine j_if_eq (tgt := 109) E dX7_off_102 (by decide) (fun h102 => ?_) (fun h102 => ?_)
                          · first
                            | exact absurd h4 h102
                            | exact absurd h102 h4
                            | (
                                refine j_bipush (v := 10) E dX7_off_109 (by decide) ?_
                                refine j_iload_n E dX7_off_111 rfl rfl ?_
                                refine j_iadd E dX7_off_112 ?_
                                refine j_callV0 (ci := 7) (n := 2) E (k_X7_note hM0) dX7_off_113 gX7_off_X7_note rfl (by decide +kernel) ⟨rfl, rfl, by decide, by decide⟩ ⟨Nat.zero_le _, Nat.zero_le _⟩ hm1 hm2 rfl rfl rfl (Nat.le_of_ble_eq_true rfl) rfl ?_
                                refine j_iconst (v := 1) E dX7_off_116 (by decide) ?_
                                exact j_zret E dX7_off_117 rfl (by simp [mOff, mOffT, h4, h16, h43, h49, h72, h78, h102]) rfl (by simp [mOff, mOffT, h4, h16, h43, h49, h72, h78, h102])
                              )
                          · first
                            | exact absurd h4 h102
                            | exact absurd h102 h4
                            | (
                                refine j_iload_n E dX7_off_105 rfl rfl ?_
                                refine j_goto (tgt := 113) E dX7_off_106 (by decide) ?_
                                refine j_callV0 (ci := 7) (n := 2) E (k_X7_note hM0) dX7_off_113 gX7_off_X7_note rfl (by decide +kernel) ⟨rfl, rfl, by decide, by decide⟩ ⟨Nat.zero_le _, Nat.zero_le _⟩ hm1 hm2 rfl rfl rfl (Nat.le_of_ble_eq_true rfl) rfl ?_
                                refine j_iconst (v := 1) E dX7_off_116 (by decide) ?_
                                exact j_zret E dX7_off_117 rfl (by simp [mOff, mOffT, h4, h16, h43, h49, h72, h78, h102]) rfl (by simp [mOff, mOffT, h4, h16, h43, h49, h72, h78, h102])
                              )
                        )
                  · refine j_iconst (v := 0) E dX7_off_75 (by decide) ?_
                    exact j_zret E dX7_off_76 rfl (by simp [mOff, mOffT, h4, h16, h43, h49, h72]) rfl (by simp [mOff, mOffT, h4, h16, h43, h49, h72])
                )
          )
      · first
        | exact absurd h43 (by decide)
        | exact absurd (by decide) h43
        | (
            refine j_iconst (v := 0) E dX7_off_46 (by decide) ?_
            exact j_zret E dX7_off_47 rfl (by simp [mOff, mOffT, h4, h16, h43]) rfl (by simp [mOff, mOffT, h4, h16, h43])
          )
  · refine j_iconst (v := 3) E dX7_off_7 (by decide) ?_
    refine j_goto (tgt := 13) E dX7_off_8 (by decide) ?_
    refine j_callS1 (n := 3) E (k_X7_in ) dX7_off_13 gX7_off_X7_in rfl (by decide +kernel) ⟨rfl, rfl, by decide, by decide⟩ ⟨Nat.zero_le _, Nat.zero_le _⟩ rfl rfl (Nat.le_of_ble_eq_true rfl) rfl ?_
    refine j_if_ne (tgt := 23) E dX7_off_16 (by decide) (fun h16 => ?_) (fun h16 => ?_)
    · refine j_aload_n E dX7_off_23 rfl rfl ?_
      refine j_getI (ci := 7) (k := 26) (Cn := RX7) (T := TX7) (N := 34) E dX7_off_24 hm1 hm2 rfl (by decide) hinX7 (by decide +kernel) rfl ?_
      refine j_iconst (v := 2) E dX7_off_27 (by decide) ?_
      refine j_icmp_ge (tgt := 35) E dX7_off_28 (by decide) (fun h28 => ?_) (fun h28 => ?_)
      · refine j_iconst (v := 0) E dX7_off_35 (by decide) ?_
        refine j_putI (ci := 7) (k := 0) (Cn := RX7) (T := TX7) (N := 34) E dX7_off_36 hm1 hm2 rfl (by decide) hinX7 (by decide +kernel) rfl tyX7 tyX7_ok nmX7 rfl rfl rfl rfl ?_
        refine j_aload_n E dX7_off_39 rfl rfl ?_
        refine j_getI (ci := 7) (k := 0) (Cn := RX7) (T := TX7) (N := 34) E dX7_off_40 hm1 hm2 rfl (by decide) hinX7 (by decide +kernel) rfl ?_
        try simp only [pI_m hinj, pF_m hinj, pI_2, pF_1, Nat.reduceEqDiff, Nat.reduceLT, Nat.reduceLeDiff, eq_self, ↓reduceIte]
        refine j_if_le (tgt := 48) E dX7_off_43 (by decide) (fun h43 => ?_) (fun h43 => ?_)
        · first
          | exact absurd h43 (by decide)
          | exact absurd (by decide) h43
          | (
              refine j_iload_n E dX7_off_48 rfl rfl ?_
              refine j_if_eq (tgt := 61) E dX7_off_49 (by decide) (fun h49 => ?_) (fun h49 => ?_)
              · first
                | exact absurd h4 h49
                | exact absurd h49 h4
                | (
                    refine j_aload_n E dX7_off_61 rfl rfl ?_
                    refine j_getP (ci := 7) (k := 12) (Cn := RX7) (T := TX7) (N := 34) E dX7_off_62 hm1 hm2 rfl (by decide) hinX7 (by decide +kernel) rfl mp12 ?_
                    refine j_iload_n E dX7_off_65 rfl rfl ?_
                    refine j_zald E dX7_off_66 ml12 mn12 (ix01 (n := 15) h16 (by decide)).1 (ix01 (n := 15) h16 (by decide)).2 (by decide) mk12 ?_
                    try simp only [pI_m hinj, pF_m hinj, pI_2, pF_1, Nat.reduceEqDiff, Nat.reduceLT, Nat.reduceLeDiff, eq_self, ↓reduceIte]
                    refine j_istore E dX7_off_67 (by decide) ?_
                    refine j_iload E dX7_off_69 rfl ?_
                    refine j_iload_n E dX7_off_71 rfl rfl ?_
                    refine j_icmp_ne (tgt := 77) E dX7_off_72 (by decide) (fun h72 => ?_) (fun h72 => ?_)
                    · refine j_iload_n E dX7_off_77 rfl rfl ?_
                      refine j_if_eq (tgt := 91) E dX7_off_78 (by decide) (fun h78 => ?_) (fun h78 => ?_)
                      · first
                        | exact absurd h4 h78
                        | exact absurd h78 h4
                        | (
                            refine j_aload_n E dX7_off_91 rfl rfl ?_
                            refine j_getP (ci := 7) (k := 12) (Cn := RX7) (T := TX7) (N := 34) E dX7_off_92 hm1 hm2 rfl (by decide) hinX7 (by decide +kernel) rfl mp12 ?_
                            refine j_iload_n E dX7_off_95 rfl rfl ?_
                            refine j_iload_n E dX7_off_96 rfl rfl ?_
                            refine j_zast E dX7_off_97 ml12 mn12 (ix01 (n := 15) h16 (by decide)).1 (ix01 (n := 15) h16 (by decide)).2 (by decide) mk12 (nar01 ho) ?_
                            refine j_aload_n E dX7_off_98 rfl rfl ?_
                            refine j_bipush (v := 7) E dX7_off_99 (by decide) ?_
                            refine j_iload_n E dX7_off_101 rfl rfl ?_
                            refine j_if_eq (tgt := 109) E dX7_off_102 (by decide) (fun h102 => ?_) (fun h102 => ?_)
                            · first
                              | exact absurd h4 h102
                              | exact absurd h102 h4
                              | (
                                  refine j_bipush (v := 10) E dX7_off_109 (by decide) ?_
                                  refine j_iload_n E dX7_off_111 rfl rfl ?_
                                  refine j_iadd E dX7_off_112 ?_
                                  refine j_callV0 (ci := 7) (n := 2) E (k_X7_note hM0) dX7_off_113 gX7_off_X7_note rfl (by decide +kernel) ⟨rfl, rfl, by decide, by decide⟩ ⟨Nat.zero_le _, Nat.zero_le _⟩ hm1 hm2 rfl rfl rfl (Nat.le_of_ble_eq_true rfl) rfl ?_
                                  refine j_iconst (v := 1) E dX7_off_116 (by decide) ?_
                                  exact j_zret E dX7_off_117 rfl (by simp [mOff, mOffT, h4, h16, h28, h43, h49, h72, h78, h102]) rfl (by simp [mOff, mOffT, h4, h16, h28, h43, h49, h72, h78, h102])
                                )
                            · first
                              | exact absurd h4 h102
                              | exact absurd h102 h4
                              | (
                                  refine j_iload_n E dX7_off_105 rfl rfl ?_
                                  refine j_goto (tgt := 113) E dX7_off_106 (by decide) ?_
                                  refine j_callV0 (ci := 7) (n := 2) E (k_X7_note hM0) dX7_off_113 gX7_off_X7_note rfl (by decide +kernel) ⟨rfl, rfl, by decide, by decide⟩ ⟨Nat.zero_le _, Nat.zero_le _⟩ hm1 hm2 rfl rfl rfl (Nat.le_of_ble_eq_true rfl) rfl ?_
                                  refine j_iconst (v := 1) E dX7_off_116 (by decide) ?_
                                  exact j_zret E dX7_off_117 rfl (by simp [mOff, mOffT, h4, h16, h28, h43, h49, h72, h78, h102]) rfl (by simp [mOff, mOffT, h4, h16, h28, h43, h49, h72, h78, h102])
                                )
                          )
                      · first
                        | exact absurd h4 h78
                        | exact absurd h78 h4
                        | (
                            refine j_aload_n E dX7_off_81 rfl rfl ?_
                            refine j_getP (ci := 7) (k := 13) (Cn := RX7) (T := TX7) (N := 34) E dX7_off_82 hm1 hm2 rfl (by decide) hinX7 (by decide +kernel) rfl mp13 ?_
                            refine j_iload_n E dX7_off_85 rfl rfl ?_
                            refine j_iload_n E dX7_off_86 rfl rfl ?_
                            refine j_zast E dX7_off_87 ml13 mn13 (ix01 (n := 3) h16 (by decide)).1 (ix01 (n := 3) h16 (by decide)).2 (by decide) mk13 (nar01 ho) ?_
                            refine j_goto (tgt := 98) E dX7_off_88 (by decide) ?_
                            refine j_aload_n E dX7_off_98 rfl rfl ?_
                            refine j_bipush (v := 7) E dX7_off_99 (by decide) ?_
                            refine j_iload_n E dX7_off_101 rfl rfl ?_
                            refine j_if_eq (tgt := 109) E dX7_off_102 (by decide) (fun h102 => ?_) (fun h102 => ?_)
                            · first
                              | exact absurd h4 h102
                              | exact absurd h102 h4
                              | (
                                  refine j_bipush (v := 10) E dX7_off_109 (by decide) ?_
                                  refine j_iload_n E dX7_off_111 rfl rfl ?_
                                  refine j_iadd E dX7_off_112 ?_
                                  refine j_callV0 (ci := 7) (n := 2) E (k_X7_note hM0) dX7_off_113 gX7_off_X7_note rfl (by decide +kernel) ⟨rfl, rfl, by decide, by decide⟩ ⟨Nat.zero_le _, Nat.zero_le _⟩ hm1 hm2 rfl rfl rfl (Nat.le_of_ble_eq_true rfl) rfl ?_
                                  refine j_iconst (v := 1) E dX7_off_116 (by decide) ?_
                                  exact j_zret E dX7_off_117 rfl (by simp [mOff, mOffT, h4, h16, h28, h43, h49, h72, h78, h102]) rfl (by simp [mOff, mOffT, h4, h16, h28, h43, h49, h72, h78, h102])
                                )
                            · first
                              | exact absurd h4 h102
                              | exact absurd h102 h4
                              | (
                                  refine j_iload_n E dX7_off_105 rfl rfl ?_
                                  refine j_goto (tgt := 113) E dX7_off_106 (by decide) ?_
                                  refine j_callV0 (ci := 7) (n := 2) E (k_X7_note hM0) dX7_off_113 gX7_off_X7_note rfl (by decide +kernel) ⟨rfl, rfl, by decide, by decide⟩ ⟨Nat.zero_le _, Nat.zero_le _⟩ hm1 hm2 rfl rfl rfl (Nat.le_of_ble_eq_true rfl) rfl ?_
                                  refine j_iconst (v := 1) E dX7_off_116 (by decide) ?_
                                  exact j_zret E dX7_off_117 rfl (by simp [mOff, mOffT, h4, h16, h28, h43, h49, h72, h78, h102]) rfl (by simp [mOff, mOffT, h4, h16, h28, h43, h49, h72, h78, h102])
                                )
                          )
                    · refine j_iconst (v := 0) E dX7_off_75 (by decide) ?_
                      exact j_zret E dX7_off_76 rfl (by simp [mOff, mOffT, h4, h16, h28, h43, h49, h72]) rfl (by simp [mOff, mOffT, h4, h16, h28, h43, h49, h72])
                  )
              · first
                | exact absurd h4 h49
                | exact absurd h49 h4
                | (
                    refine j_aload_n E dX7_off_52 rfl rfl ?_
                    refine j_getP (ci := 7) (k := 13) (Cn := RX7) (T := TX7) (N := 34) E dX7_off_53 hm1 hm2 rfl (by decide) hinX7 (by decide +kernel) rfl mp13 ?_
                    refine j_iload_n E dX7_off_56 rfl rfl ?_
                    refine j_zald E dX7_off_57 ml13 mn13 (ix01 (n := 3) h16 (by decide)).1 (ix01 (n := 3) h16 (by decide)).2 (by decide) mk13 ?_
                    try simp only [pI_m hinj, pF_m hinj, pI_2, pF_1, Nat.reduceEqDiff, Nat.reduceLT, Nat.reduceLeDiff, eq_self, ↓reduceIte]
                    refine j_goto (tgt := 67) E dX7_off_58 (by decide) ?_
                    refine j_istore E dX7_off_67 (by decide) ?_
                    refine j_iload E dX7_off_69 rfl ?_
                    refine j_iload_n E dX7_off_71 rfl rfl ?_
                    refine j_icmp_ne (tgt := 77) E dX7_off_72 (by decide) (fun h72 => ?_) (fun h72 => ?_)
                    · refine j_iload_n E dX7_off_77 rfl rfl ?_
                      refine j_if_eq (tgt := 91) E dX7_off_78 (by decide) (fun h78 => ?_) (fun h78 => ?_)
                      · first
                        | exact absurd h4 h78
                        | exact absurd h78 h4
                        | (
                            refine j_aload_n E dX7_off_91 rfl rfl ?_
                            refine j_getP (ci := 7) (k := 12) (Cn := RX7) (T := TX7) (N := 34) E dX7_off_92 hm1 hm2 rfl (by decide) hinX7 (by decide +kernel) rfl mp12 ?_
                            refine j_iload_n E dX7_off_95 rfl rfl ?_
                            refine j_iload_n E dX7_off_96 rfl rfl ?_
                            refine j_zast E dX7_off_97 ml12 mn12 (ix01 (n := 15) h16 (by decide)).1 (ix01 (n := 15) h16 (by decide)).2 (by decide) mk12 (nar01 ho) ?_
                            refine j_aload_n E dX7_off_98 rfl rfl ?_
                            refine j_bipush (v := 7) E dX7_off_99 (by decide) ?_
                            refine j_iload_n E dX7_off_101 rfl rfl ?_
                            refine j_if_eq (tgt := 109) E dX7_off_102 (by decide) (fun h102 => ?_) (fun h102 => ?_)
                            · first
                              | exact absurd h4 h102
                              | exact absurd h102 h4
                              | (
                                  refine j_bipush (v := 10) E dX7_off_109 (by decide) ?_
                                  refine j_iload_n E dX7_off_111 rfl rfl ?_
                                  refine j_iadd E dX7_off_112 ?_
                                  refine j_callV0 (ci := 7) (n := 2) E (k_X7_note hM0) dX7_off_113 gX7_off_X7_note rfl (by decide +kernel) ⟨rfl, rfl, by decide, by decide⟩ ⟨Nat.zero_le _, Nat.zero_le _⟩ hm1 hm2 rfl rfl rfl (Nat.le_of_ble_eq_true rfl) rfl ?_
                                  refine j_iconst (v := 1) E dX7_off_116 (by decide) ?_
                                  exact j_zret E dX7_off_117 rfl (by simp [mOff, mOffT, h4, h16, h28, h43, h49, h72, h78, h102]) rfl (by simp [mOff, mOffT, h4, h16, h28, h43, h49, h72, h78, h102])
                                )
                            · first
                              | exact absurd h4 h102
                              | exact absurd h102 h4
                              | (
                                  refine j_iload_n E dX7_off_105 rfl rfl ?_
                                  refine j_goto (tgt := 113) E dX7_off_106 (by decide) ?_
                                  refine j_callV0 (ci := 7) (n := 2) E (k_X7_note hM0) dX7_off_113 gX7_off_X7_note rfl (by decide +kernel) ⟨rfl, rfl, by decide, by decide⟩ ⟨Nat.zero_le _, Nat.zero_le _⟩ hm1 hm2 rfl rfl rfl (Nat.le_of_ble_eq_true rfl) rfl ?_
                                  refine j_iconst (v := 1) E dX7_off_116 (by decide) ?_
                                  exact j_zret E dX7_off_117 rfl (by simp [mOff, mOffT, h4, h16, h28, h43, h49, h72, h78, h102]) rfl (by simp [mOff, mOffT, h4, h16, h28, h43, h49, h72, h78, h102])
                                )
                          )
                      · first
                        | exact absurd h4 h78
                        | exact absurd h78 h4
                        | (
                            refine j_aload_n E dX7_off_81 rfl rfl ?_
                            refine j_getP (ci := 7) (k := 13) (Cn := RX7) (T := TX7) (N := 34) E dX7_off_82 hm1 hm2 rfl (by decide) hinX7 (by decide +kernel) rfl mp13 ?_
                            refine j_iload_n E dX7_off_85 rfl rfl ?_
                            refine j_iload_n E dX7_off_86 rfl rfl ?_
                            refine j_zast E dX7_off_87 ml13 mn13 (ix01 (n := 3) h16 (by decide)).1 (ix01 (n := 3) h16 (by decide)).2 (by decide) mk13 (nar01 ho) ?_
                            refine j_goto (tgt := 98) E dX7_off_88 (by decide) ?_
                            refine j_aload_n E dX7_off_98 rfl rfl ?_
                            refine j_bipush (v := 7) E dX7_off_99 (by decide) ?_
                            refine j_iload_n E dX7_off_101 rfl rfl ?_
                            refine j_if_eq (tgt := 109) E dX7_off_102 (by decide) (fun h102 => ?_) (fun h102 => ?_)
                            · first
                              | exact absurd h4 h102
                              | exact absurd h102 h4
                              | (
                                  refine j_bipush (v := 10) E dX7_off_109 (by decide) ?_
                                  refine j_iload_n E dX7_off_111 rfl rfl ?_
                                  refine j_iadd E dX7_off_112 ?_
                                  refine j_callV0 (ci := 7) (n := 2) E (k_X7_note hM0) dX7_off_113 gX7_off_X7_note rfl (by decide +kernel) ⟨rfl, rfl, by decide, by decide⟩ ⟨Nat.zero_le _, Nat.zero_le _⟩ hm1 hm2 rfl rfl rfl (Nat.le_of_ble_eq_true rfl) rfl ?_
                                  refine j_iconst (v := 1) E dX7_off_116 (by decide) ?_
                                  exact j_zret E dX7_off_117 rfl (by simp [mOff, mOffT, h4, h16, h28, h43, h49, h72, h78, h102]) rfl (by simp [mOff, mOffT, h4, h16, h28, h43, h49, h72, h78, h102])
                                )
                            · first
                              | exact absurd h4 h102
                              | exact absurd h102 h4
                              | (
                                  refine j_iload_n E dX7_off_105 rfl rfl ?_
                                  refine j_goto (tgt := 113) E dX7_off_106 (by decide) ?_
                                  refine j_callV0 (ci := 7) (n := 2) E (k_X7_note hM0) dX7_off_113 gX7_off_X7_note rfl (by decide +kernel) ⟨rfl, rfl, by decide, by decide⟩ ⟨Nat.zero_le _, Nat.zero_le _⟩ hm1 hm2 rfl rfl rfl (Nat.le_of_ble_eq_true rfl) rfl ?_
                                  refine j_iconst (v := 1) E dX7_off_116 (by decide) ?_
                                  exact j_zret E dX7_off_117 rfl (by simp [mOff, mOffT, h4, h16, h28, h43, h49, h72, h78, h102]) rfl (by simp [mOff, mOffT, h4, h16, h28, h43, h49, h72, h78, h102])
                                )
                          )
                    · refine j_iconst (v := 0) E dX7_off_75 (by decide) ?_
                      exact j_zret E dX7_off_76 rfl (by simp [mOff, mOffT, h4, h16, h28, h43, h49, h72]) rfl (by simp [mOff, mOffT, h4, h16, h28, h43, h49, h72])
                  )
            )
        · first
          | exact absurd h43 (by decide)
          | exact absurd (by decide) h43
          | (
              refine j_iconst (v := 0) E dX7_off_46 (by decide) ?_
              exact j_zret E dX7_off_47 rfl (by simp [mOff, mOffT, h4, h16, h28, h43]) rfl (by simp [mOff, mOffT, h4, h16, h28, h43])
            )
      · refine j_iconst (v := 2) E dX7_off_31 (by decide) ?_
        refine j_goto (tgt := 36) E dX7_off_32 (by decide) ?_
        refine j_putI (ci := 7) (k := 0) (Cn := RX7) (T := TX7) (N := 34) E dX7_off_36 hm1 hm2 rfl (by decide) hinX7 (by decide +kernel) rfl tyX7 tyX7_ok nmX7 rfl rfl rfl rfl ?_
        refine j_aload_n E dX7_off_39 rfl rfl ?_
        refine j_getI (ci := 7) (k := 0) (Cn := RX7) (T := TX7) (N := 34) E dX7_off_40 hm1 hm2 rfl (by decide) hinX7 (by decide +kernel) rfl ?_
        try simp only [pI_m hinj, pF_m hinj, pI_2, pF_1, Nat.reduceEqDiff, Nat.reduceLT, Nat.reduceLeDiff, eq_self, ↓reduceIte]
        refine j_if_le (tgt := 48) E dX7_off_43 (by decide) (fun h43 => ?_) (fun h43 => ?_)
        · first
          | exact absurd h43 (by decide)
          | exact absurd (by decide) h43
          | (
              refine j_iload_n E dX7_off_48 rfl rfl ?_
              refine j_if_eq (tgt := 61) E dX7_off_49 (by decide) (fun h49 => ?_) (fun h49 => ?_)
              · first
                | exact absurd h4 h49
                | exact absurd h49 h4
                | (
                    refine j_aload_n E dX7_off_61 rfl rfl ?_
                    refine j_getP (ci := 7) (k := 12) (Cn := RX7) (T := TX7) (N := 34) E dX7_off_62 hm1 hm2 rfl (by decide) hinX7 (by decide +kernel) rfl mp12 ?_
                    refine j_iload_n E dX7_off_65 rfl rfl ?_
                    refine j_zald E dX7_off_66 ml12 mn12 (ix01 (n := 15) h16 (by decide)).1 (ix01 (n := 15) h16 (by decide)).2 (by decide) mk12 ?_
                    try simp only [pI_m hinj, pF_m hinj, pI_2, pF_1, Nat.reduceEqDiff, Nat.reduceLT, Nat.reduceLeDiff, eq_self, ↓reduceIte]
                    refine j_istore E dX7_off_67 (by decide) ?_
                    refine j_iload E dX7_off_69 rfl ?_
                    refine j_iload_n E dX7_off_71 rfl rfl ?_
                    refine j_icmp_ne (tgt := 77) E dX7_off_72 (by decide) (fun h72 => ?_) (fun h72 => ?_)
                    · refine j_iload_n E dX7_off_77 rfl rfl ?_
                      refine j_if_eq (tgt := 91) E dX7_off_78 (by decide) (fun h78 => ?_) (fun h78 => ?_)
                      · first
                        | exact absurd h4 h78
                        | exact absurd h78 h4
                        | (
                            refine j_aload_n E dX7_off_91 rfl rfl ?_
                            refine j_getP (ci := 7) (k := 12) (Cn := RX7) (T := TX7) (N := 34) E dX7_off_92 hm1 hm2 rfl (by decide) hinX7 (by decide +kernel) rfl mp12 ?_
                            refine j_iload_n E dX7_off_95 rfl rfl ?_
                            refine j_iload_n E dX7_off_96 rfl rfl ?_
                            refine j_zast E dX7_off_97 ml12 mn12 (ix01 (n := 15) h16 (by decide)).1 (ix01 (n := 15) h16 (by decide)).2 (by decide) mk12 (nar01 ho) ?_
                            refine j_aload_n E dX7_off_98 rfl rfl ?_
                            refine j_bipush (v := 7) E dX7_off_99 (by decide) ?_
                            refine j_iload_n E dX7_off_101 rfl rfl ?_
                            refine j_if_eq (tgt := 109) E dX7_off_102 (by decide) (fun h102 => ?_) (fun h102 => ?_)
                            · first
                              | exact absurd h4 h102
                              | exact absurd h102 h4
                              | (
                                  refine j_bipush (v := 10) E dX7_off_109 (by decide) ?_
                                  refine j_iload_n E dX7_off_111 rfl rfl ?_
                                  refine j_iadd E dX7_off_112 ?_
                                  refine j_callV0 (ci := 7) (n := 2) E (k_X7_note hM0) dX7_off_113 gX7_off_X7_note rfl (by decide +kernel) ⟨rfl, rfl, by decide, by decide⟩ ⟨Nat.zero_le _, Nat.zero_le _⟩ hm1 hm2 rfl rfl rfl (Nat.le_of_ble_eq_true rfl) rfl ?_
                                  refine j_iconst (v := 1) E dX7_off_116 (by decide) ?_
                                  exact j_zret E dX7_off_117 rfl (by simp [mOff, mOffT, h4, h16, h28, h43, h49, h72, h78, h102]) rfl (by simp [mOff, mOffT, h4, h16, h28, h43, h49, h72, h78, h102])
                                )
                            · first
                              | exact absurd h4 h102
                              | exact absurd h102 h4
                              | (
                                  refine j_iload_n E dX7_off_105 rfl rfl ?_
                                  refine j_goto (tgt := 113) E dX7_off_106 (by decide) ?_
                                  refine j_callV0 (ci := 7) (n := 2) E (k_X7_note hM0) dX7_off_113 gX7_off_X7_note rfl (by decide +kernel) ⟨rfl, rfl, by decide, by decide⟩ ⟨Nat.zero_le _, Nat.zero_le _⟩ hm1 hm2 rfl rfl rfl (Nat.le_of_ble_eq_true rfl) rfl ?_
                                  refine j_iconst (v := 1) E dX7_off_116 (by decide) ?_
                                  exact j_zret E dX7_off_117 rfl (by simp [mOff, mOffT, h4, h16, h28, h43, h49, h72, h78, h102]) rfl (by simp [mOff, mOffT, h4, h16, h28, h43, h49, h72, h78, h102])
                                )
                          )
                      · first
                        | exact absurd h4 h78
                        | exact absurd h78 h4
                        | (
                            refine j_aload_n E dX7_off_81 rfl rfl ?_
                            refine j_getP (ci := 7) (k := 13) (Cn := RX7) (T := TX7) (N := 34) E dX7_off_82 hm1 hm2 rfl (by decide) hinX7 (by decide +kernel) rfl mp13 ?_
                            refine j_iload_n E dX7_off_85 rfl rfl ?_
                            refine j_iload_n E dX7_off_86 rfl rfl ?_
                            refine j_zast E dX7_off_87 ml13 mn13 (ix01 (n := 3) h16 (by decide)).1 (ix01 (n := 3) h16 (by decide)).2 (by decide) mk13 (nar01 ho) ?_
                            refine j_goto (tgt := 98) E dX7_off_88 (by decide) ?_
                            refine j_aload_n E dX7_off_98 rfl rfl ?_
                            refine j_bipush (v := 7) E dX7_off_99 (by decide) ?_
                            refine j_iload_n E dX7_off_101 rfl rfl ?_
                            refine j_if_eq (tgt := 109) E dX7_off_102 (by decide) (fun h102 => ?_) (fun h102 => ?_)
                            · first
                              | exact absurd h4 h102
                              | exact absurd h102 h4
                              | (
                                  refine j_bipush (v := 10) E dX7_off_109 (by decide) ?_
                                  refine j_iload_n E dX7_off_111 rfl rfl ?_
                                  refine j_iadd E dX7_off_112 ?_
                                  refine j_callV0 (ci := 7) (n := 2) E (k_X7_note hM0) dX7_off_113 gX7_off_X7_note rfl (by decide +kernel) ⟨rfl, rfl, by decide, by decide⟩ ⟨Nat.zero_le _, Nat.zero_le _⟩ hm1 hm2 rfl rfl rfl (Nat.le_of_ble_eq_true rfl) rfl ?_
                                  refine j_iconst (v := 1) E dX7_off_116 (by decide) ?_
                                  exact j_zret E dX7_off_117 rfl (by simp [mOff, mOffT, h4, h16, h28, h43, h49, h72, h78, h102]) rfl (by simp [mOff, mOffT, h4, h16, h28, h43, h49, h72, h78, h102])
                                )
                            · first
                              | exact absurd h4 h102
                              | exact absurd h102 h4
                              | (
                                  refine j_iload_n E dX7_off_105 rfl rfl ?_
                                  refine j_goto (tgt := 113) E dX7_off_106 (by decide) ?_
                                  refine j_callV0 (ci := 7) (n := 2) E (k_X7_note hM0) dX7_off_113 gX7_off_X7_note rfl (by decide +kernel) ⟨rfl, rfl, by decide, by decide⟩ ⟨Nat.zero_le _, Nat.zero_le _⟩ hm1 hm2 rfl rfl rfl (Nat.le_of_ble_eq_true rfl) rfl ?_
                                  refine j_iconst (v := 1) E dX7_off_116 (by decide) ?_
                                  exact j_zret E dX7_off_117 rfl (by simp [mOff, mOffT, h4, h16, h28, h43, h49, h72, h78, h102]) rfl (by simp [mOff, mOffT, h4, h16, h28, h43, h49, h72, h78, h102])
                                )
                          )
                    · refine j_iconst (v := 0) E dX7_off_75 (by decide) ?_
                      exact j_zret E dX7_off_76 rfl (by simp [mOff, mOffT, h4, h16, h28, h43, h49, h72]) rfl (by simp [mOff, mOffT, h4, h16, h28, h43, h49, h72])
                  )
              · first
                | exact absurd h4 h49
                | exact absurd h49 h4
                | (
                    refine j_aload_n E dX7_off_52 rfl rfl ?_
                    refine j_getP (ci := 7) (k := 13) (Cn := RX7) (T := TX7) (N := 34) E dX7_off_53 hm1 hm2 rfl (by decide) hinX7 (by decide +kernel) rfl mp13 ?_
                    refine j_iload_n E dX7_off_56 rfl rfl ?_
                    refine j_zald E dX7_off_57 ml13 mn13 (ix01 (n := 3) h16 (by decide)).1 (ix01 (n := 3) h16 (by decide)).2 (by decide) mk13 ?_
                    try simp only [pI_m hinj, pF_m hinj, pI_2, pF_1, Nat.reduceEqDiff, Nat.reduceLT, Nat.reduceLeDiff, eq_self, ↓reduceIte]
                    refine j_goto (tgt := 67) E dX7_off_58 (by decide) ?_
                    refine j_istore E dX7_off_67 (by decide) ?_
                    refine j_iload E dX7_off_69 rfl ?_
                    refine j_iload_n E dX7_off_71 rfl rfl ?_
                    refine j_icmp_ne (tgt := 77) E dX7_off_72 (by decide) (fun h72 => ?_) (fun h72 => ?_)
                    · refine j_iload_n E dX7_off_77 rfl rfl ?_
                      refine j_if_eq (tgt := 91) E dX7_off_78 (by decide) (fun h78 => ?_) (fun h78 => ?_)
                      · first
                        | exact absurd h4 h78
                        | exact absurd h78 h4
                        | (
                            refine j_aload_n E dX7_off_91 rfl rfl ?_
                            refine j_getP (ci := 7) (k := 12) (Cn := RX7) (T := TX7) (N := 34) E dX7_off_92 hm1 hm2 rfl (by decide) hinX7 (by decide +kernel) rfl mp12 ?_
                            refine j_iload_n E dX7_off_95 rfl rfl ?_
                            refine j_iload_n E dX7_off_96 rfl rfl ?_
                            refine j_zast E dX7_off_97 ml12 mn12 (ix01 (n := 15) h16 (by decide)).1 (ix01 (n := 15) h16 (by decide)).2 (by decide) mk12 (nar01 ho) ?_
                            refine j_aload_n E dX7_off_98 rfl rfl ?_
                            refine j_bipush (v := 7) E dX7_off_99 (by decide) ?_
                            refine j_iload_n E dX7_off_101 rfl rfl ?_
                            refine j_if_eq (tgt := 109) E dX7_off_102 (by decide) (fun h102 => ?_) (fun h102 => ?_)
                            · first
                              | exact absurd h4 h102
                              | exact absurd h102 h4
                              | (
                                  refine j_bipush (v := 10) E dX7_off_109 (by decide) ?_
                                  refine j_iload_n E dX7_off_111 rfl rfl ?_
                                  refine j_iadd E dX7_off_112 ?_
                                  refine j_callV0 (ci := 7) (n := 2) E (k_X7_note hM0) dX7_off_113 gX7_off_X7_note rfl (by decide +kernel) ⟨rfl, rfl, by decide, by decide⟩ ⟨Nat.zero_le _, Nat.zero_le _⟩ hm1 hm2 rfl rfl rfl (Nat.le_of_ble_eq_true rfl) rfl ?_
                                  refine j_iconst (v := 1) E dX7_off_116 (by decide) ?_
                                  exact j_zret E dX7_off_117 rfl (by simp [mOff, mOffT, h4, h16, h28, h43, h49, h72, h78, h102]) rfl (by simp [mOff, mOffT, h4, h16, h28, h43, h49, h72, h78, h102])
                                )
                            · first
                              | exact absurd h4 h102
                              | exact absurd h102 h4
                              | (
                                  refine j_iload_n E dX7_off_105 rfl rfl ?_
                                  refine j_goto (tgt := 113) E dX7_off_106 (by decide) ?_
                                  refine j_callV0 (ci := 7) (n := 2) E (k_X7_note hM0) dX7_off_113 gX7_off_X7_note rfl (by decide +kernel) ⟨rfl, rfl, by decide, by decide⟩ ⟨Nat.zero_le _, Nat.zero_le _⟩ hm1 hm2 rfl rfl rfl (Nat.le_of_ble_eq_true rfl) rfl ?_
                                  refine j_iconst (v := 1) E dX7_off_116 (by decide) ?_
                                  exact j_zret E dX7_off_117 rfl (by simp [mOff, mOffT, h4, h16, h28, h43, h49, h72, h78, h102]) rfl (by simp [mOff, mOffT, h4, h16, h28, h43, h49, h72, h78, h102])
                                )
                          )
                      · first
                        | exact absurd h4 h78
                        | exact absurd h78 h4
                        | (
                            refine j_aload_n E dX7_off_81 rfl rfl ?_
                            refine j_getP (ci := 7) (k := 13) (Cn := RX7) (T := TX7) (N := 34) E dX7_off_82 hm1 hm2 rfl (by decide) hinX7 (by decide +kernel) rfl mp13 ?_
                            refine j_iload_n E dX7_off_85 rfl rfl ?_
                            refine j_iload_n E dX7_off_86 rfl rfl ?_
                            refine j_zast E dX7_off_87 ml13 mn13 (ix01 (n := 3) h16 (by decide)).1 (ix01 (n := 3) h16 (by decide)).2 (by decide) mk13 (nar01 ho) ?_
                            refine j_goto (tgt := 98) E dX7_off_88 (by decide) ?_
                            refine j_aload_n E dX7_off_98 rfl rfl ?_
                            refine j_bipush (v := 7) E dX7_off_99 (by decide) ?_
                            refine j_iload_n E dX7_off_101 rfl rfl ?_
                            refine j_if_eq (tgt := 109) E dX7_off_102 (by decide) (fun h102 => ?_) (fun h102 => ?_)
                            · first
                              | exact absurd h4 h102
                              | exact absurd h102 h4
                              | (
                                  refine j_bipush (v := 10) E dX7_off_109 (by decide) ?_
                                  refine j_iload_n E dX7_off_111 rfl rfl ?_
                                  refine j_iadd E dX7_off_112 ?_
                                  refine j_callV0 (ci := 7) (n := 2) E (k_X7_note hM0) dX7_off_113 gX7_off_X7_note rfl (by decide +kernel) ⟨rfl, rfl, by decide, by decide⟩ ⟨Nat.zero_le _, Nat.zero_le _⟩ hm1 hm2 rfl rfl rfl (Nat.le_of_ble_eq_true rfl) rfl ?_
                                  refine j_iconst (v := 1) E dX7_off_116 (by decide) ?_
                                  exact j_zret E dX7_off_117 rfl (by simp [mOff, mOffT, h4, h16, h28, h43, h49, h72, h78, h102]) rfl (by simp [mOff, mOffT, h4, h16, h28, h43, h49, h72, h78, h102])
                                )
                            · first
                              | exact absurd h4 h102
                              | exact absurd h102 h4
                              | (
                                  refine j_iload_n E dX7_off_105 rfl rfl ?_
                                  refine j_goto (tgt := 113) E dX7_off_106 (by decide) ?_
                                  refine j_callV0 (ci := 7) (n := 2) E (k_X7_note hM0) dX7_off_113 gX7_off_X7_note rfl (by decide +kernel) ⟨rfl, rfl, by decide, by decide⟩ ⟨Nat.zero_le _, Nat.zero_le _⟩ hm1 hm2 rfl rfl rfl (Nat.le_of_ble_eq_true rfl) rfl ?_
                                  refine j_iconst (v := 1) E dX7_off_116 (by decide) ?_
                                  exact j_zret E dX7_off_117 rfl (by simp [mOff, mOffT, h4, h16, h28, h43, h49, h72, h78, h102]) rfl (by simp [mOff, mOffT, h4, h16, h28, h43, h49, h72, h78, h102])
                                )
                          )
                    · refine j_iconst (v := 0) E dX7_off_75 (by decide) ?_
                      exact j_zret E dX7_off_76 rfl (by simp [mOff, mOffT, h4, h16, h28, h43, h49, h72]) rfl (by simp [mOff, mOffT, h4, h16, h28, h43, h49, h72])
                  )
            )
        · first
          | exact absurd h43 (by decide)
          | exact absurd (by decide) h43
          | (
              refine j_iconst (v := 0) E dX7_off_46 (by decide) ?_
              exact j_zret E dX7_off_47 rfl (by simp [mOff, mOffT, h4, h16, h28, h43]) rfl (by simp [mOff, mOffT, h4, h16, h28, h43])
            )
    · refine j_iconst (v := 1) E dX7_off_19 (by decide) ?_
      refine j_goto (tgt := 36) E dX7_off_20 (by decide) ?_
      refine j_putI (ci := 7) (k := 0) (Cn := RX7) (T := TX7) (N := 34) E dX7_off_36 hm1 hm2 rfl (by decide) hinX7 (by decide +kernel) rfl tyX7 tyX7_ok nmX7 rfl rfl rfl rfl ?_
      refine j_aload_n E dX7_off_39 rfl rfl ?_
      refine j_getI (ci := 7) (k := 0) (Cn := RX7) (T := TX7) (N := 34) E dX7_off_40 hm1 hm2 rfl (by decide) hinX7 (by decide +kernel) rfl ?_
      try simp only [pI_m hinj, pF_m hinj, pI_2, pF_1, Nat.reduceEqDiff, Nat.reduceLT, Nat.reduceLeDiff, eq_self, ↓reduceIte]
      refine j_if_le (tgt := 48) E dX7_off_43 (by decide) (fun h43 => ?_) (fun h43 => ?_)
      · first
        | exact absurd h43 (by decide)
        | exact absurd (by decide) h43
        | (
            refine j_iload_n E dX7_off_48 rfl rfl ?_
            refine j_if_eq (tgt := 61) E dX7_off_49 (by decide) (fun h49 => ?_) (fun h49 => ?_)
            · first
              | exact absurd h4 h49
              | exact absurd h49 h4
              | (
                  refine j_aload_n E dX7_off_61 rfl rfl ?_
                  refine j_getP (ci := 7) (k := 12) (Cn := RX7) (T := TX7) (N := 34) E dX7_off_62 hm1 hm2 rfl (by decide) hinX7 (by decide +kernel) rfl mp12 ?_
                  refine j_iload_n E dX7_off_65 rfl rfl ?_
                  refine j_zald E dX7_off_66 ml12 mn12 (ix01 (n := 15) h16 (by decide)).1 (ix01 (n := 15) h16 (by decide)).2 (by decide) mk12 ?_
                  try simp only [pI_m hinj, pF_m hinj, pI_2, pF_1, Nat.reduceEqDiff, Nat.reduceLT, Nat.reduceLeDiff, eq_self, ↓reduceIte]
                  refine j_istore E dX7_off_67 (by decide) ?_
                  refine j_iload E dX7_off_69 rfl ?_
                  refine j_iload_n E dX7_off_71 rfl rfl ?_
                  refine j_icmp_ne (tgt := 77) E dX7_off_72 (by decide) (fun h72 => ?_) (fun h72 => ?_)
                  · refine j_iload_n E dX7_off_77 rfl rfl ?_
                    refine j_if_eq (tgt := 91) E dX7_off_78 (by decide) (fun h78 => ?_) (fun h78 => ?_)
                    · first
                      | exact absurd h4 h78
                      | exact absurd h78 h4
                      | (
                          refine j_aload_n E dX7_off_91 rfl rfl ?_
                          refine j_getP (ci := 7) (k := 12) (Cn := RX7) (T := TX7) (N := 34) E dX7_off_92 hm1 hm2 rfl (by decide) hinX7 (by decide +kernel) rfl mp12 ?_
                          refine j_iload_n E dX7_off_95 rfl rfl ?_
                          refine j_iload_n E dX7_off_96 rfl rfl ?_
                          refine j_zast E dX7_off_97 ml12 mn12 (ix01 (n := 15) h16 (by decide)).1 (ix01 (n := 15) h16 (by decide)).2 (by decide) mk12 (nar01 ho) ?_
                          refine j_aload_n E dX7_off_98 rfl rfl ?_
                          refine j_bipush (v := 7) E dX7_off_99 (by decide) ?_
                          refine j_iload_n E dX7_off_101 rfl rfl ?_
                          refine j_if_eq (tgt := 109) E dX7_off_102 (by decide) (fun h102 => ?_) (fun h102 => ?_)
                          · first
                            | exact absurd h4 h102
                            | exact absurd h102 h4
                            | (
                                refine j_bipush (v := 10) E dX7_off_109 (by decide) ?_
                                refine j_iload_n E dX7_off_111 rfl rfl ?_
                                refine j_iadd E dX7_off_112 ?_
                                refine j_callV0 (ci := 7) (n := 2) E (k_X7_note hM0) dX7_off_113 gX7_off_X7_note rfl (by decide +kernel) ⟨rfl, rfl, by decide, by decide⟩ ⟨Nat.zero_le _, Nat.zero_le _⟩ hm1 hm2 rfl rfl rfl (Nat.le_of_ble_eq_true rfl) rfl ?_
                                refine j_iconst (v := 1) E dX7_off_116 (by decide) ?_
                                exact j_zret E dX7_off_117 rfl (by simp [mOff, mOffT, h4, h16, h43, h49, h72, h78, h102]) rfl (by simp [mOff, mOffT, h4, h16, h43, h49, h72, h78, h102])
                              )
                          · first
                            | exact absurd h4 h102
                            | exact absurd h102 h4
                            | (
                                refine j_iload_n E dX7_off_105 rfl rfl ?_
                                refine j_goto (tgt := 113) E dX7_off_106 (by decide) ?_
                                refine j_callV0 (ci := 7) (n := 2) E (k_X7_note hM0) dX7_off_113 gX7_off_X7_note rfl (by decide +kernel) ⟨rfl, rfl, by decide, by decide⟩ ⟨Nat.zero_le _, Nat.zero_le _⟩ hm1 hm2 rfl rfl rfl (Nat.le_of_ble_eq_true rfl) rfl ?_
                                refine j_iconst (v := 1) E dX7_off_116 (by decide) ?_
                                exact j_zret E dX7_off_117 rfl (by simp [mOff, mOffT, h4, h16, h43, h49, h72, h78, h102]) rfl (by simp [mOff, mOffT, h4, h16, h43, h49, h72, h78, h102])
                              )
                        )
                    · first
                      | exact absurd h4 h78
                      | exact absurd h78 h4
                      | (
                          refine j_aload_n E dX7_off_81 rfl rfl ?_
                          refine j_getP (ci := 7) (k := 13) (Cn := RX7) (T := TX7) (N := 34) E dX7_off_82 hm1 hm2 rfl (by decide) hinX7 (by decide +kernel) rfl mp13 ?_
                          refine j_iload_n E dX7_off_85 rfl rfl ?_
                          refine j_iload_n E dX7_off_86 rfl rfl ?_
                          refine j_zast E dX7_off_87 ml13 mn13 (ix01 (n := 3) h16 (by decide)).1 (ix01 (n := 3) h16 (by decide)).2 (by decide) mk13 (nar01 ho) ?_
                          refine j_goto (tgt := 98) E dX7_off_88 (by decide) ?_
                          refine j_aload_n E dX7_off_98 rfl rfl ?_
                          refine j_bipush (v := 7) E dX7_off_99 (by decide) ?_
                          refine j_iload_n E dX7_off_101 rfl rfl ?_
                          refine j_if_eq (tgt := 109) E dX7_off_102 (by decide) (fun h102 => ?_) (fun h102 => ?_)
                          · first
                            | exact absurd h4 h102
                            | exact absurd h102 h4
                            | (
                                refine j_bipush (v := 10) E dX7_off_109 (by decide) ?_
                                refine j_iload_n E dX7_off_111 rfl rfl ?_
                                refine j_iadd E dX7_off_112 ?_
                                refine j_callV0 (ci := 7) (n := 2) E (k_X7_note hM0) dX7_off_113 gX7_off_X7_note rfl (by decide +kernel) ⟨rfl, rfl, by decide, by decide⟩ ⟨Nat.zero_le _, Nat.zero_le _⟩ hm1 hm2 rfl rfl rfl (Nat.le_of_ble_eq_true rfl) rfl ?_
                                refine j_iconst (v := 1) E dX7_off_116 (by decide) ?_
                                exact j_zret E dX7_off_117 rfl (by simp [mOff, mOffT, h4, h16, h43, h49, h72, h78, h102]) rfl (by simp [mOff, mOffT, h4, h16, h43, h49, h72, h78, h102])
                              )
                          · first
                            | exact absurd h4 h102
                            | exact absurd h102 h4
                            | (
                                refine j_iload_n E dX7_off_105 rfl rfl ?_
                                refine j_goto (tgt := 113) E dX7_off_106 (by decide) ?_
                                refine j_callV0 (ci := 7) (n := 2) E (k_X7_note hM0) dX7_off_113 gX7_off_X7_note rfl (by decide +kernel) ⟨rfl, rfl, by decide, by decide⟩ ⟨Nat.zero_le _, Nat.zero_le _⟩ hm1 hm2 rfl rfl rfl (Nat.le_of_ble_eq_true rfl) rfl ?_
                                refine j_iconst (v := 1) E dX7_off_116 (by decide) ?_
                                exact j_zret E dX7_off_117 rfl (by simp [mOff, mOffT, h4, h16, h43, h49, h72, h78, h102]) rfl (by simp [mOff, mOffT, h4, h16, h43, h49, h72, h78, h102])
                              )
                        )
                  · refine j_iconst (v := 0) E dX7_off_75 (by decide) ?_
                    exact j_zret E dX7_off_76 rfl (by simp [mOff, mOffT, h4, h16, h43, h49, h72]) rfl (by simp [mOff, mOffT, h4, h16, h43, h49, h72])
                )
            · first
              | exact absurd h4 h49
              | exact absurd h49 h4
              | (
                  refine j_aload_n E dX7_off_52 rfl rfl ?_
                  refine j_getP (ci := 7) (k := 13) (Cn := RX7) (T := TX7) (N := 34) E dX7_off_53 hm1 hm2 rfl (by decide) hinX7 (by decide +kernel) rfl mp13 ?_
                  refine j_iload_n E dX7_off_56 rfl rfl ?_
                  refine j_zald E dX7_off_57 ml13 mn13 (ix01 (n := 3) h16 (by decide)).1 (ix01 (n := 3) h16 (by decide)).2 (by decide) mk13 ?_
                  try simp only [pI_m hinj, pF_m hinj, pI_2, pF_1, Nat.reduceEqDiff, Nat.reduceLT, Nat.reduceLeDiff, eq_self, ↓reduceIte]
                  refine j_goto (tgt := 67) E dX7_off_58 (by decide) ?_
                  refine j_istore E dX7_off_67 (by decide) ?_
                  refine j_iload E dX7_off_69 rfl ?_
                  refine j_iload_n E dX7_off_71 rfl rfl ?_
                  refine j_icmp_ne (tgt := 77) E dX7_off_72 (by decide) (fun h72 => ?_) (fun h72 => ?_)
                  · refine j_iload_n E dX7_off_77 rfl rfl ?_
                    refine j_if_eq (tgt := 91) E dX7_off_78 (by decide) (fun h78 => ?_) (fun h78 => ?_)
                    · first
                      | exact absurd h4 h78
                      | exact absurd h78 h4
                      | (
                          refine j_aload_n E dX7_off_91 rfl rfl ?_
                          refine j_getP (ci := 7) (k := 12) (Cn := RX7) (T := TX7) (N := 34) E dX7_off_92 hm1 hm2 rfl (by decide) hinX7 (by decide +kernel) rfl mp12 ?_
                          refine j_iload_n E dX7_off_95 rfl rfl ?_
                          refine j_iload_n E dX7_off_96 rfl rfl ?_
                          refine j_zast E dX7_off_97 ml12 mn12 (ix01 (n := 15) h16 (by decide)).1 (ix01 (n := 15) h16 (by decide)).2 (by decide) mk12 (nar01 ho) ?_
                          refine j_aload_n E dX7_off_98 rfl rfl ?_
                          refine j_bipush (v := 7) E dX7_off_99 (by decide) ?_
                          refine j_iload_n E dX7_off_101 rfl rfl ?_
                          refine j_if_eq (tgt := 109) E dX7_off_102 (by decide) (fun h102 => ?_) (fun h102 => ?_)
                          · first
                            | exact absurd h4 h102
                            | exact absurd h102 h4
                            | (
                                refine j_bipush (v := 10) E dX7_off_109 (by decide) ?_
                                refine j_iload_n E dX7_off_111 rfl rfl ?_
                                refine j_iadd E dX7_off_112 ?_
                                refine j_callV0 (ci := 7) (n := 2) E (k_X7_note hM0) dX7_off_113 gX7_off_X7_note rfl (by decide +kernel) ⟨rfl, rfl, by decide, by decide⟩ ⟨Nat.zero_le _, Nat.zero_le _⟩ hm1 hm2 rfl rfl rfl (Nat.le_of_ble_eq_true rfl) rfl ?_
                                refine j_iconst (v := 1) E dX7_off_116 (by decide) ?_
                                exact j_zret E dX7_off_117 rfl (by simp [mOff, mOffT, h4, h16, h43, h49, h72, h78, h102]) rfl (by simp [mOff, mOffT, h4, h16, h43, h49, h72, h78, h102])
                              )
                          · first
                            | exact absurd h4 h102
                            | exact absurd h102 h4
                            | (
                                refine j_iload_n E dX7_off_105 rfl rfl ?_
                                refine j_goto (tgt := 113) E dX7_off_106 (by decide) ?_
                                refine j_callV0 (ci := 7) (n := 2) E (k_X7_note hM0) dX7_off_113 gX7_off_X7_note rfl (by decide +kernel) ⟨rfl, rfl, by decide, by decide⟩ ⟨Nat.zero_le _, Nat.zero_le _⟩ hm1 hm2 rfl rfl rfl (Nat.le_of_ble_eq_true rfl) rfl ?_
                                refine j_iconst (v := 1) E dX7_off_116 (by decide) ?_
                                exact j_zret E dX7_off_117 rfl (by simp [mOff, mOffT, h4, h16, h43, h49, h72, h78, h102]) rfl (by simp [mOff, mOffT, h4, h16, h43, h49, h72, h78, h102])
                              )
                        )
                    · first
                      | exact absurd h4 h78
                      | exact absurd h78 h4
                      | (
                          refine j_aload_n E dX7_off_81 rfl rfl ?_
                          refine j_getP (ci := 7) (k := 13) (Cn := RX7) (T := TX7) (N := 34) E dX7_off_82 hm1 hm2 rfl (by decide) hinX7 (by decide +kernel) rfl mp13 ?_
                          refine j_iload_n E dX7_off_85 rfl rfl ?_
                          refine j_iload_n E dX7_off_86 rfl rfl ?_
                          refine j_zast E dX7_off_87 ml13 mn13 (ix01 (n := 3) h16 (by decide)).1 (ix01 (n := 3) h16 (by decide)).2 (by decide) mk13 (nar01 ho) ?_
                          refine j_goto (tgt := 98) E dX7_off_88 (by decide) ?_
                          refine j_aload_n E dX7_off_98 rfl rfl ?_
                          refine j_bipush (v := 7) E dX7_off_99 (by decide) ?_
                          refine j_iload_n E dX7_off_101 rfl rfl ?_
                          refine j_if_eq (tgt := 109) E dX7_off_102 (by decide) (fun h102 => ?_) (fun h102 => ?_)
                          · first
                            | exact absurd h4 h102
                            | exact absurd h102 h4
                            | (
                                refine j_bipush (v := 10) E dX7_off_109 (by decide) ?_
                                refine j_iload_n E dX7_off_111 rfl rfl ?_
                                refine j_iadd E dX7_off_112 ?_
                                refine j_callV0 (ci := 7) (n := 2) E (k_X7_note hM0) dX7_off_113 gX7_off_X7_note rfl (by decide +kernel) ⟨rfl, rfl, by decide, by decide⟩ ⟨Nat.zero_le _, Nat.zero_le _⟩ hm1 hm2 rfl rfl rfl (Nat.le_of_ble_eq_true rfl) rfl ?_
                                refine j_iconst (v := 1) E dX7_off_116 (by decide) ?_
                                exact j_zret E dX7_off_117 rfl (by simp [mOff, mOffT, h4, h16, h43, h49, h72, h78, h102]) rfl (by simp [mOff, mOffT, h4, h16, h43, h49, h72, h78, h102])
                              )
                          · first
                            | exact absurd h4 h102
                            | exact absurd h102 h4
                            | (
                                refine j_iload_n E dX7_off_105 rfl rfl ?_
                                refine j_goto (tgt := 113) E dX7_off_106 (by decide) ?_
                                refine j_callV0 (ci := 7) (n := 2) E (k_X7_note hM0) dX7_off_113 gX7_off_X7_note rfl (by decide +kernel) ⟨rfl, rfl, by decide, by decide⟩ ⟨Nat.zero_le _, Nat.zero_le _⟩ hm1 hm2 rfl rfl rfl (Nat.le_of_ble_eq_true rfl) rfl ?_
                                refine j_iconst (v := 1) E dX7_off_116 (by decide) ?_
                                exact j_zret E dX7_off_117 rfl (by simp [mOff, mOffT, h4, h16, h43, h49, h72, h78, h102]) rfl (by simp [mOff, mOffT, h4, h16, h43, h49, h72, h78, h102])
                              )
                        )
                  · refine j_iconst (v := 0) E dX7_off_75 (by decide) ?_
                    exact j_zret E dX7_off_76 rfl (by simp [mOff, mOffT, h4, h16, h43, h49, h72]) rfl (by simp [mOff, mOffT, h4, h16, h43, h49, h72])
                )
          )
      · first
        | exact absurd h43 (by decide)
        | exact absurd (by decide) h43
        | (
            refine j_iconst (v := 0) E dX7_off_46 (by decide) ?_
            exact j_zret E dX7_off_47 rfl (by simp [mOff, mOffT, h4, h16, h43]) rfl (by simp [mOff, mOffT, h4, h16, h43])
          )

set_option maxHeartbeats 1600000 in
set_option maxRecDepth 100000 in
theorem k_X7_place {l : Launch} {D : va_G} {cy : Nat → ClassId} {X : va_W} {G : pG} {M : pM} {m : Nat → Nat} {p : Int32} (hM : wM G m) : jK l yX7_place wsX7_place ({ frames := 3, cells := 0, slots := 0, locals := 68 } : Room) D cy X G M [.ref (m 0), .int p] (some (.int (mPl M m p))) X (pI M (m 0) 0 (mT1 (mIn p 0 15))) := by
  refine jK_of (own := RX7) (by decide) rfl rfl (Nat.le_of_ble_eq_true rfl) (fun C E hl hD hcy hG => ?_)
  subst hl; subst hD; subst hcy; subst hG
  have hinX7 : ∀ w ∈ u_ws RX7 TX7 34, w ∈ wsX7_place := by decide +kernel
  have hM0 := hM
  obtain ⟨hm1, hm2, hmt, hinj⟩ := hM
  obtain ⟨mp2, ml2, mk2, mn2⟩ := hmt 2 10 16 rfl
  obtain ⟨mp9, ml9, mk9, mn9⟩ := hmt 9 11 16 rfl
  obtain ⟨mp11, ml11, mk11, mn11⟩ := hmt 11 11 16 rfl
  obtain ⟨mp12, ml12, mk12, mn12⟩ := hmt 12 11 16 rfl
  by_cases hb : mIn p 0 15 = 0
  · refine j_aload_n E dX7_place_0 rfl rfl ?_
    refine j_iload_n E dX7_place_1 rfl rfl ?_
    refine j_iconst (v := 0) E dX7_place_2 (by decide) ?_
    refine j_bipush (v := 15) E dX7_place_3 (by decide) ?_
    refine j_callS1 (n := 3) E (k_X7_in ) dX7_place_5 gX7_place_X7_in rfl (by decide +kernel) ⟨rfl, rfl, by decide, by decide⟩ ⟨Nat.zero_le _, Nat.zero_le _⟩ rfl rfl (Nat.le_of_ble_eq_true rfl) rfl ?_
    refine j_if_eq (tgt := 15) E dX7_place_8 (by decide) (fun h8 => ?_) (fun h8 => ?_)
    · refine j_iconst (v := 1) E dX7_place_15 (by decide) ?_
      refine j_putI (ci := 7) (k := 0) (Cn := RX7) (T := TX7) (N := 34) E dX7_place_16 hm1 hm2 rfl (by decide) hinX7 (by decide +kernel) rfl tyX7 tyX7_ok nmX7 rfl rfl rfl rfl ?_
      refine j_aload_n E dX7_place_19 rfl rfl ?_
      refine j_getI (ci := 7) (k := 0) (Cn := RX7) (T := TX7) (N := 34) E dX7_place_20 hm1 hm2 rfl (by decide) hinX7 (by decide +kernel) rfl ?_
      try simp only [pI_m hinj, pF_m hinj, pI_2, pF_1, Nat.reduceEqDiff, Nat.reduceLT, Nat.reduceLeDiff, eq_self, ↓reduceIte]
      refine j_if_le (tgt := 28) E dX7_place_23 (by decide) (fun h23 => ?_) (fun h23 => ?_)
      · first
        | exact absurd h23 (by decide)
        | exact absurd (by decide) h23
        | (
            refine j_aload_n E dX7_place_28 rfl rfl ?_
            refine j_iload_n E dX7_place_29 rfl rfl ?_
            refine j_callV1 (ci := 7) (n := 1) E (k_X7_reached hM0 hj) dX7_place_30 gX7_place_X7_reached rfl (by decide +kernel) ⟨rfl, rfl, by decide, by decide⟩ ⟨Nat.zero_le _, Nat.zero_le _⟩ hm1 hm2 rfl rfl rfl (Nat.le_of_ble_eq_true rfl) rfl ?_
            refine j_if_eq (tgt := 40) E dX7_place_33 (by decide) (fun h33 => ?_) (fun h33 => ?_)
            · refine j_iconst (v := 0) E dX7_place_40 (by decide) ?_
              refine j_aload_n E dX7_place_41 rfl rfl ?_
              refine j_getP (ci := 7) (k := 9) (Cn := RX7) (T := TX7) (N := 34) E dX7_place_42 hm1 hm2 rfl (by decide) hinX7 (by decide +kernel) rfl mp9 ?_
              refine j_iload_n E dX7_place_45 rfl rfl ?_
              refine j_zald E dX7_place_46 ml9 mn9 rfl (by decide) (by decide) mk9 ?_
              try simp only [pI_m hinj, pF_m hinj, pI_2, pF_1, Nat.reduceEqDiff, Nat.reduceLT, Nat.reduceLeDiff, eq_self, ↓reduceIte]
              refine j_if_eq (tgt := 54) E dX7_place_47 (by decide) (fun h47 => ?_) (fun h47 => ?_)
              · refine j_iconst (v := 0) E dX7_place_54 (by decide) ?_
                refine j_iadd E dX7_place_55 ?_
                refine j_aload_n E dX7_place_56 rfl rfl ?_
                refine j_getP (ci := 7) (k := 11) (Cn := RX7) (T := TX7) (N := 34) E dX7_place_57 hm1 hm2 rfl (by decide) hinX7 (by decide +kernel) rfl mp11 ?_
                refine j_iload_n E dX7_place_60 rfl rfl ?_
                refine j_zald E dX7_place_61 ml11 mn11 rfl (by decide) (by decide) mk11 ?_
                try simp only [pI_m hinj, pF_m hinj, pI_2, pF_1, Nat.reduceEqDiff, Nat.reduceLT, Nat.reduceLeDiff, eq_self, ↓reduceIte]
                refine j_if_eq (tgt := 69) E dX7_place_62 (by decide) (fun h62 => ?_) (fun h62 => ?_)
                · refine j_iconst (v := 0) E dX7_place_69 (by decide) ?_
                  refine j_iadd E dX7_place_70 ?_
                  refine j_aload_n E dX7_place_71 rfl rfl ?_
                  refine j_getP (ci := 7) (k := 12) (Cn := RX7) (T := TX7) (N := 34) E dX7_place_72 hm1 hm2 rfl (by decide) hinX7 (by decide +kernel) rfl mp12 ?_
                  refine j_iload_n E dX7_place_75 rfl rfl ?_
                  refine j_zald E dX7_place_76 ml12 mn12 rfl (by decide) (by decide) mk12 ?_
                  try simp only [pI_m hinj, pF_m hinj, pI_2, pF_1, Nat.reduceEqDiff, Nat.reduceLT, Nat.reduceLeDiff, eq_self, ↓reduceIte]
                  refine j_if_eq (tgt := 85) E dX7_place_77 (by decide) (fun h77 => ?_) (fun h77 => ?_)
                  · refine j_iconst (v := 0) E dX7_place_85 (by decide) ?_
                    refine j_iadd E dX7_place_86 ?_
                    refine j_bipush (v := 16) E dX7_place_87 (by decide) ?_
                    refine j_aload_n E dX7_place_89 rfl rfl ?_
                    refine j_getP (ci := 7) (k := 2) (Cn := RX7) (T := TX7) (N := 34) E dX7_place_90 hm1 hm2 rfl (by decide) hinX7 (by decide +kernel) rfl mp2 ?_
                    refine j_iload_n E dX7_place_93 rfl rfl ?_
                    refine j_iald E dX7_place_94 ml2 mn2 rfl (by decide) (by decide) mk2 ?_
                    try simp only [pI_m hinj, pF_m hinj, pI_2, pF_1, Nat.reduceEqDiff, Nat.reduceLT, Nat.reduceLeDiff, eq_self, ↓reduceIte]
                    refine j_imul E dX7_place_95 ?_
                    refine j_iadd E dX7_place_96 ?_
                    exact j_iret E dX7_place_97 (by simp [mPl, mT1, h8, h23, h33, h47, h62, h77]) rfl (by simp [mPl, mT1, h8, h23, h33, h47, h62, h77])
                  · refine j_bipush (v := 8) E dX7_place_80 (by decide) ?_
                    refine j_goto (tgt := 86) E dX7_place_82 (by decide) ?_
                    refine j_iadd E dX7_place_86 ?_
                    refine j_bipush (v := 16) E dX7_place_87 (by decide) ?_
                    refine j_aload_n E dX7_place_89 rfl rfl ?_
                    refine j_getP (ci := 7) (k := 2) (Cn := RX7) (T := TX7) (N := 34) E dX7_place_90 hm1 hm2 rfl (by decide) hinX7 (by decide +kernel) rfl mp2 ?_
                    refine j_iload_n E dX7_place_93 rfl rfl ?_
                    refine j_iald E dX7_place_94 ml2 mn2 rfl (by decide) (by decide) mk2 ?_
                    try simp only [pI_m hinj, pF_m hinj, pI_2, pF_1, Nat.reduceEqDiff, Nat.reduceLT, Nat.reduceLeDiff, eq_self, ↓reduceIte]
                    refine j_imul E dX7_place_95 ?_
                    refine j_iadd E dX7_place_96 ?_
                    exact j_iret E dX7_place_97 (by simp [mPl, mT1, h8, h23, h33, h47, h62, h77]) rfl (by simp [mPl, mT1, h8, h23, h33, h47, h62, h77])
                · refine j_iconst (v := 4) E dX7_place_65 (by decide) ?_
                  refine j_goto (tgt := 70) E dX7_place_66 (by decide) ?_
                  refine j_iadd E dX7_place_70 ?_
                  refine j_aload_n E dX7_place_71 rfl rfl ?_
                  refine j_getP (ci := 7) (k := 12) (Cn := RX7) (T := TX7) (N := 34) E dX7_place_72 hm1 hm2 rfl (by decide) hinX7 (by decide +kernel) rfl mp12 ?_
                  refine j_iload_n E dX7_place_75 rfl rfl ?_
                  refine j_zald E dX7_place_76 ml12 mn12 rfl (by decide) (by decide) mk12 ?_
                  try simp only [pI_m hinj, pF_m hinj, pI_2, pF_1, Nat.reduceEqDiff, Nat.reduceLT, Nat.reduceLeDiff, eq_self, ↓reduceIte]
                  refine j_if_eq (tgt := 85) E dX7_place_77 (by decide) (fun h77 => ?_) (fun h77 => ?_)
                  · refine j_iconst (v := 0) E dX7_place_85 (by decide) ?_
                    refine j_iadd E dX7_place_86 ?_
                    refine j_bipush (v := 16) E dX7_place_87 (by decide) ?_
                    refine j_aload_n E dX7_place_89 rfl rfl ?_
                    refine j_getP (ci := 7) (k := 2) (Cn := RX7) (T := TX7) (N := 34) E dX7_place_90 hm1 hm2 rfl (by decide) hinX7 (by decide +kernel) rfl mp2 ?_
                    refine j_iload_n E dX7_place_93 rfl rfl ?_
                    refine j_iald E dX7_place_94 ml2 mn2 rfl (by decide) (by decide) mk2 ?_
                    try simp only [pI_m hinj, pF_m hinj, pI_2, pF_1, Nat.reduceEqDiff, Nat.reduceLT, Nat.reduceLeDiff, eq_self, ↓reduceIte]
                    refine j_imul E dX7_place_95 ?_
                    refine j_iadd E dX7_place_96 ?_
                    exact j_iret E dX7_place_97 (by simp [mPl, mT1, h8, h23, h33, h47, h62, h77]) rfl (by simp [mPl, mT1, h8, h23, h33, h47, h62, h77])
                  · refine j_bipush (v := 8) E dX7_place_80 (by decide) ?_
                    refine j_goto (tgt := 86) E dX7_place_82 (by decide) ?_
                    refine j_iadd E dX7_place_86 ?_
                    refine j_bipush (v := 16) E dX7_place_87 (by decide) ?_
                    refine j_aload_n E dX7_place_89 rfl rfl ?_
                    refine j_getP (ci := 7) (k := 2) (Cn := RX7) (T := TX7) (N := 34) E dX7_place_90 hm1 hm2 rfl (by decide) hinX7 (by decide +kernel) rfl mp2 ?_
                    refine j_iload_n E dX7_place_93 rfl rfl ?_
                    refine j_iald E dX7_place_94 ml2 mn2 rfl (by decide) (by decide) mk2 ?_
                    try simp only [pI_m hinj, pF_m hinj, pI_2, pF_1, Nat.reduceEqDiff, Nat.reduceLT, Nat.reduceLeDiff, eq_self, ↓reduceIte]
                    refine j_imul E dX7_place_95 ?_
                    refine j_iadd E dX7_place_96 ?_
                    exact j_iret E dX7_place_97 (by simp [mPl, mT1, h8, h23, h33, h47, h62, h77]) rfl (by simp [mPl, mT1, h8, h23, h33, h47, h62, h77])
              · refine j_iconst (v := 2) E dX7_place_50 (by decide) ?_
                refine j_goto (tgt := 55) E dX7_place_51 (by decide) ?_
                refine j_iadd E dX7_place_55 ?_
                refine j_aload_n E dX7_place_56 rfl rfl ?_
                refine j_getP (ci := 7) (k := 11) (Cn := RX7) (T := TX7) (N := 34) E dX7_place_57 hm1 hm2 rfl (by decide) hinX7 (by decide +kernel) rfl mp11 ?_
                refine j_iload_n E dX7_place_60 rfl rfl ?_
                refine j_zald E dX7_place_61 ml11 mn11 rfl (by decide) (by decide) mk11 ?_
                try simp only [pI_m hinj, pF_m hinj, pI_2, pF_1, Nat.reduceEqDiff, Nat.reduceLT, Nat.reduceLeDiff, eq_self, ↓reduceIte]
                refine j_if_eq (tgt := 69) E dX7_place_62 (by decide) (fun h62 => ?_) (fun h62 => ?_)
                · refine j_iconst (v := 0) E dX7_place_69 (by decide) ?_
                  refine j_iadd E dX7_place_70 ?_
                  refine j_aload_n E dX7_place_71 rfl rfl ?_
                  refine j_getP (ci := 7) (k := 12) (Cn := RX7) (T := TX7) (N := 34) E dX7_place_72 hm1 hm2 rfl (by decide) hinX7 (by decide +kernel) rfl mp12 ?_
                  refine j_iload_n E dX7_place_75 rfl rfl ?_
                  refine j_zald E dX7_place_76 ml12 mn12 rfl (by decide) (by decide) mk12 ?_
                  try simp only [pI_m hinj, pF_m hinj, pI_2, pF_1, Nat.reduceEqDiff, Nat.reduceLT, Nat.reduceLeDiff, eq_self, ↓reduceIte]
                  refine j_if_eq (tgt := 85) E dX7_place_77 (by decide) (fun h77 => ?_) (fun h77 => ?_)
                  · refine j_iconst (v := 0) E dX7_place_85 (by decide) ?_
                    refine j_iadd E dX7_place_86 ?_
                    refine j_bipush (v := 16) E dX7_place_87 (by decide) ?_
                    refine j_aload_n E dX7_place_89 rfl rfl ?_
                    refine j_getP (ci := 7) (k := 2) (Cn := RX7) (T := TX7) (N := 34) E dX7_place_90 hm1 hm2 rfl (by decide) hinX7 (by decide +kernel) rfl mp2 ?_
                    refine j_iload_n E dX7_place_93 rfl rfl ?_
                    refine j_iald E dX7_place_94 ml2 mn2 rfl (by decide) (by decide) mk2 ?_
                    try simp only [pI_m hinj, pF_m hinj, pI_2, pF_1, Nat.reduceEqDiff, Nat.reduceLT, Nat.reduceLeDiff, eq_self, ↓reduceIte]
                    refine j_imul E dX7_place_95 ?_
                    refine j_iadd E dX7_place_96 ?_
                    exact j_iret E dX7_place_97 (by simp [mPl, mT1, h8, h23, h33, h47, h62, h77]) rfl (by simp [mPl, mT1, h8, h23, h33, h47, h62, h77])
                  · refine j_bipush (v := 8) E dX7_place_80 (by decide) ?_
                    refine j_goto (tgt := 86) E dX7_place_82 (by decide) ?_
                    refine j_iadd E dX7_place_86 ?_
                    refine j_bipush (v := 16) E dX7_place_87 (by decide) ?_
                    refine j_aload_n E dX7_place_89 rfl rfl ?_
                    refine j_getP (ci := 7) (k := 2) (Cn := RX7) (T := TX7) (N := 34) E dX7_place_90 hm1 hm2 rfl (by decide) hinX7 (by decide +kernel) rfl mp2 ?_
                    refine j_iload_n E dX7_place_93 rfl rfl ?_
                    refine j_iald E dX7_place_94 ml2 mn2 rfl (by decide) (by decide) mk2 ?_
                    try simp only [pI_m hinj, pF_m hinj, pI_2, pF_1, Nat.reduceEqDiff, Nat.reduceLT, Nat.reduceLeDiff, eq_self, ↓reduceIte]
                    refine j_imul E dX7_place_95 ?_
                    refine j_iadd E dX7_place_96 ?_
                    exact j_iret E dX7_place_97 (by simp [mPl, mT1, h8, h23, h33, h47, h62, h77]) rfl (by simp [mPl, mT1, h8, h23, h33, h47, h62, h77])
                · refine j_iconst (v := 4) E dX7_place_65 (by decide) ?_
                  refine j_goto (tgt := 70) E dX7_place_66 (by decide) ?_
                  refine j_iadd E dX7_place_70 ?_
                  refine j_aload_n E dX7_place_71 rfl rfl ?_
                  refine j_getP (ci := 7) (k := 12) (Cn := RX7) (T := TX7) (N := 34) E dX7_place_72 hm1 hm2 rfl (by decide) hinX7 (by decide +kernel) rfl mp12 ?_
                  refine j_iload_n E dX7_place_75 rfl rfl ?_
                  refine j_zald E dX7_place_76 ml12 mn12 rfl (by decide) (by decide) mk12 ?_
                  try simp only [pI_m hinj, pF_m hinj, pI_2, pF_1, Nat.reduceEqDiff, Nat.reduceLT, Nat.reduceLeDiff, eq_self, ↓reduceIte]
                  refine j_if_eq (tgt := 85) E dX7_place_77 (by decide) (fun h77 => ?_) (fun h77 => ?_)
                  · refine j_iconst (v := 0) E dX7_place_85 (by decide) ?_
                    refine j_iadd E dX7_place_86 ?_
                    refine j_bipush (v := 16) E dX7_place_87 (by decide) ?_
                    refine j_aload_n E dX7_place_89 rfl rfl ?_
                    refine j_getP (ci := 7) (k := 2) (Cn := RX7) (T := TX7) (N := 34) E dX7_place_90 hm1 hm2 rfl (by decide) hinX7 (by decide +kernel) rfl mp2 ?_
                    refine j_iload_n E dX7_place_93 rfl rfl ?_
                    refine j_iald E dX7_place_94 ml2 mn2 rfl (by decide) (by decide) mk2 ?_
                    try simp only [pI_m hinj, pF_m hinj, pI_2, pF_1, Nat.reduceEqDiff, Nat.reduceLT, Nat.reduceLeDiff, eq_self, ↓reduceIte]
                    refine j_imul E dX7_place_95 ?_
                    refine j_iadd E dX7_place_96 ?_
                    exact j_iret E dX7_place_97 (by simp [mPl, mT1, h8, h23, h33, h47, h62, h77]) rfl (by simp [mPl, mT1, h8, h23, h33, h47, h62, h77])
                  · refine j_bipush (v := 8) E dX7_place_80 (by decide) ?_
                    refine j_goto (tgt := 86) E dX7_place_82 (by decide) ?_
                    refine j_iadd E dX7_place_86 ?_
                    refine j_bipush (v := 16) E dX7_place_87 (by decide) ?_
                    refine j_aload_n E dX7_place_89 rfl rfl ?_
                    refine j_getP (ci := 7) (k := 2) (Cn := RX7) (T := TX7) (N := 34) E dX7_place_90 hm1 hm2 rfl (by decide) hinX7 (by decide +kernel) rfl mp2 ?_
                    refine j_iload_n E dX7_place_93 rfl rfl ?_
                    refine j_iald E dX7_place_94 ml2 mn2 rfl (by decide) (by decide) mk2 ?_
                    try simp only [pI_m hinj, pF_m hinj, pI_2, pF_1, Nat.reduceEqDiff, Nat.reduceLT, Nat.reduceLeDiff, eq_self, ↓reduceIte]
                    refine j_imul E dX7_place_95 ?_
                    refine j_iadd E dX7_place_96 ?_
                    exact j_iret E dX7_place_97 (by simp [mPl, mT1, h8, h23, h33, h47, h62, h77]) rfl (by simp [mPl, mT1, h8, h23, h33, h47, h62, h77])
            · refine j_iconst (v := 1) E dX7_place_36 (by decide) ?_
              refine j_goto (tgt := 41) E dX7_place_37 (by decide) ?_
              refine j_aload_n E dX7_place_41 rfl rfl ?_
              refine j_getP (ci := 7) (k := 9) (Cn := RX7) (T := TX7) (N := 34) E dX7_place_42 hm1 hm2 rfl (by decide) hinX7 (by decide +kernel) rfl mp9 ?_
              refine j_iload_n E dX7_place_45 rfl rfl ?_
              refine j_zald E dX7_place_46 ml9 mn9 rfl (by decide) (by decide) mk9 ?_
              try simp only [pI_m hinj, pF_m hinj, pI_2, pF_1, Nat.reduceEqDiff, Nat.reduceLT, Nat.reduceLeDiff, eq_self, ↓reduceIte]
              refine j_if_eq (tgt := 54) E dX7_place_47 (by decide) (fun h47 => ?_) (fun h47 => ?_)
              · refine j_iconst (v := 0) E dX7_place_54 (by decide) ?_
                refine j_iadd E dX7_place_55 ?_
                refine j_aload_n E dX7_place_56 rfl rfl ?_
                refine j_getP (ci := 7) (k := 11) (Cn := RX7) (T := TX7) (N := 34) E dX7_place_57 hm1 hm2 rfl (by decide) hinX7 (by decide +kernel) rfl mp11 ?_
                refine j_iload_n E dX7_place_60 rfl rfl ?_
                refine j_zald E dX7_place_61 ml11 mn11 rfl (by decide) (by decide) mk11 ?_
                try simp only [pI_m hinj, pF_m hinj, pI_2, pF_1, Nat.reduceEqDiff, Nat.reduceLT, Nat.reduceLeDiff, eq_self, ↓reduceIte]
                refine j_if_eq (tgt := 69) E dX7_place_62 (by decide) (fun h62 => ?_) (fun h62 => ?_)
                · refine j_iconst (v := 0) E dX7_place_69 (by decide) ?_
                  refine j_iadd E dX7_place_70 ?_
                  refine j_aload_n E dX7_place_71 rfl rfl ?_
                  refine j_getP (ci := 7) (k := 12) (Cn := RX7) (T := TX7) (N := 34) E dX7_place_72 hm1 hm2 rfl (by decide) hinX7 (by decide +kernel) rfl mp12 ?_
                  refine j_iload_n E dX7_place_75 rfl rfl ?_
                  refine j_zald E dX7_place_76 ml12 mn12 rfl (by decide) (by decide) mk12 ?_
                  try simp only [pI_m hinj, pF_m hinj, pI_2, pF_1, Nat.reduceEqDiff, Nat.reduceLT, Nat.reduceLeDiff, eq_self, ↓reduceIte]
                  refine j_if_eq (tgt := 85) E dX7_place_77 (by decide) (fun h77 => ?_) (fun h77 => ?_)
                  · refine j_iconst (v := 0) E dX7_place_85 (by decide) ?_
                    refine j_iadd E dX7_place_86 ?_
                    refine j_bipush (v := 16) E dX7_place_87 (by decide) ?_
                    refine j_aload_n E dX7_place_89 rfl rfl ?_
                    refine j_getP (ci := 7) (k := 2) (Cn := RX7) (T := TX7) (N := 34) E dX7_place_90 hm1 hm2 rfl (by decide) hinX7 (by decide +kernel) rfl mp2 ?_
                    refine j_iload_n E dX7_place_93 rfl rfl ?_
                    refine j_iald E dX7_place_94 ml2 mn2 rfl (by decide) (by decide) mk2 ?_
                    try simp only [pI_m hinj, pF_m hinj, pI_2, pF_1, Nat.reduceEqDiff, Nat.reduceLT, Nat.reduceLeDiff, eq_self, ↓reduceIte]
                    refine j_imul E dX7_place_95 ?_
                    refine j_iadd E dX7_place_96 ?_
                    exact j_iret E dX7_place_97 (by simp [mPl, mT1, h8, h23, h33, h47, h62, h77]) rfl (by simp [mPl, mT1, h8, h23, h33, h47, h62, h77])
                  · refine j_bipush (v := 8) E dX7_place_80 (by decide) ?_
                    refine j_goto (tgt := 86) E dX7_place_82 (by decide) ?_
                    refine j_iadd E dX7_place_86 ?_
                    refine j_bipush (v := 16) E dX7_place_87 (by decide) ?_
                    refine j_aload_n E dX7_place_89 rfl rfl ?_
                    refine j_getP (ci := 7) (k := 2) (Cn := RX7) (T := TX7) (N := 34) E dX7_place_90 hm1 hm2 rfl (by decide) hinX7 (by decide +kernel) rfl mp2 ?_
                    refine j_iload_n E dX7_place_93 rfl rfl ?_
                    refine j_iald E dX7_place_94 ml2 mn2 rfl (by decide) (by decide) mk2 ?_
                    try simp only [pI_m hinj, pF_m hinj, pI_2, pF_1, Nat.reduceEqDiff, Nat.reduceLT, Nat.reduceLeDiff, eq_self, ↓reduceIte]
                    refine j_imul E dX7_place_95 ?_
                    refine j_iadd E dX7_place_96 ?_
                    exact j_iret E dX7_place_97 (by simp [mPl, mT1, h8, h23, h33, h47, h62, h77]) rfl (by simp [mPl, mT1, h8, h23, h33, h47, h62, h77])
                · refine j_iconst (v := 4) E dX7_place_65 (by decide) ?_
                  refine j_goto (tgt := 70) E dX7_place_66 (by decide) ?_
                  refine j_iadd E dX7_place_70 ?_
                  refine j_aload_n E dX7_place_71 rfl rfl ?_
                  refine j_getP (ci := 7) (k := 12) (Cn := RX7) (T := TX7) (N := 34) E dX7_place_72 hm1 hm2 rfl (by decide) hinX7 (by decide +kernel) rfl mp12 ?_
                  refine j_iload_n E dX7_place_75 rfl rfl ?_
                  refine j_zald E dX7_place_76 ml12 mn12 rfl (by decide) (by decide) mk12 ?_
                  try simp only [pI_m hinj, pF_m hinj, pI_2, pF_1, Nat.reduceEqDiff, Nat.reduceLT, Nat.reduceLeDiff, eq_self, ↓reduceIte]
                  refine j_if_eq (tgt := 85) E dX7_place_77 (by decide) (fun h77 => ?_) (fun h77 => ?_)
                  · refine j_iconst (v := 0) E dX7_place_85 (by decide) ?_
                    refine j_iadd E dX7_place_86 ?_
                    refine j_bipush (v := 16) E dX7_place_87 (by decide) ?_
                    refine j_aload_n E dX7_place_89 rfl rfl ?_
                    refine j_getP (ci := 7) (k := 2) (Cn := RX7) (T := TX7) (N := 34) E dX7_place_90 hm1 hm2 rfl (by decide) hinX7 (by decide +kernel) rfl mp2 ?_
                    refine j_iload_n E dX7_place_93 rfl rfl ?_
                    refine j_iald E dX7_place_94 ml2 mn2 rfl (by decide) (by decide) mk2 ?_
                    try simp only [pI_m hinj, pF_m hinj, pI_2, pF_1, Nat.reduceEqDiff, Nat.reduceLT, Nat.reduceLeDiff, eq_self, ↓reduceIte]
                    refine j_imul E dX7_place_95 ?_
                    refine j_iadd E dX7_place_96 ?_
                    exact j_iret E dX7_place_97 (by simp [mPl, mT1, h8, h23, h33, h47, h62, h77]) rfl (by simp [mPl, mT1, h8, h23, h33, h47, h62, h77])
                  · refine j_bipush (v := 8) E dX7_place_80 (by decide) ?_
                    refine j_goto (tgt := 86) E dX7_place_82 (by decide) ?_
                    refine j_iadd E dX7_place_86 ?_
                    refine j_bipush (v := 16) E dX7_place_87 (by decide) ?_
                    refine j_aload_n E dX7_place_89 rfl rfl ?_
                    refine j_getP (ci := 7) (k := 2) (Cn := RX7) (T := TX7) (N := 34) E dX7_place_90 hm1 hm2 rfl (by decide) hinX7 (by decide +kernel) rfl mp2 ?_
                    refine j_iload_n E dX7_place_93 rfl rfl ?_
                    refine j_iald E dX7_place_94 ml2 mn2 rfl (by decide) (by decide) mk2 ?_
                    try simp only [pI_m hinj, pF_m hinj, pI_2, pF_1, Nat.reduceEqDiff, Nat.reduceLT, Nat.reduceLeDiff, eq_self, ↓reduceIte]
                    refine j_imul E dX7_place_95 ?_
                    refine j_iadd E dX7_place_96 ?_
                    exact j_iret E dX7_place_97 (by simp [mPl, mT1, h8, h23, h33, h47, h62, h77]) rfl (by simp [mPl, mT1, h8, h23, h33, h47, h62, h77])
              · refine j_iconst (v := 2) E dX7_place_50 (by decide) ?_
                refine j_goto (tgt := 55) E dX7_place_51 (by decide) ?_
                refine j_iadd E dX7_place_55 ?_
                refine j_aload_n E dX7_place_56 rfl rfl ?_
                refine j_getP (ci := 7) (k := 11) (Cn := RX7) (T := TX7) (N := 34) E dX7_place_57 hm1 hm2 rfl (by decide) hinX7 (by decide +kernel) rfl mp11 ?_
                refine j_iload_n E dX7_place_60 rfl rfl ?_
                refine j_zald E dX7_place_61 ml11 mn11 rfl (by decide) (by decide) mk11 ?_
                try simp only [pI_m hinj, pF_m hinj, pI_2, pF_1, Nat.reduceEqDiff, Nat.reduceLT, Nat.reduceLeDiff, eq_self, ↓reduceIte]
                refine j_if_eq (tgt := 69) E dX7_place_62 (by decide) (fun h62 => ?_) (fun h62 => ?_)
                · refine j_iconst (v := 0) E dX7_place_69 (by decide) ?_
                  refine j_iadd E dX7_place_70 ?_
                  refine j_aload_n E dX7_place_71 rfl rfl ?_
                  refine j_getP (ci := 7) (k := 12) (Cn := RX7) (T := TX7) (N := 34) E dX7_place_72 hm1 hm2 rfl (by decide) hinX7 (by decide +kernel) rfl mp12 ?_
                  refine j_iload_n E dX7_place_75 rfl rfl ?_
                  refine j_zald E dX7_place_76 ml12 mn12 rfl (by decide) (by decide) mk12 ?_
                  try simp only [pI_m hinj, pF_m hinj, pI_2, pF_1, Nat.reduceEqDiff, Nat.reduceLT, Nat.reduceLeDiff, eq_self, ↓reduceIte]
                  refine j_if_eq (tgt := 85) E dX7_place_77 (by decide) (fun h77 => ?_) (fun h77 => ?_)
                  · refine j_iconst (v := 0) E dX7_place_85 (by decide) ?_
                    refine j_iadd E dX7_place_86 ?_
                    refine j_bipush (v := 16) E dX7_place_87 (by decide) ?_
                    refine j_aload_n E dX7_place_89 rfl rfl ?_
                    refine j_getP (ci := 7) (k := 2) (Cn := RX7) (T := TX7) (N := 34) E dX7_place_90 hm1 hm2 rfl (by decide) hinX7 (by decide +kernel) rfl mp2 ?_
                    refine j_iload_n E dX7_place_93 rfl rfl ?_
                    refine j_iald E dX7_place_94 ml2 mn2 rfl (by decide) (by decide) mk2 ?_
                    try simp only [pI_m hinj, pF_m hinj, pI_2, pF_1, Nat.reduceEqDiff, Nat.reduceLT, Nat.reduceLeDiff, eq_self, ↓reduceIte]
                    refine j_imul E dX7_place_95 ?_
                    refine j_iadd E dX7_place_96 ?_
                    exact j_iret E dX7_place_97 (by simp [mPl, mT1, h8, h23, h33, h47, h62, h77]) rfl (by simp [mPl, mT1, h8, h23, h33, h47, h62, h77])
                  · refine j_bipush (v := 8) E dX7_place_80 (by decide) ?_
                    refine j_goto (tgt := 86) E dX7_place_82 (by decide) ?_
                    refine j_iadd E dX7_place_86 ?_
                    refine j_bipush (v := 16) E dX7_place_87 (by decide) ?_
                    refine j_aload_n E dX7_place_89 rfl rfl ?_
                    refine j_getP (ci := 7) (k := 2) (Cn := RX7) (T := TX7) (N := 34) E dX7_place_90 hm1 hm2 rfl (by decide) hinX7 (by decide +kernel) rfl mp2 ?_
                    refine j_iload_n E dX7_place_93 rfl rfl ?_
                    refine j_iald E dX7_place_94 ml2 mn2 rfl (by decide) (by decide) mk2 ?_
                    try simp only [pI_m hinj, pF_m hinj, pI_2, pF_1, Nat.reduceEqDiff, Nat.reduceLT, Nat.reduceLeDiff, eq_self, ↓reduceIte]
                    refine j_imul E dX7_place_95 ?_
                    refine j_iadd E dX7_place_96 ?_
                    exact j_iret E dX7_place_97 (by simp [mPl, mT1, h8, h23, h33, h47, h62, h77]) rfl (by simp [mPl, mT1, h8, h23, h33, h47, h62, h77])
                · refine j_iconst (v := 4) E dX7_place_65 (by decide) ?_
                  refine j_goto (tgt := 70) E dX7_place_66 (by decide) ?_
                  refine j_iadd E dX7_place_70 ?_
                  refine j_aload_n E dX7_place_71 rfl rfl ?_
                  refine j_getP (ci := 7) (k := 12) (Cn := RX7) (T := TX7) (N := 34) E dX7_place_72 hm1 hm2 rfl (by decide) hinX7 (by decide +kernel) rfl mp12 ?_
                  refine j_iload_n E dX7_place_75 rfl rfl ?_
                  refine j_zald E dX7_place_76 ml12 mn12 rfl (by decide) (by decide) mk12 ?_
                  try simp only [pI_m hinj, pF_m hinj, pI_2, pF_1, Nat.reduceEqDiff, Nat.reduceLT, Nat.reduceLeDiff, eq_self, ↓reduceIte]
                  refine j_if_eq (tgt := 85) E dX7_place_77 (by decide) (fun h77 => ?_) (fun h77 => ?_)
                  · refine j_iconst (v := 0) E dX7_place_85 (by decide) ?_
                    refine j_iadd E dX7_place_86 ?_
                    refine j_bipush (v := 16) E dX7_place_87 (by decide) ?_
                    refine j_aload_n E dX7_place_89 rfl rfl ?_
                    refine j_getP (ci := 7) (k := 2) (Cn := RX7) (T := TX7) (N := 34) E dX7_place_90 hm1 hm2 rfl (by decide) hinX7 (by decide +kernel) rfl mp2 ?_
                    refine j_iload_n E dX7_place_93 rfl rfl ?_
                    refine j_iald E dX7_place_94 ml2 mn2 rfl (by decide) (by decide) mk2 ?_
                    try simp only [pI_m hinj, pF_m hinj, pI_2, pF_1, Nat.reduceEqDiff, Nat.reduceLT, Nat.reduceLeDiff, eq_self, ↓reduceIte]
                    refine j_imul E dX7_place_95 ?_
                    refine j_iadd E dX7_place_96 ?_
                    exact j_iret E dX7_place_97 (by simp [mPl, mT1, h8, h23, h33, h47, h62, h77]) rfl (by simp [mPl, mT1, h8, h23, h33, h47, h62, h77])
                  · refine j_bipush (v := 8) E dX7_place_80 (by decide) ?_
                    refine j_goto (tgt := 86) E dX7_place_82 (by decide) ?_
                    refine j_iadd E dX7_place_86 ?_
                    refine j_bipush (v := 16) E dX7_place_87 (by decide) ?_
                    refine j_aload_n E dX7_place_89 rfl rfl ?_
                    refine j_getP (ci := 7) (k := 2) (Cn := RX7) (T := TX7) (N := 34) E dX7_place_90 hm1 hm2 rfl (by decide) hinX7 (by decide +kernel) rfl mp2 ?_
                    refine j_iload_n E dX7_place_93 rfl rfl ?_
                    refine j_iald E dX7_place_94 ml2 mn2 rfl (by decide) (by decide) mk2 ?_
                    try simp only [pI_m hinj, pF_m hinj, pI_2, pF_1, Nat.reduceEqDiff, Nat.reduceLT, Nat.reduceLeDiff, eq_self, ↓reduceIte]
                    refine j_imul E dX7_place_95 ?_
                    refine j_iadd E dX7_place_96 ?_
                    exact j_iret E dX7_place_97 (by simp [mPl, mT1, h8, h23, h33, h47, h62, h77]) rfl (by simp [mPl, mT1, h8, h23, h33, h47, h62, h77])
          )
      · first
        | exact absurd h23 (by decide)
        | exact absurd (by decide) h23
        | (
            refine j_iconst (v := 0) E dX7_place_26 (by decide) ?_
            exact j_iret E dX7_place_27 (by simp [mPl, mT1, h8, h23]) rfl (by simp [mPl, mT1, h8, h23])
          )
    · exact absurd hb h8
  · obtain ⟨j, hj, rfl⟩ : ∃ j : Nat, j < 16 ∧ p = nI j := ⟨_, (ix01 (n := 15) hb (by decide)).2, (ix01 (n := 15) hb (by decide)).1⟩
    have hre : mReach (pI M (m 0) 0 0) m j = mReach M m j := mReach_ok (pI0 hinj M 0 0 1 (by decide) (by decide)) (pI0 hinj M 0 0 2 (by decide) (by decide)) j
    have hcl : (nI j).toNatClampNeg = j := nI_clamp (by omega)
    refine j_aload_n E dX7_place_0 rfl rfl ?_
    refine j_iload_n E dX7_place_1 rfl rfl ?_
    refine j_iconst (v := 0) E dX7_place_2 (by decide) ?_
    refine j_bipush (v := 15) E dX7_place_3 (by decide) ?_
    refine j_callS1 (n := 3) E (k_X7_in ) dX7_place_5 gX7_place_X7_in rfl (by decide +kernel) ⟨rfl, rfl, by decide, by decide⟩ ⟨Nat.zero_le _, Nat.zero_le _⟩ rfl rfl (Nat.le_of_ble_eq_true rfl) rfl ?_
    refine j_if_eq (tgt := 15) E dX7_place_8 (by decide) (fun h8 => ?_) (fun h8 => ?_)
    · exact absurd h8 hb
    · refine j_iconst (v := 0) E dX7_place_11 (by decide) ?_
      refine j_goto (tgt := 16) E dX7_place_12 (by decide) ?_
      refine j_putI (ci := 7) (k := 0) (Cn := RX7) (T := TX7) (N := 34) E dX7_place_16 hm1 hm2 rfl (by decide) hinX7 (by decide +kernel) rfl tyX7 tyX7_ok nmX7 rfl rfl rfl rfl ?_
      refine j_aload_n E dX7_place_19 rfl rfl ?_
      refine j_getI (ci := 7) (k := 0) (Cn := RX7) (T := TX7) (N := 34) E dX7_place_20 hm1 hm2 rfl (by decide) hinX7 (by decide +kernel) rfl ?_
      try simp only [pI_m hinj, pF_m hinj, pI_2, pF_1, Nat.reduceEqDiff, Nat.reduceLT, Nat.reduceLeDiff, eq_self, ↓reduceIte]
      refine j_if_le (tgt := 28) E dX7_place_23 (by decide) (fun h23 => ?_) (fun h23 => ?_)
      · first
        | exact absurd h23 (by decide)
        | exact absurd (by decide) h23
        | (
            refine j_aload_n E dX7_place_28 rfl rfl ?_
            refine j_iload_n E dX7_place_29 rfl rfl ?_
            refine j_callV1 (ci := 7) (n := 1) E (k_X7_reached hM0 hj) dX7_place_30 gX7_place_X7_reached rfl (by decide +kernel) ⟨rfl, rfl, by decide, by decide⟩ ⟨Nat.zero_le _, Nat.zero_le _⟩ hm1 hm2 rfl rfl rfl (Nat.le_of_ble_eq_true rfl) rfl ?_
            refine j_if_eq (tgt := 40) E dX7_place_33 (by decide) (fun h33 => ?_) (fun h33 => ?_)
            · rw [hre] at h33
              refine j_iconst (v := 0) E dX7_place_40 (by decide) ?_
              refine j_aload_n E dX7_place_41 rfl rfl ?_
              refine j_getP (ci := 7) (k := 9) (Cn := RX7) (T := TX7) (N := 34) E dX7_place_42 hm1 hm2 rfl (by decide) hinX7 (by decide +kernel) rfl mp9 ?_
              refine j_iload_n E dX7_place_45 rfl rfl ?_
              refine j_zald E dX7_place_46 ml9 mn9 rfl hj (by decide) mk9 ?_
              try simp only [pI_m hinj, pF_m hinj, pI_2, pF_1, Nat.reduceEqDiff, Nat.reduceLT, Nat.reduceLeDiff, eq_self, ↓reduceIte]
              refine j_if_eq (tgt := 54) E dX7_place_47 (by decide) (fun h47 => ?_) (fun h47 => ?_)
              · refine j_iconst (v := 0) E dX7_place_54 (by decide) ?_
                refine j_iadd E dX7_place_55 ?_
                refine j_aload_n E dX7_place_56 rfl rfl ?_
                refine j_getP (ci := 7) (k := 11) (Cn := RX7) (T := TX7) (N := 34) E dX7_place_57 hm1 hm2 rfl (by decide) hinX7 (by decide +kernel) rfl mp11 ?_
                refine j_iload_n E dX7_place_60 rfl rfl ?_
                refine j_zald E dX7_place_61 ml11 mn11 rfl hj (by decide) mk11 ?_
                try simp only [pI_m hinj, pF_m hinj, pI_2, pF_1, Nat.reduceEqDiff, Nat.reduceLT, Nat.reduceLeDiff, eq_self, ↓reduceIte]
                refine j_if_eq (tgt := 69) E dX7_place_62 (by decide) (fun h62 => ?_) (fun h62 => ?_)
                · refine j_iconst (v := 0) E dX7_place_69 (by decide) ?_
                  refine j_iadd E dX7_place_70 ?_
                  refine j_aload_n E dX7_place_71 rfl rfl ?_
                  refine j_getP (ci := 7) (k := 12) (Cn := RX7) (T := TX7) (N := 34) E dX7_place_72 hm1 hm2 rfl (by decide) hinX7 (by decide +kernel) rfl mp12 ?_
                  refine j_iload_n E dX7_place_75 rfl rfl ?_
                  refine j_zald E dX7_place_76 ml12 mn12 rfl hj (by decide) mk12 ?_
                  try simp only [pI_m hinj, pF_m hinj, pI_2, pF_1, Nat.reduceEqDiff, Nat.reduceLT, Nat.reduceLeDiff, eq_self, ↓reduceIte]
                  refine j_if_eq (tgt := 85) E dX7_place_77 (by decide) (fun h77 => ?_) (fun h77 => ?_)
                  · refine j_iconst (v := 0) E dX7_place_85 (by decide) ?_
                    refine j_iadd E dX7_place_86 ?_
                    refine j_bipush (v := 16) E dX7_place_87 (by decide) ?_
                    refine j_aload_n E dX7_place_89 rfl rfl ?_
                    refine j_getP (ci := 7) (k := 2) (Cn := RX7) (T := TX7) (N := 34) E dX7_place_90 hm1 hm2 rfl (by decide) hinX7 (by decide +kernel) rfl mp2 ?_
                    refine j_iload_n E dX7_place_93 rfl rfl ?_
                    refine j_iald E dX7_place_94 ml2 mn2 rfl hj (by decide) mk2 ?_
                    try simp only [pI_m hinj, pF_m hinj, pI_2, pF_1, Nat.reduceEqDiff, Nat.reduceLT, Nat.reduceLeDiff, eq_self, ↓reduceIte]
                    refine j_imul E dX7_place_95 ?_
                    refine j_iadd E dX7_place_96 ?_
                    exact j_iret E dX7_place_97 (by simp [mPl, mT1, hcl, h8, h23, h33, h47, h62, h77]) rfl (by simp [mPl, mT1, hcl, h8, h23, h33, h47, h62, h77])
                  · refine j_bipush (v := 8) E dX7_place_80 (by decide) ?_
                    refine j_goto (tgt := 86) E dX7_place_82 (by decide) ?_
                    refine j_iadd E dX7_place_86 ?_
                    refine j_bipush (v := 16) E dX7_place_87 (by decide) ?_
                    refine j_aload_n E dX7_place_89 rfl rfl ?_
                    refine j_getP (ci := 7) (k := 2) (Cn := RX7) (T := TX7) (N := 34) E dX7_place_90 hm1 hm2 rfl (by decide) hinX7 (by decide +kernel) rfl mp2 ?_
                    refine j_iload_n E dX7_place_93 rfl rfl ?_
                    refine j_iald E dX7_place_94 ml2 mn2 rfl hj (by decide) mk2 ?_
                    try simp only [pI_m hinj, pF_m hinj, pI_2, pF_1, Nat.reduceEqDiff, Nat.reduceLT, Nat.reduceLeDiff, eq_self, ↓reduceIte]
                    refine j_imul E dX7_place_95 ?_
                    refine j_iadd E dX7_place_96 ?_
                    exact j_iret E dX7_place_97 (by simp [mPl, mT1, hcl, h8, h23, h33, h47, h62, h77]) rfl (by simp [mPl, mT1, hcl, h8, h23, h33, h47, h62, h77])
                · refine j_iconst (v := 4) E dX7_place_65 (by decide) ?_
                  refine j_goto (tgt := 70) E dX7_place_66 (by decide) ?_
                  refine j_iadd E dX7_place_70 ?_
                  refine j_aload_n E dX7_place_71 rfl rfl ?_
                  refine j_getP (ci := 7) (k := 12) (Cn := RX7) (T := TX7) (N := 34) E dX7_place_72 hm1 hm2 rfl (by decide) hinX7 (by decide +kernel) rfl mp12 ?_
                  refine j_iload_n E dX7_place_75 rfl rfl ?_
                  refine j_zald E dX7_place_76 ml12 mn12 rfl hj (by decide) mk12 ?_
                  try simp only [pI_m hinj, pF_m hinj, pI_2, pF_1, Nat.reduceEqDiff, Nat.reduceLT, Nat.reduceLeDiff, eq_self, ↓reduceIte]
                  refine j_if_eq (tgt := 85) E dX7_place_77 (by decide) (fun h77 => ?_) (fun h77 => ?_)
                  · refine j_iconst (v := 0) E dX7_place_85 (by decide) ?_
                    refine j_iadd E dX7_place_86 ?_
                    refine j_bipush (v := 16) E dX7_place_87 (by decide) ?_
                    refine j_aload_n E dX7_place_89 rfl rfl ?_
                    refine j_getP (ci := 7) (k := 2) (Cn := RX7) (T := TX7) (N := 34) E dX7_place_90 hm1 hm2 rfl (by decide) hinX7 (by decide +kernel) rfl mp2 ?_
                    refine j_iload_n E dX7_place_93 rfl rfl ?_
                    refine j_iald E dX7_place_94 ml2 mn2 rfl hj (by decide) mk2 ?_
                    try simp only [pI_m hinj, pF_m hinj, pI_2, pF_1, Nat.reduceEqDiff, Nat.reduceLT, Nat.reduceLeDiff, eq_self, ↓reduceIte]
                    refine j_imul E dX7_place_95 ?_
                    refine j_iadd E dX7_place_96 ?_
                    exact j_iret E dX7_place_97 (by simp [mPl, mT1, hcl, h8, h23, h33, h47, h62, h77]) rfl (by simp [mPl, mT1, hcl, h8, h23, h33, h47, h62, h77])
                  · refine j_bipush (v := 8) E dX7_place_80 (by decide) ?_
                    refine j_goto (tgt := 86) E dX7_place_82 (by decide) ?_
                    refine j_iadd E dX7_place_86 ?_
                    refine j_bipush (v := 16) E dX7_place_87 (by decide) ?_
                    refine j_aload_n E dX7_place_89 rfl rfl ?_
                    refine j_getP (ci := 7) (k := 2) (Cn := RX7) (T := TX7) (N := 34) E dX7_place_90 hm1 hm2 rfl (by decide) hinX7 (by decide +kernel) rfl mp2 ?_
                    refine j_iload_n E dX7_place_93 rfl rfl ?_
                    refine j_iald E dX7_place_94 ml2 mn2 rfl hj (by decide) mk2 ?_
                    try simp only [pI_m hinj, pF_m hinj, pI_2, pF_1, Nat.reduceEqDiff, Nat.reduceLT, Nat.reduceLeDiff, eq_self, ↓reduceIte]
                    refine j_imul E dX7_place_95 ?_
                    refine j_iadd E dX7_place_96 ?_
                    exact j_iret E dX7_place_97 (by simp [mPl, mT1, hcl, h8, h23, h33, h47, h62, h77]) rfl (by simp [mPl, mT1, hcl, h8, h23, h33, h47, h62, h77])
              · refine j_iconst (v := 2) E dX7_place_50 (by decide) ?_
                refine j_goto (tgt := 55) E dX7_place_51 (by decide) ?_
                refine j_iadd E dX7_place_55 ?_
                refine j_aload_n E dX7_place_56 rfl rfl ?_
                refine j_getP (ci := 7) (k := 11) (Cn := RX7) (T := TX7) (N := 34) E dX7_place_57 hm1 hm2 rfl (by decide) hinX7 (by decide +kernel) rfl mp11 ?_
                refine j_iload_n E dX7_place_60 rfl rfl ?_
                refine j_zald E dX7_place_61 ml11 mn11 rfl hj (by decide) mk11 ?_
                try simp only [pI_m hinj, pF_m hinj, pI_2, pF_1, Nat.reduceEqDiff, Nat.reduceLT, Nat.reduceLeDiff, eq_self, ↓reduceIte]
                refine j_if_eq (tgt := 69) E dX7_place_62 (by decide) (fun h62 => ?_) (fun h62 => ?_)
                · refine j_iconst (v := 0) E dX7_place_69 (by decide) ?_
                  refine j_iadd E dX7_place_70 ?_
                  refine j_aload_n E dX7_place_71 rfl rfl ?_
                  refine j_getP (ci := 7) (k := 12) (Cn := RX7) (T := TX7) (N := 34) E dX7_place_72 hm1 hm2 rfl (by decide) hinX7 (by decide +kernel) rfl mp12 ?_
                  refine j_iload_n E dX7_place_75 rfl rfl ?_
                  refine j_zald E dX7_place_76 ml12 mn12 rfl hj (by decide) mk12 ?_
                  try simp only [pI_m hinj, pF_m hinj, pI_2, pF_1, Nat.reduceEqDiff, Nat.reduceLT, Nat.reduceLeDiff, eq_self, ↓reduceIte]
                  refine j_if_eq (tgt := 85) E dX7_place_77 (by decide) (fun h77 => ?_) (fun h77 => ?_)
                  · refine j_iconst (v := 0) E dX7_place_85 (by decide) ?_
                    refine j_iadd E dX7_place_86 ?_
                    refine j_bipush (v := 16) E dX7_place_87 (by decide) ?_
                    refine j_aload_n E dX7_place_89 rfl rfl ?_
                    refine j_getP (ci := 7) (k := 2) (Cn := RX7) (T := TX7) (N := 34) E dX7_place_90 hm1 hm2 rfl (by decide) hinX7 (by decide +kernel) rfl mp2 ?_
                    refine j_iload_n E dX7_place_93 rfl rfl ?_
                    refine j_iald E dX7_place_94 ml2 mn2 rfl hj (by decide) mk2 ?_
                    try simp only [pI_m hinj, pF_m hinj, pI_2, pF_1, Nat.reduceEqDiff, Nat.reduceLT, Nat.reduceLeDiff, eq_self, ↓reduceIte]
                    refine j_imul E dX7_place_95 ?_
                    refine j_iadd E dX7_place_96 ?_
                    exact j_iret E dX7_place_97 (by simp [mPl, mT1, hcl, h8, h23, h33, h47, h62, h77]) rfl (by simp [mPl, mT1, hcl, h8, h23, h33, h47, h62, h77])
                  · refine j_bipush (v := 8) E dX7_place_80 (by decide) ?_
                    refine j_goto (tgt := 86) E dX7_place_82 (by decide) ?_
                    refine j_iadd E dX7_place_86 ?_
                    refine j_bipush (v := 16) E dX7_place_87 (by decide) ?_
                    refine j_aload_n E dX7_place_89 rfl rfl ?_
                    refine j_getP (ci := 7) (k := 2) (Cn := RX7) (T := TX7) (N := 34) E dX7_place_90 hm1 hm2 rfl (by decide) hinX7 (by decide +kernel) rfl mp2 ?_
                    refine j_iload_n E dX7_place_93 rfl rfl ?_
                    refine j_iald E dX7_place_94 ml2 mn2 rfl hj (by decide) mk2 ?_
                    try simp only [pI_m hinj, pF_m hinj, pI_2, pF_1, Nat.reduceEqDiff, Nat.reduceLT, Nat.reduceLeDiff, eq_self, ↓reduceIte]
                    refine j_imul E dX7_place_95 ?_
                    refine j_iadd E dX7_place_96 ?_
                    exact j_iret E dX7_place_97 (by simp [mPl, mT1, hcl, h8, h23, h33, h47, h62, h77]) rfl (by simp [mPl, mT1, hcl, h8, h23, h33, h47, h62, h77])
                · refine j_iconst (v := 4) E dX7_place_65 (by decide) ?_
                  refine j_goto (tgt := 70) E dX7_place_66 (by decide) ?_
                  refine j_iadd E dX7_place_70 ?_
                  refine j_aload_n E dX7_place_71 rfl rfl ?_
                  refine j_getP (ci := 7) (k := 12) (Cn := RX7) (T := TX7) (N := 34) E dX7_place_72 hm1 hm2 rfl (by decide) hinX7 (by decide +kernel) rfl mp12 ?_
                  refine j_iload_n E dX7_place_75 rfl rfl ?_
                  refine j_zald E dX7_place_76 ml12 mn12 rfl hj (by decide) mk12 ?_
                  try simp only [pI_m hinj, pF_m hinj, pI_2, pF_1, Nat.reduceEqDiff, Nat.reduceLT, Nat.reduceLeDiff, eq_self, ↓reduceIte]
                  refine j_if_eq (tgt := 85) E dX7_place_77 (by decide) (fun h77 => ?_) (fun h77 => ?_)
                  · refine j_iconst (v := 0) E dX7_place_85 (by decide) ?_
                    refine j_iadd E dX7_place_86 ?_
                    refine j_bipush (v := 16) E dX7_place_87 (by decide) ?_
                    refine j_aload_n E dX7_place_89 rfl rfl ?_
                    refine j_getP (ci := 7) (k := 2) (Cn := RX7) (T := TX7) (N := 34) E dX7_place_90 hm1 hm2 rfl (by decide) hinX7 (by decide +kernel) rfl mp2 ?_
                    refine j_iload_n E dX7_place_93 rfl rfl ?_
                    refine j_iald E dX7_place_94 ml2 mn2 rfl hj (by decide) mk2 ?_
                    try simp only [pI_m hinj, pF_m hinj, pI_2, pF_1, Nat.reduceEqDiff, Nat.reduceLT, Nat.reduceLeDiff, eq_self, ↓reduceIte]
                    refine j_imul E dX7_place_95 ?_
                    refine j_iadd E dX7_place_96 ?_
                    exact j_iret E dX7_place_97 (by simp [mPl, mT1, hcl, h8, h23, h33, h47, h62, h77]) rfl (by simp [mPl, mT1, hcl, h8, h23, h33, h47, h62, h77])
                  · refine j_bipush (v := 8) E dX7_place_80 (by decide) ?_
                    refine j_goto (tgt := 86) E dX7_place_82 (by decide) ?_
                    refine j_iadd E dX7_place_86 ?_
                    refine j_bipush (v := 16) E dX7_place_87 (by decide) ?_
                    refine j_aload_n E dX7_place_89 rfl rfl ?_
                    refine j_getP (ci := 7) (k := 2) (Cn := RX7) (T := TX7) (N := 34) E dX7_place_90 hm1 hm2 rfl (by decide) hinX7 (by decide +kernel) rfl mp2 ?_
                    refine j_iload_n E dX7_place_93 rfl rfl ?_
                    refine j_iald E dX7_place_94 ml2 mn2 rfl hj (by decide) mk2 ?_
                    try simp only [pI_m hinj, pF_m hinj, pI_2, pF_1, Nat.reduceEqDiff, Nat.reduceLT, Nat.reduceLeDiff, eq_self, ↓reduceIte]
                    refine j_imul E dX7_place_95 ?_
                    refine j_iadd E dX7_place_96 ?_
                    exact j_iret E dX7_place_97 (by simp [mPl, mT1, hcl, h8, h23, h33, h47, h62, h77]) rfl (by simp [mPl, mT1, hcl, h8, h23, h33, h47, h62, h77])
            · rw [hre] at h33
              refine j_iconst (v := 1) E dX7_place_36 (by decide) ?_
              refine j_goto (tgt := 41) E dX7_place_37 (by decide) ?_
              refine j_aload_n E dX7_place_41 rfl rfl ?_
              refine j_getP (ci := 7) (k := 9) (Cn := RX7) (T := TX7) (N := 34) E dX7_place_42 hm1 hm2 rfl (by decide) hinX7 (by decide +kernel) rfl mp9 ?_
              refine j_iload_n E dX7_place_45 rfl rfl ?_
              refine j_zald E dX7_place_46 ml9 mn9 rfl hj (by decide) mk9 ?_
              try simp only [pI_m hinj, pF_m hinj, pI_2, pF_1, Nat.reduceEqDiff, Nat.reduceLT, Nat.reduceLeDiff, eq_self, ↓reduceIte]
              refine j_if_eq (tgt := 54) E dX7_place_47 (by decide) (fun h47 => ?_) (fun h47 => ?_)
              · refine j_iconst (v := 0) E dX7_place_54 (by decide) ?_
                refine j_iadd E dX7_place_55 ?_
                refine j_aload_n E dX7_place_56 rfl rfl ?_
                refine j_getP (ci := 7) (k := 11) (Cn := RX7) (T := TX7) (N := 34) E dX7_place_57 hm1 hm2 rfl (by decide) hinX7 (by decide +kernel) rfl mp11 ?_
                refine j_iload_n E dX7_place_60 rfl rfl ?_
                refine j_zald E dX7_place_61 ml11 mn11 rfl hj (by decide) mk11 ?_
                try simp only [pI_m hinj, pF_m hinj, pI_2, pF_1, Nat.reduceEqDiff, Nat.reduceLT, Nat.reduceLeDiff, eq_self, ↓reduceIte]
                refine j_if_eq (tgt := 69) E dX7_place_62 (by decide) (fun h62 => ?_) (fun h62 => ?_)
                · refine j_iconst (v := 0) E dX7_place_69 (by decide) ?_
                  refine j_iadd E dX7_place_70 ?_
                  refine j_aload_n E dX7_place_71 rfl rfl ?_
                  refine j_getP (ci := 7) (k := 12) (Cn := RX7) (T := TX7) (N := 34) E dX7_place_72 hm1 hm2 rfl (by decide) hinX7 (by decide +kernel) rfl mp12 ?_
                  refine j_iload_n E dX7_place_75 rfl rfl ?_
                  refine j_zald E dX7_place_76 ml12 mn12 rfl hj (by decide) mk12 ?_
                  try simp only [pI_m hinj, pF_m hinj, pI_2, pF_1, Nat.reduceEqDiff, Nat.reduceLT, Nat.reduceLeDiff, eq_self, ↓reduceIte]
                  refine j_if_eq (tgt := 85) E dX7_place_77 (by decide) (fun h77 => ?_) (fun h77 => ?_)
                  · refine j_iconst (v := 0) E dX7_place_85 (by decide) ?_
                    refine j_iadd E dX7_place_86 ?_
                    refine j_bipush (v := 16) E dX7_place_87 (by decide) ?_
                    refine j_aload_n E dX7_place_89 rfl rfl ?_
                    refine j_getP (ci := 7) (k := 2) (Cn := RX7) (T := TX7) (N := 34) E dX7_place_90 hm1 hm2 rfl (by decide) hinX7 (by decide +kernel) rfl mp2 ?_
                    refine j_iload_n E dX7_place_93 rfl rfl ?_
                    refine j_iald E dX7_place_94 ml2 mn2 rfl hj (by decide) mk2 ?_
                    try simp only [pI_m hinj, pF_m hinj, pI_2, pF_1, Nat.reduceEqDiff, Nat.reduceLT, Nat.reduceLeDiff, eq_self, ↓reduceIte]
                    refine j_imul E dX7_place_95 ?_
                    refine j_iadd E dX7_place_96 ?_
                    exact j_iret E dX7_place_97 (by simp [mPl, mT1, hcl, h8, h23, h33, h47, h62, h77]) rfl (by simp [mPl, mT1, hcl, h8, h23, h33, h47, h62, h77])
                  · refine j_bipush (v := 8) E dX7_place_80 (by decide) ?_
                    refine j_goto (tgt := 86) E dX7_place_82 (by decide) ?_
                    refine j_iadd E dX7_place_86 ?_
                    refine j_bipush (v := 16) E dX7_place_87 (by decide) ?_
                    refine j_aload_n E dX7_place_89 rfl rfl ?_
                    refine j_getP (ci := 7) (k := 2) (Cn := RX7) (T := TX7) (N := 34) E dX7_place_90 hm1 hm2 rfl (by decide) hinX7 (by decide +kernel) rfl mp2 ?_
                    refine j_iload_n E dX7_place_93 rfl rfl ?_
                    refine j_iald E dX7_place_94 ml2 mn2 rfl hj (by decide) mk2 ?_
                    try simp only [pI_m hinj, pF_m hinj, pI_2, pF_1, Nat.reduceEqDiff, Nat.reduceLT, Nat.reduceLeDiff, eq_self, ↓reduceIte]
                    refine j_imul E dX7_place_95 ?_
                    refine j_iadd E dX7_place_96 ?_
                    exact j_iret E dX7_place_97 (by simp [mPl, mT1, hcl, h8, h23, h33, h47, h62, h77]) rfl (by simp [mPl, mT1, hcl, h8, h23, h33, h47, h62, h77])
                · refine j_iconst (v := 4) E dX7_place_65 (by decide) ?_
                  refine j_goto (tgt := 70) E dX7_place_66 (by decide) ?_
                  refine j_iadd E dX7_place_70 ?_
                  refine j_aload_n E dX7_place_71 rfl rfl ?_
                  refine j_getP (ci := 7) (k := 12) (Cn := RX7) (T := TX7) (N := 34) E dX7_place_72 hm1 hm2 rfl (by decide) hinX7 (by decide +kernel) rfl mp12 ?_
                  refine j_iload_n E dX7_place_75 rfl rfl ?_
                  refine j_zald E dX7_place_76 ml12 mn12 rfl hj (by decide) mk12 ?_
                  try simp only [pI_m hinj, pF_m hinj, pI_2, pF_1, Nat.reduceEqDiff, Nat.reduceLT, Nat.reduceLeDiff, eq_self, ↓reduceIte]
                  refine j_if_eq (tgt := 85) E dX7_place_77 (by decide) (fun h77 => ?_) (fun h77 => ?_)
                  · refine j_iconst (v := 0) E dX7_place_85 (by decide) ?_
                    refine j_iadd E dX7_place_86 ?_
                    refine j_bipush (v := 16) E dX7_place_87 (by decide) ?_
                    refine j_aload_n E dX7_place_89 rfl rfl ?_
                    refine j_getP (ci := 7) (k := 2) (Cn := RX7) (T := TX7) (N := 34) E dX7_place_90 hm1 hm2 rfl (by decide) hinX7 (by decide +kernel) rfl mp2 ?_
                    refine j_iload_n E dX7_place_93 rfl rfl ?_
                    refine j_iald E dX7_place_94 ml2 mn2 rfl hj (by decide) mk2 ?_
                    try simp only [pI_m hinj, pF_m hinj, pI_2, pF_1, Nat.reduceEqDiff, Nat.reduceLT, Nat.reduceLeDiff, eq_self, ↓reduceIte]
                    refine j_imul E dX7_place_95 ?_
                    refine j_iadd E dX7_place_96 ?_
                    exact j_iret E dX7_place_97 (by simp [mPl, mT1, hcl, h8, h23, h33, h47, h62, h77]) rfl (by simp [mPl, mT1, hcl, h8, h23, h33, h47, h62, h77])
                  · refine j_bipush (v := 8) E dX7_place_80 (by decide) ?_
                    refine j_goto (tgt := 86) E dX7_place_82 (by decide) ?_
                    refine j_iadd E dX7_place_86 ?_
                    refine j_bipush (v := 16) E dX7_place_87 (by decide) ?_
                    refine j_aload_n E dX7_place_89 rfl rfl ?_
                    refine j_getP (ci := 7) (k := 2) (Cn := RX7) (T := TX7) (N := 34) E dX7_place_90 hm1 hm2 rfl (by decide) hinX7 (by decide +kernel) rfl mp2 ?_
                    refine j_iload_n E dX7_place_93 rfl rfl ?_
                    refine j_iald E dX7_place_94 ml2 mn2 rfl hj (by decide) mk2 ?_
                    try simp only [pI_m hinj, pF_m hinj, pI_2, pF_1, Nat.reduceEqDiff, Nat.reduceLT, Nat.reduceLeDiff, eq_self, ↓reduceIte]
                    refine j_imul E dX7_place_95 ?_
                    refine j_iadd E dX7_place_96 ?_
                    exact j_iret E dX7_place_97 (by simp [mPl, mT1, hcl, h8, h23, h33, h47, h62, h77]) rfl (by simp [mPl, mT1, hcl, h8, h23, h33, h47, h62, h77])
              · refine j_iconst (v := 2) E dX7_place_50 (by decide) ?_
                refine j_goto (tgt := 55) E dX7_place_51 (by decide) ?_
                refine j_iadd E dX7_place_55 ?_
                refine j_aload_n E dX7_place_56 rfl rfl ?_
                refine j_getP (ci := 7) (k := 11) (Cn := RX7) (T := TX7) (N := 34) E dX7_place_57 hm1 hm2 rfl (by decide) hinX7 (by decide +kernel) rfl mp11 ?_
                refine j_iload_n E dX7_place_60 rfl rfl ?_
                refine j_zald E dX7_place_61 ml11 mn11 rfl hj (by decide) mk11 ?_
                try simp only [pI_m hinj, pF_m hinj, pI_2, pF_1, Nat.reduceEqDiff, Nat.reduceLT, Nat.reduceLeDiff, eq_self, ↓reduceIte]
                refine j_if_eq (tgt := 69) E dX7_place_62 (by decide) (fun h62 => ?_) (fun h62 => ?_)
                · refine j_iconst (v := 0) E dX7_place_69 (by decide) ?_
                  refine j_iadd E dX7_place_70 ?_
                  refine j_aload_n E dX7_place_71 rfl rfl ?_
                  refine j_getP (ci := 7) (k := 12) (Cn := RX7) (T := TX7) (N := 34) E dX7_place_72 hm1 hm2 rfl (by decide) hinX7 (by decide +kernel) rfl mp12 ?_
                  refine j_iload_n E dX7_place_75 rfl rfl ?_
                  refine j_zald E dX7_place_76 ml12 mn12 rfl hj (by decide) mk12 ?_
                  try simp only [pI_m hinj, pF_m hinj, pI_2, pF_1, Nat.reduceEqDiff, Nat.reduceLT, Nat.reduceLeDiff, eq_self, ↓reduceIte]
                  refine j_if_eq (tgt := 85) E dX7_place_77 (by decide) (fun h77 => ?_) (fun h77 => ?_)
                  · refine j_iconst (v := 0) E dX7_place_85 (by decide) ?_
                    refine j_iadd E dX7_place_86 ?_
                    refine j_bipush (v := 16) E dX7_place_87 (by decide) ?_
                    refine j_aload_n E dX7_place_89 rfl rfl ?_
                    refine j_getP (ci := 7) (k := 2) (Cn := RX7) (T := TX7) (N := 34) E dX7_place_90 hm1 hm2 rfl (by decide) hinX7 (by decide +kernel) rfl mp2 ?_
                    refine j_iload_n E dX7_place_93 rfl rfl ?_
                    refine j_iald E dX7_place_94 ml2 mn2 rfl hj (by decide) mk2 ?_
                    try simp only [pI_m hinj, pF_m hinj, pI_2, pF_1, Nat.reduceEqDiff, Nat.reduceLT, Nat.reduceLeDiff, eq_self, ↓reduceIte]
                    refine j_imul E dX7_place_95 ?_
                    refine j_iadd E dX7_place_96 ?_
                    exact j_iret E dX7_place_97 (by simp [mPl, mT1, hcl, h8, h23, h33, h47, h62, h77]) rfl (by simp [mPl, mT1, hcl, h8, h23, h33, h47, h62, h77])
                  · refine j_bipush (v := 8) E dX7_place_80 (by decide) ?_
                    refine j_goto (tgt := 86) E dX7_place_82 (by decide) ?_
                    refine j_iadd E dX7_place_86 ?_
                    refine j_bipush (v := 16) E dX7_place_87 (by decide) ?_
                    refine j_aload_n E dX7_place_89 rfl rfl ?_
                    refine j_getP (ci := 7) (k := 2) (Cn := RX7) (T := TX7) (N := 34) E dX7_place_90 hm1 hm2 rfl (by decide) hinX7 (by decide +kernel) rfl mp2 ?_
                    refine j_iload_n E dX7_place_93 rfl rfl ?_
                    refine j_iald E dX7_place_94 ml2 mn2 rfl hj (by decide) mk2 ?_
                    try simp only [pI_m hinj, pF_m hinj, pI_2, pF_1, Nat.reduceEqDiff, Nat.reduceLT, Nat.reduceLeDiff, eq_self, ↓reduceIte]
                    refine j_imul E dX7_place_95 ?_
                    refine j_iadd E dX7_place_96 ?_
                    exact j_iret E dX7_place_97 (by simp [mPl, mT1, hcl, h8, h23, h33, h47, h62, h77]) rfl (by simp [mPl, mT1, hcl, h8, h23, h33, h47, h62, h77])
                · refine j_iconst (v := 4) E dX7_place_65 (by decide) ?_
                  refine j_goto (tgt := 70) E dX7_place_66 (by decide) ?_
                  refine j_iadd E dX7_place_70 ?_
                  refine j_aload_n E dX7_place_71 rfl rfl ?_
                  refine j_getP (ci := 7) (k := 12) (Cn := RX7) (T := TX7) (N := 34) E dX7_place_72 hm1 hm2 rfl (by decide) hinX7 (by decide +kernel) rfl mp12 ?_
                  refine j_iload_n E dX7_place_75 rfl rfl ?_
                  refine j_zald E dX7_place_76 ml12 mn12 rfl hj (by decide) mk12 ?_
                  try simp only [pI_m hinj, pF_m hinj, pI_2, pF_1, Nat.reduceEqDiff, Nat.reduceLT, Nat.reduceLeDiff, eq_self, ↓reduceIte]
                  refine j_if_eq (tgt := 85) E dX7_place_77 (by decide) (fun h77 => ?_) (fun h77 => ?_)
                  · refine j_iconst (v := 0) E dX7_place_85 (by decide) ?_
                    refine j_iadd E dX7_place_86 ?_
                    refine j_bipush (v := 16) E dX7_place_87 (by decide) ?_
                    refine j_aload_n E dX7_place_89 rfl rfl ?_
                    refine j_getP (ci := 7) (k := 2) (Cn := RX7) (T := TX7) (N := 34) E dX7_place_90 hm1 hm2 rfl (by decide) hinX7 (by decide +kernel) rfl mp2 ?_
                    refine j_iload_n E dX7_place_93 rfl rfl ?_
                    refine j_iald E dX7_place_94 ml2 mn2 rfl hj (by decide) mk2 ?_
                    try simp only [pI_m hinj, pF_m hinj, pI_2, pF_1, Nat.reduceEqDiff, Nat.reduceLT, Nat.reduceLeDiff, eq_self, ↓reduceIte]
                    refine j_imul E dX7_place_95 ?_
                    refine j_iadd E dX7_place_96 ?_
                    exact j_iret E dX7_place_97 (by simp [mPl, mT1, hcl, h8, h23, h33, h47, h62, h77]) rfl (by simp [mPl, mT1, hcl, h8, h23, h33, h47, h62, h77])
                  · refine j_bipush (v := 8) E dX7_place_80 (by decide) ?_
                    refine j_goto (tgt := 86) E dX7_place_82 (by decide) ?_
                    refine j_iadd E dX7_place_86 ?_
                    refine j_bipush (v := 16) E dX7_place_87 (by decide) ?_
                    refine j_aload_n E dX7_place_89 rfl rfl ?_
                    refine j_getP (ci := 7) (k := 2) (Cn := RX7) (T := TX7) (N := 34) E dX7_place_90 hm1 hm2 rfl (by decide) hinX7 (by decide +kernel) rfl mp2 ?_
                    refine j_iload_n E dX7_place_93 rfl rfl ?_
                    refine j_iald E dX7_place_94 ml2 mn2 rfl hj (by decide) mk2 ?_
                    try simp only [pI_m hinj, pF_m hinj, pI_2, pF_1, Nat.reduceEqDiff, Nat.reduceLT, Nat.reduceLeDiff, eq_self, ↓reduceIte]
                    refine j_imul E dX7_place_95 ?_
                    refine j_iadd E dX7_place_96 ?_
                    exact j_iret E dX7_place_97 (by simp [mPl, mT1, hcl, h8, h23, h33, h47, h62, h77]) rfl (by simp [mPl, mT1, hcl, h8, h23, h33, h47, h62, h77])
          )
      · first
        | exact absurd h23 (by decide)
        | exact absurd (by decide) h23
        | (
            refine j_iconst (v := 0) E dX7_place_26 (by decide) ?_
            exact j_iret E dX7_place_27 (by simp [mPl, mT1, hcl, h8, h23]) rfl (by simp [mPl, mT1, hcl, h8, h23])
          )

set_option maxHeartbeats 1600000 in
set_option maxRecDepth 100000 in
theorem k_X7_zone {l : Launch} {D : va_G} {cy : Nat → ClassId} {X : va_W} {G : pG} {M : pM} {m : Nat → Nat} {z : Int32} (hM : wM G m) (hok : ∀ p, p < 16 → vf_n32 (FP.fmul (M.2 (m 4) p) 1061158912)) : jK l yX7_zone wsX7_zone ({ frames := 3, cells := 0, slots := 0, locals := 67 } : Room) D cy X G M [.ref (m 0), .int z] (some (.int (mZo M m z))) X (pI M (m 0) 0 (mT1 (mIn z 0 3))) := by
  refine jK_of (own := RX7) (by decide) rfl rfl (Nat.le_of_ble_eq_true rfl) (fun C E hl hD hcy hG => ?_)
  subst hl; subst hD; subst hcy; subst hG
  have hinX7 : ∀ w ∈ u_ws RX7 TX7 34, w ∈ wsX7_zone := by decide +kernel
  have hM0 := hM
  obtain ⟨hm1, hm2, hmt, hinj⟩ := hM
  obtain ⟨mp13, ml13, mk13, mn13⟩ := hmt 13 11 4 rfl
  obtain ⟨mp15, ml15, mk15, mn15⟩ := hmt 15 11 4 rfl
  have hre : mWn (pI M (m 0) 0 0) m z 16 0 0 = mWn M m z 16 0 0 := mWn_ok (pI0 hinj M 0 0 2 (by decide) (by decide)) (pI0 hinj M 0 0 3 (by decide) (by decide)) (pI0 hinj M 0 0 9 (by decide) (by decide)) (pI0 hinj M 0 0 12 (by decide) (by decide)) rfl z 16 0 0
  refine j_aload_n E dX7_zone_0 rfl rfl ?_
  refine j_iload_n E dX7_zone_1 rfl rfl ?_
  refine j_iconst (v := 0) E dX7_zone_2 (by decide) ?_
  refine j_iconst (v := 3) E dX7_zone_3 (by decide) ?_
  refine j_callS1 (n := 3) E (k_X7_in ) dX7_zone_4 gX7_zone_X7_in rfl (by decide +kernel) ⟨rfl, rfl, by decide, by decide⟩ ⟨Nat.zero_le _, Nat.zero_le _⟩ rfl rfl (Nat.le_of_ble_eq_true rfl) rfl ?_
  refine j_if_eq (tgt := 14) E dX7_zone_7 (by decide) (fun h7 => ?_) (fun h7 => ?_)
  · refine j_iconst (v := 1) E dX7_zone_14 (by decide) ?_
    refine j_putI (ci := 7) (k := 0) (Cn := RX7) (T := TX7) (N := 34) E dX7_zone_15 hm1 hm2 rfl (by decide) hinX7 (by decide +kernel) rfl tyX7 tyX7_ok nmX7 rfl rfl rfl rfl ?_
    refine j_aload_n E dX7_zone_18 rfl rfl ?_
    refine j_getI (ci := 7) (k := 0) (Cn := RX7) (T := TX7) (N := 34) E dX7_zone_19 hm1 hm2 rfl (by decide) hinX7 (by decide +kernel) rfl ?_
    try simp only [pI_m hinj, pF_m hinj, pI_2, pF_1, Nat.reduceEqDiff, Nat.reduceLT, Nat.reduceLeDiff, eq_self, ↓reduceIte]
    refine j_if_le (tgt := 27) E dX7_zone_22 (by decide) (fun h22 => ?_) (fun h22 => ?_)
    · first
      | exact absurd h22 (by decide)
      | exact absurd (by decide) h22
      | (
          refine j_aload_n E dX7_zone_27 rfl rfl ?_
          refine j_getP (ci := 7) (k := 15) (Cn := RX7) (T := TX7) (N := 34) E dX7_zone_28 hm1 hm2 rfl (by decide) hinX7 (by decide +kernel) rfl mp15 ?_
          refine j_iload_n E dX7_zone_31 rfl rfl ?_
          refine j_zald E dX7_zone_32 ml15 mn15 (ix01 (n := 3) h7 (by decide)).1 (ix01 (n := 3) h7 (by decide)).2 (by decide) mk15 ?_
          try simp only [pI_m hinj, pF_m hinj, pI_2, pF_1, Nat.reduceEqDiff, Nat.reduceLT, Nat.reduceLeDiff, eq_self, ↓reduceIte]
          refine j_if_eq (tgt := 40) E dX7_zone_33 (by decide) (fun h33 => ?_) (fun h33 => ?_)
          · refine j_iconst (v := 0) E dX7_zone_40 (by decide) ?_
            refine j_aload_n E dX7_zone_41 rfl rfl ?_
            refine j_iload_n E dX7_zone_42 rfl rfl ?_
            refine j_callV1 (ci := 7) (n := 1) E (k_X7_warns hM0 hok) dX7_zone_43 gX7_zone_X7_warns rfl (by decide +kernel) ⟨rfl, rfl, by decide, by decide⟩ ⟨Nat.zero_le _, Nat.zero_le _⟩ hm1 hm2 rfl rfl rfl (Nat.le_of_ble_eq_true rfl) rfl ?_
            refine j_if_eq (tgt := 53) E dX7_zone_46 (by decide) (fun h46 => ?_) (fun h46 => ?_)
            · rw [hre] at h46
              refine j_iconst (v := 0) E dX7_zone_53 (by decide) ?_
              refine j_iadd E dX7_zone_54 ?_
              refine j_aload_n E dX7_zone_55 rfl rfl ?_
              refine j_getP (ci := 7) (k := 13) (Cn := RX7) (T := TX7) (N := 34) E dX7_zone_56 hm1 hm2 rfl (by decide) hinX7 (by decide +kernel) rfl mp13 ?_
              refine j_iload_n E dX7_zone_59 rfl rfl ?_
              refine j_zald E dX7_zone_60 ml13 mn13 (ix01 (n := 3) h7 (by decide)).1 (ix01 (n := 3) h7 (by decide)).2 (by decide) mk13 ?_
              try simp only [pI_m hinj, pF_m hinj, pI_2, pF_1, Nat.reduceEqDiff, Nat.reduceLT, Nat.reduceLeDiff, eq_self, ↓reduceIte]
              refine j_if_eq (tgt := 68) E dX7_zone_61 (by decide) (fun h61 => ?_) (fun h61 => ?_)
              · refine j_iconst (v := 0) E dX7_zone_68 (by decide) ?_
                refine j_iadd E dX7_zone_69 ?_
                exact j_iret E dX7_zone_70 (by simp [mZo, mT1, h7, h22, h33, h46, h61]) rfl (by simp [mZo, mT1, h7, h22, h33, h46, h61])
              · refine j_iconst (v := 4) E dX7_zone_64 (by decide) ?_
                refine j_goto (tgt := 69) E dX7_zone_65 (by decide) ?_
                refine j_iadd E dX7_zone_69 ?_
                exact j_iret E dX7_zone_70 (by simp [mZo, mT1, h7, h22, h33, h46, h61]) rfl (by simp [mZo, mT1, h7, h22, h33, h46, h61])
            · rw [hre] at h46
              refine j_iconst (v := 2) E dX7_zone_49 (by decide) ?_
              refine j_goto (tgt := 54) E dX7_zone_50 (by decide) ?_
              refine j_iadd E dX7_zone_54 ?_
              refine j_aload_n E dX7_zone_55 rfl rfl ?_
              refine j_getP (ci := 7) (k := 13) (Cn := RX7) (T := TX7) (N := 34) E dX7_zone_56 hm1 hm2 rfl (by decide) hinX7 (by decide +kernel) rfl mp13 ?_
              refine j_iload_n E dX7_zone_59 rfl rfl ?_
              refine j_zald E dX7_zone_60 ml13 mn13 (ix01 (n := 3) h7 (by decide)).1 (ix01 (n := 3) h7 (by decide)).2 (by decide) mk13 ?_
              try simp only [pI_m hinj, pF_m hinj, pI_2, pF_1, Nat.reduceEqDiff, Nat.reduceLT, Nat.reduceLeDiff, eq_self, ↓reduceIte]
              refine j_if_eq (tgt := 68) E dX7_zone_61 (by decide) (fun h61 => ?_) (fun h61 => ?_)
              · refine j_iconst (v := 0) E dX7_zone_68 (by decide) ?_
                refine j_iadd E dX7_zone_69 ?_
                exact j_iret E dX7_zone_70 (by simp [mZo, mT1, h7, h22, h33, h46, h61]) rfl (by simp [mZo, mT1, h7, h22, h33, h46, h61])
              · refine j_iconst (v := 4) E dX7_zone_64 (by decide) ?_
                refine j_goto (tgt := 69) E dX7_zone_65 (by decide) ?_
                refine j_iadd E dX7_zone_69 ?_
                exact j_iret E dX7_zone_70 (by simp [mZo, mT1, h7, h22, h33, h46, h61]) rfl (by simp [mZo, mT1, h7, h22, h33, h46, h61])
          · refine j_iconst (v := 1) E dX7_zone_36 (by decide) ?_
            refine j_goto (tgt := 41) E dX7_zone_37 (by decide) ?_
            refine j_aload_n E dX7_zone_41 rfl rfl ?_
            refine j_iload_n E dX7_zone_42 rfl rfl ?_
            refine j_callV1 (ci := 7) (n := 1) E (k_X7_warns hM0 hok) dX7_zone_43 gX7_zone_X7_warns rfl (by decide +kernel) ⟨rfl, rfl, by decide, by decide⟩ ⟨Nat.zero_le _, Nat.zero_le _⟩ hm1 hm2 rfl rfl rfl (Nat.le_of_ble_eq_true rfl) rfl ?_
            refine j_if_eq (tgt := 53) E dX7_zone_46 (by decide) (fun h46 => ?_) (fun h46 => ?_)
            · rw [hre] at h46
              refine j_iconst (v := 0) E dX7_zone_53 (by decide) ?_
              refine j_iadd E dX7_zone_54 ?_
              refine j_aload_n E dX7_zone_55 rfl rfl ?_
              refine j_getP (ci := 7) (k := 13) (Cn := RX7) (T := TX7) (N := 34) E dX7_zone_56 hm1 hm2 rfl (by decide) hinX7 (by decide +kernel) rfl mp13 ?_
              refine j_iload_n E dX7_zone_59 rfl rfl ?_
              refine j_zald E dX7_zone_60 ml13 mn13 (ix01 (n := 3) h7 (by decide)).1 (ix01 (n := 3) h7 (by decide)).2 (by decide) mk13 ?_
              try simp only [pI_m hinj, pF_m hinj, pI_2, pF_1, Nat.reduceEqDiff, Nat.reduceLT, Nat.reduceLeDiff, eq_self, ↓reduceIte]
              refine j_if_eq (tgt := 68) E dX7_zone_61 (by decide) (fun h61 => ?_) (fun h61 => ?_)
              · refine j_iconst (v := 0) E dX7_zone_68 (by decide) ?_
                refine j_iadd E dX7_zone_69 ?_
                exact j_iret E dX7_zone_70 (by simp [mZo, mT1, h7, h22, h33, h46, h61]) rfl (by simp [mZo, mT1, h7, h22, h33, h46, h61])
              · refine j_iconst (v := 4) E dX7_zone_64 (by decide) ?_
                refine j_goto (tgt := 69) E dX7_zone_65 (by decide) ?_
                refine j_iadd E dX7_zone_69 ?_
                exact j_iret E dX7_zone_70 (by simp [mZo, mT1, h7, h22, h33, h46, h61]) rfl (by simp [mZo, mT1, h7, h22, h33, h46, h61])
            · rw [hre] at h46
              refine j_iconst (v := 2) E dX7_zone_49 (by decide) ?_
              refine j_goto (tgt := 54) E dX7_zone_50 (by decide) ?_
              refine j_iadd E dX7_zone_54 ?_
              refine j_aload_n E dX7_zone_55 rfl rfl ?_
              refine j_getP (ci := 7) (k := 13) (Cn := RX7) (T := TX7) (N := 34) E dX7_zone_56 hm1 hm2 rfl (by decide) hinX7 (by decide +kernel) rfl mp13 ?_
              refine j_iload_n E dX7_zone_59 rfl rfl ?_
              refine j_zald E dX7_zone_60 ml13 mn13 (ix01 (n := 3) h7 (by decide)).1 (ix01 (n := 3) h7 (by decide)).2 (by decide) mk13 ?_
              try simp only [pI_m hinj, pF_m hinj, pI_2, pF_1, Nat.reduceEqDiff, Nat.reduceLT, Nat.reduceLeDiff, eq_self, ↓reduceIte]
              refine j_if_eq (tgt := 68) E dX7_zone_61 (by decide) (fun h61 => ?_) (fun h61 => ?_)
              · refine j_iconst (v := 0) E dX7_zone_68 (by decide) ?_
                refine j_iadd E dX7_zone_69 ?_
                exact j_iret E dX7_zone_70 (by simp [mZo, mT1, h7, h22, h33, h46, h61]) rfl (by simp [mZo, mT1, h7, h22, h33, h46, h61])
              · refine j_iconst (v := 4) E dX7_zone_64 (by decide) ?_
                refine j_goto (tgt := 69) E dX7_zone_65 (by decide) ?_
                refine j_iadd E dX7_zone_69 ?_
                exact j_iret E dX7_zone_70 (by simp [mZo, mT1, h7, h22, h33, h46, h61]) rfl (by simp [mZo, mT1, h7, h22, h33, h46, h61])
        )
    · first
      | exact absurd h22 (by decide)
      | exact absurd (by decide) h22
      | (
          refine j_iconst (v := 0) E dX7_zone_25 (by decide) ?_
          exact j_iret E dX7_zone_26 (by simp [mZo, mT1, h7, h22]) rfl (by simp [mZo, mT1, h7, h22])
        )
  · refine j_iconst (v := 0) E dX7_zone_10 (by decide) ?_
    refine j_goto (tgt := 15) E dX7_zone_11 (by decide) ?_
    refine j_putI (ci := 7) (k := 0) (Cn := RX7) (T := TX7) (N := 34) E dX7_zone_15 hm1 hm2 rfl (by decide) hinX7 (by decide +kernel) rfl tyX7 tyX7_ok nmX7 rfl rfl rfl rfl ?_
    refine j_aload_n E dX7_zone_18 rfl rfl ?_
    refine j_getI (ci := 7) (k := 0) (Cn := RX7) (T := TX7) (N := 34) E dX7_zone_19 hm1 hm2 rfl (by decide) hinX7 (by decide +kernel) rfl ?_
    try simp only [pI_m hinj, pF_m hinj, pI_2, pF_1, Nat.reduceEqDiff, Nat.reduceLT, Nat.reduceLeDiff, eq_self, ↓reduceIte]
    refine j_if_le (tgt := 27) E dX7_zone_22 (by decide) (fun h22 => ?_) (fun h22 => ?_)
    · first
      | exact absurd h22 (by decide)
      | exact absurd (by decide) h22
      | (
          refine j_aload_n E dX7_zone_27 rfl rfl ?_
          refine j_getP (ci := 7) (k := 15) (Cn := RX7) (T := TX7) (N := 34) E dX7_zone_28 hm1 hm2 rfl (by decide) hinX7 (by decide +kernel) rfl mp15 ?_
          refine j_iload_n E dX7_zone_31 rfl rfl ?_
          refine j_zald E dX7_zone_32 ml15 mn15 (ix01 (n := 3) h7 (by decide)).1 (ix01 (n := 3) h7 (by decide)).2 (by decide) mk15 ?_
          try simp only [pI_m hinj, pF_m hinj, pI_2, pF_1, Nat.reduceEqDiff, Nat.reduceLT, Nat.reduceLeDiff, eq_self, ↓reduceIte]
          refine j_if_eq (tgt := 40) E dX7_zone_33 (by decide) (fun h33 => ?_) (fun h33 => ?_)
          · refine j_iconst (v := 0) E dX7_zone_40 (by decide) ?_
            refine j_aload_n E dX7_zone_41 rfl rfl ?_
            refine j_iload_n E dX7_zone_42 rfl rfl ?_
            refine j_callV1 (ci := 7) (n := 1) E (k_X7_warns hM0 hok) dX7_zone_43 gX7_zone_X7_warns rfl (by decide +kernel) ⟨rfl, rfl, by decide, by decide⟩ ⟨Nat.zero_le _, Nat.zero_le _⟩ hm1 hm2 rfl rfl rfl (Nat.le_of_ble_eq_true rfl) rfl ?_
            refine j_if_eq (tgt := 53) E dX7_zone_46 (by decide) (fun h46 => ?_) (fun h46 => ?_)
            · rw [hre] at h46
              refine j_iconst (v := 0) E dX7_zone_53 (by decide) ?_
              refine j_iadd E dX7_zone_54 ?_
              refine j_aload_n E dX7_zone_55 rfl rfl ?_
              refine j_getP (ci := 7) (k := 13) (Cn := RX7) (T := TX7) (N := 34) E dX7_zone_56 hm1 hm2 rfl (by decide) hinX7 (by decide +kernel) rfl mp13 ?_
              refine j_iload_n E dX7_zone_59 rfl rfl ?_
              refine j_zald E dX7_zone_60 ml13 mn13 (ix01 (n := 3) h7 (by decide)).1 (ix01 (n := 3) h7 (by decide)).2 (by decide) mk13 ?_
              try simp only [pI_m hinj, pF_m hinj, pI_2, pF_1, Nat.reduceEqDiff, Nat.reduceLT, Nat.reduceLeDiff, eq_self, ↓reduceIte]
              refine j_if_eq (tgt := 68) E dX7_zone_61 (by decide) (fun h61 => ?_) (fun h61 => ?_)
              · refine j_iconst (v := 0) E dX7_zone_68 (by decide) ?_
                refine j_iadd E dX7_zone_69 ?_
                exact j_iret E dX7_zone_70 (by simp [mZo, mT1, h7, h22, h33, h46, h61]) rfl (by simp [mZo, mT1, h7, h22, h33, h46, h61])
              · refine j_iconst (v := 4) E dX7_zone_64 (by decide) ?_
                refine j_goto (tgt := 69) E dX7_zone_65 (by decide) ?_
                refine j_iadd E dX7_zone_69 ?_
                exact j_iret E dX7_zone_70 (by simp [mZo, mT1, h7, h22, h33, h46, h61]) rfl (by simp [mZo, mT1, h7, h22, h33, h46, h61])
            · rw [hre] at h46
              refine j_iconst (v := 2) E dX7_zone_49 (by decide) ?_
              refine j_goto (tgt := 54) E dX7_zone_50 (by decide) ?_
              refine j_iadd E dX7_zone_54 ?_
              refine j_aload_n E dX7_zone_55 rfl rfl ?_
              refine j_getP (ci := 7) (k := 13) (Cn := RX7) (T := TX7) (N := 34) E dX7_zone_56 hm1 hm2 rfl (by decide) hinX7 (by decide +kernel) rfl mp13 ?_
              refine j_iload_n E dX7_zone_59 rfl rfl ?_
              refine j_zald E dX7_zone_60 ml13 mn13 (ix01 (n := 3) h7 (by decide)).1 (ix01 (n := 3) h7 (by decide)).2 (by decide) mk13 ?_
              try simp only [pI_m hinj, pF_m hinj, pI_2, pF_1, Nat.reduceEqDiff, Nat.reduceLT, Nat.reduceLeDiff, eq_self, ↓reduceIte]
              refine j_if_eq (tgt := 68) E dX7_zone_61 (by decide) (fun h61 => ?_) (fun h61 => ?_)
              · refine j_iconst (v := 0) E dX7_zone_68 (by decide) ?_
                refine j_iadd E dX7_zone_69 ?_
                exact j_iret E dX7_zone_70 (by simp [mZo, mT1, h7, h22, h33, h46, h61]) rfl (by simp [mZo, mT1, h7, h22, h33, h46, h61])
              · refine j_iconst (v := 4) E dX7_zone_64 (by decide) ?_
                refine j_goto (tgt := 69) E dX7_zone_65 (by decide) ?_
                refine j_iadd E dX7_zone_69 ?_
                exact j_iret E dX7_zone_70 (by simp [mZo, mT1, h7, h22, h33, h46, h61]) rfl (by simp [mZo, mT1, h7, h22, h33, h46, h61])
          · refine j_iconst (v := 1) E dX7_zone_36 (by decide) ?_
            refine j_goto (tgt := 41) E dX7_zone_37 (by decide) ?_
            refine j_aload_n E dX7_zone_41 rfl rfl ?_
            refine j_iload_n E dX7_zone_42 rfl rfl ?_
            refine j_callV1 (ci := 7) (n := 1) E (k_X7_warns hM0 hok) dX7_zone_43 gX7_zone_X7_warns rfl (by decide +kernel) ⟨rfl, rfl, by decide, by decide⟩ ⟨Nat.zero_le _, Nat.zero_le _⟩ hm1 hm2 rfl rfl rfl (Nat.le_of_ble_eq_true rfl) rfl ?_
            refine j_if_eq (tgt := 53) E dX7_zone_46 (by decide) (fun h46 => ?_) (fun h46 => ?_)
            · rw [hre] at h46
              refine j_iconst (v := 0) E dX7_zone_53 (by decide) ?_
              refine j_iadd E dX7_zone_54 ?_
              refine j_aload_n E dX7_zone_55 rfl rfl ?_
              refine j_getP (ci := 7) (k := 13) (Cn := RX7) (T := TX7) (N := 34) E dX7_zone_56 hm1 hm2 rfl (by decide) hinX7 (by decide +kernel) rfl mp13 ?_
              refine j_iload_n E dX7_zone_59 rfl rfl ?_
              refine j_zald E dX7_zone_60 ml13 mn13 (ix01 (n := 3) h7 (by decide)).1 (ix01 (n := 3) h7 (by decide)).2 (by decide) mk13 ?_
              try simp only [pI_m hinj, pF_m hinj, pI_2, pF_1, Nat.reduceEqDiff, Nat.reduceLT, Nat.reduceLeDiff, eq_self, ↓reduceIte]
              refine j_if_eq (tgt := 68) E dX7_zone_61 (by decide) (fun h61 => ?_) (fun h61 => ?_)
              · refine j_iconst (v := 0) E dX7_zone_68 (by decide) ?_
                refine j_iadd E dX7_zone_69 ?_
                exact j_iret E dX7_zone_70 (by simp [mZo, mT1, h7, h22, h33, h46, h61]) rfl (by simp [mZo, mT1, h7, h22, h33, h46, h61])
              · refine j_iconst (v := 4) E dX7_zone_64 (by decide) ?_
                refine j_goto (tgt := 69) E dX7_zone_65 (by decide) ?_
                refine j_iadd E dX7_zone_69 ?_
                exact j_iret E dX7_zone_70 (by simp [mZo, mT1, h7, h22, h33, h46, h61]) rfl (by simp [mZo, mT1, h7, h22, h33, h46, h61])
            · rw [hre] at h46
              refine j_iconst (v := 2) E dX7_zone_49 (by decide) ?_
              refine j_goto (tgt := 54) E dX7_zone_50 (by decide) ?_
              refine j_iadd E dX7_zone_54 ?_
              refine j_aload_n E dX7_zone_55 rfl rfl ?_
              refine j_getP (ci := 7) (k := 13) (Cn := RX7) (T := TX7) (N := 34) E dX7_zone_56 hm1 hm2 rfl (by decide) hinX7 (by decide +kernel) rfl mp13 ?_
              refine j_iload_n E dX7_zone_59 rfl rfl ?_
              refine j_zald E dX7_zone_60 ml13 mn13 (ix01 (n := 3) h7 (by decide)).1 (ix01 (n := 3) h7 (by decide)).2 (by decide) mk13 ?_
              try simp only [pI_m hinj, pF_m hinj, pI_2, pF_1, Nat.reduceEqDiff, Nat.reduceLT, Nat.reduceLeDiff, eq_self, ↓reduceIte]
              refine j_if_eq (tgt := 68) E dX7_zone_61 (by decide) (fun h61 => ?_) (fun h61 => ?_)
              · refine j_iconst (v := 0) E dX7_zone_68 (by decide) ?_
                refine j_iadd E dX7_zone_69 ?_
                exact j_iret E dX7_zone_70 (by simp [mZo, mT1, h7, h22, h33, h46, h61]) rfl (by simp [mZo, mT1, h7, h22, h33, h46, h61])
              · refine j_iconst (v := 4) E dX7_zone_64 (by decide) ?_
                refine j_goto (tgt := 69) E dX7_zone_65 (by decide) ?_
                refine j_iadd E dX7_zone_69 ?_
                exact j_iret E dX7_zone_70 (by simp [mZo, mT1, h7, h22, h33, h46, h61]) rfl (by simp [mZo, mT1, h7, h22, h33, h46, h61])
        )
    · first
      | exact absurd h22 (by decide)
      | exact absurd (by decide) h22
      | (
          refine j_iconst (v := 0) E dX7_zone_25 (by decide) ?_
          exact j_iret E dX7_zone_26 (by simp [mZo, mT1, h7, h22]) rfl (by simp [mZo, mT1, h7, h22])
        )

set_option maxHeartbeats 1600000 in
set_option maxRecDepth 100000 in
theorem k_X7_held {l : Launch} {D : va_G} {cy : Nat → ClassId} {X : va_W} {G : pG} {M : pM} {m : Nat → Nat} {r : Int32} (hM : wM G m) (hR : ∃ R : Nat, R ≤ 6 ∧ M.1 (m 0) 16 = nI R) : jK l yX7_held wsX7_held ({ frames := 1, cells := 0, slots := 0, locals := 22 } : Room) D cy X G M [.ref (m 0), .int r] (some (.int (mHe M m r))) X (pI M (m 0) 0 (mT1 (mIn r 0 (M.1 (m 0) 16 - 1)))) := by
  refine jK_of (own := RX7) (by decide) rfl rfl (Nat.le_of_ble_eq_true rfl) (fun C E hl hD hcy hG => ?_)
  subst hl; subst hD; subst hcy; subst hG
  have hinX7 : ∀ w ∈ u_ws RX7 TX7 34, w ∈ wsX7_held := by decide +kernel
  have hM0 := hM
  obtain ⟨hm1, hm2, hmt, hinj⟩ := hM
  obtain ⟨mp21, ml21, mk21, mn21⟩ := hmt 21 10 6 rfl
  obtain ⟨R, hR6, eR⟩ := hR
  refine j_aload_n E dX7_held_0 rfl rfl ?_
  refine j_iload_n E dX7_held_1 rfl rfl ?_
  refine j_iconst (v := 0) E dX7_held_2 (by decide) ?_
  refine j_aload_n E dX7_held_3 rfl rfl ?_
  refine j_getI (ci := 7) (k := 16) (Cn := RX7) (T := TX7) (N := 34) E dX7_held_4 hm1 hm2 rfl (by decide) hinX7 (by decide +kernel) rfl ?_
  refine j_iconst (v := 1) E dX7_held_7 (by decide) ?_
  refine j_isub E dX7_held_8 ?_
  refine j_callS1 (n := 3) E (k_X7_in ) dX7_held_9 gX7_held_X7_in rfl (by decide +kernel) ⟨rfl, rfl, by decide, by decide⟩ ⟨Nat.zero_le _, Nat.zero_le _⟩ rfl rfl (Nat.le_of_ble_eq_true rfl) rfl ?_
  refine j_if_eq (tgt := 19) E dX7_held_12 (by decide) (fun h12 => ?_) (fun h12 => ?_)
  · refine j_iconst (v := 1) E dX7_held_19 (by decide) ?_
    refine j_putI (ci := 7) (k := 0) (Cn := RX7) (T := TX7) (N := 34) E dX7_held_20 hm1 hm2 rfl (by decide) hinX7 (by decide +kernel) rfl tyX7 tyX7_ok nmX7 rfl rfl rfl rfl ?_
    refine j_aload_n E dX7_held_23 rfl rfl ?_
    refine j_getI (ci := 7) (k := 0) (Cn := RX7) (T := TX7) (N := 34) E dX7_held_24 hm1 hm2 rfl (by decide) hinX7 (by decide +kernel) rfl ?_
    try simp only [pI_m hinj, pF_m hinj, pI_2, pF_1, Nat.reduceEqDiff, Nat.reduceLT, Nat.reduceLeDiff, eq_self, ↓reduceIte]
    refine j_if_le (tgt := 34) E dX7_held_27 (by decide) (fun h27 => ?_) (fun h27 => ?_)
    · first
      | exact absurd h27 (by decide)
      | exact absurd (by decide) h27
      | (
          refine j_aload_n E dX7_held_34 rfl rfl ?_
          refine j_getP (ci := 7) (k := 21) (Cn := RX7) (T := TX7) (N := 34) E dX7_held_35 hm1 hm2 rfl (by decide) hinX7 (by decide +kernel) rfl mp21 ?_
          refine j_iload_n E dX7_held_38 rfl rfl ?_
          refine j_iald E dX7_held_39 ml21 mn21 (ixm1 (R := R) (by rw [← eR]; exact h12) (by omega)).1 (Nat.lt_of_lt_of_le (ixm1 (R := R) (by rw [← eR]; exact h12) (by omega)).2 hR6) (by decide) mk21 ?_
          try simp only [pI_m hinj, pF_m hinj, pI_2, pF_1, Nat.reduceEqDiff, Nat.reduceLT, Nat.reduceLeDiff, eq_self, ↓reduceIte]
          exact j_iret E dX7_held_40 (by simp [mHe, mT1, h12, h27]) rfl (by simp [mHe, mT1, h12, h27])
        )
    · first
      | exact absurd h27 (by decide)
      | exact absurd (by decide) h27
      | (
          refine j_iconst (v := 0) E dX7_held_30 (by decide) ?_
          refine j_goto (tgt := 40) E dX7_held_31 (by decide) ?_
          exact j_iret E dX7_held_40 (by simp [mHe, mT1, h12, h27]) rfl (by simp [mHe, mT1, h12, h27])
        )
  · refine j_iconst (v := 0) E dX7_held_15 (by decide) ?_
    refine j_goto (tgt := 20) E dX7_held_16 (by decide) ?_
    refine j_putI (ci := 7) (k := 0) (Cn := RX7) (T := TX7) (N := 34) E dX7_held_20 hm1 hm2 rfl (by decide) hinX7 (by decide +kernel) rfl tyX7 tyX7_ok nmX7 rfl rfl rfl rfl ?_
    refine j_aload_n E dX7_held_23 rfl rfl ?_
    refine j_getI (ci := 7) (k := 0) (Cn := RX7) (T := TX7) (N := 34) E dX7_held_24 hm1 hm2 rfl (by decide) hinX7 (by decide +kernel) rfl ?_
    try simp only [pI_m hinj, pF_m hinj, pI_2, pF_1, Nat.reduceEqDiff, Nat.reduceLT, Nat.reduceLeDiff, eq_self, ↓reduceIte]
    refine j_if_le (tgt := 34) E dX7_held_27 (by decide) (fun h27 => ?_) (fun h27 => ?_)
    · first
      | exact absurd h27 (by decide)
      | exact absurd (by decide) h27
      | (
          refine j_aload_n E dX7_held_34 rfl rfl ?_
          refine j_getP (ci := 7) (k := 21) (Cn := RX7) (T := TX7) (N := 34) E dX7_held_35 hm1 hm2 rfl (by decide) hinX7 (by decide +kernel) rfl mp21 ?_
          refine j_iload_n E dX7_held_38 rfl rfl ?_
          refine j_iald E dX7_held_39 ml21 mn21 (ixm1 (R := R) (by rw [← eR]; exact h12) (by omega)).1 (Nat.lt_of_lt_of_le (ixm1 (R := R) (by rw [← eR]; exact h12) (by omega)).2 hR6) (by decide) mk21 ?_
          try simp only [pI_m hinj, pF_m hinj, pI_2, pF_1, Nat.reduceEqDiff, Nat.reduceLT, Nat.reduceLeDiff, eq_self, ↓reduceIte]
          exact j_iret E dX7_held_40 (by simp [mHe, mT1, h12, h27]) rfl (by simp [mHe, mT1, h12, h27])
        )
    · first
      | exact absurd h27 (by decide)
      | exact absurd (by decide) h27
      | (
          refine j_iconst (v := 0) E dX7_held_30 (by decide) ?_
          refine j_goto (tgt := 40) E dX7_held_31 (by decide) ?_
          exact j_iret E dX7_held_40 (by simp [mHe, mT1, h12, h27]) rfl (by simp [mHe, mT1, h12, h27])
        )

set_option maxHeartbeats 1600000 in
set_option maxRecDepth 100000 in
theorem k_X7_log {l : Launch} {D : va_G} {cy : Nat → ClassId} {X : va_W} {G : pG} {M : pM} {m : Nat → Nat} {i w : Int32} (hM : wM G m) (hE : ∃ R : Nat, R ≤ 16 ∧ M.1 (m 0) 28 = nI R) : jK l yX7_log wsX7_log ({ frames := 1, cells := 0, slots := 0, locals := 22 } : Room) D cy X G M [.ref (m 0), .int i, .int w] (some (.int (mLo M m i w))) X (pI M (m 0) 0 (mLoT M m i w)) := by
  refine jK_of (own := RX7) (by decide) rfl rfl (Nat.le_of_ble_eq_true rfl) (fun C E hl hD hcy hG => ?_)
  subst hl; subst hD; subst hcy; subst hG
  have hinX7 : ∀ w ∈ u_ws RX7 TX7 34, w ∈ wsX7_log := by decide +kernel
  have hM0 := hM
  obtain ⟨hm1, hm2, hmt, hinj⟩ := hM
  obtain ⟨mp29, ml29, mk29, mn29⟩ := hmt 29 10 48 rfl
  obtain ⟨R, hR6, eR⟩ := hE
  refine j_aload_n E dX7_log_0 rfl rfl ?_
  refine j_iload_n E dX7_log_1 rfl rfl ?_
  refine j_iconst (v := 0) E dX7_log_2 (by decide) ?_
  refine j_aload_n E dX7_log_3 rfl rfl ?_
  refine j_getI (ci := 7) (k := 28) (Cn := RX7) (T := TX7) (N := 34) E dX7_log_4 hm1 hm2 rfl (by decide) hinX7 (by decide +kernel) rfl ?_
  refine j_iconst (v := 1) E dX7_log_7 (by decide) ?_
  refine j_isub E dX7_log_8 ?_
  refine j_callS1 (n := 3) E (k_X7_in ) dX7_log_9 gX7_log_X7_in rfl (by decide +kernel) ⟨rfl, rfl, by decide, by decide⟩ ⟨Nat.zero_le _, Nat.zero_le _⟩ rfl rfl (Nat.le_of_ble_eq_true rfl) rfl ?_
  refine j_if_eq (tgt := 28) E dX7_log_12 (by decide) (fun h12 => ?_) (fun h12 => ?_)
  · refine j_iconst (v := 1) E dX7_log_28 (by decide) ?_
    refine j_putI (ci := 7) (k := 0) (Cn := RX7) (T := TX7) (N := 34) E dX7_log_29 hm1 hm2 rfl (by decide) hinX7 (by decide +kernel) rfl tyX7 tyX7_ok nmX7 rfl rfl rfl rfl ?_
    refine j_aload_n E dX7_log_32 rfl rfl ?_
    refine j_getI (ci := 7) (k := 0) (Cn := RX7) (T := TX7) (N := 34) E dX7_log_33 hm1 hm2 rfl (by decide) hinX7 (by decide +kernel) rfl ?_
    try simp only [pI_m hinj, pF_m hinj, pI_2, pF_1, Nat.reduceEqDiff, Nat.reduceLT, Nat.reduceLeDiff, eq_self, ↓reduceIte]
    refine j_if_le (tgt := 43) E dX7_log_36 (by decide) (fun h36 => ?_) (fun h36 => ?_)
    · first
      | exact absurd h36 (by decide)
      | exact absurd (by decide) h36
      | (
          have q1 := ixm1 (v := i) (R := R) (by rw [← eR]; exact h12) (by omega)
          have q2 := ix01 (v := w) (n := 2) h21 (by decide)
          have hix : (3 : Int32) * i + w = nI (3 * i.toNatClampNeg + w.toNatClampNeg) := by
            have e := mix3 i.toNatClampNeg w.toNatClampNeg
            rw [← q1.1, ← q2.1] at e; exact e
          have hlt : 3 * i.toNatClampNeg + w.toNatClampNeg < 48 := by have := q1.2; have := q2.2; omega
          refine j_aload_n E dX7_log_43 rfl rfl ?_
          refine j_getP (ci := 7) (k := 29) (Cn := RX7) (T := TX7) (N := 34) E dX7_log_44 hm1 hm2 rfl (by decide) hinX7 (by decide +kernel) rfl mp29 ?_
          refine j_iconst (v := 3) E dX7_log_47 (by decide) ?_
          refine j_iload_n E dX7_log_48 rfl rfl ?_
          refine j_imul E dX7_log_49 ?_
          refine j_iload_n E dX7_log_50 rfl rfl ?_
          refine j_iadd E dX7_log_51 ?_
          refine j_iald E dX7_log_52 ml29 mn29 hix hlt (by decide) mk29 ?_
          try simp only [pI_m hinj, pF_m hinj, pI_2, pF_1, Nat.reduceEqDiff, Nat.reduceLT, Nat.reduceLeDiff, eq_self, ↓reduceIte]
          exact j_iret E dX7_log_53 (by simp [mLo, mLoT, h12, h36]) rfl (by simp [mLo, mLoT, h12, h36])
        )
    · first
      | exact absurd h36 (by decide)
      | exact absurd (by decide) h36
      | (
          refine j_iconst (v := 0) E dX7_log_39 (by decide) ?_
          refine j_goto (tgt := 53) E dX7_log_40 (by decide) ?_
          exact j_iret E dX7_log_53 (by simp [mLo, mLoT, h12, h36]) rfl (by simp [mLo, mLoT, h12, h36])
        )
  · refine j_iload_n E dX7_log_15 rfl rfl ?_
    refine j_iconst (v := 0) E dX7_log_16 (by decide) ?_
    refine j_iconst (v := 2) E dX7_log_17 (by decide) ?_
    refine j_callS1 (n := 3) E (k_X7_in ) dX7_log_18 gX7_log_X7_in rfl (by decide +kernel) ⟨rfl, rfl, by decide, by decide⟩ ⟨Nat.zero_le _, Nat.zero_le _⟩ rfl rfl (Nat.le_of_ble_eq_true rfl) rfl ?_
    refine j_if_eq (tgt := 28) E dX7_log_21 (by decide) (fun h21 => ?_) (fun h21 => ?_)
    · refine j_iconst (v := 1) E dX7_log_28 (by decide) ?_
      refine j_putI (ci := 7) (k := 0) (Cn := RX7) (T := TX7) (N := 34) E dX7_log_29 hm1 hm2 rfl (by decide) hinX7 (by decide +kernel) rfl tyX7 tyX7_ok nmX7 rfl rfl rfl rfl ?_
      refine j_aload_n E dX7_log_32 rfl rfl ?_
      refine j_getI (ci := 7) (k := 0) (Cn := RX7) (T := TX7) (N := 34) E dX7_log_33 hm1 hm2 rfl (by decide) hinX7 (by decide +kernel) rfl ?_
      try simp only [pI_m hinj, pF_m hinj, pI_2, pF_1, Nat.reduceEqDiff, Nat.reduceLT, Nat.reduceLeDiff, eq_self, ↓reduceIte]
      refine j_if_le (tgt := 43) E dX7_log_36 (by decide) (fun h36 => ?_) (fun h36 => ?_)
      · first
        | exact absurd h36 (by decide)
        | exact absurd (by decide) h36
        | (
            have q1 := ixm1 (v := i) (R := R) (by rw [← eR]; exact h12) (by omega)
            have q2 := ix01 (v := w) (n := 2) h21 (by decide)
            have hix : (3 : Int32) * i + w = nI (3 * i.toNatClampNeg + w.toNatClampNeg) := by
              have e := mix3 i.toNatClampNeg w.toNatClampNeg
              rw [← q1.1, ← q2.1] at e; exact e
            have hlt : 3 * i.toNatClampNeg + w.toNatClampNeg < 48 := by have := q1.2; have := q2.2; omega
            refine j_aload_n E dX7_log_43 rfl rfl ?_
            refine j_getP (ci := 7) (k := 29) (Cn := RX7) (T := TX7) (N := 34) E dX7_log_44 hm1 hm2 rfl (by decide) hinX7 (by decide +kernel) rfl mp29 ?_
            refine j_iconst (v := 3) E dX7_log_47 (by decide) ?_
            refine j_iload_n E dX7_log_48 rfl rfl ?_
            refine j_imul E dX7_log_49 ?_
            refine j_iload_n E dX7_log_50 rfl rfl ?_
            refine j_iadd E dX7_log_51 ?_
            refine j_iald E dX7_log_52 ml29 mn29 hix hlt (by decide) mk29 ?_
            try simp only [pI_m hinj, pF_m hinj, pI_2, pF_1, Nat.reduceEqDiff, Nat.reduceLT, Nat.reduceLeDiff, eq_self, ↓reduceIte]
            exact j_iret E dX7_log_53 (by simp [mLo, mLoT, h12, h21, h36]) rfl (by simp [mLo, mLoT, h12, h21, h36])
          )
      · first
        | exact absurd h36 (by decide)
        | exact absurd (by decide) h36
        | (
            refine j_iconst (v := 0) E dX7_log_39 (by decide) ?_
            refine j_goto (tgt := 53) E dX7_log_40 (by decide) ?_
            exact j_iret E dX7_log_53 (by simp [mLo, mLoT, h12, h21, h36]) rfl (by simp [mLo, mLoT, h12, h21, h36])
          )
    · refine j_iconst (v := 0) E dX7_log_24 (by decide) ?_
      refine j_goto (tgt := 29) E dX7_log_25 (by decide) ?_
      refine j_putI (ci := 7) (k := 0) (Cn := RX7) (T := TX7) (N := 34) E dX7_log_29 hm1 hm2 rfl (by decide) hinX7 (by decide +kernel) rfl tyX7 tyX7_ok nmX7 rfl rfl rfl rfl ?_
      refine j_aload_n E dX7_log_32 rfl rfl ?_
      refine j_getI (ci := 7) (k := 0) (Cn := RX7) (T := TX7) (N := 34) E dX7_log_33 hm1 hm2 rfl (by decide) hinX7 (by decide +kernel) rfl ?_
      try simp only [pI_m hinj, pF_m hinj, pI_2, pF_1, Nat.reduceEqDiff, Nat.reduceLT, Nat.reduceLeDiff, eq_self, ↓reduceIte]
      refine j_if_le (tgt := 43) E dX7_log_36 (by decide) (fun h36 => ?_) (fun h36 => ?_)
      · first
        | exact absurd h36 (by decide)
        | exact absurd (by decide) h36
        | (
            have q1 := ixm1 (v := i) (R := R) (by rw [← eR]; exact h12) (by omega)
            have q2 := ix01 (v := w) (n := 2) h21 (by decide)
            have hix : (3 : Int32) * i + w = nI (3 * i.toNatClampNeg + w.toNatClampNeg) := by
              have e := mix3 i.toNatClampNeg w.toNatClampNeg
              rw [← q1.1, ← q2.1] at e; exact e
            have hlt : 3 * i.toNatClampNeg + w.toNatClampNeg < 48 := by have := q1.2; have := q2.2; omega
            refine j_aload_n E dX7_log_43 rfl rfl ?_
            refine j_getP (ci := 7) (k := 29) (Cn := RX7) (T := TX7) (N := 34) E dX7_log_44 hm1 hm2 rfl (by decide) hinX7 (by decide +kernel) rfl mp29 ?_
            refine j_iconst (v := 3) E dX7_log_47 (by decide) ?_
            refine j_iload_n E dX7_log_48 rfl rfl ?_
            refine j_imul E dX7_log_49 ?_
            refine j_iload_n E dX7_log_50 rfl rfl ?_
            refine j_iadd E dX7_log_51 ?_
            refine j_iald E dX7_log_52 ml29 mn29 hix hlt (by decide) mk29 ?_
            try simp only [pI_m hinj, pF_m hinj, pI_2, pF_1, Nat.reduceEqDiff, Nat.reduceLT, Nat.reduceLeDiff, eq_self, ↓reduceIte]
            exact j_iret E dX7_log_53 (by simp [mLo, mLoT, h12, h21, h36]) rfl (by simp [mLo, mLoT, h12, h21, h36])
          )
      · first
        | exact absurd h36 (by decide)
        | exact absurd (by decide) h36
        | (
            refine j_iconst (v := 0) E dX7_log_39 (by decide) ?_
            refine j_goto (tgt := 53) E dX7_log_40 (by decide) ?_
            exact j_iret E dX7_log_53 (by simp [mLo, mLoT, h12, h21, h36]) rfl (by simp [mLo, mLoT, h12, h21, h36])
          )

set_option maxHeartbeats 1600000 in
set_option maxRecDepth 100000 in
theorem k_X7_count {l : Launch} {D : va_G} {cy : Nat → ClassId} {X : va_W} {G : pG} {M : pM} {m : Nat → Nat} {w : Int32} (hM : wM G m) : jK l yX7_count wsX7_count ({ frames := 1, cells := 0, slots := 0, locals := 22 } : Room) D cy X G M [.ref (m 0), .int w] (some (.int (mCo M m w))) X (pI M (m 0) 0 (mT1 (mIn w 0 5))) := by
  refine jK_of (own := RX7) (by decide) rfl rfl (Nat.le_of_ble_eq_true rfl) (fun C E hl hD hcy hG => ?_)
  subst hl; subst hD; subst hcy; subst hG
  have hinX7 : ∀ w ∈ u_ws RX7 TX7 34, w ∈ wsX7_count := by decide +kernel
  have hM0 := hM
  obtain ⟨hm1, hm2, hmt, hinj⟩ := hM
  have hft : ∀ t, mFt (pI M (m 0) 0 t) m 16 0 0 = mFt M m 16 0 0 := fun t => mFt_ok (pI0 hinj M 0 t 11 (by decide) (by decide)) 16 0 0
  by_cases hc : mIn w 0 5 = 0
  · refine j_aload_n E dX7_count_0 rfl rfl ?_
    refine j_iload_n E dX7_count_1 rfl rfl ?_
    refine j_iconst (v := 0) E dX7_count_2 (by decide) ?_
    refine j_iconst (v := 5) E dX7_count_3 (by decide) ?_
    refine j_callS1 (n := 3) E (k_X7_in ) dX7_count_4 gX7_count_X7_in rfl (by decide +kernel) ⟨rfl, rfl, by decide, by decide⟩ ⟨Nat.zero_le _, Nat.zero_le _⟩ rfl rfl (Nat.le_of_ble_eq_true rfl) rfl ?_
    refine j_if_eq (tgt := 14) E dX7_count_7 (by decide) (fun h7 => ?_) (fun h7 => ?_)
    · refine j_iconst (v := 1) E dX7_count_14 (by decide) ?_
      refine j_putI (ci := 7) (k := 0) (Cn := RX7) (T := TX7) (N := 34) E dX7_count_15 hm1 hm2 rfl (by decide) hinX7 (by decide +kernel) rfl tyX7 tyX7_ok nmX7 rfl rfl rfl rfl ?_
      refine j_iload_n E dX7_count_18 rfl rfl ?_
      refine j_table (lo := 0) (hi := 5) (tgt := 94) E dX7_count_19 (by decide) (by decide) (fun h => ?_) (fun k h1 h2 e => ?_)
      · have n0 : ¬ w = 0 := by rintro rfl; rcases h with h | h <;> exact absurd h (by decide)
        have n1 : ¬ w = 1 := by rintro rfl; rcases h with h | h <;> exact absurd h (by decide)
        have n2 : ¬ w = 2 := by rintro rfl; rcases h with h | h <;> exact absurd h (by decide)
        have n3 : ¬ w = 3 := by rintro rfl; rcases h with h | h <;> exact absurd h (by decide)
        have n4 : ¬ w = 4 := by rintro rfl; rcases h with h | h <;> exact absurd h (by decide)
        have n5 : ¬ w = 5 := by rintro rfl; rcases h with h | h <;> exact absurd h (by decide)
        refine j_iconst (v := 0) E dX7_count_94 (by decide) ?_
        exact j_iret E dX7_count_95 (by simp [mCo, mT1, n0, n1, n2, n3, n4, n5, hc]) rfl (by simp [mCo, mT1, n0, n1, n2, n3, n4, n5, hc])
      · obtain rfl | rfl | rfl | rfl | rfl | rfl : k = 0 ∨ k = 1 ∨ k = 2 ∨ k = 3 ∨ k = 4 ∨ k = 5 := by omega
        · refine j_tabIn (off := 37) (tgt := 56) E dX7_count_19 (by rw [e]; decide) (by rw [e]; decide) (by rw [e]; rfl) (by decide) ?_
          refine j_aload_n E dX7_count_56 rfl rfl ?_
          refine j_getI (ci := 7) (k := 25) (Cn := RX7) (T := TX7) (N := 34) E dX7_count_57 hm1 hm2 rfl (by decide) hinX7 (by decide +kernel) rfl ?_
          try simp only [pI_m hinj, pF_m hinj, pI_2, pF_1, Nat.reduceEqDiff, Nat.reduceLT, Nat.reduceLeDiff, eq_self, ↓reduceIte]
          exact j_iret E dX7_count_60 (by first | (subst e; simp [mCo, mT1, hc]; done) | (subst e; simp [mCo, mT1, hc, hft]; done) | (subst e; simp [mCo, mT1, hc]; rfl) | (subst e; rw [hft]; rfl) | (subst e; rfl)) rfl (by first | (subst e; simp [mCo, mT1, hc]; done) | (subst e; simp [mCo, mT1, hc, hft]; done) | (subst e; simp [mCo, mT1, hc]; rfl) | (subst e; rw [hft]; rfl) | (subst e; rfl))
        · refine j_tabIn (off := 42) (tgt := 61) E dX7_count_19 (by rw [e]; decide) (by rw [e]; decide) (by rw [e]; rfl) (by decide) ?_
          refine j_aload_n E dX7_count_61 rfl rfl ?_
          refine j_getI (ci := 7) (k := 16) (Cn := RX7) (T := TX7) (N := 34) E dX7_count_62 hm1 hm2 rfl (by decide) hinX7 (by decide +kernel) rfl ?_
          try simp only [pI_m hinj, pF_m hinj, pI_2, pF_1, Nat.reduceEqDiff, Nat.reduceLT, Nat.reduceLeDiff, eq_self, ↓reduceIte]
          exact j_iret E dX7_count_65 (by first | (subst e; simp [mCo, mT1, hc]; done) | (subst e; simp [mCo, mT1, hc, hft]; done) | (subst e; simp [mCo, mT1, hc]; rfl) | (subst e; rw [hft]; rfl) | (subst e; rfl)) rfl (by first | (subst e; simp [mCo, mT1, hc]; done) | (subst e; simp [mCo, mT1, hc, hft]; done) | (subst e; simp [mCo, mT1, hc]; rfl) | (subst e; rw [hft]; rfl) | (subst e; rfl))
        · refine j_tabIn (off := 47) (tgt := 66) E dX7_count_19 (by rw [e]; decide) (by rw [e]; decide) (by rw [e]; rfl) (by decide) ?_
          refine j_aload_n E dX7_count_66 rfl rfl ?_
          refine j_getI (ci := 7) (k := 26) (Cn := RX7) (T := TX7) (N := 34) E dX7_count_67 hm1 hm2 rfl (by decide) hinX7 (by decide +kernel) rfl ?_
          try simp only [pI_m hinj, pF_m hinj, pI_2, pF_1, Nat.reduceEqDiff, Nat.reduceLT, Nat.reduceLeDiff, eq_self, ↓reduceIte]
          exact j_iret E dX7_count_70 (by first | (subst e; simp [mCo, mT1, hc]; done) | (subst e; simp [mCo, mT1, hc, hft]; done) | (subst e; simp [mCo, mT1, hc]; rfl) | (subst e; rw [hft]; rfl) | (subst e; rfl)) rfl (by first | (subst e; simp [mCo, mT1, hc]; done) | (subst e; simp [mCo, mT1, hc, hft]; done) | (subst e; simp [mCo, mT1, hc]; rfl) | (subst e; rw [hft]; rfl) | (subst e; rfl))
        · refine j_tabIn (off := 52) (tgt := 71) E dX7_count_19 (by rw [e]; decide) (by rw [e]; decide) (by rw [e]; rfl) (by decide) ?_
          refine j_aload_n E dX7_count_71 rfl rfl ?_
          refine j_getI (ci := 7) (k := 27) (Cn := RX7) (T := TX7) (N := 34) E dX7_count_72 hm1 hm2 rfl (by decide) hinX7 (by decide +kernel) rfl ?_
          try simp only [pI_m hinj, pF_m hinj, pI_2, pF_1, Nat.reduceEqDiff, Nat.reduceLT, Nat.reduceLeDiff, eq_self, ↓reduceIte]
          refine j_if_eq (tgt := 82) E dX7_count_75 (by decide) (fun h75 => ?_) (fun h75 => ?_)
          · refine j_iconst (v := 0) E dX7_count_82 (by decide) ?_
            exact j_iret E dX7_count_83 (by first | (subst e; simp [mCo, mT1, hc, h75]; done) | (subst e; simp [mCo, mT1, hc, h75, hft]; done) | (subst e; simp [mCo, mT1, hc, h75]; rfl) | (subst e; rw [hft]; rfl) | (subst e; rfl)) rfl (by first | (subst e; simp [mCo, mT1, hc, h75]; done) | (subst e; simp [mCo, mT1, hc, h75, hft]; done) | (subst e; simp [mCo, mT1, hc, h75]; rfl) | (subst e; rw [hft]; rfl) | (subst e; rfl))
          · refine j_iconst (v := 1) E dX7_count_78 (by decide) ?_
            refine j_goto (tgt := 83) E dX7_count_79 (by decide) ?_
            exact j_iret E dX7_count_83 (by first | (subst e; simp [mCo, mT1, hc, h75]; done) | (subst e; simp [mCo, mT1, hc, h75, hft]; done) | (subst e; simp [mCo, mT1, hc, h75]; rfl) | (subst e; rw [hft]; rfl) | (subst e; rfl)) rfl (by first | (subst e; simp [mCo, mT1, hc, h75]; done) | (subst e; simp [mCo, mT1, hc, h75, hft]; done) | (subst e; simp [mCo, mT1, hc, h75]; rfl) | (subst e; rw [hft]; rfl) | (subst e; rfl))
        · refine j_tabIn (off := 65) (tgt := 84) E dX7_count_19 (by rw [e]; decide) (by rw [e]; decide) (by rw [e]; rfl) (by decide) ?_
          refine j_aload_n E dX7_count_84 rfl rfl ?_
          refine j_getI (ci := 7) (k := 23) (Cn := RX7) (T := TX7) (N := 34) E dX7_count_85 hm1 hm2 rfl (by decide) hinX7 (by decide +kernel) rfl ?_
          try simp only [pI_m hinj, pF_m hinj, pI_2, pF_1, Nat.reduceEqDiff, Nat.reduceLT, Nat.reduceLeDiff, eq_self, ↓reduceIte]
          exact j_iret E dX7_count_88 (by first | (subst e; simp [mCo, mT1, hc]; done) | (subst e; simp [mCo, mT1, hc, hft]; done) | (subst e; simp [mCo, mT1, hc]; rfl) | (subst e; rw [hft]; rfl) | (subst e; rfl)) rfl (by first | (subst e; simp [mCo, mT1, hc]; done) | (subst e; simp [mCo, mT1, hc, hft]; done) | (subst e; simp [mCo, mT1, hc]; rfl) | (subst e; rw [hft]; rfl) | (subst e; rfl))
        · refine j_tabIn (off := 70) (tgt := 89) E dX7_count_19 (by rw [e]; decide) (by rw [e]; decide) (by rw [e]; rfl) (by decide) ?_
          refine j_aload_n E dX7_count_89 rfl rfl ?_
          refine j_callV1 (ci := 7) (n := 0) E (k_X7_faults hM0) dX7_count_90 gX7_count_X7_faults rfl (by decide +kernel) ⟨rfl, rfl, by decide, by decide⟩ ⟨Nat.zero_le _, Nat.zero_le _⟩ hm1 hm2 rfl rfl rfl (Nat.le_of_ble_eq_true rfl) rfl ?_
          exact j_iret E dX7_count_93 (by first | (subst e; simp [mCo, mT1, hc]; done) | (subst e; simp [mCo, mT1, hc, hft]; done) | (subst e; simp [mCo, mT1, hc]; rfl) | (subst e; rw [hft]; rfl) | (subst e; rfl)) rfl (by first | (subst e; simp [mCo, mT1, hc]; done) | (subst e; simp [mCo, mT1, hc, hft]; done) | (subst e; simp [mCo, mT1, hc]; rfl) | (subst e; rw [hft]; rfl) | (subst e; rfl))
    · exact absurd hc h7
  · refine j_aload_n E dX7_count_0 rfl rfl ?_
    refine j_iload_n E dX7_count_1 rfl rfl ?_
    refine j_iconst (v := 0) E dX7_count_2 (by decide) ?_
    refine j_iconst (v := 5) E dX7_count_3 (by decide) ?_
    refine j_callS1 (n := 3) E (k_X7_in ) dX7_count_4 gX7_count_X7_in rfl (by decide +kernel) ⟨rfl, rfl, by decide, by decide⟩ ⟨Nat.zero_le _, Nat.zero_le _⟩ rfl rfl (Nat.le_of_ble_eq_true rfl) rfl ?_
    refine j_if_eq (tgt := 14) E dX7_count_7 (by decide) (fun h7 => ?_) (fun h7 => ?_)
    · exact absurd h7 hc
    · refine j_iconst (v := 0) E dX7_count_10 (by decide) ?_
      refine j_goto (tgt := 15) E dX7_count_11 (by decide) ?_
      refine j_putI (ci := 7) (k := 0) (Cn := RX7) (T := TX7) (N := 34) E dX7_count_15 hm1 hm2 rfl (by decide) hinX7 (by decide +kernel) rfl tyX7 tyX7_ok nmX7 rfl rfl rfl rfl ?_
      refine j_iload_n E dX7_count_18 rfl rfl ?_
      refine j_table (lo := 0) (hi := 5) (tgt := 94) E dX7_count_19 (by decide) (by decide) (fun h => ?_) (fun k h1 h2 e => ?_)
      · have n0 : ¬ w = 0 := by rintro rfl; rcases h with h | h <;> exact absurd h (by decide)
        have n1 : ¬ w = 1 := by rintro rfl; rcases h with h | h <;> exact absurd h (by decide)
        have n2 : ¬ w = 2 := by rintro rfl; rcases h with h | h <;> exact absurd h (by decide)
        have n3 : ¬ w = 3 := by rintro rfl; rcases h with h | h <;> exact absurd h (by decide)
        have n4 : ¬ w = 4 := by rintro rfl; rcases h with h | h <;> exact absurd h (by decide)
        have n5 : ¬ w = 5 := by rintro rfl; rcases h with h | h <;> exact absurd h (by decide)
        refine j_iconst (v := 0) E dX7_count_94 (by decide) ?_
        exact j_iret E dX7_count_95 (by simp [mCo, mT1, n0, n1, n2, n3, n4, n5, hc]) rfl (by simp [mCo, mT1, n0, n1, n2, n3, n4, n5, hc])
      · obtain rfl | rfl | rfl | rfl | rfl | rfl : k = 0 ∨ k = 1 ∨ k = 2 ∨ k = 3 ∨ k = 4 ∨ k = 5 := by omega
        · refine j_tabIn (off := 37) (tgt := 56) E dX7_count_19 (by rw [e]; decide) (by rw [e]; decide) (by rw [e]; rfl) (by decide) ?_
          refine j_aload_n E dX7_count_56 rfl rfl ?_
          refine j_getI (ci := 7) (k := 25) (Cn := RX7) (T := TX7) (N := 34) E dX7_count_57 hm1 hm2 rfl (by decide) hinX7 (by decide +kernel) rfl ?_
          try simp only [pI_m hinj, pF_m hinj, pI_2, pF_1, Nat.reduceEqDiff, Nat.reduceLT, Nat.reduceLeDiff, eq_self, ↓reduceIte]
          exact j_iret E dX7_count_60 (by first | (subst e; simp [mCo, mT1, hc]; done) | (subst e; simp [mCo, mT1, hc, hft]; done) | (subst e; simp [mCo, mT1, hc]; rfl) | (subst e; rw [hft]; rfl) | (subst e; rfl)) rfl (by first | (subst e; simp [mCo, mT1, hc]; done) | (subst e; simp [mCo, mT1, hc, hft]; done) | (subst e; simp [mCo, mT1, hc]; rfl) | (subst e; rw [hft]; rfl) | (subst e; rfl))
        · refine j_tabIn (off := 42) (tgt := 61) E dX7_count_19 (by rw [e]; decide) (by rw [e]; decide) (by rw [e]; rfl) (by decide) ?_
          refine j_aload_n E dX7_count_61 rfl rfl ?_
          refine j_getI (ci := 7) (k := 16) (Cn := RX7) (T := TX7) (N := 34) E dX7_count_62 hm1 hm2 rfl (by decide) hinX7 (by decide +kernel) rfl ?_
          try simp only [pI_m hinj, pF_m hinj, pI_2, pF_1, Nat.reduceEqDiff, Nat.reduceLT, Nat.reduceLeDiff, eq_self, ↓reduceIte]
          exact j_iret E dX7_count_65 (by first | (subst e; simp [mCo, mT1, hc]; done) | (subst e; simp [mCo, mT1, hc, hft]; done) | (subst e; simp [mCo, mT1, hc]; rfl) | (subst e; rw [hft]; rfl) | (subst e; rfl)) rfl (by first | (subst e; simp [mCo, mT1, hc]; done) | (subst e; simp [mCo, mT1, hc, hft]; done) | (subst e; simp [mCo, mT1, hc]; rfl) | (subst e; rw [hft]; rfl) | (subst e; rfl))
        · refine j_tabIn (off := 47) (tgt := 66) E dX7_count_19 (by rw [e]; decide) (by rw [e]; decide) (by rw [e]; rfl) (by decide) ?_
          refine j_aload_n E dX7_count_66 rfl rfl ?_
          refine j_getI (ci := 7) (k := 26) (Cn := RX7) (T := TX7) (N := 34) E dX7_count_67 hm1 hm2 rfl (by decide) hinX7 (by decide +kernel) rfl ?_
          try simp only [pI_m hinj, pF_m hinj, pI_2, pF_1, Nat.reduceEqDiff, Nat.reduceLT, Nat.reduceLeDiff, eq_self, ↓reduceIte]
          exact j_iret E dX7_count_70 (by first | (subst e; simp [mCo, mT1, hc]; done) | (subst e; simp [mCo, mT1, hc, hft]; done) | (subst e; simp [mCo, mT1, hc]; rfl) | (subst e; rw [hft]; rfl) | (subst e; rfl)) rfl (by first | (subst e; simp [mCo, mT1, hc]; done) | (subst e; simp [mCo, mT1, hc, hft]; done) | (subst e; simp [mCo, mT1, hc]; rfl) | (subst e; rw [hft]; rfl) | (subst e; rfl))
        · refine j_tabIn (off := 52) (tgt := 71) E dX7_count_19 (by rw [e]; decide) (by rw [e]; decide) (by rw [e]; rfl) (by decide) ?_
          refine j_aload_n E dX7_count_71 rfl rfl ?_
          refine j_getI (ci := 7) (k := 27) (Cn := RX7) (T := TX7) (N := 34) E dX7_count_72 hm1 hm2 rfl (by decide) hinX7 (by decide +kernel) rfl ?_
          try simp only [pI_m hinj, pF_m hinj, pI_2, pF_1, Nat.reduceEqDiff, Nat.reduceLT, Nat.reduceLeDiff, eq_self, ↓reduceIte]
          refine j_if_eq (tgt := 82) E dX7_count_75 (by decide) (fun h75 => ?_) (fun h75 => ?_)
          · refine j_iconst (v := 0) E dX7_count_82 (by decide) ?_
            exact j_iret E dX7_count_83 (by first | (subst e; simp [mCo, mT1, hc, h75]; done) | (subst e; simp [mCo, mT1, hc, h75, hft]; done) | (subst e; simp [mCo, mT1, hc, h75]; rfl) | (subst e; rw [hft]; rfl) | (subst e; rfl)) rfl (by first | (subst e; simp [mCo, mT1, hc, h75]; done) | (subst e; simp [mCo, mT1, hc, h75, hft]; done) | (subst e; simp [mCo, mT1, hc, h75]; rfl) | (subst e; rw [hft]; rfl) | (subst e; rfl))
          · refine j_iconst (v := 1) E dX7_count_78 (by decide) ?_
            refine j_goto (tgt := 83) E dX7_count_79 (by decide) ?_
            exact j_iret E dX7_count_83 (by first | (subst e; simp [mCo, mT1, hc, h75]; done) | (subst e; simp [mCo, mT1, hc, h75, hft]; done) | (subst e; simp [mCo, mT1, hc, h75]; rfl) | (subst e; rw [hft]; rfl) | (subst e; rfl)) rfl (by first | (subst e; simp [mCo, mT1, hc, h75]; done) | (subst e; simp [mCo, mT1, hc, h75, hft]; done) | (subst e; simp [mCo, mT1, hc, h75]; rfl) | (subst e; rw [hft]; rfl) | (subst e; rfl))
        · refine j_tabIn (off := 65) (tgt := 84) E dX7_count_19 (by rw [e]; decide) (by rw [e]; decide) (by rw [e]; rfl) (by decide) ?_
          refine j_aload_n E dX7_count_84 rfl rfl ?_
          refine j_getI (ci := 7) (k := 23) (Cn := RX7) (T := TX7) (N := 34) E dX7_count_85 hm1 hm2 rfl (by decide) hinX7 (by decide +kernel) rfl ?_
          try simp only [pI_m hinj, pF_m hinj, pI_2, pF_1, Nat.reduceEqDiff, Nat.reduceLT, Nat.reduceLeDiff, eq_self, ↓reduceIte]
          exact j_iret E dX7_count_88 (by first | (subst e; simp [mCo, mT1, hc]; done) | (subst e; simp [mCo, mT1, hc, hft]; done) | (subst e; simp [mCo, mT1, hc]; rfl) | (subst e; rw [hft]; rfl) | (subst e; rfl)) rfl (by first | (subst e; simp [mCo, mT1, hc]; done) | (subst e; simp [mCo, mT1, hc, hft]; done) | (subst e; simp [mCo, mT1, hc]; rfl) | (subst e; rw [hft]; rfl) | (subst e; rfl))
        · refine j_tabIn (off := 70) (tgt := 89) E dX7_count_19 (by rw [e]; decide) (by rw [e]; decide) (by rw [e]; rfl) (by decide) ?_
          refine j_aload_n E dX7_count_89 rfl rfl ?_
          refine j_callV1 (ci := 7) (n := 0) E (k_X7_faults hM0) dX7_count_90 gX7_count_X7_faults rfl (by decide +kernel) ⟨rfl, rfl, by decide, by decide⟩ ⟨Nat.zero_le _, Nat.zero_le _⟩ hm1 hm2 rfl rfl rfl (Nat.le_of_ble_eq_true rfl) rfl ?_
          exact j_iret E dX7_count_93 (by first | (subst e; simp [mCo, mT1, hc]; done) | (subst e; simp [mCo, mT1, hc, hft]; done) | (subst e; simp [mCo, mT1, hc]; rfl) | (subst e; rw [hft]; rfl) | (subst e; rfl)) rfl (by first | (subst e; simp [mCo, mT1, hc]; done) | (subst e; simp [mCo, mT1, hc, hft]; done) | (subst e; simp [mCo, mT1, hc]; rfl) | (subst e; rw [hft]; rfl) | (subst e; rfl))
