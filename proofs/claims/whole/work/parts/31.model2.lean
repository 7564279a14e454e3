/-! The reference: sensing, asking, burning. -/
theorem mNt_n {m : Nat → Nat} {b : Nat} (h : b ≠ m 29) : ∀ (j : Nat) (M : pM), (mNt m j M).1 b = M.1 b
  | 0, M => rfl
  | j + 1, M => by rw [mNt, mNt_n h j, pI_1n _ _ _ h]
theorem mNt_2 (m : Nat → Nat) : ∀ (j : Nat) (M : pM), (mNt m j M).2 = M.2
  | 0, M => rfl
  | j + 1, M => by rw [mNt, mNt_2 m j]; rfl
theorem mNote_2 (M : pM) (m : Nat → Nat) (u v : Int32) : (mNote M m u v).2 = M.2 := by
  unfold mNote
  rw [pI_2, pI_2, pI_2, pI_2, mNt_2]
theorem mNote_n (M : pM) {m : Nat → Nat} {b : Nat} (u v : Int32) (h0 : b ≠ m 0) (h : b ≠ m 29) : (mNote M m u v).1 b = M.1 b := by
  unfold mNote
  rw [pI_1n _ _ _ h0, pI_1n _ _ _ h, pI_1n _ _ _ h, pI_1n _ _ _ h, mNt_n h]
theorem mNote_m {m : Nat → Nat} (hinj : ∀ i j, i < 34 → j < 34 → m i = m j → i = j) (M : pM) (u v : Int32) (i : Nat) (hi : i < 34) (h0 : i ≠ 0) (h29 : i ≠ 29) : (mNote M m u v).1 (m i) = M.1 (m i) := mNote_n M u v (fun e => h0 (hinj i 0 hi (by decide) e)) (fun e => h29 (hinj i 29 hi (by decide) e))
theorem mNote_0 {m : Nat → Nat} (hinj : ∀ i j, i < 34 → j < 34 → m i = m j → i = j) (M : pM) (u v : Int32) (k : Nat) (hk : k ≠ 28) : (mNote M m u v).1 (m 0) k = M.1 (m 0) k := by
  have h : m 0 ≠ m 29 := fun e => absurd (hinj 0 29 (by decide) (by decide) e) (by decide)
  unfold mNote
  rw [pI_rd, if_neg hk, pI_1n _ _ _ h, pI_1n _ _ _ h, pI_1n _ _ _ h, mNt_n h]
def mVal (M : pM) (m : Nat → Nat) (p : Nat) : UInt32 := M.2 (m 5) p
abbrev mDD (M : pM) (m : Nat → Nat) (p : Nat) : UInt32 := FP.fsub (M.2 (m 5) p) (M.2 (m 6) p)
abbrev mSmL (M : pM) (m : Nat → Nat) (p : Nat) : UInt32 := FP.fadd (M.2 (m 7) p) (FP.fmul (FP.fsub (mDD M m p) (M.2 (m 7) p)) 1056964608)
abbrev mSmB (M : pM) (m : Nat → Nat) (p : Nat) : UInt32 := FP.fadd (M.2 (m 6) p) (FP.fmul (mDD M m p) 1031798784)
abbrev mHtL (M : pM) (m : Nat → Nat) (p : Nat) : UInt32 := FP.fadd (FP.fmul (mDD M m p) 1082130432) (FP.fmul (M.2 (m 5) p) 1048576000)
def mBut (M : pM) (m : Nat → Nat) (p : Nat) : pM := pF (pI M (m 8) p (if Op.cmpValue (FP.fcmp (M.2 (m 5) p) FP.fconst0) .l ≤ 0 then M.1 (m 8) p else 3)) (m 7) p (M.2 (m 5) p)
def mLv (M : pM) (m : Nat → Nat) (p : Nat) : UInt32 := if M.1 (m 2) p = 1 then mSmL M m p else mHtL M m p
def mOv (M : pM) (m : Nat → Nat) (p : Nat) : Int32 := if Op.cmpValue (FP.fcmp (mLv M m p) (M.2 (m 4) p)) .l < 0 then 0 else M.1 (m 8) p + 1
def mS2 (M : pM) (m : Nat → Nat) (p : Nat) : pM := pI (pF M (m 7) p (mLv M m p)) (m 8) p (mOv M m p)
def mS3 (M : pM) (m : Nat → Nat) (p : Nat) : pM := if M.1 (m 2) p = 2 then pF (mS2 M m p) (m 6) p (M.2 (m 5) p) else if mOv M m p = 0 then pF (mS2 M m p) (m 6) p (mSmB M m p) else mS2 M m p
def mSen1 (M : pM) (m : Nat → Nat) (p : Nat) : pM := if M.1 (m 2) p = 3 then mBut M m p else mS3 M m p
def mAl (M : pM) (m : Nat → Nat) (p : Nat) : pM := pI M (m 9) p (if M.1 (m 9) p = 0 then (if M.1 (m 8) p < 3 then 0 else 1) else 1)
def mSense (M : pM) (m : Nat → Nat) (p : Nat) : pM := mAl (mSen1 M m p) m p
def okM (M : pM) (m : Nat → Nat) (p : Nat) : Prop := vf_n32 (mDD M m p) ∧ (M.1 (m 2) p = 1 → vf_n32 (FP.fsub (mDD M m p) (M.2 (m 7) p)) ∧ vf_n32 (FP.fmul (FP.fsub (mDD M m p) (M.2 (m 7) p)) 1056964608) ∧ vf_n32 (mSmL M m p)) ∧ (¬ M.1 (m 2) p = 1 → vf_n32 (FP.fmul (mDD M m p) 1082130432) ∧ vf_n32 (FP.fmul (M.2 (m 5) p) 1048576000) ∧ vf_n32 (mHtL M m p)) ∧ vf_n32 (FP.fmul (mDD M m p) 1031798784) ∧ vf_n32 (mSmB M m p)
def mAsk (M : pM) (m : Nat → Nat) (p : Nat) : pM := if mReach M m p = 0 then (if M.1 (m 10) p + 1 = 2 then mNote (pI (pI M (m 10) p (M.1 (m 10) p + 1)) (m 11) p 1) m 2 (nI p) else pI M (m 10) p (M.1 (m 10) p + 1)) else
  (if M.1 (m 12) p = 0 then mSense (if M.1 (m 11) p = 0 then pI M (m 10) p 0 else mNote (pI (pI M (m 10) p 0) (m 11) p 0) m 3 (nI p)) m p else (if M.1 (m 11) p = 0 then pI M (m 10) p 0 else mNote (pI (pI M (m 10) p 0) (m 11) p 0) m 3 (nI p)))
def mIsAl (M : pM) (m : Nat → Nat) (z : Int32) (p : Nat) : Int32 := if mMine M m z p = 0 then 0 else if M.1 (m 9) p = 0 then 0 else 1
def mBuL (M : pM) (m : Nat → Nat) (z : Int32) : Nat → Nat → Int32 → Int32 → Int32 × Int32
  | 0, _, n, b => (n, b)
  | k + 1, p, n, b => mBuL M m z k (p + 1) (if mIsAl M m z p = 0 then n else n + 1) (if b = 0 then (if mIsAl M m z p = 0 then 0 else if M.1 (m 2) p = 3 then 1 else 0) else 1)
def mBurn (M : pM) (m : Nat → Nat) (z : Nat) : Int32 := if M.1 (m 13) z = 0 then (if M.1 (m 15) z = 0 then (if M.1 (m 14) z ≤ (mBuL M m (nI z) 16 0 0 0).1 then 1 else if (mBuL M m (nI z) 16 0 0 0).2 = 0 then 0 else 1) else 0) else 0

set_option maxHeartbeats 1600000 in
set_option maxRecDepth 100000 in
theorem kl_X7_warns_4 {C : jC} (E : jE C cX7_warns 5 wsX7_warns RX7 (some .boolean) ({ frames := 2, cells := 0, slots := 0, locals := 43 } : Room)) {X : va_W} {M : pM} {m : Nat → Nat} {z : Int32} (hM : wM (jG C) m) (hok : ∀ p, p < 16 → vf_n32 (FP.fmul (M.2 (m 4) p) 1061158912)) : ∀ (n p : Nat) (s : Int32), p + n = 16 → (s = 0 ∨ s = 1) → jW C 5 4 [(0, .ref (m 0)), (1, .int z), (2, .int s), (3, .int (nI p))] [] X M 0 0 (jZ C X M (some (.int (mWn M m z n p s))) 0 0) := by
  have hinX7 : ∀ w ∈ u_ws RX7 TX7 34, w ∈ wsX7_warns := by decide +kernel
  have hM0 := hM
  obtain ⟨hm1, hm2, hmt, hinj⟩ := hM
  obtain ⟨mp2, ml2, mk2, mn2⟩ := hmt 2 10 16 rfl
  obtain ⟨mp3, ml3, mk3, mn3⟩ := hmt 3 10 16 rfl
  obtain ⟨mp4, ml4, mk4, mn4⟩ := hmt 4 9 16 rfl
  obtain ⟨mp7, ml7, mk7, mn7⟩ := hmt 7 9 16 rfl
  obtain ⟨mp9, ml9, mk9, mn9⟩ := hmt 9 11 16 rfl
  obtain ⟨mp12, ml12, mk12, mn12⟩ := hmt 12 11 16 rfl
  intro n
  induction n with
  | zero =>
    intro p s hn hs
    obtain rfl : p = 16 := by omega
    refine j_iload_n E dX7_warns_4 rfl rfl ?_
    refine j_bipush (v := 16) E dX7_warns_5 (by decide) ?_
    refine j_icmp_ge (tgt := 103) E dX7_warns_7 (by decide) (fun h => ?_) (fun h => absurd (by decide) h)
    refine j_iload_n E dX7_warns_103 rfl rfl ?_
    exact j_zret E dX7_warns_104 (nz01 hs) (by rfl) rfl (by rfl)
  | succ n ih =>
    intro p s hn hs
    have hp : p < 16 := by omega
    refine j_iload_n E dX7_warns_4 rfl rfl ?_
    refine j_bipush (v := 16) E dX7_warns_5 (by decide) ?_
    refine j_icmp_ge (tgt := 103) E dX7_warns_7 (by decide) (fun h7 => ?_) (fun h7 => ?_)
    · exact absurd h7 (nI_ge (b := 16) hp (by decide))
    · refine j_aload_n E dX7_warns_10 rfl rfl ?_
      refine j_iload_n E dX7_warns_11 rfl rfl ?_
      refine j_callV1 (ci := 7) (n := 1) E (k_X7_isSensor hM0 hp) dX7_warns_12 gX7_warns_X7_isSensor rfl (by decide +kernel) ⟨rfl, rfl, by decide, by decide⟩ ⟨Nat.zero_le _, Nat.zero_le _⟩ hm1 hm2 rfl rfl rfl (Nat.le_of_ble_eq_true rfl) rfl ?_
      refine j_if_eq (tgt := 41) E dX7_warns_15 (by decide) (fun h15 => ?_) (fun h15 => ?_)
      · refine j_iconst (v := 0) E dX7_warns_41 (by decide) ?_
        refine j_istore E dX7_warns_42 (by decide) ?_
        refine j_iload_n E dX7_warns_44 rfl rfl ?_
        refine j_if_ne (tgt := 91) E dX7_warns_45 (by decide) (fun h45 => ?_) (fun h45 => ?_)
        · refine j_iconst (v := 1) E dX7_warns_91 (by decide) ?_
          refine j_goto (tgt := 96) E dX7_warns_92 (by decide) ?_
          refine j_istore_n E dX7_warns_96 rfl (by decide) ?_
          refine j_iinc E dX7_warns_97 rfl (by decide) ?_
          refine j_goto (tgt := 4) E dX7_warns_100 (by decide) ?_
          exact j_lv [0, 1, 2, 3] rfl (by rw [nI_inc]; exact j_r (by first | (simp [mWn, mWn1, mMine, h7, h15, h45]; done) | (exfalso; revert h7 h15 h45; simp; done)) rfl (ih (p + 1) _ (by omega) (by simp)))
        · refine j_iload E dX7_warns_48 rfl ?_
          refine j_if_eq (tgt := 95) E dX7_warns_50 (by decide) (fun h50 => ?_) (fun h50 => ?_)
          · refine j_iconst (v := 0) E dX7_warns_95 (by decide) ?_
            refine j_istore_n E dX7_warns_96 rfl (by decide) ?_
            refine j_iinc E dX7_warns_97 rfl (by decide) ?_
            refine j_goto (tgt := 4) E dX7_warns_100 (by decide) ?_
            exact j_lv [0, 1, 2, 3] rfl (by rw [nI_inc]; exact j_r (by first | (simp [mWn, mWn1, mMine, h7, h15, h45, h50]; done) | (exfalso; revert h7 h15 h45 h50; simp; done)) rfl (ih (p + 1) _ (by omega) (by simp)))
          · refine j_aload_n E dX7_warns_53 rfl rfl ?_
            refine j_getP (ci := 7) (k := 9) (Cn := RX7) (T := TX7) (N := 34) E dX7_warns_54 hm1 hm2 rfl (by decide) hinX7 (by decide +kernel) rfl mp9 ?_
            refine j_iload_n E dX7_warns_57 rfl rfl ?_
            refine j_zald E dX7_warns_58 ml9 mn9 rfl hp (by decide) mk9 ?_
            refine j_if_ne (tgt := 91) E dX7_warns_59 (by decide) (fun h59 => ?_) (fun h59 => ?_)
            · refine j_iconst (v := 1) E dX7_warns_91 (by decide) ?_
              refine j_goto (tgt := 96) E dX7_warns_92 (by decide) ?_
              refine j_istore_n E dX7_warns_96 rfl (by decide) ?_
              refine j_iinc E dX7_warns_97 rfl (by decide) ?_
              refine j_goto (tgt := 4) E dX7_warns_100 (by decide) ?_
              exact j_lv [0, 1, 2, 3] rfl (by rw [nI_inc]; exact j_r (by first | (simp [mWn, mWn1, mMine, h7, h15, h45, h50, h59]; done) | (exfalso; revert h7 h15 h45 h50 h59; simp; done)) rfl (ih (p + 1) _ (by omega) (by simp)))
            · refine j_aload_n E dX7_warns_62 rfl rfl ?_
              refine j_getP (ci := 7) (k := 2) (Cn := RX7) (T := TX7) (N := 34) E dX7_warns_63 hm1 hm2 rfl (by decide) hinX7 (by decide +kernel) rfl mp2 ?_
              refine j_iload_n E dX7_warns_66 rfl rfl ?_
              refine j_iald E dX7_warns_67 ml2 mn2 rfl hp (by decide) mk2 ?_
              refine j_iconst (v := 1) E dX7_warns_68 (by decide) ?_
              refine j_icmp_ne (tgt := 95) E dX7_warns_69 (by decide) (fun h69 => ?_) (fun h69 => ?_)
              · refine j_iconst (v := 0) E dX7_warns_95 (by decide) ?_
                refine j_istore_n E dX7_warns_96 rfl (by decide) ?_
                refine j_iinc E dX7_warns_97 rfl (by decide) ?_
                refine j_goto (tgt := 4) E dX7_warns_100 (by decide) ?_
                exact j_lv [0, 1, 2, 3] rfl (by rw [nI_inc]; exact j_r (by first | (simp [mWn, mWn1, mMine, h7, h15, h45, h50, h59, h69]; done) | (exfalso; revert h7 h15 h45 h50 h59 h69; simp; done)) rfl (ih (p + 1) _ (by omega) (by simp)))
              · refine j_aload_n E dX7_warns_72 rfl rfl ?_
                refine j_getP (ci := 7) (k := 7) (Cn := RX7) (T := TX7) (N := 34) E dX7_warns_73 hm1 hm2 rfl (by decide) hinX7 (by decide +kernel) rfl mp7 ?_
                refine j_iload_n E dX7_warns_76 rfl rfl ?_
                refine j_fald E dX7_warns_77 ml7 mn7 rfl hp (by decide) mk7 ?_
                refine j_aload_n E dX7_warns_78 rfl rfl ?_
                refine j_getP (ci := 7) (k := 4) (Cn := RX7) (T := TX7) (N := 34) E dX7_warns_79 hm1 hm2 rfl (by decide) hinX7 (by decide +kernel) rfl mp4 ?_
                refine j_iload_n E dX7_warns_82 rfl rfl ?_
                refine j_fald E dX7_warns_83 ml4 mn4 rfl hp (by decide) mk4 ?_
                refine j_ldcf (v := 1061158912) E (by decide +kernel) dX7_warns_84 ?_
                refine j_fmul E dX7_warns_86 (hok p hp) ?_
                refine j_fcmp E dX7_warns_87 ?_
                refine j_if_lt (tgt := 95) E dX7_warns_88 (by decide) (fun h88 => ?_) (fun h88 => ?_)
                · refine j_iconst (v := 0) E dX7_warns_95 (by decide) ?_
                  refine j_istore_n E dX7_warns_96 rfl (by decide) ?_
                  refine j_iinc E dX7_warns_97 rfl (by decide) ?_
                  refine j_goto (tgt := 4) E dX7_warns_100 (by decide) ?_
                  exact j_lv [0, 1, 2, 3] rfl (by rw [nI_inc]; exact j_r (by first | (simp [mWn, mWn1, mMine, h7, h15, h45, h50, h59, h69, h88]; done) | (exfalso; revert h7 h15 h45 h50 h59 h69 h88; simp; done)) rfl (ih (p + 1) _ (by omega) (by simp)))
                · refine j_iconst (v := 1) E dX7_warns_91 (by decide) ?_
                  refine j_goto (tgt := 96) E dX7_warns_92 (by decide) ?_
                  refine j_istore_n E dX7_warns_96 rfl (by decide) ?_
                  refine j_iinc E dX7_warns_97 rfl (by decide) ?_
                  refine j_goto (tgt := 4) E dX7_warns_100 (by decide) ?_
                  exact j_lv [0, 1, 2, 3] rfl (by rw [nI_inc]; exact j_r (by first | (simp [mWn, mWn1, mMine, h7, h15, h45, h50, h59, h69, h88]; done) | (exfalso; revert h7 h15 h45 h50 h59 h69 h88; simp; done)) rfl (ih (p + 1) _ (by omega) (by simp)))
      · refine j_aload_n E dX7_warns_18 rfl rfl ?_
        refine j_getP (ci := 7) (k := 3) (Cn := RX7) (T := TX7) (N := 34) E dX7_warns_19 hm1 hm2 rfl (by decide) hinX7 (by decide +kernel) rfl mp3 ?_
        refine j_iload_n E dX7_warns_22 rfl rfl ?_
        refine j_iald E dX7_warns_23 ml3 mn3 rfl hp (by decide) mk3 ?_
        refine j_iload_n E dX7_warns_24 rfl rfl ?_
        refine j_icmp_ne (tgt := 41) E dX7_warns_25 (by decide) (fun h25 => ?_) (fun h25 => ?_)
        · refine j_iconst (v := 0) E dX7_warns_41 (by decide) ?_
          refine j_istore E dX7_warns_42 (by decide) ?_
          refine j_iload_n E dX7_warns_44 rfl rfl ?_
          refine j_if_ne (tgt := 91) E dX7_warns_45 (by decide) (fun h45 => ?_) (fun h45 => ?_)
          · refine j_iconst (v := 1) E dX7_warns_91 (by decide) ?_
            refine j_goto (tgt := 96) E dX7_warns_92 (by decide) ?_
            refine j_istore_n E dX7_warns_96 rfl (by decide) ?_
            refine j_iinc E dX7_warns_97 rfl (by decide) ?_
            refine j_goto (tgt := 4) E dX7_warns_100 (by decide) ?_
            exact j_lv [0, 1, 2, 3] rfl (by rw [nI_inc]; exact j_r (by first | (simp [mWn, mWn1, mMine, h7, h15, h25, h45]; done) | (exfalso; revert h7 h15 h25 h45; simp; done)) rfl (ih (p + 1) _ (by omega) (by simp)))
          · refine j_iload E dX7_warns_48 rfl ?_
            refine j_if_eq (tgt := 95) E dX7_warns_50 (by decide) (fun h50 => ?_) (fun h50 => ?_)
            · refine j_iconst (v := 0) E dX7_warns_95 (by decide) ?_
              refine j_istore_n E dX7_warns_96 rfl (by decide) ?_
              refine j_iinc E dX7_warns_97 rfl (by decide) ?_
              refine j_goto (tgt := 4) E dX7_warns_100 (by decide) ?_
              exact j_lv [0, 1, 2, 3] rfl (by rw [nI_inc]; exact j_r (by first | (simp [mWn, mWn1, mMine, h7, h15, h25, h45, h50]; done) | (exfalso; revert h7 h15 h25 h45 h50; simp; done)) rfl (ih (p + 1) _ (by omega) (by simp)))
            · refine j_aload_n E dX7_warns_53 rfl rfl ?_
              refine j_getP (ci := 7) (k := 9) (Cn := RX7) (T := TX7) (N := 34) E dX7_warns_54 hm1 hm2 rfl (by decide) hinX7 (by decide +kernel) rfl mp9 ?_
              refine j_iload_n E dX7_warns_57 rfl rfl ?_
              refine j_zald E dX7_warns_58 ml9 mn9 rfl hp (by decide) mk9 ?_
              refine j_if_ne (tgt := 91) E dX7_warns_59 (by decide) (fun h59 => ?_) (fun h59 => ?_)
              · refine j_iconst (v := 1) E dX7_warns_91 (by decide) ?_
                refine j_goto (tgt := 96) E dX7_warns_92 (by decide) ?_
                refine j_istore_n E dX7_warns_96 rfl (by decide) ?_
                refine j_iinc E dX7_warns_97 rfl (by decide) ?_
                refine j_goto (tgt := 4) E dX7_warns_100 (by decide) ?_
                exact j_lv [0, 1, 2, 3] rfl (by rw [nI_inc]; exact j_r (by first | (simp [mWn, mWn1, mMine, h7, h15, h25, h45, h50, h59]; done) | (exfalso; revert h7 h15 h25 h45 h50 h59; simp; done)) rfl (ih (p + 1) _ (by omega) (by simp)))
              · refine j_aload_n E dX7_warns_62 rfl rfl ?_
                refine j_getP (ci := 7) (k := 2) (Cn := RX7) (T := TX7) (N := 34) E dX7_warns_63 hm1 hm2 rfl (by decide) hinX7 (by decide +kernel) rfl mp2 ?_
                refine j_iload_n E dX7_warns_66 rfl rfl ?_
                refine j_iald E dX7_warns_67 ml2 mn2 rfl hp (by decide) mk2 ?_
                refine j_iconst (v := 1) E dX7_warns_68 (by decide) ?_
                refine j_icmp_ne (tgt := 95) E dX7_warns_69 (by decide) (fun h69 => ?_) (fun h69 => ?_)
                · refine j_iconst (v := 0) E dX7_warns_95 (by decide) ?_
                  refine j_istore_n E dX7_warns_96 rfl (by decide) ?_
                  refine j_iinc E dX7_warns_97 rfl (by decide) ?_
                  refine j_goto (tgt := 4) E dX7_warns_100 (by decide) ?_
                  exact j_lv [0, 1, 2, 3] rfl (by rw [nI_inc]; exact j_r (by first | (simp [mWn, mWn1, mMine, h7, h15, h25, h45, h50, h59, h69]; done) | (exfalso; revert h7 h15 h25 h45 h50 h59 h69; simp; done)) rfl (ih (p + 1) _ (by omega) (by simp)))
                · refine j_aload_n E dX7_warns_72 rfl rfl ?_
                  refine j_getP (ci := 7) (k := 7) (Cn := RX7) (T := TX7) (N := 34) E dX7_warns_73 hm1 hm2 rfl (by decide) hinX7 (by decide +kernel) rfl mp7 ?_
                  refine j_iload_n E dX7_warns_76 rfl rfl ?_
                  refine j_fald E dX7_warns_77 ml7 mn7 rfl hp (by decide) mk7 ?_
                  refine j_aload_n E dX7_warns_78 rfl rfl ?_
                  refine j_getP (ci := 7) (k := 4) (Cn := RX7) (T := TX7) (N := 34) E dX7_warns_79 hm1 hm2 rfl (by decide) hinX7 (by decide +kernel) rfl mp4 ?_
                  refine j_iload_n E dX7_warns_82 rfl rfl ?_
                  refine j_fald E dX7_warns_83 ml4 mn4 rfl hp (by decide) mk4 ?_
                  refine j_ldcf (v := 1061158912) E (by decide +kernel) dX7_warns_84 ?_
                  refine j_fmul E dX7_warns_86 (hok p hp) ?_
                  refine j_fcmp E dX7_warns_87 ?_
                  refine j_if_lt (tgt := 95) E dX7_warns_88 (by decide) (fun h88 => ?_) (fun h88 => ?_)
                  · refine j_iconst (v := 0) E dX7_warns_95 (by decide) ?_
                    refine j_istore_n E dX7_warns_96 rfl (by decide) ?_
                    refine j_iinc E dX7_warns_97 rfl (by decide) ?_
                    refine j_goto (tgt := 4) E dX7_warns_100 (by decide) ?_
                    exact j_lv [0, 1, 2, 3] rfl (by rw [nI_inc]; exact j_r (by first | (simp [mWn, mWn1, mMine, h7, h15, h25, h45, h50, h59, h69, h88]; done) | (exfalso; revert h7 h15 h25 h45 h50 h59 h69 h88; simp; done)) rfl (ih (p + 1) _ (by omega) (by simp)))
                  · refine j_iconst (v := 1) E dX7_warns_91 (by decide) ?_
                    refine j_goto (tgt := 96) E dX7_warns_92 (by decide) ?_
                    refine j_istore_n E dX7_warns_96 rfl (by decide) ?_
                    refine j_iinc E dX7_warns_97 rfl (by decide) ?_
                    refine j_goto (tgt := 4) E dX7_warns_100 (by decide) ?_
                    exact j_lv [0, 1, 2, 3] rfl (by rw [nI_inc]; exact j_r (by first | (simp [mWn, mWn1, mMine, h7, h15, h25, h45, h50, h59, h69, h88]; done) | (exfalso; revert h7 h15 h25 h45 h50 h59 h69 h88; simp; done)) rfl (ih (p + 1) _ (by omega) (by simp)))
        · refine j_aload_n E dX7_warns_28 rfl rfl ?_
          refine j_getP (ci := 7) (k := 12) (Cn := RX7) (T := TX7) (N := 34) E dX7_warns_29 hm1 hm2 rfl (by decide) hinX7 (by decide +kernel) rfl mp12 ?_
          refine j_iload_n E dX7_warns_32 rfl rfl ?_
          refine j_zald E dX7_warns_33 ml12 mn12 rfl hp (by decide) mk12 ?_
          refine j_if_ne (tgt := 41) E dX7_warns_34 (by decide) (fun h34 => ?_) (fun h34 => ?_)
          · refine j_iconst (v := 0) E dX7_warns_41 (by decide) ?_
            refine j_istore E dX7_warns_42 (by decide) ?_
            refine j_iload_n E dX7_warns_44 rfl rfl ?_
            refine j_if_ne (tgt := 91) E dX7_warns_45 (by decide) (fun h45 => ?_) (fun h45 => ?_)
            · refine j_iconst (v := 1) E dX7_warns_91 (by decide) ?_
              refine j_goto (tgt := 96) E dX7_warns_92 (by decide) ?_
              refine j_istore_n E dX7_warns_96 rfl (by decide) ?_
              refine j_iinc E dX7_warns_97 rfl (by decide) ?_
              refine j_goto (tgt := 4) E dX7_warns_100 (by decide) ?_
              exact j_lv [0, 1, 2, 3] rfl (by rw [nI_inc]; exact j_r (by first | (simp [mWn, mWn1, mMine, h7, h15, h25, h34, h45]; done) | (exfalso; revert h7 h15 h25 h34 h45; simp; done)) rfl (ih (p + 1) _ (by omega) (by simp)))
            · refine j_iload E dX7_warns_48 rfl ?_
              refine j_if_eq (tgt := 95) E dX7_warns_50 (by decide) (fun h50 => ?_) (fun h50 => ?_)
              · refine j_iconst (v := 0) E dX7_warns_95 (by decide) ?_
                refine j_istore_n E dX7_warns_96 rfl (by decide) ?_
                refine j_iinc E dX7_warns_97 rfl (by decide) ?_
                refine j_goto (tgt := 4) E dX7_warns_100 (by decide) ?_
                exact j_lv [0, 1, 2, 3] rfl (by rw [nI_inc]; exact j_r (by first | (simp [mWn, mWn1, mMine, h7, h15, h25, h34, h45, h50]; done) | (exfalso; revert h7 h15 h25 h34 h45 h50; simp; done)) rfl (ih (p + 1) _ (by omega) (by simp)))
              · refine j_aload_n E dX7_warns_53 rfl rfl ?_
                refine j_getP (ci := 7) (k := 9) (Cn := RX7) (T := TX7) (N := 34) E dX7_warns_54 hm1 hm2 rfl (by decide) hinX7 (by decide +kernel) rfl mp9 ?_
                refine j_iload_n E dX7_warns_57 rfl rfl ?_
                refine j_zald E dX7_warns_58 ml9 mn9 rfl hp (by decide) mk9 ?_
                refine j_if_ne (tgt := 91) E dX7_warns_59 (by decide) (fun h59 => ?_) (fun h59 => ?_)
                · refine j_iconst (v := 1) E dX7_warns_91 (by decide) ?_
                  refine j_goto (tgt := 96) E dX7_warns_92 (by decide) ?_
                  refine j_istore_n E dX7_warns_96 rfl (by decide) ?_
                  refine j_iinc E dX7_warns_97 rfl (by decide) ?_
                  refine j_goto (tgt := 4) E dX7_warns_100 (by decide) ?_
                  exact j_lv [0, 1, 2, 3] rfl (by rw [nI_inc]; exact j_r (by first | (simp [mWn, mWn1, mMine, h7, h15, h25, h34, h45, h50, h59]; done) | (exfalso; revert h7 h15 h25 h34 h45 h50 h59; simp; done)) rfl (ih (p + 1) _ (by omega) (by simp)))
                · refine j_aload_n E dX7_warns_62 rfl rfl ?_
                  refine j_getP (ci := 7) (k := 2) (Cn := RX7) (T := TX7) (N := 34) E dX7_warns_63 hm1 hm2 rfl (by decide) hinX7 (by decide +kernel) rfl mp2 ?_
                  refine j_iload_n E dX7_warns_66 rfl rfl ?_
                  refine j_iald E dX7_warns_67 ml2 mn2 rfl hp (by decide) mk2 ?_
                  refine j_iconst (v := 1) E dX7_warns_68 (by decide) ?_
                  refine j_icmp_ne (tgt := 95) E dX7_warns_69 (by decide) (fun h69 => ?_) (fun h69 => ?_)
                  · refine j_iconst (v := 0) E dX7_warns_95 (by decide) ?_
                    refine j_istore_n E dX7_warns_96 rfl (by decide) ?_
                    refine j_iinc E dX7_warns_97 rfl (by decide) ?_
                    refine j_goto (tgt := 4) E dX7_warns_100 (by decide) ?_
                    exact j_lv [0, 1, 2, 3] rfl (by rw [nI_inc]; exact j_r (by first | (simp [mWn, mWn1, mMine, h7, h15, h25, h34, h45, h50, h59, h69]; done) | (exfalso; revert h7 h15 h25 h34 h45 h50 h59 h69; simp; done)) rfl (ih (p + 1) _ (by omega) (by simp)))
                  · refine j_aload_n E dX7_warns_72 rfl rfl ?_
                    refine j_getP (ci := 7) (k := 7) (Cn := RX7) (T := TX7) (N := 34) E dX7_warns_73 hm1 hm2 rfl (by decide) hinX7 (by decide +kernel) rfl mp7 ?_
                    refine j_iload_n E dX7_warns_76 rfl rfl ?_
                    refine j_fald E dX7_warns_77 ml7 mn7 rfl hp (by decide) mk7 ?_
                    refine j_aload_n E dX7_warns_78 rfl rfl ?_
                    refine j_getP (ci := 7) (k := 4) (Cn := RX7) (T := TX7) (N := 34) E dX7_warns_79 hm1 hm2 rfl (by decide) hinX7 (by decide +kernel) rfl mp4 ?_
                    refine j_iload_n E dX7_warns_82 rfl rfl ?_
                    refine j_fald E dX7_warns_83 ml4 mn4 rfl hp (by decide) mk4 ?_
                    refine j_ldcf (v := 1061158912) E (by decide +kernel) dX7_warns_84 ?_
                    refine j_fmul E dX7_warns_86 (hok p hp) ?_
                    refine j_fcmp E dX7_warns_87 ?_
                    refine j_if_lt (tgt := 95) E dX7_warns_88 (by decide) (fun h88 => ?_) (fun h88 => ?_)
                    · refine j_iconst (v := 0) E dX7_warns_95 (by decide) ?_
                      refine j_istore_n E dX7_warns_96 rfl (by decide) ?_
                      refine j_iinc E dX7_warns_97 rfl (by decide) ?_
                      refine j_goto (tgt := 4) E dX7_warns_100 (by decide) ?_
                      exact j_lv [0, 1, 2, 3] rfl (by rw [nI_inc]; exact j_r (by first | (simp [mWn, mWn1, mMine, h7, h15, h25, h34, h45, h50, h59, h69, h88]; done) | (exfalso; revert h7 h15 h25 h34 h45 h50 h59 h69 h88; simp; done)) rfl (ih (p + 1) _ (by omega) (by simp)))
                    · refine j_iconst (v := 1) E dX7_warns_91 (by decide) ?_
                      refine j_goto (tgt := 96) E dX7_warns_92 (by decide) ?_
                      refine j_istore_n E dX7_warns_96 rfl (by decide) ?_
                      refine j_iinc E dX7_warns_97 rfl (by decide) ?_
                      refine j_goto (tgt := 4) E dX7_warns_100 (by decide) ?_
                      exact j_lv [0, 1, 2, 3] rfl (by rw [nI_inc]; exact j_r (by first | (simp [mWn, mWn1, mMine, h7, h15, h25, h34, h45, h50, h59, h69, h88]; done) | (exfalso; revert h7 h15 h25 h34 h45 h50 h59 h69 h88; simp; done)) rfl (ih (p + 1) _ (by omega) (by simp)))
          · refine j_iconst (v := 1) E dX7_warns_37 (by decide) ?_
            refine j_goto (tgt := 42) E dX7_warns_38 (by decide) ?_
            refine j_istore E dX7_warns_42 (by decide) ?_
            refine j_iload_n E dX7_warns_44 rfl rfl ?_
            refine j_if_ne (tgt := 91) E dX7_warns_45 (by decide) (fun h45 => ?_) (fun h45 => ?_)
            · refine j_iconst (v := 1) E dX7_warns_91 (by decide) ?_
              refine j_goto (tgt := 96) E dX7_warns_92 (by decide) ?_
              refine j_istore_n E dX7_warns_96 rfl (by decide) ?_
              refine j_iinc E dX7_warns_97 rfl (by decide) ?_
              refine j_goto (tgt := 4) E dX7_warns_100 (by decide) ?_
              exact j_lv [0, 1, 2, 3] rfl (by rw [nI_inc]; exact j_r (by first | (simp [mWn, mWn1, mMine, h7, h15, h25, h34, h45]; done) | (exfalso; revert h7 h15 h25 h34 h45; simp; done)) rfl (ih (p + 1) _ (by omega) (by simp)))
            · refine j_iload E dX7_warns_48 rfl ?_
              refine j_if_eq (tgt := 95) E dX7_warns_50 (by decide) (fun h50 => ?_) (fun h50 => ?_)
              · refine j_iconst (v := 0) E dX7_warns_95 (by decide) ?_
                refine j_istore_n E dX7_warns_96 rfl (by decide) ?_
                refine j_iinc E dX7_warns_97 rfl (by decide) ?_
                refine j_goto (tgt := 4) E dX7_warns_100 (by decide) ?_
                exact j_lv [0, 1, 2, 3] rfl (by rw [nI_inc]; exact j_r (by first | (simp [mWn, mWn1, mMine, h7, h15, h25, h34, h45, h50]; done) | (exfalso; revert h7 h15 h25 h34 h45 h50; simp; done)) rfl (ih (p + 1) _ (by omega) (by simp)))
              · refine j_aload_n E dX7_warns_53 rfl rfl ?_
                refine j_getP (ci := 7) (k := 9) (Cn := RX7) (T := TX7) (N := 34) E dX7_warns_54 hm1 hm2 rfl (by decide) hinX7 (by decide +kernel) rfl mp9 ?_
                refine j_iload_n E dX7_warns_57 rfl rfl ?_
                refine j_zald E dX7_warns_58 ml9 mn9 rfl hp (by decide) mk9 ?_
                refine j_if_ne (tgt := 91) E dX7_warns_59 (by decide) (fun h59 => ?_) (fun h59 => ?_)
                · refine j_iconst (v := 1) E dX7_warns_91 (by decide) ?_
                  refine j_goto (tgt := 96) E dX7_warns_92 (by decide) ?_
                  refine j_istore_n E dX7_warns_96 rfl (by decide) ?_
                  refine j_iinc E dX7_warns_97 rfl (by decide) ?_
                  refine j_goto (tgt := 4) E dX7_warns_100 (by decide) ?_
                  exact j_lv [0, 1, 2, 3] rfl (by rw [nI_inc]; exact j_r (by first | (simp [mWn, mWn1, mMine, h7, h15, h25, h34, h45, h50, h59]; done) | (exfalso; revert h7 h15 h25 h34 h45 h50 h59; simp; done)) rfl (ih (p + 1) _ (by omega) (by simp)))
                · refine j_aload_n E dX7_warns_62 rfl rfl ?_
                  refine j_getP (ci := 7) (k := 2) (Cn := RX7) (T := TX7) (N := 34) E dX7_warns_63 hm1 hm2 rfl (by decide) hinX7 (by decide +kernel) rfl mp2 ?_
                  refine j_iload_n E dX7_warns_66 rfl rfl ?_
                  refine j_iald E dX7_warns_67 ml2 mn2 rfl hp (by decide) mk2 ?_
                  refine j_iconst (v := 1) E dX7_warns_68 (by decide) ?_
                  refine j_icmp_ne (tgt := 95) E dX7_warns_69 (by decide) (fun h69 => ?_) (fun h69 => ?_)
                  · refine j_iconst (v := 0) E dX7_warns_95 (by decide) ?_
                    refine j_istore_n E dX7_warns_96 rfl (by decide) ?_
                    refine j_iinc E dX7_warns_97 rfl (by decide) ?_
                    refine j_goto (tgt := 4) E dX7_warns_100 (by decide) ?_
                    exact j_lv [0, 1, 2, 3] rfl (by rw [nI_inc]; exact j_r (by first | (simp [mWn, mWn1, mMine, h7, h15, h25, h34, h45, h50, h59, h69]; done) | (exfalso; revert h7 h15 h25 h34 h45 h50 h59 h69; simp; done)) rfl (ih (p + 1) _ (by omega) (by simp)))
                  · refine j_aload_n E dX7_warns_72 rfl rfl ?_
                    refine j_getP (ci := 7) (k := 7) (Cn := RX7) (T := TX7) (N := 34) E dX7_warns_73 hm1 hm2 rfl (by decide) hinX7 (by decide +kernel) rfl mp7 ?_
                    refine j_iload_n E dX7_warns_76 rfl rfl ?_
                    refine j_fald E dX7_warns_77 ml7 mn7 rfl hp (by decide) mk7 ?_
                    refine j_aload_n E dX7_warns_78 rfl rfl ?_
                    refine j_getP (ci := 7) (k := 4) (Cn := RX7) (T := TX7) (N := 34) E dX7_warns_79 hm1 hm2 rfl (by decide) hinX7 (by decide +kernel) rfl mp4 ?_
                    refine j_iload_n E dX7_warns_82 rfl rfl ?_
                    refine j_fald E dX7_warns_83 ml4 mn4 rfl hp (by decide) mk4 ?_
                    refine j_ldcf (v := 1061158912) E (by decide +kernel) dX7_warns_84 ?_
                    refine j_fmul E dX7_warns_86 (hok p hp) ?_
                    refine j_fcmp E dX7_warns_87 ?_
                    refine j_if_lt (tgt := 95) E dX7_warns_88 (by decide) (fun h88 => ?_) (fun h88 => ?_)
                    · refine j_iconst (v := 0) E dX7_warns_95 (by decide) ?_
                      refine j_istore_n E dX7_warns_96 rfl (by decide) ?_
                      refine j_iinc E dX7_warns_97 rfl (by decide) ?_
                      refine j_goto (tgt := 4) E dX7_warns_100 (by decide) ?_
                      exact j_lv [0, 1, 2, 3] rfl (by rw [nI_inc]; exact j_r (by first | (simp [mWn, mWn1, mMine, h7, h15, h25, h34, h45, h50, h59, h69, h88]; done) | (exfalso; revert h7 h15 h25 h34 h45 h50 h59 h69 h88; simp; done)) rfl (ih (p + 1) _ (by omega) (by simp)))
                    · refine j_iconst (v := 1) E dX7_warns_91 (by decide) ?_
                      refine j_goto (tgt := 96) E dX7_warns_92 (by decide) ?_
                      refine j_istore_n E dX7_warns_96 rfl (by decide) ?_
                      refine j_iinc E dX7_warns_97 rfl (by decide) ?_
                      refine j_goto (tgt := 4) E dX7_warns_100 (by decide) ?_
                      exact j_lv [0, 1, 2, 3] rfl (by rw [nI_inc]; exact j_r (by first | (simp [mWn, mWn1, mMine, h7, h15, h25, h34, h45, h50, h59, h69, h88]; done) | (exfalso; revert h7 h15 h25 h34 h45 h50 h59 h69 h88; simp; done)) rfl (ih (p + 1) _ (by omega) (by simp)))

set_option maxHeartbeats 1600000 in
set_option maxRecDepth 100000 in
theorem k_X7_warns {l : Launch} {D : va_G} {cy : Nat → ClassId} {X : va_W} {G : pG} {M : pM} {m : Nat → Nat} {z : Int32} (hM : wM G m) (hok : ∀ p, p < 16 → vf_n32 (FP.fmul (M.2 (m 4) p) 1061158912)) : jK l yX7_warns wsX7_warns ({ frames := 2, cells := 0, slots := 0, locals := 43 } : Room) D cy X G M [.ref (m 0), .int z] (some (.int (mWn M m z 16 0 0))) X M := by
  refine jK_of (own := RX7) (by decide) rfl rfl (Nat.le_of_ble_eq_true rfl) (fun C E hl hD hcy hG => ?_)
  subst hl; subst hD; subst hcy; subst hG

  have hM0 := hM
  obtain ⟨hm1, hm2, hmt, hinj⟩ := hM
  obtain ⟨mp2, ml2, mk2, mn2⟩ := hmt 2 10 16 rfl
  obtain ⟨mp3, ml3, mk3, mn3⟩ := hmt 3 10 16 rfl
  obtain ⟨mp4, ml4, mk4, mn4⟩ := hmt 4 9 16 rfl
  obtain ⟨mp7, ml7, mk7, mn7⟩ := hmt 7 9 16 rfl
  obtain ⟨mp9, ml9, mk9, mn9⟩ := hmt 9 11 16 rfl
  obtain ⟨mp12, ml12, mk12, mn12⟩ := hmt 12 11 16 rfl
  refine j_iconst (v := 0) E dX7_warns_0 (by decide) ?_
  refine j_istore_n E dX7_warns_1 rfl (by decide) ?_
  refine j_iconst (v := 0) E dX7_warns_2 (by decide) ?_
  refine j_istore_n E dX7_warns_3 rfl (by decide) ?_
  exact j_lv [0, 1, 2, 3] rfl (kl_X7_warns_4 E hM0 hok 16 0 0 (by omega) (by simp))

set_option maxHeartbeats 1600000 in
set_option maxRecDepth 100000 in
theorem kl_X7_faults_4 {C : jC} (E : jE C cX7_faults 3 wsX7_faults RX7 (some .int) ({ frames := 0, cells := 0, slots := 0, locals := 0 } : Room)) {X : va_W} {M : pM} {m : Nat → Nat} (hM : wM (jG C) m) : ∀ (n p : Nat) (c : Int32), p + n = 16 → jW C 3 4 [(0, .ref (m 0)), (1, .int c), (2, .int (nI p))] [] X M 0 0 (jZ C X M (some (.int (mFt M m n p c))) 0 0) := by
  have hinX7 : ∀ w ∈ u_ws RX7 TX7 34, w ∈ wsX7_faults := by decide +kernel
  have hM0 := hM
  obtain ⟨hm1, hm2, hmt, hinj⟩ := hM
  obtain ⟨mp11, ml11, mk11, mn11⟩ := hmt 11 11 16 rfl
  intro n
  induction n with
  | zero =>
    intro p c hn
    obtain rfl : p = 16 := by omega
    refine j_iload_n E dX7_faults_4 rfl rfl ?_
    refine j_bipush (v := 16) E dX7_faults_5 (by decide) ?_
    refine j_icmp_ge (tgt := 33) E dX7_faults_7 (by decide) (fun h => ?_) (fun h => absurd (by decide) h)
    refine j_iload_n E dX7_faults_33 rfl rfl ?_
    exact j_iret E dX7_faults_34 (by rfl) rfl (by rfl)
  | succ n ih =>
    intro p c hn
    have hp : p < 16 := by omega
    refine j_iload_n E dX7_faults_4 rfl rfl ?_
    refine j_bipush (v := 16) E dX7_faults_5 (by decide) ?_
    refine j_icmp_ge (tgt := 33) E dX7_faults_7 (by decide) (fun h7 => ?_) (fun h7 => ?_)
    · exact absurd h7 (nI_ge (b := 16) hp (by decide))
    · refine j_aload_n E dX7_faults_10 rfl rfl ?_
      refine j_getP (ci := 7) (k := 11) (Cn := RX7) (T := TX7) (N := 34) E dX7_faults_11 hm1 hm2 rfl (by decide) hinX7 (by decide +kernel) rfl mp11 ?_
      refine j_iload_n E dX7_faults_14 rfl rfl ?_
      refine j_zald E dX7_faults_15 ml11 mn11 rfl hp (by decide) mk11 ?_
      refine j_if_eq (tgt := 25) E dX7_faults_16 (by decide) (fun h16 => ?_) (fun h16 => ?_)
      · refine j_iload_n E dX7_faults_25 rfl rfl ?_
        refine j_istore_n E dX7_faults_26 rfl (by decide) ?_
        refine j_iinc E dX7_faults_27 rfl (by decide) ?_
        refine j_goto (tgt := 4) E dX7_faults_30 (by decide) ?_
        exact j_lv [0, 1, 2] rfl (by rw [nI_inc]; exact j_r (by simp [mFt, h7, h16]) rfl (ih (p + 1) _ (by omega)))
      · refine j_iload_n E dX7_faults_19 rfl rfl ?_
        refine j_iconst (v := 1) E dX7_faults_20 (by decide) ?_
        refine j_iadd E dX7_faults_21 ?_
        refine j_goto (tgt := 26) E dX7_faults_22 (by decide) ?_
        refine j_istore_n E dX7_faults_26 rfl (by decide) ?_
        refine j_iinc E dX7_faults_27 rfl (by decide) ?_
        refine j_goto (tgt := 4) E dX7_faults_30 (by decide) ?_
        exact j_lv [0, 1, 2] rfl (by rw [nI_inc]; exact j_r (by simp [mFt, h7, h16]) rfl (ih (p + 1) _ (by omega)))

set_option maxHeartbeats 1600000 in
set_option maxRecDepth 100000 in
theorem k_X7_faults {l : Launch} {D : va_G} {cy : Nat → ClassId} {X : va_W} {G : pG} {M : pM} {m : Nat → Nat} (hM : wM G m) : jK l yX7_faults wsX7_faults ({ frames := 0, cells := 0, slots := 0, locals := 0 } : Room) D cy X G M [.ref (m 0)] (some (.int (mFt M m 16 0 0))) X M := by
  refine jK_of (own := RX7) (by decide) rfl rfl (Nat.le_of_ble_eq_true rfl) (fun C E hl hD hcy hG => ?_)
  subst hl; subst hD; subst hcy; subst hG

  have hM0 := hM
  obtain ⟨hm1, hm2, hmt, hinj⟩ := hM
  obtain ⟨mp11, ml11, mk11, mn11⟩ := hmt 11 11 16 rfl
  refine j_iconst (v := 0) E dX7_faults_0 (by decide) ?_
  refine j_istore_n E dX7_faults_1 rfl (by decide) ?_
  refine j_iconst (v := 0) E dX7_faults_2 (by decide) ?_
  refine j_istore_n E dX7_faults_3 rfl (by decide) ?_
  exact j_lv [0, 1, 2] rfl (kl_X7_faults_4 E hM0 16 0 0 (by omega))

set_option maxHeartbeats 1600000 in
set_option maxRecDepth 100000 in
theorem kl_X7_sense_184 {C : jC} (E : jE C cX7_sense 4 wsX7_sense RX7 none ({ frames := 0, cells := 0, slots := 0, locals := 0 } : Room)) {X : va_W} {M : pM} {m : Nat → Nat} {p : Nat} (hM : wM (jG C) m) (hp : p < 16) : jW C 4 184 [(0, .ref (m 0)), (1, .int (nI p))] [] X M 0 0 (jZ C X (mAl M m p) none 0 0) := by
  have hinX7 : ∀ w ∈ u_ws RX7 TX7 34, w ∈ wsX7_sense := by decide +kernel
  have hM0 := hM
  obtain ⟨hm1, hm2, hmt, hinj⟩ := hM
  obtain ⟨mp2, ml2, mk2, mn2⟩ := hmt 2 10 16 rfl
  obtain ⟨mp4, ml4, mk4, mn4⟩ := hmt 4 9 16 rfl
  obtain ⟨mp5, ml5, mk5, mn5⟩ := hmt 5 9 16 rfl
  obtain ⟨mp6, ml6, mk6, mn6⟩ := hmt 6 9 16 rfl
  obtain ⟨mp7, ml7, mk7, mn7⟩ := hmt 7 9 16 rfl
  obtain ⟨mp8, ml8, mk8, mn8⟩ := hmt 8 10 16 rfl
  obtain ⟨mp9, ml9, mk9, mn9⟩ := hmt 9 11 16 rfl
  refine j_aload_n E dX7_sense_184 rfl rfl ?_
  refine j_getP (ci := 7) (k := 9) (Cn := RX7) (T := TX7) (N := 34) E dX7_sense_185 hm1 hm2 rfl (by decide) hinX7 (by decide +kernel) rfl mp9 ?_
  refine j_iload_n E dX7_sense_188 rfl rfl ?_
  refine j_aload_n E dX7_sense_189 rfl rfl ?_
  refine j_getP (ci := 7) (k := 9) (Cn := RX7) (T := TX7) (N := 34) E dX7_sense_190 hm1 hm2 rfl (by decide) hinX7 (by decide +kernel) rfl mp9 ?_
  refine j_iload_n E dX7_sense_193 rfl rfl ?_
  refine j_zald E dX7_sense_194 ml9 mn9 rfl hp (by decide) mk9 ?_
  refine j_if_ne (tgt := 208) E dX7_sense_195 (by decide) (fun h195 => ?_) (fun h195 => ?_)
  · refine j_iconst (v := 1) E dX7_sense_208 (by decide) ?_
    refine j_goto (tgt := 213) E dX7_sense_209 (by decide) ?_
    refine j_zast E dX7_sense_213 ml9 mn9 rfl hp (by decide) mk9 rfl ?_
    exact j_vret E dX7_sense_214 rfl (by simp [mAl, h195])
  · refine j_aload_n E dX7_sense_198 rfl rfl ?_
    refine j_getP (ci := 7) (k := 8) (Cn := RX7) (T := TX7) (N := 34) E dX7_sense_199 hm1 hm2 rfl (by decide) hinX7 (by decide +kernel) rfl mp8 ?_
    refine j_iload_n E dX7_sense_202 rfl rfl ?_
    refine j_iald E dX7_sense_203 ml8 mn8 rfl hp (by decide) mk8 ?_
    refine j_iconst (v := 3) E dX7_sense_204 (by decide) ?_
    refine j_icmp_lt (tgt := 212) E dX7_sense_205 (by decide) (fun h205 => ?_) (fun h205 => ?_)
    · refine j_iconst (v := 0) E dX7_sense_212 (by decide) ?_
      refine j_zast E dX7_sense_213 ml9 mn9 rfl hp (by decide) mk9 rfl ?_
      exact j_vret E dX7_sense_214 rfl (by simp [mAl, h195, h205])
    · refine j_iconst (v := 1) E dX7_sense_208 (by decide) ?_
      refine j_goto (tgt := 213) E dX7_sense_209 (by decide) ?_
      refine j_zast E dX7_sense_213 ml9 mn9 rfl hp (by decide) mk9 rfl ?_
      exact j_vret E dX7_sense_214 rfl (by simp [mAl, h195, h205])

set_option maxHeartbeats 1600000 in
set_option maxRecDepth 100000 in
theorem k_X7_sense {l : Launch} {D : va_G} {cy : Nat → ClassId} {X : va_W} {G : pG} {M : pM} {m : Nat → Nat} {p : Nat} (hM : wM G m) (hp : p < 16) (hok : M.1 (m 2) p ≠ 3 → okM M m p) : jK l yX7_sense wsX7_sense ({ frames := 0, cells := 0, slots := 0, locals := 0 } : Room) D cy X G M [.ref (m 0), .int (nI p)] none X (mSense M m p) := by
  refine jK_of (own := RX7) (by decide) rfl rfl (Nat.le_of_ble_eq_true rfl) (fun C E hl hD hcy hG => ?_)
  subst hl; subst hD; subst hcy; subst hG
  have hinX7 : ∀ w ∈ u_ws RX7 TX7 34, w ∈ wsX7_sense := by decide +kernel
  have hM0 := hM
  obtain ⟨hm1, hm2, hmt, hinj⟩ := hM
  obtain ⟨mp2, ml2, mk2, mn2⟩ := hmt 2 10 16 rfl
  obtain ⟨mp4, ml4, mk4, mn4⟩ := hmt 4 9 16 rfl
  obtain ⟨mp5, ml5, mk5, mn5⟩ := hmt 5 9 16 rfl
  obtain ⟨mp6, ml6, mk6, mn6⟩ := hmt 6 9 16 rfl
  obtain ⟨mp7, ml7, mk7, mn7⟩ := hmt 7 9 16 rfl
  obtain ⟨mp8, ml8, mk8, mn8⟩ := hmt 8 10 16 rfl
  obtain ⟨mp9, ml9, mk9, mn9⟩ := hmt 9 11 16 rfl
  refine j_aload_n E dX7_sense_0 rfl rfl ?_
  refine j_getP (ci := 7) (k := 5) (Cn := RX7) (T := TX7) (N := 34) E dX7_sense_1 hm1 hm2 rfl (by decide) hinX7 (by decide +kernel) rfl mp5 ?_
  refine j_iload_n E dX7_sense_4 rfl rfl ?_
  refine j_fald E dX7_sense_5 ml5 mn5 rfl hp (by decide) mk5 ?_
  refine j_fstore_n E dX7_sense_6 rfl (by decide) ?_
  refine j_aload_n E dX7_sense_7 rfl rfl ?_
  refine j_getP (ci := 7) (k := 2) (Cn := RX7) (T := TX7) (N := 34) E dX7_sense_8 hm1 hm2 rfl (by decide) hinX7 (by decide +kernel) rfl mp2 ?_
  refine j_iload_n E dX7_sense_11 rfl rfl ?_
  refine j_iald E dX7_sense_12 ml2 mn2 rfl hp (by decide) mk2 ?_
  refine j_iconst (v := 3) E dX7_sense_13 (by decide) ?_
  refine j_icmp_ne (tgt := 49) E dX7_sense_14 (by decide) (fun h14 => ?_) (fun h14 => ?_)
  · obtain ⟨f1, f2, f3, f4, f5⟩ := hok h14
    refine j_fload_n E dX7_sense_49 rfl rfl ?_
    refine j_aload_n E dX7_sense_50 rfl rfl ?_
    refine j_getP (ci := 7) (k := 6) (Cn := RX7) (T := TX7) (N := 34) E dX7_sense_51 hm1 hm2 rfl (by decide) hinX7 (by decide +kernel) rfl mp6 ?_
    refine j_iload_n E dX7_sense_54 rfl rfl ?_
    refine j_fald E dX7_sense_55 ml6 mn6 rfl hp (by decide) mk6 ?_
    refine j_fsub E dX7_sense_56 f1 ?_
    refine j_fstore_n E dX7_sense_57 rfl (by decide) ?_
    refine j_aload_n E dX7_sense_58 rfl rfl ?_
    refine j_getP (ci := 7) (k := 7) (Cn := RX7) (T := TX7) (N := 34) E dX7_sense_59 hm1 hm2 rfl (by decide) hinX7 (by decide +kernel) rfl mp7 ?_
    refine j_iload_n E dX7_sense_62 rfl rfl ?_
    refine j_aload_n E dX7_sense_63 rfl rfl ?_
    refine j_getP (ci := 7) (k := 2) (Cn := RX7) (T := TX7) (N := 34) E dX7_sense_64 hm1 hm2 rfl (by decide) hinX7 (by decide +kernel) rfl mp2 ?_
    refine j_iload_n E dX7_sense_67 rfl rfl ?_
    refine j_iald E dX7_sense_68 ml2 mn2 rfl hp (by decide) mk2 ?_
    refine j_iconst (v := 1) E dX7_sense_69 (by decide) ?_
    refine j_icmp_ne (tgt := 94) E dX7_sense_70 (by decide) (fun h70 => ?_) (fun h70 => ?_)
    · obtain ⟨f9, f10, f11⟩ := f3 h70
      refine j_fload_n E dX7_sense_94 rfl rfl ?_
      refine j_ldcf (v := 1082130432) E (by decide +kernel) dX7_sense_95 ?_
      refine j_fmul E dX7_sense_97 f9 ?_
      refine j_fload_n E dX7_sense_98 rfl rfl ?_
      refine j_ldcf (v := 1048576000) E (by decide +kernel) dX7_sense_99 ?_
      refine j_fmul E dX7_sense_101 f10 ?_
      refine j_fadd E dX7_sense_102 f11 ?_
      refine j_fast E dX7_sense_103 ml7 mn7 rfl hp (by decide) mk7 ?_
      refine j_aload_n E dX7_sense_104 rfl rfl ?_
      refine j_getP (ci := 7) (k := 8) (Cn := RX7) (T := TX7) (N := 34) E dX7_sense_105 hm1 hm2 rfl (by decide) hinX7 (by decide +kernel) rfl mp8 ?_
      refine j_iload_n E dX7_sense_108 rfl rfl ?_
      refine j_aload_n E dX7_sense_109 rfl rfl ?_
      refine j_getP (ci := 7) (k := 7) (Cn := RX7) (T := TX7) (N := 34) E dX7_sense_110 hm1 hm2 rfl (by decide) hinX7 (by decide +kernel) rfl mp7 ?_
      refine j_iload_n E dX7_sense_113 rfl rfl ?_
      refine j_fald E dX7_sense_114 ml7 mn7 rfl hp (by decide) mk7 ?_
      try simp only [pI_m hinj, pF_m hinj, pI_2, pF_1, Nat.reduceEqDiff, Nat.reduceLT, Nat.reduceLeDiff, eq_self, ↓reduceIte]
      refine j_aload_n E dX7_sense_115 rfl rfl ?_
      refine j_getP (ci := 7) (k := 4) (Cn := RX7) (T := TX7) (N := 34) E dX7_sense_116 hm1 hm2 rfl (by decide) hinX7 (by decide +kernel) rfl mp4 ?_
      refine j_iload_n E dX7_sense_119 rfl rfl ?_
      refine j_fald E dX7_sense_120 ml4 mn4 rfl hp (by decide) mk4 ?_
      try simp only [pI_m hinj, pF_m hinj, pI_2, pF_1, Nat.reduceEqDiff, Nat.reduceLT, Nat.reduceLeDiff, eq_self, ↓reduceIte]
      refine j_fcmp E dX7_sense_121 ?_
      refine j_if_lt (tgt := 136) E dX7_sense_122 (by decide) (fun h122 => ?_) (fun h122 => ?_)
      · refine j_iconst (v := 0) E dX7_sense_136 (by decide) ?_
        refine j_iast E dX7_sense_137 ml8 mn8 rfl hp (by decide) mk8 ?_
        refine j_aload_n E dX7_sense_138 rfl rfl ?_
        refine j_getP (ci := 7) (k := 2) (Cn := RX7) (T := TX7) (N := 34) E dX7_sense_139 hm1 hm2 rfl (by decide) hinX7 (by decide +kernel) rfl mp2 ?_
        refine j_iload_n E dX7_sense_142 rfl rfl ?_
        refine j_iald E dX7_sense_143 ml2 mn2 rfl hp (by decide) mk2 ?_
        try simp only [pI_m hinj, pF_m hinj, pI_2, pF_1, Nat.reduceEqDiff, Nat.reduceLT, Nat.reduceLeDiff, eq_self, ↓reduceIte]
        refine j_iconst (v := 2) E dX7_sense_144 (by decide) ?_
        refine j_icmp_ne (tgt := 158) E dX7_sense_145 (by decide) (fun h145 => ?_) (fun h145 => ?_)
        · refine j_aload_n E dX7_sense_158 rfl rfl ?_
          refine j_getP (ci := 7) (k := 8) (Cn := RX7) (T := TX7) (N := 34) E dX7_sense_159 hm1 hm2 rfl (by decide) hinX7 (by decide +kernel) rfl mp8 ?_
          refine j_iload_n E dX7_sense_162 rfl rfl ?_
          refine j_iald E dX7_sense_163 ml8 mn8 rfl hp (by decide) mk8 ?_
          try simp only [pI_m hinj, pF_m hinj, pI_2, pF_1, Nat.reduceEqDiff, Nat.reduceLT, Nat.reduceLeDiff, eq_self, ↓reduceIte]
          refine j_if_ne (tgt := 184) E dX7_sense_164 (by decide) (fun h164 => ?_) (fun h164 => ?_)
          · exact j_lv [0, 1] rfl (j_r rfl (by first | (simp [mSense, mSen1, mBut, mS3, mS2, mOv, mLv, h14, h70, h122, h145, h164]; done) | (exfalso; revert h14 h70 h122 h145 h164; simp; done) | (exfalso; rw [h70] at h145; exact absurd h145 (by decide))) (kl_X7_sense_184 E hM0 hp))
          · refine j_aload_n E dX7_sense_167 rfl rfl ?_
            refine j_getP (ci := 7) (k := 6) (Cn := RX7) (T := TX7) (N := 34) E dX7_sense_168 hm1 hm2 rfl (by decide) hinX7 (by decide +kernel) rfl mp6 ?_
            refine j_iload_n E dX7_sense_171 rfl rfl ?_
            refine j_aload_n E dX7_sense_172 rfl rfl ?_
            refine j_getP (ci := 7) (k := 6) (Cn := RX7) (T := TX7) (N := 34) E dX7_sense_173 hm1 hm2 rfl (by decide) hinX7 (by decide +kernel) rfl mp6 ?_
            refine j_iload_n E dX7_sense_176 rfl rfl ?_
            refine j_fald E dX7_sense_177 ml6 mn6 rfl hp (by decide) mk6 ?_
            try simp only [pI_m hinj, pF_m hinj, pI_2, pF_1, Nat.reduceEqDiff, Nat.reduceLT, Nat.reduceLeDiff, eq_self, ↓reduceIte]
            refine j_fload_n E dX7_sense_178 rfl rfl ?_
            refine j_ldcf (v := 1031798784) E (by decide +kernel) dX7_sense_179 ?_
            refine j_fmul E dX7_sense_181 f4 ?_
            refine j_fadd E dX7_sense_182 f5 ?_
            refine j_fast E dX7_sense_183 ml6 mn6 rfl hp (by decide) mk6 ?_
            exact j_lv [0, 1] rfl (j_r rfl (by first | (simp [mSense, mSen1, mBut, mS3, mS2, mOv, mLv, h14, h70, h122, h145, h164]; done) | (exfalso; revert h14 h70 h122 h145 h164; simp; done) | (exfalso; rw [h70] at h145; exact absurd h145 (by decide))) (kl_X7_sense_184 E hM0 hp))
        · refine j_aload_n E dX7_sense_148 rfl rfl ?_
          refine j_getP (ci := 7) (k := 6) (Cn := RX7) (T := TX7) (N := 34) E dX7_sense_149 hm1 hm2 rfl (by decide) hinX7 (by decide +kernel) rfl mp6 ?_
          refine j_iload_n E dX7_sense_152 rfl rfl ?_
          refine j_fload_n E dX7_sense_153 rfl rfl ?_
          refine j_fast E dX7_sense_154 ml6 mn6 rfl hp (by decide) mk6 ?_
          refine j_goto (tgt := 184) E dX7_sense_155 (by decide) ?_
          exact j_lv [0, 1] rfl (j_r rfl (by first | (simp [mSense, mSen1, mBut, mS3, mS2, mOv, mLv, h14, h70, h122, h145]; done) | (exfalso; revert h14 h70 h122 h145; simp; done) | (exfalso; rw [h70] at h145; exact absurd h145 (by decide))) (kl_X7_sense_184 E hM0 hp))
      · refine j_aload_n E dX7_sense_125 rfl rfl ?_
        refine j_getP (ci := 7) (k := 8) (Cn := RX7) (T := TX7) (N := 34) E dX7_sense_126 hm1 hm2 rfl (by decide) hinX7 (by decide +kernel) rfl mp8 ?_
        refine j_iload_n E dX7_sense_129 rfl rfl ?_
        refine j_iald E dX7_sense_130 ml8 mn8 rfl hp (by decide) mk8 ?_
        try simp only [pI_m hinj, pF_m hinj, pI_2, pF_1, Nat.reduceEqDiff, Nat.reduceLT, Nat.reduceLeDiff, eq_self, ↓reduceIte]
        refine j_iconst (v := 1) E dX7_sense_131 (by decide) ?_
        refine j_iadd E dX7_sense_132 ?_
        refine j_goto (tgt := 137) E dX7_sense_133 (by decide) ?_
        refine j_iast E dX7_sense_137 ml8 mn8 rfl hp (by decide) mk8 ?_
        refine j_aload_n E dX7_sense_138 rfl rfl ?_
        refine j_getP (ci := 7) (k := 2) (Cn := RX7) (T := TX7) (N := 34) E dX7_sense_139 hm1 hm2 rfl (by decide) hinX7 (by decide +kernel) rfl mp2 ?_
        refine j_iload_n E dX7_sense_142 rfl rfl ?_
        refine j_iald E dX7_sense_143 ml2 mn2 rfl hp (by decide) mk2 ?_
        try simp only [pI_m hinj, pF_m hinj, pI_2, pF_1, Nat.reduceEqDiff, Nat.reduceLT, Nat.reduceLeDiff, eq_self, ↓reduceIte]
        refine j_iconst (v := 2) E dX7_sense_144 (by decide) ?_
        refine j_icmp_ne (tgt := 158) E dX7_sense_145 (by decide) (fun h145 => ?_) (fun h145 => ?_)
        · refine j_aload_n E dX7_sense_158 rfl rfl ?_
          refine j_getP (ci := 7) (k := 8) (Cn := RX7) (T := TX7) (N := 34) E dX7_sense_159 hm1 hm2 rfl (by decide) hinX7 (by decide +kernel) rfl mp8 ?_
          refine j_iload_n E dX7_sense_162 rfl rfl ?_
          refine j_iald E dX7_sense_163 ml8 mn8 rfl hp (by decide) mk8 ?_
          try simp only [pI_m hinj, pF_m hinj, pI_2, pF_1, Nat.reduceEqDiff, Nat.reduceLT, Nat.reduceLeDiff, eq_self, ↓reduceIte]
          refine j_if_ne (tgt := 184) E dX7_sense_164 (by decide) (fun h164 => ?_) (fun h164 => ?_)
          · exact j_lv [0, 1] rfl (j_r rfl (by first | (simp [mSense, mSen1, mBut, mS3, mS2, mOv, mLv, h14, h70, h122, h145, h164]; done) | (exfalso; revert h14 h70 h122 h145 h164; simp; done) | (exfalso; rw [h70] at h145; exact absurd h145 (by decide))) (kl_X7_sense_184 E hM0 hp))
          · refine j_aload_n E dX7_sense_167 rfl rfl ?_
            refine j_getP (ci := 7) (k := 6) (Cn := RX7) (T := TX7) (N := 34) E dX7_sense_168 hm1 hm2 rfl (by decide) hinX7 (by decide +kernel) rfl mp6 ?_
            refine j_iload_n E dX7_sense_171 rfl rfl ?_
            refine j_aload_n E dX7_sense_172 rfl rfl ?_
            refine j_getP (ci := 7) (k := 6) (Cn := RX7) (T := TX7) (N := 34) E dX7_sense_173 hm1 hm2 rfl (by decide) hinX7 (by decide +kernel) rfl mp6 ?_
            refine j_iload_n E dX7_sense_176 rfl rfl ?_
            refine j_fald E dX7_sense_177 ml6 mn6 rfl hp (by decide) mk6 ?_
            try simp only [pI_m hinj, pF_m hinj, pI_2, pF_1, Nat.reduceEqDiff, Nat.reduceLT, Nat.reduceLeDiff, eq_self, ↓reduceIte]
            refine j_fload_n E dX7_sense_178 rfl rfl ?_
            refine j_ldcf (v := 1031798784) E (by decide +kernel) dX7_sense_179 ?_
            refine j_fmul E dX7_sense_181 f4 ?_
            refine j_fadd E dX7_sense_182 f5 ?_
            refine j_fast E dX7_sense_183 ml6 mn6 rfl hp (by decide) mk6 ?_
            exact j_lv [0, 1] rfl (j_r rfl (by first | (simp [mSense, mSen1, mBut, mS3, mS2, mOv, mLv, h14, h70, h122, h145, h164]; done) | (exfalso; revert h14 h70 h122 h145 h164; simp; done) | (exfalso; rw [h70] at h145; exact absurd h145 (by decide))) (kl_X7_sense_184 E hM0 hp))
        · refine j_aload_n E dX7_sense_148 rfl rfl ?_
          refine j_getP (ci := 7) (k := 6) (Cn := RX7) (T := TX7) (N := 34) E dX7_sense_149 hm1 hm2 rfl (by decide) hinX7 (by decide +kernel) rfl mp6 ?_
          refine j_iload_n E dX7_sense_152 rfl rfl ?_
          refine j_fload_n E dX7_sense_153 rfl rfl ?_
          refine j_fast E dX7_sense_154 ml6 mn6 rfl hp (by decide) mk6 ?_
          refine j_goto (tgt := 184) E dX7_sense_155 (by decide) ?_
          exact j_lv [0, 1] rfl (j_r rfl (by first | (simp [mSense, mSen1, mBut, mS3, mS2, mOv, mLv, h14, h70, h122, h145]; done) | (exfalso; revert h14 h70 h122 h145; simp; done) | (exfalso; rw [h70] at h145; exact absurd h145 (by decide))) (kl_X7_sense_184 E hM0 hp))
    · obtain ⟨f6, f7, f8⟩ := f2 h70
      refine j_aload_n E dX7_sense_73 rfl rfl ?_
      refine j_getP (ci := 7) (k := 7) (Cn := RX7) (T := TX7) (N := 34) E dX7_sense_74 hm1 hm2 rfl (by decide) hinX7 (by decide +kernel) rfl mp7 ?_
      refine j_iload_n E dX7_sense_77 rfl rfl ?_
      refine j_fald E dX7_sense_78 ml7 mn7 rfl hp (by decide) mk7 ?_
      refine j_fload_n E dX7_sense_79 rfl rfl ?_
      refine j_aload_n E dX7_sense_80 rfl rfl ?_
      refine j_getP (ci := 7) (k := 7) (Cn := RX7) (T := TX7) (N := 34) E dX7_sense_81 hm1 hm2 rfl (by decide) hinX7 (by decide +kernel) rfl mp7 ?_
      refine j_iload_n E dX7_sense_84 rfl rfl ?_
      refine j_fald E dX7_sense_85 ml7 mn7 rfl hp (by decide) mk7 ?_
      refine j_fsub E dX7_sense_86 f6 ?_
      refine j_ldcf (v := 1056964608) E (by decide +kernel) dX7_sense_87 ?_
      refine j_fmul E dX7_sense_89 f7 ?_
      refine j_fadd E dX7_sense_90 f8 ?_
      refine j_goto (tgt := 103) E dX7_sense_91 (by decide) ?_
      refine j_fast E dX7_sense_103 ml7 mn7 rfl hp (by decide) mk7 ?_
      refine j_aload_n E dX7_sense_104 rfl rfl ?_
      refine j_getP (ci := 7) (k := 8) (Cn := RX7) (T := TX7) (N := 34) E dX7_sense_105 hm1 hm2 rfl (by decide) hinX7 (by decide +kernel) rfl mp8 ?_
      refine j_iload_n E dX7_sense_108 rfl rfl ?_
      refine j_aload_n E dX7_sense_109 rfl rfl ?_
      refine j_getP (ci := 7) (k := 7) (Cn := RX7) (T := TX7) (N := 34) E dX7_sense_110 hm1 hm2 rfl (by decide) hinX7 (by decide +kernel) rfl mp7 ?_
      refine j_iload_n E dX7_sense_113 rfl rfl ?_
      refine j_fald E dX7_sense_114 ml7 mn7 rfl hp (by decide) mk7 ?_
      try simp only [pI_m hinj, pF_m hinj, pI_2, pF_1, Nat.reduceEqDiff, Nat.reduceLT, Nat.reduceLeDiff, eq_self, ↓reduceIte]
      refine j_aload_n E dX7_sense_115 rfl rfl ?_
      refine j_getP (ci := 7) (k := 4) (Cn := RX7) (T := TX7) (N := 34) E dX7_sense_116 hm1 hm2 rfl (by decide) hinX7 (by decide +kernel) rfl mp4 ?_
      refine j_iload_n E dX7_sense_119 rfl rfl ?_
      refine j_fald E dX7_sense_120 ml4 mn4 rfl hp (by decide) mk4 ?_
      try simp only [pI_m hinj, pF_m hinj, pI_2, pF_1, Nat.reduceEqDiff, Nat.reduceLT, Nat.reduceLeDiff, eq_self, ↓reduceIte]
      refine j_fcmp E dX7_sense_121 ?_
      refine j_if_lt (tgt := 136) E dX7_sense_122 (by decide) (fun h122 => ?_) (fun h122 => ?_)
      · refine j_iconst (v := 0) E dX7_sense_136 (by decide) ?_
        refine j_iast E dX7_sense_137 ml8 mn8 rfl hp (by decide) mk8 ?_
        refine j_aload_n E dX7_sense_138 rfl rfl ?_
        refine j_getP (ci := 7) (k := 2) (Cn := RX7) (T := TX7) (N := 34) E dX7_sense_139 hm1 hm2 rfl (by decide) hinX7 (by decide +kernel) rfl mp2 ?_
        refine j_iload_n E dX7_sense_142 rfl rfl ?_
        refine j_iald E dX7_sense_143 ml2 mn2 rfl hp (by decide) mk2 ?_
        try simp only [pI_m hinj, pF_m hinj, pI_2, pF_1, Nat.reduceEqDiff, Nat.reduceLT, Nat.reduceLeDiff, eq_self, ↓reduceIte]
        refine j_iconst (v := 2) E dX7_sense_144 (by decide) ?_
        refine j_icmp_ne (tgt := 158) E dX7_sense_145 (by decide) (fun h145 => ?_) (fun h145 => ?_)
        · refine j_aload_n E dX7_sense_158 rfl rfl ?_
          refine j_getP (ci := 7) (k := 8) (Cn := RX7) (T := TX7) (N := 34) E dX7_sense_159 hm1 hm2 rfl (by decide) hinX7 (by decide +kernel) rfl mp8 ?_
          refine j_iload_n E dX7_sense_162 rfl rfl ?_
          refine j_iald E dX7_sense_163 ml8 mn8 rfl hp (by decide) mk8 ?_
          try simp only [pI_m hinj, pF_m hinj, pI_2, pF_1, Nat.reduceEqDiff, Nat.reduceLT, Nat.reduceLeDiff, eq_self, ↓reduceIte]
          refine j_if_ne (tgt := 184) E dX7_sense_164 (by decide) (fun h164 => ?_) (fun h164 => ?_)
          · exact j_lv [0, 1] rfl (j_r rfl (by first | (simp [mSense, mSen1, mBut, mS3, mS2, mOv, mLv, h14, h70, h122, h145, h164]; done) | (exfalso; revert h14 h70 h122 h145 h164; simp; done) | (exfalso; rw [h70] at h145; exact absurd h145 (by decide))) (kl_X7_sense_184 E hM0 hp))
          · refine j_aload_n E dX7_sense_167 rfl rfl ?_
            refine j_getP (ci := 7) (k := 6) (Cn := RX7) (T := TX7) (N := 34) E dX7_sense_168 hm1 hm2 rfl (by decide) hinX7 (by decide +kernel) rfl mp6 ?_
            refine j_iload_n E dX7_sense_171 rfl rfl ?_
            refine j_aload_n E dX7_sense_172 rfl rfl ?_
            refine j_getP (ci := 7) (k := 6) (Cn := RX7) (T := TX7) (N := 34) E dX7_sense_173 hm1 hm2 rfl (by decide) hinX7 (by decide +kernel) rfl mp6 ?_
            refine j_iload_n E dX7_sense_176 rfl rfl ?_
            refine j_fald E dX7_sense_177 ml6 mn6 rfl hp (by decide) mk6 ?_
            try simp only [pI_m hinj, pF_m hinj, pI_2, pF_1, Nat.reduceEqDiff, Nat.reduceLT, Nat.reduceLeDiff, eq_self, ↓reduceIte]
            refine j_fload_n E dX7_sense_178 rfl rfl ?_
            refine j_ldcf (v := 1031798784) E (by decide +kernel) dX7_sense_179 ?_
            refine j_fmul E dX7_sense_181 f4 ?_
            refine j_fadd E dX7_sense_182 f5 ?_
            refine j_fast E dX7_sense_183 ml6 mn6 rfl hp (by decide) mk6 ?_
            exact j_lv [0, 1] rfl (j_r rfl (by first | (simp [mSense, mSen1, mBut, mS3, mS2, mOv, mLv, h14, h70, h122, h145, h164]; done) | (exfalso; revert h14 h70 h122 h145 h164; simp; done) | (exfalso; rw [h70] at h145; exact absurd h145 (by decide))) (kl_X7_sense_184 E hM0 hp))
        · refine j_aload_n E dX7_sense_148 rfl rfl ?_
          refine j_getP (ci := 7) (k := 6) (Cn := RX7) (T := TX7) (N := 34) E dX7_sense_149 hm1 hm2 rfl (by decide) hinX7 (by decide +kernel) rfl mp6 ?_
          refine j_iload_n E dX7_sense_152 rfl rfl ?_
          refine j_fload_n E dX7_sense_153 rfl rfl ?_
          refine j_fast E dX7_sense_154 ml6 mn6 rfl hp (by decide) mk6 ?_
          refine j_goto (tgt := 184) E dX7_sense_155 (by decide) ?_
          exact j_lv [0, 1] rfl (j_r rfl (by first | (simp [mSense, mSen1, mBut, mS3, mS2, mOv, mLv, h14, h70, h122, h145]; done) | (exfalso; revert h14 h70 h122 h145; simp; done) | (exfalso; rw [h70] at h145; exact absurd h145 (by decide))) (kl_X7_sense_184 E hM0 hp))
      · refine j_aload_n E dX7_sense_125 rfl rfl ?_
        refine j_getP (ci := 7) (k := 8) (Cn := RX7) (T := TX7) (N := 34) E dX7_sense_126 hm1 hm2 rfl (by decide) hinX7 (by decide +kernel) rfl mp8 ?_
        refine j_iload_n E dX7_sense_129 rfl rfl ?_
        refine j_iald E dX7_sense_130 ml8 mn8 rfl hp (by decide) mk8 ?_
        try simp only [pI_m hinj, pF_m hinj, pI_2, pF_1, Nat.reduceEqDiff, Nat.reduceLT, Nat.reduceLeDiff, eq_self, ↓reduceIte]
        refine j_iconst (v := 1) E dX7_sense_131 (by decide) ?_
        refine j_iadd E dX7_sense_132 ?_
        refine j_goto (tgt := 137) E dX7_sense_133 (by decide) ?_
        refine j_iast E dX7_sense_137 ml8 mn8 rfl hp (by decide) mk8 ?_
        refine j_aload_n E dX7_sense_138 rfl rfl ?_
        refine j_getP (ci := 7) (k := 2) (Cn := RX7) (T := TX7) (N := 34) E dX7_sense_139 hm1 hm2 rfl (by decide) hinX7 (by decide +kernel) rfl mp2 ?_
        refine j_iload_n E dX7_sense_142 rfl rfl ?_
        refine j_iald E dX7_sense_143 ml2 mn2 rfl hp (by decide) mk2 ?_
        try simp only [pI_m hinj, pF_m hinj, pI_2, pF_1, Nat.reduceEqDiff, Nat.reduceLT, Nat.reduceLeDiff, eq_self, ↓reduceIte]
        refine j_iconst (v := 2) E dX7_sense_144 (by decide) ?_
        refine j_icmp_ne (tgt := 158) E dX7_sense_145 (by decide) (fun h145 => ?_) (fun h145 => ?_)
        · refine j_aload_n E dX7_sense_158 rfl rfl ?_
          refine j_getP (ci := 7) (k := 8) (Cn := RX7) (T := TX7) (N := 34) E dX7_sense_159 hm1 hm2 rfl (by decide) hinX7 (by decide +kernel) rfl mp8 ?_
          refine j_iload_n E dX7_sense_162 rfl rfl ?_
          refine j_iald E dX7_sense_163 ml8 mn8 rfl hp (by decide) mk8 ?_
          try simp only [pI_m hinj, pF_m hinj, pI_2, pF_1, Nat.reduceEqDiff, Nat.reduceLT, Nat.reduceLeDiff, eq_self, ↓reduceIte]
          refine j_if_ne (tgt := 184) E dX7_sense_164 (by decide) (fun h164 => ?_) (fun h164 => ?_)
          · exact j_lv [0, 1] rfl (j_r rfl (by first | (simp [mSense, mSen1, mBut, mS3, mS2, mOv, mLv, h14, h70, h122, h145, h164]; done) | (exfalso; revert h14 h70 h122 h145 h164; simp; done) | (exfalso; rw [h70] at h145; exact absurd h145 (by decide))) (kl_X7_sense_184 E hM0 hp))
          · refine j_aload_n E dX7_sense_167 rfl rfl ?_
            refine j_getP (ci := 7) (k := 6) (Cn := RX7) (T := TX7) (N := 34) E dX7_sense_168 hm1 hm2 rfl (by decide) hinX7 (by decide +kernel) rfl mp6 ?_
            refine j_iload_n E dX7_sense_171 rfl rfl ?_
            refine j_aload_n E dX7_sense_172 rfl rfl ?_
            refine j_getP (ci := 7) (k := 6) (Cn := RX7) (T := TX7) (N := 34) E dX7_sense_173 hm1 hm2 rfl (by decide) hinX7 (by decide +kernel) rfl mp6 ?_
            refine j_iload_n E dX7_sense_176 rfl rfl ?_
            refine j_fald E dX7_sense_177 ml6 mn6 rfl hp (by decide) mk6 ?_
            try simp only [pI_m hinj, pF_m hinj, pI_2, pF_1, Nat.reduceEqDiff, Nat.reduceLT, Nat.reduceLeDiff, eq_self, ↓reduceIte]
            refine j_fload_n E dX7_sense_178 rfl rfl ?_
            refine j_ldcf (v := 1031798784) E (by decide +kernel) dX7_sense_179 ?_
            refine j_fmul E dX7_sense_181 f4 ?_
            refine j_fadd E dX7_sense_182 f5 ?_
            refine j_fast E dX7_sense_183 ml6 mn6 rfl hp (by decide) mk6 ?_
            exact j_lv [0, 1] rfl (j_r rfl (by first | (simp [mSense, mSen1, mBut, mS3, mS2, mOv, mLv, h14, h70, h122, h145, h164]; done) | (exfalso; revert h14 h70 h122 h145 h164; simp; done) | (exfalso; rw [h70] at h145; exact absurd h145 (by decide))) (kl_X7_sense_184 E hM0 hp))
        · refine j_aload_n E dX7_sense_148 rfl rfl ?_
          refine j_getP (ci := 7) (k := 6) (Cn := RX7) (T := TX7) (N := 34) E dX7_sense_149 hm1 hm2 rfl (by decide) hinX7 (by decide +kernel) rfl mp6 ?_
          refine j_iload_n E dX7_sense_152 rfl rfl ?_
          refine j_fload_n E dX7_sense_153 rfl rfl ?_
          refine j_fast E dX7_sense_154 ml6 mn6 rfl hp (by decide) mk6 ?_
          refine j_goto (tgt := 184) E dX7_sense_155 (by decide) ?_
          exact j_lv [0, 1] rfl (j_r rfl (by first | (simp [mSense, mSen1, mBut, mS3, mS2, mOv, mLv, h14, h70, h122, h145]; done) | (exfalso; revert h14 h70 h122 h145; simp; done) | (exfalso; rw [h70] at h145; exact absurd h145 (by decide))) (kl_X7_sense_184 E hM0 hp))
  · refine j_aload_n E dX7_sense_17 rfl rfl ?_
    refine j_getP (ci := 7) (k := 8) (Cn := RX7) (T := TX7) (N := 34) E dX7_sense_18 hm1 hm2 rfl (by decide) hinX7 (by decide +kernel) rfl mp8 ?_
    refine j_iload_n E dX7_sense_21 rfl rfl ?_
    refine j_fload_n E dX7_sense_22 rfl rfl ?_
    refine j_fconst0 E dX7_sense_23 ?_
    refine j_fcmp E dX7_sense_24 ?_
    refine j_if_le (tgt := 32) E dX7_sense_25 (by decide) (fun h25 => ?_) (fun h25 => ?_)
    · refine j_aload_n E dX7_sense_32 rfl rfl ?_
      refine j_getP (ci := 7) (k := 8) (Cn := RX7) (T := TX7) (N := 34) E dX7_sense_33 hm1 hm2 rfl (by decide) hinX7 (by decide +kernel) rfl mp8 ?_
      refine j_iload_n E dX7_sense_36 rfl rfl ?_
      refine j_iald E dX7_sense_37 ml8 mn8 rfl hp (by decide) mk8 ?_
      refine j_iast E dX7_sense_38 ml8 mn8 rfl hp (by decide) mk8 ?_
      refine j_aload_n E dX7_sense_39 rfl rfl ?_
      refine j_getP (ci := 7) (k := 7) (Cn := RX7) (T := TX7) (N := 34) E dX7_sense_40 hm1 hm2 rfl (by decide) hinX7 (by decide +kernel) rfl mp7 ?_
      refine j_iload_n E dX7_sense_43 rfl rfl ?_
      refine j_fload_n E dX7_sense_44 rfl rfl ?_
      refine j_fast E dX7_sense_45 ml7 mn7 rfl hp (by decide) mk7 ?_
      refine j_goto (tgt := 184) E dX7_sense_46 (by decide) ?_
      exact j_lv [0, 1] rfl (j_r rfl (by first | (simp [mSense, mSen1, mBut, mS3, mS2, mOv, mLv, h14, h25]; done) | (exfalso; revert h14 h25; simp; done) | (exfalso; rw [h70] at h145; exact absurd h145 (by decide))) (kl_X7_sense_184 E hM0 hp))
    · refine j_iconst (v := 3) E dX7_sense_28 (by decide) ?_
      refine j_goto (tgt := 38) E dX7_sense_29 (by decide) ?_
      refine j_iast E dX7_sense_38 ml8 mn8 rfl hp (by decide) mk8 ?_
      refine j_aload_n E dX7_sense_39 rfl rfl ?_
      refine j_getP (ci := 7) (k := 7) (Cn := RX7) (T := TX7) (N := 34) E dX7_sense_40 hm1 hm2 rfl (by decide) hinX7 (by decide +kernel) rfl mp7 ?_
      refine j_iload_n E dX7_sense_43 rfl rfl ?_
      refine j_fload_n E dX7_sense_44 rfl rfl ?_
      refine j_fast E dX7_sense_45 ml7 mn7 rfl hp (by decide) mk7 ?_
      refine j_goto (tgt := 184) E dX7_sense_46 (by decide) ?_
      exact j_lv [0, 1] rfl (j_r rfl (by first | (simp [mSense, mSen1, mBut, mS3, mS2, mOv, mLv, h14, h25]; done) | (exfalso; revert h14 h25; simp; done) | (exfalso; rw [h70] at h145; exact absurd h145 (by decide))) (kl_X7_sense_184 E hM0 hp))

theorem mNote_m2 {m : Nat → Nat} (hinj : ∀ i j, i < 34 → j < 34 → m i = m j → i = j) (M : pM) (u v : Int32) (i x : Nat) (hi : i < 34) (h0 : (i == 0) = false) (h29 : (i == 29) = false) : (mNote M m u v).1 (m i) x = M.1 (m i) x := by rw [mNote_m hinj M u v i hi (by simpa using h0) (by simpa using h29)]

set_option maxHeartbeats 1600000 in
set_option maxRecDepth 100000 in
theorem k_X7_ask {l : Launch} {D : va_G} {cy : Nat → ClassId} {X : va_W} {G : pG} {M : pM} {m : Nat → Nat} {p : Nat} (hM : wM G m) (hp : p < 16) (hok : M.1 (m 2) p ≠ 3 → okM M m p) : jK l yX7_ask wsX7_ask ({ frames := 3, cells := 0, slots := 0, locals := 68 } : Room) D cy X G M [.ref (m 0), .int (nI p)] none X (mAsk M m p) := by
  refine jK_of (own := RX7) (by decide) rfl rfl (Nat.le_of_ble_eq_true rfl) (fun C E hl hD hcy hG => ?_)
  subst hl; subst hD; subst hcy; subst hG
  have hinX7 : ∀ w ∈ u_ws RX7 TX7 34, w ∈ wsX7_ask := by decide +kernel
  have hM0 := hM
  obtain ⟨hm1, hm2, hmt, hinj⟩ := hM
  obtain ⟨mp10, ml10, mk10, mn10⟩ := hmt 10 10 16 rfl
  obtain ⟨mp11, ml11, mk11, mn11⟩ := hmt 11 11 16 rfl
  obtain ⟨mp12, ml12, mk12, mn12⟩ := hmt 12 11 16 rfl
  refine j_aload_n E dX7_ask_0 rfl rfl ?_
  refine j_iload_n E dX7_ask_1 rfl rfl ?_
  refine j_callV1 (ci := 7) (n := 1) E (k_X7_reached hM0 hp) dX7_ask_2 gX7_ask_X7_reached rfl (by decide +kernel) ⟨rfl, rfl, by decide, by decide⟩ ⟨Nat.zero_le _, Nat.zero_le _⟩ hm1 hm2 rfl rfl rfl (Nat.le_of_ble_eq_true rfl) rfl ?_
  refine j_if_ne (tgt := 42) E dX7_ask_5 (by decide) (fun h5 => ?_) (fun h5 => ?_)
  · refine j_aload_n E dX7_ask_42 rfl rfl ?_
    refine j_getP (ci := 7) (k := 10) (Cn := RX7) (T := TX7) (N := 34) E dX7_ask_43 hm1 hm2 rfl (by decide) hinX7 (by decide +kernel) rfl mp10 ?_
    refine j_iload_n E dX7_ask_46 rfl rfl ?_
    refine j_iconst (v := 0) E dX7_ask_47 (by decide) ?_
    refine j_iast E dX7_ask_48 ml10 mn10 rfl hp (by decide) mk10 ?_
    refine j_aload_n E dX7_ask_49 rfl rfl ?_
    refine j_getP (ci := 7) (k := 11) (Cn := RX7) (T := TX7) (N := 34) E dX7_ask_50 hm1 hm2 rfl (by decide) hinX7 (by decide +kernel) rfl mp11 ?_
    refine j_iload_n E dX7_ask_53 rfl rfl ?_
    refine j_zald E dX7_ask_54 ml11 mn11 rfl hp (by decide) mk11 ?_
    try simp only [pI_m hinj, pF_m hinj, pI_2, pF_1, Nat.reduceEqDiff, Nat.reduceLT, Nat.reduceLeDiff, eq_self, ↓reduceIte, mNote_m2 hinj, Nat.reduceBEq]
    refine j_if_eq (tgt := 71) E dX7_ask_55 (by decide) (fun h55 => ?_) (fun h55 => ?_)
    · refine j_aload_n E dX7_ask_71 rfl rfl ?_
      refine j_getP (ci := 7) (k := 12) (Cn := RX7) (T := TX7) (N := 34) E dX7_ask_72 hm1 hm2 rfl (by decide) hinX7 (by decide +kernel) rfl mp12 ?_
      refine j_iload_n E dX7_ask_75 rfl rfl ?_
      refine j_zald E dX7_ask_76 ml12 mn12 rfl hp (by decide) mk12 ?_
      try simp only [pI_m hinj, pF_m hinj, pI_2, pF_1, Nat.reduceEqDiff, Nat.reduceLT, Nat.reduceLeDiff, eq_self, ↓reduceIte, mNote_m2 hinj, Nat.reduceBEq]
      refine j_if_ne (tgt := 85) E dX7_ask_77 (by decide) (fun h77 => ?_) (fun h77 => ?_)
      · exact j_vret E dX7_ask_85 rfl (by simp [mAsk, h5, h55, h77])
      · refine j_aload_n E dX7_ask_80 rfl rfl ?_
        refine j_iload_n E dX7_ask_81 rfl rfl ?_
        refine j_callV0 (ci := 7) (n := 1) E (k_X7_sense hM0 hp (by intro e; have e2 := hok (by intro e3; exact e (by simp [pI_m hinj, mNote_m hinj, e3])); simp only [okM, mNote_2, pI_2, pI_m hinj, mNote_m2 hinj, Nat.reduceEqDiff, Nat.reduceLT, Nat.reduceBEq, Nat.reduceLeDiff, ↓reduceIte] at e2 ⊢; exact e2)) dX7_ask_82 gX7_ask_X7_sense rfl (by decide +kernel) ⟨rfl, rfl, by decide, by decide⟩ ⟨Nat.zero_le _, Nat.zero_le _⟩ hm1 hm2 rfl rfl rfl (Nat.le_of_ble_eq_true rfl) rfl ?_
        exact j_vret E dX7_ask_85 rfl (by simp [mAsk, h5, h55, h77])
    · refine j_aload_n E dX7_ask_58 rfl rfl ?_
      refine j_getP (ci := 7) (k := 11) (Cn := RX7) (T := TX7) (N := 34) E dX7_ask_59 hm1 hm2 rfl (by decide) hinX7 (by decide +kernel) rfl mp11 ?_
      refine j_iload_n E dX7_ask_62 rfl rfl ?_
      refine j_iconst (v := 0) E dX7_ask_63 (by decide) ?_
      refine j_zast E dX7_ask_64 ml11 mn11 rfl hp (by decide) mk11 rfl ?_
      refine j_aload_n E dX7_ask_65 rfl rfl ?_
      refine j_iconst (v := 3) E dX7_ask_66 (by decide) ?_
      refine j_iload_n E dX7_ask_67 rfl rfl ?_
      refine j_callV0 (ci := 7) (n := 2) E (k_X7_note hM0) dX7_ask_68 gX7_ask_X7_note rfl (by decide +kernel) ⟨rfl, rfl, by decide, by decide⟩ ⟨Nat.zero_le _, Nat.zero_le _⟩ hm1 hm2 rfl rfl rfl (Nat.le_of_ble_eq_true rfl) rfl ?_
      refine j_aload_n E dX7_ask_71 rfl rfl ?_
      refine j_getP (ci := 7) (k := 12) (Cn := RX7) (T := TX7) (N := 34) E dX7_ask_72 hm1 hm2 rfl (by decide) hinX7 (by decide +kernel) rfl mp12 ?_
      refine j_iload_n E dX7_ask_75 rfl rfl ?_
      refine j_zald E dX7_ask_76 ml12 mn12 rfl hp (by decide) mk12 ?_
      try simp only [pI_m hinj, pF_m hinj, pI_2, pF_1, Nat.reduceEqDiff, Nat.reduceLT, Nat.reduceLeDiff, eq_self, ↓reduceIte, mNote_m2 hinj, Nat.reduceBEq]
      refine j_if_ne (tgt := 85) E dX7_ask_77 (by decide) (fun h77 => ?_) (fun h77 => ?_)
      · exact j_vret E dX7_ask_85 rfl (by simp [mAsk, h5, h55, h77])
      · refine j_aload_n E dX7_ask_80 rfl rfl ?_
        refine j_iload_n E dX7_ask_81 rfl rfl ?_
        refine j_callV0 (ci := 7) (n := 1) E (k_X7_sense hM0 hp (by intro e; have e2 := hok (by intro e3; exact e (by simp [pI_m hinj, mNote_m hinj, e3])); simp only [okM, mNote_2, pI_2, pI_m hinj, mNote_m2 hinj, Nat.reduceEqDiff, Nat.reduceLT, Nat.reduceBEq, Nat.reduceLeDiff, ↓reduceIte] at e2 ⊢; exact e2)) dX7_ask_82 gX7_ask_X7_sense rfl (by decide +kernel) ⟨rfl, rfl, by decide, by decide⟩ ⟨Nat.zero_le _, Nat.zero_le _⟩ hm1 hm2 rfl rfl rfl (Nat.le_of_ble_eq_true rfl) rfl ?_
        exact j_vret E dX7_ask_85 rfl (by simp [mAsk, h5, h55, h77])
  · refine j_aload_n E dX7_ask_8 rfl rfl ?_
    refine j_getP (ci := 7) (k := 10) (Cn := RX7) (T := TX7) (N := 34) E dX7_ask_9 hm1 hm2 rfl (by decide) hinX7 (by decide +kernel) rfl mp10 ?_
    refine j_iload_n E dX7_ask_12 rfl rfl ?_
    refine j_dup2_11 E dX7_ask_13 rfl rfl ?_
    refine j_iald E dX7_ask_14 ml10 mn10 rfl hp (by decide) mk10 ?_
    refine j_iconst (v := 1) E dX7_ask_15 (by decide) ?_
    refine j_iadd E dX7_ask_16 ?_
    refine j_iast E dX7_ask_17 ml10 mn10 rfl hp (by decide) mk10 ?_
    refine j_aload_n E dX7_ask_18 rfl rfl ?_
    refine j_getP (ci := 7) (k := 10) (Cn := RX7) (T := TX7) (N := 34) E dX7_ask_19 hm1 hm2 rfl (by decide) hinX7 (by decide +kernel) rfl mp10 ?_
    refine j_iload_n E dX7_ask_22 rfl rfl ?_
    refine j_iald E dX7_ask_23 ml10 mn10 rfl hp (by decide) mk10 ?_
    try simp only [pI_m hinj, pF_m hinj, pI_2, pF_1, Nat.reduceEqDiff, Nat.reduceLT, Nat.reduceLeDiff, eq_self, ↓reduceIte, mNote_m2 hinj, Nat.reduceBEq]
    refine j_iconst (v := 2) E dX7_ask_24 (by decide) ?_
    refine j_icmp_ne (tgt := 41) E dX7_ask_25 (by decide) (fun h25 => ?_) (fun h25 => ?_)
    · exact j_vret E dX7_ask_41 rfl (by simp [mAsk, h5, h25])
    · refine j_aload_n E dX7_ask_28 rfl rfl ?_
      refine j_getP (ci := 7) (k := 11) (Cn := RX7) (T := TX7) (N := 34) E dX7_ask_29 hm1 hm2 rfl (by decide) hinX7 (by decide +kernel) rfl mp11 ?_
      refine j_iload_n E dX7_ask_32 rfl rfl ?_
      refine j_iconst (v := 1) E dX7_ask_33 (by decide) ?_
      refine j_zast E dX7_ask_34 ml11 mn11 rfl hp (by decide) mk11 rfl ?_
      refine j_aload_n E dX7_ask_35 rfl rfl ?_
      refine j_iconst (v := 2) E dX7_ask_36 (by decide) ?_
      refine j_iload_n E dX7_ask_37 rfl rfl ?_
      refine j_callV0 (ci := 7) (n := 2) E (k_X7_note hM0) dX7_ask_38 gX7_ask_X7_note rfl (by decide +kernel) ⟨rfl, rfl, by decide, by decide⟩ ⟨Nat.zero_le _, Nat.zero_le _⟩ hm1 hm2 rfl rfl rfl (Nat.le_of_ble_eq_true rfl) rfl ?_
      exact j_vret E dX7_ask_41 rfl (by simp [mAsk, h5, h25])

set_option maxHeartbeats 1600000 in
set_option maxRecDepth 100000 in
theorem kl_X7_burns_7 {C : jC} (E : jE C cX7_burns 6 wsX7_burns RX7 (some .boolean) ({ frames := 2, cells := 0, slots := 0, locals := 43 } : Room)) {X : va_W} {M : pM} {m : Nat → Nat} {z : Nat} (hM : wM (jG C) m) (hz : z < 4) : ∀ (k p : Nat) (n b : Int32), p + k = 16 → jW C 6 7 [(0, .ref (m 0)), (1, .int (nI z)), (2, .int n), (3, .int b), (4, .int (nI p))] [] X M 0 0 (jZ C X M (some (.int (if M.1 (m 13) z = 0 then (if M.1 (m 15) z = 0 then (if M.1 (m 14) z ≤ (mBuL M m (nI z) k p n b).1 then 1 else if (mBuL M m (nI z) k p n b).2 = 0 then 0 else 1) else 0) else 0))) 0 0) := by
  have hinX7 : ∀ w ∈ u_ws RX7 TX7 34, w ∈ wsX7_burns := by decide +kernel
  have hM0 := hM
  obtain ⟨hm1, hm2, hmt, hinj⟩ := hM
  obtain ⟨mp2, ml2, mk2, mn2⟩ := hmt 2 10 16 rfl
  obtain ⟨mp3, ml3, mk3, mn3⟩ := hmt 3 10 16 rfl
  obtain ⟨mp9, ml9, mk9, mn9⟩ := hmt 9 11 16 rfl
  obtain ⟨mp12, ml12, mk12, mn12⟩ := hmt 12 11 16 rfl
  obtain ⟨mp13, ml13, mk13, mn13⟩ := hmt 13 11 4 rfl
  obtain ⟨mp14, ml14, mk14, mn14⟩ := hmt 14 10 4 rfl
  obtain ⟨mp15, ml15, mk15, mn15⟩ := hmt 15 11 4 rfl
  intro k
  induction k with
  | zero =>
    intro p n b hn
    obtain rfl : p = 16 := by omega
    refine j_iload E dX7_burns_7 rfl ?_
    refine j_bipush (v := 16) E dX7_burns_9 (by decide) ?_
    refine j_icmp_ge (tgt := 106) E dX7_burns_11 (by decide) (fun h => ?_) (fun h => absurd (by decide) h)
    refine j_aload_n E dX7_burns_106 rfl rfl ?_
    refine j_getP (ci := 7) (k := 13) (Cn := RX7) (T := TX7) (N := 34) E dX7_burns_107 hm1 hm2 rfl (by decide) hinX7 (by decide +kernel) rfl mp13 ?_
    refine j_iload_n E dX7_burns_110 rfl rfl ?_
    refine j_zald E dX7_burns_111 ml13 mn13 rfl hz (by decide) mk13 ?_
    refine j_if_ne (tgt := 142) E dX7_burns_112 (by decide) (fun h112 => ?_) (fun h112 => ?_)
    · refine j_iconst (v := 0) E dX7_burns_142 (by decide) ?_
      exact j_zret E dX7_burns_143 rfl (by simp [mBuL, h112]) rfl (by simp [mBuL, h112])
    · refine j_aload_n E dX7_burns_115 rfl rfl ?_
      refine j_getP (ci := 7) (k := 15) (Cn := RX7) (T := TX7) (N := 34) E dX7_burns_116 hm1 hm2 rfl (by decide) hinX7 (by decide +kernel) rfl mp15 ?_
      refine j_iload_n E dX7_burns_119 rfl rfl ?_
      refine j_zald E dX7_burns_120 ml15 mn15 rfl hz (by decide) mk15 ?_
      refine j_if_ne (tgt := 142) E dX7_burns_121 (by decide) (fun h121 => ?_) (fun h121 => ?_)
      · refine j_iconst (v := 0) E dX7_burns_142 (by decide) ?_
        exact j_zret E dX7_burns_143 rfl (by simp [mBuL, h112, h121]) rfl (by simp [mBuL, h112, h121])
      · refine j_iload_n E dX7_burns_124 rfl rfl ?_
        refine j_aload_n E dX7_burns_125 rfl rfl ?_
        refine j_getP (ci := 7) (k := 14) (Cn := RX7) (T := TX7) (N := 34) E dX7_burns_126 hm1 hm2 rfl (by decide) hinX7 (by decide +kernel) rfl mp14 ?_
        refine j_iload_n E dX7_burns_129 rfl rfl ?_
        refine j_iald E dX7_burns_130 ml14 mn14 rfl hz (by decide) mk14 ?_
        refine j_icmp_ge (tgt := 138) E dX7_burns_131 (by decide) (fun h131 => ?_) (fun h131 => ?_)
        · refine j_iconst (v := 1) E dX7_burns_138 (by decide) ?_
          refine j_goto (tgt := 143) E dX7_burns_139 (by decide) ?_
          exact j_zret E dX7_burns_143 rfl (by simp [mBuL, h112, h121, h131]) rfl (by simp [mBuL, h112, h121, h131])
        · refine j_iload_n E dX7_burns_134 rfl rfl ?_
          refine j_if_eq (tgt := 142) E dX7_burns_135 (by decide) (fun h135 => ?_) (fun h135 => ?_)
          · refine j_iconst (v := 0) E dX7_burns_142 (by decide) ?_
            exact j_zret E dX7_burns_143 rfl (by simp [mBuL, h112, h121, h131, h135]) rfl (by simp [mBuL, h112, h121, h131, h135])
          · refine j_iconst (v := 1) E dX7_burns_138 (by decide) ?_
            refine j_goto (tgt := 143) E dX7_burns_139 (by decide) ?_
            exact j_zret E dX7_burns_143 rfl (by simp [mBuL, h112, h121, h131, h135]) rfl (by simp [mBuL, h112, h121, h131, h135])
  | succ k ih =>
    intro p n b hn
    have hp : p < 16 := by omega
    refine j_iload E dX7_burns_7 rfl ?_
    refine j_bipush (v := 16) E dX7_burns_9 (by decide) ?_
    refine j_icmp_ge (tgt := 106) E dX7_burns_11 (by decide) (fun h11 => ?_) (fun h11 => ?_)
    · exact absurd h11 (nI_ge (b := 16) hp (by decide))
    · refine j_aload_n E dX7_burns_14 rfl rfl ?_
      refine j_iload E dX7_burns_15 rfl ?_
      refine j_callV1 (ci := 7) (n := 1) E (k_X7_isSensor hM0 hp) dX7_burns_17 gX7_burns_X7_isSensor rfl (by decide +kernel) ⟨rfl, rfl, by decide, by decide⟩ ⟨Nat.zero_le _, Nat.zero_le _⟩ hm1 hm2 rfl rfl rfl (Nat.le_of_ble_eq_true rfl) rfl ?_
      refine j_if_eq (tgt := 58) E dX7_burns_20 (by decide) (fun h20 => ?_) (fun h20 => ?_)
      · refine j_iconst (v := 0) E dX7_burns_58 (by decide) ?_
        refine j_istore E dX7_burns_59 (by decide) ?_
        refine j_iload E dX7_burns_61 rfl ?_
        refine j_if_eq (tgt := 72) E dX7_burns_63 (by decide) (fun h63 => ?_) (fun h63 => ?_)
        · refine j_iload_n E dX7_burns_72 rfl rfl ?_
          refine j_istore_n E dX7_burns_73 rfl (by decide) ?_
          refine j_iload_n E dX7_burns_74 rfl rfl ?_
          refine j_if_ne (tgt := 94) E dX7_burns_75 (by decide) (fun h75 => ?_) (fun h75 => ?_)
          · refine j_iconst (v := 1) E dX7_burns_94 (by decide) ?_
            refine j_goto (tgt := 99) E dX7_burns_95 (by decide) ?_
            refine j_istore_n E dX7_burns_99 rfl (by decide) ?_
            refine j_iinc E dX7_burns_100 rfl (by decide) ?_
            refine j_goto (tgt := 7) E dX7_burns_103 (by decide) ?_
            exact j_lv [0, 1, 2, 3, 4] rfl (by rw [nI_inc]; exact j_r (by first | (simp [mBuL, mIsAl, mMine, h11, h20, h63, h75]; done) | (exfalso; revert h11 h20 h63 h75; simp; done)) rfl (ih (p + 1) _ _ (by omega)))
          · refine j_iload E dX7_burns_78 rfl ?_
            refine j_if_eq (tgt := 98) E dX7_burns_80 (by decide) (fun h80 => ?_) (fun h80 => ?_)
            · refine j_iconst (v := 0) E dX7_burns_98 (by decide) ?_
              refine j_istore_n E dX7_burns_99 rfl (by decide) ?_
              refine j_iinc E dX7_burns_100 rfl (by decide) ?_
              refine j_goto (tgt := 7) E dX7_burns_103 (by decide) ?_
              exact j_lv [0, 1, 2, 3, 4] rfl (by rw [nI_inc]; exact j_r (by first | (simp [mBuL, mIsAl, mMine, h11, h20, h63, h75, h80]; done) | (exfalso; revert h11 h20 h63 h75 h80; simp; done)) rfl (ih (p + 1) _ _ (by omega)))
            · refine j_aload_n E dX7_burns_83 rfl rfl ?_
              refine j_getP (ci := 7) (k := 2) (Cn := RX7) (T := TX7) (N := 34) E dX7_burns_84 hm1 hm2 rfl (by decide) hinX7 (by decide +kernel) rfl mp2 ?_
              refine j_iload E dX7_burns_87 rfl ?_
              refine j_iald E dX7_burns_89 ml2 mn2 rfl hp (by decide) mk2 ?_
              refine j_iconst (v := 3) E dX7_burns_90 (by decide) ?_
              refine j_icmp_ne (tgt := 98) E dX7_burns_91 (by decide) (fun h91 => ?_) (fun h91 => ?_)
              · refine j_iconst (v := 0) E dX7_burns_98 (by decide) ?_
                refine j_istore_n E dX7_burns_99 rfl (by decide) ?_
                refine j_iinc E dX7_burns_100 rfl (by decide) ?_
                refine j_goto (tgt := 7) E dX7_burns_103 (by decide) ?_
                exact j_lv [0, 1, 2, 3, 4] rfl (by rw [nI_inc]; exact j_r (by first | (simp [mBuL, mIsAl, mMine, h11, h20, h63, h75, h80, h91]; done) | (exfalso; revert h11 h20 h63 h75 h80 h91; simp; done)) rfl (ih (p + 1) _ _ (by omega)))
              · refine j_iconst (v := 1) E dX7_burns_94 (by decide) ?_
                refine j_goto (tgt := 99) E dX7_burns_95 (by decide) ?_
                refine j_istore_n E dX7_burns_99 rfl (by decide) ?_
                refine j_iinc E dX7_burns_100 rfl (by decide) ?_
                refine j_goto (tgt := 7) E dX7_burns_103 (by decide) ?_
                exact j_lv [0, 1, 2, 3, 4] rfl (by rw [nI_inc]; exact j_r (by first | (simp [mBuL, mIsAl, mMine, h11, h20, h63, h75, h80, h91]; done) | (exfalso; revert h11 h20 h63 h75 h80 h91; simp; done)) rfl (ih (p + 1) _ _ (by omega)))
        · refine j_iload_n E dX7_burns_66 rfl rfl ?_
          refine j_iconst (v := 1) E dX7_burns_67 (by decide) ?_
          refine j_iadd E dX7_burns_68 ?_
          refine j_goto (tgt := 73) E dX7_burns_69 (by decide) ?_
          refine j_istore_n E dX7_burns_73 rfl (by decide) ?_
          refine j_iload_n E dX7_burns_74 rfl rfl ?_
          refine j_if_ne (tgt := 94) E dX7_burns_75 (by decide) (fun h75 => ?_) (fun h75 => ?_)
          · refine j_iconst (v := 1) E dX7_burns_94 (by decide) ?_
            refine j_goto (tgt := 99) E dX7_burns_95 (by decide) ?_
            refine j_istore_n E dX7_burns_99 rfl (by decide) ?_
            refine j_iinc E dX7_burns_100 rfl (by decide) ?_
            refine j_goto (tgt := 7) E dX7_burns_103 (by decide) ?_
            exact j_lv [0, 1, 2, 3, 4] rfl (by rw [nI_inc]; exact j_r (by first | (simp [mBuL, mIsAl, mMine, h11, h20, h63, h75]; done) | (exfalso; revert h11 h20 h63 h75; simp; done)) rfl (ih (p + 1) _ _ (by omega)))
          · refine j_iload E dX7_burns_78 rfl ?_
            refine j_if_eq (tgt := 98) E dX7_burns_80 (by decide) (fun h80 => ?_) (fun h80 => ?_)
            · refine j_iconst (v := 0) E dX7_burns_98 (by decide) ?_
              refine j_istore_n E dX7_burns_99 rfl (by decide) ?_
              refine j_iinc E dX7_burns_100 rfl (by decide) ?_
              refine j_goto (tgt := 7) E dX7_burns_103 (by decide) ?_
              exact j_lv [0, 1, 2, 3, 4] rfl (by rw [nI_inc]; exact j_r (by first | (simp [mBuL, mIsAl, mMine, h11, h20, h63, h75, h80]; done) | (exfalso; revert h11 h20 h63 h75 h80; simp; done)) rfl (ih (p + 1) _ _ (by omega)))
            · refine j_aload_n E dX7_burns_83 rfl rfl ?_
              refine j_getP (ci := 7) (k := 2) (Cn := RX7) (T := TX7) (N := 34) E dX7_burns_84 hm1 hm2 rfl (by decide) hinX7 (by decide +kernel) rfl mp2 ?_
              refine j_iload E dX7_burns_87 rfl ?_
              refine j_iald E dX7_burns_89 ml2 mn2 rfl hp (by decide) mk2 ?_
              refine j_iconst (v := 3) E dX7_burns_90 (by decide) ?_
              refine j_icmp_ne (tgt := 98) E dX7_burns_91 (by decide) (fun h91 => ?_) (fun h91 => ?_)
              · refine j_iconst (v := 0) E dX7_burns_98 (by decide) ?_
                refine j_istore_n E dX7_burns_99 rfl (by decide) ?_
                refine j_iinc E dX7_burns_100 rfl (by decide) ?_
                refine j_goto (tgt := 7) E dX7_burns_103 (by decide) ?_
                exact j_lv [0, 1, 2, 3, 4] rfl (by rw [nI_inc]; exact j_r (by first | (simp [mBuL, mIsAl, mMine, h11, h20, h63, h75, h80, h91]; done) | (exfalso; revert h11 h20 h63 h75 h80 h91; simp; done)) rfl (ih (p + 1) _ _ (by omega)))
              · refine j_iconst (v := 1) E dX7_burns_94 (by decide) ?_
                refine j_goto (tgt := 99) E dX7_burns_95 (by decide) ?_
                refine j_istore_n E dX7_burns_99 rfl (by decide) ?_
                refine j_iinc E dX7_burns_100 rfl (by decide) ?_
                refine j_goto (tgt := 7) E dX7_burns_103 (by decide) ?_
                exact j_lv [0, 1, 2, 3, 4] rfl (by rw [nI_inc]; exact j_r (by first | (simp [mBuL, mIsAl, mMine, h11, h20, h63, h75, h80, h91]; done) | (exfalso; revert h11 h20 h63 h75 h80 h91; simp; done)) rfl (ih (p + 1) _ _ (by omega)))
      · refine j_aload_n E dX7_burns_23 rfl rfl ?_
        refine j_getP (ci := 7) (k := 3) (Cn := RX7) (T := TX7) (N := 34) E dX7_burns_24 hm1 hm2 rfl (by decide) hinX7 (by decide +kernel) rfl mp3 ?_
        refine j_iload E dX7_burns_27 rfl ?_
        refine j_iald E dX7_burns_29 ml3 mn3 rfl hp (by decide) mk3 ?_
        refine j_iload_n E dX7_burns_30 rfl rfl ?_
        refine j_icmp_ne (tgt := 58) E dX7_burns_31 (by decide) (fun h31 => ?_) (fun h31 => ?_)
        · refine j_iconst (v := 0) E dX7_burns_58 (by decide) ?_
          refine j_istore E dX7_burns_59 (by decide) ?_
          refine j_iload E dX7_burns_61 rfl ?_
          refine j_if_eq (tgt := 72) E dX7_burns_63 (by decide) (fun h63 => ?_) (fun h63 => ?_)
          · refine j_iload_n E dX7_burns_72 rfl rfl ?_
            refine j_istore_n E dX7_burns_73 rfl (by decide) ?_
            refine j_iload_n E dX7_burns_74 rfl rfl ?_
            refine j_if_ne (tgt := 94) E dX7_burns_75 (by decide) (fun h75 => ?_) (fun h75 => ?_)
            · refine j_iconst (v := 1) E dX7_burns_94 (by decide) ?_
              refine j_goto (tgt := 99) E dX7_burns_95 (by decide) ?_
              refine j_istore_n E dX7_burns_99 rfl (by decide) ?_
              refine j_iinc E dX7_burns_100 rfl (by decide) ?_
              refine j_goto (tgt := 7) E dX7_burns_103 (by decide) ?_
              exact j_lv [0, 1, 2, 3, 4] rfl (by rw [nI_inc]; exact j_r (by first | (simp [mBuL, mIsAl, mMine, h11, h20, h31, h63, h75]; done) | (exfalso; revert h11 h20 h31 h63 h75; simp; done)) rfl (ih (p + 1) _ _ (by omega)))
            · refine j_iload E dX7_burns_78 rfl ?_
              refine j_if_eq (tgt := 98) E dX7_burns_80 (by decide) (fun h80 => ?_) (fun h80 => ?_)
              · refine j_iconst (v := 0) E dX7_burns_98 (by decide) ?_
                refine j_istore_n E dX7_burns_99 rfl (by decide) ?_
                refine j_iinc E dX7_burns_100 rfl (by decide) ?_
                refine j_goto (tgt := 7) E dX7_burns_103 (by decide) ?_
                exact j_lv [0, 1, 2, 3, 4] rfl (by rw [nI_inc]; exact j_r (by first | (simp [mBuL, mIsAl, mMine, h11, h20, h31, h63, h75, h80]; done) | (exfalso; revert h11 h20 h31 h63 h75 h80; simp; done)) rfl (ih (p + 1) _ _ (by omega)))
              · refine j_aload_n E dX7_burns_83 rfl rfl ?_
                refine j_getP (ci := 7) (k := 2) (Cn := RX7) (T := TX7) (N := 34) E dX7_burns_84 hm1 hm2 rfl (by decide) hinX7 (by decide +kernel) rfl mp2 ?_
                refine j_iload E dX7_burns_87 rfl ?_
                refine j_iald E dX7_burns_89 ml2 mn2 rfl hp (by decide) mk2 ?_
                refine j_iconst (v := 3) E dX7_burns_90 (by decide) ?_
                refine j_icmp_ne (tgt := 98) E dX7_burns_91 (by decide) (fun h91 => ?_) (fun h91 => ?_)
                · refine j_iconst (v := 0) E dX7_burns_98 (by decide) ?_
                  refine j_istore_n E dX7_burns_99 rfl (by decide) ?_
                  refine j_iinc E dX7_burns_100 rfl (by decide) ?_
                  refine j_goto (tgt := 7) E dX7_burns_103 (by decide) ?_
                  exact j_lv [0, 1, 2, 3, 4] rfl (by rw [nI_inc]; exact j_r (by first | (simp [mBuL, mIsAl, mMine, h11, h20, h31, h63, h75, h80, h91]; done) | (exfalso; revert h11 h20 h31 h63 h75 h80 h91; simp; done)) rfl (ih (p + 1) _ _ (by omega)))
                · refine j_iconst (v := 1) E dX7_burns_94 (by decide) ?_
                  refine j_goto (tgt := 99) E dX7_burns_95 (by decide) ?_
                  refine j_istore_n E dX7_burns_99 rfl (by decide) ?_
                  refine j_iinc E dX7_burns_100 rfl (by decide) ?_
                  refine j_goto (tgt := 7) E dX7_burns_103 (by decide) ?_
                  exact j_lv [0, 1, 2, 3, 4] rfl (by rw [nI_inc]; exact j_r (by first | (simp [mBuL, mIsAl, mMine, h11, h20, h31, h63, h75, h80, h91]; done) | (exfalso; revert h11 h20 h31 h63 h75 h80 h91; simp; done)) rfl (ih (p + 1) _ _ (by omega)))
          · refine j_iload_n E dX7_burns_66 rfl rfl ?_
            refine j_iconst (v := 1) E dX7_burns_67 (by decide) ?_
            refine j_iadd E dX7_burns_68 ?_
            refine j_goto (tgt := 73) E dX7_burns_69 (by decide) ?_
            refine j_istore_n E dX7_burns_73 rfl (by decide) ?_
            refine j_iload_n E dX7_burns_74 rfl rfl ?_
            refine j_if_ne (tgt := 94) E dX7_burns_75 (by decide) (fun h75 => ?_) (fun h75 => ?_)
            · refine j_iconst (v := 1) E dX7_burns_94 (by decide) ?_
              refine j_goto (tgt := 99) E dX7_burns_95 (by decide) ?_
              refine j_istore_n E dX7_burns_99 rfl (by decide) ?_
              refine j_iinc E dX7_burns_100 rfl (by decide) ?_
              refine j_goto (tgt := 7) E dX7_burns_103 (by decide) ?_
              exact j_lv [0, 1, 2, 3, 4] rfl (by rw [nI_inc]; exact j_r (by first | (simp [mBuL, mIsAl, mMine, h11, h20, h31, h63, h75]; done) | (exfalso; revert h11 h20 h31 h63 h75; simp; done)) rfl (ih (p + 1) _ _ (by omega)))
            · refine j_iload E dX7_burns_78 rfl ?_
              refine j_if_eq (tgt := 98) E dX7_burns_80 (by decide) (fun h80 => ?_) (fun h80 => ?_)
              · refine j_iconst (v := 0) E dX7_burns_98 (by decide) ?_
                refine j_istore_n E dX7_burns_99 rfl (by decide) ?_
                refine j_iinc E dX7_burns_100 rfl (by decide) ?_
                refine j_goto (tgt := 7) E dX7_burns_103 (by decide) ?_
                exact j_lv [0, 1, 2, 3, 4] rfl (by rw [nI_inc]; exact j_r (by first | (simp [mBuL, mIsAl, mMine, h11, h20, h31, h63, h75, h80]; done) | (exfalso; revert h11 h20 h31 h63 h75 h80; simp; done)) rfl (ih (p + 1) _ _ (by omega)))
              · refine j_aload_n E dX7_burns_83 rfl rfl ?_
                refine j_getP (ci := 7) (k := 2) (Cn := RX7) (T := TX7) (N := 34) E dX7_burns_84 hm1 hm2 rfl (by decide) hinX7 (by decide +kernel) rfl mp2 ?_
                refine j_iload E dX7_burns_87 rfl ?_
                refine j_iald E dX7_burns_89 ml2 mn2 rfl hp (by decide) mk2 ?_
                refine j_iconst (v := 3) E dX7_burns_90 (by decide) ?_
                refine j_icmp_ne (tgt := 98) E dX7_burns_91 (by decide) (fun h91 => ?_) (fun h91 => ?_)
                · refine j_iconst (v := 0) E dX7_burns_98 (by decide) ?_
                  refine j_istore_n E dX7_burns_99 rfl (by decide) ?_
                  refine j_iinc E dX7_burns_100 rfl (by decide) ?_
                  refine j_goto (tgt := 7) E dX7_burns_103 (by decide) ?_
                  exact j_lv [0, 1, 2, 3, 4] rfl (by rw [nI_inc]; exact j_r (by first | (simp [mBuL, mIsAl, mMine, h11, h20, h31, h63, h75, h80, h91]; done) | (exfalso; revert h11 h20 h31 h63 h75 h80 h91; simp; done)) rfl (ih (p + 1) _ _ (by omega)))
                · refine j_iconst (v := 1) E dX7_burns_94 (by decide) ?_
                  refine j_goto (tgt := 99) E dX7_burns_95 (by decide) ?_
                  refine j_istore_n E dX7_burns_99 rfl (by decide) ?_
                  refine j_iinc E dX7_burns_100 rfl (by decide) ?_
                  refine j_goto (tgt := 7) E dX7_burns_103 (by decide) ?_
                  exact j_lv [0, 1, 2, 3, 4] rfl (by rw [nI_inc]; exact j_r (by first | (simp [mBuL, mIsAl, mMine, h11, h20, h31, h63, h75, h80, h91]; done) | (exfalso; revert h11 h20 h31 h63 h75 h80 h91; simp; done)) rfl (ih (p + 1) _ _ (by omega)))
        · refine j_aload_n E dX7_burns_34 rfl rfl ?_
          refine j_getP (ci := 7) (k := 12) (Cn := RX7) (T := TX7) (N := 34) E dX7_burns_35 hm1 hm2 rfl (by decide) hinX7 (by decide +kernel) rfl mp12 ?_
          refine j_iload E dX7_burns_38 rfl ?_
          refine j_zald E dX7_burns_40 ml12 mn12 rfl hp (by decide) mk12 ?_
          refine j_if_ne (tgt := 58) E dX7_burns_41 (by decide) (fun h41 => ?_) (fun h41 => ?_)
          · refine j_iconst (v := 0) E dX7_burns_58 (by decide) ?_
            refine j_istore E dX7_burns_59 (by decide) ?_
            refine j_iload E dX7_burns_61 rfl ?_
            refine j_if_eq (tgt := 72) E dX7_burns_63 (by decide) (fun h63 => ?_) (fun h63 => ?_)
            · refine j_iload_n E dX7_burns_72 rfl rfl ?_
              refine j_istore_n E dX7_burns_73 rfl (by decide) ?_
              refine j_iload_n E dX7_burns_74 rfl rfl ?_
              refine j_if_ne (tgt := 94) E dX7_burns_75 (by decide) (fun h75 => ?_) (fun h75 => ?_)
              · refine j_iconst (v := 1) E dX7_burns_94 (by decide) ?_
                refine j_goto (tgt := 99) E dX7_burns_95 (by decide) ?_
                refine j_istore_n E dX7_burns_99 rfl (by decide) ?_
                refine j_iinc E dX7_burns_100 rfl (by decide) ?_
                refine j_goto (tgt := 7) E dX7_burns_103 (by decide) ?_
                exact j_lv [0, 1, 2, 3, 4] rfl (by rw [nI_inc]; exact j_r (by first | (simp [mBuL, mIsAl, mMine, h11, h20, h31, h41, h63, h75]; done) | (exfalso; revert h11 h20 h31 h41 h63 h75; simp; done)) rfl (ih (p + 1) _ _ (by omega)))
              · refine j_iload E dX7_burns_78 rfl ?_
                refine j_if_eq (tgt := 98) E dX7_burns_80 (by decide) (fun h80 => ?_) (fun h80 => ?_)
                · refine j_iconst (v := 0) E dX7_burns_98 (by decide) ?_
                  refine j_istore_n E dX7_burns_99 rfl (by decide) ?_
                  refine j_iinc E dX7_burns_100 rfl (by decide) ?_
                  refine j_goto (tgt := 7) E dX7_burns_103 (by decide) ?_
                  exact j_lv [0, 1, 2, 3, 4] rfl (by rw [nI_inc]; exact j_r (by first | (simp [mBuL, mIsAl, mMine, h11, h20, h31, h41, h63, h75, h80]; done) | (exfalso; revert h11 h20 h31 h41 h63 h75 h80; simp; done)) rfl (ih (p + 1) _ _ (by omega)))
                · refine j_aload_n E dX7_burns_83 rfl rfl ?_
                  refine j_getP (ci := 7) (k := 2) (Cn := RX7) (T := TX7) (N := 34) E dX7_burns_84 hm1 hm2 rfl (by decide) hinX7 (by decide +kernel) rfl mp2 ?_
                  refine j_iload E dX7_burns_87 rfl ?_
                  refine j_iald E dX7_burns_89 ml2 mn2 rfl hp (by decide) mk2 ?_
                  refine j_iconst (v := 3) E dX7_burns_90 (by decide) ?_
                  refine j_icmp_ne (tgt := 98) E dX7_burns_91 (by decide) (fun h91 => ?_) (fun h91 => ?_)
                  · refine j_iconst (v := 0) E dX7_burns_98 (by decide) ?_
                    refine j_istore_n E dX7_burns_99 rfl (by decide) ?_
                    refine j_iinc E dX7_burns_100 rfl (by decide) ?_
                    refine j_goto (tgt := 7) E dX7_burns_103 (by decide) ?_
                    exact j_lv [0, 1, 2, 3, 4] rfl (by rw [nI_inc]; exact j_r (by first | (simp [mBuL, mIsAl, mMine, h11, h20, h31, h41, h63, h75, h80, h91]; done) | (exfalso; revert h11 h20 h31 h41 h63 h75 h80 h91; simp; done)) rfl (ih (p + 1) _ _ (by omega)))
                  · refine j_iconst (v := 1) E dX7_burns_94 (by decide) ?_
                    refine j_goto (tgt := 99) E dX7_burns_95 (by decide) ?_
                    refine j_istore_n E dX7_burns_99 rfl (by decide) ?_
                    refine j_iinc E dX7_burns_100 rfl (by decide) ?_
                    refine j_goto (tgt := 7) E dX7_burns_103 (by decide) ?_
                    exact j_lv [0, 1, 2, 3, 4] rfl (by rw [nI_inc]; exact j_r (by first | (simp [mBuL, mIsAl, mMine, h11, h20, h31, h41, h63, h75, h80, h91]; done) | (exfalso; revert h11 h20 h31 h41 h63 h75 h80 h91; simp; done)) rfl (ih (p + 1) _ _ (by omega)))
            · refine j_iload_n E dX7_burns_66 rfl rfl ?_
              refine j_iconst (v := 1) E dX7_burns_67 (by decide) ?_
              refine j_iadd E dX7_burns_68 ?_
              refine j_goto (tgt := 73) E dX7_burns_69 (by decide) ?_
              refine j_istore_n E dX7_burns_73 rfl (by decide) ?_
              refine j_iload_n E dX7_burns_74 rfl rfl ?_
              refine j_if_ne (tgt := 94) E dX7_burns_75 (by decide) (fun h75 => ?_) (fun h75 => ?_)
              · refine j_iconst (v := 1) E dX7_burns_94 (by decide) ?_
                refine j_goto (tgt := 99) E dX7_burns_95 (by decide) ?_
                refine j_istore_n E dX7_burns_99 rfl (by decide) ?_
                refine j_iinc E dX7_burns_100 rfl (by decide) ?_
                refine j_goto (tgt := 7) E dX7_burns_103 (by decide) ?_
                exact j_lv [0, 1, 2, 3, 4] rfl (by rw [nI_inc]; exact j_r (by first | (simp [mBuL, mIsAl, mMine, h11, h20, h31, h41, h63, h75]; done) | (exfalso; revert h11 h20 h31 h41 h63 h75; simp; done)) rfl (ih (p + 1) _ _ (by omega)))
              · refine j_iload E dX7_burns_78 rfl ?_
                refine j_if_eq (tgt := 98) E dX7_burns_80 (by decide) (fun h80 => ?_) (fun h80 => ?_)
                · refine j_iconst (v := 0) E dX7_burns_98 (by decide) ?_
                  refine j_istore_n E dX7_burns_99 rfl (by decide) ?_
                  refine j_iinc E dX7_burns_100 rfl (by decide) ?_
                  refine j_goto (tgt := 7) E dX7_burns_103 (by decide) ?_
                  exact j_lv [0, 1, 2, 3, 4] rfl (by rw [nI_inc]; exact j_r (by first | (simp [mBuL, mIsAl, mMine, h11, h20, h31, h41, h63, h75, h80]; done) | (exfalso; revert h11 h20 h31 h41 h63 h75 h80; simp; done)) rfl (ih (p + 1) _ _ (by omega)))
                · refine j_aload_n E dX7_burns_83 rfl rfl ?_
                  refine j_getP (ci := 7) (k := 2) (Cn := RX7) (T := TX7) (N := 34) E dX7_burns_84 hm1 hm2 rfl (by decide) hinX7 (by decide +kernel) rfl mp2 ?_
                  refine j_iload E dX7_burns_87 rfl ?_
                  refine j_iald E dX7_burns_89 ml2 mn2 rfl hp (by decide) mk2 ?_
                  refine j_iconst (v := 3) E dX7_burns_90 (by decide) ?_
                  refine j_icmp_ne (tgt := 98) E dX7_burns_91 (by decide) (fun h91 => ?_) (fun h91 => ?_)
                  · refine j_iconst (v := 0) E dX7_burns_98 (by decide) ?_
                    refine j_istore_n E dX7_burns_99 rfl (by decide) ?_
                    refine j_iinc E dX7_burns_100 rfl (by decide) ?_
                    refine j_goto (tgt := 7) E dX7_burns_103 (by decide) ?_
                    exact j_lv [0, 1, 2, 3, 4] rfl (by rw [nI_inc]; exact j_r (by first | (simp [mBuL, mIsAl, mMine, h11, h20, h31, h41, h63, h75, h80, h91]; done) | (exfalso; revert h11 h20 h31 h41 h63 h75 h80 h91; simp; done)) rfl (ih (p + 1) _ _ (by omega)))
                  · refine j_iconst (v := 1) E dX7_burns_94 (by decide) ?_
                    refine j_goto (tgt := 99) E dX7_burns_95 (by decide) ?_
                    refine j_istore_n E dX7_burns_99 rfl (by decide) ?_
                    refine j_iinc E dX7_burns_100 rfl (by decide) ?_
                    refine j_goto (tgt := 7) E dX7_burns_103 (by decide) ?_
                    exact j_lv [0, 1, 2, 3, 4] rfl (by rw [nI_inc]; exact j_r (by first | (simp [mBuL, mIsAl, mMine, h11, h20, h31, h41, h63, h75, h80, h91]; done) | (exfalso; revert h11 h20 h31 h41 h63 h75 h80 h91; simp; done)) rfl (ih (p + 1) _ _ (by omega)))
          · refine j_aload_n E dX7_burns_44 rfl rfl ?_
            refine j_getP (ci := 7) (k := 9) (Cn := RX7) (T := TX7) (N := 34) E dX7_burns_45 hm1 hm2 rfl (by decide) hinX7 (by decide +kernel) rfl mp9 ?_
            refine j_iload E dX7_burns_48 rfl ?_
            refine j_zald E dX7_burns_50 ml9 mn9 rfl hp (by decide) mk9 ?_
            refine j_if_eq (tgt := 58) E dX7_burns_51 (by decide) (fun h51 => ?_) (fun h51 => ?_)
            · refine j_iconst (v := 0) E dX7_burns_58 (by decide) ?_
              refine j_istore E dX7_burns_59 (by decide) ?_
              refine j_iload E dX7_burns_61 rfl ?_
              refine j_if_eq (tgt := 72) E dX7_burns_63 (by decide) (fun h63 => ?_) (fun h63 => ?_)
              · refine j_iload_n E dX7_burns_72 rfl rfl ?_
                refine j_istore_n E dX7_burns_73 rfl (by decide) ?_
                refine j_iload_n E dX7_burns_74 rfl rfl ?_
                refine j_if_ne (tgt := 94) E dX7_burns_75 (by decide) (fun h75 => ?_) (fun h75 => ?_)
                · refine j_iconst (v := 1) E dX7_burns_94 (by decide) ?_
                  refine j_goto (tgt := 99) E dX7_burns_95 (by decide) ?_
                  refine j_istore_n E dX7_burns_99 rfl (by decide) ?_
                  refine j_iinc E dX7_burns_100 rfl (by decide) ?_
                  refine j_goto (tgt := 7) E dX7_burns_103 (by decide) ?_
                  exact j_lv [0, 1, 2, 3, 4] rfl (by rw [nI_inc]; exact j_r (by first | (simp [mBuL, mIsAl, mMine, h11, h20, h31, h41, h51, h63, h75]; done) | (exfalso; revert h11 h20 h31 h41 h51 h63 h75; simp; done)) rfl (ih (p + 1) _ _ (by omega)))
                · refine j_iload E dX7_burns_78 rfl ?_
                  refine j_if_eq (tgt := 98) E dX7_burns_80 (by decide) (fun h80 => ?_) (fun h80 => ?_)
                  · refine j_iconst (v := 0) E dX7_burns_98 (by decide) ?_
                    refine j_istore_n E dX7_burns_99 rfl (by decide) ?_
                    refine j_iinc E dX7_burns_100 rfl (by decide) ?_
                    refine j_goto (tgt := 7) E dX7_burns_103 (by decide) ?_
                    exact j_lv [0, 1, 2, 3, 4] rfl (by rw [nI_inc]; exact j_r (by first | (simp [mBuL, mIsAl, mMine, h11, h20, h31, h41, h51, h63, h75, h80]; done) | (exfalso; revert h11 h20 h31 h41 h51 h63 h75 h80; simp; done)) rfl (ih (p + 1) _ _ (by omega)))
                  · refine j_aload_n E dX7_burns_83 rfl rfl ?_
                    refine j_getP (ci := 7) (k := 2) (Cn := RX7) (T := TX7) (N := 34) E dX7_burns_84 hm1 hm2 rfl (by decide) hinX7 (by decide +kernel) rfl mp2 ?_
                    refine j_iload E dX7_burns_87 rfl ?_
                    refine j_iald E dX7_burns_89 ml2 mn2 rfl hp (by decide) mk2 ?_
                    refine j_iconst (v := 3) E dX7_burns_90 (by decide) ?_
                    refine j_icmp_ne (tgt := 98) E dX7_burns_91 (by decide) (fun h91 => ?_) (fun h91 => ?_)
                    · refine j_iconst (v := 0) E dX7_burns_98 (by decide) ?_
                      refine j_istore_n E dX7_burns_99 rfl (by decide) ?_
                      refine j_iinc E dX7_burns_100 rfl (by decide) ?_
                      refine j_goto (tgt := 7) E dX7_burns_103 (by decide) ?_
                      exact j_lv [0, 1, 2, 3, 4] rfl (by rw [nI_inc]; exact j_r (by first | (simp [mBuL, mIsAl, mMine, h11, h20, h31, h41, h51, h63, h75, h80, h91]; done) | (exfalso; revert h11 h20 h31 h41 h51 h63 h75 h80 h91; simp; done)) rfl (ih (p + 1) _ _ (by omega)))
                    · refine j_iconst (v := 1) E dX7_burns_94 (by decide) ?_
                      refine j_goto (tgt := 99) E dX7_burns_95 (by decide) ?_
                      refine j_istore_n E dX7_burns_99 rfl (by decide) ?_
                      refine j_iinc E dX7_burns_100 rfl (by decide) ?_
                      refine j_goto (tgt := 7) E dX7_burns_103 (by decide) ?_
                      exact j_lv [0, 1, 2, 3, 4] rfl (by rw [nI_inc]; exact j_r (by first | (simp [mBuL, mIsAl, mMine, h11, h20, h31, h41, h51, h63, h75, h80, h91]; done) | (exfalso; revert h11 h20 h31 h41 h51 h63 h75 h80 h91; simp; done)) rfl (ih (p + 1) _ _ (by omega)))
              · refine j_iload_n E dX7_burns_66 rfl rfl ?_
                refine j_iconst (v := 1) E dX7_burns_67 (by decide) ?_
                refine j_iadd E dX7_burns_68 ?_
                refine j_goto (tgt := 73) E dX7_burns_69 (by decide) ?_
                refine j_istore_n E dX7_burns_73 rfl (by decide) ?_
                refine j_iload_n E dX7_burns_74 rfl rfl ?_
                refine j_if_ne (tgt := 94) E dX7_burns_75 (by decide) (fun h75 => ?_) (fun h75 => ?_)
                · refine j_iconst (v := 1) E dX7_burns_94 (by decide) ?_
                  refine j_goto (tgt := 99) E dX7_burns_95 (by decide) ?_
                  refine j_istore_n E dX7_burns_99 rfl (by decide) ?_
                  refine j_iinc E dX7_burns_100 rfl (by decide) ?_
                  refine j_goto (tgt := 7) E dX7_burns_103 (by decide) ?_
                  exact j_lv [0, 1, 2, 3, 4] rfl (by rw [nI_inc]; exact j_r (by first | (simp [mBuL, mIsAl, mMine, h11, h20, h31, h41, h51, h63, h75]; done) | (exfalso; revert h11 h20 h31 h41 h51 h63 h75; simp; done)) rfl (ih (p + 1) _ _ (by omega)))
                · refine j_iload E dX7_burns_78 rfl ?_
                  refine j_if_eq (tgt := 98) E dX7_burns_80 (by decide) (fun h80 => ?_) (fun h80 => ?_)
                  · refine j_iconst (v := 0) E dX7_burns_98 (by decide) ?_
                    refine j_istore_n E dX7_burns_99 rfl (by decide) ?_
                    refine j_iinc E dX7_burns_100 rfl (by decide) ?_
                    refine j_goto (tgt := 7) E dX7_burns_103 (by decide) ?_
                    exact j_lv [0, 1, 2, 3, 4] rfl (by rw [nI_inc]; exact j_r (by first | (simp [mBuL, mIsAl, mMine, h11, h20, h31, h41, h51, h63, h75, h80]; done) | (exfalso; revert h11 h20 h31 h41 h51 h63 h75 h80; simp; done)) rfl (ih (p + 1) _ _ (by omega)))
                  · refine j_aload_n E dX7_burns_83 rfl rfl ?_
                    refine j_getP (ci := 7) (k := 2) (Cn := RX7) (T := TX7) (N := 34) E dX7_burns_84 hm1 hm2 rfl (by decide) hinX7 (by decide +kernel) rfl mp2 ?_
                    refine j_iload E dX7_burns_87 rfl ?_
                    refine j_iald E dX7_burns_89 ml2 mn2 rfl hp (by decide) mk2 ?_
                    refine j_iconst (v := 3) E dX7_burns_90 (by decide) ?_
                    refine j_icmp_ne (tgt := 98) E dX7_burns_91 (by decide) (fun h91 => ?_) (fun h91 => ?_)
                    · refine j_iconst (v := 0) E dX7_burns_98 (by decide) ?_
                      refine j_istore_n E dX7_burns_99 rfl (by decide) ?_
                      refine j_iinc E dX7_burns_100 rfl (by decide) ?_
                      refine j_goto (tgt := 7) E dX7_burns_103 (by decide) ?_
                      exact j_lv [0, 1, 2, 3, 4] rfl (by rw [nI_inc]; exact j_r (by first | (simp [mBuL, mIsAl, mMine, h11, h20, h31, h41, h51, h63, h75, h80, h91]; done) | (exfalso; revert h11 h20 h31 h41 h51 h63 h75 h80 h91; simp; done)) rfl (ih (p + 1) _ _ (by omega)))
                    · refine j_iconst (v := 1) E dX7_burns_94 (by decide) ?_
                      refine j_goto (tgt := 99) E dX7_burns_95 (by decide) ?_
                      refine j_istore_n E dX7_burns_99 rfl (by decide) ?_
                      refine j_iinc E dX7_burns_100 rfl (by decide) ?_
                      refine j_goto (tgt := 7) E dX7_burns_103 (by decide) ?_
                      exact j_lv [0, 1, 2, 3, 4] rfl (by rw [nI_inc]; exact j_r (by first | (simp [mBuL, mIsAl, mMine, h11, h20, h31, h41, h51, h63, h75, h80, h91]; done) | (exfalso; revert h11 h20 h31 h41 h51 h63 h75 h80 h91; simp; done)) rfl (ih (p + 1) _ _ (by omega)))
            · refine j_iconst (v := 1) E dX7_burns_54 (by decide) ?_
              refine j_goto (tgt := 59) E dX7_burns_55 (by decide) ?_
              refine j_istore E dX7_burns_59 (by decide) ?_
              refine j_iload E dX7_burns_61 rfl ?_
              refine j_if_eq (tgt := 72) E dX7_burns_63 (by decide) (fun h63 => ?_) (fun h63 => ?_)
              · refine j_iload_n E dX7_burns_72 rfl rfl ?_
                refine j_istore_n E dX7_burns_73 rfl (by decide) ?_
                refine j_iload_n E dX7_burns_74 rfl rfl ?_
                refine j_if_ne (tgt := 94) E dX7_burns_75 (by decide) (fun h75 => ?_) (fun h75 => ?_)
                · refine j_iconst (v := 1) E dX7_burns_94 (by decide) ?_
                  refine j_goto (tgt := 99) E dX7_burns_95 (by decide) ?_
                  refine j_istore_n E dX7_burns_99 rfl (by decide) ?_
                  refine j_iinc E dX7_burns_100 rfl (by decide) ?_
                  refine j_goto (tgt := 7) E dX7_burns_103 (by decide) ?_
                  exact j_lv [0, 1, 2, 3, 4] rfl (by rw [nI_inc]; exact j_r (by first | (simp [mBuL, mIsAl, mMine, h11, h20, h31, h41, h51, h63, h75]; done) | (exfalso; revert h11 h20 h31 h41 h51 h63 h75; simp; done)) rfl (ih (p + 1) _ _ (by omega)))
                · refine j_iload E dX7_burns_78 rfl ?_
                  refine j_if_eq (tgt := 98) E dX7_burns_80 (by decide) (fun h80 => ?_) (fun h80 => ?_)
                  · refine j_iconst (v := 0) E dX7_burns_98 (by decide) ?_
                    refine j_istore_n E dX7_burns_99 rfl (by decide) ?_
                    refine j_iinc E dX7_burns_100 rfl (by decide) ?_
                    refine j_goto (tgt := 7) E dX7_burns_103 (by decide) ?_
                    exact j_lv [0, 1, 2, 3, 4] rfl (by rw [nI_inc]; exact j_r (by first | (simp [mBuL, mIsAl, mMine, h11, h20, h31, h41, h51, h63, h75, h80]; done) | (exfalso; revert h11 h20 h31 h41 h51 h63 h75 h80; simp; done)) rfl (ih (p + 1) _ _ (by omega)))
                  · refine j_aload_n E dX7_burns_83 rfl rfl ?_
                    refine j_getP (ci := 7) (k := 2) (Cn := RX7) (T := TX7) (N := 34) E dX7_burns_84 hm1 hm2 rfl (by decide) hinX7 (by decide +kernel) rfl mp2 ?_
                    refine j_iload E dX7_burns_87 rfl ?_
                    refine j_iald E dX7_burns_89 ml2 mn2 rfl hp (by decide) mk2 ?_
                    refine j_iconst (v := 3) E dX7_burns_90 (by decide) ?_
                    refine j_icmp_ne (tgt := 98) E dX7_burns_91 (by decide) (fun h91 => ?_) (fun h91 => ?_)
                    · refine j_iconst (v := 0) E dX7_burns_98 (by decide) ?_
                      refine j_istore_n E dX7_burns_99 rfl (by decide) ?_
                      refine j_iinc E dX7_burns_100 rfl (by decide) ?_
                      refine j_goto (tgt := 7) E dX7_burns_103 (by decide) ?_
                      exact j_lv [0, 1, 2, 3, 4] rfl (by rw [nI_inc]; exact j_r (by first | (simp [mBuL, mIsAl, mMine, h11, h20, h31, h41, h51, h63, h75, h80, h91]; done) | (exfalso; revert h11 h20 h31 h41 h51 h63 h75 h80 h91; simp; done)) rfl (ih (p + 1) _ _ (by omega)))
                    · refine j_iconst (v := 1) E dX7_burns_94 (by decide) ?_
                      refine j_goto (tgt := 99) E dX7_burns_95 (by decide) ?_
                      refine j_istore_n E dX7_burns_99 rfl (by decide) ?_
                      refine j_iinc E dX7_burns_100 rfl (by decide) ?_
                      refine j_goto (tgt := 7) E dX7_burns_103 (by decide) ?_
                      exact j_lv [0, 1, 2, 3, 4] rfl (by rw [nI_inc]; exact j_r (by first | (simp [mBuL, mIsAl, mMine, h11, h20, h31, h41, h51, h63, h75, h80, h91]; done) | (exfalso; revert h11 h20 h31 h41 h51 h63 h75 h80 h91; simp; done)) rfl (ih (p + 1) _ _ (by omega)))
              · refine j_iload_n E dX7_burns_66 rfl rfl ?_
                refine j_iconst (v := 1) E dX7_burns_67 (by decide) ?_
                refine j_iadd E dX7_burns_68 ?_
                refine j_goto (tgt := 73) E dX7_burns_69 (by decide) ?_
                refine j_istore_n E dX7_burns_73 rfl (by decide) ?_
                refine j_iload_n E dX7_burns_74 rfl rfl ?_
                refine j_if_ne (tgt := 94) E dX7_burns_75 (by decide) (fun h75 => ?_) (fun h75 => ?_)
                · refine j_iconst (v := 1) E dX7_burns_94 (by decide) ?_
                  refine j_goto (tgt := 99) E dX7_burns_95 (by decide) ?_
                  refine j_istore_n E dX7_burns_99 rfl (by decide) ?_
                  refine j_iinc E dX7_burns_100 rfl (by decide) ?_
                  refine j_goto (tgt := 7) E dX7_burns_103 (by decide) ?_
                  exact j_lv [0, 1, 2, 3, 4] rfl (by rw [nI_inc]; exact j_r (by first | (simp [mBuL, mIsAl, mMine, h11, h20, h31, h41, h51, h63, h75]; done) | (exfalso; revert h11 h20 h31 h41 h51 h63 h75; simp; done)) rfl (ih (p + 1) _ _ (by omega)))
                · refine j_iload E dX7_burns_78 rfl ?_
                  refine j_if_eq (tgt := 98) E dX7_burns_80 (by decide) (fun h80 => ?_) (fun h80 => ?_)
                  · refine j_iconst (v := 0) E dX7_burns_98 (by decide) ?_
                    refine j_istore_n E dX7_burns_99 rfl (by decide) ?_
                    refine j_iinc E dX7_burns_100 rfl (by decide) ?_
                    refine j_goto (tgt := 7) E dX7_burns_103 (by decide) ?_
                    exact j_lv [0, 1, 2, 3, 4] rfl (by rw [nI_inc]; exact j_r (by first | (simp [mBuL, mIsAl, mMine, h11, h20, h31, h41, h51, h63, h75, h80]; done) | (exfalso; revert h11 h20 h31 h41 h51 h63 h75 h80; simp; done)) rfl (ih (p + 1) _ _ (by omega)))
                  · refine j_aload_n E dX7_burns_83 rfl rfl ?_
                    refine j_getP (ci := 7) (k := 2) (Cn := RX7) (T := TX7) (N := 34) E dX7_burns_84 hm1 hm2 rfl (by decide) hinX7 (by decide +kernel) rfl mp2 ?_
                    refine j_iload E dX7_burns_87 rfl ?_
                    refine j_iald E dX7_burns_89 ml2 mn2 rfl hp (by decide) mk2 ?_
                    refine j_iconst (v := 3) E dX7_burns_90 (by decide) ?_
                    refine j_icmp_ne (tgt := 98) E dX7_burns_91 (by decide) (fun h91 => ?_) (fun h91 => ?_)
                    · refine j_iconst (v := 0) E dX7_burns_98 (by decide) ?_
                      refine j_istore_n E dX7_burns_99 rfl (by decide) ?_
                      refine j_iinc E dX7_burns_100 rfl (by decide) ?_
                      refine j_goto (tgt := 7) E dX7_burns_103 (by decide) ?_
                      exact j_lv [0, 1, 2, 3, 4] rfl (by rw [nI_inc]; exact j_r (by first | (simp [mBuL, mIsAl, mMine, h11, h20, h31, h41, h51, h63, h75, h80, h91]; done) | (exfalso; revert h11 h20 h31 h41 h51 h63 h75 h80 h91; simp; done)) rfl (ih (p + 1) _ _ (by omega)))
                    · refine j_iconst (v := 1) E dX7_burns_94 (by decide) ?_
                      refine j_goto (tgt := 99) E dX7_burns_95 (by decide) ?_
                      refine j_istore_n E dX7_burns_99 rfl (by decide) ?_
                      refine j_iinc E dX7_burns_100 rfl (by decide) ?_
                      refine j_goto (tgt := 7) E dX7_burns_103 (by decide) ?_
                      exact j_lv [0, 1, 2, 3, 4] rfl (by rw [nI_inc]; exact j_r (by first | (simp [mBuL, mIsAl, mMine, h11, h20, h31, h41, h51, h63, h75, h80, h91]; done) | (exfalso; revert h11 h20 h31 h41 h51 h63 h75 h80 h91; simp; done)) rfl (ih (p + 1) _ _ (by omega)))

set_option maxHeartbeats 1600000 in
set_option maxRecDepth 100000 in
theorem k_X7_burns {l : Launch} {D : va_G} {cy : Nat → ClassId} {X : va_W} {G : pG} {M : pM} {m : Nat → Nat} {z : Nat} (hM : wM G m) (hz : z < 4) : jK l yX7_burns wsX7_burns ({ frames := 2, cells := 0, slots := 0, locals := 43 } : Room) D cy X G M [.ref (m 0), .int (nI z)] (some (.int (mBurn M m z))) X M := by
  refine jK_of (own := RX7) (by decide) rfl rfl (Nat.le_of_ble_eq_true rfl) (fun C E hl hD hcy hG => ?_)
  subst hl; subst hD; subst hcy; subst hG

  have hM0 := hM
  obtain ⟨hm1, hm2, hmt, hinj⟩ := hM
  obtain ⟨mp2, ml2, mk2, mn2⟩ := hmt 2 10 16 rfl
  obtain ⟨mp3, ml3, mk3, mn3⟩ := hmt 3 10 16 rfl
  obtain ⟨mp9, ml9, mk9, mn9⟩ := hmt 9 11 16 rfl
  obtain ⟨mp12, ml12, mk12, mn12⟩ := hmt 12 11 16 rfl
  obtain ⟨mp13, ml13, mk13, mn13⟩ := hmt 13 11 4 rfl
  obtain ⟨mp14, ml14, mk14, mn14⟩ := hmt 14 10 4 rfl
  obtain ⟨mp15, ml15, mk15, mn15⟩ := hmt 15 11 4 rfl
  refine j_iconst (v := 0) E dX7_burns_0 (by decide) ?_
  refine j_istore_n E dX7_burns_1 rfl (by decide) ?_
  refine j_iconst (v := 0) E dX7_burns_2 (by decide) ?_
  refine j_istore_n E dX7_burns_3 rfl (by decide) ?_
  refine j_iconst (v := 0) E dX7_burns_4 (by decide) ?_
  refine j_istore E dX7_burns_5 (by decide) ?_
  exact j_lv [0, 1, 2, 3, 4] rfl (kl_X7_burns_7 E hM0 hz 16 0 0 0 (by omega))
