/-! The reference: what a rule's words hold, the outputs, a poll. -/
def mFact (M : pM) (m : Nat → Nat) (w : Int32) : Int32 := if w = 8 then (if mFt M m 16 0 0 ≤ 0 then 0 else 1) else if 4 ≤ w then mWn M m (w - 4) 16 0 0 else M.1 (m 15) w.toNatClampNeg
def mWork (M : pM) (m : Nat → Nat) (w st : Int32) : Int32 := if 8 < w then (if w = 9 then st ^^^ 1 else ((st >>> ((2 : Int32) &&& 31)) <<< ((1 : Int32) &&& 31)) ||| (if w = 10 then (st &&& 1) &&& ((st >>> ((1 : Int32) &&& 31)) &&& 1) else (st &&& 1) ||| ((st >>> ((1 : Int32) &&& 31)) &&& 1))) else (st <<< ((1 : Int32) &&& 31)) ||| (if mFact M m w = 0 then 0 else 1)
def mHoL (M : pM) (m : Nat → Nat) (r : Nat) : Nat → Nat → Int32 → Int32
  | 0, _, st => st
  | n + 1, k, st => if M.1 (m 18) r ≤ nI k then st else mHoL M m r n (k + 1) (mWork M m (M.1 (m 17) (20 * r + k)) st)
def mHolds (M : pM) (m : Nat → Nat) (r : Nat) : Int32 := if mHoL M m r 21 0 0 &&& 1 = 1 then 1 else 0
/-- a rule's row as it must be -/
def okRw (M : pM) (m : Nat → Nat) (r : Nat) : Prop := ∃ L : Nat, L ≤ 20 ∧ M.1 (m 18) r = nI L ∧ ∀ k, k < L → ∃ w : Nat, w ≤ 11 ∧ M.1 (m 17) (20 * r + k) = nI w
def okRs (M : pM) (m : Nat → Nat) : Prop := ∃ R : Nat, R ≤ 6 ∧ M.1 (m 0) 16 = nI R ∧ ∀ r, r < R → okRw M m r
def okWm (M : pM) (m : Nat → Nat) : Prop := ∀ p, p < 16 → vf_n32 (FP.fmul (M.2 (m 4) p) 1061158912)
theorem okRs_ok {M M' : pM} {m : Nat → Nat} (h0 : M.1 (m 0) 16 = M'.1 (m 0) 16) (h17 : M.1 (m 17) = M'.1 (m 17)) (h18 : M.1 (m 18) = M'.1 (m 18)) (h : okRs M m) : okRs M' m := by
  obtain ⟨R, hR, e, hr⟩ := h
  refine ⟨R, hR, by rw [← h0]; exact e, fun r h => ?_⟩
  obtain ⟨L, hL, e2, hw⟩ := hr r h
  exact ⟨L, hL, by rw [← h18]; exact e2, fun k hk => by rw [← h17]; exact hw k hk⟩
def mDh1 (M : pM) (m : Nat → Nat) (r : Nat) : pM := pI M (m 21) r (if mHolds M m r = 0 then 0 else M.1 (m 21) r + 1)
def mDh (m : Nat → Nat) : Nat → Nat → pM → pM
  | 0, _, M => M
  | n + 1, r, M => if M.1 (m 0) 16 ≤ nI r then M else mDh m n (r + 1) (mDh1 M m r)
def mDv (M : pM) (m : Nat → Nat) (q : Int32) : Nat → Nat → Int32 → Int32
  | 0, _, s => s
  | n + 1, r, s => if M.1 (m 0) 16 ≤ nI r then s else mDv M m q n (r + 1) (if s = 0 then (if M.1 (m 19) r = q then (if M.1 (m 21) r ≤ M.1 (m 20) r then 0 else 1) else 0) else 1)
theorem mDv_01 (M : pM) (m : Nat → Nat) (q : Int32) : ∀ n r s, (s = 0 ∨ s = 1) → (mDv M m q n r s = 0 ∨ mDv M m q n r s = 1)
  | 0, _, _, h => h
  | n + 1, r, s, h => by
    unfold mDv
    split
    · exact h
    · exact mDv_01 M m q n (r + 1) _ (by split; split; split; exact Or.inl rfl; exact Or.inr rfl; exact Or.inl rfl; exact Or.inr rfl)
def mDr1 (M : pM) (m : Nat → Nat) (q : Nat) : pM := if mDv M m (nI q) 7 0 0 = 0 then pI M (m 22) q 0 else if M.1 (m 22) q = 0 then pI (mNote M m 4 (nI q)) (m 22) q 1 else pI M (m 22) q 1
def mDr (m : Nat → Nat) : Nat → pM → pM
  | 0, M => M
  | q + 1, M => mDr1 (mDr m q M) m q
def mDrive (M : pM) (m : Nat → Nat) : pM := mDr m 6 (mDh m 7 0 M)
def mA1 (M : pM) (m : Nat → Nat) (p : Nat) : pM := if mSens M m p = 0 then M else mAsk M m p
def mAskN (m : Nat → Nat) : Nat → pM → pM
  | 0, M => M
  | p + 1, M => mA1 (mAskN m p M) m p
def mBz1 (m : Nat → Nat) (c : Int32 × pM) (z : Nat) : Int32 × pM := if mBurn c.2 m z = 0 then c else (c.1 + Int32.ofInt 1, pI (mNote (pI c.2 (m 15) z 1) m 1 (nI z)) (m 0) 27 0)
def mBz (m : Nat → Nat) : Nat → pM → Int32 × pM
  | 0, M => (0, M)
  | z + 1, M => mBz1 m (mBz m z M) z
def mP0 (M : pM) (m : Nat → Nat) : pM := pI (pI M (m 0) 0 0) (m 0) 25 (M.1 (m 0) 25 + 1)
def mP1 (M : pM) (m : Nat → Nat) : pM := mAskN m 16 (mP0 M m)
def mP2 (M : pM) (m : Nat → Nat) : Int32 × pM := mBz m 4 (mP1 M m)
def mPoll (M : pM) (m : Nat → Nat) : Int32 × pM := ((mP2 M m).1, mDrive (mP2 M m).2 m)

set_option maxHeartbeats 1600000 in
set_option maxRecDepth 100000 in
theorem kl_X7_holds_4 {C : jC} (E : jE C cX7_holds 7 wsX7_holds RX7 (some .boolean) ({ frames := 3, cells := 0, slots := 0, locals := 67 } : Room)) {X : va_W} {M : pM} {m : Nat → Nat} {r : Nat} (hM : wM (jG C) m) (hr : r < 6) (hok : okWm M m) (hrow : okRw M m r) : ∀ (n k : Nat) (st : Int32), k ≤ 20 → k + n = 21 → jW C 7 4 [(0, .ref (m 0)), (1, .int (nI r)), (2, .int st), (3, .int (nI k))] [] X M 0 0 (jZ C X M (some (.int (if mHoL M m r n k st &&& 1 = 1 then 1 else 0))) 0 0) := by
  have hinX7 : ∀ w ∈ u_ws RX7 TX7 34, w ∈ wsX7_holds := by decide +kernel
  have hM0 := hM
  obtain ⟨hm1, hm2, hmt, hinj⟩ := hM
  obtain ⟨mp15, ml15, mk15, mn15⟩ := hmt 15 11 4 rfl
  obtain ⟨mp17, ml17, mk17, mn17⟩ := hmt 17 10 120 rfl
  obtain ⟨mp18, ml18, mk18, mn18⟩ := hmt 18 10 6 rfl
  obtain ⟨L, hL, eL, hw⟩ := hrow
  intro n
  induction n with
  | zero => intro k st h1 h2; omega
  | succ n ih =>
    intro k st hk hn
    refine j_iload_n E dX7_holds_4 rfl rfl ?_
    refine j_aload_n E dX7_holds_5 rfl rfl ?_
    refine j_getP (ci := 7) (k := 18) (Cn := RX7) (T := TX7) (N := 34) E dX7_holds_6 hm1 hm2 rfl (by decide) hinX7 (by decide +kernel) rfl mp18 ?_
    refine j_iload_n E dX7_holds_9 rfl rfl ?_
    refine j_iald E dX7_holds_10 ml18 mn18 rfl hr (by decide) mk18 ?_
    refine j_icmp_ge (tgt := 159) E dX7_holds_11 (by decide) (fun h11 => ?_) (fun h11 => ?_)
    · refine j_iload_n E dX7_holds_159 rfl rfl ?_
      refine j_iconst (v := 1) E dX7_holds_160 (by decide) ?_
      refine j_iand E dX7_holds_161 ?_
      refine j_iconst (v := 1) E dX7_holds_162 (by decide) ?_
      refine j_icmp_ne (tgt := 170) E dX7_holds_163 (by decide) (fun h163 => ?_) (fun h163 => ?_)
      · refine j_iconst (v := 0) E dX7_holds_170 (by decide) ?_
        exact j_zret E dX7_holds_171 rfl (by first | (simp [mHoL, h11, h163]; done) | (exfalso; revert h11 h163; simp; done)) rfl (by first | (simp [mHoL, h11, h163]; done) | (exfalso; revert h11 h163; simp; done))
      · refine j_iconst (v := 1) E dX7_holds_166 (by decide) ?_
        refine j_goto (tgt := 171) E dX7_holds_167 (by decide) ?_
        exact j_zret E dX7_holds_171 rfl (by first | (simp [mHoL, h11, h163]; done) | (exfalso; revert h11 h163; simp; done)) rfl (by first | (simp [mHoL, h11, h163]; done) | (exfalso; revert h11 h163; simp; done))
    · have hkL : k < L := lt_of_nge (n := L) (by rw [← eL]; exact h11) (by omega)
      obtain ⟨w, hw11, ew⟩ := hw k hkL
      have hw0 : ¬ M.1 (m 17) (20 * r + k) < 0 := by rw [ew]; exact nI_pos (by omega)
      refine j_aload_n E dX7_holds_14 rfl rfl ?_
      refine j_getP (ci := 7) (k := 17) (Cn := RX7) (T := TX7) (N := 34) E dX7_holds_15 hm1 hm2 rfl (by decide) hinX7 (by decide +kernel) rfl mp17 ?_
      refine j_bipush (v := 20) E dX7_holds_18 (by decide) ?_
      refine j_iload_n E dX7_holds_20 rfl rfl ?_
      refine j_imul E dX7_holds_21 ?_
      refine j_iload_n E dX7_holds_22 rfl rfl ?_
      refine j_iadd E dX7_holds_23 ?_
      refine j_iald E dX7_holds_24 ml17 mn17 (mix20 r k) (by omega) (by decide) mk17 ?_
      refine j_istore E dX7_holds_25 (by decide) ?_
      refine j_iload E dX7_holds_27 rfl ?_
      refine j_bipush (v := 8) E dX7_holds_29 (by decide) ?_
      refine j_icmp_gt (tgt := 100) E dX7_holds_31 (by decide) (fun h31 => ?_) (fun h31 => ?_)
      · refine j_iload E dX7_holds_100 rfl ?_
        refine j_bipush (v := 9) E dX7_holds_102 (by decide) ?_
        refine j_icmp_ne (tgt := 114) E dX7_holds_104 (by decide) (fun h104 => ?_) (fun h104 => ?_)
        · refine j_iload_n E dX7_holds_114 rfl rfl ?_
          refine j_iconst (v := 1) E dX7_holds_115 (by decide) ?_
          refine j_iand E dX7_holds_116 ?_
          refine j_istore E dX7_holds_117 (by decide) ?_
          refine j_iload_n E dX7_holds_119 rfl rfl ?_
          refine j_iconst (v := 1) E dX7_holds_120 (by decide) ?_
          refine j_ishr E dX7_holds_121 ?_
          refine j_iconst (v := 1) E dX7_holds_122 (by decide) ?_
          refine j_iand E dX7_holds_123 ?_
          refine j_istore E dX7_holds_124 (by decide) ?_
          refine j_iload_n E dX7_holds_126 rfl rfl ?_
          refine j_iconst (v := 2) E dX7_holds_127 (by decide) ?_
          refine j_ishr E dX7_holds_128 ?_
          refine j_iconst (v := 1) E dX7_holds_129 (by decide) ?_
          refine j_ishl E dX7_holds_130 ?_
          refine j_iload E dX7_holds_131 rfl ?_
          refine j_bipush (v := 10) E dX7_holds_133 (by decide) ?_
          refine j_icmp_ne (tgt := 146) E dX7_holds_135 (by decide) (fun h135 => ?_) (fun h135 => ?_)
          · refine j_iload E dX7_holds_146 rfl ?_
            refine j_iload E dX7_holds_148 rfl ?_
            refine j_ior E dX7_holds_150 ?_
            refine j_ior E dX7_holds_151 ?_
            refine j_istore_n E dX7_holds_152 rfl (by decide) ?_
            refine j_iinc E dX7_holds_153 rfl (by decide) ?_
            refine j_goto (tgt := 4) E dX7_holds_156 (by decide) ?_
            exact j_lv [0, 1, 2, 3] rfl (by rw [nI_inc]; exact j_r (by first | (simp [mHoL, mWork, mFact, h11, h31, h104, h135]; done) | (exfalso; revert h11 h31 h104 h135; simp; done)) rfl (ih (k + 1) _ (by omega) (by omega)))
          · refine j_iload E dX7_holds_138 rfl ?_
            refine j_iload E dX7_holds_140 rfl ?_
            refine j_iand E dX7_holds_142 ?_
            refine j_goto (tgt := 151) E dX7_holds_143 (by decide) ?_
            refine j_ior E dX7_holds_151 ?_
            refine j_istore_n E dX7_holds_152 rfl (by decide) ?_
            refine j_iinc E dX7_holds_153 rfl (by decide) ?_
            refine j_goto (tgt := 4) E dX7_holds_156 (by decide) ?_
            exact j_lv [0, 1, 2, 3] rfl (by rw [nI_inc]; exact j_r (by first | (simp [mHoL, mWork, mFact, h11, h31, h104, h135]; done) | (exfalso; revert h11 h31 h104 h135; simp; done)) rfl (ih (k + 1) _ (by omega) (by omega)))
        · refine j_iload_n E dX7_holds_107 rfl rfl ?_
          refine j_iconst (v := 1) E dX7_holds_108 (by decide) ?_
          refine j_ixor E dX7_holds_109 ?_
          refine j_istore_n E dX7_holds_110 rfl (by decide) ?_
          refine j_goto (tgt := 153) E dX7_holds_111 (by decide) ?_
          refine j_iinc E dX7_holds_153 rfl (by decide) ?_
          refine j_goto (tgt := 4) E dX7_holds_156 (by decide) ?_
          exact j_lv [0, 1, 2, 3] rfl (by rw [nI_inc]; exact j_r (by first | (simp [mHoL, mWork, mFact, h11, h31, h104]; done) | (exfalso; revert h11 h31 h104; simp; done)) rfl (ih (k + 1) _ (by omega) (by omega)))
      · refine j_iload E dX7_holds_34 rfl ?_
        refine j_bipush (v := 8) E dX7_holds_36 (by decide) ?_
        refine j_icmp_ne (tgt := 56) E dX7_holds_38 (by decide) (fun h38 => ?_) (fun h38 => ?_)
        · refine j_iload E dX7_holds_56 rfl ?_
          refine j_iconst (v := 4) E dX7_holds_58 (by decide) ?_
          refine j_icmp_ge (tgt := 72) E dX7_holds_59 (by decide) (fun h59 => ?_) (fun h59 => ?_)
          · refine j_aload_n E dX7_holds_72 rfl rfl ?_
            refine j_iload E dX7_holds_73 rfl ?_
            refine j_iconst (v := 4) E dX7_holds_75 (by decide) ?_
            refine j_isub E dX7_holds_76 ?_
            refine j_callV1 (ci := 7) (n := 1) E (k_X7_warns hM0 hok) dX7_holds_77 gX7_holds_X7_warns rfl (by decide +kernel) ⟨rfl, rfl, by decide, by decide⟩ ⟨Nat.zero_le _, Nat.zero_le _⟩ hm1 hm2 rfl rfl rfl (Nat.le_of_ble_eq_true rfl) rfl ?_
            refine j_istore E dX7_holds_80 (by decide) ?_
            refine j_iload_n E dX7_holds_82 rfl rfl ?_
            refine j_iconst (v := 1) E dX7_holds_83 (by decide) ?_
            refine j_ishl E dX7_holds_84 ?_
            refine j_iload E dX7_holds_85 rfl ?_
            refine j_if_eq (tgt := 94) E dX7_holds_87 (by decide) (fun h87 => ?_) (fun h87 => ?_)
            · refine j_iconst (v := 0) E dX7_holds_94 (by decide) ?_
              refine j_ior E dX7_holds_95 ?_
              refine j_istore_n E dX7_holds_96 rfl (by decide) ?_
              refine j_goto (tgt := 153) E dX7_holds_97 (by decide) ?_
              refine j_iinc E dX7_holds_153 rfl (by decide) ?_
              refine j_goto (tgt := 4) E dX7_holds_156 (by decide) ?_
              exact j_lv [0, 1, 2, 3] rfl (by rw [nI_inc]; exact j_r (by first | (simp [mHoL, mWork, mFact, h11, h31, h38, h59, h87]; done) | (exfalso; revert h11 h31 h38 h59 h87; simp; done)) rfl (ih (k + 1) _ (by omega) (by omega)))
            · refine j_iconst (v := 1) E dX7_holds_90 (by decide) ?_
              refine j_goto (tgt := 95) E dX7_holds_91 (by decide) ?_
              refine j_ior E dX7_holds_95 ?_
              refine j_istore_n E dX7_holds_96 rfl (by decide) ?_
              refine j_goto (tgt := 153) E dX7_holds_97 (by decide) ?_
              refine j_iinc E dX7_holds_153 rfl (by decide) ?_
              refine j_goto (tgt := 4) E dX7_holds_156 (by decide) ?_
              exact j_lv [0, 1, 2, 3] rfl (by rw [nI_inc]; exact j_r (by first | (simp [mHoL, mWork, mFact, h11, h31, h38, h59, h87]; done) | (exfalso; revert h11 h31 h38 h59 h87; simp; done)) rfl (ih (k + 1) _ (by omega) (by omega)))
          · refine j_aload_n E dX7_holds_62 rfl rfl ?_
            refine j_getP (ci := 7) (k := 15) (Cn := RX7) (T := TX7) (N := 34) E dX7_holds_63 hm1 hm2 rfl (by decide) hinX7 (by decide +kernel) rfl mp15 ?_
            refine j_iload E dX7_holds_66 rfl ?_
            refine j_zald E dX7_holds_68 ml15 mn15 (ix_of hw0 h59 (by decide)).1 (ix_of hw0 h59 (by decide)).2 (by decide) mk15 ?_
            refine j_goto (tgt := 80) E dX7_holds_69 (by decide) ?_
            refine j_istore E dX7_holds_80 (by decide) ?_
            refine j_iload_n E dX7_holds_82 rfl rfl ?_
            refine j_iconst (v := 1) E dX7_holds_83 (by decide) ?_
            refine j_ishl E dX7_holds_84 ?_
            refine j_iload E dX7_holds_85 rfl ?_
            refine j_if_eq (tgt := 94) E dX7_holds_87 (by decide) (fun h87 => ?_) (fun h87 => ?_)
            · refine j_iconst (v := 0) E dX7_holds_94 (by decide) ?_
              refine j_ior E dX7_holds_95 ?_
              refine j_istore_n E dX7_holds_96 rfl (by decide) ?_
              refine j_goto (tgt := 153) E dX7_holds_97 (by decide) ?_
              refine j_iinc E dX7_holds_153 rfl (by decide) ?_
              refine j_goto (tgt := 4) E dX7_holds_156 (by decide) ?_
              exact j_lv [0, 1, 2, 3] rfl (by rw [nI_inc]; exact j_r (by first | (simp [mHoL, mWork, mFact, h11, h31, h38, h59, h87]; done) | (exfalso; revert h11 h31 h38 h59 h87; simp; done)) rfl (ih (k + 1) _ (by omega) (by omega)))
            · refine j_iconst (v := 1) E dX7_holds_90 (by decide) ?_
              refine j_goto (tgt := 95) E dX7_holds_91 (by decide) ?_
              refine j_ior E dX7_holds_95 ?_
              refine j_istore_n E dX7_holds_96 rfl (by decide) ?_
              refine j_goto (tgt := 153) E dX7_holds_97 (by decide) ?_
              refine j_iinc E dX7_holds_153 rfl (by decide) ?_
              refine j_goto (tgt := 4) E dX7_holds_156 (by decide) ?_
              exact j_lv [0, 1, 2, 3] rfl (by rw [nI_inc]; exact j_r (by first | (simp [mHoL, mWork, mFact, h11, h31, h38, h59, h87]; done) | (exfalso; revert h11 h31 h38 h59 h87; simp; done)) rfl (ih (k + 1) _ (by omega) (by omega)))
        · refine j_aload_n E dX7_holds_41 rfl rfl ?_
          refine j_callV1 (ci := 7) (n := 0) E (k_X7_faults hM0) dX7_holds_42 gX7_holds_X7_faults rfl (by decide +kernel) ⟨rfl, rfl, by decide, by decide⟩ ⟨Nat.zero_le _, Nat.zero_le _⟩ hm1 hm2 rfl rfl rfl (Nat.le_of_ble_eq_true rfl) rfl ?_
          refine j_if_le (tgt := 52) E dX7_holds_45 (by decide) (fun h45 => ?_) (fun h45 => ?_)
          · refine j_iconst (v := 0) E dX7_holds_52 (by decide) ?_
            refine j_goto (tgt := 80) E dX7_holds_53 (by decide) ?_
            refine j_istore E dX7_holds_80 (by decide) ?_
            refine j_iload_n E dX7_holds_82 rfl rfl ?_
            refine j_iconst (v := 1) E dX7_holds_83 (by decide) ?_
            refine j_ishl E dX7_holds_84 ?_
            refine j_iload E dX7_holds_85 rfl ?_
            refine j_if_eq (tgt := 94) E dX7_holds_87 (by decide) (fun h87 => ?_) (fun h87 => ?_)
            · refine j_iconst (v := 0) E dX7_holds_94 (by decide) ?_
              refine j_ior E dX7_holds_95 ?_
              refine j_istore_n E dX7_holds_96 rfl (by decide) ?_
              refine j_goto (tgt := 153) E dX7_holds_97 (by decide) ?_
              refine j_iinc E dX7_holds_153 rfl (by decide) ?_
              refine j_goto (tgt := 4) E dX7_holds_156 (by decide) ?_
              exact j_lv [0, 1, 2, 3] rfl (by rw [nI_inc]; exact j_r (by first | (simp [mHoL, mWork, mFact, h11, h31, h38, h45, h87]; done) | (exfalso; revert h11 h31 h38 h45 h87; simp; done)) rfl (ih (k + 1) _ (by omega) (by omega)))
            · refine j_iconst (v := 1) E dX7_holds_90 (by decide) ?_
              refine j_goto (tgt := 95) E dX7_holds_91 (by decide) ?_
              refine j_ior E dX7_holds_95 ?_
              refine j_istore_n E dX7_holds_96 rfl (by decide) ?_
              refine j_goto (tgt := 153) E dX7_holds_97 (by decide) ?_
              refine j_iinc E dX7_holds_153 rfl (by decide) ?_
              refine j_goto (tgt := 4) E dX7_holds_156 (by decide) ?_
              exact j_lv [0, 1, 2, 3] rfl (by rw [nI_inc]; exact j_r (by first | (simp [mHoL, mWork, mFact, h11, h31, h38, h45, h87]; done) | (exfalso; revert h11 h31 h38 h45 h87; simp; done)) rfl (ih (k + 1) _ (by omega) (by omega)))
          · refine j_iconst (v := 1) E dX7_holds_48 (by decide) ?_
            refine j_goto (tgt := 80) E dX7_holds_49 (by decide) ?_
            refine j_istore E dX7_holds_80 (by decide) ?_
            refine j_iload_n E dX7_holds_82 rfl rfl ?_
            refine j_iconst (v := 1) E dX7_holds_83 (by decide) ?_
            refine j_ishl E dX7_holds_84 ?_
            refine j_iload E dX7_holds_85 rfl ?_
            refine j_if_eq (tgt := 94) E dX7_holds_87 (by decide) (fun h87 => ?_) (fun h87 => ?_)
            · refine j_iconst (v := 0) E dX7_holds_94 (by decide) ?_
              refine j_ior E dX7_holds_95 ?_
              refine j_istore_n E dX7_holds_96 rfl (by decide) ?_
              refine j_goto (tgt := 153) E dX7_holds_97 (by decide) ?_
              refine j_iinc E dX7_holds_153 rfl (by decide) ?_
              refine j_goto (tgt := 4) E dX7_holds_156 (by decide) ?_
              exact j_lv [0, 1, 2, 3] rfl (by rw [nI_inc]; exact j_r (by first | (simp [mHoL, mWork, mFact, h11, h31, h38, h45, h87]; done) | (exfalso; revert h11 h31 h38 h45 h87; simp; done)) rfl (ih (k + 1) _ (by omega) (by omega)))
            · refine j_iconst (v := 1) E dX7_holds_90 (by decide) ?_
              refine j_goto (tgt := 95) E dX7_holds_91 (by decide) ?_
              refine j_ior E dX7_holds_95 ?_
              refine j_istore_n E dX7_holds_96 rfl (by decide) ?_
              refine j_goto (tgt := 153) E dX7_holds_97 (by decide) ?_
              refine j_iinc E dX7_holds_153 rfl (by decide) ?_
              refine j_goto (tgt := 4) E dX7_holds_156 (by decide) ?_
              exact j_lv [0, 1, 2, 3] rfl (by rw [nI_inc]; exact j_r (by first | (simp [mHoL, mWork, mFact, h11, h31, h38, h45, h87]; done) | (exfalso; revert h11 h31 h38 h45 h87; simp; done)) rfl (ih (k + 1) _ (by omega) (by omega)))

set_option maxHeartbeats 1600000 in
set_option maxRecDepth 100000 in
theorem k_X7_holds {l : Launch} {D : va_G} {cy : Nat → ClassId} {X : va_W} {G : pG} {M : pM} {m : Nat → Nat} {r : Nat} (hM : wM G m) (hr : r < 6) (hok : okWm M m) (hrow : okRw M m r) : jK l yX7_holds wsX7_holds ({ frames := 3, cells := 0, slots := 0, locals := 67 } : Room) D cy X G M [.ref (m 0), .int (nI r)] (some (.int (mHolds M m r))) X M := by
  refine jK_of (own := RX7) (by decide) rfl rfl (Nat.le_of_ble_eq_true rfl) (fun C E hl hD hcy hG => ?_)
  subst hl; subst hD; subst hcy; subst hG

  have hM0 := hM
  obtain ⟨hm1, hm2, hmt, hinj⟩ := hM
  obtain ⟨mp15, ml15, mk15, mn15⟩ := hmt 15 11 4 rfl
  obtain ⟨mp17, ml17, mk17, mn17⟩ := hmt 17 10 120 rfl
  obtain ⟨mp18, ml18, mk18, mn18⟩ := hmt 18 10 6 rfl
  refine j_iconst (v := 0) E dX7_holds_0 (by decide) ?_
  refine j_istore_n E dX7_holds_1 rfl (by decide) ?_
  refine j_iconst (v := 0) E dX7_holds_2 (by decide) ?_
  refine j_istore_n E dX7_holds_3 rfl (by decide) ?_
  exact j_lv [0, 1, 2, 3] rfl (kl_X7_holds_4 E hM0 hr hok hrow 21 0 0 (by omega) (by omega))

set_option maxHeartbeats 1600000 in
set_option maxRecDepth 100000 in
theorem kl_X7_drive_54 {C : jC} (E : jE C cX7_drive 4 wsX7_drive RX7 none ({ frames := 4, cells := 0, slots := 0, locals := 93 } : Room)) {X : va_W} {M : pM} {m : Nat → Nat} {q : Nat} {Q : State → Prop} (hM : wM (jG C) m) (hR : ∃ R : Nat, R ≤ 6 ∧ M.1 (m 0) 16 = nI R) (kk : ∀ s : Int32, s = mDv M m (nI q) 7 0 0 → jW C 4 103 [(0, .ref (m 0)), (1, .int (nI q)), (2, .int s)] [] X M 0 0 Q) : ∀ (n r : Nat) (s : Int32), r ≤ 6 → r + n = 7 → mDv M m (nI q) n r s = mDv M m (nI q) 7 0 0 → jW C 4 54 [(0, .ref (m 0)), (1, .int (nI q)), (2, .int s), (3, .int (nI r))] [] X M 0 0 Q := by
  have hinX7 : ∀ w ∈ u_ws RX7 TX7 34, w ∈ wsX7_drive := by decide +kernel
  have hM0 := hM
  obtain ⟨hm1, hm2, hmt, hinj⟩ := hM
  obtain ⟨mp19, ml19, mk19, mn19⟩ := hmt 19 10 6 rfl
  obtain ⟨mp20, ml20, mk20, mn20⟩ := hmt 20 10 6 rfl
  obtain ⟨mp21, ml21, mk21, mn21⟩ := hmt 21 10 6 rfl
  obtain ⟨mp22, ml22, mk22, mn22⟩ := hmt 22 11 6 rfl
  obtain ⟨R, hR6, eR⟩ := hR
  intro n
  induction n with
  | zero => intro r s h1 h2; omega
  | succ n ih =>
    intro r s hr hn he
    refine j_iload_n E dX7_drive_54 rfl rfl ?_
    refine j_aload_n E dX7_drive_55 rfl rfl ?_
    refine j_getI (ci := 7) (k := 16) (Cn := RX7) (T := TX7) (N := 34) E dX7_drive_56 hm1 hm2 rfl (by decide) hinX7 (by decide +kernel) rfl ?_
    refine j_icmp_ge (tgt := 103) E dX7_drive_59 (by decide) (fun h59 => ?_) (fun h59 => ?_)
    · exact j_lv [0, 1, 2] rfl (kk _ (by rw [← he]; simp [mDv, h59]))
    · have hrR : r < R := lt_of_nge (n := R) (by rw [← eR]; exact h59) (by omega)
      have hr6 : r < 6 := by omega
      refine j_iload_n E dX7_drive_62 rfl rfl ?_
      refine j_if_ne (tgt := 91) E dX7_drive_63 (by decide) (fun h63 => ?_) (fun h63 => ?_)
      · refine j_iconst (v := 1) E dX7_drive_91 (by decide) ?_
        refine j_goto (tgt := 96) E dX7_drive_92 (by decide) ?_
        refine j_istore_n E dX7_drive_96 rfl (by decide) ?_
        refine j_iinc E dX7_drive_97 rfl (by decide) ?_
        refine j_goto (tgt := 54) E dX7_drive_100 (by decide) ?_
        exact j_lv [0, 1, 2, 3] rfl (by rw [nI_inc]; exact ih (r + 1) _ (by omega) (by omega) (by rw [← he]; simp [mDv, h59, h63]))
      · refine j_aload_n E dX7_drive_66 rfl rfl ?_
        refine j_getP (ci := 7) (k := 19) (Cn := RX7) (T := TX7) (N := 34) E dX7_drive_67 hm1 hm2 rfl (by decide) hinX7 (by decide +kernel) rfl mp19 ?_
        refine j_iload_n E dX7_drive_70 rfl rfl ?_
        refine j_iald E dX7_drive_71 ml19 mn19 rfl hr6 (by decide) mk19 ?_
        refine j_iload_n E dX7_drive_72 rfl rfl ?_
        refine j_icmp_ne (tgt := 95) E dX7_drive_73 (by decide) (fun h73 => ?_) (fun h73 => ?_)
        · refine j_iconst (v := 0) E dX7_drive_95 (by decide) ?_
          refine j_istore_n E dX7_drive_96 rfl (by decide) ?_
          refine j_iinc E dX7_drive_97 rfl (by decide) ?_
          refine j_goto (tgt := 54) E dX7_drive_100 (by decide) ?_
          exact j_lv [0, 1, 2, 3] rfl (by rw [nI_inc]; exact ih (r + 1) _ (by omega) (by omega) (by rw [← he]; simp [mDv, h59, h63, h73]))
        · refine j_aload_n E dX7_drive_76 rfl rfl ?_
          refine j_getP (ci := 7) (k := 21) (Cn := RX7) (T := TX7) (N := 34) E dX7_drive_77 hm1 hm2 rfl (by decide) hinX7 (by decide +kernel) rfl mp21 ?_
          refine j_iload_n E dX7_drive_80 rfl rfl ?_
          refine j_iald E dX7_drive_81 ml21 mn21 rfl hr6 (by decide) mk21 ?_
          refine j_aload_n E dX7_drive_82 rfl rfl ?_
          refine j_getP (ci := 7) (k := 20) (Cn := RX7) (T := TX7) (N := 34) E dX7_drive_83 hm1 hm2 rfl (by decide) hinX7 (by decide +kernel) rfl mp20 ?_
          refine j_iload_n E dX7_drive_86 rfl rfl ?_
          refine j_iald E dX7_drive_87 ml20 mn20 rfl hr6 (by decide) mk20 ?_
          refine j_icmp_le (tgt := 95) E dX7_drive_88 (by decide) (fun h88 => ?_) (fun h88 => ?_)
          · refine j_iconst (v := 0) E dX7_drive_95 (by decide) ?_
            refine j_istore_n E dX7_drive_96 rfl (by decide) ?_
            refine j_iinc E dX7_drive_97 rfl (by decide) ?_
            refine j_goto (tgt := 54) E dX7_drive_100 (by decide) ?_
            exact j_lv [0, 1, 2, 3] rfl (by rw [nI_inc]; exact ih (r + 1) _ (by omega) (by omega) (by rw [← he]; simp [mDv, h59, h63, h73, h88]))
          · refine j_iconst (v := 1) E dX7_drive_91 (by decide) ?_
            refine j_goto (tgt := 96) E dX7_drive_92 (by decide) ?_
            refine j_istore_n E dX7_drive_96 rfl (by decide) ?_
            refine j_iinc E dX7_drive_97 rfl (by decide) ?_
            refine j_goto (tgt := 54) E dX7_drive_100 (by decide) ?_
            exact j_lv [0, 1, 2, 3] rfl (by rw [nI_inc]; exact ih (r + 1) _ (by omega) (by omega) (by rw [← he]; simp [mDv, h59, h63, h73, h88]))

set_option maxHeartbeats 1600000 in
set_option maxRecDepth 100000 in
theorem kl_X7_drive_44 {C : jC} (E : jE C cX7_drive 4 wsX7_drive RX7 none ({ frames := 4, cells := 0, slots := 0, locals := 93 } : Room)) {X : va_W} {m : Nat → Nat} {M : pM} (hM : wM (jG C) m) (hR : ∀ q, q < 6 → ∃ R : Nat, R ≤ 6 ∧ (mDr m q M).1 (m 0) 16 = nI R) : ∀ (n q : Nat), q + n = 6 → jW C 4 44 [(0, .ref (m 0)), (1, .int (nI q))] [] X (mDr m q M) 0 0 (jZ C X (mDr m 6 M) none 0 0) := by
  have hinX7 : ∀ w ∈ u_ws RX7 TX7 34, w ∈ wsX7_drive := by decide +kernel
  have hM0 := hM
  obtain ⟨hm1, hm2, hmt, hinj⟩ := hM
  obtain ⟨mp19, ml19, mk19, mn19⟩ := hmt 19 10 6 rfl
  obtain ⟨mp20, ml20, mk20, mn20⟩ := hmt 20 10 6 rfl
  obtain ⟨mp21, ml21, mk21, mn21⟩ := hmt 21 10 6 rfl
  obtain ⟨mp22, ml22, mk22, mn22⟩ := hmt 22 11 6 rfl
  intro n
  induction n with
  | zero =>
    intro q hn
    obtain rfl : q = 6 := by omega
    refine j_iload_n E dX7_drive_44 rfl rfl ?_
    refine j_bipush (v := 6) E dX7_drive_45 (by decide) ?_
    refine j_icmp_ge (tgt := 135) E dX7_drive_47 (by decide) (fun h => ?_) (fun h => absurd (by decide) h)
    exact j_vret E dX7_drive_135 rfl rfl
  | succ n ih =>
    intro q hn
    have hq : q < 6 := by omega
    have K : ∀ s : Int32, s = mDv (mDr m q M) m (nI q) 7 0 0 → jW C 4 103 [(0, .ref (m 0)), (1, .int (nI q)), (2, .int s)] [] X (mDr m q M) 0 0 (jZ C X (mDr m 6 M) none 0 0) := by
      intro s es
      have hs01 : s = 0 ∨ s = 1 := by rw [es]; exact mDv_01 _ _ _ 7 0 0 (Or.inl rfl)
      refine j_iload_n E dX7_drive_103 rfl rfl ?_
      refine j_if_eq (tgt := 122) E dX7_drive_104 (by decide) (fun h104 => ?_) (fun h104 => ?_)
      · refine j_aload_n E dX7_drive_122 rfl rfl ?_
        refine j_getP (ci := 7) (k := 22) (Cn := RX7) (T := TX7) (N := 34) E dX7_drive_123 hm1 hm2 rfl (by decide) hinX7 (by decide +kernel) rfl mp22 ?_
        refine j_iload_n E dX7_drive_126 rfl rfl ?_
        refine j_iload_n E dX7_drive_127 rfl rfl ?_
        refine j_zast E dX7_drive_128 ml22 mn22 rfl hq (by decide) mk22 (nar01 hs01) ?_
        refine j_iinc E dX7_drive_129 rfl (by decide) ?_
        refine j_goto (tgt := 44) E dX7_drive_132 (by decide) ?_
        exact j_lv [0, 1] rfl (by rw [nI_inc]; exact j_M (M' := mDr m (q + 1) M) (by first | (subst h104; simp [mDr, mDr1, ← es]; done) | (subst hs1; simp [mDr, mDr1, en, h104]; done)) (ih (q + 1) (by omega)))
      · have hs1 : s = 1 := hs01.resolve_left h104
        have en : ¬ mDv (mDr m q M) m (nI q) 7 0 0 = 0 := by rw [← es, hs1]; decide
        refine j_aload_n E dX7_drive_107 rfl rfl ?_
        refine j_getP (ci := 7) (k := 22) (Cn := RX7) (T := TX7) (N := 34) E dX7_drive_108 hm1 hm2 rfl (by decide) hinX7 (by decide +kernel) rfl mp22 ?_
        refine j_iload_n E dX7_drive_111 rfl rfl ?_
        refine j_zald E dX7_drive_112 ml22 mn22 rfl hq (by decide) mk22 ?_
        refine j_if_ne (tgt := 122) E dX7_drive_113 (by decide) (fun h113 => ?_) (fun h113 => ?_)
        · refine j_aload_n E dX7_drive_122 rfl rfl ?_
          refine j_getP (ci := 7) (k := 22) (Cn := RX7) (T := TX7) (N := 34) E dX7_drive_123 hm1 hm2 rfl (by decide) hinX7 (by decide +kernel) rfl mp22 ?_
          refine j_iload_n E dX7_drive_126 rfl rfl ?_
          refine j_iload_n E dX7_drive_127 rfl rfl ?_
          refine j_zast E dX7_drive_128 ml22 mn22 rfl hq (by decide) mk22 (nar01 hs01) ?_
          refine j_iinc E dX7_drive_129 rfl (by decide) ?_
          refine j_goto (tgt := 44) E dX7_drive_132 (by decide) ?_
          exact j_lv [0, 1] rfl (by rw [nI_inc]; exact j_M (M' := mDr m (q + 1) M) (by first | (subst h104; simp [mDr, mDr1, ← es]; done) | (subst hs1; simp [mDr, mDr1, en, h104, h113]; done)) (ih (q + 1) (by omega)))
        · refine j_aload_n E dX7_drive_116 rfl rfl ?_
          refine j_iconst (v := 4) E dX7_drive_117 (by decide) ?_
          refine j_iload_n E dX7_drive_118 rfl rfl ?_
          refine j_callV0 (ci := 7) (n := 2) E (k_X7_note hM0) dX7_drive_119 gX7_drive_X7_note rfl (by decide +kernel) ⟨rfl, rfl, by decide, by decide⟩ ⟨Nat.zero_le _, Nat.zero_le _⟩ hm1 hm2 rfl rfl rfl (Nat.le_of_ble_eq_true rfl) rfl ?_
          refine j_aload_n E dX7_drive_122 rfl rfl ?_
          refine j_getP (ci := 7) (k := 22) (Cn := RX7) (T := TX7) (N := 34) E dX7_drive_123 hm1 hm2 rfl (by decide) hinX7 (by decide +kernel) rfl mp22 ?_
          refine j_iload_n E dX7_drive_126 rfl rfl ?_
          refine j_iload_n E dX7_drive_127 rfl rfl ?_
          refine j_zast E dX7_drive_128 ml22 mn22 rfl hq (by decide) mk22 (nar01 hs01) ?_
          refine j_iinc E dX7_drive_129 rfl (by decide) ?_
          refine j_goto (tgt := 44) E dX7_drive_132 (by decide) ?_
          exact j_lv [0, 1] rfl (by rw [nI_inc]; exact j_M (M' := mDr m (q + 1) M) (by first | (subst h104; simp [mDr, mDr1, ← es]; done) | (subst hs1; simp [mDr, mDr1, en, h104, h113]; done)) (ih (q + 1) (by omega)))
    refine j_iload_n E dX7_drive_44 rfl rfl ?_
    refine j_bipush (v := 6) E dX7_drive_45 (by decide) ?_
    refine j_icmp_ge (tgt := 135) E dX7_drive_47 (by decide) (fun h47 => ?_) (fun h47 => ?_)
    · exact absurd h47 (nI_ge (b := 6) hq (by decide))
    · refine j_iconst (v := 0) E dX7_drive_50 (by decide) ?_
      refine j_istore_n E dX7_drive_51 rfl (by decide) ?_
      refine j_iconst (v := 0) E dX7_drive_52 (by decide) ?_
      refine j_istore_n E dX7_drive_53 rfl (by decide) ?_
      exact j_lv [0, 1, 2, 3] rfl (kl_X7_drive_54 E hM0 (hR q hq) K 7 0 0 (by omega) (by omega) rfl)

theorem mDr_ok {m : Nat → Nat} (hinj : ∀ i j, i < 34 → j < 34 → m i = m j → i = j) : ∀ (q : Nat) (M : pM), (mDr m q M).1 (m 0) 16 = M.1 (m 0) 16
  | 0, M => rfl
  | q + 1, M => by
    have h22 : m 0 ≠ m 22 := fun e => absurd (hinj 0 22 (by decide) (by decide) e) (by decide)
    rw [mDr]
    unfold mDr1
    split
    · rw [pI_1n _ _ _ h22, mDr_ok hinj q M]
    · split
      · rw [pI_1n _ _ _ h22, mNote_0 hinj _ _ _ 16 (by decide), mDr_ok hinj q M]
      · rw [pI_1n _ _ _ h22, mDr_ok hinj q M]
theorem mDh1_i {m : Nat → Nat} (hinj : ∀ i j, i < 34 → j < 34 → m i = m j → i = j) (M : pM) (r i : Nat) (hi : i < 34) (h : i ≠ 21) : (mDh1 M m r).1 (m i) = M.1 (m i) := pI_1n M _ _ (fun e => h (hinj i 21 hi (by decide) e))
theorem mDh_i {m : Nat → Nat} (hinj : ∀ i j, i < 34 → j < 34 → m i = m j → i = j) (i : Nat) (hi : i < 34) (h : i ≠ 21) : ∀ (n r : Nat) (M : pM), (mDh m n r M).1 (m i) = M.1 (m i)
  | 0, _, M => rfl
  | n + 1, r, M => by
    rw [mDh]
    split
    · rfl
    · rw [mDh_i hinj i hi h n (r + 1), mDh1_i hinj M r i hi h]

set_option maxHeartbeats 1600000 in
set_option maxRecDepth 100000 in
theorem kl_X7_drive_2 {C : jC} (E : jE C cX7_drive 4 wsX7_drive RX7 none ({ frames := 4, cells := 0, slots := 0, locals := 93 } : Room)) {X : va_W} {m : Nat → Nat} (hM : wM (jG C) m) : ∀ (n r : Nat) (M : pM), r ≤ 6 → r + n = 7 → okRs M m → okWm M m → jW C 4 2 [(0, .ref (m 0)), (1, .int (nI r))] [] X M 0 0 (jZ C X (mDr m 6 (mDh m n r M)) none 0 0) := by
  have hinX7 : ∀ w ∈ u_ws RX7 TX7 34, w ∈ wsX7_drive := by decide +kernel
  have hM0 := hM
  obtain ⟨hm1, hm2, hmt, hinj⟩ := hM
  obtain ⟨mp19, ml19, mk19, mn19⟩ := hmt 19 10 6 rfl
  obtain ⟨mp20, ml20, mk20, mn20⟩ := hmt 20 10 6 rfl
  obtain ⟨mp21, ml21, mk21, mn21⟩ := hmt 21 10 6 rfl
  obtain ⟨mp22, ml22, mk22, mn22⟩ := hmt 22 11 6 rfl
  intro n
  induction n with
  | zero => intro r M h1 h2; omega
  | succ n ih =>
    intro r M hr hn hok hokw
    have hok0 := hok
    obtain ⟨R, hR6, eR, hrow⟩ := hok
    refine j_iload_n E dX7_drive_2 rfl rfl ?_
    refine j_aload_n E dX7_drive_3 rfl rfl ?_
    refine j_getI (ci := 7) (k := 16) (Cn := RX7) (T := TX7) (N := 34) E dX7_drive_4 hm1 hm2 rfl (by decide) hinX7 (by decide +kernel) rfl ?_
    refine j_icmp_ge (tgt := 42) E dX7_drive_7 (by decide) (fun h7 => ?_) (fun h7 => ?_)
    · refine j_iconst (v := 0) E dX7_drive_42 (by decide) ?_
      refine j_istore_n E dX7_drive_43 rfl (by decide) ?_
      exact j_lv [0, 1] rfl (j_r rfl (by simp [mDh, h7]) (kl_X7_drive_44 (M := M) E hM0 (fun q hq => ⟨R, hR6, by rw [mDr_ok hinj]; exact eR⟩) 6 0 (by omega)))
    · have hrR : r < R := lt_of_nge (n := R) (by rw [← eR]; exact h7) (by omega)
      have hr6 : r < 6 := by omega
      refine j_aload_n E dX7_drive_10 rfl rfl ?_
      refine j_getP (ci := 7) (k := 21) (Cn := RX7) (T := TX7) (N := 34) E dX7_drive_11 hm1 hm2 rfl (by decide) hinX7 (by decide +kernel) rfl mp21 ?_
      refine j_iload_n E dX7_drive_14 rfl rfl ?_
      refine j_aload_n E dX7_drive_15 rfl rfl ?_
      refine j_iload_n E dX7_drive_16 rfl rfl ?_
      refine j_callV1 (ci := 7) (n := 1) E (k_X7_holds hM0 hr6 hokw (hrow r hrR)) dX7_drive_17 gX7_drive_X7_holds rfl (by decide +kernel) ⟨rfl, rfl, by decide, by decide⟩ ⟨Nat.zero_le _, Nat.zero_le _⟩ hm1 hm2 rfl rfl rfl (Nat.le_of_ble_eq_true rfl) rfl ?_
      refine j_if_eq (tgt := 34) E dX7_drive_20 (by decide) (fun h20 => ?_) (fun h20 => ?_)
      · refine j_iconst (v := 0) E dX7_drive_34 (by decide) ?_
        refine j_iast E dX7_drive_35 ml21 mn21 rfl hr6 (by decide) mk21 ?_
        refine j_iinc E dX7_drive_36 rfl (by decide) ?_
        refine j_goto (tgt := 2) E dX7_drive_39 (by decide) ?_
        exact j_lv [0, 1] rfl (by rw [nI_inc]; exact j_r rfl (by simp [mDh, mDh1, h7, h20]) (ih (r + 1) _ (by omega) (by omega) (okRs_ok (by rw [pI_1n _ _ _ (fun e => absurd (hinj 0 21 (by decide) (by decide) e) (by decide))]) (by rw [pI_1n _ _ _ (fun e => absurd (hinj 17 21 (by decide) (by decide) e) (by decide))]) (by rw [pI_1n _ _ _ (fun e => absurd (hinj 18 21 (by decide) (by decide) e) (by decide))]) hok0) hokw))
      · refine j_aload_n E dX7_drive_23 rfl rfl ?_
        refine j_getP (ci := 7) (k := 21) (Cn := RX7) (T := TX7) (N := 34) E dX7_drive_24 hm1 hm2 rfl (by decide) hinX7 (by decide +kernel) rfl mp21 ?_
        refine j_iload_n E dX7_drive_27 rfl rfl ?_
        refine j_iald E dX7_drive_28 ml21 mn21 rfl hr6 (by decide) mk21 ?_
        refine j_iconst (v := 1) E dX7_drive_29 (by decide) ?_
        refine j_iadd E dX7_drive_30 ?_
        refine j_goto (tgt := 35) E dX7_drive_31 (by decide) ?_
        refine j_iast E dX7_drive_35 ml21 mn21 rfl hr6 (by decide) mk21 ?_
        refine j_iinc E dX7_drive_36 rfl (by decide) ?_
        refine j_goto (tgt := 2) E dX7_drive_39 (by decide) ?_
        exact j_lv [0, 1] rfl (by rw [nI_inc]; exact j_r rfl (by simp [mDh, mDh1, h7, h20]) (ih (r + 1) _ (by omega) (by omega) (okRs_ok (by rw [pI_1n _ _ _ (fun e => absurd (hinj 0 21 (by decide) (by decide) e) (by decide))]) (by rw [pI_1n _ _ _ (fun e => absurd (hinj 17 21 (by decide) (by decide) e) (by decide))]) (by rw [pI_1n _ _ _ (fun e => absurd (hinj 18 21 (by decide) (by decide) e) (by decide))]) hok0) hokw))

set_option maxHeartbeats 1600000 in
set_option maxRecDepth 100000 in
theorem k_X7_drive {l : Launch} {D : va_G} {cy : Nat → ClassId} {X : va_W} {G : pG} {M : pM} {m : Nat → Nat} (hM : wM G m) (hok : okRs M m) (hokw : okWm M m) : jK l yX7_drive wsX7_drive ({ frames := 4, cells := 0, slots := 0, locals := 93 } : Room) D cy X G M [.ref (m 0)] none X (mDrive M m) := by
  refine jK_of (own := RX7) (by decide) rfl rfl (Nat.le_of_ble_eq_true rfl) (fun C E hl hD hcy hG => ?_)
  subst hl; subst hD; subst hcy; subst hG

  have hM0 := hM
  obtain ⟨hm1, hm2, hmt, hinj⟩ := hM
  obtain ⟨mp19, ml19, mk19, mn19⟩ := hmt 19 10 6 rfl
  obtain ⟨mp20, ml20, mk20, mn20⟩ := hmt 20 10 6 rfl
  obtain ⟨mp21, ml21, mk21, mn21⟩ := hmt 21 10 6 rfl
  obtain ⟨mp22, ml22, mk22, mn22⟩ := hmt 22 11 6 rfl
  refine j_iconst (v := 0) E dX7_drive_0 (by decide) ?_
  refine j_istore_n E dX7_drive_1 rfl (by decide) ?_
  exact j_lv [0, 1] rfl (kl_X7_drive_2 E hM0 7 0 M (by omega) (by omega) hok hokw)

set_option maxHeartbeats 1600000 in
set_option maxRecDepth 100000 in
theorem kl_X7_poll_46 {C : jC} (E : jE C cX7_poll 3 wsX7_poll RX7 (some .int) ({ frames := 5, cells := 0, slots := 0, locals := 116 } : Room)) {X : va_W} {M : pM} {m : Nat → Nat} (hM : wM (jG C) m) (hok : okRs (mBz m 4 M).2 m) (hokw : okWm (mBz m 4 M).2 m) : ∀ (n z : Nat), z + n = 4 → jW C 3 46 [(0, .ref (m 0)), (1, .int (mBz m z M).1), (2, .int (nI z))] [] X (mBz m z M).2 0 0 (jZ C X (mDrive (mBz m 4 M).2 m) (some (.int (mBz m 4 M).1)) 0 0) := by
  have hinX7 : ∀ w ∈ u_ws RX7 TX7 34, w ∈ wsX7_poll := by decide +kernel
  have hM0 := hM
  obtain ⟨hm1, hm2, hmt, hinj⟩ := hM
  obtain ⟨mp15, ml15, mk15, mn15⟩ := hmt 15 11 4 rfl
  intro n
  induction n with
  | zero =>
    intro z hn
    obtain rfl : z = 4 := by omega
    refine j_iload_n E dX7_poll_46 rfl rfl ?_
    refine j_iconst (v := 4) E dX7_poll_47 (by decide) ?_
    refine j_icmp_ge (tgt := 86) E dX7_poll_48 (by decide) (fun h => ?_) (fun h => absurd (by decide) h)
    refine j_aload_n E dX7_poll_86 rfl rfl ?_
    refine j_callV0 (ci := 7) (n := 0) E (k_X7_drive hM0 hok hokw) dX7_poll_87 gX7_poll_X7_drive rfl (by decide +kernel) ⟨rfl, rfl, by decide, by decide⟩ ⟨Nat.zero_le _, Nat.zero_le _⟩ hm1 hm2 rfl rfl rfl (Nat.le_of_ble_eq_true rfl) rfl ?_
    refine j_iload_n E dX7_poll_90 rfl rfl ?_
    exact j_iret E dX7_poll_91 (by rfl) rfl (by rfl)
  | succ n ih =>
    intro z hn
    have hz : z < 4 := by omega
    refine j_iload_n E dX7_poll_46 rfl rfl ?_
    refine j_iconst (v := 4) E dX7_poll_47 (by decide) ?_
    refine j_icmp_ge (tgt := 86) E dX7_poll_48 (by decide) (fun h48 => ?_) (fun h48 => ?_)
    · exact absurd h48 (nI_ge (b := 4) hz (by decide))
    · refine j_aload_n E dX7_poll_51 rfl rfl ?_
      refine j_iload_n E dX7_poll_52 rfl rfl ?_
      refine j_callV1 (ci := 7) (n := 1) E (k_X7_burns hM0 hz) dX7_poll_53 gX7_poll_X7_burns rfl (by decide +kernel) ⟨rfl, rfl, by decide, by decide⟩ ⟨Nat.zero_le _, Nat.zero_le _⟩ hm1 hm2 rfl rfl rfl (Nat.le_of_ble_eq_true rfl) rfl ?_
      refine j_if_eq (tgt := 80) E dX7_poll_56 (by decide) (fun h56 => ?_) (fun h56 => ?_)
      · refine j_iinc E dX7_poll_80 rfl (by decide) ?_
        refine j_goto (tgt := 46) E dX7_poll_83 (by decide) ?_
        exact j_lv [0, 1, 2] rfl (by rw [nI_inc]; have h9 := ih (z + 1) (by omega); simp only [mBz, mBz1, h48, h56, ↓reduceIte] at h9; exact h9)
      · refine j_aload_n E dX7_poll_59 rfl rfl ?_
        refine j_getP (ci := 7) (k := 15) (Cn := RX7) (T := TX7) (N := 34) E dX7_poll_60 hm1 hm2 rfl (by decide) hinX7 (by decide +kernel) rfl mp15 ?_
        refine j_iload_n E dX7_poll_63 rfl rfl ?_
        refine j_iconst (v := 1) E dX7_poll_64 (by decide) ?_
        refine j_zast E dX7_poll_65 ml15 mn15 rfl hz (by decide) mk15 rfl ?_
        refine j_aload_n E dX7_poll_66 rfl rfl ?_
        refine j_iconst (v := 1) E dX7_poll_67 (by decide) ?_
        refine j_iload_n E dX7_poll_68 rfl rfl ?_
        refine j_callV0 (ci := 7) (n := 2) E (k_X7_note hM0) dX7_poll_69 gX7_poll_X7_note rfl (by decide +kernel) ⟨rfl, rfl, by decide, by decide⟩ ⟨Nat.zero_le _, Nat.zero_le _⟩ hm1 hm2 rfl rfl rfl (Nat.le_of_ble_eq_true rfl) rfl ?_
        refine j_aload_n E dX7_poll_72 rfl rfl ?_
        refine j_iconst (v := 0) E dX7_poll_73 (by decide) ?_
        refine j_putI (ci := 7) (k := 27) (Cn := RX7) (T := TX7) (N := 34) E dX7_poll_74 hm1 hm2 rfl (by decide) hinX7 (by decide +kernel) rfl tyX7 tyX7_ok nmX7 rfl rfl rfl rfl ?_
        refine j_iinc E dX7_poll_77 rfl (by decide) ?_
        refine j_iinc E dX7_poll_80 rfl (by decide) ?_
        refine j_goto (tgt := 46) E dX7_poll_83 (by decide) ?_
        exact j_lv [0, 1, 2] rfl (by rw [nI_inc]; have h9 := ih (z + 1) (by omega); simp only [mBz, mBz1, h48, h56, ↓reduceIte] at h9; exact h9)

set_option maxHeartbeats 1600000 in
set_option maxRecDepth 100000 in
theorem kl_X7_poll_17 {C : jC} (E : jE C cX7_poll 3 wsX7_poll RX7 (some .int) ({ frames := 5, cells := 0, slots := 0, locals := 116 } : Room)) {X : va_W} {M : pM} {m : Nat → Nat} {Q : State → Prop} (hM : wM (jG C) m) (hoka : ∀ p, p < 16 → (mAskN m p M).1 (m 2) p ≠ 3 → okM (mAskN m p M) m p) (K : ∀ M2 : pM, M2 = mAskN m 16 M → jW C 3 46 [(0, .ref (m 0)), (1, .int 0), (2, .int 0)] [] X M2 0 0 Q) : ∀ (n p : Nat) (M1 : pM), p + n = 16 → M1 = mAskN m p M → jW C 3 17 [(0, .ref (m 0)), (1, .int (nI p))] [] X M1 0 0 Q := by

  have hM0 := hM
  obtain ⟨hm1, hm2, hmt, hinj⟩ := hM
  obtain ⟨mp15, ml15, mk15, mn15⟩ := hmt 15 11 4 rfl
  intro n
  induction n with
  | zero =>
    intro p M1 hn hM1
    obtain rfl : p = 16 := by omega
    refine j_iload_n E dX7_poll_17 rfl rfl ?_
    refine j_bipush (v := 16) E dX7_poll_18 (by decide) ?_
    refine j_icmp_ge (tgt := 42) E dX7_poll_20 (by decide) (fun h => ?_) (fun h => absurd (by decide) h)
    refine j_iconst (v := 0) E dX7_poll_42 (by decide) ?_
    refine j_istore_n E dX7_poll_43 rfl (by decide) ?_
    refine j_iconst (v := 0) E dX7_poll_44 (by decide) ?_
    refine j_istore_n E dX7_poll_45 rfl (by decide) ?_
    exact j_lv [0, 1, 2] rfl (K M1 hM1)
  | succ n ih =>
    intro p M1 hn hM1
    have hp : p < 16 := by omega
    refine j_iload_n E dX7_poll_17 rfl rfl ?_
    refine j_bipush (v := 16) E dX7_poll_18 (by decide) ?_
    refine j_icmp_ge (tgt := 42) E dX7_poll_20 (by decide) (fun h20 => ?_) (fun h20 => ?_)
    · exact absurd h20 (nI_ge (b := 16) hp (by decide))
    · refine j_aload_n E dX7_poll_23 rfl rfl ?_
      refine j_iload_n E dX7_poll_24 rfl rfl ?_
      refine j_callV1 (ci := 7) (n := 1) E (k_X7_isSensor hM0 hp) dX7_poll_25 gX7_poll_X7_isSensor rfl (by decide +kernel) ⟨rfl, rfl, by decide, by decide⟩ ⟨Nat.zero_le _, Nat.zero_le _⟩ hm1 hm2 rfl rfl rfl (Nat.le_of_ble_eq_true rfl) rfl ?_
      refine j_if_eq (tgt := 36) E dX7_poll_28 (by decide) (fun h28 => ?_) (fun h28 => ?_)
      · refine j_iinc E dX7_poll_36 rfl (by decide) ?_
        refine j_goto (tgt := 17) E dX7_poll_39 (by decide) ?_
        exact j_lv [0, 1] rfl (by rw [nI_inc]; exact ih (p + 1) _ (by omega) (by rw [mAskN, ← hM1]; simp [mA1, h20, h28]))
      · refine j_aload_n E dX7_poll_31 rfl rfl ?_
        refine j_iload_n E dX7_poll_32 rfl rfl ?_
        refine j_callV0 (ci := 7) (n := 1) E (k_X7_ask hM0 hp (by rw [hM1]; exact hoka p hp)) dX7_poll_33 gX7_poll_X7_ask rfl (by decide +kernel) ⟨rfl, rfl, by decide, by decide⟩ ⟨Nat.zero_le _, Nat.zero_le _⟩ hm1 hm2 rfl rfl rfl (Nat.le_of_ble_eq_true rfl) rfl ?_
        refine j_iinc E dX7_poll_36 rfl (by decide) ?_
        refine j_goto (tgt := 17) E dX7_poll_39 (by decide) ?_
        exact j_lv [0, 1] rfl (by rw [nI_inc]; exact ih (p + 1) _ (by omega) (by rw [mAskN, ← hM1]; simp [mA1, h20, h28]))

set_option maxHeartbeats 1600000 in
set_option maxRecDepth 100000 in
theorem k_X7_poll {l : Launch} {D : va_G} {cy : Nat → ClassId} {X : va_W} {G : pG} {M : pM} {m : Nat → Nat} (hM : wM G m) (hoka : ∀ p, p < 16 → (mAskN m p (mP0 M m)).1 (m 2) p ≠ 3 → okM (mAskN m p (mP0 M m)) m p) (hok : okRs (mP2 M m).2 m) (hokw : okWm (mP2 M m).2 m) : jK l yX7_poll wsX7_poll ({ frames := 5, cells := 0, slots := 0, locals := 116 } : Room) D cy X G M [.ref (m 0)] (some (.int (mPoll M m).1)) X (mPoll M m).2 := by
  refine jK_of (own := RX7) (by decide) rfl rfl (Nat.le_of_ble_eq_true rfl) (fun C E hl hD hcy hG => ?_)
  subst hl; subst hD; subst hcy; subst hG
  have hinX7 : ∀ w ∈ u_ws RX7 TX7 34, w ∈ wsX7_poll := by decide +kernel
  have hM0 := hM
  obtain ⟨hm1, hm2, hmt, hinj⟩ := hM
  obtain ⟨mp15, ml15, mk15, mn15⟩ := hmt 15 11 4 rfl
  have K : ∀ M2 : pM, M2 = mAskN m 16 (mP0 M m) → jW C 3 46 [(0, .ref (m 0)), (1, .int 0), (2, .int 0)] [] X M2 0 0 (jZ C X (mPoll M m).2 (some (.int (mPoll M m).1)) 0 0) := by
    intro M2 e
    have e1 : (mPoll M m).2 = mDrive (mBz m 4 M2).2 m := by simp only [e, mPoll, mP2, mP1]
    have e2 : (mPoll M m).1 = (mBz m 4 M2).1 := by simp only [e, mPoll, mP2, mP1]
    have e3 : (mP2 M m).2 = (mBz m 4 M2).2 := by simp only [e, mP2, mP1]
    rw [e1, e2]
    exact kl_X7_poll_46 (M := M2) E hM0 (by rw [← e3]; exact hok) (by rw [← e3]; exact hokw) 4 0 (by omega)
  refine j_aload_n E dX7_poll_0 rfl rfl ?_
  refine j_iconst (v := 0) E dX7_poll_1 (by decide) ?_
  refine j_putI (ci := 7) (k := 0) (Cn := RX7) (T := TX7) (N := 34) E dX7_poll_2 hm1 hm2 rfl (by decide) hinX7 (by decide +kernel) rfl tyX7 tyX7_ok nmX7 rfl rfl rfl rfl ?_
  refine j_aload_n E dX7_poll_5 rfl rfl ?_
  refine j_dup E dX7_poll_6 rfl ?_
  refine j_getI (ci := 7) (k := 25) (Cn := RX7) (T := TX7) (N := 34) E dX7_poll_7 hm1 hm2 rfl (by decide) hinX7 (by decide +kernel) rfl ?_
  try simp only [pI_m hinj, pF_m hinj, pI_2, pF_1, Nat.reduceEqDiff, Nat.reduceLT, Nat.reduceLeDiff, eq_self, ↓reduceIte]
  refine j_iconst (v := 1) E dX7_poll_10 (by decide) ?_
  refine j_iadd E dX7_poll_11 ?_
  refine j_putI (ci := 7) (k := 25) (Cn := RX7) (T := TX7) (N := 34) E dX7_poll_12 hm1 hm2 rfl (by decide) hinX7 (by decide +kernel) rfl tyX7 tyX7_ok nmX7 rfl rfl rfl rfl ?_
  refine j_iconst (v := 0) E dX7_poll_15 (by decide) ?_
  refine j_istore_n E dX7_poll_16 rfl (by decide) ?_
  exact j_lv [0, 1] rfl (kl_X7_poll_17 (M := mP0 M m) E hM0 hoka K 16 0 _ (by omega) rfl)
