/-! The reference's public methods. -/
theorem ix01 {v : Int32} {n : Nat} (h : ¬ mIn v 0 (nI n) = 0) (hn : n + 1 < 2 ^ 31) : v = nI v.toNatClampNeg ∧ v.toNatClampNeg < n + 1 := by
  unfold mIn at h
  by_cases h1 : v < 0
  · rw [if_pos h1] at h; exact absurd rfl h
  · rw [if_neg h1] at h
    by_cases h2 : nI n < v
    · rw [if_pos h2] at h; exact absurd rfl h
    · refine ix_of h1 ?_ hn
      intro h3
      apply h2
      exact Int32.lt_of_lt_of_le (nI_lt (Nat.lt_succ_self n) hn) h3
def mFitT (M : pM) (m : Nat → Nat) (p k z : Int32) (t : UInt32) : Int32 := if mIn p 0 15 = 0 then 1 else if mIn z 0 3 = 0 then 1 else if mIn k 0 4 = 0 then 2 else if Op.cmpValue (FP.fcmp t 1056964608) .l < 0 then 2 else if Op.cmpValue (FP.fcmp t 1120403456) .g ≤ 0 then (if 2 ≤ M.1 (m 0) 26 then 0 else 3) else 2
def mFit (M : pM) (m : Nat → Nat) (p k z : Int32) (t : UInt32) : pM := if mFitT M m p k z t = 0 then pI (pI (pI (pI (pF (pF (pF (pI (pI (pI M (m 0) 0 0) (m 2) p.toNatClampNeg k) (m 3) p.toNatClampNeg z) (m 4) p.toNatClampNeg t) (m 6) p.toNatClampNeg FP.fconst0) (m 7) p.toNatClampNeg FP.fconst0) (m 8) p.toNatClampNeg 0) (m 9) p.toNatClampNeg 0) (m 10) p.toNatClampNeg 0) (m 11) p.toNatClampNeg 0 else pI M (m 0) 0 (mFitT M m p k z t)
def mNeedT (M : pM) (m : Nat → Nat) (z n : Int32) : Int32 := if mIn z 0 3 = 0 then 1 else if mIn n 1 4 = 0 then 2 else if 2 ≤ M.1 (m 0) 26 then 0 else 3
def mNeed (M : pM) (m : Nat → Nat) (z n : Int32) : pM := if mNeedT M m z n = 0 then pI (pI M (m 0) 0 0) (m 14) z.toNatClampNeg n else pI M (m 0) 0 (mNeedT M m z n)
def mWireT (w h : Int32) : Int32 := if mIn w 0 16 = 0 then 1 else if mIn h 0 2 = 0 then 2 else 0
def mWire (M : pM) (m : Nat → Nat) (w h : Int32) : pM := if mWireT w h = 0 then pI (pI M (m 0) 0 0) (m 1) w.toNatClampNeg h else pI M (m 0) 0 (mWireT w h)
def mRdT (p : Int32) (v : UInt32) : Int32 := if mIn p 0 15 = 0 then 1 else if Op.cmpValue (FP.fcmp v 3267887104) .l < 0 then 2 else if Op.cmpValue (FP.fcmp v 1128792064) .g ≤ 0 then 0 else 2
def mRd (M : pM) (m : Nat → Nat) (p : Int32) (v : UInt32) : pM := if mRdT p v = 0 then pF (pI M (m 0) 0 0) (m 5) p.toNatClampNeg v else pI M (m 0) 0 (mRdT p v)
def mSt (c : Int32) : Int32 := if c = 122 then 1 else if c = 119 then 1 else if c = 102 then 1 else if c = 33 then 1 else if c = 40 then 1 else if c = 41 then 1 else if c = 38 then 1 else if c = 124 then 1 else if c = 62 then 1 else if c = 58 then 1 else if c < 48 then 0 else if 57 < c then 0 else 1
def mType (M : pM) (m : Nat → Nat) (c : Int32) : Int32 × pM := if mSt c = 0 then (0, pI M (m 0) 0 0) else if M.1 (m 0) 23 = 20 then (0, pI M (m 0) 0 0) else (1, pI (pI (pI M (m 0) 0 0) (m 24) (M.1 (m 0) 23).toNatClampNeg c) (m 0) 23 (M.1 (m 0) 23 + 1))
def mOffN (m : Nat → Nat) : Nat → pM → pM
  | 0, M => M
  | i + 1, M => pI (mOffN m i M) (m 22) i 0
def mForgT (M : pM) (m : Nat → Nat) : Int32 := if 2 ≤ M.1 (m 0) 26 then 0 else 1
def mForg (M : pM) (m : Nat → Nat) : Int32 × pM := if mForgT M m = 0 then (M.1 (m 0) 16, mOffN m 6 (pI (pI M (m 0) 0 0) (m 0) 16 0)) else (0, pI M (m 0) 0 1)
def mKey (c : Int32) : Int32 := if c = 1357 then 1 else if c = 2468 then 2 else 0
def mSilT (M : pM) (m : Nat → Nat) : Int32 := if 1 ≤ M.1 (m 0) 26 then 0 else 1
def mSil (M : pM) (m : Nat → Nat) : Int32 × pM := if mSilT M m = 0 then (if M.1 (m 0) 27 = 0 then (1, mNote (pI (pI M (m 0) 0 0) (m 0) 27 1) m 5 0) else (0, pI M (m 0) 0 0)) else (0, pI M (m 0) 0 1)
def mRf (m : Nat → Nat) : Nat → pM → Int32 × pM
  | 0, M => (0, M)
  | i + 1, M => (if (mRf m i M).2.1 (m 15) i = 0 then (mRf m i M).1 else (mRf m i M).1 + 1, pI (mRf m i M).2 (m 15) i 0)
def mRa (m : Nat → Nat) : Nat → pM → pM
  | 0, M => M
  | i + 1, M => pI (pI (mRa m i M) (m 9) i 0) (m 8) i 0
def mRh (m : Nat → Nat) : Nat → pM → pM
  | 0, M => M
  | i + 1, M => pI (pI (mRh m i M) (m 21) i 0) (m 22) i 0
def mRes (M : pM) (m : Nat → Nat) : Int32 × pM := if mSilT M m = 0 then ((mRf m 4 (pI M (m 0) 0 0)).1, mNote (pI (mRh m 6 (mRa m 16 (mRf m 4 (pI M (m 0) 0 0)).2)) (m 0) 27 0) m 6 0) else (0, pI M (m 0) 0 1)
def mOffT (M : pM) (m : Nat → Nat) (z n : Int32) : Int32 := if mIn n 0 (if z = 0 then 15 else 3) = 0 then 1 else if 2 ≤ M.1 (m 0) 26 then 0 else 2
def mOff (M : pM) (m : Nat → Nat) (z n o : Int32) : Int32 × pM := if mOffT M m z n = 0 then (if z = 0 then (if M.1 (m 12) n.toNatClampNeg = o then (0, pI M (m 0) 0 0) else (1, mNote (pI (pI M (m 0) 0 0) (m 12) n.toNatClampNeg o) m 7 (10 + n))) else (if M.1 (m 13) n.toNatClampNeg = o then (0, pI M (m 0) 0 0) else (1, mNote (pI (pI M (m 0) 0 0) (m 13) n.toNatClampNeg o) m 7 n))) else (0, pI M (m 0) 0 (mOffT M m z n))
def mPl (M : pM) (m : Nat → Nat) (p : Int32) : Int32 := if mIn p 0 15 = 0 then 0 else (if mReach M m p.toNatClampNeg = 0 then 0 else 1) + (if M.1 (m 9) p.toNatClampNeg = 0 then 0 else 2) + (if M.1 (m 11) p.toNatClampNeg = 0 then 0 else 4) + (if M.1 (m 12) p.toNatClampNeg = 0 then 0 else 8) + 16 * M.1 (m 2) p.toNatClampNeg
def mZo (M : pM) (m : Nat → Nat) (z : Int32) : Int32 := if mIn z 0 3 = 0 then 0 else (if M.1 (m 15) z.toNatClampNeg = 0 then 0 else 1) + (if mWn M m z 16 0 0 = 0 then 0 else 2) + (if M.1 (m 13) z.toNatClampNeg = 0 then 0 else 4)
def mOu (M : pM) (m : Nat → Nat) (o : Int32) : Int32 := if mIn o 0 5 = 0 then 0 else if M.1 (m 22) o.toNatClampNeg = 0 then 0 else if 3 ≤ o then 3 else if M.1 (m 0) 27 = 0 then 3 else 1
def mHe (M : pM) (m : Nat → Nat) (r : Int32) : Int32 := if mIn r 0 (M.1 (m 0) 16 - 1) = 0 then 0 else M.1 (m 21) r.toNatClampNeg
def mLoT (M : pM) (m : Nat → Nat) (i w : Int32) : Int32 := if mIn i 0 (M.1 (m 0) 28 - 1) = 0 then 1 else if mIn w 0 2 = 0 then 1 else 0
def mLo (M : pM) (m : Nat → Nat) (i w : Int32) : Int32 := if mLoT M m i w = 0 then M.1 (m 29) (3 * i.toNatClampNeg + w.toNatClampNeg) else 0
def mT1 (v : Int32) : Int32 := if v = 0 then 1 else 0
def mCo (M : pM) (m : Nat → Nat) (w : Int32) : Int32 := if w = 0 then M.1 (m 0) 25 else if w = 1 then M.1 (m 0) 16 else if w = 2 then M.1 (m 0) 26 else if w = 3 then (if M.1 (m 0) 27 = 0 then 0 else 1) else if w = 4 then M.1 (m 0) 23 else if w = 5 then mFt M m 16 0 0 else 0
theorem mReach_ok {M M' : pM} {m : Nat → Nat} (h1 : M.1 (m 1) = M'.1 (m 1)) (h2 : M.1 (m 2) = M'.1 (m 2)) (p : Nat) : mReach M m p = mReach M' m p := by
  have e1 : ∀ k s, mSL M m k s = mSL M' m k s := by
    intro k
    induction k with
    | zero => intro s; rfl
    | succ k ih => intro s; simp only [mSL, h1, h2, ih]
  have e2 : ∀ n k s, mSR M m n k s = mSR M' m n k s := by
    intro n
    induction n with
    | zero => intro k s; rfl
    | succ n ih => intro k s; simp only [mSR, h1, h2, ih]
  have e3 : ∀ w, mGo M m w = mGo M' m w := by intro w; unfold mGo mSS; rw [h1, e1, e2]
  have e4 : ∀ n k l, mRL M m p n k l = mRL M' m p n k l := by
    intro n
    induction n with
    | zero => intro k l; rfl
    | succ n ih => intro k l; simp only [mRL, e3, ih]
  have e5 : ∀ n k l, mRR M m n k l = mRR M' m n k l := by
    intro n
    induction n with
    | zero => intro k l; rfl
    | succ n ih => intro k l; simp only [mRR, e3, ih]
  simp only [mReach, e4, e5]

set_option maxHeartbeats 1600000 in
set_option maxRecDepth 100000 in
theorem k_X7_fit {l : Launch} {D : va_G} {cy : Nat → ClassId} {X : va_W} {G : pG} {M : pM} {m : Nat → Nat} {p k z : Int32} {t : UInt32} (hM : wM G m) : jK l yX7_fit wsX7_fit ({ frames := 1, cells := 0, slots := 0, locals := 22 } : Room) D cy X G M [.ref (m 0), .int p, .int k, .int z, .float t] none X (mFit M m p k z t) := by
  refine jK_of (own := RX7) (by decide) rfl rfl (Nat.le_of_ble_eq_true rfl) (fun C E hl hD hcy hG => ?_)
  subst hl; subst hD; subst hcy; subst hG
  have hinX7 : ∀ w ∈ u_ws RX7 TX7 34, w ∈ wsX7_fit := by decide +kernel
  have hM0 := hM
  obtain ⟨hm1, hm2, hmt, hinj⟩ := hM
  obtain ⟨mp2, ml2, mk2, mn2⟩ := hmt 2 10 16 rfl
  obtain ⟨mp3, ml3, mk3, mn3⟩ := hmt 3 10 16 rfl
  obtain ⟨mp4, ml4, mk4, mn4⟩ := hmt 4 9 16 rfl
  obtain ⟨mp6, ml6, mk6, mn6⟩ := hmt 6 9 16 rfl
  obtain ⟨mp7, ml7, mk7, mn7⟩ := hmt 7 9 16 rfl
  obtain ⟨mp8, ml8, mk8, mn8⟩ := hmt 8 10 16 rfl
  obtain ⟨mp9, ml9, mk9, mn9⟩ := hmt 9 11 16 rfl
  obtain ⟨mp10, ml10, mk10, mn10⟩ := hmt 10 10 16 rfl
  obtain ⟨mp11, ml11, mk11, mn11⟩ := hmt 11 11 16 rfl
  refine j_aload_n E dX7_fit_0 rfl rfl ?_
  refine j_iload_n E dX7_fit_1 rfl rfl ?_
  refine j_iconst (v := 0) E dX7_fit_2 (by decide) ?_
  refine j_bipush (v := 15) E dX7_fit_3 (by decide) ?_
  refine j_callS1 (n := 3) E (k_X7_in ) dX7_fit_5 gX7_fit_X7_in rfl (by decide +kernel) ⟨rfl, rfl, by decide, by decide⟩ ⟨Nat.zero_le _, Nat.zero_le _⟩ rfl rfl (Nat.le_of_ble_eq_true rfl) rfl ?_
  refine j_if_eq (tgt := 20) E dX7_fit_8 (by decide) (fun h8 => ?_) (fun h8 => ?_)
  · refine j_iconst (v := 1) E dX7_fit_20 (by decide) ?_
    refine j_goto (tgt := 66) E dX7_fit_21 (by decide) ?_
    refine j_putI (ci := 7) (k := 0) (Cn := RX7) (T := TX7) (N := 34) E dX7_fit_66 hm1 hm2 rfl (by decide) hinX7 (by decide +kernel) rfl tyX7 tyX7_ok nmX7 rfl rfl rfl rfl ?_
    refine j_aload_n E dX7_fit_69 rfl rfl ?_
    refine j_getI (ci := 7) (k := 0) (Cn := RX7) (T := TX7) (N := 34) E dX7_fit_70 hm1 hm2 rfl (by decide) hinX7 (by decide +kernel) rfl ?_
    try simp only [pI_m hinj, pF_m hinj, pI_2, pF_1, Nat.reduceEqDiff, Nat.reduceLT, Nat.reduceLeDiff, eq_self, ↓reduceIte]
    refine j_if_le (tgt := 77) E dX7_fit_73 (by decide) (fun h73 => ?_) (fun h73 => ?_)
    · first
      | exact absurd h73 (by decide)
      | exact absurd (by decide) h73
      | (
          refine j_aload_n E dX7_fit_77 rfl rfl ?_
          refine j_getP (ci := 7) (k := 2) (Cn := RX7) (T := TX7) (N := 34) E dX7_fit_78 hm1 hm2 rfl (by decide) hinX7 (by decide +kernel) rfl mp2 ?_
          refine j_iload_n E dX7_fit_81 rfl rfl ?_
          refine j_iload_n E dX7_fit_82 rfl rfl ?_
          refine j_iast E dX7_fit_83 ml2 mn2 (ix01 (n := 15) h8 (by decide)).1 (ix01 (n := 15) h8 (by decide)).2 (by decide) mk2 ?_
          refine j_aload_n E dX7_fit_84 rfl rfl ?_
          refine j_getP (ci := 7) (k := 3) (Cn := RX7) (T := TX7) (N := 34) E dX7_fit_85 hm1 hm2 rfl (by decide) hinX7 (by decide +kernel) rfl mp3 ?_
          refine j_iload_n E dX7_fit_88 rfl rfl ?_
          refine j_iload_n E dX7_fit_89 rfl rfl ?_
          refine j_iast E dX7_fit_90 ml3 mn3 (ix01 (n := 15) h8 (by decide)).1 (ix01 (n := 15) h8 (by decide)).2 (by decide) mk3 ?_
          refine j_aload_n E dX7_fit_91 rfl rfl ?_
          refine j_getP (ci := 7) (k := 4) (Cn := RX7) (T := TX7) (N := 34) E dX7_fit_92 hm1 hm2 rfl (by decide) hinX7 (by decide +kernel) rfl mp4 ?_
          refine j_iload_n E dX7_fit_95 rfl rfl ?_
          refine j_fload E dX7_fit_96 rfl ?_
          refine j_fast E dX7_fit_98 ml4 mn4 (ix01 (n := 15) h8 (by decide)).1 (ix01 (n := 15) h8 (by decide)).2 (by decide) mk4 ?_
          refine j_aload_n E dX7_fit_99 rfl rfl ?_
          refine j_getP (ci := 7) (k := 6) (Cn := RX7) (T := TX7) (N := 34) E dX7_fit_100 hm1 hm2 rfl (by decide) hinX7 (by decide +kernel) rfl mp6 ?_
          refine j_iload_n E dX7_fit_103 rfl rfl ?_
          refine j_fconst0 E dX7_fit_104 ?_
          refine j_fast E dX7_fit_105 ml6 mn6 (ix01 (n := 15) h8 (by decide)).1 (ix01 (n := 15) h8 (by decide)).2 (by decide) mk6 ?_
          refine j_aload_n E dX7_fit_106 rfl rfl ?_
          refine j_getP (ci := 7) (k := 7) (Cn := RX7) (T := TX7) (N := 34) E dX7_fit_107 hm1 hm2 rfl (by decide) hinX7 (by decide +kernel) rfl mp7 ?_
          refine j_iload_n E dX7_fit_110 rfl rfl ?_
          refine j_fconst0 E dX7_fit_111 ?_
          refine j_fast E dX7_fit_112 ml7 mn7 (ix01 (n := 15) h8 (by decide)).1 (ix01 (n := 15) h8 (by decide)).2 (by decide) mk7 ?_
          refine j_aload_n E dX7_fit_113 rfl rfl ?_
          refine j_getP (ci := 7) (k := 8) (Cn := RX7) (T := TX7) (N := 34) E dX7_fit_114 hm1 hm2 rfl (by decide) hinX7 (by decide +kernel) rfl mp8 ?_
          refine j_iload_n E dX7_fit_117 rfl rfl ?_
          refine j_iconst (v := 0) E dX7_fit_118 (by decide) ?_
          refine j_iast E dX7_fit_119 ml8 mn8 (ix01 (n := 15) h8 (by decide)).1 (ix01 (n := 15) h8 (by decide)).2 (by decide) mk8 ?_
          refine j_aload_n E dX7_fit_120 rfl rfl ?_
          refine j_getP (ci := 7) (k := 9) (Cn := RX7) (T := TX7) (N := 34) E dX7_fit_121 hm1 hm2 rfl (by decide) hinX7 (by decide +kernel) rfl mp9 ?_
          refine j_iload_n E dX7_fit_124 rfl rfl ?_
          refine j_iconst (v := 0) E dX7_fit_125 (by decide) ?_
          refine j_zast E dX7_fit_126 ml9 mn9 (ix01 (n := 15) h8 (by decide)).1 (ix01 (n := 15) h8 (by decide)).2 (by decide) mk9 rfl ?_
          refine j_aload_n E dX7_fit_127 rfl rfl ?_
          refine j_getP (ci := 7) (k := 10) (Cn := RX7) (T := TX7) (N := 34) E dX7_fit_128 hm1 hm2 rfl (by decide) hinX7 (by decide +kernel) rfl mp10 ?_
          refine j_iload_n E dX7_fit_131 rfl rfl ?_
          refine j_iconst (v := 0) E dX7_fit_132 (by decide) ?_
          refine j_iast E dX7_fit_133 ml10 mn10 (ix01 (n := 15) h8 (by decide)).1 (ix01 (n := 15) h8 (by decide)).2 (by decide) mk10 ?_
          refine j_aload_n E dX7_fit_134 rfl rfl ?_
          refine j_getP (ci := 7) (k := 11) (Cn := RX7) (T := TX7) (N := 34) E dX7_fit_135 hm1 hm2 rfl (by decide) hinX7 (by decide +kernel) rfl mp11 ?_
          refine j_iload_n E dX7_fit_138 rfl rfl ?_
          refine j_iconst (v := 0) E dX7_fit_139 (by decide) ?_
          refine j_zast E dX7_fit_140 ml11 mn11 (ix01 (n := 15) h8 (by decide)).1 (ix01 (n := 15) h8 (by decide)).2 (by decide) mk11 rfl ?_
          exact j_vret E dX7_fit_141 rfl (by simp [mFit, mFitT, h8, h73])
        )
    · first
      | exact absurd h73 (by decide)
      | exact absurd (by decide) h73
      | (
          exact j_vret E dX7_fit_76 rfl (by simp [mFit, mFitT, h8, h73])
        )
  · refine j_iload_n E dX7_fit_11 rfl rfl ?_
    refine j_iconst (v := 0) E dX7_fit_12 (by decide) ?_
    refine j_iconst (v := 3) E dX7_fit_13 (by decide) ?_
    refine j_callS1 (n := 3) E (k_X7_in ) dX7_fit_14 gX7_fit_X7_in rfl (by decide +kernel) ⟨rfl, rfl, by decide, by decide⟩ ⟨Nat.zero_le _, Nat.zero_le _⟩ rfl rfl (Nat.le_of_ble_eq_true rfl) rfl ?_
    refine j_if_ne (tgt := 24) E dX7_fit_17 (by decide) (fun h17 => ?_) (fun h17 => ?_)
    · refine j_iload_n E dX7_fit_24 rfl rfl ?_
      refine j_iconst (v := 0) E dX7_fit_25 (by decide) ?_
      refine j_iconst (v := 4) E dX7_fit_26 (by decide) ?_
      refine j_callS1 (n := 3) E (k_X7_in ) dX7_fit_27 gX7_fit_X7_in rfl (by decide +kernel) ⟨rfl, rfl, by decide, by decide⟩ ⟨Nat.zero_le _, Nat.zero_le _⟩ rfl rfl (Nat.le_of_ble_eq_true rfl) rfl ?_
      refine j_if_eq (tgt := 49) E dX7_fit_30 (by decide) (fun h30 => ?_) (fun h30 => ?_)
      · refine j_iconst (v := 2) E dX7_fit_49 (by decide) ?_
        refine j_goto (tgt := 66) E dX7_fit_50 (by decide) ?_
        refine j_putI (ci := 7) (k := 0) (Cn := RX7) (T := TX7) (N := 34) E dX7_fit_66 hm1 hm2 rfl (by decide) hinX7 (by decide +kernel) rfl tyX7 tyX7_ok nmX7 rfl rfl rfl rfl ?_
        refine j_aload_n E dX7_fit_69 rfl rfl ?_
        refine j_getI (ci := 7) (k := 0) (Cn := RX7) (T := TX7) (N := 34) E dX7_fit_70 hm1 hm2 rfl (by decide) hinX7 (by decide +kernel) rfl ?_
        try simp only [pI_m hinj, pF_m hinj, pI_2, pF_1, Nat.reduceEqDiff, Nat.reduceLT, Nat.reduceLeDiff, eq_self, ↓reduceIte]
        refine j_if_le (tgt := 77) E dX7_fit_73 (by decide) (fun h73 => ?_) (fun h73 => ?_)
        · first
          | exact absurd h73 (by decide)
          | exact absurd (by decide) h73
          | (
              refine j_aload_n E dX7_fit_77 rfl rfl ?_
              refine j_getP (ci := 7) (k := 2) (Cn := RX7) (T := TX7) (N := 34) E dX7_fit_78 hm1 hm2 rfl (by decide) hinX7 (by decide +kernel) rfl mp2 ?_
              refine j_iload_n E dX7_fit_81 rfl rfl ?_
              refine j_iload_n E dX7_fit_82 rfl rfl ?_
              refine j_iast E dX7_fit_83 ml2 mn2 (ix01 (n := 15) h8 (by decide)).1 (ix01 (n := 15) h8 (by decide)).2 (by decide) mk2 ?_
              refine j_aload_n E dX7_fit_84 rfl rfl ?_
              refine j_getP (ci := 7) (k := 3) (Cn := RX7) (T := TX7) (N := 34) E dX7_fit_85 hm1 hm2 rfl (by decide) hinX7 (by decide +kernel) rfl mp3 ?_
              refine j_iload_n E dX7_fit_88 rfl rfl ?_
              refine j_iload_n E dX7_fit_89 rfl rfl ?_
              refine j_iast E dX7_fit_90 ml3 mn3 (ix01 (n := 15) h8 (by decide)).1 (ix01 (n := 15) h8 (by decide)).2 (by decide) mk3 ?_
              refine j_aload_n E dX7_fit_91 rfl rfl ?_
              refine j_getP (ci := 7) (k := 4) (Cn := RX7) (T := TX7) (N := 34) E dX7_fit_92 hm1 hm2 rfl (by decide) hinX7 (by decide +kernel) rfl mp4 ?_
              refine j_iload_n E dX7_fit_95 rfl rfl ?_
              refine j_fload E dX7_fit_96 rfl ?_
              refine j_fast E dX7_fit_98 ml4 mn4 (ix01 (n := 15) h8 (by decide)).1 (ix01 (n := 15) h8 (by decide)).2 (by decide) mk4 ?_
              refine j_aload_n E dX7_fit_99 rfl rfl ?_
              refine j_getP (ci := 7) (k := 6) (Cn := RX7) (T := TX7) (N := 34) E dX7_fit_100 hm1 hm2 rfl (by decide) hinX7 (by decide +kernel) rfl mp6 ?_
              refine j_iload_n E dX7_fit_103 rfl rfl ?_
              refine j_fconst0 E dX7_fit_104 ?_
              refine j_fast E dX7_fit_105 ml6 mn6 (ix01 (n := 15) h8 (by decide)).1 (ix01 (n := 15) h8 (by decide)).2 (by decide) mk6 ?_
              refine j_aload_n E dX7_fit_106 rfl rfl ?_
              refine j_getP (ci := 7) (k := 7) (Cn := RX7) (T := TX7) (N := 34) E dX7_fit_107 hm1 hm2 rfl (by decide) hinX7 (by decide +kernel) rfl mp7 ?_
              refine j_iload_n E dX7_fit_110 rfl rfl ?_
              refine j_fconst0 E dX7_fit_111 ?_
              refine j_fast E dX7_fit_112 ml7 mn7 (ix01 (n := 15) h8 (by decide)).1 (ix01 (n := 15) h8 (by decide)).2 (by decide) mk7 ?_
              refine j_aload_n E dX7_fit_113 rfl rfl ?_
              refine j_getP (ci := 7) (k := 8) (Cn := RX7) (T := TX7) (N := 34) E dX7_fit_114 hm1 hm2 rfl (by decide) hinX7 (by decide +kernel) rfl mp8 ?_
              refine j_iload_n E dX7_fit_117 rfl rfl ?_
              refine j_iconst (v := 0) E dX7_fit_118 (by decide) ?_
              refine j_iast E dX7_fit_119 ml8 mn8 (ix01 (n := 15) h8 (by decide)).1 (ix01 (n := 15) h8 (by decide)).2 (by decide) mk8 ?_
              refine j_aload_n E dX7_fit_120 rfl rfl ?_
              refine j_getP (ci := 7) (k := 9) (Cn := RX7) (T := TX7) (N := 34) E dX7_fit_121 hm1 hm2 rfl (by decide) hinX7 (by decide +kernel) rfl mp9 ?_
              refine j_iload_n E dX7_fit_124 rfl rfl ?_
              refine j_iconst (v := 0) E dX7_fit_125 (by decide) ?_
              refine j_zast E dX7_fit_126 ml9 mn9 (ix01 (n := 15) h8 (by decide)).1 (ix01 (n := 15) h8 (by decide)).2 (by decide) mk9 rfl ?_
              refine j_aload_n E dX7_fit_127 rfl rfl ?_
              refine j_getP (ci := 7) (k := 10) (Cn := RX7) (T := TX7) (N := 34) E dX7_fit_128 hm1 hm2 rfl (by decide) hinX7 (by decide +kernel) rfl mp10 ?_
              refine j_iload_n E dX7_fit_131 rfl rfl ?_
              refine j_iconst (v := 0) E dX7_fit_132 (by decide) ?_
              refine j_iast E dX7_fit_133 ml10 mn10 (ix01 (n := 15) h8 (by decide)).1 (ix01 (n := 15) h8 (by decide)).2 (by decide) mk10 ?_
              refine j_aload_n E dX7_fit_134 rfl rfl ?_
              refine j_getP (ci := 7) (k := 11) (Cn := RX7) (T := TX7) (N := 34) E dX7_fit_135 hm1 hm2 rfl (by decide) hinX7 (by decide +kernel) rfl mp11 ?_
              refine j_iload_n E dX7_fit_138 rfl rfl ?_
              refine j_iconst (v := 0) E dX7_fit_139 (by decide) ?_
              refine j_zast E dX7_fit_140 ml11 mn11 (ix01 (n := 15) h8 (by decide)).1 (ix01 (n := 15) h8 (by decide)).2 (by decide) mk11 rfl ?_
              exact j_vret E dX7_fit_141 rfl (by simp [mFit, mFitT, h8, h17, h30, h73])
            )
        · first
          | exact absurd h73 (by decide)
          | exact absurd (by decide) h73
          | (
              exact j_vret E dX7_fit_76 rfl (by simp [mFit, mFitT, h8, h17, h30, h73])
            )
      · refine j_fload E dX7_fit_33 rfl ?_
        refine j_ldcf (v := 1056964608) E (by decide +kernel) dX7_fit_35 ?_
        refine j_fcmp E dX7_fit_37 ?_
        refine j_if_lt (tgt := 49) E dX7_fit_38 (by decide) (fun h38 => ?_) (fun h38 => ?_)
        · refine j_iconst (v := 2) E dX7_fit_49 (by decide) ?_
          refine j_goto (tgt := 66) E dX7_fit_50 (by decide) ?_
          refine j_putI (ci := 7) (k := 0) (Cn := RX7) (T := TX7) (N := 34) E dX7_fit_66 hm1 hm2 rfl (by decide) hinX7 (by decide +kernel) rfl tyX7 tyX7_ok nmX7 rfl rfl rfl rfl ?_
          refine j_aload_n E dX7_fit_69 rfl rfl ?_
          refine j_getI (ci := 7) (k := 0) (Cn := RX7) (T := TX7) (N := 34) E dX7_fit_70 hm1 hm2 rfl (by decide) hinX7 (by decide +kernel) rfl ?_
          try simp only [pI_m hinj, pF_m hinj, pI_2, pF_1, Nat.reduceEqDiff, Nat.reduceLT, Nat.reduceLeDiff, eq_self, ↓reduceIte]
          refine j_if_le (tgt := 77) E dX7_fit_73 (by decide) (fun h73 => ?_) (fun h73 => ?_)
          · first
            | exact absurd h73 (by decide)
            | exact absurd (by decide) h73
            | (
                refine j_aload_n E dX7_fit_77 rfl rfl ?_
                refine j_getP (ci := 7) (k := 2) (Cn := RX7) (T := TX7) (N := 34) E dX7_fit_78 hm1 hm2 rfl (by decide) hinX7 (by decide +kernel) rfl mp2 ?_
                refine j_iload_n E dX7_fit_81 rfl rfl ?_
                refine j_iload_n E dX7_fit_82 rfl rfl ?_
                refine j_iast E dX7_fit_83 ml2 mn2 (ix01 (n := 15) h8 (by decide)).1 (ix01 (n := 15) h8 (by decide)).2 (by decide) mk2 ?_
                refine j_aload_n E dX7_fit_84 rfl rfl ?_
                refine j_getP (ci := 7) (k := 3) (Cn := RX7) (T := TX7) (N := 34) E dX7_fit_85 hm1 hm2 rfl (by decide) hinX7 (by decide +kernel) rfl mp3 ?_
                refine j_iload_n E dX7_fit_88 rfl rfl ?_
                refine j_iload_n E dX7_fit_89 rfl rfl ?_
                refine j_iast E dX7_fit_90 ml3 mn3 (ix01 (n := 15) h8 (by decide)).1 (ix01 (n := 15) h8 (by decide)).2 (by decide) mk3 ?_
                refine j_aload_n E dX7_fit_91 rfl rfl ?_
                refine j_getP (ci := 7) (k := 4) (Cn := RX7) (T := TX7) (N := 34) E dX7_fit_92 hm1 hm2 rfl (by decide) hinX7 (by decide +kernel) rfl mp4 ?_
                refine j_iload_n E dX7_fit_95 rfl rfl ?_
                refine j_fload E dX7_fit_96 rfl ?_
                refine j_fast E dX7_fit_98 ml4 mn4 (ix01 (n := 15) h8 (by decide)).1 (ix01 (n := 15) h8 (by decide)).2 (by decide) mk4 ?_
                refine j_aload_n E dX7_fit_99 rfl rfl ?_
                refine j_getP (ci := 7) (k := 6) (Cn := RX7) (T := TX7) (N := 34) E dX7_fit_100 hm1 hm2 rfl (by decide) hinX7 (by decide +kernel) rfl mp6 ?_
                refine j_iload_n E dX7_fit_103 rfl rfl ?_
                refine j_fconst0 E dX7_fit_104 ?_
                refine j_fast E dX7_fit_105 ml6 mn6 (ix01 (n := 15) h8 (by decide)).1 (ix01 (n := 15) h8 (by decide)).2 (by decide) mk6 ?_
                refine j_aload_n E dX7_fit_106 rfl rfl ?_
                refine j_getP (ci := 7) (k := 7) (Cn := RX7) (T := TX7) (N := 34) E dX7_fit_107 hm1 hm2 rfl (by decide) hinX7 (by decide +kernel) rfl mp7 ?_
                refine j_iload_n E dX7_fit_110 rfl rfl ?_
                refine j_fconst0 E dX7_fit_111 ?_
                refine j_fast E dX7_fit_112 ml7 mn7 (ix01 (n := 15) h8 (by decide)).1 (ix01 (n := 15) h8 (by decide)).2 (by decide) mk7 ?_
                refine j_aload_n E dX7_fit_113 rfl rfl ?_
                refine j_getP (ci := 7) (k := 8) (Cn := RX7) (T := TX7) (N := 34) E dX7_fit_114 hm1 hm2 rfl (by decide) hinX7 (by decide +kernel) rfl mp8 ?_
                refine j_iload_n E dX7_fit_117 rfl rfl ?_
                refine j_iconst (v := 0) E dX7_fit_118 (by decide) ?_
                refine j_iast E dX7_fit_119 ml8 mn8 (ix01 (n := 15) h8 (by decide)).1 (ix01 (n := 15) h8 (by decide)).2 (by decide) mk8 ?_
                refine j_aload_n E dX7_fit_120 rfl rfl ?_
                refine j_getP (ci := 7) (k := 9) (Cn := RX7) (T := TX7) (N := 34) E dX7_fit_121 hm1 hm2 rfl (by decide) hinX7 (by decide +kernel) rfl mp9 ?_
                refine j_iload_n E dX7_fit_124 rfl rfl ?_
                refine j_iconst (v := 0) E dX7_fit_125 (by decide) ?_
                refine j_zast E dX7_fit_126 ml9 mn9 (ix01 (n := 15) h8 (by decide)).1 (ix01 (n := 15) h8 (by decide)).2 (by decide) mk9 rfl ?_
                refine j_aload_n E dX7_fit_127 rfl rfl ?_
                refine j_getP (ci := 7) (k := 10) (Cn := RX7) (T := TX7) (N := 34) E dX7_fit_128 hm1 hm2 rfl (by decide) hinX7 (by decide +kernel) rfl mp10 ?_
                refine j_iload_n E dX7_fit_131 rfl rfl ?_
                refine j_iconst (v := 0) E dX7_fit_132 (by decide) ?_
                refine j_iast E dX7_fit_133 ml10 mn10 (ix01 (n := 15) h8 (by decide)).1 (ix01 (n := 15) h8 (by decide)).2 (by decide) mk10 ?_
                refine j_aload_n E dX7_fit_134 rfl rfl ?_
                refine j_getP (ci := 7) (k := 11) (Cn := RX7) (T := TX7) (N := 34) E dX7_fit_135 hm1 hm2 rfl (by decide) hinX7 (by decide +kernel) rfl mp11 ?_
                refine j_iload_n E dX7_fit_138 rfl rfl ?_
                refine j_iconst (v := 0) E dX7_fit_139 (by decide) ?_
                refine j_zast E dX7_fit_140 ml11 mn11 (ix01 (n := 15) h8 (by decide)).1 (ix01 (n := 15) h8 (by decide)).2 (by decide) mk11 rfl ?_
                exact j_vret E dX7_fit_141 rfl (by simp [mFit, mFitT, h8, h17, h30, h38, h73])
              )
          · first
            | exact absurd h73 (by decide)
            | exact absurd (by decide) h73
            | (
                exact j_vret E dX7_fit_76 rfl (by simp [mFit, mFitT, h8, h17, h30, h38, h73])
              )
        · refine j_fload E dX7_fit_41 rfl ?_
          refine j_ldcf (v := 1120403456) E (by decide +kernel) dX7_fit_43 ?_
          refine j_fcmp E dX7_fit_45 ?_
          refine j_if_le (tgt := 53) E dX7_fit_46 (by decide) (fun h46 => ?_) (fun h46 => ?_)
          · refine j_aload_n E dX7_fit_53 rfl rfl ?_
            refine j_getI (ci := 7) (k := 26) (Cn := RX7) (T := TX7) (N := 34) E dX7_fit_54 hm1 hm2 rfl (by decide) hinX7 (by decide +kernel) rfl ?_
            refine j_iconst (v := 2) E dX7_fit_57 (by decide) ?_
            refine j_icmp_ge (tgt := 65) E dX7_fit_58 (by decide) (fun h58 => ?_) (fun h58 => ?_)
            · refine j_iconst (v := 0) E dX7_fit_65 (by decide) ?_
              refine j_putI (ci := 7) (k := 0) (Cn := RX7) (T := TX7) (N := 34) E dX7_fit_66 hm1 hm2 rfl (by decide) hinX7 (by decide +kernel) rfl tyX7 tyX7_ok nmX7 rfl rfl rfl rfl ?_
              refine j_aload_n E dX7_fit_69 rfl rfl ?_
              refine j_getI (ci := 7) (k := 0) (Cn := RX7) (T := TX7) (N := 34) E dX7_fit_70 hm1 hm2 rfl (by decide) hinX7 (by decide +kernel) rfl ?_
              try simp only [pI_m hinj, pF_m hinj, pI_2, pF_1, Nat.reduceEqDiff, Nat.reduceLT, Nat.reduceLeDiff, eq_self, ↓reduceIte]
              refine j_if_le (tgt := 77) E dX7_fit_73 (by decide) (fun h73 => ?_) (fun h73 => ?_)
              · first
                | exact absurd h73 (by decide)
                | exact absurd (by decide) h73
                | (
                    refine j_aload_n E dX7_fit_77 rfl rfl ?_
                    refine j_getP (ci := 7) (k := 2) (Cn := RX7) (T := TX7) (N := 34) E dX7_fit_78 hm1 hm2 rfl (by decide) hinX7 (by decide +kernel) rfl mp2 ?_
                    refine j_iload_n E dX7_fit_81 rfl rfl ?_
                    refine j_iload_n E dX7_fit_82 rfl rfl ?_
                    refine j_iast E dX7_fit_83 ml2 mn2 (ix01 (n := 15) h8 (by decide)).1 (ix01 (n := 15) h8 (by decide)).2 (by decide) mk2 ?_
                    refine j_aload_n E dX7_fit_84 rfl rfl ?_
                    refine j_getP (ci := 7) (k := 3) (Cn := RX7) (T := TX7) (N := 34) E dX7_fit_85 hm1 hm2 rfl (by decide) hinX7 (by decide +kernel) rfl mp3 ?_
                    refine j_iload_n E dX7_fit_88 rfl rfl ?_
                    refine j_iload_n E dX7_fit_89 rfl rfl ?_
                    refine j_iast E dX7_fit_90 ml3 mn3 (ix01 (n := 15) h8 (by decide)).1 (ix01 (n := 15) h8 (by decide)).2 (by decide) mk3 ?_
                    refine j_aload_n E dX7_fit_91 rfl rfl ?_
                    refine j_getP (ci := 7) (k := 4) (Cn := RX7) (T := TX7) (N := 34) E dX7_fit_92 hm1 hm2 rfl (by decide) hinX7 (by decide +kernel) rfl mp4 ?_
                    refine j_iload_n E dX7_fit_95 rfl rfl ?_
                    refine j_fload E dX7_fit_96 rfl ?_
                    refine j_fast E dX7_fit_98 ml4 mn4 (ix01 (n := 15) h8 (by decide)).1 (ix01 (n := 15) h8 (by decide)).2 (by decide) mk4 ?_
                    refine j_aload_n E dX7_fit_99 rfl rfl ?_
                    refine j_getP (ci := 7) (k := 6) (Cn := RX7) (T := TX7) (N := 34) E dX7_fit_100 hm1 hm2 rfl (by decide) hinX7 (by decide +kernel) rfl mp6 ?_
                    refine j_iload_n E dX7_fit_103 rfl rfl ?_
                    refine j_fconst0 E dX7_fit_104 ?_
                    refine j_fast E dX7_fit_105 ml6 mn6 (ix01 (n := 15) h8 (by decide)).1 (ix01 (n := 15) h8 (by decide)).2 (by decide) mk6 ?_
                    refine j_aload_n E dX7_fit_106 rfl rfl ?_
                    refine j_getP (ci := 7) (k := 7) (Cn := RX7) (T := TX7) (N := 34) E dX7_fit_107 hm1 hm2 rfl (by decide) hinX7 (by decide +kernel) rfl mp7 ?_
                    refine j_iload_n E dX7_fit_110 rfl rfl ?_
                    refine j_fconst0 E dX7_fit_111 ?_
                    refine j_fast E dX7_fit_112 ml7 mn7 (ix01 (n := 15) h8 (by decide)).1 (ix01 (n := 15) h8 (by decide)).2 (by decide) mk7 ?_
                    refine j_aload_n E dX7_fit_113 rfl rfl ?_
                    refine j_getP (ci := 7) (k := 8) (Cn := RX7) (T := TX7) (N := 34) E dX7_fit_114 hm1 hm2 rfl (by decide) hinX7 (by decide +kernel) rfl mp8 ?_
                    refine j_iload_n E dX7_fit_117 rfl rfl ?_
                    refine j_iconst (v := 0) E dX7_fit_118 (by decide) ?_
                    refine j_iast E dX7_fit_119 ml8 mn8 (ix01 (n := 15) h8 (by decide)).1 (ix01 (n := 15) h8 (by decide)).2 (by decide) mk8 ?_
                    refine j_aload_n E dX7_fit_120 rfl rfl ?_
                    refine j_getP (ci := 7) (k := 9) (Cn := RX7) (T := TX7) (N := 34) E dX7_fit_121 hm1 hm2 rfl (by decide) hinX7 (by decide +kernel) rfl mp9 ?_
                    refine j_iload_n E dX7_fit_124 rfl rfl ?_
                    refine j_iconst (v := 0) E dX7_fit_125 (by decide) ?_
                    refine j_zast E dX7_fit_126 ml9 mn9 (ix01 (n := 15) h8 (by decide)).1 (ix01 (n := 15) h8 (by decide)).2 (by decide) mk9 rfl ?_
                    refine j_aload_n E dX7_fit_127 rfl rfl ?_
                    refine j_getP (ci := 7) (k := 10) (Cn := RX7) (T := TX7) (N := 34) E dX7_fit_128 hm1 hm2 rfl (by decide) hinX7 (by decide +kernel) rfl mp10 ?_
                    refine j_iload_n E dX7_fit_131 rfl rfl ?_
                    refine j_iconst (v := 0) E dX7_fit_132 (by decide) ?_
                    refine j_iast E dX7_fit_133 ml10 mn10 (ix01 (n := 15) h8 (by decide)).1 (ix01 (n := 15) h8 (by decide)).2 (by decide) mk10 ?_
                    refine j_aload_n E dX7_fit_134 rfl rfl ?_
                    refine j_getP (ci := 7) (k := 11) (Cn := RX7) (T := TX7) (N := 34) E dX7_fit_135 hm1 hm2 rfl (by decide) hinX7 (by decide +kernel) rfl mp11 ?_
                    refine j_iload_n E dX7_fit_138 rfl rfl ?_
                    refine j_iconst (v := 0) E dX7_fit_139 (by decide) ?_
                    refine j_zast E dX7_fit_140 ml11 mn11 (ix01 (n := 15) h8 (by decide)).1 (ix01 (n := 15) h8 (by decide)).2 (by decide) mk11 rfl ?_
                    exact j_vret E dX7_fit_141 rfl (by simp [mFit, mFitT, h8, h17, h30, h38, h46, h58, h73])
                  )
              · first
                | exact absurd h73 (by decide)
                | exact absurd (by decide) h73
                | (
                    exact j_vret E dX7_fit_76 rfl (by simp [mFit, mFitT, h8, h17, h30, h38, h46, h58, h73])
                  )
            · refine j_iconst (v := 3) E dX7_fit_61 (by decide) ?_
              refine j_goto (tgt := 66) E dX7_fit_62 (by decide) ?_
              refine j_putI (ci := 7) (k := 0) (Cn := RX7) (T := TX7) (N := 34) E dX7_fit_66 hm1 hm2 rfl (by decide) hinX7 (by decide +kernel) rfl tyX7 tyX7_ok nmX7 rfl rfl rfl rfl ?_
              refine j_aload_n E dX7_fit_69 rfl rfl ?_
              refine j_getI (ci := 7) (k := 0) (Cn := RX7) (T := TX7) (N := 34) E dX7_fit_70 hm1 hm2 rfl (by decide) hinX7 (by decide +kernel) rfl ?_
              try simp only [pI_m hinj, pF_m hinj, pI_2, pF_1, Nat.reduceEqDiff, Nat.reduceLT, Nat.reduceLeDiff, eq_self, ↓reduceIte]
              refine j_if_le (tgt := 77) E dX7_fit_73 (by decide) (fun h73 => ?_) (fun h73 => ?_)
              · first
                | exact absurd h73 (by decide)
                | exact absurd (by decide) h73
                | (
                    refine j_aload_n E dX7_fit_77 rfl rfl ?_
                    refine j_getP (ci := 7) (k := 2) (Cn := RX7) (T := TX7) (N := 34) E dX7_fit_78 hm1 hm2 rfl (by decide) hinX7 (by decide +kernel) rfl mp2 ?_
                    refine j_iload_n E dX7_fit_81 rfl rfl ?_
                    refine j_iload_n E dX7_fit_82 rfl rfl ?_
                    refine j_iast E dX7_fit_83 ml2 mn2 (ix01 (n := 15) h8 (by decide)).1 (ix01 (n := 15) h8 (by decide)).2 (by decide) mk2 ?_
                    refine j_aload_n E dX7_fit_84 rfl rfl ?_
                    refine j_getP (ci := 7) (k := 3) (Cn := RX7) (T := TX7) (N := 34) E dX7_fit_85 hm1 hm2 rfl (by decide) hinX7 (by decide +kernel) rfl mp3 ?_
                    refine j_iload_n E dX7_fit_88 rfl rfl ?_
                    refine j_iload_n E dX7_fit_89 rfl rfl ?_
                    refine j_iast E dX7_fit_90 ml3 mn3 (ix01 (n := 15) h8 (by decide)).1 (ix01 (n := 15) h8 (by decide)).2 (by decide) mk3 ?_
                    refine j_aload_n E dX7_fit_91 rfl rfl ?_
                    refine j_getP (ci := 7) (k := 4) (Cn := RX7) (T := TX7) (N := 34) E dX7_fit_92 hm1 hm2 rfl (by decide) hinX7 (by decide +kernel) rfl mp4 ?_
                    refine j_iload_n E dX7_fit_95 rfl rfl ?_
                    refine j_fload E dX7_fit_96 rfl ?_
                    refine j_fast E dX7_fit_98 ml4 mn4 (ix01 (n := 15) h8 (by decide)).1 (ix01 (n := 15) h8 (by decide)).2 (by decide) mk4 ?_
                    refine j_aload_n E dX7_fit_99 rfl rfl ?_
                    refine j_getP (ci := 7) (k := 6) (Cn := RX7) (T := TX7) (N := 34) E dX7_fit_100 hm1 hm2 rfl (by decide) hinX7 (by decide +kernel) rfl mp6 ?_
                    refine j_iload_n E dX7_fit_103 rfl rfl ?_
                    refine j_fconst0 E dX7_fit_104 ?_
                    refine j_fast E dX7_fit_105 ml6 mn6 (ix01 (n := 15) h8 (by decide)).1 (ix01 (n := 15) h8 (by decide)).2 (by decide) mk6 ?_
                    refine j_aload_n E dX7_fit_106 rfl rfl ?_
                    refine j_getP (ci := 7) (k := 7) (Cn := RX7) (T := TX7) (N := 34) E dX7_fit_107 hm1 hm2 rfl (by decide) hinX7 (by decide +kernel) rfl mp7 ?_
                    refine j_iload_n E dX7_fit_110 rfl rfl ?_
                    refine j_fconst0 E dX7_fit_111 ?_
                    refine j_fast E dX7_fit_112 ml7 mn7 (ix01 (n := 15) h8 (by decide)).1 (ix01 (n := 15) h8 (by decide)).2 (by decide) mk7 ?_
                    refine j_aload_n E dX7_fit_113 rfl rfl ?_
                    refine j_getP (ci := 7) (k := 8) (Cn := RX7) (T := TX7) (N := 34) E dX7_fit_114 hm1 hm2 rfl (by decide) hinX7 (by decide +kernel) rfl mp8 ?_
                    refine j_iload_n E dX7_fit_117 rfl rfl ?_
                    refine j_iconst (v := 0) E dX7_fit_118 (by decide) ?_
                    refine j_iast E dX7_fit_119 ml8 mn8 (ix01 (n := 15) h8 (by decide)).1 (ix01 (n := 15) h8 (by decide)).2 (by decide) mk8 ?_
                    refine j_aload_n E dX7_fit_120 rfl rfl ?_
                    refine j_getP (ci := 7) (k := 9) (Cn := RX7) (T := TX7) (N := 34) E dX7_fit_121 hm1 hm2 rfl (by decide) hinX7 (by decide +kernel) rfl mp9 ?_
                    refine j_iload_n E dX7_fit_124 rfl rfl ?_
                    refine j_iconst (v := 0) E dX7_fit_125 (by decide) ?_
                    refine j_zast E dX7_fit_126 ml9 mn9 (ix01 (n := 15) h8 (by decide)).1 (ix01 (n := 15) h8 (by decide)).2 (by decide) mk9 rfl ?_
                    refine j_aload_n E dX7_fit_127 rfl rfl ?_
                    refine j_getP (ci := 7) (k := 10) (Cn := RX7) (T := TX7) (N := 34) E dX7_fit_128 hm1 hm2 rfl (by decide) hinX7 (by decide +kernel) rfl mp10 ?_
                    refine j_iload_n E dX7_fit_131 rfl rfl ?_
                    refine j_iconst (v := 0) E dX7_fit_132 (by decide) ?_
                    refine j_iast E dX7_fit_133 ml10 mn10 (ix01 (n := 15) h8 (by decide)).1 (ix01 (n := 15) h8 (by decide)).2 (by decide) mk10 ?_
                    refine j_aload_n E dX7_fit_134 rfl rfl ?_
                    refine j_getP (ci := 7) (k := 11) (Cn := RX7) (T := TX7) (N := 34) E dX7_fit_135 hm1 hm2 rfl (by decide) hinX7 (by decide +kernel) rfl mp11 ?_
                    refine j_iload_n E dX7_fit_138 rfl rfl ?_
                    refine j_iconst (v := 0) E dX7_fit_139 (by decide) ?_
                    refine j_zast E dX7_fit_140 ml11 mn11 (ix01 (n := 15) h8 (by decide)).1 (ix01 (n := 15) h8 (by decide)).2 (by decide) mk11 rfl ?_
                    exact j_vret E dX7_fit_141 rfl (by simp [mFit, mFitT, h8, h17, h30, h38, h46, h58, h73])
                  )
              · first
                | exact absurd h73 (by decide)
                | exact absurd (by decide) h73
                | (
                    exact j_vret E dX7_fit_76 rfl (by simp [mFit, mFitT, h8, h17, h30, h38, h46, h58, h73])
                  )
          · refine j_iconst (v := 2) E dX7_fit_49 (by decide) ?_
            refine j_goto (tgt := 66) E dX7_fit_50 (by decide) ?_
            refine j_putI (ci := 7) (k := 0) (Cn := RX7) (T := TX7) (N := 34) E dX7_fit_66 hm1 hm2 rfl (by decide) hinX7 (by decide +kernel) rfl tyX7 tyX7_ok nmX7 rfl rfl rfl rfl ?_
            refine j_aload_n E dX7_fit_69 rfl rfl ?_
            refine j_getI (ci := 7) (k := 0) (Cn := RX7) (T := TX7) (N := 34) E dX7_fit_70 hm1 hm2 rfl (by decide) hinX7 (by decide +kernel) rfl ?_
            try simp only [pI_m hinj, pF_m hinj, pI_2, pF_1, Nat.reduceEqDiff, Nat.reduceLT, Nat.reduceLeDiff, eq_self, ↓reduceIte]
            refine j_if_le (tgt := 77) E dX7_fit_73 (by decide) (fun h73 => ?_) (fun h73 => ?_)
            · first
              | exact absurd h73 (by decide)
              | exact absurd (by decide) h73
              | (
                  refine j_aload_n E dX7_fit_77 rfl rfl ?_
                  refine j_getP (ci := 7) (k := 2) (Cn := RX7) (T := TX7) (N := 34) E dX7_fit_78 hm1 hm2 rfl (by decide) hinX7 (by decide +kernel) rfl mp2 ?_
                  refine j_iload_n E dX7_fit_81 rfl rfl ?_
                  refine j_iload_n E dX7_fit_82 rfl rfl ?_
                  refine j_iast E dX7_fit_83 ml2 mn2 (ix01 (n := 15) h8 (by decide)).1 (ix01 (n := 15) h8 (by decide)).2 (by decide) mk2 ?_
                  refine j_aload_n E dX7_fit_84 rfl rfl ?_
                  refine j_getP (ci := 7) (k := 3) (Cn := RX7) (T := TX7) (N := 34) E dX7_fit_85 hm1 hm2 rfl (by decide) hinX7 (by decide +kernel) rfl mp3 ?_
                  refine j_iload_n E dX7_fit_88 rfl rfl ?_
                  refine j_iload_n E dX7_fit_89 rfl rfl ?_
                  refine j_iast E dX7_fit_90 ml3 mn3 (ix01 (n := 15) h8 (by decide)).1 (ix01 (n := 15) h8 (by decide)).2 (by decide) mk3 ?_
                  refine j_aload_n E dX7_fit_91 rfl rfl ?_
                  refine j_getP (ci := 7) (k := 4) (Cn := RX7) (T := TX7) (N := 34) E dX7_fit_92 hm1 hm2 rfl (by decide) hinX7 (by decide +kernel) rfl mp4 ?_
                  refine j_iload_n E dX7_fit_95 rfl rfl ?_
                  refine j_fload E dX7_fit_96 rfl ?_
                  refine j_fast E dX7_fit_98 ml4 mn4 (ix01 (n := 15) h8 (by decide)).1 (ix01 (n := 15) h8 (by decide)).2 (by decide) mk4 ?_
                  refine j_aload_n E dX7_fit_99 rfl rfl ?_
                  refine j_getP (ci := 7) (k := 6) (Cn := RX7) (T := TX7) (N := 34) E dX7_fit_100 hm1 hm2 rfl (by decide) hinX7 (by decide +kernel) rfl mp6 ?_
                  refine j_iload_n E dX7_fit_103 rfl rfl ?_
                  refine j_fconst0 E dX7_fit_104 ?_
                  refine j_fast E dX7_fit_105 ml6 mn6 (ix01 (n := 15) h8 (by decide)).1 (ix01 (n := 15) h8 (by decide)).2 (by decide) mk6 ?_
                  refine j_aload_n E dX7_fit_106 rfl rfl ?_
                  refine j_getP (ci := 7) (k := 7) (Cn := RX7) (T := TX7) (N := 34) E dX7_fit_107 hm1 hm2 rfl (by decide) hinX7 (by decide +kernel) rfl mp7 ?_
                  refine j_iload_n E dX7_fit_110 rfl rfl ?_
                  refine j_fconst0 E dX7_fit_111 ?_
                  refine j_fast E dX7_fit_112 ml7 mn7 (ix01 (n := 15) h8 (by decide)).1 (ix01 (n := 15) h8 (by decide)).2 (by decide) mk7 ?_
                  refine j_aload_n E dX7_fit_113 rfl rfl ?_
                  refine j_getP (ci := 7) (k := 8) (Cn := RX7) (T := TX7) (N := 34) E dX7_fit_114 hm1 hm2 rfl (by decide) hinX7 (by decide +kernel) rfl mp8 ?_
                  refine j_iload_n E dX7_fit_117 rfl rfl ?_
                  refine j_iconst (v := 0) E dX7_fit_118 (by decide) ?_
                  refine j_iast E dX7_fit_119 ml8 mn8 (ix01 (n := 15) h8 (by decide)).1 (ix01 (n := 15) h8 (by decide)).2 (by decide) mk8 ?_
                  refine j_aload_n E dX7_fit_120 rfl rfl ?_
                  refine j_getP (ci := 7) (k := 9) (Cn := RX7) (T := TX7) (N := 34) E dX7_fit_121 hm1 hm2 rfl (by decide) hinX7 (by decide +kernel) rfl mp9 ?_
                  refine j_iload_n E dX7_fit_124 rfl rfl ?_
                  refine j_iconst (v := 0) E dX7_fit_125 (by decide) ?_
                  refine j_zast E dX7_fit_126 ml9 mn9 (ix01 (n := 15) h8 (by decide)).1 (ix01 (n := 15) h8 (by decide)).2 (by decide) mk9 rfl ?_
                  refine j_aload_n E dX7_fit_127 rfl rfl ?_
                  refine j_getP (ci := 7) (k := 10) (Cn := RX7) (T := TX7) (N := 34) E dX7_fit_128 hm1 hm2 rfl (by decide) hinX7 (by decide +kernel) rfl mp10 ?_
                  refine j_iload_n E dX7_fit_131 rfl rfl ?_
                  refine j_iconst (v := 0) E dX7_fit_132 (by decide) ?_
                  refine j_iast E dX7_fit_133 ml10 mn10 (ix01 (n := 15) h8 (by decide)).1 (ix01 (n := 15) h8 (by decide)).2 (by decide) mk10 ?_
                  refine j_aload_n E dX7_fit_134 rfl rfl ?_
                  refine j_getP (ci := 7) (k := 11) (Cn := RX7) (T := TX7) (N := 34) E dX7_fit_135 hm1 hm2 rfl (by decide) hinX7 (by decide +kernel) rfl mp11 ?_
                  refine j_iload_n E dX7_fit_138 rfl rfl ?_
                  refine j_iconst (v := 0) E dX7_fit_139 (by decide) ?_
                  refine j_zast E dX7_fit_140 ml11 mn11 (ix01 (n := 15) h8 (by decide)).1 (ix01 (n := 15) h8 (by decide)).2 (by decide) mk11 rfl ?_
                  exact j_vret E dX7_fit_141 rfl (by simp [mFit, mFitT, h8, h17, h30, h38, h46, h73])
                )
            · first
              | exact absurd h73 (by decide)
              | exact absurd (by decide) h73
              | (
                  exact j_vret E dX7_fit_76 rfl (by simp [mFit, mFitT, h8, h17, h30, h38, h46, h73])
                )
    · refine j_iconst (v := 1) E dX7_fit_20 (by decide) ?_
      refine j_goto (tgt := 66) E dX7_fit_21 (by decide) ?_
      refine j_putI (ci := 7) (k := 0) (Cn := RX7) (T := TX7) (N := 34) E dX7_fit_66 hm1 hm2 rfl (by decide) hinX7 (by decide +kernel) rfl tyX7 tyX7_ok nmX7 rfl rfl rfl rfl ?_
      refine j_aload_n E dX7_fit_69 rfl rfl ?_
      refine j_getI (ci := 7) (k := 0) (Cn := RX7) (T := TX7) (N := 34) E dX7_fit_70 hm1 hm2 rfl (by decide) hinX7 (by decide +kernel) rfl ?_
      try simp only [pI_m hinj, pF_m hinj, pI_2, pF_1, Nat.reduceEqDiff, Nat.reduceLT, Nat.reduceLeDiff, eq_self, ↓reduceIte]
      refine j_if_le (tgt := 77) E dX7_fit_73 (by decide) (fun h73 => ?_) (fun h73 => ?_)
      · first
        | exact absurd h73 (by decide)
        | exact absurd (by decide) h73
        | (
            refine j_aload_n E dX7_fit_77 rfl rfl ?_
            refine j_getP (ci := 7) (k := 2) (Cn := RX7) (T := TX7) (N := 34) E dX7_fit_78 hm1 hm2 rfl (by decide) hinX7 (by decide +kernel) rfl mp2 ?_
            refine j_iload_n E dX7_fit_81 rfl rfl ?_
            refine j_iload_n E dX7_fit_82 rfl rfl ?_
            refine j_iast E dX7_fit_83 ml2 mn2 (ix01 (n := 15) h8 (by decide)).1 (ix01 (n := 15) h8 (by decide)).2 (by decide) mk2 ?_
            refine j_aload_n E dX7_fit_84 rfl rfl ?_
            refine j_getP (ci := 7) (k := 3) (Cn := RX7) (T := TX7) (N := 34) E dX7_fit_85 hm1 hm2 rfl (by decide) hinX7 (by decide +kernel) rfl mp3 ?_
            refine j_iload_n E dX7_fit_88 rfl rfl ?_
            refine j_iload_n E dX7_fit_89 rfl rfl ?_
            refine j_iast E dX7_fit_90 ml3 mn3 (ix01 (n := 15) h8 (by decide)).1 (ix01 (n := 15) h8 (by decide)).2 (by decide) mk3 ?_
            refine j_aload_n E dX7_fit_91 rfl rfl ?_
            refine j_getP (ci := 7) (k := 4) (Cn := RX7) (T := TX7) (N := 34) E dX7_fit_92 hm1 hm2 rfl (by decide) hinX7 (by decide +kernel) rfl mp4 ?_
            refine j_iload_n E dX7_fit_95 rfl rfl ?_
            refine j_fload E dX7_fit_96 rfl ?_
            refine j_fast E dX7_fit_98 ml4 mn4 (ix01 (n := 15) h8 (by decide)).1 (ix01 (n := 15) h8 (by decide)).2 (by decide) mk4 ?_
            refine j_aload_n E dX7_fit_99 rfl rfl ?_
            refine j_getP (ci := 7) (k := 6) (Cn := RX7) (T := TX7) (N := 34) E dX7_fit_100 hm1 hm2 rfl (by decide) hinX7 (by decide +kernel) rfl mp6 ?_
            refine j_iload_n E dX7_fit_103 rfl rfl ?_
            refine j_fconst0 E dX7_fit_104 ?_
            refine j_fast E dX7_fit_105 ml6 mn6 (ix01 (n := 15) h8 (by decide)).1 (ix01 (n := 15) h8 (by decide)).2 (by decide) mk6 ?_
            refine j_aload_n E dX7_fit_106 rfl rfl ?_
            refine j_getP (ci := 7) (k := 7) (Cn := RX7) (T := TX7) (N := 34) E dX7_fit_107 hm1 hm2 rfl (by decide) hinX7 (by decide +kernel) rfl mp7 ?_
            refine j_iload_n E dX7_fit_110 rfl rfl ?_
            refine j_fconst0 E dX7_fit_111 ?_
            refine j_fast E dX7_fit_112 ml7 mn7 (ix01 (n := 15) h8 (by decide)).1 (ix01 (n := 15) h8 (by decide)).2 (by decide) mk7 ?_
            refine j_aload_n E dX7_fit_113 rfl rfl ?_
            refine j_getP (ci := 7) (k := 8) (Cn := RX7) (T := TX7) (N := 34) E dX7_fit_114 hm1 hm2 rfl (by decide) hinX7 (by decide +kernel) rfl mp8 ?_
            refine j_iload_n E dX7_fit_117 rfl rfl ?_
            refine j_iconst (v := 0) E dX7_fit_118 (by decide) ?_
            refine j_iast E dX7_fit_119 ml8 mn8 (ix01 (n := 15) h8 (by decide)).1 (ix01 (n := 15) h8 (by decide)).2 (by decide) mk8 ?_
            refine j_aload_n E dX7_fit_120 rfl rfl ?_
            refine j_getP (ci := 7) (k := 9) (Cn := RX7) (T := TX7) (N := 34) E dX7_fit_121 hm1 hm2 rfl (by decide) hinX7 (by decide +kernel) rfl mp9 ?_
            refine j_iload_n E dX7_fit_124 rfl rfl ?_
            refine j_iconst (v := 0) E dX7_fit_125 (by decide) ?_
            refine j_zast E dX7_fit_126 ml9 mn9 (ix01 (n := 15) h8 (by decide)).1 (ix01 (n := 15) h8 (by decide)).2 (by decide) mk9 rfl ?_
            refine j_aload_n E dX7_fit_127 rfl rfl ?_
            refine j_getP (ci := 7) (k := 10) (Cn := RX7) (T := TX7) (N := 34) E dX7_fit_128 hm1 hm2 rfl (by decide) hinX7 (by decide +kernel) rfl mp10 ?_
            refine j_iload_n E dX7_fit_131 rfl rfl ?_
            refine j_iconst (v := 0) E dX7_fit_132 (by decide) ?_
            refine j_iast E dX7_fit_133 ml10 mn10 (ix01 (n := 15) h8 (by decide)).1 (ix01 (n := 15) h8 (by decide)).2 (by decide) mk10 ?_
            refine j_aload_n E dX7_fit_134 rfl rfl ?_
            refine j_getP (ci := 7) (k := 11) (Cn := RX7) (T := TX7) (N := 34) E dX7_fit_135 hm1 hm2 rfl (by decide) hinX7 (by decide +kernel) rfl mp11 ?_
            refine j_iload_n E dX7_fit_138 rfl rfl ?_
            refine j_iconst (v := 0) E dX7_fit_139 (by decide) ?_
            refine j_zast E dX7_fit_140 ml11 mn11 (ix01 (n := 15) h8 (by decide)).1 (ix01 (n := 15) h8 (by decide)).2 (by decide) mk11 rfl ?_
            exact j_vret E dX7_fit_141 rfl (by simp [mFit, mFitT, h8, h17, h73])
          )
      · first
        | exact absurd h73 (by decide)
        | exact absurd (by decide) h73
        | (
            exact j_vret E dX7_fit_76 rfl (by simp [mFit, mFitT, h8, h17, h73])
          )

set_option maxHeartbeats 1600000 in
set_option maxRecDepth 100000 in
theorem k_X7_need {l : Launch} {D : va_G} {cy : Nat → ClassId} {X : va_W} {G : pG} {M : pM} {m : Nat → Nat} {z n : Int32} (hM : wM G m) : jK l yX7_need wsX7_need ({ frames := 1, cells := 0, slots := 0, locals := 22 } : Room) D cy X G M [.ref (m 0), .int z, .int n] none X (mNeed M m z n) := by
  refine jK_of (own := RX7) (by decide) rfl rfl (Nat.le_of_ble_eq_true rfl) (fun C E hl hD hcy hG => ?_)
  subst hl; subst hD; subst hcy; subst hG
  have hinX7 : ∀ w ∈ u_ws RX7 TX7 34, w ∈ wsX7_need := by decide +kernel
  have hM0 := hM
  obtain ⟨hm1, hm2, hmt, hinj⟩ := hM
  obtain ⟨mp14, ml14, mk14, mn14⟩ := hmt 14 10 4 rfl
  refine j_aload_n E dX7_need_0 rfl rfl ?_
  refine j_iload_n E dX7_need_1 rfl rfl ?_
  refine j_iconst (v := 0) E dX7_need_2 (by decide) ?_
  refine j_iconst (v := 3) E dX7_need_3 (by decide) ?_
  refine j_callS1 (n := 3) E (k_X7_in ) dX7_need_4 gX7_need_X7_in rfl (by decide +kernel) ⟨rfl, rfl, by decide, by decide⟩ ⟨Nat.zero_le _, Nat.zero_le _⟩ rfl rfl (Nat.le_of_ble_eq_true rfl) rfl ?_
  refine j_if_ne (tgt := 14) E dX7_need_7 (by decide) (fun h7 => ?_) (fun h7 => ?_)
  · refine j_iload_n E dX7_need_14 rfl rfl ?_
    refine j_iconst (v := 1) E dX7_need_15 (by decide) ?_
    refine j_iconst (v := 4) E dX7_need_16 (by decide) ?_
    refine j_callS1 (n := 3) E (k_X7_in ) dX7_need_17 gX7_need_X7_in rfl (by decide +kernel) ⟨rfl, rfl, by decide, by decide⟩ ⟨Nat.zero_le _, Nat.zero_le _⟩ rfl rfl (Nat.le_of_ble_eq_true rfl) rfl ?_
    refine j_if_ne (tgt := 27) E dX7_need_20 (by decide) (fun h20 => ?_) (fun h20 => ?_)
    · refine j_aload_n E dX7_need_27 rfl rfl ?_
      refine j_getI (ci := 7) (k := 26) (Cn := RX7) (T := TX7) (N := 34) E dX7_need_28 hm1 hm2 rfl (by decide) hinX7 (by decide +kernel) rfl ?_
      refine j_iconst (v := 2) E dX7_need_31 (by decide) ?_
      refine j_icmp_ge (tgt := 39) E dX7_need_32 (by decide) (fun h32 => ?_) (fun h32 => ?_)
      · refine j_iconst (v := 0) E dX7_need_39 (by decide) ?_
        refine j_putI (ci := 7) (k := 0) (Cn := RX7) (T := TX7) (N := 34) E dX7_need_40 hm1 hm2 rfl (by decide) hinX7 (by decide +kernel) rfl tyX7 tyX7_ok nmX7 rfl rfl rfl rfl ?_
        refine j_aload_n E dX7_need_43 rfl rfl ?_
        refine j_getI (ci := 7) (k := 0) (Cn := RX7) (T := TX7) (N := 34) E dX7_need_44 hm1 hm2 rfl (by decide) hinX7 (by decide +kernel) rfl ?_
        try simp only [pI_m hinj, pF_m hinj, pI_2, pF_1, Nat.reduceEqDiff, Nat.reduceLT, Nat.reduceLeDiff, eq_self, ↓reduceIte]
        refine j_if_ne (tgt := 57) E dX7_need_47 (by decide) (fun h47 => ?_) (fun h47 => ?_)
        · first
          | exact absurd h47 (by decide)
          | exact absurd (by decide) h47
          | (
              exact j_vret E dX7_need_57 rfl (by simp [mNeed, mNeedT, h7, h20, h32, h47])
            )
        · first
          | exact absurd h47 (by decide)
          | exact absurd (by decide) h47
          | (
              refine j_aload_n E dX7_need_50 rfl rfl ?_
              refine j_getP (ci := 7) (k := 14) (Cn := RX7) (T := TX7) (N := 34) E dX7_need_51 hm1 hm2 rfl (by decide) hinX7 (by decide +kernel) rfl mp14 ?_
              refine j_iload_n E dX7_need_54 rfl rfl ?_
              refine j_iload_n E dX7_need_55 rfl rfl ?_
              refine j_iast E dX7_need_56 ml14 mn14 (ix01 (n := 3) h7 (by decide)).1 (ix01 (n := 3) h7 (by decide)).2 (by decide) mk14 ?_
              exact j_vret E dX7_need_57 rfl (by simp [mNeed, mNeedT, h7, h20, h32, h47])
            )
      · refine j_iconst (v := 3) E dX7_need_35 (by decide) ?_
        refine j_goto (tgt := 40) E dX7_need_36 (by decide) ?_
        refine j_putI (ci := 7) (k := 0) (Cn := RX7) (T := TX7) (N := 34) E dX7_need_40 hm1 hm2 rfl (by decide) hinX7 (by decide +kernel) rfl tyX7 tyX7_ok nmX7 rfl rfl rfl rfl ?_
        refine j_aload_n E dX7_need_43 rfl rfl ?_
        refine j_getI (ci := 7) (k := 0) (Cn := RX7) (T := TX7) (N := 34) E dX7_need_44 hm1 hm2 rfl (by decide) hinX7 (by decide +kernel) rfl ?_
        try simp only [pI_m hinj, pF_m hinj, pI_2, pF_1, Nat.reduceEqDiff, Nat.reduceLT, Nat.reduceLeDiff, eq_self, ↓reduceIte]
        refine j_if_ne (tgt := 57) E dX7_need_47 (by decide) (fun h47 => ?_) (fun h47 => ?_)
        · first
          | exact absurd h47 (by decide)
          | exact absurd (by decide) h47
          | (
              exact j_vret E dX7_need_57 rfl (by simp [mNeed, mNeedT, h7, h20, h32, h47])
            )
        · first
          | exact absurd h47 (by decide)
          | exact absurd (by decide) h47
          | (
              refine j_aload_n E dX7_need_50 rfl rfl ?_
              refine j_getP (ci := 7) (k := 14) (Cn := RX7) (T := TX7) (N := 34) E dX7_need_51 hm1 hm2 rfl (by decide) hinX7 (by decide +kernel) rfl mp14 ?_
              refine j_iload_n E dX7_need_54 rfl rfl ?_
              refine j_iload_n E dX7_need_55 rfl rfl ?_
              refine j_iast E dX7_need_56 ml14 mn14 (ix01 (n := 3) h7 (by decide)).1 (ix01 (n := 3) h7 (by decide)).2 (by decide) mk14 ?_
              exact j_vret E dX7_need_57 rfl (by simp [mNeed, mNeedT, h7, h20, h32, h47])
            )
    · refine j_iconst (v := 2) E dX7_need_23 (by decide) ?_
      refine j_goto (tgt := 40) E dX7_need_24 (by decide) ?_
      refine j_putI (ci := 7) (k := 0) (Cn := RX7) (T := TX7) (N := 34) E dX7_need_40 hm1 hm2 rfl (by decide) hinX7 (by decide +kernel) rfl tyX7 tyX7_ok nmX7 rfl rfl rfl rfl ?_
      refine j_aload_n E dX7_need_43 rfl rfl ?_
      refine j_getI (ci := 7) (k := 0) (Cn := RX7) (T := TX7) (N := 34) E dX7_need_44 hm1 hm2 rfl (by decide) hinX7 (by decide +kernel) rfl ?_
      try simp only [pI_m hinj, pF_m hinj, pI_2, pF_1, Nat.reduceEqDiff, Nat.reduceLT, Nat.reduceLeDiff, eq_self, ↓reduceIte]
      refine j_if_ne (tgt := 57) E dX7_need_47 (by decide) (fun h47 => ?_) (fun h47 => ?_)
      · first
        | exact absurd h47 (by decide)
        | exact absurd (by decide) h47
        | (
            exact j_vret E dX7_need_57 rfl (by simp [mNeed, mNeedT, h7, h20, h47])
          )
      · first
        | exact absurd h47 (by decide)
        | exact absurd (by decide) h47
        | (
            refine j_aload_n E dX7_need_50 rfl rfl ?_
            refine j_getP (ci := 7) (k := 14) (Cn := RX7) (T := TX7) (N := 34) E dX7_need_51 hm1 hm2 rfl (by decide) hinX7 (by decide +kernel) rfl mp14 ?_
            refine j_iload_n E dX7_need_54 rfl rfl ?_
            refine j_iload_n E dX7_need_55 rfl rfl ?_
            refine j_iast E dX7_need_56 ml14 mn14 (ix01 (n := 3) h7 (by decide)).1 (ix01 (n := 3) h7 (by decide)).2 (by decide) mk14 ?_
            exact j_vret E dX7_need_57 rfl (by simp [mNeed, mNeedT, h7, h20, h47])
          )
  · refine j_iconst (v := 1) E dX7_need_10 (by decide) ?_
    refine j_goto (tgt := 40) E dX7_need_11 (by decide) ?_
    refine j_putI (ci := 7) (k := 0) (Cn := RX7) (T := TX7) (N := 34) E dX7_need_40 hm1 hm2 rfl (by decide) hinX7 (by decide +kernel) rfl tyX7 tyX7_ok nmX7 rfl rfl rfl rfl ?_
    refine j_aload_n E dX7_need_43 rfl rfl ?_
    refine j_getI (ci := 7) (k := 0) (Cn := RX7) (T := TX7) (N := 34) E dX7_need_44 hm1 hm2 rfl (by decide) hinX7 (by decide +kernel) rfl ?_
    try simp only [pI_m hinj, pF_m hinj, pI_2, pF_1, Nat.reduceEqDiff, Nat.reduceLT, Nat.reduceLeDiff, eq_self, ↓reduceIte]
    refine j_if_ne (tgt := 57) E dX7_need_47 (by decide) (fun h47 => ?_) (fun h47 => ?_)
    · first
      | exact absurd h47 (by decide)
      | exact absurd (by decide) h47
      | (
          exact j_vret E dX7_need_57 rfl (by simp [mNeed, mNeedT, h7, h47])
        )
    · first
      | exact absurd h47 (by decide)
      | exact absurd (by decide) h47
      | (
          refine j_aload_n E dX7_need_50 rfl rfl ?_
          refine j_getP (ci := 7) (k := 14) (Cn := RX7) (T := TX7) (N := 34) E dX7_need_51 hm1 hm2 rfl (by decide) hinX7 (by decide +kernel) rfl mp14 ?_
          refine j_iload_n E dX7_need_54 rfl rfl ?_
          refine j_iload_n E dX7_need_55 rfl rfl ?_
          refine j_iast E dX7_need_56 ml14 mn14 (ix01 (n := 3) h7 (by decide)).1 (ix01 (n := 3) h7 (by decide)).2 (by decide) mk14 ?_
          exact j_vret E dX7_need_57 rfl (by simp [mNeed, mNeedT, h7, h47])
        )

set_option maxHeartbeats 1600000 in
set_option maxRecDepth 100000 in
theorem k_X7_wire {l : Launch} {D : va_G} {cy : Nat → ClassId} {X : va_W} {G : pG} {M : pM} {m : Nat → Nat} {w h : Int32} (hM : wM G m) : jK l yX7_wire wsX7_wire ({ frames := 1, cells := 0, slots := 0, locals := 22 } : Room) D cy X G M [.ref (m 0), .int w, .int h] none X (mWire M m w h) := by
  refine jK_of (own := RX7) (by decide) rfl rfl (Nat.le_of_ble_eq_true rfl) (fun C E hl hD hcy hG => ?_)
  subst hl; subst hD; subst hcy; subst hG
  have hinX7 : ∀ w ∈ u_ws RX7 TX7 34, w ∈ wsX7_wire := by decide +kernel
  have hM0 := hM
  obtain ⟨hm1, hm2, hmt, hinj⟩ := hM
  obtain ⟨mp1, ml1, mk1, mn1⟩ := hmt 1 10 17 rfl
  refine j_aload_n E dX7_wire_0 rfl rfl ?_
  refine j_iload_n E dX7_wire_1 rfl rfl ?_
  refine j_iconst (v := 0) E dX7_wire_2 (by decide) ?_
  refine j_bipush (v := 16) E dX7_wire_3 (by decide) ?_
  refine j_callS1 (n := 3) E (k_X7_in ) dX7_wire_5 gX7_wire_X7_in rfl (by decide +kernel) ⟨rfl, rfl, by decide, by decide⟩ ⟨Nat.zero_le _, Nat.zero_le _⟩ rfl rfl (Nat.le_of_ble_eq_true rfl) rfl ?_
  refine j_if_ne (tgt := 15) E dX7_wire_8 (by decide) (fun h8 => ?_) (fun h8 => ?_)
  · refine j_iload_n E dX7_wire_15 rfl rfl ?_
    refine j_iconst (v := 0) E dX7_wire_16 (by decide) ?_
    refine j_iconst (v := 2) E dX7_wire_17 (by decide) ?_
    refine j_callS1 (n := 3) E (k_X7_in ) dX7_wire_18 gX7_wire_X7_in rfl (by decide +kernel) ⟨rfl, rfl, by decide, by decide⟩ ⟨Nat.zero_le _, Nat.zero_le _⟩ rfl rfl (Nat.le_of_ble_eq_true rfl) rfl ?_
    refine j_if_ne (tgt := 28) E dX7_wire_21 (by decide) (fun h21 => ?_) (fun h21 => ?_)
    · refine j_iconst (v := 0) E dX7_wire_28 (by decide) ?_
      refine j_putI (ci := 7) (k := 0) (Cn := RX7) (T := TX7) (N := 34) E dX7_wire_29 hm1 hm2 rfl (by decide) hinX7 (by decide +kernel) rfl tyX7 tyX7_ok nmX7 rfl rfl rfl rfl ?_
      refine j_aload_n E dX7_wire_32 rfl rfl ?_
      refine j_getI (ci := 7) (k := 0) (Cn := RX7) (T := TX7) (N := 34) E dX7_wire_33 hm1 hm2 rfl (by decide) hinX7 (by decide +kernel) rfl ?_
      try simp only [pI_m hinj, pF_m hinj, pI_2, pF_1, Nat.reduceEqDiff, Nat.reduceLT, Nat.reduceLeDiff, eq_self, ↓reduceIte]
      refine j_if_ne (tgt := 46) E dX7_wire_36 (by decide) (fun h36 => ?_) (fun h36 => ?_)
      · first
        | exact absurd h36 (by decide)
        | exact absurd (by decide) h36
        | (
            exact j_vret E dX7_wire_46 rfl (by simp [mWire, mWireT, h8, h21, h36])
          )
      · first
        | exact absurd h36 (by decide)
        | exact absurd (by decide) h36
        | (
            refine j_aload_n E dX7_wire_39 rfl rfl ?_
            refine j_getP (ci := 7) (k := 1) (Cn := RX7) (T := TX7) (N := 34) E dX7_wire_40 hm1 hm2 rfl (by decide) hinX7 (by decide +kernel) rfl mp1 ?_
            refine j_iload_n E dX7_wire_43 rfl rfl ?_
            refine j_iload_n E dX7_wire_44 rfl rfl ?_
            refine j_iast E dX7_wire_45 ml1 mn1 (ix01 (n := 16) h8 (by decide)).1 (ix01 (n := 16) h8 (by decide)).2 (by decide) mk1 ?_
            exact j_vret E dX7_wire_46 rfl (by simp [mWire, mWireT, h8, h21, h36])
          )
    · refine j_iconst (v := 2) E dX7_wire_24 (by decide) ?_
      refine j_goto (tgt := 29) E dX7_wire_25 (by decide) ?_
      refine j_putI (ci := 7) (k := 0) (Cn := RX7) (T := TX7) (N := 34) E dX7_wire_29 hm1 hm2 rfl (by decide) hinX7 (by decide +kernel) rfl tyX7 tyX7_ok nmX7 rfl rfl rfl rfl ?_
      refine j_aload_n E dX7_wire_32 rfl rfl ?_
      refine j_getI (ci := 7) (k := 0) (Cn := RX7) (T := TX7) (N := 34) E dX7_wire_33 hm1 hm2 rfl (by decide) hinX7 (by decide +kernel) rfl ?_
      try simp only [pI_m hinj, pF_m hinj, pI_2, pF_1, Nat.reduceEqDiff, Nat.reduceLT, Nat.reduceLeDiff, eq_self, ↓reduceIte]
      refine j_if_ne (tgt := 46) E dX7_wire_36 (by decide) (fun h36 => ?_) (fun h36 => ?_)
      · first
        | exact absurd h36 (by decide)
        | exact absurd (by decide) h36
        | (
            exact j_vret E dX7_wire_46 rfl (by simp [mWire, mWireT, h8, h21, h36])
          )
      · first
        | exact absurd h36 (by decide)
        | exact absurd (by decide) h36
        | (
            refine j_aload_n E dX7_wire_39 rfl rfl ?_
            refine j_getP (ci := 7) (k := 1) (Cn := RX7) (T := TX7) (N := 34) E dX7_wire_40 hm1 hm2 rfl (by decide) hinX7 (by decide +kernel) rfl mp1 ?_
            refine j_iload_n E dX7_wire_43 rfl rfl ?_
            refine j_iload_n E dX7_wire_44 rfl rfl ?_
            refine j_iast E dX7_wire_45 ml1 mn1 (ix01 (n := 16) h8 (by decide)).1 (ix01 (n := 16) h8 (by decide)).2 (by decide) mk1 ?_
            exact j_vret E dX7_wire_46 rfl (by simp [mWire, mWireT, h8, h21, h36])
          )
  · refine j_iconst (v := 1) E dX7_wire_11 (by decide) ?_
    refine j_goto (tgt := 29) E dX7_wire_12 (by decide) ?_
    refine j_putI (ci := 7) (k := 0) (Cn := RX7) (T := TX7) (N := 34) E dX7_wire_29 hm1 hm2 rfl (by decide) hinX7 (by decide +kernel) rfl tyX7 tyX7_ok nmX7 rfl rfl rfl rfl ?_
    refine j_aload_n E dX7_wire_32 rfl rfl ?_
    refine j_getI (ci := 7) (k := 0) (Cn := RX7) (T := TX7) (N := 34) E dX7_wire_33 hm1 hm2 rfl (by decide) hinX7 (by decide +kernel) rfl ?_
    try simp only [pI_m hinj, pF_m hinj, pI_2, pF_1, Nat.reduceEqDiff, Nat.reduceLT, Nat.reduceLeDiff, eq_self, ↓reduceIte]
    refine j_if_ne (tgt := 46) E dX7_wire_36 (by decide) (fun h36 => ?_) (fun h36 => ?_)
    · first
      | exact absurd h36 (by decide)
      | exact absurd (by decide) h36
      | (
          exact j_vret E dX7_wire_46 rfl (by simp [mWire, mWireT, h8, h36])
        )
    · first
      | exact absurd h36 (by decide)
      | exact absurd (by decide) h36
      | (
          refine j_aload_n E dX7_wire_39 rfl rfl ?_
          refine j_getP (ci := 7) (k := 1) (Cn := RX7) (T := TX7) (N := 34) E dX7_wire_40 hm1 hm2 rfl (by decide) hinX7 (by decide +kernel) rfl mp1 ?_
          refine j_iload_n E dX7_wire_43 rfl rfl ?_
          refine j_iload_n E dX7_wire_44 rfl rfl ?_
          refine j_iast E dX7_wire_45 ml1 mn1 (ix01 (n := 16) h8 (by decide)).1 (ix01 (n := 16) h8 (by decide)).2 (by decide) mk1 ?_
          exact j_vret E dX7_wire_46 rfl (by simp [mWire, mWireT, h8, h36])
        )

set_option maxHeartbeats 1600000 in
set_option maxRecDepth 100000 in
theorem k_X7_reading {l : Launch} {D : va_G} {cy : Nat → ClassId} {X : va_W} {G : pG} {M : pM} {m : Nat → Nat} {p : Int32} {v : UInt32} (hM : wM G m) : jK l yX7_reading wsX7_reading ({ frames := 1, cells := 0, slots := 0, locals := 22 } : Room) D cy X G M [.ref (m 0), .int p, .float v] none X (mRd M m p v) := by
  refine jK_of (own := RX7) (by decide) rfl rfl (Nat.le_of_ble_eq_true rfl) (fun C E hl hD hcy hG => ?_)
  subst hl; subst hD; subst hcy; subst hG
  have hinX7 : ∀ w ∈ u_ws RX7 TX7 34, w ∈ wsX7_reading := by decide +kernel
  have hM0 := hM
  obtain ⟨hm1, hm2, hmt, hinj⟩ := hM
  obtain ⟨mp5, ml5, mk5, mn5⟩ := hmt 5 9 16 rfl
  refine j_aload_n E dX7_reading_0 rfl rfl ?_
  refine j_iload_n E dX7_reading_1 rfl rfl ?_
  refine j_iconst (v := 0) E dX7_reading_2 (by decide) ?_
  refine j_bipush (v := 15) E dX7_reading_3 (by decide) ?_
  refine j_callS1 (n := 3) E (k_X7_in ) dX7_reading_5 gX7_reading_X7_in rfl (by decide +kernel) ⟨rfl, rfl, by decide, by decide⟩ ⟨Nat.zero_le _, Nat.zero_le _⟩ rfl rfl (Nat.le_of_ble_eq_true rfl) rfl ?_
  refine j_if_ne (tgt := 15) E dX7_reading_8 (by decide) (fun h8 => ?_) (fun h8 => ?_)
  · refine j_fload_n E dX7_reading_15 rfl rfl ?_
    refine j_ldcf (v := 3267887104) E (by decide +kernel) dX7_reading_16 ?_
    refine j_fcmp E dX7_reading_18 ?_
    refine j_if_lt (tgt := 29) E dX7_reading_19 (by decide) (fun h19 => ?_) (fun h19 => ?_)
    · refine j_iconst (v := 2) E dX7_reading_29 (by decide) ?_
      refine j_goto (tgt := 34) E dX7_reading_30 (by decide) ?_
      refine j_putI (ci := 7) (k := 0) (Cn := RX7) (T := TX7) (N := 34) E dX7_reading_34 hm1 hm2 rfl (by decide) hinX7 (by decide +kernel) rfl tyX7 tyX7_ok nmX7 rfl rfl rfl rfl ?_
      refine j_aload_n E dX7_reading_37 rfl rfl ?_
      refine j_getI (ci := 7) (k := 0) (Cn := RX7) (T := TX7) (N := 34) E dX7_reading_38 hm1 hm2 rfl (by decide) hinX7 (by decide +kernel) rfl ?_
      try simp only [pI_m hinj, pF_m hinj, pI_2, pF_1, Nat.reduceEqDiff, Nat.reduceLT, Nat.reduceLeDiff, eq_self, ↓reduceIte]
      refine j_if_ne (tgt := 51) E dX7_reading_41 (by decide) (fun h41 => ?_) (fun h41 => ?_)
      · first
        | exact absurd h41 (by decide)
        | exact absurd (by decide) h41
        | (
            exact j_vret E dX7_reading_51 rfl (by simp [mRd, mRdT, h8, h19, h41])
          )
      · first
        | exact absurd h41 (by decide)
        | exact absurd (by decide) h41
        | (
            refine j_aload_n E dX7_reading_44 rfl rfl ?_
            refine j_getP (ci := 7) (k := 5) (Cn := RX7) (T := TX7) (N := 34) E dX7_reading_45 hm1 hm2 rfl (by decide) hinX7 (by decide +kernel) rfl mp5 ?_
            refine j_iload_n E dX7_reading_48 rfl rfl ?_
            refine j_fload_n E dX7_reading_49 rfl rfl ?_
            refine j_fast E dX7_reading_50 ml5 mn5 (ix01 (n := 15) h8 (by decide)).1 (ix01 (n := 15) h8 (by decide)).2 (by decide) mk5 ?_
            exact j_vret E dX7_reading_51 rfl (by simp [mRd, mRdT, h8, h19, h41])
          )
    · refine j_fload_n E dX7_reading_22 rfl rfl ?_
      refine j_ldcf (v := 1128792064) E (by decide +kernel) dX7_reading_23 ?_
      refine j_fcmp E dX7_reading_25 ?_
      refine j_if_le (tgt := 33) E dX7_reading_26 (by decide) (fun h26 => ?_) (fun h26 => ?_)
      · refine j_iconst (v := 0) E dX7_reading_33 (by decide) ?_
        refine j_putI (ci := 7) (k := 0) (Cn := RX7) (T := TX7) (N := 34) E dX7_reading_34 hm1 hm2 rfl (by decide) hinX7 (by decide +kernel) rfl tyX7 tyX7_ok nmX7 rfl rfl rfl rfl ?_
        refine j_aload_n E dX7_reading_37 rfl rfl ?_
        refine j_getI (ci := 7) (k := 0) (Cn := RX7) (T := TX7) (N := 34) E dX7_reading_38 hm1 hm2 rfl (by decide) hinX7 (by decide +kernel) rfl ?_
        try simp only [pI_m hinj, pF_m hinj, pI_2, pF_1, Nat.reduceEqDiff, Nat.reduceLT, Nat.reduceLeDiff, eq_self, ↓reduceIte]
        refine j_if_ne (tgt := 51) E dX7_reading_41 (by decide) (fun h41 => ?_) (fun h41 => ?_)
        · first
          | exact absurd h41 (by decide)
          | exact absurd (by decide) h41
          | (
              exact j_vret E dX7_reading_51 rfl (by simp [mRd, mRdT, h8, h19, h26, h41])
            )
        · first
          | exact absurd h41 (by decide)
          | exact absurd (by decide) h41
          | (
              refine j_aload_n E dX7_reading_44 rfl rfl ?_
              refine j_getP (ci := 7) (k := 5) (Cn := RX7) (T := TX7) (N := 34) E dX7_reading_45 hm1 hm2 rfl (by decide) hinX7 (by decide +kernel) rfl mp5 ?_
              refine j_iload_n E dX7_reading_48 rfl rfl ?_
              refine j_fload_n E dX7_reading_49 rfl rfl ?_
              refine j_fast E dX7_reading_50 ml5 mn5 (ix01 (n := 15) h8 (by decide)).1 (ix01 (n := 15) h8 (by decide)).2 (by decide) mk5 ?_
              exact j_vret E dX7_reading_51 rfl (by simp [mRd, mRdT, h8, h19, h26, h41])
            )
      · refine j_iconst (v := 2) E dX7_reading_29 (by decide) ?_
        refine j_goto (tgt := 34) E dX7_reading_30 (by decide) ?_
        refine j_putI (ci := 7) (k := 0) (Cn := RX7) (T := TX7) (N := 34) E dX7_reading_34 hm1 hm2 rfl (by decide) hinX7 (by decide +kernel) rfl tyX7 tyX7_ok nmX7 rfl rfl rfl rfl ?_
        refine j_aload_n E dX7_reading_37 rfl rfl ?_
        refine j_getI (ci := 7) (k := 0) (Cn := RX7) (T := TX7) (N := 34) E dX7_reading_38 hm1 hm2 rfl (by decide) hinX7 (by decide +kernel) rfl ?_
        try simp only [pI_m hinj, pF_m hinj, pI_2, pF_1, Nat.reduceEqDiff, Nat.reduceLT, Nat.reduceLeDiff, eq_self, ↓reduceIte]
        refine j_if_ne (tgt := 51) E dX7_reading_41 (by decide) (fun h41 => ?_) (fun h41 => ?_)
        · first
          | exact absurd h41 (by decide)
          | exact absurd (by decide) h41
          | (
              exact j_vret E dX7_reading_51 rfl (by simp [mRd, mRdT, h8, h19, h26, h41])
            )
        · first
          | exact absurd h41 (by decide)
          | exact absurd (by decide) h41
          | (
              refine j_aload_n E dX7_reading_44 rfl rfl ?_
              refine j_getP (ci := 7) (k := 5) (Cn := RX7) (T := TX7) (N := 34) E dX7_reading_45 hm1 hm2 rfl (by decide) hinX7 (by decide +kernel) rfl mp5 ?_
              refine j_iload_n E dX7_reading_48 rfl rfl ?_
              refine j_fload_n E dX7_reading_49 rfl rfl ?_
              refine j_fast E dX7_reading_50 ml5 mn5 (ix01 (n := 15) h8 (by decide)).1 (ix01 (n := 15) h8 (by decide)).2 (by decide) mk5 ?_
              exact j_vret E dX7_reading_51 rfl (by simp [mRd, mRdT, h8, h19, h26, h41])
            )
  · refine j_iconst (v := 1) E dX7_reading_11 (by decide) ?_
    refine j_goto (tgt := 34) E dX7_reading_12 (by decide) ?_
    refine j_putI (ci := 7) (k := 0) (Cn := RX7) (T := TX7) (N := 34) E dX7_reading_34 hm1 hm2 rfl (by decide) hinX7 (by decide +kernel) rfl tyX7 tyX7_ok nmX7 rfl rfl rfl rfl ?_
    refine j_aload_n E dX7_reading_37 rfl rfl ?_
    refine j_getI (ci := 7) (k := 0) (Cn := RX7) (T := TX7) (N := 34) E dX7_reading_38 hm1 hm2 rfl (by decide) hinX7 (by decide +kernel) rfl ?_
    try simp only [pI_m hinj, pF_m hinj, pI_2, pF_1, Nat.reduceEqDiff, Nat.reduceLT, Nat.reduceLeDiff, eq_self, ↓reduceIte]
    refine j_if_ne (tgt := 51) E dX7_reading_41 (by decide) (fun h41 => ?_) (fun h41 => ?_)
    · first
      | exact absurd h41 (by decide)
      | exact absurd (by decide) h41
      | (
          exact j_vret E dX7_reading_51 rfl (by simp [mRd, mRdT, h8, h41])
        )
    · first
      | exact absurd h41 (by decide)
      | exact absurd (by decide) h41
      | (
          refine j_aload_n E dX7_reading_44 rfl rfl ?_
          refine j_getP (ci := 7) (k := 5) (Cn := RX7) (T := TX7) (N := 34) E dX7_reading_45 hm1 hm2 rfl (by decide) hinX7 (by decide +kernel) rfl mp5 ?_
          refine j_iload_n E dX7_reading_48 rfl rfl ?_
          refine j_fload_n E dX7_reading_49 rfl rfl ?_
          refine j_fast E dX7_reading_50 ml5 mn5 (ix01 (n := 15) h8 (by decide)).1 (ix01 (n := 15) h8 (by decide)).2 (by decide) mk5 ?_
          exact j_vret E dX7_reading_51 rfl (by simp [mRd, mRdT, h8, h41])
        )

set_option maxHeartbeats 1600000 in
set_option maxRecDepth 100000 in
theorem k_X7_type {l : Launch} {D : va_G} {cy : Nat → ClassId} {X : va_W} {G : pG} {M : pM} {m : Nat → Nat} {c : Int32} (hM : wM G m) (hc : vp_nar .char c = c) (hT : ∃ j : Nat, j ≤ 20 ∧ M.1 (m 0) 23 = nI j) : jK l yX7_type wsX7_type ({ frames := 0, cells := 0, slots := 0, locals := 0 } : Room) D cy X G M [.ref (m 0), .int c] (some (.int (mType M m c).1)) X (mType M m c).2 := by
  refine jK_of (own := RX7) (by decide) rfl rfl (Nat.le_of_ble_eq_true rfl) (fun C E hl hD hcy hG => ?_)
  subst hl; subst hD; subst hcy; subst hG
  have hinX7 : ∀ w ∈ u_ws RX7 TX7 34, w ∈ wsX7_type := by decide +kernel
  have hM0 := hM
  obtain ⟨hm1, hm2, hmt, hinj⟩ := hM
  obtain ⟨mp24, ml24, mk24, mn24⟩ := hmt 24 8 20 rfl
  obtain ⟨j, hj0, ej⟩ := hT
  refine j_aload_n E dX7_type_0 rfl rfl ?_
  refine j_iconst (v := 0) E dX7_type_1 (by decide) ?_
  refine j_putI (ci := 7) (k := 0) (Cn := RX7) (T := TX7) (N := 34) E dX7_type_2 hm1 hm2 rfl (by decide) hinX7 (by decide +kernel) rfl tyX7 tyX7_ok nmX7 rfl rfl rfl rfl ?_
  refine j_iload_n E dX7_type_5 rfl rfl ?_
  refine j_bipush (v := 122) E dX7_type_6 (by decide) ?_
  refine j_icmp_eq (tgt := 77) E dX7_type_8 (by decide) (fun h8 => ?_) (fun h8 => ?_)
  · refine j_iconst (v := 1) E dX7_type_77 (by decide) ?_
    refine j_goto (tgt := 82) E dX7_type_78 (by decide) ?_
    refine j_istore_n E dX7_type_82 rfl (by decide) ?_
    refine j_iload_n E dX7_type_83 rfl rfl ?_
    refine j_if_eq (tgt := 96) E dX7_type_84 (by decide) (fun h84 => ?_) (fun h84 => ?_)
    · first
      | exact absurd h84 (by decide)
      | exact absurd (by decide) h84
      | (
          refine j_iconst (v := 0) E dX7_type_96 (by decide) ?_
          exact j_zret E dX7_type_97 rfl (by simp [mType, mSt, h8, h84]) rfl (by simp [mType, mSt, h8, h84])
        )
    · first
      | exact absurd h84 (by decide)
      | exact absurd (by decide) h84
      | (
          refine j_aload_n E dX7_type_87 rfl rfl ?_
          refine j_getI (ci := 7) (k := 23) (Cn := RX7) (T := TX7) (N := 34) E dX7_type_88 hm1 hm2 rfl (by decide) hinX7 (by decide +kernel) rfl ?_
          try simp only [pI_m hinj, pF_m hinj, pI_2, pF_1, Nat.reduceEqDiff, Nat.reduceLT, Nat.reduceLeDiff, eq_self, ↓reduceIte]
          refine j_bipush (v := 20) E dX7_type_91 (by decide) ?_
          refine j_icmp_ne (tgt := 98) E dX7_type_93 (by decide) (fun h93 => ?_) (fun h93 => ?_)
          · have hj20 : (M.1 (m 0) 23).toNatClampNeg < 20 := by
              rw [ej, nI_clamp (by omega)]; rcases Nat.lt_or_ge j 20 with q | q
              · exact q
              · exact absurd (by rw [ej, show j = 20 by omega]; rfl) h93
            have hj : M.1 (m 0) 23 = nI (M.1 (m 0) 23).toNatClampNeg := by rw [ej, nI_clamp (by omega)]
            refine j_aload_n E dX7_type_98 rfl rfl ?_
            refine j_getP (ci := 7) (k := 24) (Cn := RX7) (T := TX7) (N := 34) E dX7_type_99 hm1 hm2 rfl (by decide) hinX7 (by decide +kernel) rfl mp24 ?_
            refine j_aload_n E dX7_type_102 rfl rfl ?_
            refine j_getI (ci := 7) (k := 23) (Cn := RX7) (T := TX7) (N := 34) E dX7_type_103 hm1 hm2 rfl (by decide) hinX7 (by decide +kernel) rfl ?_
            try simp only [pI_m hinj, pF_m hinj, pI_2, pF_1, Nat.reduceEqDiff, Nat.reduceLT, Nat.reduceLeDiff, eq_self, ↓reduceIte]
            refine j_iload_n E dX7_type_106 rfl rfl ?_
            refine j_cast E dX7_type_107 ml24 mn24 hj hj20 (by decide) mk24 hc ?_
            refine j_aload_n E dX7_type_108 rfl rfl ?_
            refine j_dup E dX7_type_109 rfl ?_
            refine j_getI (ci := 7) (k := 23) (Cn := RX7) (T := TX7) (N := 34) E dX7_type_110 hm1 hm2 rfl (by decide) hinX7 (by decide +kernel) rfl ?_
            try simp only [pI_m hinj, pF_m hinj, pI_2, pF_1, Nat.reduceEqDiff, Nat.reduceLT, Nat.reduceLeDiff, eq_self, ↓reduceIte]
            refine j_iconst (v := 1) E dX7_type_113 (by decide) ?_
            refine j_iadd E dX7_type_114 ?_
            refine j_putI (ci := 7) (k := 23) (Cn := RX7) (T := TX7) (N := 34) E dX7_type_115 hm1 hm2 rfl (by decide) hinX7 (by decide +kernel) rfl tyX7 tyX7_ok nmX7 rfl rfl rfl rfl ?_
            refine j_iconst (v := 1) E dX7_type_118 (by decide) ?_
            exact j_zret E dX7_type_119 rfl (by simp [mType, mSt, h8, h84, h93]) rfl (by simp [mType, mSt, h8, h84, h93])
          · refine j_iconst (v := 0) E dX7_type_96 (by decide) ?_
            exact j_zret E dX7_type_97 rfl (by simp [mType, mSt, h8, h84, h93]) rfl (by simp [mType, mSt, h8, h84, h93])
        )
  · refine j_iload_n E dX7_type_11 rfl rfl ?_
    refine j_bipush (v := 119) E dX7_type_12 (by decide) ?_
    refine j_icmp_eq (tgt := 77) E dX7_type_14 (by decide) (fun h14 => ?_) (fun h14 => ?_)
    · refine j_iconst (v := 1) E dX7_type_77 (by decide) ?_
      refine j_goto (tgt := 82) E dX7_type_78 (by decide) ?_
      refine j_istore_n E dX7_type_82 rfl (by decide) ?_
      refine j_iload_n E dX7_type_83 rfl rfl ?_
      refine j_if_eq (tgt := 96) E dX7_type_84 (by decide) (fun h84 => ?_) (fun h84 => ?_)
      · first
        | exact absurd h84 (by decide)
        | exact absurd (by decide) h84
        | (
            refine j_iconst (v := 0) E dX7_type_96 (by decide) ?_
            exact j_zret E dX7_type_97 rfl (by simp [mType, mSt, h8, h14, h84]) rfl (by simp [mType, mSt, h8, h14, h84])
          )
      · first
        | exact absurd h84 (by decide)
        | exact absurd (by decide) h84
        | (
            refine j_aload_n E dX7_type_87 rfl rfl ?_
            refine j_getI (ci := 7) (k := 23) (Cn := RX7) (T := TX7) (N := 34) E dX7_type_88 hm1 hm2 rfl (by decide) hinX7 (by decide +kernel) rfl ?_
            try simp only [pI_m hinj, pF_m hinj, pI_2, pF_1, Nat.reduceEqDiff, Nat.reduceLT, Nat.reduceLeDiff, eq_self, ↓reduceIte]
            refine j_bipush (v := 20) E dX7_type_91 (by decide) ?_
            refine j_icmp_ne (tgt := 98) E dX7_type_93 (by decide) (fun h93 => ?_) (fun h93 => ?_)
            · have hj20 : (M.1 (m 0) 23).toNatClampNeg < 20 := by
                rw [ej, nI_clamp (by omega)]; rcases Nat.lt_or_ge j 20 with q | q
                · exact q
                · exact absurd (by rw [ej, show j = 20 by omega]; rfl) h93
              have hj : M.1 (m 0) 23 = nI (M.1 (m 0) 23).toNatClampNeg := by rw [ej, nI_clamp (by omega)]
              refine j_aload_n E dX7_type_98 rfl rfl ?_
              refine j_getP (ci := 7) (k := 24) (Cn := RX7) (T := TX7) (N := 34) E dX7_type_99 hm1 hm2 rfl (by decide) hinX7 (by decide +kernel) rfl mp24 ?_
              refine j_aload_n E dX7_type_102 rfl rfl ?_
              refine j_getI (ci := 7) (k := 23) (Cn := RX7) (T := TX7) (N := 34) E dX7_type_103 hm1 hm2 rfl (by decide) hinX7 (by decide +kernel) rfl ?_
              try simp only [pI_m hinj, pF_m hinj, pI_2, pF_1, Nat.reduceEqDiff, Nat.reduceLT, Nat.reduceLeDiff, eq_self, ↓reduceIte]
              refine j_iload_n E dX7_type_106 rfl rfl ?_
              refine j_cast E dX7_type_107 ml24 mn24 hj hj20 (by decide) mk24 hc ?_
              refine j_aload_n E dX7_type_108 rfl rfl ?_
              refine j_dup E dX7_type_109 rfl ?_
              refine j_getI (ci := 7) (k := 23) (Cn := RX7) (T := TX7) (N := 34) E dX7_type_110 hm1 hm2 rfl (by decide) hinX7 (by decide +kernel) rfl ?_
              try simp only [pI_m hinj, pF_m hinj, pI_2, pF_1, Nat.reduceEqDiff, Nat.reduceLT, Nat.reduceLeDiff, eq_self, ↓reduceIte]
              refine j_iconst (v := 1) E dX7_type_113 (by decide) ?_
              refine j_iadd E dX7_type_114 ?_
              refine j_putI (ci := 7) (k := 23) (Cn := RX7) (T := TX7) (N := 34) E dX7_type_115 hm1 hm2 rfl (by decide) hinX7 (by decide +kernel) rfl tyX7 tyX7_ok nmX7 rfl rfl rfl rfl ?_
              refine j_iconst (v := 1) E dX7_type_118 (by decide) ?_
              exact j_zret E dX7_type_119 rfl (by simp [mType, mSt, h8, h14, h84, h93]) rfl (by simp [mType, mSt, h8, h14, h84, h93])
            · refine j_iconst (v := 0) E dX7_type_96 (by decide) ?_
              exact j_zret E dX7_type_97 rfl (by simp [mType, mSt, h8, h14, h84, h93]) rfl (by simp [mType, mSt, h8, h14, h84, h93])
          )
    · refine j_iload_n E dX7_type_17 rfl rfl ?_
      refine j_bipush (v := 102) E dX7_type_18 (by decide) ?_
      refine j_icmp_eq (tgt := 77) E dX7_type_20 (by decide) (fun h20 => ?_) (fun h20 => ?_)
      · refine j_iconst (v := 1) E dX7_type_77 (by decide) ?_
        refine j_goto (tgt := 82) E dX7_type_78 (by decide) ?_
        refine j_istore_n E dX7_type_82 rfl (by decide) ?_
        refine j_iload_n E dX7_type_83 rfl rfl ?_
        refine j_if_eq (tgt := 96) E dX7_type_84 (by decide) (fun h84 => ?_) (fun h84 => ?_)
        · first
          | exact absurd h84 (by decide)
          | exact absurd (by decide) h84
          | (
              refine j_iconst (v := 0) E dX7_type_96 (by decide) ?_
              exact j_zret E dX7_type_97 rfl (by simp [mType, mSt, h8, h14, h20, h84]) rfl (by simp [mType, mSt, h8, h14, h20, h84])
            )
        · first
          | exact absurd h84 (by decide)
          | exact absurd (by decide) h84
          | (
              refine j_aload_n E dX7_type_87 rfl rfl ?_
              refine j_getI (ci := 7) (k := 23) (Cn := RX7) (T := TX7) (N := 34) E dX7_type_88 hm1 hm2 rfl (by decide) hinX7 (by decide +kernel) rfl ?_
              try simp only [pI_m hinj, pF_m hinj, pI_2, pF_1, Nat.reduceEqDiff, Nat.reduceLT, Nat.reduceLeDiff, eq_self, ↓reduceIte]
              refine j_bipush (v := 20) E dX7_type_91 (by decide) ?_
              refine j_icmp_ne (tgt := 98) E dX7_type_93 (by decide) (fun h93 => ?_) (fun h93 => ?_)
              · have hj20 : (M.1 (m 0) 23).toNatClampNeg < 20 := by
                  rw [ej, nI_clamp (by omega)]; rcases Nat.lt_or_ge j 20 with q | q
                  · exact q
                  · exact absurd (by rw [ej, show j = 20 by omega]; rfl) h93
                have hj : M.1 (m 0) 23 = nI (M.1 (m 0) 23).toNatClampNeg := by rw [ej, nI_clamp (by omega)]
                refine j_aload_n E dX7_type_98 rfl rfl ?_
                refine j_getP (ci := 7) (k := 24) (Cn := RX7) (T := TX7) (N := 34) E dX7_type_99 hm1 hm2 rfl (by decide) hinX7 (by decide +kernel) rfl mp24 ?_
                refine j_aload_n E dX7_type_102 rfl rfl ?_
                refine j_getI (ci := 7) (k := 23) (Cn := RX7) (T := TX7) (N := 34) E dX7_type_103 hm1 hm2 rfl (by decide) hinX7 (by decide +kernel) rfl ?_
                try simp only [pI_m hinj, pF_m hinj, pI_2, pF_1, Nat.reduceEqDiff, Nat.reduceLT, Nat.reduceLeDiff, eq_self, ↓reduceIte]
                refine j_iload_n E dX7_type_106 rfl rfl ?_
                refine j_cast E dX7_type_107 ml24 mn24 hj hj20 (by decide) mk24 hc ?_
                refine j_aload_n E dX7_type_108 rfl rfl ?_
                refine j_dup E dX7_type_109 rfl ?_
                refine j_getI (ci := 7) (k := 23) (Cn := RX7) (T := TX7) (N := 34) E dX7_type_110 hm1 hm2 rfl (by decide) hinX7 (by decide +kernel) rfl ?_
                try simp only [pI_m hinj, pF_m hinj, pI_2, pF_1, Nat.reduceEqDiff, Nat.reduceLT, Nat.reduceLeDiff, eq_self, ↓reduceIte]
                refine j_iconst (v := 1) E dX7_type_113 (by decide) ?_
                refine j_iadd E dX7_type_114 ?_
                refine j_putI (ci := 7) (k := 23) (Cn := RX7) (T := TX7) (N := 34) E dX7_type_115 hm1 hm2 rfl (by decide) hinX7 (by decide +kernel) rfl tyX7 tyX7_ok nmX7 rfl rfl rfl rfl ?_
                refine j_iconst (v := 1) E dX7_type_118 (by decide) ?_
                exact j_zret E dX7_type_119 rfl (by simp [mType, mSt, h8, h14, h20, h84, h93]) rfl (by simp [mType, mSt, h8, h14, h20, h84, h93])
              · refine j_iconst (v := 0) E dX7_type_96 (by decide) ?_
                exact j_zret E dX7_type_97 rfl (by simp [mType, mSt, h8, h14, h20, h84, h93]) rfl (by simp [mType, mSt, h8, h14, h20, h84, h93])
            )
      · refine j_iload_n E dX7_type_23 rfl rfl ?_
        refine j_bipush (v := 33) E dX7_type_24 (by decide) ?_
        refine j_icmp_eq (tgt := 77) E dX7_type_26 (by decide) (fun h26 => ?_) (fun h26 => ?_)
        · refine j_iconst (v := 1) E dX7_type_77 (by decide) ?_
          refine j_goto (tgt := 82) E dX7_type_78 (by decide) ?_
          refine j_istore_n E dX7_type_82 rfl (by decide) ?_
          refine j_iload_n E dX7_type_83 rfl rfl ?_
          refine j_if_eq (tgt := 96) E dX7_type_84 (by decide) (fun h84 => ?_) (fun h84 => ?_)
          · first
            | exact absurd h84 (by decide)
            | exact absurd (by decide) h84
            | (
                refine j_iconst (v := 0) E dX7_type_96 (by decide) ?_
                exact j_zret E dX7_type_97 rfl (by simp [mType, mSt, h8, h14, h20, h26, h84]) rfl (by simp [mType, mSt, h8, h14, h20, h26, h84])
              )
          · first
            | exact absurd h84 (by decide)
            | exact absurd (by decide) h84
            | (
                refine j_aload_n E dX7_type_87 rfl rfl ?_
                refine j_getI (ci := 7) (k := 23) (Cn := RX7) (T := TX7) (N := 34) E dX7_type_88 hm1 hm2 rfl (by decide) hinX7 (by decide +kernel) rfl ?_
                try simp only [pI_m hinj, pF_m hinj, pI_2, pF_1, Nat.reduceEqDiff, Nat.reduceLT, Nat.reduceLeDiff, eq_self, ↓reduceIte]
                refine j_bipush (v := 20) E dX7_type_91 (by decide) ?_
                refine j_icmp_ne (tgt := 98) E dX7_type_93 (by decide) (fun h93 => ?_) (fun h93 => ?_)
                · have hj20 : (M.1 (m 0) 23).toNatClampNeg < 20 := by
                    rw [ej, nI_clamp (by omega)]; rcases Nat.lt_or_ge j 20 with q | q
                    · exact q
                    · exact absurd (by rw [ej, show j = 20 by omega]; rfl) h93
                  have hj : M.1 (m 0) 23 = nI (M.1 (m 0) 23).toNatClampNeg := by rw [ej, nI_clamp (by omega)]
                  refine j_aload_n E dX7_type_98 rfl rfl ?_
                  refine j_getP (ci := 7) (k := 24) (Cn := RX7) (T := TX7) (N := 34) E dX7_type_99 hm1 hm2 rfl (by decide) hinX7 (by decide +kernel) rfl mp24 ?_
                  refine j_aload_n E dX7_type_102 rfl rfl ?_
                  refine j_getI (ci := 7) (k := 23) (Cn := RX7) (T := TX7) (N := 34) E dX7_type_103 hm1 hm2 rfl (by decide) hinX7 (by decide +kernel) rfl ?_
                  try simp only [pI_m hinj, pF_m hinj, pI_2, pF_1, Nat.reduceEqDiff, Nat.reduceLT, Nat.reduceLeDiff, eq_self, ↓reduceIte]
                  refine j_iload_n E dX7_type_106 rfl rfl ?_
                  refine j_cast E dX7_type_107 ml24 mn24 hj hj20 (by decide) mk24 hc ?_
                  refine j_aload_n E dX7_type_108 rfl rfl ?_
                  refine j_dup E dX7_type_109 rfl ?_
                  refine j_getI (ci := 7) (k := 23) (Cn := RX7) (T := TX7) (N := 34) E dX7_type_110 hm1 hm2 rfl (by decide) hinX7 (by decide +kernel) rfl ?_
                  try simp only [pI_m hinj, pF_m hinj, pI_2, pF_1, Nat.reduceEqDiff, Nat.reduceLT, Nat.reduceLeDiff, eq_self, ↓reduceIte]
                  refine j_iconst (v := 1) E dX7_type_113 (by decide) ?_
                  refine j_iadd E dX7_type_114 ?_
                  refine j_putI (ci := 7) (k := 23) (Cn := RX7) (T := TX7) (N := 34) E dX7_type_115 hm1 hm2 rfl (by decide) hinX7 (by decide +kernel) rfl tyX7 tyX7_ok nmX7 rfl rfl rfl rfl ?_
                  refine j_iconst (v := 1) E dX7_type_118 (by decide) ?_
                  exact j_zret E dX7_type_119 rfl (by simp [mType, mSt, h8, h14, h20, h26, h84, h93]) rfl (by simp [mType, mSt, h8, h14, h20, h26, h84, h93])
                · refine j_iconst (v := 0) E dX7_type_96 (by decide) ?_
                  exact j_zret E dX7_type_97 rfl (by simp [mType, mSt, h8, h14, h20, h26, h84, h93]) rfl (by simp [mType, mSt, h8, h14, h20, h26, h84, h93])
              )
        · refine j_iload_n E dX7_type_29 rfl rfl ?_
          refine j_bipush (v := 40) E dX7_type_30 (by decide) ?_
          refine j_icmp_eq (tgt := 77) E dX7_type_32 (by decide) (fun h32 => ?_) (fun h32 => ?_)
          · refine j_iconst (v := 1) E dX7_type_77 (by decide) ?_
            refine j_goto (tgt := 82) E dX7_type_78 (by decide) ?_
            refine j_istore_n E dX7_type_82 rfl (by decide) ?_
            refine j_iload_n E dX7_type_83 rfl rfl ?_
            refine j_if_eq (tgt := 96) E dX7_type_84 (by decide) (fun h84 => ?_) (fun h84 => ?_)
            · first
              | exact absurd h84 (by decide)
              | exact absurd (by decide) h84
              | (
                  refine j_iconst (v := 0) E dX7_type_96 (by decide) ?_
                  exact j_zret E dX7_type_97 rfl (by simp [mType, mSt, h8, h14, h20, h26, h32, h84]) rfl (by simp [mType, mSt, h8, h14, h20, h26, h32, h84])
                )
            · first
              | exact absurd h84 (by decide)
              | exact absurd (by decide) h84
              | (
                  refine j_aload_n E dX7_type_87 rfl rfl ?_
                  refine j_getI (ci := 7) (k := 23) (Cn := RX7) (T := TX7) (N := 34) E dX7_type_88 hm1 hm2 rfl (by decide) hinX7 (by decide +kernel) rfl ?_
                  try simp only [pI_m hinj, pF_m hinj, pI_2, pF_1, Nat.reduceEqDiff, Nat.reduceLT, Nat.reduceLeDiff, eq_self, ↓reduceIte]
                  refine j_bipush (v := 20) E dX7_type_91 (by decide) ?_
                  refine j_icmp_ne (tgt := 98) E dX7_type_93 (by decide) (fun h93 => ?_) (fun h93 => ?_)
                  · have hj20 : (M.1 (m 0) 23).toNatClampNeg < 20 := by
                      rw [ej, nI_clamp (by omega)]; rcases Nat.lt_or_ge j 20 with q | q
                      · exact q
                      · exact absurd (by rw [ej, show j = 20 by omega]; rfl) h93
                    have hj : M.1 (m 0) 23 = nI (M.1 (m 0) 23).toNatClampNeg := by rw [ej, nI_clamp (by omega)]
                    refine j_aload_n E dX7_type_98 rfl rfl ?_
                    refine j_getP (ci := 7) (k := 24) (Cn := RX7) (T := TX7) (N := 34) E dX7_type_99 hm1 hm2 rfl (by decide) hinX7 (by decide +kernel) rfl mp24 ?_
                    refine j_aload_n E dX7_type_102 rfl rfl ?_
                    refine j_getI (ci := 7) (k := 23) (Cn := RX7) (T := TX7) (N := 34) E dX7_type_103 hm1 hm2 rfl (by decide) hinX7 (by decide +kernel) rfl ?_
                    try simp only [pI_m hinj, pF_m hinj, pI_2, pF_1, Nat.reduceEqDiff, Nat.reduceLT, Nat.reduceLeDiff, eq_self, ↓reduceIte]
                    refine j_iload_n E dX7_type_106 rfl rfl ?_
                    refine j_cast E dX7_type_107 ml24 mn24 hj hj20 (by decide) mk24 hc ?_
                    refine j_aload_n E dX7_type_108 rfl rfl ?_
                    refine j_dup E dX7_type_109 rfl ?_
                    refine j_getI (ci := 7) (k := 23) (Cn := RX7) (T := TX7) (N := 34) E dX7_type_110 hm1 hm2 rfl (by decide) hinX7 (by decide +kernel) rfl ?_
                    try simp only [pI_m hinj, pF_m hinj, pI_2, pF_1, Nat.reduceEqDiff, Nat.reduceLT, Nat.reduceLeDiff, eq_self, ↓reduceIte]
                    refine j_iconst (v := 1) E dX7_type_113 (by decide) ?_
                    refine j_iadd E dX7_type_114 ?_
                    refine j_putI (ci := 7) (k := 23) (Cn := RX7) (T := TX7) (N := 34) E dX7_type_115 hm1 hm2 rfl (by decide) hinX7 (by decide +kernel) rfl tyX7 tyX7_ok nmX7 rfl rfl rfl rfl ?_
                    refine j_iconst (v := 1) E dX7_type_118 (by decide) ?_
                    exact j_zret E dX7_type_119 rfl (by simp [mType, mSt, h8, h14, h20, h26, h32, h84, h93]) rfl (by simp [mType, mSt, h8, h14, h20, h26, h32, h84, h93])
                  · refine j_iconst (v := 0) E dX7_type_96 (by decide) ?_
                    exact j_zret E dX7_type_97 rfl (by simp [mType, mSt, h8, h14, h20, h26, h32, h84, h93]) rfl (by simp [mType, mSt, h8, h14, h20, h26, h32, h84, h93])
                )
          · refine j_iload_n E dX7_type_35 rfl rfl ?_
            refine j_bipush (v := 41) E dX7_type_36 (by decide) ?_
            refine j_icmp_eq (tgt := 77) E dX7_type_38 (by decide) (fun h38 => ?_) (fun h38 => ?_)
            · refine j_iconst (v := 1) E dX7_type_77 (by decide) ?_
              refine j_goto (tgt := 82) E dX7_type_78 (by decide) ?_
              refine j_istore_n E dX7_type_82 rfl (by decide) ?_
              refine j_iload_n E dX7_type_83 rfl rfl ?_
              refine j_if_eq (tgt := 96) E dX7_type_84 (by decide) (fun h84 => ?_) (fun h84 => ?_)
              · first
                | exact absurd h84 (by decide)
                | exact absurd (by decide) h84
                | (
                    refine j_iconst (v := 0) E dX7_type_96 (by decide) ?_
                    exact j_zret E dX7_type_97 rfl (by simp [mType, mSt, h8, h14, h20, h26, h32, h38, h84]) rfl (by simp [mType, mSt, h8, h14, h20, h26, h32, h38, h84])
                  )
              · first
                | exact absurd h84 (by decide)
                | exact absurd (by decide) h84
                | (
                    refine j_aload_n E dX7_type_87 rfl rfl ?_
                    refine j_getI (ci := 7) (k := 23) (Cn := RX7) (T := TX7) (N := 34) E dX7_type_88 hm1 hm2 rfl (by decide) hinX7 (by decide +kernel) rfl ?_
                    try simp only [pI_m hinj, pF_m hinj, pI_2, pF_1, Nat.reduceEqDiff, Nat.reduceLT, Nat.reduceLeDiff, eq_self, ↓reduceIte]
                    refine j_bipush (v := 20) E dX7_type_91 (by decide) ?_
                    refine j_icmp_ne (tgt := 98) E dX7_type_93 (by decide) (fun h93 => ?_) (fun h93 => ?_)
                    · have hj20 : (M.1 (m 0) 23).toNatClampNeg < 20 := by
                        rw [ej, nI_clamp (by omega)]; rcases Nat.lt_or_ge j 20 with q | q
                        · exact q
                        · exact absurd (by rw [ej, show j = 20 by omega]; rfl) h93
                      have hj : M.1 (m 0) 23 = nI (M.1 (m 0) 23).toNatClampNeg := by rw [ej, nI_clamp (by omega)]
                      refine j_aload_n E dX7_type_98 rfl rfl ?_
                      refine j_getP (ci := 7) (k := 24) (Cn := RX7) (T := TX7) (N := 34) E dX7_type_99 hm1 hm2 rfl (by decide) hinX7 (by decide +kernel) rfl mp24 ?_
                      refine j_aload_n E dX7_type_102 rfl rfl ?_
                      refine j_getI (ci := 7) (k := 23) (Cn := RX7) (T := TX7) (N := 34) E dX7_type_103 hm1 hm2 rfl (by decide) hinX7 (by decide +kernel) rfl ?_
                      try simp only [pI_m hinj, pF_m hinj, pI_2, pF_1, Nat.reduceEqDiff, Nat.reduceLT, Nat.reduceLeDiff, eq_self, ↓reduceIte]
                      refine j_iload_n E dX7_type_106 rfl rfl ?_
                      refine j_cast E dX7_type_107 ml24 mn24 hj hj20 (by decide) mk24 hc ?_
                      refine j_aload_n E dX7_type_108 rfl rfl ?_
                      refine j_dup E dX7_type_109 rfl ?_
                      refine j_getI (ci := 7) (k := 23) (Cn := RX7) (T := TX7) (N := 34) E dX7_type_110 hm1 hm2 rfl (by decide) hinX7 (by decide +kernel) rfl ?_
                      try simp only [pI_m hinj, pF_m hinj, pI_2, pF_1, Nat.reduceEqDiff, Nat.reduceLT, Nat.reduceLeDiff, eq_self, ↓reduceIte]
                      refine j_iconst (v := 1) E dX7_type_113 (by decide) ?_
                      refine j_iadd E dX7_type_114 ?_
                      refine j_putI (ci := 7) (k := 23) (Cn := RX7) (T := TX7) (N := 34) E dX7_type_115 hm1 hm2 rfl (by decide) hinX7 (by decide +kernel) rfl tyX7 tyX7_ok nmX7 rfl rfl rfl rfl ?_
                      refine j_iconst (v := 1) E dX7_type_118 (by decide) ?_
                      exact j_zret E dX7_type_119 rfl (by simp [mType, mSt, h8, h14, h20, h26, h32, h38, h84, h93]) rfl (by simp [mType, mSt, h8, h14, h20, h26, h32, h38, h84, h93])
                    · refine j_iconst (v := 0) E dX7_type_96 (by decide) ?_
                      exact j_zret E dX7_type_97 rfl (by simp [mType, mSt, h8, h14, h20, h26, h32, h38, h84, h93]) rfl (by simp [mType, mSt, h8, h14, h20, h26, h32, h38, h84, h93])
                  )
            · refine j_iload_n E dX7_type_41 rfl rfl ?_
              refine j_bipush (v := 38) E dX7_type_42 (by decide) ?_
              refine j_icmp_eq (tgt := 77) E dX7_type_44 (by decide) (fun h44 => ?_) (fun h44 => ?_)
              · refine j_iconst (v := 1) E dX7_type_77 (by decide) ?_
                refine j_goto (tgt := 82) E dX7_type_78 (by decide) ?_
                refine j_istore_n E dX7_type_82 rfl (by decide) ?_
                refine j_iload_n E dX7_type_83 rfl rfl ?_
                refine j_if_eq (tgt := 96) E dX7_type_84 (by decide) (fun h84 => ?_) (fun h84 => ?_)
                · first
                  | exact absurd h84 (by decide)
                  | exact absurd (by decide) h84
                  | (
                      refine j_iconst (v := 0) E dX7_type_96 (by decide) ?_
                      exact j_zret E dX7_type_97 rfl (by simp [mType, mSt, h8, h14, h20, h26, h32, h38, h44, h84]) rfl (by simp [mType, mSt, h8, h14, h20, h26, h32, h38, h44, h84])
                    )
                · first
                  | exact absurd h84 (by decide)
                  | exact absurd (by decide) h84
                  | (
                      refine j_aload_n E dX7_type_87 rfl rfl ?_
                      refine j_getI (ci := 7) (k := 23) (Cn := RX7) (T := TX7) (N := 34) E dX7_type_88 hm1 hm2 rfl (by decide) hinX7 (by decide +kernel) rfl ?_
                      try simp only [pI_m hinj, pF_m hinj, pI_2, pF_1, Nat.reduceEqDiff, Nat.reduceLT, Nat.reduceLeDiff, eq_self, ↓reduceIte]
                      refine j_bipush (v := 20) E dX7_type_91 (by decide) ?_
                      refine j_icmp_ne (tgt := 98) E dX7_type_93 (by decide) (fun h93 => ?_) (fun h93 => ?_)
                      · have hj20 : (M.1 (m 0) 23).toNatClampNeg < 20 := by
                          rw [ej, nI_clamp (by omega)]; rcases Nat.lt_or_ge j 20 with q | q
                          · exact q
                          · exact absurd (by rw [ej, show j = 20 by omega]; rfl) h93
                        have hj : M.1 (m 0) 23 = nI (M.1 (m 0) 23).toNatClampNeg := by rw [ej, nI_clamp (by omega)]
                        refine j_aload_n E dX7_type_98 rfl rfl ?_
                        refine j_getP (ci := 7) (k := 24) (Cn := RX7) (T := TX7) (N := 34) E dX7_type_99 hm1 hm2 rfl (by decide) hinX7 (by decide +kernel) rfl mp24 ?_
                        refine j_aload_n E dX7_type_102 rfl rfl ?_
                        refine j_getI (ci := 7) (k := 23) (Cn := RX7) (T := TX7) (N := 34) E dX7_type_103 hm1 hm2 rfl (by decide) hinX7 (by decide +kernel) rfl ?_
                        try simp only [pI_m hinj, pF_m hinj, pI_2, pF_1, Nat.reduceEqDiff, Nat.reduceLT, Nat.reduceLeDiff, eq_self, ↓reduceIte]
                        refine j_iload_n E dX7_type_106 rfl rfl ?_
                        refine j_cast E dX7_type_107 ml24 mn24 hj hj20 (by decide) mk24 hc ?_
                        refine j_aload_n E dX7_type_108 rfl rfl ?_
                        refine j_dup E dX7_type_109 rfl ?_
                        refine j_getI (ci := 7) (k := 23) (Cn := RX7) (T := TX7) (N := 34) E dX7_type_110 hm1 hm2 rfl (by decide) hinX7 (by decide +kernel) rfl ?_
                        try simp only [pI_m hinj, pF_m hinj, pI_2, pF_1, Nat.reduceEqDiff, Nat.reduceLT, Nat.reduceLeDiff, eq_self, ↓reduceIte]
                        refine j_iconst (v := 1) E dX7_type_113 (by decide) ?_
                        refine j_iadd E dX7_type_114 ?_
                        refine j_putI (ci := 7) (k := 23) (Cn := RX7) (T := TX7) (N := 34) E dX7_type_115 hm1 hm2 rfl (by decide) hinX7 (by decide +kernel) rfl tyX7 tyX7_ok nmX7 rfl rfl rfl rfl ?_
                        refine j_iconst (v := 1) E dX7_type_118 (by decide) ?_
                        exact j_zret E dX7_type_119 rfl (by simp [mType, mSt, h8, h14, h20, h26, h32, h38, h44, h84, h93]) rfl (by simp [mType, mSt, h8, h14, h20, h26, h32, h38, h44, h84, h93])
                      · refine j_iconst (v := 0) E dX7_type_96 (by decide) ?_
                        exact j_zret E dX7_type_97 rfl (by simp [mType, mSt, h8, h14, h20, h26, h32, h38, h44, h84, h93]) rfl (by simp [mType, mSt, h8, h14, h20, h26, h32, h38, h44, h84, h93])
                    )
              · refine j_iload_n E dX7_type_47 rfl rfl ?_
                refine j_bipush (v := 124) E dX7_type_48 (by decide) ?_
                refine j_icmp_eq (tgt := 77) E dX7_type_50 (by decide) (fun h50 => ?_) (fun h50 => ?_)
                · refine j_iconst (v := 1) E dX7_type_77 (by decide) ?_
                  refine j_goto (tgt := 82) E dX7_type_78 (by decide) ?_
                  refine j_istore_n E dX7_type_82 rfl (by decide) ?_
                  refine j_iload_n E dX7_type_83 rfl rfl ?_
                  refine j_if_eq (tgt := 96) E dX7_type_84 (by decide) (fun h84 => ?_) (fun h84 => ?_)
                  · first
                    | exact absurd h84 (by decide)
                    | exact absurd (by decide) h84
                    | (
                        refine j_iconst (v := 0) E dX7_type_96 (by decide) ?_
                        exact j_zret E dX7_type_97 rfl (by simp [mType, mSt, h8, h14, h20, h26, h32, h38, h44, h50, h84]) rfl (by simp [mType, mSt, h8, h14, h20, h26, h32, h38, h44, h50, h84])
                      )
                  · first
                    | exact absurd h84 (by decide)
                    | exact absurd (by decide) h84
                    | (
                        refine j_aload_n E dX7_type_87 rfl rfl ?_
                        refine j_getI (ci := 7) (k := 23) (Cn := RX7) (T := TX7) (N := 34) E dX7_type_88 hm1 hm2 rfl (by decide) hinX7 (by decide +kernel) rfl ?_
                        try simp only [pI_m hinj, pF_m hinj, pI_2, pF_1, Nat.reduceEqDiff, Nat.reduceLT, Nat.reduceLeDiff, eq_self, ↓reduceIte]
                        refine j_bipush (v := 20) E dX7_type_91 (by decide) ?_
                        refine j_icmp_ne (tgt := 98) E dX7_type_93 (by decide) (fun h93 => ?_) (fun h93 => ?_)
                        · have hj20 : (M.1 (m 0) 23).toNatClampNeg < 20 := by
                            rw [ej, nI_clamp (by omega)]; rcases Nat.lt_or_ge j 20 with q | q
                            · exact q
                            · exact absurd (by rw [ej, show j = 20 by omega]; rfl) h93
                          have hj : M.1 (m 0) 23 = nI (M.1 (m 0) 23).toNatClampNeg := by rw [ej, nI_clamp (by omega)]
                          refine j_aload_n E dX7_type_98 rfl rfl ?_
                          refine j_getP (ci := 7) (k := 24) (Cn := RX7) (T := TX7) (N := 34) E dX7_type_99 hm1 hm2 rfl (by decide) hinX7 (by decide +kernel) rfl mp24 ?_
                          refine j_aload_n E dX7_type_102 rfl rfl ?_
                          refine j_getI (ci := 7) (k := 23) (Cn := RX7) (T := TX7) (N := 34) E dX7_type_103 hm1 hm2 rfl (by decide) hinX7 (by decide +kernel) rfl ?_
                          try simp only [pI_m hinj, pF_m hinj, pI_2, pF_1, Nat.reduceEqDiff, Nat.reduceLT, Nat.reduceLeDiff, eq_self, ↓reduceIte]
                          refine j_iload_n E dX7_type_106 rfl rfl ?_
                          refine j_cast E dX7_type_107 ml24 mn24 hj hj20 (by decide) mk24 hc ?_
                          refine j_aload_n E dX7_type_108 rfl rfl ?_
                          refine j_dup E dX7_type_109 rfl ?_
                          refine j_getI (ci := 7) (k := 23) (Cn := RX7) (T := TX7) (N := 34) E dX7_type_110 hm1 hm2 rfl (by decide) hinX7 (by decide +kernel) rfl ?_
                          try simp only [pI_m hinj, pF_m hinj, pI_2, pF_1, Nat.reduceEqDiff, Nat.reduceLT, Nat.reduceLeDiff, eq_self, ↓reduceIte]
                          refine j_iconst (v := 1) E dX7_type_113 (by decide) ?_
                          refine j_iadd E dX7_type_114 ?_
                          refine j_putI (ci := 7) (k := 23) (Cn := RX7) (T := TX7) (N := 34) E dX7_type_115 hm1 hm2 rfl (by decide) hinX7 (by decide +kernel) rfl tyX7 tyX7_ok nmX7 rfl rfl rfl rfl ?_
                          refine j_iconst (v := 1) E dX7_type_118 (by decide) ?_
                          exact j_zret E dX7_type_119 rfl (by simp [mType, mSt, h8, h14, h20, h26, h32, h38, h44, h50, h84, h93]) rfl (by simp [mType, mSt, h8, h14, h20, h26, h32, h38, h44, h50, h84, h93])
                        · refine j_iconst (v := 0) E dX7_type_96 (by decide) ?_
                          exact j_zret E dX7_type_97 rfl (by simp [mType, mSt, h8, h14, h20, h26, h32, h38, h44, h50, h84, h93]) rfl (by simp [mType, mSt, h8, h14, h20, h26, h32, h38, h44, h50, h84, h93])
                      )
                · refine j_iload_n E dX7_type_53 rfl rfl ?_
                  refine j_bipush (v := 62) E dX7_type_54 (by decide) ?_
                  refine j_icmp_eq (tgt := 77) E dX7_type_56 (by decide) (fun h56 => ?_) (fun h56 => ?_)
                  · refine j_iconst (v := 1) E dX7_type_77 (by decide) ?_
                    refine j_goto (tgt := 82) E dX7_type_78 (by decide) ?_
                    refine j_istore_n E dX7_type_82 rfl (by decide) ?_
                    refine j_iload_n E dX7_type_83 rfl rfl ?_
                    refine j_if_eq (tgt := 96) E dX7_type_84 (by decide) (fun h84 => ?_) (fun h84 => ?_)
                    · first
                      | exact absurd h84 (by decide)
                      | exact absurd (by decide) h84
                      | (
                          refine j_iconst (v := 0) E dX7_type_96 (by decide) ?_
                          exact j_zret E dX7_type_97 rfl (by simp [mType, mSt, h8, h14, h20, h26, h32, h38, h44, h50, h56, h84]) rfl (by simp [mType, mSt, h8, h14, h20, h26, h32, h38, h44, h50, h56, h84])
                        )
                    · first
                      | exact absurd h84 (by decide)
                      | exact absurd (by decide) h84
                      | (
                          refine j_aload_n E dX7_type_87 rfl rfl ?_
                          refine j_getI (ci := 7) (k := 23) (Cn := RX7) (T := TX7) (N := 34) E dX7_type_88 hm1 hm2 rfl (by decide) hinX7 (by decide +kernel) rfl ?_
                          try simp only [pI_m hinj, pF_m hinj, pI_2, pF_1, Nat.reduceEqDiff, Nat.reduceLT, Nat.reduceLeDiff, eq_self, ↓reduceIte]
                          refine j_bipush (v := 20) E dX7_type_91 (by decide) ?_
                          refine j_icmp_ne (tgt := 98) E dX7_type_93 (by decide) (fun h93 => ?_) (fun h93 => ?_)
                          · have hj20 : (M.1 (m 0) 23).toNatClampNeg < 20 := by
                              rw [ej, nI_clamp (by omega)]; rcases Nat.lt_or_ge j 20 with q | q
                              · exact q
                              · exact absurd (by rw [ej, show j = 20 by omega]; rfl) h93
                            have hj : M.1 (m 0) 23 = nI (M.1 (m 0) 23).toNatClampNeg := by rw [ej, nI_clamp (by omega)]
                            refine j_aload_n E dX7_type_98 rfl rfl ?_
                            refine j_getP (ci := 7) (k := 24) (Cn := RX7) (T := TX7) (N := 34) E dX7_type_99 hm1 hm2 rfl (by decide) hinX7 (by decide +kernel) rfl mp24 ?_
                            refine j_aload_n E dX7_type_102 rfl rfl ?_
                            refine j_getI (ci := 7) (k := 23) (Cn := RX7) (T := TX7) (N := 34) E dX7_type_103 hm1 hm2 rfl (by decide) hinX7 (by decide +kernel) rfl ?_
                            try simp only [pI_m hinj, pF_m hinj, pI_2, pF_1, Nat.reduceEqDiff, Nat.reduceLT, Nat.reduceLeDiff, eq_self, ↓reduceIte]
                            refine j_iload_n E dX7_type_106 rfl rfl ?_
                            refine j_cast E dX7_type_107 ml24 mn24 hj hj20 (by decide) mk24 hc ?_
                            refine j_aload_n E dX7_type_108 rfl rfl ?_
                            refine j_dup E dX7_type_109 rfl ?_
                            refine j_getI (ci := 7) (k := 23) (Cn := RX7) (T := TX7) (N := 34) E dX7_type_110 hm1 hm2 rfl (by decide) hinX7 (by decide +kernel) rfl ?_
                            try simp only [pI_m hinj, pF_m hinj, pI_2, pF_1, Nat.reduceEqDiff, Nat.reduceLT, Nat.reduceLeDiff, eq_self, ↓reduceIte]
                            refine j_iconst (v := 1) E dX7_type_113 (by decide) ?_
                            refine j_iadd E dX7_type_114 ?_
                            refine j_putI (ci := 7) (k := 23) (Cn := RX7) (T := TX7) (N := 34) E dX7_type_115 hm1 hm2 rfl (by decide) hinX7 (by decide +kernel) rfl tyX7 tyX7_ok nmX7 rfl rfl rfl rfl ?_
                            refine j_iconst (v := 1) E dX7_type_118 (by decide) ?_
                            exact j_zret E dX7_type_119 rfl (by simp [mType, mSt, h8, h14, h20, h26, h32, h38, h44, h50, h56, h84, h93]) rfl (by simp [mType, mSt, h8, h14, h20, h26, h32, h38, h44, h50, h56, h84, h93])
                          · refine j_iconst (v := 0) E dX7_type_96 (by decide) ?_
                            exact j_zret E dX7_type_97 rfl (by simp [mType, mSt, h8, h14, h20, h26, h32, h38, h44, h50, h56, h84, h93]) rfl (by simp [mType, mSt, h8, h14, h20, h26, h32, h38, h44, h50, h56, h84, h93])
                        )
                  · refine j_iload_n E dX7_type_59 rfl rfl ?_
                    refine j_bipush (v := 58) E dX7_type_60 (by decide) ?_
                    refine j_icmp_eq (tgt := 77) E dX7_type_62 (by decide) (fun h62 => ?_) (fun h62 => ?_)
                    · refine j_iconst (v := 1) E dX7_type_77 (by decide) ?_
                      refine j_goto (tgt := 82) E dX7_type_78 (by decide) ?_
                      refine j_istore_n E dX7_type_82 rfl (by decide) ?_
                      refine j_iload_n E dX7_type_83 rfl rfl ?_
                      refine j_if_eq (tgt := 96) E dX7_type_84 (by decide) (fun h84 => ?_) (fun h84 => ?_)
                      · first
                        | exact absurd h84 (by decide)
                        | exact absurd (by decide) h84
                        | (
                            refine j_iconst (v := 0) E dX7_type_96 (by decide) ?_
                            exact j_zret E dX7_type_97 rfl (by simp [mType, mSt, h8, h14, h20, h26, h32, h38, h44, h50, h56, h62, h84]) rfl (by simp [mType, mSt, h8, h14, h20, h26, h32, h38, h44, h50, h56, h62, h84])
                          )
                      · first
                        | exact absurd h84 (by decide)
                        | exact absurd (by decide) h84
                        | (
                            refine j_aload_n E dX7_type_87 rfl rfl ?_
                            refine j_getI (ci := 7) (k := 23) (Cn := RX7) (T := TX7) (N := 34) E dX7_type_88 hm1 hm2 rfl (by decide) hinX7 (by decide +kernel) rfl ?_
                            try simp only [pI_m hinj, pF_m hinj, pI_2, pF_1, Nat.reduceEqDiff, Nat.reduceLT, Nat.reduceLeDiff, eq_self, ↓reduceIte]
                            refine j_bipush (v := 20) E dX7_type_91 (by decide) ?_
                            refine j_icmp_ne (tgt := 98) E dX7_type_93 (by decide) (fun h93 => ?_) (fun h93 => ?_)
                            · have hj20 : (M.1 (m 0) 23).toNatClampNeg < 20 := by
                                rw [ej, nI_clamp (by omega)]; rcases Nat.lt_or_ge j 20 with q | q
                                · exact q
                                · exact absurd (by rw [ej, show j = 20 by omega]; rfl) h93
                              have hj : M.1 (m 0) 23 = nI (M.1 (m 0) 23).toNatClampNeg := by rw [ej, nI_clamp (by omega)]
                              refine j_aload_n E dX7_type_98 rfl rfl ?_
                              refine j_getP (ci := 7) (k := 24) (Cn := RX7) (T := TX7) (N := 34) E dX7_type_99 hm1 hm2 rfl (by decide) hinX7 (by decide +kernel) rfl mp24 ?_
                              refine j_aload_n E dX7_type_102 rfl rfl ?_
                              refine j_getI (ci := 7) (k := 23) (Cn := RX7) (T := TX7) (N := 34) E dX7_type_103 hm1 hm2 rfl (by decide) hinX7 (by decide +kernel) rfl ?_
                              try simp only [pI_m hinj, pF_m hinj, pI_2, pF_1, Nat.reduceEqDiff, Nat.reduceLT, Nat.reduceLeDiff, eq_self, ↓reduceIte]
                              refine j_iload_n E dX7_type_106 rfl rfl ?_
                              refine j_cast E dX7_type_107 ml24 mn24 hj hj20 (by decide) mk24 hc ?_
                              refine j_aload_n E dX7_type_108 rfl rfl ?_
                              refine j_dup E dX7_type_109 rfl ?_
                              refine j_getI (ci := 7) (k := 23) (Cn := RX7) (T := TX7) (N := 34) E dX7_type_110 hm1 hm2 rfl (by decide) hinX7 (by decide +kernel) rfl ?_
                              try simp only [pI_m hinj, pF_m hinj, pI_2, pF_1, Nat.reduceEqDiff, Nat.reduceLT, Nat.reduceLeDiff, eq_self, ↓reduceIte]
                              refine j_iconst (v := 1) E dX7_type_113 (by decide) ?_
                              refine j_iadd E dX7_type_114 ?_
                              refine j_putI (ci := 7) (k := 23) (Cn := RX7) (T := TX7) (N := 34) E dX7_type_115 hm1 hm2 rfl (by decide) hinX7 (by decide +kernel) rfl tyX7 tyX7_ok nmX7 rfl rfl rfl rfl ?_
                              refine j_iconst (v := 1) E dX7_type_118 (by decide) ?_
                              exact j_zret E dX7_type_119 rfl (by simp [mType, mSt, h8, h14, h20, h26, h32, h38, h44, h50, h56, h62, h84, h93]) rfl (by simp [mType, mSt, h8, h14, h20, h26, h32, h38, h44, h50, h56, h62, h84, h93])
                            · refine j_iconst (v := 0) E dX7_type_96 (by decide) ?_
                              exact j_zret E dX7_type_97 rfl (by simp [mType, mSt, h8, h14, h20, h26, h32, h38, h44, h50, h56, h62, h84, h93]) rfl (by simp [mType, mSt, h8, h14, h20, h26, h32, h38, h44, h50, h56, h62, h84, h93])
                          )
                    · refine j_iload_n E dX7_type_65 rfl rfl ?_
                      refine j_bipush (v := 48) E dX7_type_66 (by decide) ?_
                      refine j_icmp_lt (tgt := 81) E dX7_type_68 (by decide) (fun h68 => ?_) (fun h68 => ?_)
                      · refine j_iconst (v := 0) E dX7_type_81 (by decide) ?_
                        refine j_istore_n E dX7_type_82 rfl (by decide) ?_
                        refine j_iload_n E dX7_type_83 rfl rfl ?_
                        refine j_if_eq (tgt := 96) E dX7_type_84 (by decide) (fun h84 => ?_) (fun h84 => ?_)
                        · first
                          | exact absurd h84 (by decide)
                          | exact absurd (by decide) h84
                          | (
                              refine j_iconst (v := 0) E dX7_type_96 (by decide) ?_
                              exact j_zret E dX7_type_97 rfl (by simp [mType, mSt, h8, h14, h20, h26, h32, h38, h44, h50, h56, h62, h68, h84]) rfl (by simp [mType, mSt, h8, h14, h20, h26, h32, h38, h44, h50, h56, h62, h68, h84])
                            )
                        · first
                          | exact absurd h84 (by decide)
                          | exact absurd (by decide) h84
                          | (
                              refine j_aload_n E dX7_type_87 rfl rfl ?_
                              refine j_getI (ci := 7) (k := 23) (Cn := RX7) (T := TX7) (N := 34) E dX7_type_88 hm1 hm2 rfl (by decide) hinX7 (by decide +kernel) rfl ?_
                              try simp only [pI_m hinj, pF_m hinj, pI_2, pF_1, Nat.reduceEqDiff, Nat.reduceLT, Nat.reduceLeDiff, eq_self, ↓reduceIte]
                              refine j_bipush (v := 20) E dX7_type_91 (by decide) ?_
                              refine j_icmp_ne (tgt := 98) E dX7_type_93 (by decide) (fun h93 => ?_) (fun h93 => ?_)
                              · have hj20 : (M.1 (m 0) 23).toNatClampNeg < 20 := by
                                  rw [ej, nI_clamp (by omega)]; rcases Nat.lt_or_ge j 20 with q | q
                                  · exact q
                                  · exact absurd (by rw [ej, show j = 20 by omega]; rfl) h93
                                have hj : M.1 (m 0) 23 = nI (M.1 (m 0) 23).toNatClampNeg := by rw [ej, nI_clamp (by omega)]
                                refine j_aload_n E dX7_type_98 rfl rfl ?_
                                refine j_getP (ci := 7) (k := 24) (Cn := RX7) (T := TX7) (N := 34) E dX7_type_99 hm1 hm2 rfl (by decide) hinX7 (by decide +kernel) rfl mp24 ?_
                                refine j_aload_n E dX7_type_102 rfl rfl ?_
                                refine j_getI (ci := 7) (k := 23) (Cn := RX7) (T := TX7) (N := 34) E dX7_type_103 hm1 hm2 rfl (by decide) hinX7 (by decide +kernel) rfl ?_
                                try simp only [pI_m hinj, pF_m hinj, pI_2, pF_1, Nat.reduceEqDiff, Nat.reduceLT, Nat.reduceLeDiff, eq_self, ↓reduceIte]
                                refine j_iload_n E dX7_type_106 rfl rfl ?_
                                refine j_cast E dX7_type_107 ml24 mn24 hj hj20 (by decide) mk24 hc ?_
                                refine j_aload_n E dX7_type_108 rfl rfl ?_
                                refine j_dup E dX7_type_109 rfl ?_
                                refine j_getI (ci := 7) (k := 23) (Cn := RX7) (T := TX7) (N := 34) E dX7_type_110 hm1 hm2 rfl (by decide) hinX7 (by decide +kernel) rfl ?_
                                try simp only [pI_m hinj, pF_m hinj, pI_2, pF_1, Nat.reduceEqDiff, Nat.reduceLT, Nat.reduceLeDiff, eq_self, ↓reduceIte]
                                refine j_iconst (v := 1) E dX7_type_113 (by decide) ?_
                                refine j_iadd E dX7_type_114 ?_
                                refine j_putI (ci := 7) (k := 23) (Cn := RX7) (T := TX7) (N := 34) E dX7_type_115 hm1 hm2 rfl (by decide) hinX7 (by decide +kernel) rfl tyX7 tyX7_ok nmX7 rfl rfl rfl rfl ?_
                                refine j_iconst (v := 1) E dX7_type_118 (by decide) ?_
                                exact j_zret E dX7_type_119 rfl (by simp [mType, mSt, h8, h14, h20, h26, h32, h38, h44, h50, h56, h62, h68, h84, h93]) rfl (by simp [mType, mSt, h8, h14, h20, h26, h32, h38, h44, h50, h56, h62, h68, h84, h93])
                              · refine j_iconst (v := 0) E dX7_type_96 (by decide) ?_
                                exact j_zret E dX7_type_97 rfl (by simp [mType, mSt, h8, h14, h20, h26, h32, h38, h44, h50, h56, h62, h68, h84, h93]) rfl (by simp [mType, mSt, h8, h14, h20, h26, h32, h38, h44, h50, h56, h62, h68, h84, h93])
                            )
                      · refine j_iload_n E dX7_type_71 rfl rfl ?_
                        refine j_bipush (v := 57) E dX7_type_72 (by decide) ?_
                        refine j_icmp_gt (tgt := 81) E dX7_type_74 (by decide) (fun h74 => ?_) (fun h74 => ?_)
                        · refine j_iconst (v := 0) E dX7_type_81 (by decide) ?_
                          refine j_istore_n E dX7_type_82 rfl (by decide) ?_
                          refine j_iload_n E dX7_type_83 rfl rfl ?_
                          refine j_if_eq (tgt := 96) E dX7_type_84 (by decide) (fun h84 => ?_) (fun h84 => ?_)
                          · first
                            | exact absurd h84 (by decide)
                            | exact absurd (by decide) h84
                            | (
                                refine j_iconst (v := 0) E dX7_type_96 (by decide) ?_
                                exact j_zret E dX7_type_97 rfl (by simp [mType, mSt, h8, h14, h20, h26, h32, h38, h44, h50, h56, h62, h68, h74, h84]) rfl (by simp [mType, mSt, h8, h14, h20, h26, h32, h38, h44, h50, h56, h62, h68, h74, h84])
                              )
                          · first
                            | exact absurd h84 (by decide)
                            | exact absurd (by decide) h84
                            | (
                                refine j_aload_n E dX7_type_87 rfl rfl ?_
                                refine j_getI (ci := 7) (k := 23) (Cn := RX7) (T := TX7) (N := 34) E dX7_type_88 hm1 hm2 rfl (by decide) hinX7 (by decide +kernel) rfl ?_
                                try simp only [pI_m hinj, pF_m hinj, pI_2, pF_1, Nat.reduceEqDiff, Nat.reduceLT, Nat.reduceLeDiff, eq_self, ↓reduceIte]
                                refine j_bipush (v := 20) E dX7_type_91 (by decide) ?_
                                refine j_icmp_ne (tgt := 98) E dX7_type_93 (by decide) (fun h93 => ?_) (fun h93 => ?_)
                                · have hj20 : (M.1 (m 0) 23).toNatClampNeg < 20 := by
                                    rw [ej, nI_clamp (by omega)]; rcases Nat.lt_or_ge j 20 with q | q
                                    · exact q
                                    · exact absurd (by rw [ej, show j = 20 by omega]; rfl) h93
                                  have hj : M.1 (m 0) 23 = nI (M.1 (m 0) 23).toNatClampNeg := by rw [ej, nI_clamp (by omega)]
                                  refine j_aload_n E dX7_type_98 rfl rfl ?_
                                  refine j_getP (ci := 7) (k := 24) (Cn := RX7) (T := TX7) (N := 34) E dX7_type_99 hm1 hm2 rfl (by decide) hinX7 (by decide +kernel) rfl mp24 ?_
                                  refine j_aload_n E dX7_type_102 rfl rfl ?_
                                  refine j_getI (ci := 7) (k := 23) (Cn := RX7) (T := TX7) (N := 34) E dX7_type_103 hm1 hm2 rfl (by decide) hinX7 (by decide +kernel) rfl ?_
                                  try simp only [pI_m hinj, pF_m hinj, pI_2, pF_1, Nat.reduceEqDiff, Nat.reduceLT, Nat.reduceLeDiff, eq_self, ↓reduceIte]
                                  refine j_iload_n E dX7_type_106 rfl rfl ?_
                                  refine j_cast E dX7_type_107 ml24 mn24 hj hj20 (by decide) mk24 hc ?_
                                  refine j_aload_n E dX7_type_108 rfl rfl ?_
                                  refine j_dup E dX7_type_109 rfl ?_
                                  refine j_getI (ci := 7) (k := 23) (Cn := RX7) (T := TX7) (N := 34) E dX7_type_110 hm1 hm2 rfl (by decide) hinX7 (by decide +kernel) rfl ?_
                                  try simp only [pI_m hinj, pF_m hinj, pI_2, pF_1, Nat.reduceEqDiff, Nat.reduceLT, Nat.reduceLeDiff, eq_self, ↓reduceIte]
                                  refine j_iconst (v := 1) E dX7_type_113 (by decide) ?_
                                  refine j_iadd E dX7_type_114 ?_
                                  refine j_putI (ci := 7) (k := 23) (Cn := RX7) (T := TX7) (N := 34) E dX7_type_115 hm1 hm2 rfl (by decide) hinX7 (by decide +kernel) rfl tyX7 tyX7_ok nmX7 rfl rfl rfl rfl ?_
                                  refine j_iconst (v := 1) E dX7_type_118 (by decide) ?_
                                  exact j_zret E dX7_type_119 rfl (by simp [mType, mSt, h8, h14, h20, h26, h32, h38, h44, h50, h56, h62, h68, h74, h84, h93]) rfl (by simp [mType, mSt, h8, h14, h20, h26, h32, h38, h44, h50, h56, h62, h68, h74, h84, h93])
                                · refine j_iconst (v := 0) E dX7_type_96 (by decide) ?_
                                  exact j_zret E dX7_type_97 rfl (by simp [mType, mSt, h8, h14, h20, h26, h32, h38, h44, h50, h56, h62, h68, h74, h84, h93]) rfl (by simp [mType, mSt, h8, h14, h20, h26, h32, h38, h44, h50, h56, h62, h68, h74, h84, h93])
                              )
                        · refine j_iconst (v := 1) E dX7_type_77 (by decide) ?_
                          refine j_goto (tgt := 82) E dX7_type_78 (by decide) ?_
                          refine j_istore_n E dX7_type_82 rfl (by decide) ?_
                          refine j_iload_n E dX7_type_83 rfl rfl ?_
                          refine j_if_eq (tgt := 96) E dX7_type_84 (by decide) (fun h84 => ?_) (fun h84 => ?_)
                          · first
                            | exact absurd h84 (by decide)
                            | exact absurd (by decide) h84
                            | (
                                refine j_iconst (v := 0) E dX7_type_96 (by decide) ?_
                                exact j_zret E dX7_type_97 rfl (by simp [mType, mSt, h8, h14, h20, h26, h32, h38, h44, h50, h56, h62, h68, h74, h84]) rfl (by simp [mType, mSt, h8, h14, h20, h26, h32, h38, h44, h50, h56, h62, h68, h74, h84])
                              )
                          · first
                            | exact absurd h84 (by decide)
                            | exact absurd (by decide) h84
                            | (
                                refine j_aload_n E dX7_type_87 rfl rfl ?_
                                refine j_getI (ci := 7) (k := 23) (Cn := RX7) (T := TX7) (N := 34) E dX7_type_88 hm1 hm2 rfl (by decide) hinX7 (by decide +kernel) rfl ?_
                                try simp only [pI_m hinj, pF_m hinj, pI_2, pF_1, Nat.reduceEqDiff, Nat.reduceLT, Nat.reduceLeDiff, eq_self, ↓reduceIte]
                                refine j_bipush (v := 20) E dX7_type_91 (by decide) ?_
                                refine j_icmp_ne (tgt := 98) E dX7_type_93 (by decide) (fun h93 => ?_) (fun h93 => ?_)
                                · have hj20 : (M.1 (m 0) 23).toNatClampNeg < 20 := by
                                    rw [ej, nI_clamp (by omega)]; rcases Nat.lt_or_ge j 20 with q | q
                                    · exact q
                                    · exact absurd (by rw [ej, show j = 20 by omega]; rfl) h93
                                  have hj : M.1 (m 0) 23 = nI (M.1 (m 0) 23).toNatClampNeg := by rw [ej, nI_clamp (by omega)]
                                  refine j_aload_n E dX7_type_98 rfl rfl ?_
                                  refine j_getP (ci := 7) (k := 24) (Cn := RX7) (T := TX7) (N := 34) E dX7_type_99 hm1 hm2 rfl (by decide) hinX7 (by decide +kernel) rfl mp24 ?_
                                  refine j_aload_n E dX7_type_102 rfl rfl ?_
                                  refine j_getI (ci := 7) (k := 23) (Cn := RX7) (T := TX7) (N := 34) E dX7_type_103 hm1 hm2 rfl (by decide) hinX7 (by decide +kernel) rfl ?_
                                  try simp only [pI_m hinj, pF_m hinj, pI_2, pF_1, Nat.reduceEqDiff, Nat.reduceLT, Nat.reduceLeDiff, eq_self, ↓reduceIte]
                                  refine j_iload_n E dX7_type_106 rfl rfl ?_
                                  refine j_cast E dX7_type_107 ml24 mn24 hj hj20 (by decide) mk24 hc ?_
                                  refine j_aload_n E dX7_type_108 rfl rfl ?_
                                  refine j_dup E dX7_type_109 rfl ?_
                                  refine j_getI (ci := 7) (k := 23) (Cn := RX7) (T := TX7) (N := 34) E dX7_type_110 hm1 hm2 rfl (by decide) hinX7 (by decide +kernel) rfl ?_
                                  try simp only [pI_m hinj, pF_m hinj, pI_2, pF_1, Nat.reduceEqDiff, Nat.reduceLT, Nat.reduceLeDiff, eq_self, ↓reduceIte]
                                  refine j_iconst (v := 1) E dX7_type_113 (by decide) ?_
                                  refine j_iadd E dX7_type_114 ?_
                                  refine j_putI (ci := 7) (k := 23) (Cn := RX7) (T := TX7) (N := 34) E dX7_type_115 hm1 hm2 rfl (by decide) hinX7 (by decide +kernel) rfl tyX7 tyX7_ok nmX7 rfl rfl rfl rfl ?_
                                  refine j_iconst (v := 1) E dX7_type_118 (by decide) ?_
                                  exact j_zret E dX7_type_119 rfl (by simp [mType, mSt, h8, h14, h20, h26, h32, h38, h44, h50, h56, h62, h68, h74, h84, h93]) rfl (by simp [mType, mSt, h8, h14, h20, h26, h32, h38, h44, h50, h56, h62, h68, h74, h84, h93])
                                · refine j_iconst (v := 0) E dX7_type_96 (by decide) ?_
                                  exact j_zret E dX7_type_97 rfl (by simp [mType, mSt, h8, h14, h20, h26, h32, h38, h44, h50, h56, h62, h68, h74, h84, h93]) rfl (by simp [mType, mSt, h8, h14, h20, h26, h32, h38, h44, h50, h56, h62, h68, h74, h84, h93])
                              )

set_option maxHeartbeats 1600000 in
set_option maxRecDepth 100000 in
theorem kl_X7_forget_38 {C : jC} (E : jE C cX7_forget 3 wsX7_forget RX7 (some .int) ({ frames := 0, cells := 0, slots := 0, locals := 0 } : Room)) {X : va_W} {M : pM} {m : Nat → Nat} {c : Int32} (hM : wM (jG C) m) : ∀ (n i : Nat), i + n = 6 → jW C 3 38 [(0, .ref (m 0)), (1, .int c), (2, .int (nI i))] [] X (mOffN m i M) 0 0 (jZ C X (mOffN m 6 M) (some (.int c)) 0 0) := by
  have hinX7 : ∀ w ∈ u_ws RX7 TX7 34, w ∈ wsX7_forget := by decide +kernel
  have hM0 := hM
  obtain ⟨hm1, hm2, hmt, hinj⟩ := hM
  obtain ⟨mp22, ml22, mk22, mn22⟩ := hmt 22 11 6 rfl
  intro n
  induction n with
  | zero =>
    intro i hn
    obtain rfl : i = 6 := by omega
    refine j_iload_n E dX7_forget_38 rfl rfl ?_
    refine j_bipush (v := 6) E dX7_forget_39 (by decide) ?_
    refine j_icmp_ge (tgt := 57) E dX7_forget_41 (by decide) (fun h => ?_) (fun h => absurd (by decide) h)
    refine j_iload_n E dX7_forget_57 rfl rfl ?_
    exact j_iret E dX7_forget_58 (by rfl) rfl (by rfl)
  | succ n ih =>
    intro i hn
    have hi : i < 6 := by omega
    refine j_iload_n E dX7_forget_38 rfl rfl ?_
    refine j_bipush (v := 6) E dX7_forget_39 (by decide) ?_
    refine j_icmp_ge (tgt := 57) E dX7_forget_41 (by decide) (fun h41 => ?_) (fun h41 => ?_)
    · exact absurd h41 (nI_ge (b := 6) hi (by decide))
    · refine j_aload_n E dX7_forget_44 rfl rfl ?_
      refine j_getP (ci := 7) (k := 22) (Cn := RX7) (T := TX7) (N := 34) E dX7_forget_45 hm1 hm2 rfl (by decide) hinX7 (by decide +kernel) rfl mp22 ?_
      refine j_iload_n E dX7_forget_48 rfl rfl ?_
      refine j_iconst (v := 0) E dX7_forget_49 (by decide) ?_
      refine j_zast E dX7_forget_50 ml22 mn22 rfl hi (by decide) mk22 rfl ?_
      refine j_iinc E dX7_forget_51 rfl (by decide) ?_
      refine j_goto (tgt := 38) E dX7_forget_54 (by decide) ?_
      exact j_lv [0, 1, 2] rfl (by rw [nI_inc]; exact ih (i + 1) (by omega))

set_option maxHeartbeats 1600000 in
set_option maxRecDepth 100000 in
theorem k_X7_forget {l : Launch} {D : va_G} {cy : Nat → ClassId} {X : va_W} {G : pG} {M : pM} {m : Nat → Nat} (hM : wM G m) : jK l yX7_forget wsX7_forget ({ frames := 0, cells := 0, slots := 0, locals := 0 } : Room) D cy X G M [.ref (m 0)] (some (.int (mForg M m).1)) X (mForg M m).2 := by
  refine jK_of (own := RX7) (by decide) rfl rfl (Nat.le_of_ble_eq_true rfl) (fun C E hl hD hcy hG => ?_)
  subst hl; subst hD; subst hcy; subst hG
  have hinX7 : ∀ w ∈ u_ws RX7 TX7 34, w ∈ wsX7_forget := by decide +kernel
  have hM0 := hM
  obtain ⟨hm1, hm2, hmt, hinj⟩ := hM
  obtain ⟨mp22, ml22, mk22, mn22⟩ := hmt 22 11 6 rfl
  refine j_aload_n E dX7_forget_0 rfl rfl ?_
  refine j_aload_n E dX7_forget_1 rfl rfl ?_
  refine j_getI (ci := 7) (k := 26) (Cn := RX7) (T := TX7) (N := 34) E dX7_forget_2 hm1 hm2 rfl (by decide) hinX7 (by decide +kernel) rfl ?_
  refine j_iconst (v := 2) E dX7_forget_5 (by decide) ?_
  refine j_icmp_ge (tgt := 13) E dX7_forget_6 (by decide) (fun h6 => ?_) (fun h6 => ?_)
  · refine j_iconst (v := 0) E dX7_forget_13 (by decide) ?_
    refine j_putI (ci := 7) (k := 0) (Cn := RX7) (T := TX7) (N := 34) E dX7_forget_14 hm1 hm2 rfl (by decide) hinX7 (by decide +kernel) rfl tyX7 tyX7_ok nmX7 rfl rfl rfl rfl ?_
    refine j_aload_n E dX7_forget_17 rfl rfl ?_
    refine j_getI (ci := 7) (k := 0) (Cn := RX7) (T := TX7) (N := 34) E dX7_forget_18 hm1 hm2 rfl (by decide) hinX7 (by decide +kernel) rfl ?_
    try simp only [pI_m hinj, pF_m hinj, pI_2, pF_1, Nat.reduceEqDiff, Nat.reduceLT, Nat.reduceLeDiff, eq_self, ↓reduceIte]
    refine j_if_le (tgt := 26) E dX7_forget_21 (by decide) (fun h21 => ?_) (fun h21 => ?_)
    · first
      | exact absurd h21 (by decide)
      | exact absurd (by decide) h21
      | (
          refine j_aload_n E dX7_forget_26 rfl rfl ?_
          refine j_getI (ci := 7) (k := 16) (Cn := RX7) (T := TX7) (N := 34) E dX7_forget_27 hm1 hm2 rfl (by decide) hinX7 (by decide +kernel) rfl ?_
          try simp only [pI_m hinj, pF_m hinj, pI_2, pF_1, Nat.reduceEqDiff, Nat.reduceLT, Nat.reduceLeDiff, eq_self, ↓reduceIte]
          refine j_istore_n E dX7_forget_30 rfl (by decide) ?_
          refine j_aload_n E dX7_forget_31 rfl rfl ?_
          refine j_iconst (v := 0) E dX7_forget_32 (by decide) ?_
          refine j_putI (ci := 7) (k := 16) (Cn := RX7) (T := TX7) (N := 34) E dX7_forget_33 hm1 hm2 rfl (by decide) hinX7 (by decide +kernel) rfl tyX7 tyX7_ok nmX7 rfl rfl rfl rfl ?_
          refine j_iconst (v := 0) E dX7_forget_36 (by decide) ?_
          refine j_istore_n E dX7_forget_37 rfl (by decide) ?_
          exact j_lv [0, 1, 2] rfl (j_r (by simp [mForg, mForgT, h6, h21]) (by simp [mForg, mForgT, h6, h21]) (kl_X7_forget_38 (M := pI (pI M (m 0) 0 0) (m 0) 16 0) E hM0 6 0 (by omega)))
        )
    · first
      | exact absurd h21 (by decide)
      | exact absurd (by decide) h21
      | (
          refine j_iconst (v := 0) E dX7_forget_24 (by decide) ?_
          exact j_iret E dX7_forget_25 (by simp [mForg, mForgT, h6, h21]) rfl (by simp [mForg, mForgT, h6, h21])
        )
  · refine j_iconst (v := 1) E dX7_forget_9 (by decide) ?_
    refine j_goto (tgt := 14) E dX7_forget_10 (by decide) ?_
    refine j_putI (ci := 7) (k := 0) (Cn := RX7) (T := TX7) (N := 34) E dX7_forget_14 hm1 hm2 rfl (by decide) hinX7 (by decide +kernel) rfl tyX7 tyX7_ok nmX7 rfl rfl rfl rfl ?_
    refine j_aload_n E dX7_forget_17 rfl rfl ?_
    refine j_getI (ci := 7) (k := 0) (Cn := RX7) (T := TX7) (N := 34) E dX7_forget_18 hm1 hm2 rfl (by decide) hinX7 (by decide +kernel) rfl ?_
    try simp only [pI_m hinj, pF_m hinj, pI_2, pF_1, Nat.reduceEqDiff, Nat.reduceLT, Nat.reduceLeDiff, eq_self, ↓reduceIte]
    refine j_if_le (tgt := 26) E dX7_forget_21 (by decide) (fun h21 => ?_) (fun h21 => ?_)
    · first
      | exact absurd h21 (by decide)
      | exact absurd (by decide) h21
      | (
          refine j_aload_n E dX7_forget_26 rfl rfl ?_
          refine j_getI (ci := 7) (k := 16) (Cn := RX7) (T := TX7) (N := 34) E dX7_forget_27 hm1 hm2 rfl (by decide) hinX7 (by decide +kernel) rfl ?_
          try simp only [pI_m hinj, pF_m hinj, pI_2, pF_1, Nat.reduceEqDiff, Nat.reduceLT, Nat.reduceLeDiff, eq_self, ↓reduceIte]
          refine j_istore_n E dX7_forget_30 rfl (by decide) ?_
          refine j_aload_n E dX7_forget_31 rfl rfl ?_
          refine j_iconst (v := 0) E dX7_forget_32 (by decide) ?_
          refine j_putI (ci := 7) (k := 16) (Cn := RX7) (T := TX7) (N := 34) E dX7_forget_33 hm1 hm2 rfl (by decide) hinX7 (by decide +kernel) rfl tyX7 tyX7_ok nmX7 rfl rfl rfl rfl ?_
          refine j_iconst (v := 0) E dX7_forget_36 (by decide) ?_
          refine j_istore_n E dX7_forget_37 rfl (by decide) ?_
          exact j_lv [0, 1, 2] rfl (j_r (by simp [mForg, mForgT, h6, h21]) (by simp [mForg, mForgT, h6, h21]) (kl_X7_forget_38 (M := pI (pI M (m 0) 0 0) (m 0) 16 0) E hM0 6 0 (by omega)))
        )
    · first
      | exact absurd h21 (by decide)
      | exact absurd (by decide) h21
      | (
          refine j_iconst (v := 0) E dX7_forget_24 (by decide) ?_
          exact j_iret E dX7_forget_25 (by simp [mForg, mForgT, h6, h21]) rfl (by simp [mForg, mForgT, h6, h21])
        )

set_option maxHeartbeats 1600000 in
set_option maxRecDepth 100000 in
theorem k_X7_key {l : Launch} {D : va_G} {cy : Nat → ClassId} {X : va_W} {G : pG} {M : pM} {m : Nat → Nat} {c : Int32} (hM : wM G m) : jK l yX7_key wsX7_key ({ frames := 0, cells := 0, slots := 0, locals := 0 } : Room) D cy X G M [.ref (m 0), .int c] (some (.int (mKey c))) X (pI (pI M (m 0) 0 0) (m 0) 26 (mKey c)) := by
  refine jK_of (own := RX7) (by decide) rfl rfl (Nat.le_of_ble_eq_true rfl) (fun C E hl hD hcy hG => ?_)
  subst hl; subst hD; subst hcy; subst hG
  have hinX7 : ∀ w ∈ u_ws RX7 TX7 34, w ∈ wsX7_key := by decide +kernel
  have hM0 := hM
  obtain ⟨hm1, hm2, hmt, hinj⟩ := hM
  refine j_aload_n E dX7_key_0 rfl rfl ?_
  refine j_iconst (v := 0) E dX7_key_1 (by decide) ?_
  refine j_putI (ci := 7) (k := 0) (Cn := RX7) (T := TX7) (N := 34) E dX7_key_2 hm1 hm2 rfl (by decide) hinX7 (by decide +kernel) rfl tyX7 tyX7_ok nmX7 rfl rfl rfl rfl ?_
  refine j_aload_n E dX7_key_5 rfl rfl ?_
  refine j_iload_n E dX7_key_6 rfl rfl ?_
  refine j_sipush (v := 1357) E dX7_key_7 (by decide) ?_
  refine j_icmp_ne (tgt := 17) E dX7_key_10 (by decide) (fun h10 => ?_) (fun h10 => ?_)
  · refine j_iload_n E dX7_key_17 rfl rfl ?_
    refine j_sipush (v := 2468) E dX7_key_18 (by decide) ?_
    refine j_icmp_ne (tgt := 28) E dX7_key_21 (by decide) (fun h21 => ?_) (fun h21 => ?_)
    · refine j_iconst (v := 0) E dX7_key_28 (by decide) ?_
      refine j_putI (ci := 7) (k := 26) (Cn := RX7) (T := TX7) (N := 34) E dX7_key_29 hm1 hm2 rfl (by decide) hinX7 (by decide +kernel) rfl tyX7 tyX7_ok nmX7 rfl rfl rfl rfl ?_
      refine j_aload_n E dX7_key_32 rfl rfl ?_
      refine j_getI (ci := 7) (k := 26) (Cn := RX7) (T := TX7) (N := 34) E dX7_key_33 hm1 hm2 rfl (by decide) hinX7 (by decide +kernel) rfl ?_
      try simp only [pI_m hinj, pF_m hinj, pI_2, pF_1, Nat.reduceEqDiff, Nat.reduceLT, Nat.reduceLeDiff, eq_self, ↓reduceIte]
      exact j_iret E dX7_key_36 (by simp [mKey, h10, h21]) rfl (by simp [mKey, h10, h21])
    · refine j_iconst (v := 2) E dX7_key_24 (by decide) ?_
      refine j_goto (tgt := 29) E dX7_key_25 (by decide) ?_
      refine j_putI (ci := 7) (k := 26) (Cn := RX7) (T := TX7) (N := 34) E dX7_key_29 hm1 hm2 rfl (by decide) hinX7 (by decide +kernel) rfl tyX7 tyX7_ok nmX7 rfl rfl rfl rfl ?_
      refine j_aload_n E dX7_key_32 rfl rfl ?_
      refine j_getI (ci := 7) (k := 26) (Cn := RX7) (T := TX7) (N := 34) E dX7_key_33 hm1 hm2 rfl (by decide) hinX7 (by decide +kernel) rfl ?_
      try simp only [pI_m hinj, pF_m hinj, pI_2, pF_1, Nat.reduceEqDiff, Nat.reduceLT, Nat.reduceLeDiff, eq_self, ↓reduceIte]
      exact j_iret E dX7_key_36 (by simp [mKey, h10, h21]) rfl (by simp [mKey, h10, h21])
  · refine j_iconst (v := 1) E dX7_key_13 (by decide) ?_
    refine j_goto (tgt := 29) E dX7_key_14 (by decide) ?_
    refine j_putI (ci := 7) (k := 26) (Cn := RX7) (T := TX7) (N := 34) E dX7_key_29 hm1 hm2 rfl (by decide) hinX7 (by decide +kernel) rfl tyX7 tyX7_ok nmX7 rfl rfl rfl rfl ?_
    refine j_aload_n E dX7_key_32 rfl rfl ?_
    refine j_getI (ci := 7) (k := 26) (Cn := RX7) (T := TX7) (N := 34) E dX7_key_33 hm1 hm2 rfl (by decide) hinX7 (by decide +kernel) rfl ?_
    try simp only [pI_m hinj, pF_m hinj, pI_2, pF_1, Nat.reduceEqDiff, Nat.reduceLT, Nat.reduceLeDiff, eq_self, ↓reduceIte]
    exact j_iret E dX7_key_36 (by simp [mKey, h10]) rfl (by simp [mKey, h10])

set_option maxHeartbeats 1600000 in
set_option maxRecDepth 100000 in
theorem k_X7_silence {l : Launch} {D : va_G} {cy : Nat → ClassId} {X : va_W} {G : pG} {M : pM} {m : Nat → Nat} (hM : wM G m) : jK l yX7_silence wsX7_silence ({ frames := 1, cells := 0, slots := 0, locals := 23 } : Room) D cy X G M [.ref (m 0)] (some (.int (mSil M m).1)) X (mSil M m).2 := by
  refine jK_of (own := RX7) (by decide) rfl rfl (Nat.le_of_ble_eq_true rfl) (fun C E hl hD hcy hG => ?_)
  subst hl; subst hD; subst hcy; subst hG
  have hinX7 : ∀ w ∈ u_ws RX7 TX7 34, w ∈ wsX7_silence := by decide +kernel
  have hM0 := hM
  obtain ⟨hm1, hm2, hmt, hinj⟩ := hM
  refine j_aload_n E dX7_silence_0 rfl rfl ?_
  refine j_aload_n E dX7_silence_1 rfl rfl ?_
  refine j_getI (ci := 7) (k := 26) (Cn := RX7) (T := TX7) (N := 34) E dX7_silence_2 hm1 hm2 rfl (by decide) hinX7 (by decide +kernel) rfl ?_
  refine j_iconst (v := 1) E dX7_silence_5 (by decide) ?_
  refine j_icmp_ge (tgt := 13) E dX7_silence_6 (by decide) (fun h6 => ?_) (fun h6 => ?_)
  · refine j_iconst (v := 0) E dX7_silence_13 (by decide) ?_
    refine j_putI (ci := 7) (k := 0) (Cn := RX7) (T := TX7) (N := 34) E dX7_silence_14 hm1 hm2 rfl (by decide) hinX7 (by decide +kernel) rfl tyX7 tyX7_ok nmX7 rfl rfl rfl rfl ?_
    refine j_aload_n E dX7_silence_17 rfl rfl ?_
    refine j_getI (ci := 7) (k := 0) (Cn := RX7) (T := TX7) (N := 34) E dX7_silence_18 hm1 hm2 rfl (by decide) hinX7 (by decide +kernel) rfl ?_
    try simp only [pI_m hinj, pF_m hinj, pI_2, pF_1, Nat.reduceEqDiff, Nat.reduceLT, Nat.reduceLeDiff, eq_self, ↓reduceIte]
    refine j_if_gt (tgt := 31) E dX7_silence_21 (by decide) (fun h21 => ?_) (fun h21 => ?_)
    · first
      | exact absurd h21 (by decide)
      | exact absurd (by decide) h21
      | (
          refine j_iconst (v := 0) E dX7_silence_31 (by decide) ?_
          exact j_zret E dX7_silence_32 rfl (by simp [mSil, mSilT, h6, h21]) rfl (by simp [mSil, mSilT, h6, h21])
        )
    · first
      | exact absurd h21 (by decide)
      | exact absurd (by decide) h21
      | (
          refine j_aload_n E dX7_silence_24 rfl rfl ?_
          refine j_getI (ci := 7) (k := 27) (Cn := RX7) (T := TX7) (N := 34) E dX7_silence_25 hm1 hm2 rfl (by decide) hinX7 (by decide +kernel) rfl ?_
          try simp only [pI_m hinj, pF_m hinj, pI_2, pF_1, Nat.reduceEqDiff, Nat.reduceLT, Nat.reduceLeDiff, eq_self, ↓reduceIte]
          refine j_if_eq (tgt := 33) E dX7_silence_28 (by decide) (fun h28 => ?_) (fun h28 => ?_)
          · refine j_aload_n E dX7_silence_33 rfl rfl ?_
            refine j_iconst (v := 1) E dX7_silence_34 (by decide) ?_
            refine j_putI (ci := 7) (k := 27) (Cn := RX7) (T := TX7) (N := 34) E dX7_silence_35 hm1 hm2 rfl (by decide) hinX7 (by decide +kernel) rfl tyX7 tyX7_ok nmX7 rfl rfl rfl rfl ?_
            refine j_aload_n E dX7_silence_38 rfl rfl ?_
            refine j_iconst (v := 5) E dX7_silence_39 (by decide) ?_
            refine j_iconst (v := 0) E dX7_silence_40 (by decide) ?_
            refine j_callV0 (ci := 7) (n := 2) E (k_X7_note hM0) dX7_silence_41 gX7_silence_X7_note rfl (by decide +kernel) ⟨rfl, rfl, by decide, by decide⟩ ⟨Nat.zero_le _, Nat.zero_le _⟩ hm1 hm2 rfl rfl rfl (Nat.le_of_ble_eq_true rfl) rfl ?_
            refine j_iconst (v := 1) E dX7_silence_44 (by decide) ?_
            exact j_zret E dX7_silence_45 rfl (by simp [mSil, mSilT, h6, h21, h28]) rfl (by simp [mSil, mSilT, h6, h21, h28])
          · refine j_iconst (v := 0) E dX7_silence_31 (by decide) ?_
            exact j_zret E dX7_silence_32 rfl (by simp [mSil, mSilT, h6, h21, h28]) rfl (by simp [mSil, mSilT, h6, h21, h28])
        )
  · refine j_iconst (v := 1) E dX7_silence_9 (by decide) ?_
    refine j_goto (tgt := 14) E dX7_silence_10 (by decide) ?_
    refine j_putI (ci := 7) (k := 0) (Cn := RX7) (T := TX7) (N := 34) E dX7_silence_14 hm1 hm2 rfl (by decide) hinX7 (by decide +kernel) rfl tyX7 tyX7_ok nmX7 rfl rfl rfl rfl ?_
    refine j_aload_n E dX7_silence_17 rfl rfl ?_
    refine j_getI (ci := 7) (k := 0) (Cn := RX7) (T := TX7) (N := 34) E dX7_silence_18 hm1 hm2 rfl (by decide) hinX7 (by decide +kernel) rfl ?_
    try simp only [pI_m hinj, pF_m hinj, pI_2, pF_1, Nat.reduceEqDiff, Nat.reduceLT, Nat.reduceLeDiff, eq_self, ↓reduceIte]
    refine j_if_gt (tgt := 31) E dX7_silence_21 (by decide) (fun h21 => ?_) (fun h21 => ?_)
    · first
      | exact absurd h21 (by decide)
      | exact absurd (by decide) h21
      | (
          refine j_iconst (v := 0) E dX7_silence_31 (by decide) ?_
          exact j_zret E dX7_silence_32 rfl (by simp [mSil, mSilT, h6, h21]) rfl (by simp [mSil, mSilT, h6, h21])
        )
    · first
      | exact absurd h21 (by decide)
      | exact absurd (by decide) h21
      | (
          refine j_aload_n E dX7_silence_24 rfl rfl ?_
          refine j_getI (ci := 7) (k := 27) (Cn := RX7) (T := TX7) (N := 34) E dX7_silence_25 hm1 hm2 rfl (by decide) hinX7 (by decide +kernel) rfl ?_
          try simp only [pI_m hinj, pF_m hinj, pI_2, pF_1, Nat.reduceEqDiff, Nat.reduceLT, Nat.reduceLeDiff, eq_self, ↓reduceIte]
          refine j_if_eq (tgt := 33) E dX7_silence_28 (by decide) (fun h28 => ?_) (fun h28 => ?_)
          · refine j_aload_n E dX7_silence_33 rfl rfl ?_
            refine j_iconst (v := 1) E dX7_silence_34 (by decide) ?_
            refine j_putI (ci := 7) (k := 27) (Cn := RX7) (T := TX7) (N := 34) E dX7_silence_35 hm1 hm2 rfl (by decide) hinX7 (by decide +kernel) rfl tyX7 tyX7_ok nmX7 rfl rfl rfl rfl ?_
            refine j_aload_n E dX7_silence_38 rfl rfl ?_
            refine j_iconst (v := 5) E dX7_silence_39 (by decide) ?_
            refine j_iconst (v := 0) E dX7_silence_40 (by decide) ?_
            refine j_callV0 (ci := 7) (n := 2) E (k_X7_note hM0) dX7_silence_41 gX7_silence_X7_note rfl (by decide +kernel) ⟨rfl, rfl, by decide, by decide⟩ ⟨Nat.zero_le _, Nat.zero_le _⟩ hm1 hm2 rfl rfl rfl (Nat.le_of_ble_eq_true rfl) rfl ?_
            refine j_iconst (v := 1) E dX7_silence_44 (by decide) ?_
            exact j_zret E dX7_silence_45 rfl (by simp [mSil, mSilT, h6, h21, h28]) rfl (by simp [mSil, mSilT, h6, h21, h28])
          · refine j_iconst (v := 0) E dX7_silence_31 (by decide) ?_
            exact j_zret E dX7_silence_32 rfl (by simp [mSil, mSilT, h6, h21, h28]) rfl (by simp [mSil, mSilT, h6, h21, h28])
        )
