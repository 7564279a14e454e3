/-! FirePanel$Place. Slots: 0 kind, 1 zone, 2 threshold, 3 reading, 4 base, 5 level, 6 over, 7 inAlarm, 8 missed, 9 atFault, 10 isOff. -/
def xBegin (M : pM) (p : Nat) (k z : Int32) (t : UInt32) : pM := pI (pI (pI (pI (pF (pF (pF (pI (pI M p 0 k) p 1 z) p 2 t) p 4 FP.fconst0) p 5 FP.fconst0) p 6 0) p 7 0) p 8 0) p 9 0
def xSens (M : pM) (p : Nat) : Int32 := if M.1 p 0 < 1 then 0 else if 3 < M.1 p 0 then 0 else 1
def xWat (M : pM) (p : Nat) (z : Int32) : Int32 := if xSens M p = 0 then 0 else if M.1 p 1 = z then (if M.1 p 10 = 0 then 1 else 0) else 0
def xWarn (M : pM) (p : Nat) : Int32 := if M.1 p 7 = 0 then (if M.1 p 0 = 1 then (if Op.cmpValue (FP.fcmp (M.2 p 5) (FP.fmul (M.2 p 2) 1061158912)) .l < 0 then 0 else 1) else 0) else 1
def xCalm (M : pM) (p : Nat) : pM := pI (pI M p 7 0) p 6 0
def xCount (M : pM) (p : Nat) : pM := if Op.cmpValue (FP.fcmp (M.2 p 5) (M.2 p 2)) .l < 0 then pI M p 6 0 else pI M p 6 (M.1 p 6 + 1)
theorem xCount_2 (M : pM) (p : Nat) : (xCount M p).2 = M.2 := by unfold xCount; split <;> rfl
abbrev xD (M : pM) (p : Nat) : UInt32 := FP.fsub (M.2 p 3) (M.2 p 4)
abbrev xSmL (M : pM) (p : Nat) : UInt32 := FP.fadd (M.2 p 5) (FP.fmul (FP.fsub (xD M p) (M.2 p 5)) 1056964608)
abbrev xSmB (M : pM) (p : Nat) : UInt32 := FP.fadd (M.2 p 4) (FP.fmul (xD M p) 1031798784)
abbrev xHtL (M : pM) (p : Nat) : UInt32 := FP.fadd (FP.fmul (xD M p) 1082130432) (FP.fmul (M.2 p 3) 1048576000)
def xSmoke (M : pM) (p : Nat) : pM := if (xCount (pF M p 5 (xSmL M p)) p).1 p 6 = 0 then pF (xCount (pF M p 5 (xSmL M p)) p) p 4 (xSmB M p) else xCount (pF M p 5 (xSmL M p)) p
def xHeat (M : pM) (p : Nat) : pM := xCount (pF (pF M p 5 (xHtL M p)) p 4 (M.2 p 3)) p
def xBut (M : pM) (p : Nat) : pM := if Op.cmpValue (FP.fcmp (M.2 p 3) FP.fconst0) .l ≤ 0 then pF M p 5 (M.2 p 3) else pF (pI M p 6 3) p 5 (M.2 p 3)
def xSn1 (M : pM) (p : Nat) : pM := if M.1 p 0 = 1 then xSmoke M p else if M.1 p 0 = 2 then xHeat M p else xBut M p
def xSense (M : pM) (p : Nat) : pM := if (xSn1 M p).1 p 6 < 3 then xSn1 M p else pI (xSn1 M p) p 7 1
/-- no NaN comes up -/
def okSmoke (M : pM) (p : Nat) : Prop := vf_n32 (xD M p) ∧ vf_n32 (FP.fsub (xD M p) (M.2 p 5)) ∧ vf_n32 (FP.fmul (FP.fsub (xD M p) (M.2 p 5)) 1056964608) ∧ vf_n32 (xSmL M p) ∧ vf_n32 (FP.fmul (xD M p) 1031798784) ∧ vf_n32 (xSmB M p)
def okHeat (M : pM) (p : Nat) : Prop := vf_n32 (xD M p) ∧ vf_n32 (FP.fmul (xD M p) 1082130432) ∧ vf_n32 (FP.fmul (M.2 p 3) 1048576000) ∧ vf_n32 (xHtL M p)

set_option maxHeartbeats 4000000 in
set_option maxRecDepth 100000 in
theorem k_X2_begin {l : Launch} {D : va_G} {cy : Nat → ClassId} {X : va_W} {G : pG} {M : pM} {p : Nat} {k z : Int32} {t : UInt32} (hL : p ∈ G.1) (hK : G.2.1 p = 2) : jK l yX2_begin wsX2_begin ({ frames := 0, cells := 0, slots := 0, locals := 0 } : Room) D cy X G M [.ref p, .int k, .int z, .float t] none X (xBegin M p k z t) := by
  refine jK_of (own := RX2) (by decide) rfl rfl (Nat.le_of_ble_eq_true rfl) (fun C E hl hD hcy hG => ?_)
  subst hl; subst hD; subst hcy; subst hG
  have hinX2 : ∀ w ∈ u_ws RX2 TX2 11, w ∈ wsX2_begin := by decide +kernel
  refine j_aload_n E dX2_begin_0 rfl rfl ?_
  refine j_iload_n E dX2_begin_1 rfl rfl ?_
  refine j_putI (ci := 2) (k := 0) (Cn := RX2) (T := TX2) (N := 11) E dX2_begin_2 (by assumption) (by assumption) rfl (by decide) hinX2 (by decide +kernel) rfl tyX2 tyX2_ok nmX2 rfl rfl rfl rfl ?_
  refine j_aload_n E dX2_begin_5 rfl rfl ?_
  refine j_iload_n E dX2_begin_6 rfl rfl ?_
  refine j_putI (ci := 2) (k := 1) (Cn := RX2) (T := TX2) (N := 11) E dX2_begin_7 (by assumption) (by assumption) rfl (by decide) hinX2 (by decide +kernel) rfl tyX2 tyX2_ok nmX2 rfl rfl rfl rfl ?_
  refine j_aload_n E dX2_begin_10 rfl rfl ?_
  refine j_fload_n E dX2_begin_11 rfl rfl ?_
  refine j_putF (ci := 2) (k := 2) (Cn := RX2) (T := TX2) (N := 11) E dX2_begin_12 (by assumption) (by assumption) rfl (by decide) hinX2 (by decide +kernel) rfl tyX2 tyX2_ok nmX2 rfl rfl rfl rfl ?_
  refine j_aload_n E dX2_begin_15 rfl rfl ?_
  refine j_fconst0 E dX2_begin_16 ?_
  refine j_putF (ci := 2) (k := 4) (Cn := RX2) (T := TX2) (N := 11) E dX2_begin_17 (by assumption) (by assumption) rfl (by decide) hinX2 (by decide +kernel) rfl tyX2 tyX2_ok nmX2 rfl rfl rfl rfl ?_
  refine j_aload_n E dX2_begin_20 rfl rfl ?_
  refine j_fconst0 E dX2_begin_21 ?_
  refine j_putF (ci := 2) (k := 5) (Cn := RX2) (T := TX2) (N := 11) E dX2_begin_22 (by assumption) (by assumption) rfl (by decide) hinX2 (by decide +kernel) rfl tyX2 tyX2_ok nmX2 rfl rfl rfl rfl ?_
  refine j_aload_n E dX2_begin_25 rfl rfl ?_
  refine j_iconst (v := 0) E dX2_begin_26 (by decide) ?_
  refine j_putI (ci := 2) (k := 6) (Cn := RX2) (T := TX2) (N := 11) E dX2_begin_27 (by assumption) (by assumption) rfl (by decide) hinX2 (by decide +kernel) rfl tyX2 tyX2_ok nmX2 rfl rfl rfl rfl ?_
  refine j_aload_n E dX2_begin_30 rfl rfl ?_
  refine j_iconst (v := 0) E dX2_begin_31 (by decide) ?_
  refine j_putI (ci := 2) (k := 7) (Cn := RX2) (T := TX2) (N := 11) E dX2_begin_32 (by assumption) (by assumption) rfl (by decide) hinX2 (by decide +kernel) rfl tyX2 tyX2_ok nmX2 rfl rfl rfl rfl ?_
  refine j_aload_n E dX2_begin_35 rfl rfl ?_
  refine j_iconst (v := 0) E dX2_begin_36 (by decide) ?_
  refine j_putI (ci := 2) (k := 8) (Cn := RX2) (T := TX2) (N := 11) E dX2_begin_37 (by assumption) (by assumption) rfl (by decide) hinX2 (by decide +kernel) rfl tyX2 tyX2_ok nmX2 rfl rfl rfl rfl ?_
  refine j_aload_n E dX2_begin_40 rfl rfl ?_
  refine j_iconst (v := 0) E dX2_begin_41 (by decide) ?_
  refine j_putI (ci := 2) (k := 9) (Cn := RX2) (T := TX2) (N := 11) E dX2_begin_42 (by assumption) (by assumption) rfl (by decide) hinX2 (by decide +kernel) rfl tyX2 tyX2_ok nmX2 rfl rfl rfl rfl ?_
  exact j_vret E dX2_begin_45 rfl (by rfl)

set_option maxHeartbeats 4000000 in
set_option maxRecDepth 100000 in
theorem k_X2_isSensor {l : Launch} {D : va_G} {cy : Nat → ClassId} {X : va_W} {G : pG} {M : pM} {p : Nat} (hL : p ∈ G.1) (hK : G.2.1 p = 2) : jK l yX2_isSensor wsX2_isSensor ({ frames := 0, cells := 0, slots := 0, locals := 0 } : Room) D cy X G M [.ref p] (some (.int (xSens M p))) X M := by
  refine jK_of (own := RX2) (by decide) rfl rfl (Nat.le_of_ble_eq_true rfl) (fun C E hl hD hcy hG => ?_)
  subst hl; subst hD; subst hcy; subst hG
  have hinX2 : ∀ w ∈ u_ws RX2 TX2 11, w ∈ wsX2_isSensor := by decide +kernel
  refine j_aload_n E dX2_isSensor_0 rfl rfl ?_
  refine j_getI (ci := 2) (k := 0) (Cn := RX2) (T := TX2) (N := 11) E dX2_isSensor_1 (by assumption) (by assumption) rfl (by decide) hinX2 (by decide +kernel) rfl ?_
  refine j_iconst (v := 1) E dX2_isSensor_4 (by decide) ?_
  refine j_icmp_lt (tgt := 20) E dX2_isSensor_5 (by decide) (fun h5 => ?_) (fun h5 => ?_)
  · refine j_iconst (v := 0) E dX2_isSensor_20 (by decide) ?_
    exact j_zret E dX2_isSensor_21 rfl (by first | rfl | (simp [xSens, h5]; done)) rfl (by first | rfl | (simp [xSens, h5]; done))
  · refine j_aload_n E dX2_isSensor_8 rfl rfl ?_
    refine j_getI (ci := 2) (k := 0) (Cn := RX2) (T := TX2) (N := 11) E dX2_isSensor_9 (by assumption) (by assumption) rfl (by decide) hinX2 (by decide +kernel) rfl ?_
    refine j_iconst (v := 3) E dX2_isSensor_12 (by decide) ?_
    refine j_icmp_gt (tgt := 20) E dX2_isSensor_13 (by decide) (fun h13 => ?_) (fun h13 => ?_)
    · refine j_iconst (v := 0) E dX2_isSensor_20 (by decide) ?_
      exact j_zret E dX2_isSensor_21 rfl (by first | rfl | (simp [xSens, h5, h13]; done)) rfl (by first | rfl | (simp [xSens, h5, h13]; done))
    · refine j_iconst (v := 1) E dX2_isSensor_16 (by decide) ?_
      refine j_goto (tgt := 21) E dX2_isSensor_17 (by decide) ?_
      exact j_zret E dX2_isSensor_21 rfl (by first | rfl | (simp [xSens, h5, h13]; done)) rfl (by first | rfl | (simp [xSens, h5, h13]; done))

set_option maxHeartbeats 4000000 in
set_option maxRecDepth 100000 in
theorem k_X2_watches {l : Launch} {D : va_G} {cy : Nat → ClassId} {X : va_W} {G : pG} {M : pM} {p : Nat} {z : Int32} (hL : p ∈ G.1) (hK : G.2.1 p = 2) : jK l yX2_watches wsX2_watches ({ frames := 1, cells := 0, slots := 0, locals := 20 } : Room) D cy X G M [.ref p, .int z] (some (.int (xWat M p z))) X M := by
  refine jK_of (own := RX2) (by decide) rfl rfl (Nat.le_of_ble_eq_true rfl) (fun C E hl hD hcy hG => ?_)
  subst hl; subst hD; subst hcy; subst hG
  have hinX2 : ∀ w ∈ u_ws RX2 TX2 11, w ∈ wsX2_watches := by decide +kernel
  refine j_aload_n E dX2_watches_0 rfl rfl ?_
  refine j_callV1 (ci := 2) (n := 0) E (k_X2_isSensor (by assumption) (by assumption)) dX2_watches_1 gX2_watches_X2_isSensor rfl (by decide +kernel) ⟨rfl, rfl, by decide, by decide⟩ ⟨Nat.zero_le _, Nat.zero_le _⟩ (by assumption) (by assumption) rfl rfl rfl (Nat.le_of_ble_eq_true rfl) rfl ?_
  refine j_if_eq (tgt := 26) E dX2_watches_4 (by decide) (fun h4 => ?_) (fun h4 => ?_)
  · refine j_iconst (v := 0) E dX2_watches_26 (by decide) ?_
    exact j_zret E dX2_watches_27 rfl (by first | rfl | (simp [xWat, h4]; done)) rfl (by first | rfl | (simp [xWat, h4]; done))
  · refine j_aload_n E dX2_watches_7 rfl rfl ?_
    refine j_getI (ci := 2) (k := 1) (Cn := RX2) (T := TX2) (N := 11) E dX2_watches_8 (by assumption) (by assumption) rfl (by decide) hinX2 (by decide +kernel) rfl ?_
    refine j_iload_n E dX2_watches_11 rfl rfl ?_
    refine j_icmp_ne (tgt := 26) E dX2_watches_12 (by decide) (fun h12 => ?_) (fun h12 => ?_)
    · refine j_iconst (v := 0) E dX2_watches_26 (by decide) ?_
      exact j_zret E dX2_watches_27 rfl (by first | rfl | (simp [xWat, h4, h12]; done)) rfl (by first | rfl | (simp [xWat, h4, h12]; done))
    · refine j_aload_n E dX2_watches_15 rfl rfl ?_
      refine j_getI (ci := 2) (k := 10) (Cn := RX2) (T := TX2) (N := 11) E dX2_watches_16 (by assumption) (by assumption) rfl (by decide) hinX2 (by decide +kernel) rfl ?_
      refine j_if_ne (tgt := 26) E dX2_watches_19 (by decide) (fun h19 => ?_) (fun h19 => ?_)
      · refine j_iconst (v := 0) E dX2_watches_26 (by decide) ?_
        exact j_zret E dX2_watches_27 rfl (by first | rfl | (simp [xWat, h4, h12, h19]; done)) rfl (by first | rfl | (simp [xWat, h4, h12, h19]; done))
      · refine j_iconst (v := 1) E dX2_watches_22 (by decide) ?_
        refine j_goto (tgt := 27) E dX2_watches_23 (by decide) ?_
        exact j_zret E dX2_watches_27 rfl (by first | rfl | (simp [xWat, h4, h12, h19]; done)) rfl (by first | rfl | (simp [xWat, h4, h12, h19]; done))

set_option maxHeartbeats 4000000 in
set_option maxRecDepth 100000 in
theorem k_X2_warns {l : Launch} {D : va_G} {cy : Nat → ClassId} {X : va_W} {G : pG} {M : pM} {p : Nat} (hL : p ∈ G.1) (hK : G.2.1 p = 2) (hf : vf_n32 (FP.fmul (M.2 p 2) 1061158912)) : jK l yX2_warns wsX2_warns ({ frames := 0, cells := 0, slots := 0, locals := 0 } : Room) D cy X G M [.ref p] (some (.int (xWarn M p))) X M := by
  refine jK_of (own := RX2) (by decide) rfl rfl (Nat.le_of_ble_eq_true rfl) (fun C E hl hD hcy hG => ?_)
  subst hl; subst hD; subst hcy; subst hG
  have hinX2 : ∀ w ∈ u_ws RX2 TX2 11, w ∈ wsX2_warns := by decide +kernel
  refine j_aload_n E dX2_warns_0 rfl rfl ?_
  refine j_getI (ci := 2) (k := 7) (Cn := RX2) (T := TX2) (N := 11) E dX2_warns_1 (by assumption) (by assumption) rfl (by decide) hinX2 (by decide +kernel) rfl ?_
  refine j_if_ne (tgt := 30) E dX2_warns_4 (by decide) (fun h4 => ?_) (fun h4 => ?_)
  · refine j_iconst (v := 1) E dX2_warns_30 (by decide) ?_
    refine j_goto (tgt := 35) E dX2_warns_31 (by decide) ?_
    exact j_zret E dX2_warns_35 rfl (by first | rfl | (simp [xWarn, h4]; done)) rfl (by first | rfl | (simp [xWarn, h4]; done))
  · refine j_aload_n E dX2_warns_7 rfl rfl ?_
    refine j_getI (ci := 2) (k := 0) (Cn := RX2) (T := TX2) (N := 11) E dX2_warns_8 (by assumption) (by assumption) rfl (by decide) hinX2 (by decide +kernel) rfl ?_
    refine j_iconst (v := 1) E dX2_warns_11 (by decide) ?_
    refine j_icmp_ne (tgt := 34) E dX2_warns_12 (by decide) (fun h12 => ?_) (fun h12 => ?_)
    · refine j_iconst (v := 0) E dX2_warns_34 (by decide) ?_
      exact j_zret E dX2_warns_35 rfl (by first | rfl | (simp [xWarn, h4, h12]; done)) rfl (by first | rfl | (simp [xWarn, h4, h12]; done))
    · refine j_aload_n E dX2_warns_15 rfl rfl ?_
      refine j_getF (ci := 2) (k := 5) (Cn := RX2) (T := TX2) (N := 11) E dX2_warns_16 (by assumption) (by assumption) rfl (by decide) hinX2 (by decide +kernel) rfl ?_
      refine j_aload_n E dX2_warns_19 rfl rfl ?_
      refine j_getF (ci := 2) (k := 2) (Cn := RX2) (T := TX2) (N := 11) E dX2_warns_20 (by assumption) (by assumption) rfl (by decide) hinX2 (by decide +kernel) rfl ?_
      refine j_ldcf (v := 1061158912) E (by decide +kernel) dX2_warns_23 ?_
      refine j_fmul E dX2_warns_25 (by assumption) ?_
      refine j_fcmp E dX2_warns_26 ?_
      refine j_if_lt (tgt := 34) E dX2_warns_27 (by decide) (fun h27 => ?_) (fun h27 => ?_)
      · refine j_iconst (v := 0) E dX2_warns_34 (by decide) ?_
        exact j_zret E dX2_warns_35 rfl (by first | rfl | (simp [xWarn, h4, h12, h27]; done)) rfl (by first | rfl | (simp [xWarn, h4, h12, h27]; done))
      · refine j_iconst (v := 1) E dX2_warns_30 (by decide) ?_
        refine j_goto (tgt := 35) E dX2_warns_31 (by decide) ?_
        exact j_zret E dX2_warns_35 rfl (by first | rfl | (simp [xWarn, h4, h12, h27]; done)) rfl (by first | rfl | (simp [xWarn, h4, h12, h27]; done))

set_option maxHeartbeats 4000000 in
set_option maxRecDepth 100000 in
theorem k_X2_calmDown {l : Launch} {D : va_G} {cy : Nat → ClassId} {X : va_W} {G : pG} {M : pM} {p : Nat} (hL : p ∈ G.1) (hK : G.2.1 p = 2) : jK l yX2_calmDown wsX2_calmDown ({ frames := 0, cells := 0, slots := 0, locals := 0 } : Room) D cy X G M [.ref p] none X (xCalm M p) := by
  refine jK_of (own := RX2) (by decide) rfl rfl (Nat.le_of_ble_eq_true rfl) (fun C E hl hD hcy hG => ?_)
  subst hl; subst hD; subst hcy; subst hG
  have hinX2 : ∀ w ∈ u_ws RX2 TX2 11, w ∈ wsX2_calmDown := by decide +kernel
  refine j_aload_n E dX2_calmDown_0 rfl rfl ?_
  refine j_iconst (v := 0) E dX2_calmDown_1 (by decide) ?_
  refine j_putI (ci := 2) (k := 7) (Cn := RX2) (T := TX2) (N := 11) E dX2_calmDown_2 (by assumption) (by assumption) rfl (by decide) hinX2 (by decide +kernel) rfl tyX2 tyX2_ok nmX2 rfl rfl rfl rfl ?_
  refine j_aload_n E dX2_calmDown_5 rfl rfl ?_
  refine j_iconst (v := 0) E dX2_calmDown_6 (by decide) ?_
  refine j_putI (ci := 2) (k := 6) (Cn := RX2) (T := TX2) (N := 11) E dX2_calmDown_7 (by assumption) (by assumption) rfl (by decide) hinX2 (by decide +kernel) rfl tyX2 tyX2_ok nmX2 rfl rfl rfl rfl ?_
  exact j_vret E dX2_calmDown_10 rfl (by rfl)

set_option maxHeartbeats 4000000 in
set_option maxRecDepth 100000 in
theorem k_X2_countOver {l : Launch} {D : va_G} {cy : Nat → ClassId} {X : va_W} {G : pG} {M : pM} {p : Nat} (hL : p ∈ G.1) (hK : G.2.1 p = 2) : jK l yX2_countOver wsX2_countOver ({ frames := 0, cells := 0, slots := 0, locals := 0 } : Room) D cy X G M [.ref p] none X (xCount M p) := by
  refine jK_of (own := RX2) (by decide) rfl rfl (Nat.le_of_ble_eq_true rfl) (fun C E hl hD hcy hG => ?_)
  subst hl; subst hD; subst hcy; subst hG
  have hinX2 : ∀ w ∈ u_ws RX2 TX2 11, w ∈ wsX2_countOver := by decide +kernel
  refine j_aload_n E dX2_countOver_0 rfl rfl ?_
  refine j_aload_n E dX2_countOver_1 rfl rfl ?_
  refine j_getF (ci := 2) (k := 5) (Cn := RX2) (T := TX2) (N := 11) E dX2_countOver_2 (by assumption) (by assumption) rfl (by decide) hinX2 (by decide +kernel) rfl ?_
  refine j_aload_n E dX2_countOver_5 rfl rfl ?_
  refine j_getF (ci := 2) (k := 2) (Cn := RX2) (T := TX2) (N := 11) E dX2_countOver_6 (by assumption) (by assumption) rfl (by decide) hinX2 (by decide +kernel) rfl ?_
  refine j_fcmp E dX2_countOver_9 ?_
  refine j_if_lt (tgt := 22) E dX2_countOver_10 (by decide) (fun h10 => ?_) (fun h10 => ?_)
  · refine j_iconst (v := 0) E dX2_countOver_22 (by decide) ?_
    refine j_putI (ci := 2) (k := 6) (Cn := RX2) (T := TX2) (N := 11) E dX2_countOver_23 (by assumption) (by assumption) rfl (by decide) hinX2 (by decide +kernel) rfl tyX2 tyX2_ok nmX2 rfl rfl rfl rfl ?_
    exact j_vret E dX2_countOver_26 rfl (by first | rfl | (simp [xCount, h10]; done))
  · refine j_aload_n E dX2_countOver_13 rfl rfl ?_
    refine j_getI (ci := 2) (k := 6) (Cn := RX2) (T := TX2) (N := 11) E dX2_countOver_14 (by assumption) (by assumption) rfl (by decide) hinX2 (by decide +kernel) rfl ?_
    refine j_iconst (v := 1) E dX2_countOver_17 (by decide) ?_
    refine j_iadd E dX2_countOver_18 ?_
    refine j_goto (tgt := 23) E dX2_countOver_19 (by decide) ?_
    refine j_putI (ci := 2) (k := 6) (Cn := RX2) (T := TX2) (N := 11) E dX2_countOver_23 (by assumption) (by assumption) rfl (by decide) hinX2 (by decide +kernel) rfl tyX2 tyX2_ok nmX2 rfl rfl rfl rfl ?_
    exact j_vret E dX2_countOver_26 rfl (by first | rfl | (simp [xCount, h10]; done))

set_option maxHeartbeats 4000000 in
set_option maxRecDepth 100000 in
theorem k_X2_senseSmoke {l : Launch} {D : va_G} {cy : Nat → ClassId} {X : va_W} {G : pG} {M : pM} {p : Nat} (hL : p ∈ G.1) (hK : G.2.1 p = 2) (hok : okSmoke M p) : jK l yX2_senseSmoke wsX2_senseSmoke ({ frames := 1, cells := 0, slots := 0, locals := 20 } : Room) D cy X G M [.ref p] none X (xSmoke M p) := by
  refine jK_of (own := RX2) (by decide) rfl rfl (Nat.le_of_ble_eq_true rfl) (fun C E hl hD hcy hG => ?_)
  subst hl; subst hD; subst hcy; subst hG
  have hinX2 : ∀ w ∈ u_ws RX2 TX2 11, w ∈ wsX2_senseSmoke := by decide +kernel
  obtain ⟨f1, f2, f3, f4, f5, f6⟩ := hok
  refine j_aload_n E dX2_senseSmoke_0 rfl rfl ?_
  refine j_getF (ci := 2) (k := 3) (Cn := RX2) (T := TX2) (N := 11) E dX2_senseSmoke_1 (by assumption) (by assumption) rfl (by decide) hinX2 (by decide +kernel) rfl ?_
  refine j_aload_n E dX2_senseSmoke_4 rfl rfl ?_
  refine j_getF (ci := 2) (k := 4) (Cn := RX2) (T := TX2) (N := 11) E dX2_senseSmoke_5 (by assumption) (by assumption) rfl (by decide) hinX2 (by decide +kernel) rfl ?_
  refine j_fsub E dX2_senseSmoke_8 (by assumption) ?_
  refine j_fstore_n E dX2_senseSmoke_9 rfl (by decide) ?_
  refine j_aload_n E dX2_senseSmoke_10 rfl rfl ?_
  refine j_aload_n E dX2_senseSmoke_11 rfl rfl ?_
  refine j_getF (ci := 2) (k := 5) (Cn := RX2) (T := TX2) (N := 11) E dX2_senseSmoke_12 (by assumption) (by assumption) rfl (by decide) hinX2 (by decide +kernel) rfl ?_
  refine j_fload_n E dX2_senseSmoke_15 rfl rfl ?_
  refine j_aload_n E dX2_senseSmoke_16 rfl rfl ?_
  refine j_getF (ci := 2) (k := 5) (Cn := RX2) (T := TX2) (N := 11) E dX2_senseSmoke_17 (by assumption) (by assumption) rfl (by decide) hinX2 (by decide +kernel) rfl ?_
  refine j_fsub E dX2_senseSmoke_20 (by assumption) ?_
  refine j_ldcf (v := 1056964608) E (by decide +kernel) dX2_senseSmoke_21 ?_
  refine j_fmul E dX2_senseSmoke_23 (by assumption) ?_
  refine j_fadd E dX2_senseSmoke_24 (by assumption) ?_
  refine j_putF (ci := 2) (k := 5) (Cn := RX2) (T := TX2) (N := 11) E dX2_senseSmoke_25 (by assumption) (by assumption) rfl (by decide) hinX2 (by decide +kernel) rfl tyX2 tyX2_ok nmX2 rfl rfl rfl rfl ?_
  refine j_aload_n E dX2_senseSmoke_28 rfl rfl ?_
  refine j_callV0 (ci := 2) (n := 0) E (k_X2_countOver (by assumption) (by assumption)) dX2_senseSmoke_29 gX2_senseSmoke_X2_countOver rfl (by decide +kernel) ⟨rfl, rfl, by decide, by decide⟩ ⟨Nat.zero_le _, Nat.zero_le _⟩ (by assumption) (by assumption) rfl rfl rfl (Nat.le_of_ble_eq_true rfl) rfl ?_
  refine j_aload_n E dX2_senseSmoke_32 rfl rfl ?_
  refine j_getI (ci := 2) (k := 6) (Cn := RX2) (T := TX2) (N := 11) E dX2_senseSmoke_33 (by assumption) (by assumption) rfl (by decide) hinX2 (by decide +kernel) rfl ?_
  try simp only [pI_rd, pF_rd, pR_rd, pI_2, pF_1, pR_2, Nat.reduceEqDiff, ↓reduceIte, xCount_2]
  refine j_if_ne (tgt := 52) E dX2_senseSmoke_36 (by decide) (fun h36 => ?_) (fun h36 => ?_)
  · exact j_vret E dX2_senseSmoke_52 rfl (by first | rfl | (simp [xSmoke, h36]; done))
  · refine j_aload_n E dX2_senseSmoke_39 rfl rfl ?_
    refine j_aload_n E dX2_senseSmoke_40 rfl rfl ?_
    refine j_getF (ci := 2) (k := 4) (Cn := RX2) (T := TX2) (N := 11) E dX2_senseSmoke_41 (by assumption) (by assumption) rfl (by decide) hinX2 (by decide +kernel) rfl ?_
    try simp only [pI_rd, pF_rd, pR_rd, pI_2, pF_1, pR_2, Nat.reduceEqDiff, ↓reduceIte, xCount_2]
    refine j_fload_n E dX2_senseSmoke_44 rfl rfl ?_
    refine j_ldcf (v := 1031798784) E (by decide +kernel) dX2_senseSmoke_45 ?_
    refine j_fmul E dX2_senseSmoke_47 (by assumption) ?_
    refine j_fadd E dX2_senseSmoke_48 (by assumption) ?_
    refine j_putF (ci := 2) (k := 4) (Cn := RX2) (T := TX2) (N := 11) E dX2_senseSmoke_49 (by assumption) (by assumption) rfl (by decide) hinX2 (by decide +kernel) rfl tyX2 tyX2_ok nmX2 rfl rfl rfl rfl ?_
    exact j_vret E dX2_senseSmoke_52 rfl (by first | rfl | (simp [xSmoke, h36]; done))

set_option maxHeartbeats 4000000 in
set_option maxRecDepth 100000 in
theorem k_X2_senseHeat {l : Launch} {D : va_G} {cy : Nat → ClassId} {X : va_W} {G : pG} {M : pM} {p : Nat} (hL : p ∈ G.1) (hK : G.2.1 p = 2) (hok : okHeat M p) : jK l yX2_senseHeat wsX2_senseHeat ({ frames := 1, cells := 0, slots := 0, locals := 20 } : Room) D cy X G M [.ref p] none X (xHeat M p) := by
  refine jK_of (own := RX2) (by decide) rfl rfl (Nat.le_of_ble_eq_true rfl) (fun C E hl hD hcy hG => ?_)
  subst hl; subst hD; subst hcy; subst hG
  have hinX2 : ∀ w ∈ u_ws RX2 TX2 11, w ∈ wsX2_senseHeat := by decide +kernel
  obtain ⟨f1, f2, f3, f4⟩ := hok
  refine j_aload_n E dX2_senseHeat_0 rfl rfl ?_
  refine j_aload_n E dX2_senseHeat_1 rfl rfl ?_
  refine j_getF (ci := 2) (k := 3) (Cn := RX2) (T := TX2) (N := 11) E dX2_senseHeat_2 (by assumption) (by assumption) rfl (by decide) hinX2 (by decide +kernel) rfl ?_
  refine j_aload_n E dX2_senseHeat_5 rfl rfl ?_
  refine j_getF (ci := 2) (k := 4) (Cn := RX2) (T := TX2) (N := 11) E dX2_senseHeat_6 (by assumption) (by assumption) rfl (by decide) hinX2 (by decide +kernel) rfl ?_
  refine j_fsub E dX2_senseHeat_9 (by assumption) ?_
  refine j_ldcf (v := 1082130432) E (by decide +kernel) dX2_senseHeat_10 ?_
  refine j_fmul E dX2_senseHeat_12 (by assumption) ?_
  refine j_aload_n E dX2_senseHeat_13 rfl rfl ?_
  refine j_getF (ci := 2) (k := 3) (Cn := RX2) (T := TX2) (N := 11) E dX2_senseHeat_14 (by assumption) (by assumption) rfl (by decide) hinX2 (by decide +kernel) rfl ?_
  refine j_ldcf (v := 1048576000) E (by decide +kernel) dX2_senseHeat_17 ?_
  refine j_fmul E dX2_senseHeat_19 (by assumption) ?_
  refine j_fadd E dX2_senseHeat_20 (by assumption) ?_
  refine j_putF (ci := 2) (k := 5) (Cn := RX2) (T := TX2) (N := 11) E dX2_senseHeat_21 (by assumption) (by assumption) rfl (by decide) hinX2 (by decide +kernel) rfl tyX2 tyX2_ok nmX2 rfl rfl rfl rfl ?_
  refine j_aload_n E dX2_senseHeat_24 rfl rfl ?_
  refine j_aload_n E dX2_senseHeat_25 rfl rfl ?_
  refine j_getF (ci := 2) (k := 3) (Cn := RX2) (T := TX2) (N := 11) E dX2_senseHeat_26 (by assumption) (by assumption) rfl (by decide) hinX2 (by decide +kernel) rfl ?_
  try simp only [pI_rd, pF_rd, pR_rd, pI_2, pF_1, pR_2, Nat.reduceEqDiff, ↓reduceIte]
  refine j_putF (ci := 2) (k := 4) (Cn := RX2) (T := TX2) (N := 11) E dX2_senseHeat_29 (by assumption) (by assumption) rfl (by decide) hinX2 (by decide +kernel) rfl tyX2 tyX2_ok nmX2 rfl rfl rfl rfl ?_
  refine j_aload_n E dX2_senseHeat_32 rfl rfl ?_
  refine j_callV0 (ci := 2) (n := 0) E (k_X2_countOver (by assumption) (by assumption)) dX2_senseHeat_33 gX2_senseHeat_X2_countOver rfl (by decide +kernel) ⟨rfl, rfl, by decide, by decide⟩ ⟨Nat.zero_le _, Nat.zero_le _⟩ (by assumption) (by assumption) rfl rfl rfl (Nat.le_of_ble_eq_true rfl) rfl ?_
  exact j_vret E dX2_senseHeat_36 rfl (by rfl)

set_option maxHeartbeats 4000000 in
set_option maxRecDepth 100000 in
theorem k_X2_senseButton {l : Launch} {D : va_G} {cy : Nat → ClassId} {X : va_W} {G : pG} {M : pM} {p : Nat} (hL : p ∈ G.1) (hK : G.2.1 p = 2) : jK l yX2_senseButton wsX2_senseButton ({ frames := 0, cells := 0, slots := 0, locals := 0 } : Room) D cy X G M [.ref p] none X (xBut M p) := by
  refine jK_of (own := RX2) (by decide) rfl rfl (Nat.le_of_ble_eq_true rfl) (fun C E hl hD hcy hG => ?_)
  subst hl; subst hD; subst hcy; subst hG
  have hinX2 : ∀ w ∈ u_ws RX2 TX2 11, w ∈ wsX2_senseButton := by decide +kernel
  refine j_aload_n E dX2_senseButton_0 rfl rfl ?_
  refine j_getF (ci := 2) (k := 3) (Cn := RX2) (T := TX2) (N := 11) E dX2_senseButton_1 (by assumption) (by assumption) rfl (by decide) hinX2 (by decide +kernel) rfl ?_
  refine j_fconst0 E dX2_senseButton_4 ?_
  refine j_fcmp E dX2_senseButton_5 ?_
  refine j_if_le (tgt := 14) E dX2_senseButton_6 (by decide) (fun h6 => ?_) (fun h6 => ?_)
  · refine j_aload_n E dX2_senseButton_14 rfl rfl ?_
    refine j_aload_n E dX2_senseButton_15 rfl rfl ?_
    refine j_getF (ci := 2) (k := 3) (Cn := RX2) (T := TX2) (N := 11) E dX2_senseButton_16 (by assumption) (by assumption) rfl (by decide) hinX2 (by decide +kernel) rfl ?_
    refine j_putF (ci := 2) (k := 5) (Cn := RX2) (T := TX2) (N := 11) E dX2_senseButton_19 (by assumption) (by assumption) rfl (by decide) hinX2 (by decide +kernel) rfl tyX2 tyX2_ok nmX2 rfl rfl rfl rfl ?_
    exact j_vret E dX2_senseButton_22 rfl (by first | rfl | (simp [xBut, h6]; done))
  · refine j_aload_n E dX2_senseButton_9 rfl rfl ?_
    refine j_iconst (v := 3) E dX2_senseButton_10 (by decide) ?_
    refine j_putI (ci := 2) (k := 6) (Cn := RX2) (T := TX2) (N := 11) E dX2_senseButton_11 (by assumption) (by assumption) rfl (by decide) hinX2 (by decide +kernel) rfl tyX2 tyX2_ok nmX2 rfl rfl rfl rfl ?_
    refine j_aload_n E dX2_senseButton_14 rfl rfl ?_
    refine j_aload_n E dX2_senseButton_15 rfl rfl ?_
    refine j_getF (ci := 2) (k := 3) (Cn := RX2) (T := TX2) (N := 11) E dX2_senseButton_16 (by assumption) (by assumption) rfl (by decide) hinX2 (by decide +kernel) rfl ?_
    try simp only [pI_rd, pF_rd, pR_rd, pI_2, pF_1, pR_2, Nat.reduceEqDiff, ↓reduceIte]
    refine j_putF (ci := 2) (k := 5) (Cn := RX2) (T := TX2) (N := 11) E dX2_senseButton_19 (by assumption) (by assumption) rfl (by decide) hinX2 (by decide +kernel) rfl tyX2 tyX2_ok nmX2 rfl rfl rfl rfl ?_
    exact j_vret E dX2_senseButton_22 rfl (by first | rfl | (simp [xBut, h6]; done))

set_option maxHeartbeats 4000000 in
set_option maxRecDepth 100000 in
theorem k_X2_sense {l : Launch} {D : va_G} {cy : Nat → ClassId} {X : va_W} {G : pG} {M : pM} {p : Nat} (hL : p ∈ G.1) (hK : G.2.1 p = 2) (hs : M.1 p 0 = 1 → okSmoke M p) (hh : M.1 p 0 = 2 → okHeat M p) : jK l yX2_sense wsX2_sense ({ frames := 2, cells := 0, slots := 0, locals := 41 } : Room) D cy X G M [.ref p] none X (xSense M p) := by
  refine jK_of (own := RX2) (by decide) rfl rfl (Nat.le_of_ble_eq_true rfl) (fun C E hl hD hcy hG => ?_)
  subst hl; subst hD; subst hcy; subst hG
  have hinX2 : ∀ w ∈ u_ws RX2 TX2 11, w ∈ wsX2_sense := by decide +kernel
  refine j_aload_n E dX2_sense_0 rfl rfl ?_
  refine j_getI (ci := 2) (k := 0) (Cn := RX2) (T := TX2) (N := 11) E dX2_sense_1 (by assumption) (by assumption) rfl (by decide) hinX2 (by decide +kernel) rfl ?_
  refine j_iconst (v := 1) E dX2_sense_4 (by decide) ?_
  refine j_icmp_ne (tgt := 15) E dX2_sense_5 (by decide) (fun h5 => ?_) (fun h5 => ?_)
  · refine j_aload_n E dX2_sense_15 rfl rfl ?_
    refine j_getI (ci := 2) (k := 0) (Cn := RX2) (T := TX2) (N := 11) E dX2_sense_16 (by assumption) (by assumption) rfl (by decide) hinX2 (by decide +kernel) rfl ?_
    refine j_iconst (v := 2) E dX2_sense_19 (by decide) ?_
    refine j_icmp_ne (tgt := 30) E dX2_sense_20 (by decide) (fun h20 => ?_) (fun h20 => ?_)
    · refine j_aload_n E dX2_sense_30 rfl rfl ?_
      refine j_callV0 (ci := 2) (n := 0) E (k_X2_senseButton (by assumption) (by assumption)) dX2_sense_31 gX2_sense_X2_senseButton rfl (by decide +kernel) ⟨rfl, rfl, by decide, by decide⟩ ⟨Nat.zero_le _, Nat.zero_le _⟩ (by assumption) (by assumption) rfl rfl rfl (Nat.le_of_ble_eq_true rfl) rfl ?_
      refine j_aload_n E dX2_sense_34 rfl rfl ?_
      refine j_getI (ci := 2) (k := 6) (Cn := RX2) (T := TX2) (N := 11) E dX2_sense_35 (by assumption) (by assumption) rfl (by decide) hinX2 (by decide +kernel) rfl ?_
      refine j_iconst (v := 3) E dX2_sense_38 (by decide) ?_
      refine j_icmp_lt (tgt := 47) E dX2_sense_39 (by decide) (fun h39 => ?_) (fun h39 => ?_)
      · exact j_vret E dX2_sense_47 rfl (by simp [xSense, xSn1, *])
      · refine j_aload_n E dX2_sense_42 rfl rfl ?_
        refine j_iconst (v := 1) E dX2_sense_43 (by decide) ?_
        refine j_putI (ci := 2) (k := 7) (Cn := RX2) (T := TX2) (N := 11) E dX2_sense_44 (by assumption) (by assumption) rfl (by decide) hinX2 (by decide +kernel) rfl tyX2 tyX2_ok nmX2 rfl rfl rfl rfl ?_
        exact j_vret E dX2_sense_47 rfl (by simp [xSense, xSn1, *])
    · refine j_aload_n E dX2_sense_23 rfl rfl ?_
      refine j_callV0 (ci := 2) (n := 0) E (k_X2_senseHeat (by assumption) (by assumption) (hh h20)) dX2_sense_24 gX2_sense_X2_senseHeat rfl (by decide +kernel) ⟨rfl, rfl, by decide, by decide⟩ ⟨Nat.zero_le _, Nat.zero_le _⟩ (by assumption) (by assumption) rfl rfl rfl (Nat.le_of_ble_eq_true rfl) rfl ?_
      refine j_goto (tgt := 34) E dX2_sense_27 (by decide) ?_
      refine j_aload_n E dX2_sense_34 rfl rfl ?_
      refine j_getI (ci := 2) (k := 6) (Cn := RX2) (T := TX2) (N := 11) E dX2_sense_35 (by assumption) (by assumption) rfl (by decide) hinX2 (by decide +kernel) rfl ?_
      refine j_iconst (v := 3) E dX2_sense_38 (by decide) ?_
      refine j_icmp_lt (tgt := 47) E dX2_sense_39 (by decide) (fun h39 => ?_) (fun h39 => ?_)
      · exact j_vret E dX2_sense_47 rfl (by simp [xSense, xSn1, *])
      · refine j_aload_n E dX2_sense_42 rfl rfl ?_
        refine j_iconst (v := 1) E dX2_sense_43 (by decide) ?_
        refine j_putI (ci := 2) (k := 7) (Cn := RX2) (T := TX2) (N := 11) E dX2_sense_44 (by assumption) (by assumption) rfl (by decide) hinX2 (by decide +kernel) rfl tyX2 tyX2_ok nmX2 rfl rfl rfl rfl ?_
        exact j_vret E dX2_sense_47 rfl (by simp [xSense, xSn1, *])
  · refine j_aload_n E dX2_sense_8 rfl rfl ?_
    refine j_callV0 (ci := 2) (n := 0) E (k_X2_senseSmoke (by assumption) (by assumption) (hs h5)) dX2_sense_9 gX2_sense_X2_senseSmoke rfl (by decide +kernel) ⟨rfl, rfl, by decide, by decide⟩ ⟨Nat.zero_le _, Nat.zero_le _⟩ (by assumption) (by assumption) rfl rfl rfl (Nat.le_of_ble_eq_true rfl) rfl ?_
    refine j_goto (tgt := 34) E dX2_sense_12 (by decide) ?_
    refine j_aload_n E dX2_sense_34 rfl rfl ?_
    refine j_getI (ci := 2) (k := 6) (Cn := RX2) (T := TX2) (N := 11) E dX2_sense_35 (by assumption) (by assumption) rfl (by decide) hinX2 (by decide +kernel) rfl ?_
    refine j_iconst (v := 3) E dX2_sense_38 (by decide) ?_
    refine j_icmp_lt (tgt := 47) E dX2_sense_39 (by decide) (fun h39 => ?_) (fun h39 => ?_)
    · exact j_vret E dX2_sense_47 rfl (by simp [xSense, xSn1, *])
    · refine j_aload_n E dX2_sense_42 rfl rfl ?_
      refine j_iconst (v := 1) E dX2_sense_43 (by decide) ?_
      refine j_putI (ci := 2) (k := 7) (Cn := RX2) (T := TX2) (N := 11) E dX2_sense_44 (by assumption) (by assumption) rfl (by decide) hinX2 (by decide +kernel) rfl tyX2 tyX2_ok nmX2 rfl rfl rfl rfl ?_
      exact j_vret E dX2_sense_47 rfl (by simp [xSense, xSn1, *])
