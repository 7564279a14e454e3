/-! The class's methods that throw. -/

set_option maxHeartbeats 1600000 in
set_option maxRecDepth 100000 in
theorem k_X6_mustExist_ok {l : Launch} (hlt : l.stackTraces = false) {D : va_G} {cy : Nat → ClassId} {X : va_W} {G : pG} {M : pM} {n b : Int32} (hc : ¬ n < 0 ∧ n < b) : jKX l yX6_mustExist wsX6_mustExist ({ frames := 6, cells := 1, slots := 6, locals := 90 } : Room) D cy X G M [.int n, .int b] (.inl (none, M)) 1 6 := by
  refine jKX_of hlt (own := RX6) (by decide) rfl rfl (Nat.le_of_ble_eq_true rfl) (fun C E hT hl hD hcy hG => ?_)
  subst hl; subst hD; subst hcy; subst hG

  obtain ⟨c1, c2⟩ := hc
  refine j_iload_n E dX6_mustExist_0 rfl rfl ?_
  refine j_if_lt (tgt := 9) E dX6_mustExist_1 (by decide) (fun h1 => ?_) (fun h1 => ?_)
  · exact absurd h1 c1
  · refine j_iload_n E dX6_mustExist_4 rfl rfl ?_
    refine j_iload_n E dX6_mustExist_5 rfl rfl ?_
    refine j_icmp_lt (tgt := 19) E dX6_mustExist_6 (by decide) (fun h6 => ?_) (fun h6 => ?_)
    · refine j_o ?_ (jX_ret (j_widen (by decide) (by decide) (j_vret E dX6_mustExist_19 rfl rfl)))
      rfl
    · exact absurd c2 h6

set_option maxHeartbeats 1600000 in
set_option maxRecDepth 100000 in
theorem k_X6_mustExist_no {l : Launch} (hlt : l.stackTraces = false) {D : va_G} {cy : Nat → ClassId} {X : va_W} {G : pG} {M : pM} {n b : Int32} (hc : ¬ (¬ n < 0 ∧ n < b)) : jKX l yX6_mustExist wsX6_mustExist ({ frames := 6, cells := 1, slots := 6, locals := 90 } : Room) D cy X G M [.int n, .int b] (.inr xNSE) 1 6 := by
  refine jKX_of hlt (own := RX6) (by decide) rfl rfl (Nat.le_of_ble_eq_true rfl) (fun C E hT hl hD hcy hG => ?_)
  subst hl; subst hD; subst hcy; subst hG

  refine j_iload_n E dX6_mustExist_0 rfl rfl ?_
  refine j_if_lt (tgt := 9) E dX6_mustExist_1 (by decide) (fun h1 => ?_) (fun h1 => ?_)
  · exact j_o (by simp [xNSE, h1]) (j_throwX (cls := xNSE) (ix := 13) (rx := rxN) (names := ["java/lang/RuntimeException", "java/lang/Exception"]) E hT (by decide +kernel) (by decide +kernel) (by decide +kernel) (by decide +kernel) (by decide +kernel) (by decide +kernel) (by decide +kernel) (by decide +kernel) hT.2.2.2.2.2.2.1 (by decide +kernel) (by decide +kernel) (by decide +kernel) dX6_mustExist_9 dX6_mustExist_12 dX6_mustExist_13 dX6_mustExist_15 dX6_mustExist_18 (by decide) (Nat.le_of_ble_eq_true rfl) (by decide) (by decide) (by decide) (by decide))
  · refine j_iload_n E dX6_mustExist_4 rfl rfl ?_
    refine j_iload_n E dX6_mustExist_5 rfl rfl ?_
    refine j_icmp_lt (tgt := 19) E dX6_mustExist_6 (by decide) (fun h6 => ?_) (fun h6 => ?_)
    · exact absurd ⟨h1, h6⟩ hc
    · exact j_o (by simp [xNSE, h1, h6]) (j_throwX (cls := xNSE) (ix := 13) (rx := rxN) (names := ["java/lang/RuntimeException", "java/lang/Exception"]) E hT (by decide +kernel) (by decide +kernel) (by decide +kernel) (by decide +kernel) (by decide +kernel) (by decide +kernel) (by decide +kernel) (by decide +kernel) hT.2.2.2.2.2.2.1 (by decide +kernel) (by decide +kernel) (by decide +kernel) dX6_mustExist_9 dX6_mustExist_12 dX6_mustExist_13 dX6_mustExist_15 dX6_mustExist_18 (by decide) (Nat.le_of_ble_eq_true rfl) (by decide) (by decide) (by decide) (by decide))

set_option maxHeartbeats 1600000 in
set_option maxRecDepth 100000 in
theorem k_X6_mustBeAllowed_ok {l : Launch} (hlt : l.stackTraces = false) {D : va_G} {cy : Nat → ClassId} {X : va_W} {G : pG} {M : pM} {v : Int32} (hc : ¬ v = 0) : jKX l yX6_mustBeAllowed wsX6_mustBeAllowed ({ frames := 6, cells := 1, slots := 6, locals := 90 } : Room) D cy X G M [.int v] (.inl (none, M)) 1 6 := by
  refine jKX_of hlt (own := RX6) (by decide) rfl rfl (Nat.le_of_ble_eq_true rfl) (fun C E hT hl hD hcy hG => ?_)
  subst hl; subst hD; subst hcy; subst hG

  refine j_iload_n E dX6_mustBeAllowed_0 rfl rfl ?_
  refine j_if_ne (tgt := 14) E dX6_mustBeAllowed_1 (by decide) (fun h1 => ?_) (fun h1 => ?_)
  · refine j_o ?_ (jX_ret (j_widen (by decide) (by decide) (j_vret E dX6_mustBeAllowed_14 rfl rfl)))
    rfl
  · exact absurd h1 hc

set_option maxHeartbeats 1600000 in
set_option maxRecDepth 100000 in
theorem k_X6_mustBeAllowed_no {l : Launch} (hlt : l.stackTraces = false) {D : va_G} {cy : Nat → ClassId} {X : va_W} {G : pG} {M : pM} {v : Int32} (hc : v = 0) : jKX l yX6_mustBeAllowed wsX6_mustBeAllowed ({ frames := 6, cells := 1, slots := 6, locals := 90 } : Room) D cy X G M [.int v] (.inr xIAE) 1 6 := by
  refine jKX_of hlt (own := RX6) (by decide) rfl rfl (Nat.le_of_ble_eq_true rfl) (fun C E hT hl hD hcy hG => ?_)
  subst hl; subst hD; subst hcy; subst hG

  refine j_iload_n E dX6_mustBeAllowed_0 rfl rfl ?_
  refine j_if_ne (tgt := 14) E dX6_mustBeAllowed_1 (by decide) (fun h1 => ?_) (fun h1 => ?_)
  · exact absurd hc h1
  · exact j_o (by simp [xIAE, h1]) (j_throw (cls := xIAE) (names := ["java/lang/RuntimeException", "java/lang/Exception"]) E hT (by decide +kernel) (by decide +kernel) (by decide +kernel) (by decide +kernel) hT.2.2.2.2.2.2.2.1 (by decide +kernel) (by decide +kernel) (by decide +kernel) dX6_mustBeAllowed_4 dX6_mustBeAllowed_7 dX6_mustBeAllowed_8 dX6_mustBeAllowed_10 dX6_mustBeAllowed_13 (by decide) (Nat.le_of_ble_eq_true rfl) (by decide) (by decide) (by decide) (by decide))

set_option maxHeartbeats 1600000 in
set_option maxRecDepth 100000 in
theorem k_X6_mustHaveEntered_ok {l : Launch} (hlt : l.stackTraces = false) {D : va_G} {cy : Nat → ClassId} {X : va_W} {G : pG} {M : pM} {a : Nat → Nat} {n : Int32} (hX : wX G a) (hc : ¬ M.1 (a 0) 8 < n) : jKX l yX6_mustHaveEntered wsX6_mustHaveEntered ({ frames := 6, cells := 1, slots := 6, locals := 90 } : Room) D cy X G M [.ref (a 0), .int n] (.inl (none, M)) 1 6 := by
  refine jKX_of hlt (own := RX6) (by decide) rfl rfl (Nat.le_of_ble_eq_true rfl) (fun C E hT hl hD hcy hG => ?_)
  subst hl; subst hD; subst hcy; subst hG
  have hinX6 : ∀ w ∈ u_ws RX6 TX6 10, w ∈ wsX6_mustHaveEntered := by decide +kernel
  have hX0 := hX
  obtain ⟨⟨hx1, hx2, hx3, hx4, hx5, hx6, hx7, hx8⟩, hRing, ⟨hz1, hz2, hz3, hz⟩, ⟨hu1, hu2, hu3, hu⟩, ⟨ho1, ho2, ho3⟩, hPad, hLog⟩ := hX
  have hRing0 := hRing
  obtain ⟨⟨hr1, hr2, hr3, hr4⟩, ⟨hp1, hp2, hp3⟩, ⟨hw1, hw2, hw3⟩, hpl⟩ := hRing
  have hLog0 := hLog
  obtain ⟨hg1, hg2, hg3, hv1, hv2, hv3⟩ := hLog
  have hPad0 := hPad
  obtain ⟨hP1, hP2, hP3, hT1, hT2, hT3⟩ := hPad
  refine j_aload_n E dX6_mustHaveEntered_0 rfl rfl ?_
  refine j_getI (ci := 6) (k := 8) (Cn := RX6) (T := TX6) (N := 10) E dX6_mustHaveEntered_1 hx1 hx2 rfl (by decide) hinX6 (by decide +kernel) rfl ?_
  refine j_iload_n E dX6_mustHaveEntered_4 rfl rfl ?_
  refine j_icmp_ge (tgt := 18) E dX6_mustHaveEntered_5 (by decide) (fun h5 => ?_) (fun h5 => ?_)
  · refine j_o ?_ (jX_ret (j_widen (by decide) (by decide) (j_vret E dX6_mustHaveEntered_18 rfl rfl)))
    rfl
  · exact absurd (Int32.not_le.mp h5) hc

set_option maxHeartbeats 1600000 in
set_option maxRecDepth 100000 in
theorem k_X6_mustHaveEntered_no {l : Launch} (hlt : l.stackTraces = false) {D : va_G} {cy : Nat → ClassId} {X : va_W} {G : pG} {M : pM} {a : Nat → Nat} {n : Int32} (hX : wX G a) (hc : M.1 (a 0) 8 < n) : jKX l yX6_mustHaveEntered wsX6_mustHaveEntered ({ frames := 6, cells := 1, slots := 6, locals := 90 } : Room) D cy X G M [.ref (a 0), .int n] (.inr xISE) 1 6 := by
  refine jKX_of hlt (own := RX6) (by decide) rfl rfl (Nat.le_of_ble_eq_true rfl) (fun C E hT hl hD hcy hG => ?_)
  subst hl; subst hD; subst hcy; subst hG
  have hinX6 : ∀ w ∈ u_ws RX6 TX6 10, w ∈ wsX6_mustHaveEntered := by decide +kernel
  have hX0 := hX
  obtain ⟨⟨hx1, hx2, hx3, hx4, hx5, hx6, hx7, hx8⟩, hRing, ⟨hz1, hz2, hz3, hz⟩, ⟨hu1, hu2, hu3, hu⟩, ⟨ho1, ho2, ho3⟩, hPad, hLog⟩ := hX
  have hRing0 := hRing
  obtain ⟨⟨hr1, hr2, hr3, hr4⟩, ⟨hp1, hp2, hp3⟩, ⟨hw1, hw2, hw3⟩, hpl⟩ := hRing
  have hLog0 := hLog
  obtain ⟨hg1, hg2, hg3, hv1, hv2, hv3⟩ := hLog
  have hPad0 := hPad
  obtain ⟨hP1, hP2, hP3, hT1, hT2, hT3⟩ := hPad
  refine j_aload_n E dX6_mustHaveEntered_0 rfl rfl ?_
  refine j_getI (ci := 6) (k := 8) (Cn := RX6) (T := TX6) (N := 10) E dX6_mustHaveEntered_1 hx1 hx2 rfl (by decide) hinX6 (by decide +kernel) rfl ?_
  refine j_iload_n E dX6_mustHaveEntered_4 rfl rfl ?_
  refine j_icmp_ge (tgt := 18) E dX6_mustHaveEntered_5 (by decide) (fun h5 => ?_) (fun h5 => ?_)
  · exact absurd hc (Int32.not_lt.mpr h5)
  · exact j_o (by simp [xISE, h5]) (j_throw (cls := xISE) (names := ["java/lang/RuntimeException", "java/lang/Exception"]) E hT (by decide +kernel) (by decide +kernel) (by decide +kernel) (by decide +kernel) hT.2.2.2.2.2.2.2.2.1 (by decide +kernel) (by decide +kernel) (by decide +kernel) dX6_mustHaveEntered_8 dX6_mustHaveEntered_11 dX6_mustHaveEntered_12 dX6_mustHaveEntered_14 dX6_mustHaveEntered_17 (by decide) (Nat.le_of_ble_eq_true rfl) (by decide) (by decide) (by decide) (by decide))
