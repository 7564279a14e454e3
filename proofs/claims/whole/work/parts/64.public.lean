/-! The class's public methods that throw: what each answers. -/
def xIn (p b : Int32) : Bool := decide (¬ p < 0 ∧ p < b)
def xEnt (a : Nat → Nat) (M : pM) (n : Int32) : Bool := decide (¬ M.1 (a 0) 8 < n)
theorem xIn_1 {p b : Int32} (h : xIn p b = true) : ¬ p < 0 ∧ p < b := of_decide_eq_true h
theorem xIn_0 {p b : Int32} (h : ¬ xIn p b = true) : ¬ (¬ p < 0 ∧ p < b) := fun q => h (decide_eq_true q)
theorem xEnt_1 {a : Nat → Nat} {M : pM} {n : Int32} (h : xEnt a M n = true) : ¬ M.1 (a 0) 8 < n := of_decide_eq_true h
theorem xEnt_0 {a : Nat → Nat} {M : pM} {n : Int32} (h : ¬ xEnt a M n = true) : M.1 (a 0) 8 < n := Decidable.not_not.mp (fun q => h (decide_eq_true q))
abbrev xC (p : Int32) : Nat := p.toNatClampNeg
def xFitO (a : Nat → Nat) (M : pM) (p k z : Int32) (t : UInt32) : xOut := if xIn p 16 then (if xIn z 4 then (if k < 0 then .inr xIAE else if 4 < k then .inr xIAE else if Op.cmpValue (FP.fcmp t 1056964608) .l < 0 then .inr xIAE else if 0 < Op.cmpValue (FP.fcmp t 1120403456) .g then .inr xIAE else if xEnt a M 2 then .inl (none, xBegin M (a (3 + xC p)) k z t) else .inr xISE) else .inr xNSE) else .inr xNSE
def xNeedO (a : Nat → Nat) (M : pM) (p n : Int32) : xOut := if xIn p 4 then (if n < 1 then .inr xIAE else if 4 < n then .inr xIAE else if xEnt a M 2 then .inl (none, pI M (a (21 + xC p)) 0 n) else .inr xISE) else .inr xNSE
def xWireO (a : Nat → Nat) (M : pM) (p h : Int32) : xOut := if xIn p 17 then (if h < 0 then .inr xIAE else if 2 < h then .inr xIAE else .inl (none, pI M (a 19) (xC p) h)) else .inr xNSE
def xRdO (a : Nat → Nat) (M : pM) (p : Int32) (v : UInt32) : xOut := if xIn p 16 then (if Op.cmpValue (FP.fcmp v 3267887104) .l < 0 then .inr xIAE else if 0 < Op.cmpValue (FP.fcmp v 1128792064) .g then .inr xIAE else .inl (none, pF M (a (3 + xC p)) 3 v)) else .inr xNSE
def xRu (a : Nat → Nat) (M : pM) : Int32 × pM := xRI M (a 39) (a 40) (a (26 + xC (M.1 (a 0) 6))) (a (32 + xC (M.1 (a 0) 6)))
def xRuM (a : Nat → Nat) (M : pM) : pM := pI (xRu a M).2 (a 39) 1 0
def xRuO (a : Nat → Nat) (M : pM) : xOut := if xEnt a M 2 then (if M.1 (a 0) 6 < 0 then .inr xISE else if M.1 (a 0) 6 < 6 then (if (xRu a M).1 = -1 then .inl (some (.int 0), pI (xRuM a M) (a 0) 6 ((xRuM a M).1 (a 0) 6 + 1)) else .inl (some (.int (1 + (xRu a M).1)), xRuM a M)) else .inr xISE) else .inr xISE
def xForgO (a : Nat → Nat) (M : pM) : xOut := if xEnt a M 2 then .inl (some (.int (M.1 (a 0) 6)), xOffN a 6 (pI M (a 0) 6 0)) else .inr xISE
def xSilO (a : Nat → Nat) (M : pM) : xOut := if xEnt a M 1 then (if M.1 (a 0) 9 = 0 then .inl (some (.int 1), xAdd (pI M (a 0) 9 1) (a 41) (a 42) 5 0 (M.1 (a 0) 7)) else .inl (some (.int 0), M)) else .inr xISE
def xRz1 (a : Nat → Nat) (c : Int32 × pM) (i : Nat) : Int32 × pM := (c.1 + (if c.2.1 (a (21 + i)) 1 = 0 then 0 else 1), pI c.2 (a (21 + i)) 1 0)
def xRzN (a : Nat → Nat) : Nat → pM → Int32 × pM
  | 0, M => (0, M)
  | i + 1, M => xRz1 a (xRzN a i M) i
def xCaN (a : Nat → Nat) : Nat → pM → pM
  | 0, M => M
  | i + 1, M => xCalm (xCaN a i M) (a (3 + i))
def xHlN (a : Nat → Nat) : Nat → pM → pM
  | 0, M => M
  | i + 1, M => pI (xHlN a i M) (a (26 + i)) 4 0
def xReE (a : Nat → Nat) (M : pM) : pM := xAdd (pI (xOffN a 6 M) (a 0) 9 0) (a 41) (a 42) 6 0 ((pI (xOffN a 6 M) (a 0) 9 0).1 (a 0) 7)
def xResO (a : Nat → Nat) (M : pM) : xOut := if xEnt a M 1 then .inl (some (.int (xRzN a 4 M).1), xReE a (xHlN a 6 (xCaN a 16 (xRzN a 4 M).2))) else .inr xISE
def xOfZ (a : Nat → Nat) (M : pM) (p f : Int32) : xOut := if M.1 (a (21 + xC p)) 2 = f then .inl (some (.int 0), M) else .inl (some (.int 1), xAdd (pI M (a (21 + xC p)) 2 f) (a 41) (a 42) 7 p (M.1 (a 0) 7))
def xOfP (a : Nat → Nat) (M : pM) (p f : Int32) : xOut := if M.1 (a (3 + xC p)) 10 = f then .inl (some (.int 0), M) else .inl (some (.int 1), xAdd (pI M (a (3 + xC p)) 10 f) (a 41) (a 42) 7 (10 + p) (M.1 (a 0) 7))
def xOffO (a : Nat → Nat) (M : pM) (z p f : Int32) : xOut := if z = 0 then (if xIn p 16 then (if xEnt a M 2 then xOfP a M p f else .inr xISE) else .inr xNSE) else (if xIn p 4 then (if xEnt a M 2 then xOfZ a M p f else .inr xISE) else .inr xNSE)
def xLevO (a : Nat → Nat) (M : pM) (p : Int32) (k : Nat) : xOut := if xIn p 16 then .inl (some (.float (M.2 (a (3 + xC p)) k)), M) else .inr xNSE
def xPlO (a : Nat → Nat) (M : pM) (p : Int32) : xOut := if xIn p 16 then .inl (some (.int ((xReach M (fun i => a (3 + i)) (a 19) >>> (p &&& 31) &&& 1) + (if M.1 (a (3 + xC p)) 7 = 0 then 0 else 2) + (if M.1 (a (3 + xC p)) 9 = 0 then 0 else 4) + (if M.1 (a (3 + xC p)) 10 = 0 then 0 else 8) + 16 * M.1 (a (3 + xC p)) 0)), M) else .inr xNSE
def xZoO (a : Nat → Nat) (M : pM) (p : Int32) : xOut := if xIn p 4 then .inl (some (.int ((if M.1 (a (21 + xC p)) 1 = 0 then 0 else 1) + (if xHwL M (fun i => a (3 + i)) p 16 0 = 0 then 0 else 2) + (if M.1 (a (21 + xC p)) 2 = 0 then 0 else 4))), M) else .inr xNSE
def xOuO (a : Nat → Nat) (M : pM) (p : Int32) : xOut := if xIn p 6 then (if M.1 (a 38) (xC p) = 0 then .inl (some (.int 0), M) else if M.1 (a 0) 9 = 0 then .inl (some (.int 3), M) else if 3 ≤ p then .inl (some (.int 3), M) else .inl (some (.int 1), M)) else .inr xNSE
def xMn (x y : Int32) : Int32 := if y < x then y else x
def xHeO (a : Nat → Nat) (M : pM) (p : Int32) : xOut := if xIn p (xMn (M.1 (a 0) 6) 6) then .inl (some (.int (M.1 (a (26 + xC p)) 4)), M) else .inr xNSE
def xLoO (a : Nat → Nat) (M : pM) (p w : Int32) : xOut := if p < 0 then .inr xIAE else if xMn (M.1 (a 41) 1) 16 ≤ p then .inr xIAE else if w < 0 then .inr xIAE else if 3 ≤ w then .inr xIAE else .inl (some (.int (M.1 (a 42) (xC p * 3 + xC w))), M)
def xCoO (a : Nat → Nat) (M : pM) (w : Int32) : xOut := if w = 0 then .inl (some (.int (M.1 (a 0) 7)), M) else if w = 1 then .inl (some (.int (M.1 (a 0) 6)), M) else if w = 2 then .inl (some (.int (M.1 (a 0) 8)), M) else if w = 3 then .inl (some (.int (if M.1 (a 0) 9 = 0 then 0 else 1)), M) else if w = 4 then .inl (some (.int (M.1 (a 39) 1)), M) else if w = 5 then .inl (some (.int (xFtL M (fun i => a (3 + i)) 16 0 0)), M) else .inr xIAE
theorem fi01 {v : Int32} (h : v = 0 ∨ v = 1) : fits .boolean (.int v) = true := by rcases h with rfl | rfl <;> rfl
theorem xMn_l {p x y : Int32} (h : p < xMn x y) : p < y := by
  unfold xMn at h
  split at h
  · exact h
  · rename_i h2
    exact Int32.lt_of_lt_of_le h (Int32.not_lt.mp h2)

set_option maxHeartbeats 1600000 in
set_option maxRecDepth 100000 in
theorem k_X6_fit {l : Launch} (hlt : l.stackTraces = false) {D : va_G} {cy : Nat → ClassId} {X : va_W} {G : pG} {M : pM} {a : Nat → Nat} {p k z : Int32} {t : UInt32} (hX : wX G a) : jKX l yX6_fit wsX6_fit ({ frames := 7, cells := 5, slots := 30, locals := 111 } : Room) D cy X G M [.ref (a 0), .int p, .int k, .int z, .float t] (xFitO a M p k z t) 5 30 := by
  refine jKX_of hlt (own := RX6) (by decide) rfl rfl (Nat.le_of_ble_eq_true rfl) (fun C E hT hl hD hcy hG => ?_)
  subst hl; subst hD; subst hcy; subst hG
  have hinX3 : ∀ w ∈ u_ws RX3 TX3 2, w ∈ wsX6_fit := by decide +kernel
  have hinX6 : ∀ w ∈ u_ws RX6 TX6 10, w ∈ wsX6_fit := by decide +kernel
  have hX0 := hX
  obtain ⟨⟨hx1, hx2, hx3, hx4, hx5, hx6, hx7, hx8⟩, hRing, ⟨hz1, hz2, hz3, hz⟩, ⟨hu1, hu2, hu3, hu⟩, ⟨ho1, ho2, ho3⟩, hPad, hLog⟩ := hX
  have hRing0 := hRing
  obtain ⟨⟨hr1, hr2, hr3, hr4⟩, ⟨hp1, hp2, hp3⟩, ⟨hw1, hw2, hw3⟩, hpl⟩ := hRing
  have hLog0 := hLog
  obtain ⟨hg1, hg2, hg3, hv1, hv2, hv3⟩ := hLog
  have hPad0 := hPad
  obtain ⟨hP1, hP2, hP3, hT1, hT2, hT3⟩ := hPad
  refine j_iload_n E dX6_fit_0 rfl rfl ?_
  refine j_bipush (v := 16) E dX6_fit_1 (by decide) ?_
  by_cases c3 : xIn p 16 = true
  · refine j_xS_ok0 (n := 2) E hT.2.2 (k_X6_mustExist_ok hT.2.1 (xIn_1 c3)) dX6_fit_3 gX6_fit_X6_mustExist rfl (by decide +kernel) ⟨rfl, rfl, by decide, by decide⟩ ⟨by decide, by decide⟩ rfl rfl (Nat.le_of_ble_eq_true rfl) ?_
    refine j_iload_n E dX6_fit_6 rfl rfl ?_
    refine j_iconst (v := 4) E dX6_fit_7 (by decide) ?_
    by_cases c8 : xIn z 4 = true
    · refine j_xS_ok0 (n := 2) E hT.2.2 (k_X6_mustExist_ok hT.2.1 (xIn_1 c8)) dX6_fit_8 gX6_fit_X6_mustExist rfl (by decide +kernel) ⟨rfl, rfl, by decide, by decide⟩ ⟨by decide, by decide⟩ rfl rfl (Nat.le_of_ble_eq_true rfl) ?_
      refine j_iload_n E dX6_fit_11 rfl rfl ?_
      refine j_if_lt (tgt := 24) E dX6_fit_12 (by decide) (fun h12 => ?_) (fun h12 => ?_)
      · refine j_iconst (v := 0) E dX6_fit_24 (by decide) ?_
        first
          | exact j_o (by simp [xFitO, c3, c8, h12]) (j_xS_out (n := 1) E hT (k_X6_mustBeAllowed_no hT.2.1 rfl) dX6_fit_25 gX6_fit_X6_mustBeAllowed rfl (by decide +kernel) ⟨rfl, rfl, by decide, by decide⟩ ⟨by decide, by decide⟩ rfl rfl (Nat.le_of_ble_eq_true rfl) (by decide) (by decide))
          | (
              refine j_xS_ok0 (n := 1) E hT.2.2 (k_X6_mustBeAllowed_ok hT.2.1 (by decide)) dX6_fit_25 gX6_fit_X6_mustBeAllowed rfl (by decide +kernel) ⟨rfl, rfl, by decide, by decide⟩ ⟨by decide, by decide⟩ rfl rfl (Nat.le_of_ble_eq_true rfl) ?_
              refine j_fload E dX6_fit_28 rfl ?_
              refine j_ldcf (v := 1056964608) E (by decide +kernel) dX6_fit_30 ?_
              refine j_fcmp E dX6_fit_32 ?_
              refine j_if_lt (tgt := 48) E dX6_fit_33 (by decide) (fun h33 => ?_) (fun h33 => ?_)
              · refine j_iconst (v := 0) E dX6_fit_48 (by decide) ?_
                first
                  | exact j_o (by simp [xFitO, c3, c8, h12, h33]) (j_xS_out (n := 1) E hT (k_X6_mustBeAllowed_no hT.2.1 rfl) dX6_fit_49 gX6_fit_X6_mustBeAllowed rfl (by decide +kernel) ⟨rfl, rfl, by decide, by decide⟩ ⟨by decide, by decide⟩ rfl rfl (Nat.le_of_ble_eq_true rfl) (by decide) (by decide))
                  | (
                      refine j_xS_ok0 (n := 1) E hT.2.2 (k_X6_mustBeAllowed_ok hT.2.1 (by decide)) dX6_fit_49 gX6_fit_X6_mustBeAllowed rfl (by decide +kernel) ⟨rfl, rfl, by decide, by decide⟩ ⟨by decide, by decide⟩ rfl rfl (Nat.le_of_ble_eq_true rfl) ?_
                      refine j_aload_n E dX6_fit_52 rfl rfl ?_
                      refine j_iconst (v := 2) E dX6_fit_53 (by decide) ?_
                      by_cases c54 : xEnt a M 2 = true
                      · refine j_xV_ok0 (ci := 6) (n := 1) E hT.2.2 (k_X6_mustHaveEntered_ok hT.2.1 hX0 (xEnt_1 c54)) dX6_fit_54 gX6_fit_X6_mustHaveEntered rfl (by decide +kernel) ⟨rfl, rfl, by decide, by decide⟩ ⟨by decide, by decide⟩ hx1 hx2 rfl rfl rfl (Nat.le_of_ble_eq_true rfl) ?_
                        obtain ⟨q1, q2, q3⟩ := hpl p.toNatClampNeg (ix_lt (n := 16) (xIn_1 c3).1 (xIn_1 c3).2 (by decide)).2
                        refine j_aload_n E dX6_fit_57 rfl rfl ?_
                        refine j_getP (ci := 6) (k := 0) (Cn := RX6) (T := TX6) (N := 10) E dX6_fit_58 hx1 hx2 rfl (by decide) hinX6 (by decide +kernel) rfl hx3 ?_
                        refine j_getP (ci := 3) (k := 0) (Cn := RX3) (T := TX3) (N := 2) E dX6_fit_61 hr1 hr2 rfl (by decide) hinX3 (by decide +kernel) rfl hr3 ?_
                        refine j_iload_n E dX6_fit_64 rfl rfl ?_
                        refine j_aldP E dX6_fit_65 hp1 hp3 (ix_lt (n := 16) (xIn_1 c3).1 (xIn_1 c3).2 (by decide)).1 (ix_lt (n := 16) (xIn_1 c3).1 (xIn_1 c3).2 (by decide)).2 (by decide) hp2 q1 ?_
                        refine j_iload_n E dX6_fit_66 rfl rfl ?_
                        refine j_iload_n E dX6_fit_67 rfl rfl ?_
                        refine j_fload E dX6_fit_68 rfl ?_
                        refine j_callV0 (ci := 2) (n := 3) E (k_X2_begin q2 q3) dX6_fit_70 gX6_fit_X2_begin rfl (by decide +kernel) ⟨rfl, rfl, by decide, by decide⟩ ⟨by decide, by decide⟩ q2 q3 rfl rfl rfl (Nat.le_of_ble_eq_true rfl) rfl ?_
                        refine j_o ?_ (jX_ret (j_widen (by decide) (by decide) (j_vret E dX6_fit_73 rfl rfl)))
                        simp [xFitO, c3, c8, h12, h33, c54]
                      · exact j_o (by simp [xFitO, c3, c8, h12, h33, c54]) (j_xV_out (ci := 6) (n := 1) E hT (k_X6_mustHaveEntered_no hT.2.1 hX0 (xEnt_0 c54)) dX6_fit_54 gX6_fit_X6_mustHaveEntered rfl (by decide +kernel) ⟨rfl, rfl, by decide, by decide⟩ ⟨by decide, by decide⟩ hx1 hx2 rfl rfl rfl (Nat.le_of_ble_eq_true rfl) (by decide) (by decide))
                    )
              · refine j_fload E dX6_fit_36 rfl ?_
                refine j_ldcf (v := 1120403456) E (by decide +kernel) dX6_fit_38 ?_
                refine j_fcmp E dX6_fit_40 ?_
                refine j_if_gt (tgt := 48) E dX6_fit_41 (by decide) (fun h41 => ?_) (fun h41 => ?_)
                · refine j_iconst (v := 0) E dX6_fit_48 (by decide) ?_
                  first
                    | exact j_o (by simp [xFitO, c3, c8, h12, h33, h41]) (j_xS_out (n := 1) E hT (k_X6_mustBeAllowed_no hT.2.1 rfl) dX6_fit_49 gX6_fit_X6_mustBeAllowed rfl (by decide +kernel) ⟨rfl, rfl, by decide, by decide⟩ ⟨by decide, by decide⟩ rfl rfl (Nat.le_of_ble_eq_true rfl) (by decide) (by decide))
                    | (
                        refine j_xS_ok0 (n := 1) E hT.2.2 (k_X6_mustBeAllowed_ok hT.2.1 (by decide)) dX6_fit_49 gX6_fit_X6_mustBeAllowed rfl (by decide +kernel) ⟨rfl, rfl, by decide, by decide⟩ ⟨by decide, by decide⟩ rfl rfl (Nat.le_of_ble_eq_true rfl) ?_
                        refine j_aload_n E dX6_fit_52 rfl rfl ?_
                        refine j_iconst (v := 2) E dX6_fit_53 (by decide) ?_
                        by_cases c54 : xEnt a M 2 = true
                        · refine j_xV_ok0 (ci := 6) (n := 1) E hT.2.2 (k_X6_mustHaveEntered_ok hT.2.1 hX0 (xEnt_1 c54)) dX6_fit_54 gX6_fit_X6_mustHaveEntered rfl (by decide +kernel) ⟨rfl, rfl, by decide, by decide⟩ ⟨by decide, by decide⟩ hx1 hx2 rfl rfl rfl (Nat.le_of_ble_eq_true rfl) ?_
                          obtain ⟨q1, q2, q3⟩ := hpl p.toNatClampNeg (ix_lt (n := 16) (xIn_1 c3).1 (xIn_1 c3).2 (by decide)).2
                          refine j_aload_n E dX6_fit_57 rfl rfl ?_
                          refine j_getP (ci := 6) (k := 0) (Cn := RX6) (T := TX6) (N := 10) E dX6_fit_58 hx1 hx2 rfl (by decide) hinX6 (by decide +kernel) rfl hx3 ?_
                          refine j_getP (ci := 3) (k := 0) (Cn := RX3) (T := TX3) (N := 2) E dX6_fit_61 hr1 hr2 rfl (by decide) hinX3 (by decide +kernel) rfl hr3 ?_
                          refine j_iload_n E dX6_fit_64 rfl rfl ?_
                          refine j_aldP E dX6_fit_65 hp1 hp3 (ix_lt (n := 16) (xIn_1 c3).1 (xIn_1 c3).2 (by decide)).1 (ix_lt (n := 16) (xIn_1 c3).1 (xIn_1 c3).2 (by decide)).2 (by decide) hp2 q1 ?_
                          refine j_iload_n E dX6_fit_66 rfl rfl ?_
                          refine j_iload_n E dX6_fit_67 rfl rfl ?_
                          refine j_fload E dX6_fit_68 rfl ?_
                          refine j_callV0 (ci := 2) (n := 3) E (k_X2_begin q2 q3) dX6_fit_70 gX6_fit_X2_begin rfl (by decide +kernel) ⟨rfl, rfl, by decide, by decide⟩ ⟨by decide, by decide⟩ q2 q3 rfl rfl rfl (Nat.le_of_ble_eq_true rfl) rfl ?_
                          refine j_o ?_ (jX_ret (j_widen (by decide) (by decide) (j_vret E dX6_fit_73 rfl rfl)))
                          simp [xFitO, c3, c8, h12, h33, h41, c54]
                        · exact j_o (by simp [xFitO, c3, c8, h12, h33, h41, c54]) (j_xV_out (ci := 6) (n := 1) E hT (k_X6_mustHaveEntered_no hT.2.1 hX0 (xEnt_0 c54)) dX6_fit_54 gX6_fit_X6_mustHaveEntered rfl (by decide +kernel) ⟨rfl, rfl, by decide, by decide⟩ ⟨by decide, by decide⟩ hx1 hx2 rfl rfl rfl (Nat.le_of_ble_eq_true rfl) (by decide) (by decide))
                      )
                · refine j_iconst (v := 1) E dX6_fit_44 (by decide) ?_
                  refine j_goto (tgt := 49) E dX6_fit_45 (by decide) ?_
                  first
                    | exact j_o (by simp [xFitO, c3, c8, h12, h33, h41]) (j_xS_out (n := 1) E hT (k_X6_mustBeAllowed_no hT.2.1 rfl) dX6_fit_49 gX6_fit_X6_mustBeAllowed rfl (by decide +kernel) ⟨rfl, rfl, by decide, by decide⟩ ⟨by decide, by decide⟩ rfl rfl (Nat.le_of_ble_eq_true rfl) (by decide) (by decide))
                    | (
                        refine j_xS_ok0 (n := 1) E hT.2.2 (k_X6_mustBeAllowed_ok hT.2.1 (by decide)) dX6_fit_49 gX6_fit_X6_mustBeAllowed rfl (by decide +kernel) ⟨rfl, rfl, by decide, by decide⟩ ⟨by decide, by decide⟩ rfl rfl (Nat.le_of_ble_eq_true rfl) ?_
                        refine j_aload_n E dX6_fit_52 rfl rfl ?_
                        refine j_iconst (v := 2) E dX6_fit_53 (by decide) ?_
                        by_cases c54 : xEnt a M 2 = true
                        · refine j_xV_ok0 (ci := 6) (n := 1) E hT.2.2 (k_X6_mustHaveEntered_ok hT.2.1 hX0 (xEnt_1 c54)) dX6_fit_54 gX6_fit_X6_mustHaveEntered rfl (by decide +kernel) ⟨rfl, rfl, by decide, by decide⟩ ⟨by decide, by decide⟩ hx1 hx2 rfl rfl rfl (Nat.le_of_ble_eq_true rfl) ?_
                          obtain ⟨q1, q2, q3⟩ := hpl p.toNatClampNeg (ix_lt (n := 16) (xIn_1 c3).1 (xIn_1 c3).2 (by decide)).2
                          refine j_aload_n E dX6_fit_57 rfl rfl ?_
                          refine j_getP (ci := 6) (k := 0) (Cn := RX6) (T := TX6) (N := 10) E dX6_fit_58 hx1 hx2 rfl (by decide) hinX6 (by decide +kernel) rfl hx3 ?_
                          refine j_getP (ci := 3) (k := 0) (Cn := RX3) (T := TX3) (N := 2) E dX6_fit_61 hr1 hr2 rfl (by decide) hinX3 (by decide +kernel) rfl hr3 ?_
                          refine j_iload_n E dX6_fit_64 rfl rfl ?_
                          refine j_aldP E dX6_fit_65 hp1 hp3 (ix_lt (n := 16) (xIn_1 c3).1 (xIn_1 c3).2 (by decide)).1 (ix_lt (n := 16) (xIn_1 c3).1 (xIn_1 c3).2 (by decide)).2 (by decide) hp2 q1 ?_
                          refine j_iload_n E dX6_fit_66 rfl rfl ?_
                          refine j_iload_n E dX6_fit_67 rfl rfl ?_
                          refine j_fload E dX6_fit_68 rfl ?_
                          refine j_callV0 (ci := 2) (n := 3) E (k_X2_begin q2 q3) dX6_fit_70 gX6_fit_X2_begin rfl (by decide +kernel) ⟨rfl, rfl, by decide, by decide⟩ ⟨by decide, by decide⟩ q2 q3 rfl rfl rfl (Nat.le_of_ble_eq_true rfl) rfl ?_
                          refine j_o ?_ (jX_ret (j_widen (by decide) (by decide) (j_vret E dX6_fit_73 rfl rfl)))
                          simp [xFitO, c3, c8, h12, h33, h41, c54]
                        · exact j_o (by simp [xFitO, c3, c8, h12, h33, h41, c54]) (j_xV_out (ci := 6) (n := 1) E hT (k_X6_mustHaveEntered_no hT.2.1 hX0 (xEnt_0 c54)) dX6_fit_54 gX6_fit_X6_mustHaveEntered rfl (by decide +kernel) ⟨rfl, rfl, by decide, by decide⟩ ⟨by decide, by decide⟩ hx1 hx2 rfl rfl rfl (Nat.le_of_ble_eq_true rfl) (by decide) (by decide))
                      )
            )
      · refine j_iload_n E dX6_fit_15 rfl rfl ?_
        refine j_iconst (v := 4) E dX6_fit_16 (by decide) ?_
        refine j_icmp_gt (tgt := 24) E dX6_fit_17 (by decide) (fun h17 => ?_) (fun h17 => ?_)
        · refine j_iconst (v := 0) E dX6_fit_24 (by decide) ?_
          first
            | exact j_o (by simp [xFitO, c3, c8, h12, h17]) (j_xS_out (n := 1) E hT (k_X6_mustBeAllowed_no hT.2.1 rfl) dX6_fit_25 gX6_fit_X6_mustBeAllowed rfl (by decide +kernel) ⟨rfl, rfl, by decide, by decide⟩ ⟨by decide, by decide⟩ rfl rfl (Nat.le_of_ble_eq_true rfl) (by decide) (by decide))
            | (
                refine j_xS_ok0 (n := 1) E hT.2.2 (k_X6_mustBeAllowed_ok hT.2.1 (by decide)) dX6_fit_25 gX6_fit_X6_mustBeAllowed rfl (by decide +kernel) ⟨rfl, rfl, by decide, by decide⟩ ⟨by decide, by decide⟩ rfl rfl (Nat.le_of_ble_eq_true rfl) ?_
                refine j_fload E dX6_fit_28 rfl ?_
                refine j_ldcf (v := 1056964608) E (by decide +kernel) dX6_fit_30 ?_
                refine j_fcmp E dX6_fit_32 ?_
                refine j_if_lt (tgt := 48) E dX6_fit_33 (by decide) (fun h33 => ?_) (fun h33 => ?_)
                · refine j_iconst (v := 0) E dX6_fit_48 (by decide) ?_
                  first
                    | exact j_o (by simp [xFitO, c3, c8, h12, h17, h33]) (j_xS_out (n := 1) E hT (k_X6_mustBeAllowed_no hT.2.1 rfl) dX6_fit_49 gX6_fit_X6_mustBeAllowed rfl (by decide +kernel) ⟨rfl, rfl, by decide, by decide⟩ ⟨by decide, by decide⟩ rfl rfl (Nat.le_of_ble_eq_true rfl) (by decide) (by decide))
                    | (
                        refine j_xS_ok0 (n := 1) E hT.2.2 (k_X6_mustBeAllowed_ok hT.2.1 (by decide)) dX6_fit_49 gX6_fit_X6_mustBeAllowed rfl (by decide +kernel) ⟨rfl, rfl, by decide, by decide⟩ ⟨by decide, by decide⟩ rfl rfl (Nat.le_of_ble_eq_true rfl) ?_
                        refine j_aload_n E dX6_fit_52 rfl rfl ?_
                        refine j_iconst (v := 2) E dX6_fit_53 (by decide) ?_
                        by_cases c54 : xEnt a M 2 = true
                        · refine j_xV_ok0 (ci := 6) (n := 1) E hT.2.2 (k_X6_mustHaveEntered_ok hT.2.1 hX0 (xEnt_1 c54)) dX6_fit_54 gX6_fit_X6_mustHaveEntered rfl (by decide +kernel) ⟨rfl, rfl, by decide, by decide⟩ ⟨by decide, by decide⟩ hx1 hx2 rfl rfl rfl (Nat.le_of_ble_eq_true rfl) ?_
                          obtain ⟨q1, q2, q3⟩ := hpl p.toNatClampNeg (ix_lt (n := 16) (xIn_1 c3).1 (xIn_1 c3).2 (by decide)).2
                          refine j_aload_n E dX6_fit_57 rfl rfl ?_
                          refine j_getP (ci := 6) (k := 0) (Cn := RX6) (T := TX6) (N := 10) E dX6_fit_58 hx1 hx2 rfl (by decide) hinX6 (by decide +kernel) rfl hx3 ?_
                          refine j_getP (ci := 3) (k := 0) (Cn := RX3) (T := TX3) (N := 2) E dX6_fit_61 hr1 hr2 rfl (by decide) hinX3 (by decide +kernel) rfl hr3 ?_
                          refine j_iload_n E dX6_fit_64 rfl rfl ?_
                          refine j_aldP E dX6_fit_65 hp1 hp3 (ix_lt (n := 16) (xIn_1 c3).1 (xIn_1 c3).2 (by decide)).1 (ix_lt (n := 16) (xIn_1 c3).1 (xIn_1 c3).2 (by decide)).2 (by decide) hp2 q1 ?_
                          refine j_iload_n E dX6_fit_66 rfl rfl ?_
                          refine j_iload_n E dX6_fit_67 rfl rfl ?_
                          refine j_fload E dX6_fit_68 rfl ?_
                          refine j_callV0 (ci := 2) (n := 3) E (k_X2_begin q2 q3) dX6_fit_70 gX6_fit_X2_begin rfl (by decide +kernel) ⟨rfl, rfl, by decide, by decide⟩ ⟨by decide, by decide⟩ q2 q3 rfl rfl rfl (Nat.le_of_ble_eq_true rfl) rfl ?_
                          refine j_o ?_ (jX_ret (j_widen (by decide) (by decide) (j_vret E dX6_fit_73 rfl rfl)))
                          simp [xFitO, c3, c8, h12, h17, h33, c54]
                        · exact j_o (by simp [xFitO, c3, c8, h12, h17, h33, c54]) (j_xV_out (ci := 6) (n := 1) E hT (k_X6_mustHaveEntered_no hT.2.1 hX0 (xEnt_0 c54)) dX6_fit_54 gX6_fit_X6_mustHaveEntered rfl (by decide +kernel) ⟨rfl, rfl, by decide, by decide⟩ ⟨by decide, by decide⟩ hx1 hx2 rfl rfl rfl (Nat.le_of_ble_eq_true rfl) (by decide) (by decide))
                      )
                · refine j_fload E dX6_fit_36 rfl ?_
                  refine j_ldcf (v := 1120403456) E (by decide +kernel) dX6_fit_38 ?_
                  refine j_fcmp E dX6_fit_40 ?_
                  refine j_if_gt (tgt := 48) E dX6_fit_41 (by decide) (fun h41 => ?_) (fun h41 => ?_)
                  · refine j_iconst (v := 0) E dX6_fit_48 (by decide) ?_
                    first
                      | exact j_o (by simp [xFitO, c3, c8, h12, h17, h33, h41]) (j_xS_out (n := 1) E hT (k_X6_mustBeAllowed_no hT.2.1 rfl) dX6_fit_49 gX6_fit_X6_mustBeAllowed rfl (by decide +kernel) ⟨rfl, rfl, by decide, by decide⟩ ⟨by decide, by decide⟩ rfl rfl (Nat.le_of_ble_eq_true rfl) (by decide) (by decide))
                      | (
                          refine j_xS_ok0 (n := 1) E hT.2.2 (k_X6_mustBeAllowed_ok hT.2.1 (by decide)) dX6_fit_49 gX6_fit_X6_mustBeAllowed rfl (by decide +kernel) ⟨rfl, rfl, by decide, by decide⟩ ⟨by decide, by decide⟩ rfl rfl (Nat.le_of_ble_eq_true rfl) ?_
                          refine j_aload_n E dX6_fit_52 rfl rfl ?_
                          refine j_iconst (v := 2) E dX6_fit_53 (by decide) ?_
                          by_cases c54 : xEnt a M 2 = true
                          · refine j_xV_ok0 (ci := 6) (n := 1) E hT.2.2 (k_X6_mustHaveEntered_ok hT.2.1 hX0 (xEnt_1 c54)) dX6_fit_54 gX6_fit_X6_mustHaveEntered rfl (by decide +kernel) ⟨rfl, rfl, by decide, by decide⟩ ⟨by decide, by decide⟩ hx1 hx2 rfl rfl rfl (Nat.le_of_ble_eq_true rfl) ?_
                            obtain ⟨q1, q2, q3⟩ := hpl p.toNatClampNeg (ix_lt (n := 16) (xIn_1 c3).1 (xIn_1 c3).2 (by decide)).2
                            refine j_aload_n E dX6_fit_57 rfl rfl ?_
                            refine j_getP (ci := 6) (k := 0) (Cn := RX6) (T := TX6) (N := 10) E dX6_fit_58 hx1 hx2 rfl (by decide) hinX6 (by decide +kernel) rfl hx3 ?_
                            refine j_getP (ci := 3) (k := 0) (Cn := RX3) (T := TX3) (N := 2) E dX6_fit_61 hr1 hr2 rfl (by decide) hinX3 (by decide +kernel) rfl hr3 ?_
                            refine j_iload_n E dX6_fit_64 rfl rfl ?_
                            refine j_aldP E dX6_fit_65 hp1 hp3 (ix_lt (n := 16) (xIn_1 c3).1 (xIn_1 c3).2 (by decide)).1 (ix_lt (n := 16) (xIn_1 c3).1 (xIn_1 c3).2 (by decide)).2 (by decide) hp2 q1 ?_
                            refine j_iload_n E dX6_fit_66 rfl rfl ?_
                            refine j_iload_n E dX6_fit_67 rfl rfl ?_
                            refine j_fload E dX6_fit_68 rfl ?_
                            refine j_callV0 (ci := 2) (n := 3) E (k_X2_begin q2 q3) dX6_fit_70 gX6_fit_X2_begin rfl (by decide +kernel) ⟨rfl, rfl, by decide, by decide⟩ ⟨by decide, by decide⟩ q2 q3 rfl rfl rfl (Nat.le_of_ble_eq_true rfl) rfl ?_
                            refine j_o ?_ (jX_ret (j_widen (by decide) (by decide) (j_vret E dX6_fit_73 rfl rfl)))
                            simp [xFitO, c3, c8, h12, h17, h33, h41, c54]
                          · exact j_o (by simp [xFitO, c3, c8, h12, h17, h33, h41, c54]) (j_xV_out (ci := 6) (n := 1) E hT (k_X6_mustHaveEntered_no hT.2.1 hX0 (xEnt_0 c54)) dX6_fit_54 gX6_fit_X6_mustHaveEntered rfl (by decide +kernel) ⟨rfl, rfl, by decide, by decide⟩ ⟨by decide, by decide⟩ hx1 hx2 rfl rfl rfl (Nat.le_of_ble_eq_true rfl) (by decide) (by decide))
                        )
                  · refine j_iconst (v := 1) E dX6_fit_44 (by decide) ?_
                    refine j_goto (tgt := 49) E dX6_fit_45 (by decide) ?_
                    first
                      | exact j_o (by simp [xFitO, c3, c8, h12, h17, h33, h41]) (j_xS_out (n := 1) E hT (k_X6_mustBeAllowed_no hT.2.1 rfl) dX6_fit_49 gX6_fit_X6_mustBeAllowed rfl (by decide +kernel) ⟨rfl, rfl, by decide, by decide⟩ ⟨by decide, by decide⟩ rfl rfl (Nat.le_of_ble_eq_true rfl) (by decide) (by decide))
                      | (
                          refine j_xS_ok0 (n := 1) E hT.2.2 (k_X6_mustBeAllowed_ok hT.2.1 (by decide)) dX6_fit_49 gX6_fit_X6_mustBeAllowed rfl (by decide +kernel) ⟨rfl, rfl, by decide, by decide⟩ ⟨by decide, by decide⟩ rfl rfl (Nat.le_of_ble_eq_true rfl) ?_
                          refine j_aload_n E dX6_fit_52 rfl rfl ?_
                          refine j_iconst (v := 2) E dX6_fit_53 (by decide) ?_
                          by_cases c54 : xEnt a M 2 = true
                          · refine j_xV_ok0 (ci := 6) (n := 1) E hT.2.2 (k_X6_mustHaveEntered_ok hT.2.1 hX0 (xEnt_1 c54)) dX6_fit_54 gX6_fit_X6_mustHaveEntered rfl (by decide +kernel) ⟨rfl, rfl, by decide, by decide⟩ ⟨by decide, by decide⟩ hx1 hx2 rfl rfl rfl (Nat.le_of_ble_eq_true rfl) ?_
                            obtain ⟨q1, q2, q3⟩ := hpl p.toNatClampNeg (ix_lt (n := 16) (xIn_1 c3).1 (xIn_1 c3).2 (by decide)).2
                            refine j_aload_n E dX6_fit_57 rfl rfl ?_
                            refine j_getP (ci := 6) (k := 0) (Cn := RX6) (T := TX6) (N := 10) E dX6_fit_58 hx1 hx2 rfl (by decide) hinX6 (by decide +kernel) rfl hx3 ?_
                            refine j_getP (ci := 3) (k := 0) (Cn := RX3) (T := TX3) (N := 2) E dX6_fit_61 hr1 hr2 rfl (by decide) hinX3 (by decide +kernel) rfl hr3 ?_
                            refine j_iload_n E dX6_fit_64 rfl rfl ?_
                            refine j_aldP E dX6_fit_65 hp1 hp3 (ix_lt (n := 16) (xIn_1 c3).1 (xIn_1 c3).2 (by decide)).1 (ix_lt (n := 16) (xIn_1 c3).1 (xIn_1 c3).2 (by decide)).2 (by decide) hp2 q1 ?_
                            refine j_iload_n E dX6_fit_66 rfl rfl ?_
                            refine j_iload_n E dX6_fit_67 rfl rfl ?_
                            refine j_fload E dX6_fit_68 rfl ?_
                            refine j_callV0 (ci := 2) (n := 3) E (k_X2_begin q2 q3) dX6_fit_70 gX6_fit_X2_begin rfl (by decide +kernel) ⟨rfl, rfl, by decide, by decide⟩ ⟨by decide, by decide⟩ q2 q3 rfl rfl rfl (Nat.le_of_ble_eq_true rfl) rfl ?_
                            refine j_o ?_ (jX_ret (j_widen (by decide) (by decide) (j_vret E dX6_fit_73 rfl rfl)))
                            simp [xFitO, c3, c8, h12, h17, h33, h41, c54]
                          · exact j_o (by simp [xFitO, c3, c8, h12, h17, h33, h41, c54]) (j_xV_out (ci := 6) (n := 1) E hT (k_X6_mustHaveEntered_no hT.2.1 hX0 (xEnt_0 c54)) dX6_fit_54 gX6_fit_X6_mustHaveEntered rfl (by decide +kernel) ⟨rfl, rfl, by decide, by decide⟩ ⟨by decide, by decide⟩ hx1 hx2 rfl rfl rfl (Nat.le_of_ble_eq_true rfl) (by decide) (by decide))
                        )
              )
        · refine j_iconst (v := 1) E dX6_fit_20 (by decide) ?_
          refine j_goto (tgt := 25) E dX6_fit_21 (by decide) ?_
          first
            | exact j_o (by simp [xFitO, c3, c8, h12, h17]) (j_xS_out (n := 1) E hT (k_X6_mustBeAllowed_no hT.2.1 rfl) dX6_fit_25 gX6_fit_X6_mustBeAllowed rfl (by decide +kernel) ⟨rfl, rfl, by decide, by decide⟩ ⟨by decide, by decide⟩ rfl rfl (Nat.le_of_ble_eq_true rfl) (by decide) (by decide))
            | (
                refine j_xS_ok0 (n := 1) E hT.2.2 (k_X6_mustBeAllowed_ok hT.2.1 (by decide)) dX6_fit_25 gX6_fit_X6_mustBeAllowed rfl (by decide +kernel) ⟨rfl, rfl, by decide, by decide⟩ ⟨by decide, by decide⟩ rfl rfl (Nat.le_of_ble_eq_true rfl) ?_
                refine j_fload E dX6_fit_28 rfl ?_
                refine j_ldcf (v := 1056964608) E (by decide +kernel) dX6_fit_30 ?_
                refine j_fcmp E dX6_fit_32 ?_
                refine j_if_lt (tgt := 48) E dX6_fit_33 (by decide) (fun h33 => ?_) (fun h33 => ?_)
                · refine j_iconst (v := 0) E dX6_fit_48 (by decide) ?_
                  first
                    | exact j_o (by simp [xFitO, c3, c8, h12, h17, h33]) (j_xS_out (n := 1) E hT (k_X6_mustBeAllowed_no hT.2.1 rfl) dX6_fit_49 gX6_fit_X6_mustBeAllowed rfl (by decide +kernel) ⟨rfl, rfl, by decide, by decide⟩ ⟨by decide, by decide⟩ rfl rfl (Nat.le_of_ble_eq_true rfl) (by decide) (by decide))
                    | (
                        refine j_xS_ok0 (n := 1) E hT.2.2 (k_X6_mustBeAllowed_ok hT.2.1 (by decide)) dX6_fit_49 gX6_fit_X6_mustBeAllowed rfl (by decide +kernel) ⟨rfl, rfl, by decide, by decide⟩ ⟨by decide, by decide⟩ rfl rfl (Nat.le_of_ble_eq_true rfl) ?_
                        refine j_aload_n E dX6_fit_52 rfl rfl ?_
                        refine j_iconst (v := 2) E dX6_fit_53 (by decide) ?_
                        by_cases c54 : xEnt a M 2 = true
                        · refine j_xV_ok0 (ci := 6) (n := 1) E hT.2.2 (k_X6_mustHaveEntered_ok hT.2.1 hX0 (xEnt_1 c54)) dX6_fit_54 gX6_fit_X6_mustHaveEntered rfl (by decide +kernel) ⟨rfl, rfl, by decide, by decide⟩ ⟨by decide, by decide⟩ hx1 hx2 rfl rfl rfl (Nat.le_of_ble_eq_true rfl) ?_
                          obtain ⟨q1, q2, q3⟩ := hpl p.toNatClampNeg (ix_lt (n := 16) (xIn_1 c3).1 (xIn_1 c3).2 (by decide)).2
                          refine j_aload_n E dX6_fit_57 rfl rfl ?_
                          refine j_getP (ci := 6) (k := 0) (Cn := RX6) (T := TX6) (N := 10) E dX6_fit_58 hx1 hx2 rfl (by decide) hinX6 (by decide +kernel) rfl hx3 ?_
                          refine j_getP (ci := 3) (k := 0) (Cn := RX3) (T := TX3) (N := 2) E dX6_fit_61 hr1 hr2 rfl (by decide) hinX3 (by decide +kernel) rfl hr3 ?_
                          refine j_iload_n E dX6_fit_64 rfl rfl ?_
                          refine j_aldP E dX6_fit_65 hp1 hp3 (ix_lt (n := 16) (xIn_1 c3).1 (xIn_1 c3).2 (by decide)).1 (ix_lt (n := 16) (xIn_1 c3).1 (xIn_1 c3).2 (by decide)).2 (by decide) hp2 q1 ?_
                          refine j_iload_n E dX6_fit_66 rfl rfl ?_
                          refine j_iload_n E dX6_fit_67 rfl rfl ?_
                          refine j_fload E dX6_fit_68 rfl ?_
                          refine j_callV0 (ci := 2) (n := 3) E (k_X2_begin q2 q3) dX6_fit_70 gX6_fit_X2_begin rfl (by decide +kernel) ⟨rfl, rfl, by decide, by decide⟩ ⟨by decide, by decide⟩ q2 q3 rfl rfl rfl (Nat.le_of_ble_eq_true rfl) rfl ?_
                          refine j_o ?_ (jX_ret (j_widen (by decide) (by decide) (j_vret E dX6_fit_73 rfl rfl)))
                          simp [xFitO, c3, c8, h12, h17, h33, c54]
                        · exact j_o (by simp [xFitO, c3, c8, h12, h17, h33, c54]) (j_xV_out (ci := 6) (n := 1) E hT (k_X6_mustHaveEntered_no hT.2.1 hX0 (xEnt_0 c54)) dX6_fit_54 gX6_fit_X6_mustHaveEntered rfl (by decide +kernel) ⟨rfl, rfl, by decide, by decide⟩ ⟨by decide, by decide⟩ hx1 hx2 rfl rfl rfl (Nat.le_of_ble_eq_true rfl) (by decide) (by decide))
                      )
                · refine j_fload E dX6_fit_36 rfl ?_
                  refine j_ldcf (v := 1120403456) E (by decide +kernel) dX6_fit_38 ?_
                  refine j_fcmp E dX6_fit_40 ?_
                  refine j_if_gt (tgt := 48) E dX6_fit_41 (by decide) (fun h41 => ?_) (fun h41 => ?_)
                  · refine j_iconst (v := 0) E dX6_fit_48 (by decide) ?_
                    first
                      | exact j_o (by simp [xFitO, c3, c8, h12, h17, h33, h41]) (j_xS_out (n := 1) E hT (k_X6_mustBeAllowed_no hT.2.1 rfl) dX6_fit_49 gX6_fit_X6_mustBeAllowed rfl (by decide +kernel) ⟨rfl, rfl, by decide, by decide⟩ ⟨by decide, by decide⟩ rfl rfl (Nat.le_of_ble_eq_true rfl) (by decide) (by decide))
                      | (
                          refine j_xS_ok0 (n := 1) E hT.2.2 (k_X6_mustBeAllowed_ok hT.2.1 (by decide)) dX6_fit_49 gX6_fit_X6_mustBeAllowed rfl (by decide +kernel) ⟨rfl, rfl, by decide, by decide⟩ ⟨by decide, by decide⟩ rfl rfl (Nat.le_of_ble_eq_true rfl) ?_
                          refine j_aload_n E dX6_fit_52 rfl rfl ?_
                          refine j_iconst (v := 2) E dX6_fit_53 (by decide) ?_
                          by_cases c54 : xEnt a M 2 = true
                          · refine j_xV_ok0 (ci := 6) (n := 1) E hT.2.2 (k_X6_mustHaveEntered_ok hT.2.1 hX0 (xEnt_1 c54)) dX6_fit_54 gX6_fit_X6_mustHaveEntered rfl (by decide +kernel) ⟨rfl, rfl, by decide, by decide⟩ ⟨by decide, by decide⟩ hx1 hx2 rfl rfl rfl (Nat.le_of_ble_eq_true rfl) ?_
                            obtain ⟨q1, q2, q3⟩ := hpl p.toNatClampNeg (ix_lt (n := 16) (xIn_1 c3).1 (xIn_1 c3).2 (by decide)).2
                            refine j_aload_n E dX6_fit_57 rfl rfl ?_
                            refine j_getP (ci := 6) (k := 0) (Cn := RX6) (T := TX6) (N := 10) E dX6_fit_58 hx1 hx2 rfl (by decide) hinX6 (by decide +kernel) rfl hx3 ?_
                            refine j_getP (ci := 3) (k := 0) (Cn := RX3) (T := TX3) (N := 2) E dX6_fit_61 hr1 hr2 rfl (by decide) hinX3 (by decide +kernel) rfl hr3 ?_
                            refine j_iload_n E dX6_fit_64 rfl rfl ?_
                            refine j_aldP E dX6_fit_65 hp1 hp3 (ix_lt (n := 16) (xIn_1 c3).1 (xIn_1 c3).2 (by decide)).1 (ix_lt (n := 16) (xIn_1 c3).1 (xIn_1 c3).2 (by decide)).2 (by decide) hp2 q1 ?_
                            refine j_iload_n E dX6_fit_66 rfl rfl ?_
                            refine j_iload_n E dX6_fit_67 rfl rfl ?_
                            refine j_fload E dX6_fit_68 rfl ?_
                            refine j_callV0 (ci := 2) (n := 3) E (k_X2_begin q2 q3) dX6_fit_70 gX6_fit_X2_begin rfl (by decide +kernel) ⟨rfl, rfl, by decide, by decide⟩ ⟨by decide, by decide⟩ q2 q3 rfl rfl rfl (Nat.le_of_ble_eq_true rfl) rfl ?_
                            refine j_o ?_ (jX_ret (j_widen (by decide) (by decide) (j_vret E dX6_fit_73 rfl rfl)))
                            simp [xFitO, c3, c8, h12, h17, h33, h41, c54]
                          · exact j_o (by simp [xFitO, c3, c8, h12, h17, h33, h41, c54]) (j_xV_out (ci := 6) (n := 1) E hT (k_X6_mustHaveEntered_no hT.2.1 hX0 (xEnt_0 c54)) dX6_fit_54 gX6_fit_X6_mustHaveEntered rfl (by decide +kernel) ⟨rfl, rfl, by decide, by decide⟩ ⟨by decide, by decide⟩ hx1 hx2 rfl rfl rfl (Nat.le_of_ble_eq_true rfl) (by decide) (by decide))
                        )
                  · refine j_iconst (v := 1) E dX6_fit_44 (by decide) ?_
                    refine j_goto (tgt := 49) E dX6_fit_45 (by decide) ?_
                    first
                      | exact j_o (by simp [xFitO, c3, c8, h12, h17, h33, h41]) (j_xS_out (n := 1) E hT (k_X6_mustBeAllowed_no hT.2.1 rfl) dX6_fit_49 gX6_fit_X6_mustBeAllowed rfl (by decide +kernel) ⟨rfl, rfl, by decide, by decide⟩ ⟨by decide, by decide⟩ rfl rfl (Nat.le_of_ble_eq_true rfl) (by decide) (by decide))
                      | (
                          refine j_xS_ok0 (n := 1) E hT.2.2 (k_X6_mustBeAllowed_ok hT.2.1 (by decide)) dX6_fit_49 gX6_fit_X6_mustBeAllowed rfl (by decide +kernel) ⟨rfl, rfl, by decide, by decide⟩ ⟨by decide, by decide⟩ rfl rfl (Nat.le_of_ble_eq_true rfl) ?_
                          refine j_aload_n E dX6_fit_52 rfl rfl ?_
                          refine j_iconst (v := 2) E dX6_fit_53 (by decide) ?_
                          by_cases c54 : xEnt a M 2 = true
                          · refine j_xV_ok0 (ci := 6) (n := 1) E hT.2.2 (k_X6_mustHaveEntered_ok hT.2.1 hX0 (xEnt_1 c54)) dX6_fit_54 gX6_fit_X6_mustHaveEntered rfl (by decide +kernel) ⟨rfl, rfl, by decide, by decide⟩ ⟨by decide, by decide⟩ hx1 hx2 rfl rfl rfl (Nat.le_of_ble_eq_true rfl) ?_
                            obtain ⟨q1, q2, q3⟩ := hpl p.toNatClampNeg (ix_lt (n := 16) (xIn_1 c3).1 (xIn_1 c3).2 (by decide)).2
                            refine j_aload_n E dX6_fit_57 rfl rfl ?_
                            refine j_getP (ci := 6) (k := 0) (Cn := RX6) (T := TX6) (N := 10) E dX6_fit_58 hx1 hx2 rfl (by decide) hinX6 (by decide +kernel) rfl hx3 ?_
                            refine j_getP (ci := 3) (k := 0) (Cn := RX3) (T := TX3) (N := 2) E dX6_fit_61 hr1 hr2 rfl (by decide) hinX3 (by decide +kernel) rfl hr3 ?_
                            refine j_iload_n E dX6_fit_64 rfl rfl ?_
                            refine j_aldP E dX6_fit_65 hp1 hp3 (ix_lt (n := 16) (xIn_1 c3).1 (xIn_1 c3).2 (by decide)).1 (ix_lt (n := 16) (xIn_1 c3).1 (xIn_1 c3).2 (by decide)).2 (by decide) hp2 q1 ?_
                            refine j_iload_n E dX6_fit_66 rfl rfl ?_
                            refine j_iload_n E dX6_fit_67 rfl rfl ?_
                            refine j_fload E dX6_fit_68 rfl ?_
                            refine j_callV0 (ci := 2) (n := 3) E (k_X2_begin q2 q3) dX6_fit_70 gX6_fit_X2_begin rfl (by decide +kernel) ⟨rfl, rfl, by decide, by decide⟩ ⟨by decide, by decide⟩ q2 q3 rfl rfl rfl (Nat.le_of_ble_eq_true rfl) rfl ?_
                            refine j_o ?_ (jX_ret (j_widen (by decide) (by decide) (j_vret E dX6_fit_73 rfl rfl)))
                            simp [xFitO, c3, c8, h12, h17, h33, h41, c54]
                          · exact j_o (by simp [xFitO, c3, c8, h12, h17, h33, h41, c54]) (j_xV_out (ci := 6) (n := 1) E hT (k_X6_mustHaveEntered_no hT.2.1 hX0 (xEnt_0 c54)) dX6_fit_54 gX6_fit_X6_mustHaveEntered rfl (by decide +kernel) ⟨rfl, rfl, by decide, by decide⟩ ⟨by decide, by decide⟩ hx1 hx2 rfl rfl rfl (Nat.le_of_ble_eq_true rfl) (by decide) (by decide))
                        )
              )
    · exact j_o (by simp [xFitO, c3, c8]) (j_xS_out (n := 2) E hT (k_X6_mustExist_no hT.2.1 (xIn_0 c8)) dX6_fit_8 gX6_fit_X6_mustExist rfl (by decide +kernel) ⟨rfl, rfl, by decide, by decide⟩ ⟨by decide, by decide⟩ rfl rfl (Nat.le_of_ble_eq_true rfl) (by decide) (by decide))
  · exact j_o (by simp [xFitO, c3]) (j_xS_out (n := 2) E hT (k_X6_mustExist_no hT.2.1 (xIn_0 c3)) dX6_fit_3 gX6_fit_X6_mustExist rfl (by decide +kernel) ⟨rfl, rfl, by decide, by decide⟩ ⟨by decide, by decide⟩ rfl rfl (Nat.le_of_ble_eq_true rfl) (by decide) (by decide))

set_option maxHeartbeats 1600000 in
set_option maxRecDepth 100000 in
theorem k_X6_need {l : Launch} (hlt : l.stackTraces = false) {D : va_G} {cy : Nat → ClassId} {X : va_W} {G : pG} {M : pM} {a : Nat → Nat} {p n : Int32} (hX : wX G a) : jKX l yX6_need wsX6_need ({ frames := 7, cells := 3, slots := 18, locals := 111 } : Room) D cy X G M [.ref (a 0), .int p, .int n] (xNeedO a M p n) 3 18 := by
  refine jKX_of hlt (own := RX6) (by decide) rfl rfl (Nat.le_of_ble_eq_true rfl) (fun C E hT hl hD hcy hG => ?_)
  subst hl; subst hD; subst hcy; subst hG
  have hinX5 : ∀ w ∈ u_ws RX5 TX5 3, w ∈ wsX6_need := by decide +kernel
  have hinX6 : ∀ w ∈ u_ws RX6 TX6 10, w ∈ wsX6_need := by decide +kernel
  have hX0 := hX
  obtain ⟨⟨hx1, hx2, hx3, hx4, hx5, hx6, hx7, hx8⟩, hRing, ⟨hz1, hz2, hz3, hz⟩, ⟨hu1, hu2, hu3, hu⟩, ⟨ho1, ho2, ho3⟩, hPad, hLog⟩ := hX
  have hRing0 := hRing
  obtain ⟨⟨hr1, hr2, hr3, hr4⟩, ⟨hp1, hp2, hp3⟩, ⟨hw1, hw2, hw3⟩, hpl⟩ := hRing
  have hLog0 := hLog
  obtain ⟨hg1, hg2, hg3, hv1, hv2, hv3⟩ := hLog
  have hPad0 := hPad
  obtain ⟨hP1, hP2, hP3, hT1, hT2, hT3⟩ := hPad
  refine j_iload_n E dX6_need_0 rfl rfl ?_
  refine j_iconst (v := 4) E dX6_need_1 (by decide) ?_
  by_cases c2 : xIn p 4 = true
  · refine j_xS_ok0 (n := 2) E hT.2.2 (k_X6_mustExist_ok hT.2.1 (xIn_1 c2)) dX6_need_2 gX6_need_X6_mustExist rfl (by decide +kernel) ⟨rfl, rfl, by decide, by decide⟩ ⟨by decide, by decide⟩ rfl rfl (Nat.le_of_ble_eq_true rfl) ?_
    refine j_iload_n E dX6_need_5 rfl rfl ?_
    refine j_iconst (v := 1) E dX6_need_6 (by decide) ?_
    refine j_icmp_lt (tgt := 19) E dX6_need_7 (by decide) (fun h7 => ?_) (fun h7 => ?_)
    · refine j_iconst (v := 0) E dX6_need_19 (by decide) ?_
      first
        | exact j_o (by simp [xNeedO, c2, h7]) (j_xS_out (n := 1) E hT (k_X6_mustBeAllowed_no hT.2.1 rfl) dX6_need_20 gX6_need_X6_mustBeAllowed rfl (by decide +kernel) ⟨rfl, rfl, by decide, by decide⟩ ⟨by decide, by decide⟩ rfl rfl (Nat.le_of_ble_eq_true rfl) (by decide) (by decide))
        | (
            refine j_xS_ok0 (n := 1) E hT.2.2 (k_X6_mustBeAllowed_ok hT.2.1 (by decide)) dX6_need_20 gX6_need_X6_mustBeAllowed rfl (by decide +kernel) ⟨rfl, rfl, by decide, by decide⟩ ⟨by decide, by decide⟩ rfl rfl (Nat.le_of_ble_eq_true rfl) ?_
            refine j_aload_n E dX6_need_23 rfl rfl ?_
            refine j_iconst (v := 2) E dX6_need_24 (by decide) ?_
            by_cases c25 : xEnt a M 2 = true
            · refine j_xV_ok0 (ci := 6) (n := 1) E hT.2.2 (k_X6_mustHaveEntered_ok hT.2.1 hX0 (xEnt_1 c25)) dX6_need_25 gX6_need_X6_mustHaveEntered rfl (by decide +kernel) ⟨rfl, rfl, by decide, by decide⟩ ⟨by decide, by decide⟩ hx1 hx2 rfl rfl rfl (Nat.le_of_ble_eq_true rfl) ?_
              obtain ⟨q1, q2, q3⟩ := hz p.toNatClampNeg (ix_lt (n := 4) (xIn_1 c2).1 (xIn_1 c2).2 (by decide)).2
              refine j_aload_n E dX6_need_28 rfl rfl ?_
              refine j_getP (ci := 6) (k := 1) (Cn := RX6) (T := TX6) (N := 10) E dX6_need_29 hx1 hx2 rfl (by decide) hinX6 (by decide +kernel) rfl hx4 ?_
              refine j_iload_n E dX6_need_32 rfl rfl ?_
              refine j_aldZ E dX6_need_33 hz1 hz3 (ix_lt (n := 4) (xIn_1 c2).1 (xIn_1 c2).2 (by decide)).1 (ix_lt (n := 4) (xIn_1 c2).1 (xIn_1 c2).2 (by decide)).2 (by decide) hz2 q1 ?_
              refine j_iload_n E dX6_need_34 rfl rfl ?_
              refine j_putI (ci := 5) (k := 0) (Cn := RX5) (T := TX5) (N := 3) E dX6_need_35 q2 q3 rfl (by decide) hinX5 (by decide +kernel) rfl tyX5 tyX5_ok nmX5 rfl rfl rfl rfl ?_
              refine j_o ?_ (jX_ret (j_widen (by decide) (by decide) (j_vret E dX6_need_38 rfl rfl)))
              simp [xNeedO, c2, h7, c25]
            · exact j_o (by simp [xNeedO, c2, h7, c25]) (j_xV_out (ci := 6) (n := 1) E hT (k_X6_mustHaveEntered_no hT.2.1 hX0 (xEnt_0 c25)) dX6_need_25 gX6_need_X6_mustHaveEntered rfl (by decide +kernel) ⟨rfl, rfl, by decide, by decide⟩ ⟨by decide, by decide⟩ hx1 hx2 rfl rfl rfl (Nat.le_of_ble_eq_true rfl) (by decide) (by decide))
          )
    · refine j_iload_n E dX6_need_10 rfl rfl ?_
      refine j_iconst (v := 4) E dX6_need_11 (by decide) ?_
      refine j_icmp_gt (tgt := 19) E dX6_need_12 (by decide) (fun h12 => ?_) (fun h12 => ?_)
      · refine j_iconst (v := 0) E dX6_need_19 (by decide) ?_
        first
          | exact j_o (by simp [xNeedO, c2, h7, h12]) (j_xS_out (n := 1) E hT (k_X6_mustBeAllowed_no hT.2.1 rfl) dX6_need_20 gX6_need_X6_mustBeAllowed rfl (by decide +kernel) ⟨rfl, rfl, by decide, by decide⟩ ⟨by decide, by decide⟩ rfl rfl (Nat.le_of_ble_eq_true rfl) (by decide) (by decide))
          | (
              refine j_xS_ok0 (n := 1) E hT.2.2 (k_X6_mustBeAllowed_ok hT.2.1 (by decide)) dX6_need_20 gX6_need_X6_mustBeAllowed rfl (by decide +kernel) ⟨rfl, rfl, by decide, by decide⟩ ⟨by decide, by decide⟩ rfl rfl (Nat.le_of_ble_eq_true rfl) ?_
              refine j_aload_n E dX6_need_23 rfl rfl ?_
              refine j_iconst (v := 2) E dX6_need_24 (by decide) ?_
              by_cases c25 : xEnt a M 2 = true
              · refine j_xV_ok0 (ci := 6) (n := 1) E hT.2.2 (k_X6_mustHaveEntered_ok hT.2.1 hX0 (xEnt_1 c25)) dX6_need_25 gX6_need_X6_mustHaveEntered rfl (by decide +kernel) ⟨rfl, rfl, by decide, by decide⟩ ⟨by decide, by decide⟩ hx1 hx2 rfl rfl rfl (Nat.le_of_ble_eq_true rfl) ?_
                obtain ⟨q1, q2, q3⟩ := hz p.toNatClampNeg (ix_lt (n := 4) (xIn_1 c2).1 (xIn_1 c2).2 (by decide)).2
                refine j_aload_n E dX6_need_28 rfl rfl ?_
                refine j_getP (ci := 6) (k := 1) (Cn := RX6) (T := TX6) (N := 10) E dX6_need_29 hx1 hx2 rfl (by decide) hinX6 (by decide +kernel) rfl hx4 ?_
                refine j_iload_n E dX6_need_32 rfl rfl ?_
                refine j_aldZ E dX6_need_33 hz1 hz3 (ix_lt (n := 4) (xIn_1 c2).1 (xIn_1 c2).2 (by decide)).1 (ix_lt (n := 4) (xIn_1 c2).1 (xIn_1 c2).2 (by decide)).2 (by decide) hz2 q1 ?_
                refine j_iload_n E dX6_need_34 rfl rfl ?_
                refine j_putI (ci := 5) (k := 0) (Cn := RX5) (T := TX5) (N := 3) E dX6_need_35 q2 q3 rfl (by decide) hinX5 (by decide +kernel) rfl tyX5 tyX5_ok nmX5 rfl rfl rfl rfl ?_
                refine j_o ?_ (jX_ret (j_widen (by decide) (by decide) (j_vret E dX6_need_38 rfl rfl)))
                simp [xNeedO, c2, h7, h12, c25]
              · exact j_o (by simp [xNeedO, c2, h7, h12, c25]) (j_xV_out (ci := 6) (n := 1) E hT (k_X6_mustHaveEntered_no hT.2.1 hX0 (xEnt_0 c25)) dX6_need_25 gX6_need_X6_mustHaveEntered rfl (by decide +kernel) ⟨rfl, rfl, by decide, by decide⟩ ⟨by decide, by decide⟩ hx1 hx2 rfl rfl rfl (Nat.le_of_ble_eq_true rfl) (by decide) (by decide))
            )
      · refine j_iconst (v := 1) E dX6_need_15 (by decide) ?_
        refine j_goto (tgt := 20) E dX6_need_16 (by decide) ?_
        first
          | exact j_o (by simp [xNeedO, c2, h7, h12]) (j_xS_out (n := 1) E hT (k_X6_mustBeAllowed_no hT.2.1 rfl) dX6_need_20 gX6_need_X6_mustBeAllowed rfl (by decide +kernel) ⟨rfl, rfl, by decide, by decide⟩ ⟨by decide, by decide⟩ rfl rfl (Nat.le_of_ble_eq_true rfl) (by decide) (by decide))
          | (
              refine j_xS_ok0 (n := 1) E hT.2.2 (k_X6_mustBeAllowed_ok hT.2.1 (by decide)) dX6_need_20 gX6_need_X6_mustBeAllowed rfl (by decide +kernel) ⟨rfl, rfl, by decide, by decide⟩ ⟨by decide, by decide⟩ rfl rfl (Nat.le_of_ble_eq_true rfl) ?_
              refine j_aload_n E dX6_need_23 rfl rfl ?_
              refine j_iconst (v := 2) E dX6_need_24 (by decide) ?_
              by_cases c25 : xEnt a M 2 = true
              · refine j_xV_ok0 (ci := 6) (n := 1) E hT.2.2 (k_X6_mustHaveEntered_ok hT.2.1 hX0 (xEnt_1 c25)) dX6_need_25 gX6_need_X6_mustHaveEntered rfl (by decide +kernel) ⟨rfl, rfl, by decide, by decide⟩ ⟨by decide, by decide⟩ hx1 hx2 rfl rfl rfl (Nat.le_of_ble_eq_true rfl) ?_
                obtain ⟨q1, q2, q3⟩ := hz p.toNatClampNeg (ix_lt (n := 4) (xIn_1 c2).1 (xIn_1 c2).2 (by decide)).2
                refine j_aload_n E dX6_need_28 rfl rfl ?_
                refine j_getP (ci := 6) (k := 1) (Cn := RX6) (T := TX6) (N := 10) E dX6_need_29 hx1 hx2 rfl (by decide) hinX6 (by decide +kernel) rfl hx4 ?_
                refine j_iload_n E dX6_need_32 rfl rfl ?_
                refine j_aldZ E dX6_need_33 hz1 hz3 (ix_lt (n := 4) (xIn_1 c2).1 (xIn_1 c2).2 (by decide)).1 (ix_lt (n := 4) (xIn_1 c2).1 (xIn_1 c2).2 (by decide)).2 (by decide) hz2 q1 ?_
                refine j_iload_n E dX6_need_34 rfl rfl ?_
                refine j_putI (ci := 5) (k := 0) (Cn := RX5) (T := TX5) (N := 3) E dX6_need_35 q2 q3 rfl (by decide) hinX5 (by decide +kernel) rfl tyX5 tyX5_ok nmX5 rfl rfl rfl rfl ?_
                refine j_o ?_ (jX_ret (j_widen (by decide) (by decide) (j_vret E dX6_need_38 rfl rfl)))
                simp [xNeedO, c2, h7, h12, c25]
              · exact j_o (by simp [xNeedO, c2, h7, h12, c25]) (j_xV_out (ci := 6) (n := 1) E hT (k_X6_mustHaveEntered_no hT.2.1 hX0 (xEnt_0 c25)) dX6_need_25 gX6_need_X6_mustHaveEntered rfl (by decide +kernel) ⟨rfl, rfl, by decide, by decide⟩ ⟨by decide, by decide⟩ hx1 hx2 rfl rfl rfl (Nat.le_of_ble_eq_true rfl) (by decide) (by decide))
            )
  · exact j_o (by simp [xNeedO, c2]) (j_xS_out (n := 2) E hT (k_X6_mustExist_no hT.2.1 (xIn_0 c2)) dX6_need_2 gX6_need_X6_mustExist rfl (by decide +kernel) ⟨rfl, rfl, by decide, by decide⟩ ⟨by decide, by decide⟩ rfl rfl (Nat.le_of_ble_eq_true rfl) (by decide) (by decide))

set_option maxHeartbeats 1600000 in
set_option maxRecDepth 100000 in
theorem k_X6_wire {l : Launch} (hlt : l.stackTraces = false) {D : va_G} {cy : Nat → ClassId} {X : va_W} {G : pG} {M : pM} {a : Nat → Nat} {p h : Int32} (hX : wX G a) : jKX l yX6_wire wsX6_wire ({ frames := 7, cells := 2, slots := 12, locals := 111 } : Room) D cy X G M [.ref (a 0), .int p, .int h] (xWireO a M p h) 2 12 := by
  refine jKX_of hlt (own := RX6) (by decide) rfl rfl (Nat.le_of_ble_eq_true rfl) (fun C E hT hl hD hcy hG => ?_)
  subst hl; subst hD; subst hcy; subst hG
  have hinX3 : ∀ w ∈ u_ws RX3 TX3 2, w ∈ wsX6_wire := by decide +kernel
  have hinX6 : ∀ w ∈ u_ws RX6 TX6 10, w ∈ wsX6_wire := by decide +kernel
  have hX0 := hX
  obtain ⟨⟨hx1, hx2, hx3, hx4, hx5, hx6, hx7, hx8⟩, hRing, ⟨hz1, hz2, hz3, hz⟩, ⟨hu1, hu2, hu3, hu⟩, ⟨ho1, ho2, ho3⟩, hPad, hLog⟩ := hX
  have hRing0 := hRing
  obtain ⟨⟨hr1, hr2, hr3, hr4⟩, ⟨hp1, hp2, hp3⟩, ⟨hw1, hw2, hw3⟩, hpl⟩ := hRing
  have hLog0 := hLog
  obtain ⟨hg1, hg2, hg3, hv1, hv2, hv3⟩ := hLog
  have hPad0 := hPad
  obtain ⟨hP1, hP2, hP3, hT1, hT2, hT3⟩ := hPad
  refine j_iload_n E dX6_wire_0 rfl rfl ?_
  refine j_bipush (v := 17) E dX6_wire_1 (by decide) ?_
  by_cases c3 : xIn p 17 = true
  · refine j_xS_ok0 (n := 2) E hT.2.2 (k_X6_mustExist_ok hT.2.1 (xIn_1 c3)) dX6_wire_3 gX6_wire_X6_mustExist rfl (by decide +kernel) ⟨rfl, rfl, by decide, by decide⟩ ⟨by decide, by decide⟩ rfl rfl (Nat.le_of_ble_eq_true rfl) ?_
    refine j_iload_n E dX6_wire_6 rfl rfl ?_
    refine j_if_lt (tgt := 19) E dX6_wire_7 (by decide) (fun h7 => ?_) (fun h7 => ?_)
    · refine j_iconst (v := 0) E dX6_wire_19 (by decide) ?_
      first
        | exact j_o (by simp [xWireO, c3, h7]) (j_xS_out (n := 1) E hT (k_X6_mustBeAllowed_no hT.2.1 rfl) dX6_wire_20 gX6_wire_X6_mustBeAllowed rfl (by decide +kernel) ⟨rfl, rfl, by decide, by decide⟩ ⟨by decide, by decide⟩ rfl rfl (Nat.le_of_ble_eq_true rfl) (by decide) (by decide))
        | (
            refine j_xS_ok0 (n := 1) E hT.2.2 (k_X6_mustBeAllowed_ok hT.2.1 (by decide)) dX6_wire_20 gX6_wire_X6_mustBeAllowed rfl (by decide +kernel) ⟨rfl, rfl, by decide, by decide⟩ ⟨by decide, by decide⟩ rfl rfl (Nat.le_of_ble_eq_true rfl) ?_
            refine j_aload_n E dX6_wire_23 rfl rfl ?_
            refine j_getP (ci := 6) (k := 0) (Cn := RX6) (T := TX6) (N := 10) E dX6_wire_24 hx1 hx2 rfl (by decide) hinX6 (by decide +kernel) rfl hx3 ?_
            refine j_getP (ci := 3) (k := 1) (Cn := RX3) (T := TX3) (N := 2) E dX6_wire_27 hr1 hr2 rfl (by decide) hinX3 (by decide +kernel) rfl hr4 ?_
            refine j_iload_n E dX6_wire_30 rfl rfl ?_
            refine j_iload_n E dX6_wire_31 rfl rfl ?_
            refine j_iast E dX6_wire_32 hw1 hw3 (ix_lt (n := 17) (xIn_1 c3).1 (xIn_1 c3).2 (by decide)).1 (ix_lt (n := 17) (xIn_1 c3).1 (xIn_1 c3).2 (by decide)).2 (by decide) hw2 ?_
            refine j_o ?_ (jX_ret (j_widen (by decide) (by decide) (j_vret E dX6_wire_33 rfl rfl)))
            simp [xWireO, c3, h7]
          )
    · refine j_iload_n E dX6_wire_10 rfl rfl ?_
      refine j_iconst (v := 2) E dX6_wire_11 (by decide) ?_
      refine j_icmp_gt (tgt := 19) E dX6_wire_12 (by decide) (fun h12 => ?_) (fun h12 => ?_)
      · refine j_iconst (v := 0) E dX6_wire_19 (by decide) ?_
        first
          | exact j_o (by simp [xWireO, c3, h7, h12]) (j_xS_out (n := 1) E hT (k_X6_mustBeAllowed_no hT.2.1 rfl) dX6_wire_20 gX6_wire_X6_mustBeAllowed rfl (by decide +kernel) ⟨rfl, rfl, by decide, by decide⟩ ⟨by decide, by decide⟩ rfl rfl (Nat.le_of_ble_eq_true rfl) (by decide) (by decide))
          | (
              refine j_xS_ok0 (n := 1) E hT.2.2 (k_X6_mustBeAllowed_ok hT.2.1 (by decide)) dX6_wire_20 gX6_wire_X6_mustBeAllowed rfl (by decide +kernel) ⟨rfl, rfl, by decide, by decide⟩ ⟨by decide, by decide⟩ rfl rfl (Nat.le_of_ble_eq_true rfl) ?_
              refine j_aload_n E dX6_wire_23 rfl rfl ?_
              refine j_getP (ci := 6) (k := 0) (Cn := RX6) (T := TX6) (N := 10) E dX6_wire_24 hx1 hx2 rfl (by decide) hinX6 (by decide +kernel) rfl hx3 ?_
              refine j_getP (ci := 3) (k := 1) (Cn := RX3) (T := TX3) (N := 2) E dX6_wire_27 hr1 hr2 rfl (by decide) hinX3 (by decide +kernel) rfl hr4 ?_
              refine j_iload_n E dX6_wire_30 rfl rfl ?_
              refine j_iload_n E dX6_wire_31 rfl rfl ?_
              refine j_iast E dX6_wire_32 hw1 hw3 (ix_lt (n := 17) (xIn_1 c3).1 (xIn_1 c3).2 (by decide)).1 (ix_lt (n := 17) (xIn_1 c3).1 (xIn_1 c3).2 (by decide)).2 (by decide) hw2 ?_
              refine j_o ?_ (jX_ret (j_widen (by decide) (by decide) (j_vret E dX6_wire_33 rfl rfl)))
              simp [xWireO, c3, h7, h12]
            )
      · refine j_iconst (v := 1) E dX6_wire_15 (by decide) ?_
        refine j_goto (tgt := 20) E dX6_wire_16 (by decide) ?_
        first
          | exact j_o (by simp [xWireO, c3, h7, h12]) (j_xS_out (n := 1) E hT (k_X6_mustBeAllowed_no hT.2.1 rfl) dX6_wire_20 gX6_wire_X6_mustBeAllowed rfl (by decide +kernel) ⟨rfl, rfl, by decide, by decide⟩ ⟨by decide, by decide⟩ rfl rfl (Nat.le_of_ble_eq_true rfl) (by decide) (by decide))
          | (
              refine j_xS_ok0 (n := 1) E hT.2.2 (k_X6_mustBeAllowed_ok hT.2.1 (by decide)) dX6_wire_20 gX6_wire_X6_mustBeAllowed rfl (by decide +kernel) ⟨rfl, rfl, by decide, by decide⟩ ⟨by decide, by decide⟩ rfl rfl (Nat.le_of_ble_eq_true rfl) ?_
              refine j_aload_n E dX6_wire_23 rfl rfl ?_
              refine j_getP (ci := 6) (k := 0) (Cn := RX6) (T := TX6) (N := 10) E dX6_wire_24 hx1 hx2 rfl (by decide) hinX6 (by decide +kernel) rfl hx3 ?_
              refine j_getP (ci := 3) (k := 1) (Cn := RX3) (T := TX3) (N := 2) E dX6_wire_27 hr1 hr2 rfl (by decide) hinX3 (by decide +kernel) rfl hr4 ?_
              refine j_iload_n E dX6_wire_30 rfl rfl ?_
              refine j_iload_n E dX6_wire_31 rfl rfl ?_
              refine j_iast E dX6_wire_32 hw1 hw3 (ix_lt (n := 17) (xIn_1 c3).1 (xIn_1 c3).2 (by decide)).1 (ix_lt (n := 17) (xIn_1 c3).1 (xIn_1 c3).2 (by decide)).2 (by decide) hw2 ?_
              refine j_o ?_ (jX_ret (j_widen (by decide) (by decide) (j_vret E dX6_wire_33 rfl rfl)))
              simp [xWireO, c3, h7, h12]
            )
  · exact j_o (by simp [xWireO, c3]) (j_xS_out (n := 2) E hT (k_X6_mustExist_no hT.2.1 (xIn_0 c3)) dX6_wire_3 gX6_wire_X6_mustExist rfl (by decide +kernel) ⟨rfl, rfl, by decide, by decide⟩ ⟨by decide, by decide⟩ rfl rfl (Nat.le_of_ble_eq_true rfl) (by decide) (by decide))

set_option maxHeartbeats 1600000 in
set_option maxRecDepth 100000 in
theorem k_X6_reading {l : Launch} (hlt : l.stackTraces = false) {D : va_G} {cy : Nat → ClassId} {X : va_W} {G : pG} {M : pM} {a : Nat → Nat} {p : Int32} {v : UInt32} (hX : wX G a) : jKX l yX6_reading wsX6_reading ({ frames := 7, cells := 2, slots := 12, locals := 111 } : Room) D cy X G M [.ref (a 0), .int p, .float v] (xRdO a M p v) 2 12 := by
  refine jKX_of hlt (own := RX6) (by decide) rfl rfl (Nat.le_of_ble_eq_true rfl) (fun C E hT hl hD hcy hG => ?_)
  subst hl; subst hD; subst hcy; subst hG
  have hinX2 : ∀ w ∈ u_ws RX2 TX2 11, w ∈ wsX6_reading := by decide +kernel
  have hinX3 : ∀ w ∈ u_ws RX3 TX3 2, w ∈ wsX6_reading := by decide +kernel
  have hinX6 : ∀ w ∈ u_ws RX6 TX6 10, w ∈ wsX6_reading := by decide +kernel
  have hX0 := hX
  obtain ⟨⟨hx1, hx2, hx3, hx4, hx5, hx6, hx7, hx8⟩, hRing, ⟨hz1, hz2, hz3, hz⟩, ⟨hu1, hu2, hu3, hu⟩, ⟨ho1, ho2, ho3⟩, hPad, hLog⟩ := hX
  have hRing0 := hRing
  obtain ⟨⟨hr1, hr2, hr3, hr4⟩, ⟨hp1, hp2, hp3⟩, ⟨hw1, hw2, hw3⟩, hpl⟩ := hRing
  have hLog0 := hLog
  obtain ⟨hg1, hg2, hg3, hv1, hv2, hv3⟩ := hLog
  have hPad0 := hPad
  obtain ⟨hP1, hP2, hP3, hT1, hT2, hT3⟩ := hPad
  refine j_iload_n E dX6_reading_0 rfl rfl ?_
  refine j_bipush (v := 16) E dX6_reading_1 (by decide) ?_
  by_cases c3 : xIn p 16 = true
  · refine j_xS_ok0 (n := 2) E hT.2.2 (k_X6_mustExist_ok hT.2.1 (xIn_1 c3)) dX6_reading_3 gX6_reading_X6_mustExist rfl (by decide +kernel) ⟨rfl, rfl, by decide, by decide⟩ ⟨by decide, by decide⟩ rfl rfl (Nat.le_of_ble_eq_true rfl) ?_
    refine j_fload_n E dX6_reading_6 rfl rfl ?_
    refine j_ldcf (v := 3267887104) E (by decide +kernel) dX6_reading_7 ?_
    refine j_fcmp E dX6_reading_9 ?_
    refine j_if_lt (tgt := 24) E dX6_reading_10 (by decide) (fun h10 => ?_) (fun h10 => ?_)
    · refine j_iconst (v := 0) E dX6_reading_24 (by decide) ?_
      first
        | exact j_o (by simp [xRdO, c3, h10]) (j_xS_out (n := 1) E hT (k_X6_mustBeAllowed_no hT.2.1 rfl) dX6_reading_25 gX6_reading_X6_mustBeAllowed rfl (by decide +kernel) ⟨rfl, rfl, by decide, by decide⟩ ⟨by decide, by decide⟩ rfl rfl (Nat.le_of_ble_eq_true rfl) (by decide) (by decide))
        | (
            refine j_xS_ok0 (n := 1) E hT.2.2 (k_X6_mustBeAllowed_ok hT.2.1 (by decide)) dX6_reading_25 gX6_reading_X6_mustBeAllowed rfl (by decide +kernel) ⟨rfl, rfl, by decide, by decide⟩ ⟨by decide, by decide⟩ rfl rfl (Nat.le_of_ble_eq_true rfl) ?_
            obtain ⟨q1, q2, q3⟩ := hpl p.toNatClampNeg (ix_lt (n := 16) (xIn_1 c3).1 (xIn_1 c3).2 (by decide)).2
            refine j_aload_n E dX6_reading_28 rfl rfl ?_
            refine j_getP (ci := 6) (k := 0) (Cn := RX6) (T := TX6) (N := 10) E dX6_reading_29 hx1 hx2 rfl (by decide) hinX6 (by decide +kernel) rfl hx3 ?_
            refine j_getP (ci := 3) (k := 0) (Cn := RX3) (T := TX3) (N := 2) E dX6_reading_32 hr1 hr2 rfl (by decide) hinX3 (by decide +kernel) rfl hr3 ?_
            refine j_iload_n E dX6_reading_35 rfl rfl ?_
            refine j_aldP E dX6_reading_36 hp1 hp3 (ix_lt (n := 16) (xIn_1 c3).1 (xIn_1 c3).2 (by decide)).1 (ix_lt (n := 16) (xIn_1 c3).1 (xIn_1 c3).2 (by decide)).2 (by decide) hp2 q1 ?_
            refine j_fload_n E dX6_reading_37 rfl rfl ?_
            refine j_putF (ci := 2) (k := 3) (Cn := RX2) (T := TX2) (N := 11) E dX6_reading_38 q2 q3 rfl (by decide) hinX2 (by decide +kernel) rfl tyX2 tyX2_ok nmX2 rfl rfl rfl rfl ?_
            refine j_o ?_ (jX_ret (j_widen (by decide) (by decide) (j_vret E dX6_reading_41 rfl rfl)))
            simp [xRdO, c3, h10]
          )
    · refine j_fload_n E dX6_reading_13 rfl rfl ?_
      refine j_ldcf (v := 1128792064) E (by decide +kernel) dX6_reading_14 ?_
      refine j_fcmp E dX6_reading_16 ?_
      refine j_if_gt (tgt := 24) E dX6_reading_17 (by decide) (fun h17 => ?_) (fun h17 => ?_)
      · refine j_iconst (v := 0) E dX6_reading_24 (by decide) ?_
        first
          | exact j_o (by simp [xRdO, c3, h10, h17]) (j_xS_out (n := 1) E hT (k_X6_mustBeAllowed_no hT.2.1 rfl) dX6_reading_25 gX6_reading_X6_mustBeAllowed rfl (by decide +kernel) ⟨rfl, rfl, by decide, by decide⟩ ⟨by decide, by decide⟩ rfl rfl (Nat.le_of_ble_eq_true rfl) (by decide) (by decide))
          | (
              refine j_xS_ok0 (n := 1) E hT.2.2 (k_X6_mustBeAllowed_ok hT.2.1 (by decide)) dX6_reading_25 gX6_reading_X6_mustBeAllowed rfl (by decide +kernel) ⟨rfl, rfl, by decide, by decide⟩ ⟨by decide, by decide⟩ rfl rfl (Nat.le_of_ble_eq_true rfl) ?_
              obtain ⟨q1, q2, q3⟩ := hpl p.toNatClampNeg (ix_lt (n := 16) (xIn_1 c3).1 (xIn_1 c3).2 (by decide)).2
              refine j_aload_n E dX6_reading_28 rfl rfl ?_
              refine j_getP (ci := 6) (k := 0) (Cn := RX6) (T := TX6) (N := 10) E dX6_reading_29 hx1 hx2 rfl (by decide) hinX6 (by decide +kernel) rfl hx3 ?_
              refine j_getP (ci := 3) (k := 0) (Cn := RX3) (T := TX3) (N := 2) E dX6_reading_32 hr1 hr2 rfl (by decide) hinX3 (by decide +kernel) rfl hr3 ?_
              refine j_iload_n E dX6_reading_35 rfl rfl ?_
              refine j_aldP E dX6_reading_36 hp1 hp3 (ix_lt (n := 16) (xIn_1 c3).1 (xIn_1 c3).2 (by decide)).1 (ix_lt (n := 16) (xIn_1 c3).1 (xIn_1 c3).2 (by decide)).2 (by decide) hp2 q1 ?_
              refine j_fload_n E dX6_reading_37 rfl rfl ?_
              refine j_putF (ci := 2) (k := 3) (Cn := RX2) (T := TX2) (N := 11) E dX6_reading_38 q2 q3 rfl (by decide) hinX2 (by decide +kernel) rfl tyX2 tyX2_ok nmX2 rfl rfl rfl rfl ?_
              refine j_o ?_ (jX_ret (j_widen (by decide) (by decide) (j_vret E dX6_reading_41 rfl rfl)))
              simp [xRdO, c3, h10, h17]
            )
      · refine j_iconst (v := 1) E dX6_reading_20 (by decide) ?_
        refine j_goto (tgt := 25) E dX6_reading_21 (by decide) ?_
        first
          | exact j_o (by simp [xRdO, c3, h10, h17]) (j_xS_out (n := 1) E hT (k_X6_mustBeAllowed_no hT.2.1 rfl) dX6_reading_25 gX6_reading_X6_mustBeAllowed rfl (by decide +kernel) ⟨rfl, rfl, by decide, by decide⟩ ⟨by decide, by decide⟩ rfl rfl (Nat.le_of_ble_eq_true rfl) (by decide) (by decide))
          | (
              refine j_xS_ok0 (n := 1) E hT.2.2 (k_X6_mustBeAllowed_ok hT.2.1 (by decide)) dX6_reading_25 gX6_reading_X6_mustBeAllowed rfl (by decide +kernel) ⟨rfl, rfl, by decide, by decide⟩ ⟨by decide, by decide⟩ rfl rfl (Nat.le_of_ble_eq_true rfl) ?_
              obtain ⟨q1, q2, q3⟩ := hpl p.toNatClampNeg (ix_lt (n := 16) (xIn_1 c3).1 (xIn_1 c3).2 (by decide)).2
              refine j_aload_n E dX6_reading_28 rfl rfl ?_
              refine j_getP (ci := 6) (k := 0) (Cn := RX6) (T := TX6) (N := 10) E dX6_reading_29 hx1 hx2 rfl (by decide) hinX6 (by decide +kernel) rfl hx3 ?_
              refine j_getP (ci := 3) (k := 0) (Cn := RX3) (T := TX3) (N := 2) E dX6_reading_32 hr1 hr2 rfl (by decide) hinX3 (by decide +kernel) rfl hr3 ?_
              refine j_iload_n E dX6_reading_35 rfl rfl ?_
              refine j_aldP E dX6_reading_36 hp1 hp3 (ix_lt (n := 16) (xIn_1 c3).1 (xIn_1 c3).2 (by decide)).1 (ix_lt (n := 16) (xIn_1 c3).1 (xIn_1 c3).2 (by decide)).2 (by decide) hp2 q1 ?_
              refine j_fload_n E dX6_reading_37 rfl rfl ?_
              refine j_putF (ci := 2) (k := 3) (Cn := RX2) (T := TX2) (N := 11) E dX6_reading_38 q2 q3 rfl (by decide) hinX2 (by decide +kernel) rfl tyX2 tyX2_ok nmX2 rfl rfl rfl rfl ?_
              refine j_o ?_ (jX_ret (j_widen (by decide) (by decide) (j_vret E dX6_reading_41 rfl rfl)))
              simp [xRdO, c3, h10, h17]
            )
  · exact j_o (by simp [xRdO, c3]) (j_xS_out (n := 2) E hT (k_X6_mustExist_no hT.2.1 (xIn_0 c3)) dX6_reading_3 gX6_reading_X6_mustExist rfl (by decide +kernel) ⟨rfl, rfl, by decide, by decide⟩ ⟨by decide, by decide⟩ rfl rfl (Nat.le_of_ble_eq_true rfl) (by decide) (by decide))

set_option maxHeartbeats 1600000 in
set_option maxRecDepth 100000 in
theorem k_X6_rule {l : Launch} (hlt : l.stackTraces = false) {D : va_G} {cy : Nat → ClassId} {X : va_W} {G : pG} {M : pM} {a : Nat → Nat}  (hX : wX G a) : jKX l yX6_rule wsX6_rule ({ frames := 13, cells := 2, slots := 12, locals := 297 } : Room) D cy X G M [.ref (a 0)] (xRuO a M) 2 12 := by
  refine jKX_of hlt (own := RX6) (by decide) rfl rfl (Nat.le_of_ble_eq_true rfl) (fun C E hT hl hD hcy hG => ?_)
  subst hl; subst hD; subst hcy; subst hG
  have hinX1 : ∀ w ∈ u_ws RX1 TX1 3, w ∈ wsX6_rule := by decide +kernel
  have hinX6 : ∀ w ∈ u_ws RX6 TX6 10, w ∈ wsX6_rule := by decide +kernel
  have hX0 := hX
  obtain ⟨⟨hx1, hx2, hx3, hx4, hx5, hx6, hx7, hx8⟩, hRing, ⟨hz1, hz2, hz3, hz⟩, ⟨hu1, hu2, hu3, hu⟩, ⟨ho1, ho2, ho3⟩, hPad, hLog⟩ := hX
  have hRing0 := hRing
  obtain ⟨⟨hr1, hr2, hr3, hr4⟩, ⟨hp1, hp2, hp3⟩, ⟨hw1, hw2, hw3⟩, hpl⟩ := hRing
  have hLog0 := hLog
  obtain ⟨hg1, hg2, hg3, hv1, hv2, hv3⟩ := hLog
  have hPad0 := hPad
  obtain ⟨hP1, hP2, hP3, hT1, hT2, hT3⟩ := hPad
  refine j_aload_n E dX6_rule_0 rfl rfl ?_
  refine j_iconst (v := 2) E dX6_rule_1 (by decide) ?_
  by_cases c2 : xEnt a M 2 = true
  · refine j_xV_ok0 (ci := 6) (n := 1) E hT.2.2 (k_X6_mustHaveEntered_ok hT.2.1 hX0 (xEnt_1 c2)) dX6_rule_2 gX6_rule_X6_mustHaveEntered rfl (by decide +kernel) ⟨rfl, rfl, by decide, by decide⟩ ⟨by decide, by decide⟩ hx1 hx2 rfl rfl rfl (Nat.le_of_ble_eq_true rfl) ?_
    refine j_aload_n E dX6_rule_5 rfl rfl ?_
    refine j_getI (ci := 6) (k := 6) (Cn := RX6) (T := TX6) (N := 10) E dX6_rule_6 hx1 hx2 rfl (by decide) hinX6 (by decide +kernel) rfl ?_
    refine j_if_lt (tgt := 21) E dX6_rule_9 (by decide) (fun h9 => ?_) (fun h9 => ?_)
    · exact j_o (by simp [xRuO, xRuM, xRu, c2, h9]) (j_throw (cls := xISE) (names := ["java/lang/RuntimeException", "java/lang/Exception"]) E hT (by decide +kernel) (by decide +kernel) (by decide +kernel) (by decide +kernel) hT.2.2.2.2.1 (by decide +kernel) (by decide +kernel) (by decide +kernel) dX6_rule_21 dX6_rule_24 dX6_rule_25 dX6_rule_27 dX6_rule_30 (by decide) (Nat.le_of_ble_eq_true rfl) (by decide) (by decide) (by decide) (by decide))
    · refine j_aload_n E dX6_rule_12 rfl rfl ?_
      refine j_getI (ci := 6) (k := 6) (Cn := RX6) (T := TX6) (N := 10) E dX6_rule_13 hx1 hx2 rfl (by decide) hinX6 (by decide +kernel) rfl ?_
      refine j_bipush (v := 6) E dX6_rule_16 (by decide) ?_
      refine j_icmp_lt (tgt := 31) E dX6_rule_18 (by decide) (fun h18 => ?_) (fun h18 => ?_)
      · have hrc := ix_lt (n := 6) h9 h18 (by decide)
        obtain ⟨q1, qR⟩ := hu (M.1 (a 0) 6).toNatClampNeg hrc.2
        have qR0 := qR
        obtain ⟨q2, q3, q4, q5, q6, q7⟩ := qR
        refine j_aload_n E dX6_rule_31 rfl rfl ?_
        refine j_getP (ci := 6) (k := 4) (Cn := RX6) (T := TX6) (N := 10) E dX6_rule_32 hx1 hx2 rfl (by decide) hinX6 (by decide +kernel) rfl hx7 ?_
        refine j_aload_n E dX6_rule_35 rfl rfl ?_
        refine j_getP (ci := 6) (k := 2) (Cn := RX6) (T := TX6) (N := 10) E dX6_rule_36 hx1 hx2 rfl (by decide) hinX6 (by decide +kernel) rfl hx5 ?_
        refine j_aload_n E dX6_rule_39 rfl rfl ?_
        refine j_getI (ci := 6) (k := 6) (Cn := RX6) (T := TX6) (N := 10) E dX6_rule_40 hx1 hx2 rfl (by decide) hinX6 (by decide +kernel) rfl ?_
        refine j_aldR E dX6_rule_43 hu1 hu3 hrc.1 hrc.2 (by decide) hu2 q1 ?_
        refine j_callV1 (ci := 1) (n := 1) E (k_X1_readInto hPad0 qR0) dX6_rule_44 gX6_rule_X1_readInto rfl (by decide +kernel) ⟨rfl, rfl, by decide, by decide⟩ ⟨by decide, by decide⟩ hP1 hP2 rfl rfl rfl (Nat.le_of_ble_eq_true rfl) rfl ?_
        refine j_istore_n E dX6_rule_47 rfl (by decide) ?_
        refine j_aload_n E dX6_rule_48 rfl rfl ?_
        refine j_getP (ci := 6) (k := 4) (Cn := RX6) (T := TX6) (N := 10) E dX6_rule_49 hx1 hx2 rfl (by decide) hinX6 (by decide +kernel) rfl hx7 ?_
        refine j_iconst (v := 0) E dX6_rule_52 (by decide) ?_
        refine j_putI (ci := 1) (k := 1) (Cn := RX1) (T := TX1) (N := 3) E dX6_rule_53 hP1 hP2 rfl (by decide) hinX1 (by decide +kernel) rfl tyX1 tyX1_ok nmX1 rfl rfl rfl rfl ?_
        refine j_iload_n E dX6_rule_56 rfl rfl ?_
        refine j_iconst (v := -1) E dX6_rule_57 (by decide) ?_
        refine j_icmp_eq (tgt := 65) E dX6_rule_58 (by decide) (fun h58 => ?_) (fun h58 => ?_)
        · refine j_aload_n E dX6_rule_65 rfl rfl ?_
          refine j_dup E dX6_rule_66 rfl ?_
          refine j_getI (ci := 6) (k := 6) (Cn := RX6) (T := TX6) (N := 10) E dX6_rule_67 hx1 hx2 rfl (by decide) hinX6 (by decide +kernel) rfl ?_
          refine j_iconst (v := 1) E dX6_rule_70 (by decide) ?_
          refine j_iadd E dX6_rule_71 ?_
          refine j_putI (ci := 6) (k := 6) (Cn := RX6) (T := TX6) (N := 10) E dX6_rule_72 hx1 hx2 rfl (by decide) hinX6 (by decide +kernel) rfl tyX6 tyX6_ok nmX6 rfl rfl rfl rfl ?_
          refine j_iconst (v := 0) E dX6_rule_75 (by decide) ?_
          refine j_o ?_ (jX_ret (j_widen (by decide) (by decide) (j_iret E dX6_rule_76 rfl rfl rfl)))
          simp [xRuO, xRuM, xRu, c2, h9, h18, h58]
        · refine j_iconst (v := 1) E dX6_rule_61 (by decide) ?_
          refine j_iload_n E dX6_rule_62 rfl rfl ?_
          refine j_iadd E dX6_rule_63 ?_
          refine j_o ?_ (jX_ret (j_widen (by decide) (by decide) (j_iret E dX6_rule_64 rfl rfl rfl)))
          simp [xRuO, xRuM, xRu, c2, h9, h18, h58]
      · exact j_o (by simp [xRuO, xRuM, xRu, c2, h9, h18]) (j_throw (cls := xISE) (names := ["java/lang/RuntimeException", "java/lang/Exception"]) E hT (by decide +kernel) (by decide +kernel) (by decide +kernel) (by decide +kernel) hT.2.2.2.2.1 (by decide +kernel) (by decide +kernel) (by decide +kernel) dX6_rule_21 dX6_rule_24 dX6_rule_25 dX6_rule_27 dX6_rule_30 (by decide) (Nat.le_of_ble_eq_true rfl) (by decide) (by decide) (by decide) (by decide))
  · exact j_o (by simp [xRuO, xRuM, xRu, c2]) (j_xV_out (ci := 6) (n := 1) E hT (k_X6_mustHaveEntered_no hT.2.1 hX0 (xEnt_0 c2)) dX6_rule_2 gX6_rule_X6_mustHaveEntered rfl (by decide +kernel) ⟨rfl, rfl, by decide, by decide⟩ ⟨by decide, by decide⟩ hx1 hx2 rfl rfl rfl (Nat.le_of_ble_eq_true rfl) (by decide) (by decide))

set_option maxHeartbeats 1600000 in
set_option maxRecDepth 100000 in
theorem k_X6_forget {l : Launch} (hlt : l.stackTraces = false) {D : va_G} {cy : Nat → ClassId} {X : va_W} {G : pG} {M : pM} {a : Nat → Nat}  (hX : wX G a) : jKX l yX6_forget wsX6_forget ({ frames := 7, cells := 1, slots := 6, locals := 111 } : Room) D cy X G M [.ref (a 0)] (xForgO a M) 1 6 := by
  refine jKX_of hlt (own := RX6) (by decide) rfl rfl (Nat.le_of_ble_eq_true rfl) (fun C E hT hl hD hcy hG => ?_)
  subst hl; subst hD; subst hcy; subst hG
  have hinX6 : ∀ w ∈ u_ws RX6 TX6 10, w ∈ wsX6_forget := by decide +kernel
  have hX0 := hX
  obtain ⟨⟨hx1, hx2, hx3, hx4, hx5, hx6, hx7, hx8⟩, hRing, ⟨hz1, hz2, hz3, hz⟩, ⟨hu1, hu2, hu3, hu⟩, ⟨ho1, ho2, ho3⟩, hPad, hLog⟩ := hX
  have hRing0 := hRing
  obtain ⟨⟨hr1, hr2, hr3, hr4⟩, ⟨hp1, hp2, hp3⟩, ⟨hw1, hw2, hw3⟩, hpl⟩ := hRing
  have hLog0 := hLog
  obtain ⟨hg1, hg2, hg3, hv1, hv2, hv3⟩ := hLog
  have hPad0 := hPad
  obtain ⟨hP1, hP2, hP3, hT1, hT2, hT3⟩ := hPad
  refine j_aload_n E dX6_forget_0 rfl rfl ?_
  refine j_iconst (v := 2) E dX6_forget_1 (by decide) ?_
  by_cases c2 : xEnt a M 2 = true
  · refine j_xV_ok0 (ci := 6) (n := 1) E hT.2.2 (k_X6_mustHaveEntered_ok hT.2.1 hX0 (xEnt_1 c2)) dX6_forget_2 gX6_forget_X6_mustHaveEntered rfl (by decide +kernel) ⟨rfl, rfl, by decide, by decide⟩ ⟨by decide, by decide⟩ hx1 hx2 rfl rfl rfl (Nat.le_of_ble_eq_true rfl) ?_
    refine j_aload_n E dX6_forget_5 rfl rfl ?_
    refine j_getI (ci := 6) (k := 6) (Cn := RX6) (T := TX6) (N := 10) E dX6_forget_6 hx1 hx2 rfl (by decide) hinX6 (by decide +kernel) rfl ?_
    refine j_istore_n E dX6_forget_9 rfl (by decide) ?_
    refine j_aload_n E dX6_forget_10 rfl rfl ?_
    refine j_iconst (v := 0) E dX6_forget_11 (by decide) ?_
    refine j_putI (ci := 6) (k := 6) (Cn := RX6) (T := TX6) (N := 10) E dX6_forget_12 hx1 hx2 rfl (by decide) hinX6 (by decide +kernel) rfl tyX6 tyX6_ok nmX6 rfl rfl rfl rfl ?_
    refine j_aload_n E dX6_forget_15 rfl rfl ?_
    refine j_callV0 (ci := 6) (n := 0) E (k_X6_allOutputsOff hX0) dX6_forget_16 gX6_forget_X6_allOutputsOff rfl (by decide +kernel) ⟨rfl, rfl, by decide, by decide⟩ ⟨by decide, by decide⟩ hx1 hx2 rfl rfl rfl (Nat.le_of_ble_eq_true rfl) rfl ?_
    refine j_iload_n E dX6_forget_19 rfl rfl ?_
    refine j_o ?_ (jX_ret (j_widen (by decide) (by decide) (j_iret E dX6_forget_20 rfl rfl rfl)))
    simp [xForgO, c2]
  · exact j_o (by simp [xForgO, c2]) (j_xV_out (ci := 6) (n := 1) E hT (k_X6_mustHaveEntered_no hT.2.1 hX0 (xEnt_0 c2)) dX6_forget_2 gX6_forget_X6_mustHaveEntered rfl (by decide +kernel) ⟨rfl, rfl, by decide, by decide⟩ ⟨by decide, by decide⟩ hx1 hx2 rfl rfl rfl (Nat.le_of_ble_eq_true rfl) (by decide) (by decide))

set_option maxHeartbeats 1600000 in
set_option maxRecDepth 100000 in
theorem k_X6_silence {l : Launch} (hlt : l.stackTraces = false) {D : va_G} {cy : Nat → ClassId} {X : va_W} {G : pG} {M : pM} {a : Nat → Nat}  (hX : wX G a) : jKX l yX6_silence wsX6_silence ({ frames := 7, cells := 1, slots := 6, locals := 111 } : Room) D cy X G M [.ref (a 0)] (xSilO a M) 1 6 := by
  refine jKX_of hlt (own := RX6) (by decide) rfl rfl (Nat.le_of_ble_eq_true rfl) (fun C E hT hl hD hcy hG => ?_)
  subst hl; subst hD; subst hcy; subst hG
  have hinX6 : ∀ w ∈ u_ws RX6 TX6 10, w ∈ wsX6_silence := by decide +kernel
  have hX0 := hX
  obtain ⟨⟨hx1, hx2, hx3, hx4, hx5, hx6, hx7, hx8⟩, hRing, ⟨hz1, hz2, hz3, hz⟩, ⟨hu1, hu2, hu3, hu⟩, ⟨ho1, ho2, ho3⟩, hPad, hLog⟩ := hX
  have hRing0 := hRing
  obtain ⟨⟨hr1, hr2, hr3, hr4⟩, ⟨hp1, hp2, hp3⟩, ⟨hw1, hw2, hw3⟩, hpl⟩ := hRing
  have hLog0 := hLog
  obtain ⟨hg1, hg2, hg3, hv1, hv2, hv3⟩ := hLog
  have hPad0 := hPad
  obtain ⟨hP1, hP2, hP3, hT1, hT2, hT3⟩ := hPad
  refine j_aload_n E dX6_silence_0 rfl rfl ?_
  refine j_iconst (v := 1) E dX6_silence_1 (by decide) ?_
  by_cases c2 : xEnt a M 1 = true
  · refine j_xV_ok0 (ci := 6) (n := 1) E hT.2.2 (k_X6_mustHaveEntered_ok hT.2.1 hX0 (xEnt_1 c2)) dX6_silence_2 gX6_silence_X6_mustHaveEntered rfl (by decide +kernel) ⟨rfl, rfl, by decide, by decide⟩ ⟨by decide, by decide⟩ hx1 hx2 rfl rfl rfl (Nat.le_of_ble_eq_true rfl) ?_
    refine j_aload_n E dX6_silence_5 rfl rfl ?_
    refine j_getI (ci := 6) (k := 9) (Cn := RX6) (T := TX6) (N := 10) E dX6_silence_6 hx1 hx2 rfl (by decide) hinX6 (by decide +kernel) rfl ?_
    refine j_if_eq (tgt := 14) E dX6_silence_9 (by decide) (fun h9 => ?_) (fun h9 => ?_)
    · refine j_aload_n E dX6_silence_14 rfl rfl ?_
      refine j_iconst (v := 1) E dX6_silence_15 (by decide) ?_
      refine j_putI (ci := 6) (k := 9) (Cn := RX6) (T := TX6) (N := 10) E dX6_silence_16 hx1 hx2 rfl (by decide) hinX6 (by decide +kernel) rfl tyX6 tyX6_ok nmX6 rfl rfl rfl rfl ?_
      refine j_aload_n E dX6_silence_19 rfl rfl ?_
      refine j_getP (ci := 6) (k := 5) (Cn := RX6) (T := TX6) (N := 10) E dX6_silence_20 hx1 hx2 rfl (by decide) hinX6 (by decide +kernel) rfl hx8 ?_
      refine j_iconst (v := 5) E dX6_silence_23 (by decide) ?_
      refine j_iconst (v := 0) E dX6_silence_24 (by decide) ?_
      refine j_aload_n E dX6_silence_25 rfl rfl ?_
      refine j_getI (ci := 6) (k := 7) (Cn := RX6) (T := TX6) (N := 10) E dX6_silence_26 hx1 hx2 rfl (by decide) hinX6 (by decide +kernel) rfl ?_
      try simp only [pI_rd, pF_rd, pR_rd, pI_2, pF_1, pR_2, Nat.reduceEqDiff, ↓reduceIte]
      refine j_callV0 (ci := 0) (n := 3) E (k_X0_add hLog0) dX6_silence_29 gX6_silence_X0_add rfl (by decide +kernel) ⟨rfl, rfl, by decide, by decide⟩ ⟨by decide, by decide⟩ hg1 hg2 rfl rfl rfl (Nat.le_of_ble_eq_true rfl) rfl ?_
      refine j_iconst (v := 1) E dX6_silence_32 (by decide) ?_
      refine j_o ?_ (jX_ret (j_widen (by decide) (by decide) (j_zret E dX6_silence_33 rfl rfl rfl rfl)))
      simp [xSilO, c2, h9]
    · refine j_iconst (v := 0) E dX6_silence_12 (by decide) ?_
      refine j_o ?_ (jX_ret (j_widen (by decide) (by decide) (j_zret E dX6_silence_13 rfl rfl rfl rfl)))
      simp [xSilO, c2, h9]
  · exact j_o (by simp [xSilO, c2]) (j_xV_out (ci := 6) (n := 1) E hT (k_X6_mustHaveEntered_no hT.2.1 hX0 (xEnt_0 c2)) dX6_silence_2 gX6_silence_X6_mustHaveEntered rfl (by decide +kernel) ⟨rfl, rfl, by decide, by decide⟩ ⟨by decide, by decide⟩ hx1 hx2 rfl rfl rfl (Nat.le_of_ble_eq_true rfl) (by decide) (by decide))

set_option maxHeartbeats 1600000 in
set_option maxRecDepth 100000 in
theorem kl_X6_reset_106 {C : jC} (E : jE C cX6_reset 6 wsX6_reset RX6 (some .int) ({ frames := 7, cells := 1, slots := 6, locals := 120 } : Room)) {X : va_W} {M M0 : pM} {a : Nat → Nat} {f : Int32} (hX : wX (jG C) a) : ∀ (n i : Nat), i + n = 6 → jW C 6 106 [(0, .ref (a 0)), (1, .int f), (2, .ref (a 25)), (3, .int 6), (4, .int (nI i))] [] X (xHlN a i M) 1 6 (jZX C X M0 (.inl (some (.int f), xReE a (xHlN a 6 M))) 1 6) := by
  have hinX4 : ∀ w ∈ u_ws RX4 TX4 5, w ∈ wsX6_reset := by decide +kernel
  have hinX6 : ∀ w ∈ u_ws RX6 TX6 10, w ∈ wsX6_reset := by decide +kernel
  have hX0 := hX
  obtain ⟨⟨hx1, hx2, hx3, hx4, hx5, hx6, hx7, hx8⟩, hRing, ⟨hz1, hz2, hz3, hz⟩, ⟨hu1, hu2, hu3, hu⟩, ⟨ho1, ho2, ho3⟩, hPad, hLog⟩ := hX
  have hRing0 := hRing
  obtain ⟨⟨hr1, hr2, hr3, hr4⟩, ⟨hp1, hp2, hp3⟩, ⟨hw1, hw2, hw3⟩, hpl⟩ := hRing
  have hLog0 := hLog
  obtain ⟨hg1, hg2, hg3, hv1, hv2, hv3⟩ := hLog
  have hPad0 := hPad
  obtain ⟨hP1, hP2, hP3, hT1, hT2, hT3⟩ := hPad
  intro n
  induction n with
  | zero =>
    intro i hn
    obtain rfl : i = 6 := by omega
    refine j_iload E dX6_reset_106 rfl ?_
    refine j_iload_n E dX6_reset_108 rfl rfl ?_
    refine j_icmp_ge (tgt := 130) E dX6_reset_109 (by decide) (fun h => ?_) (fun h => absurd (by decide) h)
    refine j_aload_n E dX6_reset_130 rfl rfl ?_
    refine j_callV0 (ci := 6) (n := 0) E (k_X6_allOutputsOff hX0) dX6_reset_131 gX6_reset_X6_allOutputsOff rfl (by decide +kernel) ⟨rfl, rfl, by decide, by decide⟩ ⟨by decide, by decide⟩ hx1 hx2 rfl rfl rfl (Nat.le_of_ble_eq_true rfl) rfl ?_
    refine j_aload_n E dX6_reset_134 rfl rfl ?_
    refine j_iconst (v := 0) E dX6_reset_135 (by decide) ?_
    refine j_putI (ci := 6) (k := 9) (Cn := RX6) (T := TX6) (N := 10) E dX6_reset_136 hx1 hx2 rfl (by decide) hinX6 (by decide +kernel) rfl tyX6 tyX6_ok nmX6 rfl rfl rfl rfl ?_
    refine j_aload_n E dX6_reset_139 rfl rfl ?_
    refine j_getP (ci := 6) (k := 5) (Cn := RX6) (T := TX6) (N := 10) E dX6_reset_140 hx1 hx2 rfl (by decide) hinX6 (by decide +kernel) rfl hx8 ?_
    refine j_bipush (v := 6) E dX6_reset_143 (by decide) ?_
    refine j_iconst (v := 0) E dX6_reset_145 (by decide) ?_
    refine j_aload_n E dX6_reset_146 rfl rfl ?_
    refine j_getI (ci := 6) (k := 7) (Cn := RX6) (T := TX6) (N := 10) E dX6_reset_147 hx1 hx2 rfl (by decide) hinX6 (by decide +kernel) rfl ?_
    refine j_callV0 (ci := 0) (n := 3) E (k_X0_add hLog0) dX6_reset_150 gX6_reset_X0_add rfl (by decide +kernel) ⟨rfl, rfl, by decide, by decide⟩ ⟨by decide, by decide⟩ hg1 hg2 rfl rfl rfl (Nat.le_of_ble_eq_true rfl) rfl ?_
    refine j_iload_n E dX6_reset_153 rfl rfl ?_
    refine j_o ?_ (jX_ret (j_widen (by decide) (by decide) (j_iret E dX6_reset_154 rfl rfl rfl)))
    rfl
  | succ n ih =>
    intro i hn
    have hi : i < 6 := by omega
    obtain ⟨q1, qR⟩ := hu i hi
    obtain ⟨q2, q3, q4, q5, q6, q7⟩ := qR
    refine j_iload E dX6_reset_106 rfl ?_
    refine j_iload_n E dX6_reset_108 rfl rfl ?_
    refine j_icmp_ge (tgt := 130) E dX6_reset_109 (by decide) (fun h109 => ?_) (fun h109 => ?_)
    · exact absurd h109 (nI_ge (b := 6) hi (by decide))
    · refine j_aload_n E dX6_reset_112 rfl rfl ?_
      refine j_iload E dX6_reset_113 rfl ?_
      refine j_aldR E dX6_reset_115 hu1 hu3 rfl hi (by decide) hu2 q1 ?_
      refine j_astore E dX6_reset_116 (by decide) ?_
      refine j_aload E dX6_reset_118 rfl ?_
      refine j_iconst (v := 0) E dX6_reset_120 (by decide) ?_
      refine j_putI (ci := 4) (k := 4) (Cn := RX4) (T := TX4) (N := 5) E dX6_reset_121 q2 q3 rfl (by decide) hinX4 (by decide +kernel) rfl tyX4 tyX4_ok nmX4 rfl rfl rfl rfl ?_
      refine j_iinc E dX6_reset_124 rfl (by decide) ?_
      refine j_goto (tgt := 106) E dX6_reset_127 (by decide) ?_
      exact j_lv [0, 1, 2, 3, 4] rfl (by rw [nI_inc]; exact ih (i + 1) (by omega))

set_option maxHeartbeats 1600000 in
set_option maxRecDepth 100000 in
theorem kl_X6_reset_72 {C : jC} (E : jE C cX6_reset 6 wsX6_reset RX6 (some .int) ({ frames := 7, cells := 1, slots := 6, locals := 120 } : Room)) {X : va_W} {M M0 : pM} {a : Nat → Nat} {f : Int32} (hX : wX (jG C) a) : ∀ (n i : Nat), i + n = 16 → jW C 6 72 [(0, .ref (a 0)), (1, .int f), (2, .ref (a 2)), (3, .int 16), (4, .int (nI i))] [] X (xCaN a i M) 1 6 (jZX C X M0 (.inl (some (.int f), xReE a (xHlN a 6 (xCaN a 16 M)))) 1 6) := by
  have hinX6 : ∀ w ∈ u_ws RX6 TX6 10, w ∈ wsX6_reset := by decide +kernel
  have hX0 := hX
  obtain ⟨⟨hx1, hx2, hx3, hx4, hx5, hx6, hx7, hx8⟩, hRing, ⟨hz1, hz2, hz3, hz⟩, ⟨hu1, hu2, hu3, hu⟩, ⟨ho1, ho2, ho3⟩, hPad, hLog⟩ := hX
  have hRing0 := hRing
  obtain ⟨⟨hr1, hr2, hr3, hr4⟩, ⟨hp1, hp2, hp3⟩, ⟨hw1, hw2, hw3⟩, hpl⟩ := hRing
  have hLog0 := hLog
  obtain ⟨hg1, hg2, hg3, hv1, hv2, hv3⟩ := hLog
  have hPad0 := hPad
  obtain ⟨hP1, hP2, hP3, hT1, hT2, hT3⟩ := hPad
  intro n
  induction n with
  | zero =>
    intro i hn
    obtain rfl : i = 16 := by omega
    refine j_iload E dX6_reset_72 rfl ?_
    refine j_iload_n E dX6_reset_74 rfl rfl ?_
    refine j_icmp_ge (tgt := 95) E dX6_reset_75 (by decide) (fun h => ?_) (fun h => absurd (by decide) h)
    refine j_aload_n E dX6_reset_95 rfl rfl ?_
    refine j_getP (ci := 6) (k := 2) (Cn := RX6) (T := TX6) (N := 10) E dX6_reset_96 hx1 hx2 rfl (by decide) hinX6 (by decide +kernel) rfl hx5 ?_
    refine j_astore_n E dX6_reset_99 rfl (by decide) ?_
    refine j_aload_n E dX6_reset_100 rfl rfl ?_
    refine j_lenR (v := 6) E dX6_reset_101 hu1 hu3 hu2 rfl ?_
    refine j_istore_n E dX6_reset_102 rfl (by decide) ?_
    refine j_iconst (v := 0) E dX6_reset_103 (by decide) ?_
    refine j_istore E dX6_reset_104 (by decide) ?_
    exact j_lv [0, 1, 2, 3, 4] rfl (kl_X6_reset_106 E hX0 6 0 (by omega))
  | succ n ih =>
    intro i hn
    have hi : i < 16 := by omega
    obtain ⟨q1, q2, q3⟩ := hpl i hi
    refine j_iload E dX6_reset_72 rfl ?_
    refine j_iload_n E dX6_reset_74 rfl rfl ?_
    refine j_icmp_ge (tgt := 95) E dX6_reset_75 (by decide) (fun h75 => ?_) (fun h75 => ?_)
    · exact absurd h75 (nI_ge (b := 16) hi (by decide))
    · refine j_aload_n E dX6_reset_78 rfl rfl ?_
      refine j_iload E dX6_reset_79 rfl ?_
      refine j_aldP E dX6_reset_81 hp1 hp3 rfl hi (by decide) hp2 q1 ?_
      refine j_astore E dX6_reset_82 (by decide) ?_
      refine j_aload E dX6_reset_84 rfl ?_
      refine j_callV0 (ci := 2) (n := 0) E (k_X2_calmDown q2 q3) dX6_reset_86 gX6_reset_X2_calmDown rfl (by decide +kernel) ⟨rfl, rfl, by decide, by decide⟩ ⟨by decide, by decide⟩ q2 q3 rfl rfl rfl (Nat.le_of_ble_eq_true rfl) rfl ?_
      refine j_iinc E dX6_reset_89 rfl (by decide) ?_
      refine j_goto (tgt := 72) E dX6_reset_92 (by decide) ?_
      exact j_lv [0, 1, 2, 3, 4] rfl (by rw [nI_inc]; exact ih (i + 1) (by omega))

set_option maxHeartbeats 1600000 in
set_option maxRecDepth 100000 in
theorem kl_X6_reset_18 {C : jC} (E : jE C cX6_reset 6 wsX6_reset RX6 (some .int) ({ frames := 7, cells := 1, slots := 6, locals := 120 } : Room)) {X : va_W} {M M0 : pM} {a : Nat → Nat} (hX : wX (jG C) a) : ∀ (n i : Nat), i + n = 4 → jW C 6 18 [(0, .ref (a 0)), (1, .int (xRzN a i M).1), (2, .ref (a 20)), (3, .int 4), (4, .int (nI i))] [] X (xRzN a i M).2 1 6 (jZX C X M0 (.inl (some (.int (xRzN a 4 M).1), xReE a (xHlN a 6 (xCaN a 16 (xRzN a 4 M).2)))) 1 6) := by
  have hinX3 : ∀ w ∈ u_ws RX3 TX3 2, w ∈ wsX6_reset := by decide +kernel
  have hinX5 : ∀ w ∈ u_ws RX5 TX5 3, w ∈ wsX6_reset := by decide +kernel
  have hinX6 : ∀ w ∈ u_ws RX6 TX6 10, w ∈ wsX6_reset := by decide +kernel
  have hX0 := hX
  obtain ⟨⟨hx1, hx2, hx3, hx4, hx5, hx6, hx7, hx8⟩, hRing, ⟨hz1, hz2, hz3, hz⟩, ⟨hu1, hu2, hu3, hu⟩, ⟨ho1, ho2, ho3⟩, hPad, hLog⟩ := hX
  have hRing0 := hRing
  obtain ⟨⟨hr1, hr2, hr3, hr4⟩, ⟨hp1, hp2, hp3⟩, ⟨hw1, hw2, hw3⟩, hpl⟩ := hRing
  have hLog0 := hLog
  obtain ⟨hg1, hg2, hg3, hv1, hv2, hv3⟩ := hLog
  have hPad0 := hPad
  obtain ⟨hP1, hP2, hP3, hT1, hT2, hT3⟩ := hPad
  intro n
  induction n with
  | zero =>
    intro i hn
    obtain rfl : i = 4 := by omega
    refine j_iload E dX6_reset_18 rfl ?_
    refine j_iload_n E dX6_reset_20 rfl rfl ?_
    refine j_icmp_ge (tgt := 58) E dX6_reset_21 (by decide) (fun h => ?_) (fun h => absurd (by decide) h)
    refine j_aload_n E dX6_reset_58 rfl rfl ?_
    refine j_getP (ci := 6) (k := 0) (Cn := RX6) (T := TX6) (N := 10) E dX6_reset_59 hx1 hx2 rfl (by decide) hinX6 (by decide +kernel) rfl hx3 ?_
    refine j_getP (ci := 3) (k := 0) (Cn := RX3) (T := TX3) (N := 2) E dX6_reset_62 hr1 hr2 rfl (by decide) hinX3 (by decide +kernel) rfl hr3 ?_
    refine j_astore_n E dX6_reset_65 rfl (by decide) ?_
    refine j_aload_n E dX6_reset_66 rfl rfl ?_
    refine j_lenP (v := 16) E dX6_reset_67 hp1 hp3 hp2 rfl ?_
    refine j_istore_n E dX6_reset_68 rfl (by decide) ?_
    refine j_iconst (v := 0) E dX6_reset_69 (by decide) ?_
    refine j_istore E dX6_reset_70 (by decide) ?_
    exact j_lv [0, 1, 2, 3, 4] rfl (kl_X6_reset_72 E hX0 16 0 (by omega))
  | succ n ih =>
    intro i hn
    have hi : i < 4 := by omega
    obtain ⟨q1, q2, q3⟩ := hz i hi
    refine j_iload E dX6_reset_18 rfl ?_
    refine j_iload_n E dX6_reset_20 rfl rfl ?_
    refine j_icmp_ge (tgt := 58) E dX6_reset_21 (by decide) (fun h21 => ?_) (fun h21 => ?_)
    · exact absurd h21 (nI_ge (b := 4) hi (by decide))
    · refine j_aload_n E dX6_reset_24 rfl rfl ?_
      refine j_iload E dX6_reset_25 rfl ?_
      refine j_aldZ E dX6_reset_27 hz1 hz3 rfl hi (by decide) hz2 q1 ?_
      refine j_astore E dX6_reset_28 (by decide) ?_
      refine j_iload_n E dX6_reset_30 rfl rfl ?_
      refine j_aload E dX6_reset_31 rfl ?_
      refine j_getI (ci := 5) (k := 1) (Cn := RX5) (T := TX5) (N := 3) E dX6_reset_33 q2 q3 rfl (by decide) hinX5 (by decide +kernel) rfl ?_
      refine j_if_eq (tgt := 43) E dX6_reset_36 (by decide) (fun h36 => ?_) (fun h36 => ?_)
      · refine j_iconst (v := 0) E dX6_reset_43 (by decide) ?_
        refine j_iadd E dX6_reset_44 ?_
        refine j_istore_n E dX6_reset_45 rfl (by decide) ?_
        refine j_aload E dX6_reset_46 rfl ?_
        refine j_iconst (v := 0) E dX6_reset_48 (by decide) ?_
        refine j_putI (ci := 5) (k := 1) (Cn := RX5) (T := TX5) (N := 3) E dX6_reset_49 q2 q3 rfl (by decide) hinX5 (by decide +kernel) rfl tyX5 tyX5_ok nmX5 rfl rfl rfl rfl ?_
        refine j_iinc E dX6_reset_52 rfl (by decide) ?_
        refine j_goto (tgt := 18) E dX6_reset_55 (by decide) ?_
        exact j_lv [0, 1, 2, 3, 4] rfl (by rw [nI_inc]; have h9 := ih (i + 1) (by omega); simp only [xRzN, xRz1, h21, h36, ↓reduceIte] at h9; exact h9)
      · refine j_iconst (v := 1) E dX6_reset_39 (by decide) ?_
        refine j_goto (tgt := 44) E dX6_reset_40 (by decide) ?_
        refine j_iadd E dX6_reset_44 ?_
        refine j_istore_n E dX6_reset_45 rfl (by decide) ?_
        refine j_aload E dX6_reset_46 rfl ?_
        refine j_iconst (v := 0) E dX6_reset_48 (by decide) ?_
        refine j_putI (ci := 5) (k := 1) (Cn := RX5) (T := TX5) (N := 3) E dX6_reset_49 q2 q3 rfl (by decide) hinX5 (by decide +kernel) rfl tyX5 tyX5_ok nmX5 rfl rfl rfl rfl ?_
        refine j_iinc E dX6_reset_52 rfl (by decide) ?_
        refine j_goto (tgt := 18) E dX6_reset_55 (by decide) ?_
        exact j_lv [0, 1, 2, 3, 4] rfl (by rw [nI_inc]; have h9 := ih (i + 1) (by omega); simp only [xRzN, xRz1, h21, h36, ↓reduceIte] at h9; exact h9)

set_option maxHeartbeats 1600000 in
set_option maxRecDepth 100000 in
theorem k_X6_reset {l : Launch} (hlt : l.stackTraces = false) {D : va_G} {cy : Nat → ClassId} {X : va_W} {G : pG} {M : pM} {a : Nat → Nat}  (hX : wX G a) : jKX l yX6_reset wsX6_reset ({ frames := 7, cells := 1, slots := 6, locals := 120 } : Room) D cy X G M [.ref (a 0)] (xResO a M) 1 6 := by
  refine jKX_of hlt (own := RX6) (by decide) rfl rfl (Nat.le_of_ble_eq_true rfl) (fun C E hT hl hD hcy hG => ?_)
  subst hl; subst hD; subst hcy; subst hG
  have hinX6 : ∀ w ∈ u_ws RX6 TX6 10, w ∈ wsX6_reset := by decide +kernel
  have hX0 := hX
  obtain ⟨⟨hx1, hx2, hx3, hx4, hx5, hx6, hx7, hx8⟩, hRing, ⟨hz1, hz2, hz3, hz⟩, ⟨hu1, hu2, hu3, hu⟩, ⟨ho1, ho2, ho3⟩, hPad, hLog⟩ := hX
  have hRing0 := hRing
  obtain ⟨⟨hr1, hr2, hr3, hr4⟩, ⟨hp1, hp2, hp3⟩, ⟨hw1, hw2, hw3⟩, hpl⟩ := hRing
  have hLog0 := hLog
  obtain ⟨hg1, hg2, hg3, hv1, hv2, hv3⟩ := hLog
  have hPad0 := hPad
  obtain ⟨hP1, hP2, hP3, hT1, hT2, hT3⟩ := hPad
  refine j_aload_n E dX6_reset_0 rfl rfl ?_
  refine j_iconst (v := 1) E dX6_reset_1 (by decide) ?_
  by_cases c2 : xEnt a M 1 = true
  · refine j_xV_ok0 (ci := 6) (n := 1) E hT.2.2 (k_X6_mustHaveEntered_ok hT.2.1 hX0 (xEnt_1 c2)) dX6_reset_2 gX6_reset_X6_mustHaveEntered rfl (by decide +kernel) ⟨rfl, rfl, by decide, by decide⟩ ⟨by decide, by decide⟩ hx1 hx2 rfl rfl rfl (Nat.le_of_ble_eq_true rfl) ?_
    refine j_iconst (v := 0) E dX6_reset_5 (by decide) ?_
    refine j_istore_n E dX6_reset_6 rfl (by decide) ?_
    refine j_aload_n E dX6_reset_7 rfl rfl ?_
    refine j_getP (ci := 6) (k := 1) (Cn := RX6) (T := TX6) (N := 10) E dX6_reset_8 hx1 hx2 rfl (by decide) hinX6 (by decide +kernel) rfl hx4 ?_
    refine j_astore_n E dX6_reset_11 rfl (by decide) ?_
    refine j_aload_n E dX6_reset_12 rfl rfl ?_
    refine j_lenZ (v := 4) E dX6_reset_13 hz1 hz3 hz2 rfl ?_
    refine j_istore_n E dX6_reset_14 rfl (by decide) ?_
    refine j_iconst (v := 0) E dX6_reset_15 (by decide) ?_
    refine j_istore E dX6_reset_16 (by decide) ?_
    exact j_o (by simp [xResO, c2]) (j_lv [0, 1, 2, 3, 4] rfl (kl_X6_reset_18 E hX0 4 0 (by omega)))
  · exact j_o (by simp [xResO, c2]) (j_xV_out (ci := 6) (n := 1) E hT (k_X6_mustHaveEntered_no hT.2.1 hX0 (xEnt_0 c2)) dX6_reset_2 gX6_reset_X6_mustHaveEntered rfl (by decide +kernel) ⟨rfl, rfl, by decide, by decide⟩ ⟨by decide, by decide⟩ hx1 hx2 rfl rfl rfl (Nat.le_of_ble_eq_true rfl) (by decide) (by decide))

set_option maxHeartbeats 1600000 in
set_option maxRecDepth 100000 in
theorem k_X6_off_z {l : Launch} (hlt : l.stackTraces = false) {D : va_G} {cy : Nat → ClassId} {X : va_W} {G : pG} {M : pM} {a : Nat → Nat} {z p f : Int32} (hX : wX G a) (hf : f = 0 ∨ f = 1) (hz0 : ¬ z = 0) : jKX l yX6_off wsX6_off ({ frames := 7, cells := 2, slots := 12, locals := 111 } : Room) D cy X G M [.ref (a 0), .int z, .int p, .int f] (xOffO a M z p f) 2 12 := by
  refine jKX_of hlt (own := RX6) (by decide) rfl rfl (Nat.le_of_ble_eq_true rfl) (fun C E hT hl hD hcy hG => ?_)
  subst hl; subst hD; subst hcy; subst hG
  have hinX5 : ∀ w ∈ u_ws RX5 TX5 3, w ∈ wsX6_off := by decide +kernel
  have hinX6 : ∀ w ∈ u_ws RX6 TX6 10, w ∈ wsX6_off := by decide +kernel
  have hX0 := hX
  obtain ⟨⟨hx1, hx2, hx3, hx4, hx5, hx6, hx7, hx8⟩, hRing, ⟨hz1, hz2, hz3, hz⟩, ⟨hu1, hu2, hu3, hu⟩, ⟨ho1, ho2, ho3⟩, hPad, hLog⟩ := hX
  have hRing0 := hRing
  obtain ⟨⟨hr1, hr2, hr3, hr4⟩, ⟨hp1, hp2, hp3⟩, ⟨hw1, hw2, hw3⟩, hpl⟩ := hRing
  have hLog0 := hLog
  obtain ⟨hg1, hg2, hg3, hv1, hv2, hv3⟩ := hLog
  have hPad0 := hPad
  obtain ⟨hP1, hP2, hP3, hT1, hT2, hT3⟩ := hPad
  refine j_iload_n E dX6_off_0 rfl rfl ?_
  refine j_iload_n E dX6_off_1 rfl rfl ?_
  refine j_if_eq (tgt := 9) E dX6_off_2 (by decide) (fun h2 => ?_) (fun h2 => ?_)
  · exact absurd h2 hz0
  · refine j_iconst (v := 4) E dX6_off_5 (by decide) ?_
    refine j_goto (tgt := 11) E dX6_off_6 (by decide) ?_
    by_cases c11 : xIn p 4 = true
    · refine j_xS_ok0 (n := 2) E hT.2.2 (k_X6_mustExist_ok hT.2.1 (xIn_1 c11)) dX6_off_11 gX6_off_X6_mustExist rfl (by decide +kernel) ⟨rfl, rfl, by decide, by decide⟩ ⟨by decide, by decide⟩ rfl rfl (Nat.le_of_ble_eq_true rfl) ?_
      refine j_aload_n E dX6_off_14 rfl rfl ?_
      refine j_iconst (v := 2) E dX6_off_15 (by decide) ?_
      by_cases c16 : xEnt a M 2 = true
      · refine j_xV_ok0 (ci := 6) (n := 1) E hT.2.2 (k_X6_mustHaveEntered_ok hT.2.1 hX0 (xEnt_1 c16)) dX6_off_16 gX6_off_X6_mustHaveEntered rfl (by decide +kernel) ⟨rfl, rfl, by decide, by decide⟩ ⟨by decide, by decide⟩ hx1 hx2 rfl rfl rfl (Nat.le_of_ble_eq_true rfl) ?_
        obtain ⟨q1, q2, q3⟩ := hz p.toNatClampNeg (ix_lt (n := 4) (xIn_1 c11).1 (xIn_1 c11).2 (by decide)).2
        have h0q : a 0 ≠ a (21 + p.toNatClampNeg) := ne_kind hx2 q3 (by decide)
        refine j_iload_n E dX6_off_19 rfl rfl ?_
        refine j_if_eq (tgt := 35) E dX6_off_20 (by decide) (fun h20 => ?_) (fun h20 => ?_)
        · exact absurd h20 hz0
        · refine j_aload_n E dX6_off_23 rfl rfl ?_
          refine j_getP (ci := 6) (k := 1) (Cn := RX6) (T := TX6) (N := 10) E dX6_off_24 hx1 hx2 rfl (by decide) hinX6 (by decide +kernel) rfl hx4 ?_
          refine j_iload_n E dX6_off_27 rfl rfl ?_
          refine j_aldZ E dX6_off_28 hz1 hz3 (ix_lt (n := 4) (xIn_1 c11).1 (xIn_1 c11).2 (by decide)).1 (ix_lt (n := 4) (xIn_1 c11).1 (xIn_1 c11).2 (by decide)).2 (by decide) hz2 q1 ?_
          refine j_getI (ci := 5) (k := 2) (Cn := RX5) (T := TX5) (N := 3) E dX6_off_29 q2 q3 rfl (by decide) hinX5 (by decide +kernel) rfl ?_
          refine j_goto (tgt := 47) E dX6_off_32 (by decide) ?_
          refine j_istore E dX6_off_47 (by decide) ?_
          refine j_iload E dX6_off_49 rfl ?_
          refine j_iload_n E dX6_off_51 rfl rfl ?_
          refine j_icmp_ne (tgt := 57) E dX6_off_52 (by decide) (fun h52 => ?_) (fun h52 => ?_)
          · refine j_iload_n E dX6_off_57 rfl rfl ?_
            refine j_if_eq (tgt := 74) E dX6_off_58 (by decide) (fun h58 => ?_) (fun h58 => ?_)
            · exact absurd h58 hz0
            · refine j_aload_n E dX6_off_61 rfl rfl ?_
              refine j_getP (ci := 6) (k := 1) (Cn := RX6) (T := TX6) (N := 10) E dX6_off_62 hx1 hx2 rfl (by decide) hinX6 (by decide +kernel) rfl hx4 ?_
              refine j_iload_n E dX6_off_65 rfl rfl ?_
              refine j_aldZ E dX6_off_66 hz1 hz3 (ix_lt (n := 4) (xIn_1 c11).1 (xIn_1 c11).2 (by decide)).1 (ix_lt (n := 4) (xIn_1 c11).1 (xIn_1 c11).2 (by decide)).2 (by decide) hz2 q1 ?_
              refine j_iload_n E dX6_off_67 rfl rfl ?_
              refine j_putI (ci := 5) (k := 2) (Cn := RX5) (T := TX5) (N := 3) E dX6_off_68 q2 q3 rfl (by decide) hinX5 (by decide +kernel) rfl tyX5 tyX5_ok nmX5 rfl rfl (nz01 hf) (fi01 hf) ?_
              refine j_goto (tgt := 87) E dX6_off_71 (by decide) ?_
              refine j_aload_n E dX6_off_87 rfl rfl ?_
              refine j_getP (ci := 6) (k := 5) (Cn := RX6) (T := TX6) (N := 10) E dX6_off_88 hx1 hx2 rfl (by decide) hinX6 (by decide +kernel) rfl hx8 ?_
              refine j_bipush (v := 7) E dX6_off_91 (by decide) ?_
              refine j_iload_n E dX6_off_93 rfl rfl ?_
              refine j_if_eq (tgt := 101) E dX6_off_94 (by decide) (fun h94 => ?_) (fun h94 => ?_)
              · exact absurd h94 hz0
              · refine j_iload_n E dX6_off_97 rfl rfl ?_
                refine j_goto (tgt := 105) E dX6_off_98 (by decide) ?_
                refine j_aload_n E dX6_off_105 rfl rfl ?_
                refine j_getI (ci := 6) (k := 7) (Cn := RX6) (T := TX6) (N := 10) E dX6_off_106 hx1 hx2 rfl (by decide) hinX6 (by decide +kernel) rfl ?_
                try simp only [pI_rd, pF_rd, pR_rd, pI_2, pF_1, pR_2, Nat.reduceEqDiff, ↓reduceIte, (fun M k v => pI_1n M k v h0q)]
                refine j_callV0 (ci := 0) (n := 3) E (k_X0_add hLog0) dX6_off_109 gX6_off_X0_add rfl (by decide +kernel) ⟨rfl, rfl, by decide, by decide⟩ ⟨by decide, by decide⟩ hg1 hg2 rfl rfl rfl (Nat.le_of_ble_eq_true rfl) rfl ?_
                refine j_iconst (v := 1) E dX6_off_112 (by decide) ?_
                refine j_o ?_ (jX_ret (j_widen (by decide) (by decide) (j_zret E dX6_off_113 rfl rfl rfl rfl)))
                simp [xOffO, xOfZ, xOfP, hz0, h2, c11, c16, h20, h52, h58, h94]
          · refine j_iconst (v := 0) E dX6_off_55 (by decide) ?_
            refine j_o ?_ (jX_ret (j_widen (by decide) (by decide) (j_zret E dX6_off_56 rfl rfl rfl rfl)))
            simp [xOffO, xOfZ, xOfP, hz0, h2, c11, c16, h20, h52]
      · exact j_o (by simp [xOffO, xOfZ, xOfP, hz0, h2, c11, c16]) (j_xV_out (ci := 6) (n := 1) E hT (k_X6_mustHaveEntered_no hT.2.1 hX0 (xEnt_0 c16)) dX6_off_16 gX6_off_X6_mustHaveEntered rfl (by decide +kernel) ⟨rfl, rfl, by decide, by decide⟩ ⟨by decide, by decide⟩ hx1 hx2 rfl rfl rfl (Nat.le_of_ble_eq_true rfl) (by decide) (by decide))
    · exact j_o (by simp [xOffO, xOfZ, xOfP, hz0, h2, c11]) (j_xS_out (n := 2) E hT (k_X6_mustExist_no hT.2.1 (xIn_0 c11)) dX6_off_11 gX6_off_X6_mustExist rfl (by decide +kernel) ⟨rfl, rfl, by decide, by decide⟩ ⟨by decide, by decide⟩ rfl rfl (Nat.le_of_ble_eq_true rfl) (by decide) (by decide))

set_option maxHeartbeats 1600000 in
set_option maxRecDepth 100000 in
theorem k_X6_off_p {l : Launch} (hlt : l.stackTraces = false) {D : va_G} {cy : Nat → ClassId} {X : va_W} {G : pG} {M : pM} {a : Nat → Nat} {z p f : Int32} (hX : wX G a) (hf : f = 0 ∨ f = 1) (hz0 : z = 0) : jKX l yX6_off wsX6_off ({ frames := 7, cells := 2, slots := 12, locals := 111 } : Room) D cy X G M [.ref (a 0), .int z, .int p, .int f] (xOffO a M z p f) 2 12 := by
  refine jKX_of hlt (own := RX6) (by decide) rfl rfl (Nat.le_of_ble_eq_true rfl) (fun C E hT hl hD hcy hG => ?_)
  subst hl; subst hD; subst hcy; subst hG
  have hinX2 : ∀ w ∈ u_ws RX2 TX2 11, w ∈ wsX6_off := by decide +kernel
  have hinX3 : ∀ w ∈ u_ws RX3 TX3 2, w ∈ wsX6_off := by decide +kernel
  have hinX6 : ∀ w ∈ u_ws RX6 TX6 10, w ∈ wsX6_off := by decide +kernel
  have hX0 := hX
  obtain ⟨⟨hx1, hx2, hx3, hx4, hx5, hx6, hx7, hx8⟩, hRing, ⟨hz1, hz2, hz3, hz⟩, ⟨hu1, hu2, hu3, hu⟩, ⟨ho1, ho2, ho3⟩, hPad, hLog⟩ := hX
  have hRing0 := hRing
  obtain ⟨⟨hr1, hr2, hr3, hr4⟩, ⟨hp1, hp2, hp3⟩, ⟨hw1, hw2, hw3⟩, hpl⟩ := hRing
  have hLog0 := hLog
  obtain ⟨hg1, hg2, hg3, hv1, hv2, hv3⟩ := hLog
  have hPad0 := hPad
  obtain ⟨hP1, hP2, hP3, hT1, hT2, hT3⟩ := hPad
  refine j_iload_n E dX6_off_0 rfl rfl ?_
  refine j_iload_n E dX6_off_1 rfl rfl ?_
  refine j_if_eq (tgt := 9) E dX6_off_2 (by decide) (fun h2 => ?_) (fun h2 => ?_)
  · refine j_bipush (v := 16) E dX6_off_9 (by decide) ?_
    by_cases c11 : xIn p 16 = true
    · refine j_xS_ok0 (n := 2) E hT.2.2 (k_X6_mustExist_ok hT.2.1 (xIn_1 c11)) dX6_off_11 gX6_off_X6_mustExist rfl (by decide +kernel) ⟨rfl, rfl, by decide, by decide⟩ ⟨by decide, by decide⟩ rfl rfl (Nat.le_of_ble_eq_true rfl) ?_
      refine j_aload_n E dX6_off_14 rfl rfl ?_
      refine j_iconst (v := 2) E dX6_off_15 (by decide) ?_
      by_cases c16 : xEnt a M 2 = true
      · refine j_xV_ok0 (ci := 6) (n := 1) E hT.2.2 (k_X6_mustHaveEntered_ok hT.2.1 hX0 (xEnt_1 c16)) dX6_off_16 gX6_off_X6_mustHaveEntered rfl (by decide +kernel) ⟨rfl, rfl, by decide, by decide⟩ ⟨by decide, by decide⟩ hx1 hx2 rfl rfl rfl (Nat.le_of_ble_eq_true rfl) ?_
        obtain ⟨q1, q2, q3⟩ := hpl p.toNatClampNeg (ix_lt (n := 16) (xIn_1 c11).1 (xIn_1 c11).2 (by decide)).2
        have h0q : a 0 ≠ a (3 + p.toNatClampNeg) := ne_kind hx2 q3 (by decide)
        refine j_iload_n E dX6_off_19 rfl rfl ?_
        refine j_if_eq (tgt := 35) E dX6_off_20 (by decide) (fun h20 => ?_) (fun h20 => ?_)
        · refine j_aload_n E dX6_off_35 rfl rfl ?_
          refine j_getP (ci := 6) (k := 0) (Cn := RX6) (T := TX6) (N := 10) E dX6_off_36 hx1 hx2 rfl (by decide) hinX6 (by decide +kernel) rfl hx3 ?_
          refine j_getP (ci := 3) (k := 0) (Cn := RX3) (T := TX3) (N := 2) E dX6_off_39 hr1 hr2 rfl (by decide) hinX3 (by decide +kernel) rfl hr3 ?_
          refine j_iload_n E dX6_off_42 rfl rfl ?_
          refine j_aldP E dX6_off_43 hp1 hp3 (ix_lt (n := 16) (xIn_1 c11).1 (xIn_1 c11).2 (by decide)).1 (ix_lt (n := 16) (xIn_1 c11).1 (xIn_1 c11).2 (by decide)).2 (by decide) hp2 q1 ?_
          refine j_getI (ci := 2) (k := 10) (Cn := RX2) (T := TX2) (N := 11) E dX6_off_44 q2 q3 rfl (by decide) hinX2 (by decide +kernel) rfl ?_
          refine j_istore E dX6_off_47 (by decide) ?_
          refine j_iload E dX6_off_49 rfl ?_
          refine j_iload_n E dX6_off_51 rfl rfl ?_
          refine j_icmp_ne (tgt := 57) E dX6_off_52 (by decide) (fun h52 => ?_) (fun h52 => ?_)
          · refine j_iload_n E dX6_off_57 rfl rfl ?_
            refine j_if_eq (tgt := 74) E dX6_off_58 (by decide) (fun h58 => ?_) (fun h58 => ?_)
            · refine j_aload_n E dX6_off_74 rfl rfl ?_
              refine j_getP (ci := 6) (k := 0) (Cn := RX6) (T := TX6) (N := 10) E dX6_off_75 hx1 hx2 rfl (by decide) hinX6 (by decide +kernel) rfl hx3 ?_
              refine j_getP (ci := 3) (k := 0) (Cn := RX3) (T := TX3) (N := 2) E dX6_off_78 hr1 hr2 rfl (by decide) hinX3 (by decide +kernel) rfl hr3 ?_
              refine j_iload_n E dX6_off_81 rfl rfl ?_
              refine j_aldP E dX6_off_82 hp1 hp3 (ix_lt (n := 16) (xIn_1 c11).1 (xIn_1 c11).2 (by decide)).1 (ix_lt (n := 16) (xIn_1 c11).1 (xIn_1 c11).2 (by decide)).2 (by decide) hp2 q1 ?_
              refine j_iload_n E dX6_off_83 rfl rfl ?_
              refine j_putI (ci := 2) (k := 10) (Cn := RX2) (T := TX2) (N := 11) E dX6_off_84 q2 q3 rfl (by decide) hinX2 (by decide +kernel) rfl tyX2 tyX2_ok nmX2 rfl rfl (nz01 hf) (fi01 hf) ?_
              refine j_aload_n E dX6_off_87 rfl rfl ?_
              refine j_getP (ci := 6) (k := 5) (Cn := RX6) (T := TX6) (N := 10) E dX6_off_88 hx1 hx2 rfl (by decide) hinX6 (by decide +kernel) rfl hx8 ?_
              refine j_bipush (v := 7) E dX6_off_91 (by decide) ?_
              refine j_iload_n E dX6_off_93 rfl rfl ?_
              refine j_if_eq (tgt := 101) E dX6_off_94 (by decide) (fun h94 => ?_) (fun h94 => ?_)
              · refine j_bipush (v := 10) E dX6_off_101 (by decide) ?_
                refine j_iload_n E dX6_off_103 rfl rfl ?_
                refine j_iadd E dX6_off_104 ?_
                refine j_aload_n E dX6_off_105 rfl rfl ?_
                refine j_getI (ci := 6) (k := 7) (Cn := RX6) (T := TX6) (N := 10) E dX6_off_106 hx1 hx2 rfl (by decide) hinX6 (by decide +kernel) rfl ?_
                try simp only [pI_rd, pF_rd, pR_rd, pI_2, pF_1, pR_2, Nat.reduceEqDiff, ↓reduceIte, (fun M k v => pI_1n M k v h0q)]
                refine j_callV0 (ci := 0) (n := 3) E (k_X0_add hLog0) dX6_off_109 gX6_off_X0_add rfl (by decide +kernel) ⟨rfl, rfl, by decide, by decide⟩ ⟨by decide, by decide⟩ hg1 hg2 rfl rfl rfl (Nat.le_of_ble_eq_true rfl) rfl ?_
                refine j_iconst (v := 1) E dX6_off_112 (by decide) ?_
                refine j_o ?_ (jX_ret (j_widen (by decide) (by decide) (j_zret E dX6_off_113 rfl rfl rfl rfl)))
                simp [xOffO, xOfZ, xOfP, hz0, h2, c11, c16, h20, h52, h58, h94]
              · exact absurd hz0 h94
            · exact absurd hz0 h58
          · refine j_iconst (v := 0) E dX6_off_55 (by decide) ?_
            refine j_o ?_ (jX_ret (j_widen (by decide) (by decide) (j_zret E dX6_off_56 rfl rfl rfl rfl)))
            simp [xOffO, xOfZ, xOfP, hz0, h2, c11, c16, h20, h52]
        · exact absurd hz0 h20
      · exact j_o (by simp [xOffO, xOfZ, xOfP, hz0, h2, c11, c16]) (j_xV_out (ci := 6) (n := 1) E hT (k_X6_mustHaveEntered_no hT.2.1 hX0 (xEnt_0 c16)) dX6_off_16 gX6_off_X6_mustHaveEntered rfl (by decide +kernel) ⟨rfl, rfl, by decide, by decide⟩ ⟨by decide, by decide⟩ hx1 hx2 rfl rfl rfl (Nat.le_of_ble_eq_true rfl) (by decide) (by decide))
    · exact j_o (by simp [xOffO, xOfZ, xOfP, hz0, h2, c11]) (j_xS_out (n := 2) E hT (k_X6_mustExist_no hT.2.1 (xIn_0 c11)) dX6_off_11 gX6_off_X6_mustExist rfl (by decide +kernel) ⟨rfl, rfl, by decide, by decide⟩ ⟨by decide, by decide⟩ rfl rfl (Nat.le_of_ble_eq_true rfl) (by decide) (by decide))
  · exact absurd hz0 h2

theorem k_X6_off {l : Launch} (hlt : l.stackTraces = false) {D : va_G} {cy : Nat → ClassId} {X : va_W} {G : pG} {M : pM} {a : Nat → Nat} {z p f : Int32} (hX : wX G a) (hf : f = 0 ∨ f = 1) : jKX l yX6_off wsX6_off ({ frames := 7, cells := 2, slots := 12, locals := 111 } : Room) D cy X G M [.ref (a 0), .int z, .int p, .int f] (xOffO a M z p f) 2 12 := by
  by_cases h : z = 0
  · exact k_X6_off_p hlt hX hf h
  · exact k_X6_off_z hlt hX hf h

set_option maxHeartbeats 1600000 in
set_option maxRecDepth 100000 in
theorem k_X6_level {l : Launch} (hlt : l.stackTraces = false) {D : va_G} {cy : Nat → ClassId} {X : va_W} {G : pG} {M : pM} {a : Nat → Nat} {p : Int32} (hX : wX G a) : jKX l yX6_level wsX6_level ({ frames := 7, cells := 1, slots := 6, locals := 111 } : Room) D cy X G M [.ref (a 0), .int p] (xLevO a M p 5) 1 6 := by
  refine jKX_of hlt (own := RX6) (by decide) rfl rfl (Nat.le_of_ble_eq_true rfl) (fun C E hT hl hD hcy hG => ?_)
  subst hl; subst hD; subst hcy; subst hG
  have hinX2 : ∀ w ∈ u_ws RX2 TX2 11, w ∈ wsX6_level := by decide +kernel
  have hinX3 : ∀ w ∈ u_ws RX3 TX3 2, w ∈ wsX6_level := by decide +kernel
  have hinX6 : ∀ w ∈ u_ws RX6 TX6 10, w ∈ wsX6_level := by decide +kernel
  have hX0 := hX
  obtain ⟨⟨hx1, hx2, hx3, hx4, hx5, hx6, hx7, hx8⟩, hRing, ⟨hz1, hz2, hz3, hz⟩, ⟨hu1, hu2, hu3, hu⟩, ⟨ho1, ho2, ho3⟩, hPad, hLog⟩ := hX
  have hRing0 := hRing
  obtain ⟨⟨hr1, hr2, hr3, hr4⟩, ⟨hp1, hp2, hp3⟩, ⟨hw1, hw2, hw3⟩, hpl⟩ := hRing
  have hLog0 := hLog
  obtain ⟨hg1, hg2, hg3, hv1, hv2, hv3⟩ := hLog
  have hPad0 := hPad
  obtain ⟨hP1, hP2, hP3, hT1, hT2, hT3⟩ := hPad
  refine j_iload_n E dX6_level_0 rfl rfl ?_
  refine j_bipush (v := 16) E dX6_level_1 (by decide) ?_
  by_cases c3 : xIn p 16 = true
  · refine j_xS_ok0 (n := 2) E hT.2.2 (k_X6_mustExist_ok hT.2.1 (xIn_1 c3)) dX6_level_3 gX6_level_X6_mustExist rfl (by decide +kernel) ⟨rfl, rfl, by decide, by decide⟩ ⟨by decide, by decide⟩ rfl rfl (Nat.le_of_ble_eq_true rfl) ?_
    obtain ⟨q1, q2, q3⟩ := hpl p.toNatClampNeg (ix_lt (n := 16) (xIn_1 c3).1 (xIn_1 c3).2 (by decide)).2
    refine j_aload_n E dX6_level_6 rfl rfl ?_
    refine j_getP (ci := 6) (k := 0) (Cn := RX6) (T := TX6) (N := 10) E dX6_level_7 hx1 hx2 rfl (by decide) hinX6 (by decide +kernel) rfl hx3 ?_
    refine j_getP (ci := 3) (k := 0) (Cn := RX3) (T := TX3) (N := 2) E dX6_level_10 hr1 hr2 rfl (by decide) hinX3 (by decide +kernel) rfl hr3 ?_
    refine j_iload_n E dX6_level_13 rfl rfl ?_
    refine j_aldP E dX6_level_14 hp1 hp3 (ix_lt (n := 16) (xIn_1 c3).1 (xIn_1 c3).2 (by decide)).1 (ix_lt (n := 16) (xIn_1 c3).1 (xIn_1 c3).2 (by decide)).2 (by decide) hp2 q1 ?_
    refine j_getF (ci := 2) (k := 5) (Cn := RX2) (T := TX2) (N := 11) E dX6_level_15 q2 q3 rfl (by decide) hinX2 (by decide +kernel) rfl ?_
    refine j_o ?_ (jX_ret (j_widen (by decide) (by decide) (j_fret E dX6_level_18 rfl rfl rfl)))
    simp [xLevO, c3]
  · exact j_o (by simp [xLevO, c3]) (j_xS_out (n := 2) E hT (k_X6_mustExist_no hT.2.1 (xIn_0 c3)) dX6_level_3 gX6_level_X6_mustExist rfl (by decide +kernel) ⟨rfl, rfl, by decide, by decide⟩ ⟨by decide, by decide⟩ rfl rfl (Nat.le_of_ble_eq_true rfl) (by decide) (by decide))

set_option maxHeartbeats 1600000 in
set_option maxRecDepth 100000 in
theorem k_X6_base {l : Launch} (hlt : l.stackTraces = false) {D : va_G} {cy : Nat → ClassId} {X : va_W} {G : pG} {M : pM} {a : Nat → Nat} {p : Int32} (hX : wX G a) : jKX l yX6_base wsX6_base ({ frames := 7, cells := 1, slots := 6, locals := 111 } : Room) D cy X G M [.ref (a 0), .int p] (xLevO a M p 4) 1 6 := by
  refine jKX_of hlt (own := RX6) (by decide) rfl rfl (Nat.le_of_ble_eq_true rfl) (fun C E hT hl hD hcy hG => ?_)
  subst hl; subst hD; subst hcy; subst hG
  have hinX2 : ∀ w ∈ u_ws RX2 TX2 11, w ∈ wsX6_base := by decide +kernel
  have hinX3 : ∀ w ∈ u_ws RX3 TX3 2, w ∈ wsX6_base := by decide +kernel
  have hinX6 : ∀ w ∈ u_ws RX6 TX6 10, w ∈ wsX6_base := by decide +kernel
  have hX0 := hX
  obtain ⟨⟨hx1, hx2, hx3, hx4, hx5, hx6, hx7, hx8⟩, hRing, ⟨hz1, hz2, hz3, hz⟩, ⟨hu1, hu2, hu3, hu⟩, ⟨ho1, ho2, ho3⟩, hPad, hLog⟩ := hX
  have hRing0 := hRing
  obtain ⟨⟨hr1, hr2, hr3, hr4⟩, ⟨hp1, hp2, hp3⟩, ⟨hw1, hw2, hw3⟩, hpl⟩ := hRing
  have hLog0 := hLog
  obtain ⟨hg1, hg2, hg3, hv1, hv2, hv3⟩ := hLog
  have hPad0 := hPad
  obtain ⟨hP1, hP2, hP3, hT1, hT2, hT3⟩ := hPad
  refine j_iload_n E dX6_base_0 rfl rfl ?_
  refine j_bipush (v := 16) E dX6_base_1 (by decide) ?_
  by_cases c3 : xIn p 16 = true
  · refine j_xS_ok0 (n := 2) E hT.2.2 (k_X6_mustExist_ok hT.2.1 (xIn_1 c3)) dX6_base_3 gX6_base_X6_mustExist rfl (by decide +kernel) ⟨rfl, rfl, by decide, by decide⟩ ⟨by decide, by decide⟩ rfl rfl (Nat.le_of_ble_eq_true rfl) ?_
    obtain ⟨q1, q2, q3⟩ := hpl p.toNatClampNeg (ix_lt (n := 16) (xIn_1 c3).1 (xIn_1 c3).2 (by decide)).2
    refine j_aload_n E dX6_base_6 rfl rfl ?_
    refine j_getP (ci := 6) (k := 0) (Cn := RX6) (T := TX6) (N := 10) E dX6_base_7 hx1 hx2 rfl (by decide) hinX6 (by decide +kernel) rfl hx3 ?_
    refine j_getP (ci := 3) (k := 0) (Cn := RX3) (T := TX3) (N := 2) E dX6_base_10 hr1 hr2 rfl (by decide) hinX3 (by decide +kernel) rfl hr3 ?_
    refine j_iload_n E dX6_base_13 rfl rfl ?_
    refine j_aldP E dX6_base_14 hp1 hp3 (ix_lt (n := 16) (xIn_1 c3).1 (xIn_1 c3).2 (by decide)).1 (ix_lt (n := 16) (xIn_1 c3).1 (xIn_1 c3).2 (by decide)).2 (by decide) hp2 q1 ?_
    refine j_getF (ci := 2) (k := 4) (Cn := RX2) (T := TX2) (N := 11) E dX6_base_15 q2 q3 rfl (by decide) hinX2 (by decide +kernel) rfl ?_
    refine j_o ?_ (jX_ret (j_widen (by decide) (by decide) (j_fret E dX6_base_18 rfl rfl rfl)))
    simp [xLevO, c3]
  · exact j_o (by simp [xLevO, c3]) (j_xS_out (n := 2) E hT (k_X6_mustExist_no hT.2.1 (xIn_0 c3)) dX6_base_3 gX6_base_X6_mustExist rfl (by decide +kernel) ⟨rfl, rfl, by decide, by decide⟩ ⟨by decide, by decide⟩ rfl rfl (Nat.le_of_ble_eq_true rfl) (by decide) (by decide))

set_option maxHeartbeats 1600000 in
set_option maxRecDepth 100000 in
theorem k_X6_place {l : Launch} (hlt : l.stackTraces = false) {D : va_G} {cy : Nat → ClassId} {X : va_W} {G : pG} {M : pM} {a : Nat → Nat} {p : Int32} (hX : wX G a) : jKX l yX6_place wsX6_place ({ frames := 7, cells := 1, slots := 6, locals := 111 } : Room) D cy X G M [.ref (a 0), .int p] (xPlO a M p) 1 6 := by
  refine jKX_of hlt (own := RX6) (by decide) rfl rfl (Nat.le_of_ble_eq_true rfl) (fun C E hT hl hD hcy hG => ?_)
  subst hl; subst hD; subst hcy; subst hG
  have hinX2 : ∀ w ∈ u_ws RX2 TX2 11, w ∈ wsX6_place := by decide +kernel
  have hinX3 : ∀ w ∈ u_ws RX3 TX3 2, w ∈ wsX6_place := by decide +kernel
  have hinX6 : ∀ w ∈ u_ws RX6 TX6 10, w ∈ wsX6_place := by decide +kernel
  have hX0 := hX
  obtain ⟨⟨hx1, hx2, hx3, hx4, hx5, hx6, hx7, hx8⟩, hRing, ⟨hz1, hz2, hz3, hz⟩, ⟨hu1, hu2, hu3, hu⟩, ⟨ho1, ho2, ho3⟩, hPad, hLog⟩ := hX
  have hRing0 := hRing
  obtain ⟨⟨hr1, hr2, hr3, hr4⟩, ⟨hp1, hp2, hp3⟩, ⟨hw1, hw2, hw3⟩, hpl⟩ := hRing
  have hLog0 := hLog
  obtain ⟨hg1, hg2, hg3, hv1, hv2, hv3⟩ := hLog
  have hPad0 := hPad
  obtain ⟨hP1, hP2, hP3, hT1, hT2, hT3⟩ := hPad
  refine j_iload_n E dX6_place_0 rfl rfl ?_
  refine j_bipush (v := 16) E dX6_place_1 (by decide) ?_
  by_cases c3 : xIn p 16 = true
  · refine j_xS_ok0 (n := 2) E hT.2.2 (k_X6_mustExist_ok hT.2.1 (xIn_1 c3)) dX6_place_3 gX6_place_X6_mustExist rfl (by decide +kernel) ⟨rfl, rfl, by decide, by decide⟩ ⟨by decide, by decide⟩ rfl rfl (Nat.le_of_ble_eq_true rfl) ?_
    obtain ⟨q1, q2, q3⟩ := hpl p.toNatClampNeg (ix_lt (n := 16) (xIn_1 c3).1 (xIn_1 c3).2 (by decide)).2
    refine j_aload_n E dX6_place_6 rfl rfl ?_
    refine j_getP (ci := 6) (k := 0) (Cn := RX6) (T := TX6) (N := 10) E dX6_place_7 hx1 hx2 rfl (by decide) hinX6 (by decide +kernel) rfl hx3 ?_
    refine j_getP (ci := 3) (k := 0) (Cn := RX3) (T := TX3) (N := 2) E dX6_place_10 hr1 hr2 rfl (by decide) hinX3 (by decide +kernel) rfl hr3 ?_
    refine j_iload_n E dX6_place_13 rfl rfl ?_
    refine j_aldP E dX6_place_14 hp1 hp3 (ix_lt (n := 16) (xIn_1 c3).1 (xIn_1 c3).2 (by decide)).1 (ix_lt (n := 16) (xIn_1 c3).1 (xIn_1 c3).2 (by decide)).2 (by decide) hp2 q1 ?_
    refine j_astore_n E dX6_place_15 rfl (by decide) ?_
    refine j_aload_n E dX6_place_16 rfl rfl ?_
    refine j_getP (ci := 6) (k := 0) (Cn := RX6) (T := TX6) (N := 10) E dX6_place_17 hx1 hx2 rfl (by decide) hinX6 (by decide +kernel) rfl hx3 ?_
    refine j_callV1 (ci := 3) (n := 0) E (k_X3_reachedPlaces hRing0) dX6_place_20 gX6_place_X3_reachedPlaces rfl (by decide +kernel) ⟨rfl, rfl, by decide, by decide⟩ ⟨by decide, by decide⟩ hr1 hr2 rfl rfl rfl (Nat.le_of_ble_eq_true rfl) rfl ?_
    refine j_iload_n E dX6_place_23 rfl rfl ?_
    refine j_ishr E dX6_place_24 ?_
    refine j_iconst (v := 1) E dX6_place_25 (by decide) ?_
    refine j_iand E dX6_place_26 ?_
    refine j_istore_n E dX6_place_27 rfl (by decide) ?_
    refine j_iload_n E dX6_place_28 rfl rfl ?_
    refine j_aload_n E dX6_place_29 rfl rfl ?_
    refine j_getI (ci := 2) (k := 7) (Cn := RX2) (T := TX2) (N := 11) E dX6_place_30 q2 q3 rfl (by decide) hinX2 (by decide +kernel) rfl ?_
    refine j_if_eq (tgt := 40) E dX6_place_33 (by decide) (fun h33 => ?_) (fun h33 => ?_)
    · refine j_iconst (v := 0) E dX6_place_40 (by decide) ?_
      refine j_iadd E dX6_place_41 ?_
      refine j_aload_n E dX6_place_42 rfl rfl ?_
      refine j_getI (ci := 2) (k := 9) (Cn := RX2) (T := TX2) (N := 11) E dX6_place_43 q2 q3 rfl (by decide) hinX2 (by decide +kernel) rfl ?_
      refine j_if_eq (tgt := 53) E dX6_place_46 (by decide) (fun h46 => ?_) (fun h46 => ?_)
      · refine j_iconst (v := 0) E dX6_place_53 (by decide) ?_
        refine j_iadd E dX6_place_54 ?_
        refine j_aload_n E dX6_place_55 rfl rfl ?_
        refine j_getI (ci := 2) (k := 10) (Cn := RX2) (T := TX2) (N := 11) E dX6_place_56 q2 q3 rfl (by decide) hinX2 (by decide +kernel) rfl ?_
        refine j_if_eq (tgt := 67) E dX6_place_59 (by decide) (fun h59 => ?_) (fun h59 => ?_)
        · refine j_iconst (v := 0) E dX6_place_67 (by decide) ?_
          refine j_iadd E dX6_place_68 ?_
          refine j_bipush (v := 16) E dX6_place_69 (by decide) ?_
          refine j_aload_n E dX6_place_71 rfl rfl ?_
          refine j_getI (ci := 2) (k := 0) (Cn := RX2) (T := TX2) (N := 11) E dX6_place_72 q2 q3 rfl (by decide) hinX2 (by decide +kernel) rfl ?_
          refine j_imul E dX6_place_75 ?_
          refine j_iadd E dX6_place_76 ?_
          refine j_o ?_ (jX_ret (j_widen (by decide) (by decide) (j_iret E dX6_place_77 rfl rfl rfl)))
          simp [xPlO, c3, h33, h46, h59]
        · refine j_bipush (v := 8) E dX6_place_62 (by decide) ?_
          refine j_goto (tgt := 68) E dX6_place_64 (by decide) ?_
          refine j_iadd E dX6_place_68 ?_
          refine j_bipush (v := 16) E dX6_place_69 (by decide) ?_
          refine j_aload_n E dX6_place_71 rfl rfl ?_
          refine j_getI (ci := 2) (k := 0) (Cn := RX2) (T := TX2) (N := 11) E dX6_place_72 q2 q3 rfl (by decide) hinX2 (by decide +kernel) rfl ?_
          refine j_imul E dX6_place_75 ?_
          refine j_iadd E dX6_place_76 ?_
          refine j_o ?_ (jX_ret (j_widen (by decide) (by decide) (j_iret E dX6_place_77 rfl rfl rfl)))
          simp [xPlO, c3, h33, h46, h59]
      · refine j_iconst (v := 4) E dX6_place_49 (by decide) ?_
        refine j_goto (tgt := 54) E dX6_place_50 (by decide) ?_
        refine j_iadd E dX6_place_54 ?_
        refine j_aload_n E dX6_place_55 rfl rfl ?_
        refine j_getI (ci := 2) (k := 10) (Cn := RX2) (T := TX2) (N := 11) E dX6_place_56 q2 q3 rfl (by decide) hinX2 (by decide +kernel) rfl ?_
        refine j_if_eq (tgt := 67) E dX6_place_59 (by decide) (fun h59 => ?_) (fun h59 => ?_)
        · refine j_iconst (v := 0) E dX6_place_67 (by decide) ?_
          refine j_iadd E dX6_place_68 ?_
          refine j_bipush (v := 16) E dX6_place_69 (by decide) ?_
          refine j_aload_n E dX6_place_71 rfl rfl ?_
          refine j_getI (ci := 2) (k := 0) (Cn := RX2) (T := TX2) (N := 11) E dX6_place_72 q2 q3 rfl (by decide) hinX2 (by decide +kernel) rfl ?_
          refine j_imul E dX6_place_75 ?_
          refine j_iadd E dX6_place_76 ?_
          refine j_o ?_ (jX_ret (j_widen (by decide) (by decide) (j_iret E dX6_place_77 rfl rfl rfl)))
          simp [xPlO, c3, h33, h46, h59]
        · refine j_bipush (v := 8) E dX6_place_62 (by decide) ?_
          refine j_goto (tgt := 68) E dX6_place_64 (by decide) ?_
          refine j_iadd E dX6_place_68 ?_
          refine j_bipush (v := 16) E dX6_place_69 (by decide) ?_
          refine j_aload_n E dX6_place_71 rfl rfl ?_
          refine j_getI (ci := 2) (k := 0) (Cn := RX2) (T := TX2) (N := 11) E dX6_place_72 q2 q3 rfl (by decide) hinX2 (by decide +kernel) rfl ?_
          refine j_imul E dX6_place_75 ?_
          refine j_iadd E dX6_place_76 ?_
          refine j_o ?_ (jX_ret (j_widen (by decide) (by decide) (j_iret E dX6_place_77 rfl rfl rfl)))
          simp [xPlO, c3, h33, h46, h59]
    · refine j_iconst (v := 2) E dX6_place_36 (by decide) ?_
      refine j_goto (tgt := 41) E dX6_place_37 (by decide) ?_
      refine j_iadd E dX6_place_41 ?_
      refine j_aload_n E dX6_place_42 rfl rfl ?_
      refine j_getI (ci := 2) (k := 9) (Cn := RX2) (T := TX2) (N := 11) E dX6_place_43 q2 q3 rfl (by decide) hinX2 (by decide +kernel) rfl ?_
      refine j_if_eq (tgt := 53) E dX6_place_46 (by decide) (fun h46 => ?_) (fun h46 => ?_)
      · refine j_iconst (v := 0) E dX6_place_53 (by decide) ?_
        refine j_iadd E dX6_place_54 ?_
        refine j_aload_n E dX6_place_55 rfl rfl ?_
        refine j_getI (ci := 2) (k := 10) (Cn := RX2) (T := TX2) (N := 11) E dX6_place_56 q2 q3 rfl (by decide) hinX2 (by decide +kernel) rfl ?_
        refine j_if_eq (tgt := 67) E dX6_place_59 (by decide) (fun h59 => ?_) (fun h59 => ?_)
        · refine j_iconst (v := 0) E dX6_place_67 (by decide) ?_
          refine j_iadd E dX6_place_68 ?_
          refine j_bipush (v := 16) E dX6_place_69 (by decide) ?_
          refine j_aload_n E dX6_place_71 rfl rfl ?_
          refine j_getI (ci := 2) (k := 0) (Cn := RX2) (T := TX2) (N := 11) E dX6_place_72 q2 q3 rfl (by decide) hinX2 (by decide +kernel) rfl ?_
          refine j_imul E dX6_place_75 ?_
          refine j_iadd E dX6_place_76 ?_
          refine j_o ?_ (jX_ret (j_widen (by decide) (by decide) (j_iret E dX6_place_77 rfl rfl rfl)))
          simp [xPlO, c3, h33, h46, h59]
        · refine j_bipush (v := 8) E dX6_place_62 (by decide) ?_
          refine j_goto (tgt := 68) E dX6_place_64 (by decide) ?_
          refine j_iadd E dX6_place_68 ?_
          refine j_bipush (v := 16) E dX6_place_69 (by decide) ?_
          refine j_aload_n E dX6_place_71 rfl rfl ?_
          refine j_getI (ci := 2) (k := 0) (Cn := RX2) (T := TX2) (N := 11) E dX6_place_72 q2 q3 rfl (by decide) hinX2 (by decide +kernel) rfl ?_
          refine j_imul E dX6_place_75 ?_
          refine j_iadd E dX6_place_76 ?_
          refine j_o ?_ (jX_ret (j_widen (by decide) (by decide) (j_iret E dX6_place_77 rfl rfl rfl)))
          simp [xPlO, c3, h33, h46, h59]
      · refine j_iconst (v := 4) E dX6_place_49 (by decide) ?_
        refine j_goto (tgt := 54) E dX6_place_50 (by decide) ?_
        refine j_iadd E dX6_place_54 ?_
        refine j_aload_n E dX6_place_55 rfl rfl ?_
        refine j_getI (ci := 2) (k := 10) (Cn := RX2) (T := TX2) (N := 11) E dX6_place_56 q2 q3 rfl (by decide) hinX2 (by decide +kernel) rfl ?_
        refine j_if_eq (tgt := 67) E dX6_place_59 (by decide) (fun h59 => ?_) (fun h59 => ?_)
        · refine j_iconst (v := 0) E dX6_place_67 (by decide) ?_
          refine j_iadd E dX6_place_68 ?_
          refine j_bipush (v := 16) E dX6_place_69 (by decide) ?_
          refine j_aload_n E dX6_place_71 rfl rfl ?_
          refine j_getI (ci := 2) (k := 0) (Cn := RX2) (T := TX2) (N := 11) E dX6_place_72 q2 q3 rfl (by decide) hinX2 (by decide +kernel) rfl ?_
          refine j_imul E dX6_place_75 ?_
          refine j_iadd E dX6_place_76 ?_
          refine j_o ?_ (jX_ret (j_widen (by decide) (by decide) (j_iret E dX6_place_77 rfl rfl rfl)))
          simp [xPlO, c3, h33, h46, h59]
        · refine j_bipush (v := 8) E dX6_place_62 (by decide) ?_
          refine j_goto (tgt := 68) E dX6_place_64 (by decide) ?_
          refine j_iadd E dX6_place_68 ?_
          refine j_bipush (v := 16) E dX6_place_69 (by decide) ?_
          refine j_aload_n E dX6_place_71 rfl rfl ?_
          refine j_getI (ci := 2) (k := 0) (Cn := RX2) (T := TX2) (N := 11) E dX6_place_72 q2 q3 rfl (by decide) hinX2 (by decide +kernel) rfl ?_
          refine j_imul E dX6_place_75 ?_
          refine j_iadd E dX6_place_76 ?_
          refine j_o ?_ (jX_ret (j_widen (by decide) (by decide) (j_iret E dX6_place_77 rfl rfl rfl)))
          simp [xPlO, c3, h33, h46, h59]
  · exact j_o (by simp [xPlO, c3]) (j_xS_out (n := 2) E hT (k_X6_mustExist_no hT.2.1 (xIn_0 c3)) dX6_place_3 gX6_place_X6_mustExist rfl (by decide +kernel) ⟨rfl, rfl, by decide, by decide⟩ ⟨by decide, by decide⟩ rfl rfl (Nat.le_of_ble_eq_true rfl) (by decide) (by decide))

set_option maxHeartbeats 1600000 in
set_option maxRecDepth 100000 in
theorem k_X6_zone {l : Launch} (hlt : l.stackTraces = false) {D : va_G} {cy : Nat → ClassId} {X : va_W} {G : pG} {M : pM} {a : Nat → Nat} {p : Int32} (hX : wX G a) (hok : ∀ i, i < 16 → okW M (a (3 + i))) : jKX l yX6_zone wsX6_zone ({ frames := 7, cells := 1, slots := 6, locals := 111 } : Room) D cy X G M [.ref (a 0), .int p] (xZoO a M p) 1 6 := by
  refine jKX_of hlt (own := RX6) (by decide) rfl rfl (Nat.le_of_ble_eq_true rfl) (fun C E hT hl hD hcy hG => ?_)
  subst hl; subst hD; subst hcy; subst hG
  have hinX5 : ∀ w ∈ u_ws RX5 TX5 3, w ∈ wsX6_zone := by decide +kernel
  have hinX6 : ∀ w ∈ u_ws RX6 TX6 10, w ∈ wsX6_zone := by decide +kernel
  have hX0 := hX
  obtain ⟨⟨hx1, hx2, hx3, hx4, hx5, hx6, hx7, hx8⟩, hRing, ⟨hz1, hz2, hz3, hz⟩, ⟨hu1, hu2, hu3, hu⟩, ⟨ho1, ho2, ho3⟩, hPad, hLog⟩ := hX
  have hRing0 := hRing
  obtain ⟨⟨hr1, hr2, hr3, hr4⟩, ⟨hp1, hp2, hp3⟩, ⟨hw1, hw2, hw3⟩, hpl⟩ := hRing
  have hLog0 := hLog
  obtain ⟨hg1, hg2, hg3, hv1, hv2, hv3⟩ := hLog
  have hPad0 := hPad
  obtain ⟨hP1, hP2, hP3, hT1, hT2, hT3⟩ := hPad
  refine j_iload_n E dX6_zone_0 rfl rfl ?_
  refine j_iconst (v := 4) E dX6_zone_1 (by decide) ?_
  by_cases c2 : xIn p 4 = true
  · refine j_xS_ok0 (n := 2) E hT.2.2 (k_X6_mustExist_ok hT.2.1 (xIn_1 c2)) dX6_zone_2 gX6_zone_X6_mustExist rfl (by decide +kernel) ⟨rfl, rfl, by decide, by decide⟩ ⟨by decide, by decide⟩ rfl rfl (Nat.le_of_ble_eq_true rfl) ?_
    obtain ⟨q1, q2, q3⟩ := hz p.toNatClampNeg (ix_lt (n := 4) (xIn_1 c2).1 (xIn_1 c2).2 (by decide)).2
    refine j_aload_n E dX6_zone_5 rfl rfl ?_
    refine j_getP (ci := 6) (k := 1) (Cn := RX6) (T := TX6) (N := 10) E dX6_zone_6 hx1 hx2 rfl (by decide) hinX6 (by decide +kernel) rfl hx4 ?_
    refine j_iload_n E dX6_zone_9 rfl rfl ?_
    refine j_aldZ E dX6_zone_10 hz1 hz3 (ix_lt (n := 4) (xIn_1 c2).1 (xIn_1 c2).2 (by decide)).1 (ix_lt (n := 4) (xIn_1 c2).1 (xIn_1 c2).2 (by decide)).2 (by decide) hz2 q1 ?_
    refine j_astore_n E dX6_zone_11 rfl (by decide) ?_
    refine j_aload_n E dX6_zone_12 rfl rfl ?_
    refine j_getI (ci := 5) (k := 1) (Cn := RX5) (T := TX5) (N := 3) E dX6_zone_13 q2 q3 rfl (by decide) hinX5 (by decide +kernel) rfl ?_
    refine j_if_eq (tgt := 23) E dX6_zone_16 (by decide) (fun h16 => ?_) (fun h16 => ?_)
    · refine j_iconst (v := 0) E dX6_zone_23 (by decide) ?_
      refine j_aload_n E dX6_zone_24 rfl rfl ?_
      refine j_iload_n E dX6_zone_25 rfl rfl ?_
      refine j_callV1 (ci := 6) (n := 1) E (k_X6_hasWarning hX0 hok) dX6_zone_26 gX6_zone_X6_hasWarning rfl (by decide +kernel) ⟨rfl, rfl, by decide, by decide⟩ ⟨by decide, by decide⟩ hx1 hx2 rfl rfl rfl (Nat.le_of_ble_eq_true rfl) rfl ?_
      refine j_if_eq (tgt := 36) E dX6_zone_29 (by decide) (fun h29 => ?_) (fun h29 => ?_)
      · refine j_iconst (v := 0) E dX6_zone_36 (by decide) ?_
        refine j_iadd E dX6_zone_37 ?_
        refine j_aload_n E dX6_zone_38 rfl rfl ?_
        refine j_getI (ci := 5) (k := 2) (Cn := RX5) (T := TX5) (N := 3) E dX6_zone_39 q2 q3 rfl (by decide) hinX5 (by decide +kernel) rfl ?_
        refine j_if_eq (tgt := 49) E dX6_zone_42 (by decide) (fun h42 => ?_) (fun h42 => ?_)
        · refine j_iconst (v := 0) E dX6_zone_49 (by decide) ?_
          refine j_iadd E dX6_zone_50 ?_
          refine j_o ?_ (jX_ret (j_widen (by decide) (by decide) (j_iret E dX6_zone_51 rfl rfl rfl)))
          simp [xZoO, c2, h16, h29, h42]
        · refine j_iconst (v := 4) E dX6_zone_45 (by decide) ?_
          refine j_goto (tgt := 50) E dX6_zone_46 (by decide) ?_
          refine j_iadd E dX6_zone_50 ?_
          refine j_o ?_ (jX_ret (j_widen (by decide) (by decide) (j_iret E dX6_zone_51 rfl rfl rfl)))
          simp [xZoO, c2, h16, h29, h42]
      · refine j_iconst (v := 2) E dX6_zone_32 (by decide) ?_
        refine j_goto (tgt := 37) E dX6_zone_33 (by decide) ?_
        refine j_iadd E dX6_zone_37 ?_
        refine j_aload_n E dX6_zone_38 rfl rfl ?_
        refine j_getI (ci := 5) (k := 2) (Cn := RX5) (T := TX5) (N := 3) E dX6_zone_39 q2 q3 rfl (by decide) hinX5 (by decide +kernel) rfl ?_
        refine j_if_eq (tgt := 49) E dX6_zone_42 (by decide) (fun h42 => ?_) (fun h42 => ?_)
        · refine j_iconst (v := 0) E dX6_zone_49 (by decide) ?_
          refine j_iadd E dX6_zone_50 ?_
          refine j_o ?_ (jX_ret (j_widen (by decide) (by decide) (j_iret E dX6_zone_51 rfl rfl rfl)))
          simp [xZoO, c2, h16, h29, h42]
        · refine j_iconst (v := 4) E dX6_zone_45 (by decide) ?_
          refine j_goto (tgt := 50) E dX6_zone_46 (by decide) ?_
          refine j_iadd E dX6_zone_50 ?_
          refine j_o ?_ (jX_ret (j_widen (by decide) (by decide) (j_iret E dX6_zone_51 rfl rfl rfl)))
          simp [xZoO, c2, h16, h29, h42]
    · refine j_iconst (v := 1) E dX6_zone_19 (by decide) ?_
      refine j_goto (tgt := 24) E dX6_zone_20 (by decide) ?_
      refine j_aload_n E dX6_zone_24 rfl rfl ?_
      refine j_iload_n E dX6_zone_25 rfl rfl ?_
      refine j_callV1 (ci := 6) (n := 1) E (k_X6_hasWarning hX0 hok) dX6_zone_26 gX6_zone_X6_hasWarning rfl (by decide +kernel) ⟨rfl, rfl, by decide, by decide⟩ ⟨by decide, by decide⟩ hx1 hx2 rfl rfl rfl (Nat.le_of_ble_eq_true rfl) rfl ?_
      refine j_if_eq (tgt := 36) E dX6_zone_29 (by decide) (fun h29 => ?_) (fun h29 => ?_)
      · refine j_iconst (v := 0) E dX6_zone_36 (by decide) ?_
        refine j_iadd E dX6_zone_37 ?_
        refine j_aload_n E dX6_zone_38 rfl rfl ?_
        refine j_getI (ci := 5) (k := 2) (Cn := RX5) (T := TX5) (N := 3) E dX6_zone_39 q2 q3 rfl (by decide) hinX5 (by decide +kernel) rfl ?_
        refine j_if_eq (tgt := 49) E dX6_zone_42 (by decide) (fun h42 => ?_) (fun h42 => ?_)
        · refine j_iconst (v := 0) E dX6_zone_49 (by decide) ?_
          refine j_iadd E dX6_zone_50 ?_
          refine j_o ?_ (jX_ret (j_widen (by decide) (by decide) (j_iret E dX6_zone_51 rfl rfl rfl)))
          simp [xZoO, c2, h16, h29, h42]
        · refine j_iconst (v := 4) E dX6_zone_45 (by decide) ?_
          refine j_goto (tgt := 50) E dX6_zone_46 (by decide) ?_
          refine j_iadd E dX6_zone_50 ?_
          refine j_o ?_ (jX_ret (j_widen (by decide) (by decide) (j_iret E dX6_zone_51 rfl rfl rfl)))
          simp [xZoO, c2, h16, h29, h42]
      · refine j_iconst (v := 2) E dX6_zone_32 (by decide) ?_
        refine j_goto (tgt := 37) E dX6_zone_33 (by decide) ?_
        refine j_iadd E dX6_zone_37 ?_
        refine j_aload_n E dX6_zone_38 rfl rfl ?_
        refine j_getI (ci := 5) (k := 2) (Cn := RX5) (T := TX5) (N := 3) E dX6_zone_39 q2 q3 rfl (by decide) hinX5 (by decide +kernel) rfl ?_
        refine j_if_eq (tgt := 49) E dX6_zone_42 (by decide) (fun h42 => ?_) (fun h42 => ?_)
        · refine j_iconst (v := 0) E dX6_zone_49 (by decide) ?_
          refine j_iadd E dX6_zone_50 ?_
          refine j_o ?_ (jX_ret (j_widen (by decide) (by decide) (j_iret E dX6_zone_51 rfl rfl rfl)))
          simp [xZoO, c2, h16, h29, h42]
        · refine j_iconst (v := 4) E dX6_zone_45 (by decide) ?_
          refine j_goto (tgt := 50) E dX6_zone_46 (by decide) ?_
          refine j_iadd E dX6_zone_50 ?_
          refine j_o ?_ (jX_ret (j_widen (by decide) (by decide) (j_iret E dX6_zone_51 rfl rfl rfl)))
          simp [xZoO, c2, h16, h29, h42]
  · exact j_o (by simp [xZoO, c2]) (j_xS_out (n := 2) E hT (k_X6_mustExist_no hT.2.1 (xIn_0 c2)) dX6_zone_2 gX6_zone_X6_mustExist rfl (by decide +kernel) ⟨rfl, rfl, by decide, by decide⟩ ⟨by decide, by decide⟩ rfl rfl (Nat.le_of_ble_eq_true rfl) (by decide) (by decide))

set_option maxHeartbeats 1600000 in
set_option maxRecDepth 100000 in
theorem k_X6_output {l : Launch} (hlt : l.stackTraces = false) {D : va_G} {cy : Nat → ClassId} {X : va_W} {G : pG} {M : pM} {a : Nat → Nat} {p : Int32} (hX : wX G a) : jKX l yX6_output wsX6_output ({ frames := 7, cells := 1, slots := 6, locals := 111 } : Room) D cy X G M [.ref (a 0), .int p] (xOuO a M p) 1 6 := by
  refine jKX_of hlt (own := RX6) (by decide) rfl rfl (Nat.le_of_ble_eq_true rfl) (fun C E hT hl hD hcy hG => ?_)
  subst hl; subst hD; subst hcy; subst hG
  have hinX6 : ∀ w ∈ u_ws RX6 TX6 10, w ∈ wsX6_output := by decide +kernel
  have hX0 := hX
  obtain ⟨⟨hx1, hx2, hx3, hx4, hx5, hx6, hx7, hx8⟩, hRing, ⟨hz1, hz2, hz3, hz⟩, ⟨hu1, hu2, hu3, hu⟩, ⟨ho1, ho2, ho3⟩, hPad, hLog⟩ := hX
  have hRing0 := hRing
  obtain ⟨⟨hr1, hr2, hr3, hr4⟩, ⟨hp1, hp2, hp3⟩, ⟨hw1, hw2, hw3⟩, hpl⟩ := hRing
  have hLog0 := hLog
  obtain ⟨hg1, hg2, hg3, hv1, hv2, hv3⟩ := hLog
  have hPad0 := hPad
  obtain ⟨hP1, hP2, hP3, hT1, hT2, hT3⟩ := hPad
  refine j_iload_n E dX6_output_0 rfl rfl ?_
  refine j_bipush (v := 6) E dX6_output_1 (by decide) ?_
  by_cases c3 : xIn p 6 = true
  · refine j_xS_ok0 (n := 2) E hT.2.2 (k_X6_mustExist_ok hT.2.1 (xIn_1 c3)) dX6_output_3 gX6_output_X6_mustExist rfl (by decide +kernel) ⟨rfl, rfl, by decide, by decide⟩ ⟨by decide, by decide⟩ rfl rfl (Nat.le_of_ble_eq_true rfl) ?_
    refine j_aload_n E dX6_output_6 rfl rfl ?_
    refine j_getP (ci := 6) (k := 3) (Cn := RX6) (T := TX6) (N := 10) E dX6_output_7 hx1 hx2 rfl (by decide) hinX6 (by decide +kernel) rfl hx6 ?_
    refine j_iload_n E dX6_output_10 rfl rfl ?_
    refine j_zald E dX6_output_11 ho1 ho3 (ix_lt (n := 6) (xIn_1 c3).1 (xIn_1 c3).2 (by decide)).1 (ix_lt (n := 6) (xIn_1 c3).1 (xIn_1 c3).2 (by decide)).2 (by decide) ho2 ?_
    refine j_if_ne (tgt := 17) E dX6_output_12 (by decide) (fun h12 => ?_) (fun h12 => ?_)
    · refine j_aload_n E dX6_output_17 rfl rfl ?_
      refine j_getI (ci := 6) (k := 9) (Cn := RX6) (T := TX6) (N := 10) E dX6_output_18 hx1 hx2 rfl (by decide) hinX6 (by decide +kernel) rfl ?_
      refine j_if_eq (tgt := 33) E dX6_output_21 (by decide) (fun h21 => ?_) (fun h21 => ?_)
      · refine j_iconst (v := 0) E dX6_output_33 (by decide) ?_
        refine j_istore_n E dX6_output_34 rfl (by decide) ?_
        refine j_iload_n E dX6_output_35 rfl rfl ?_
        refine j_if_eq (tgt := 43) E dX6_output_36 (by decide) (fun h36 => ?_) (fun h36 => ?_)
        · first
          | exact absurd h36 (by decide)
          | exact absurd (by decide) h36
          | (
              refine j_iconst (v := 3) E dX6_output_43 (by decide) ?_
              refine j_o ?_ (jX_ret (j_widen (by decide) (by decide) (j_iret E dX6_output_44 rfl rfl rfl)))
              simp [xOuO, c3, h12, h21, h36]
            )
        · first
          | exact absurd h36 (by decide)
          | exact absurd (by decide) h36
          | (
              refine j_iconst (v := 1) E dX6_output_39 (by decide) ?_
              refine j_goto (tgt := 44) E dX6_output_40 (by decide) ?_
              refine j_o ?_ (jX_ret (j_widen (by decide) (by decide) (j_iret E dX6_output_44 rfl rfl rfl)))
              simp [xOuO, c3, h12, h21, h36]
            )
      · refine j_iload_n E dX6_output_24 rfl rfl ?_
        refine j_iconst (v := 3) E dX6_output_25 (by decide) ?_
        refine j_icmp_ge (tgt := 33) E dX6_output_26 (by decide) (fun h26 => ?_) (fun h26 => ?_)
        · refine j_iconst (v := 0) E dX6_output_33 (by decide) ?_
          refine j_istore_n E dX6_output_34 rfl (by decide) ?_
          refine j_iload_n E dX6_output_35 rfl rfl ?_
          refine j_if_eq (tgt := 43) E dX6_output_36 (by decide) (fun h36 => ?_) (fun h36 => ?_)
          · first
            | exact absurd h36 (by decide)
            | exact absurd (by decide) h36
            | (
                refine j_iconst (v := 3) E dX6_output_43 (by decide) ?_
                refine j_o ?_ (jX_ret (j_widen (by decide) (by decide) (j_iret E dX6_output_44 rfl rfl rfl)))
                simp [xOuO, c3, h12, h21, h26, h36]
              )
          · first
            | exact absurd h36 (by decide)
            | exact absurd (by decide) h36
            | (
                refine j_iconst (v := 1) E dX6_output_39 (by decide) ?_
                refine j_goto (tgt := 44) E dX6_output_40 (by decide) ?_
                refine j_o ?_ (jX_ret (j_widen (by decide) (by decide) (j_iret E dX6_output_44 rfl rfl rfl)))
                simp [xOuO, c3, h12, h21, h26, h36]
              )
        · refine j_iconst (v := 1) E dX6_output_29 (by decide) ?_
          refine j_goto (tgt := 34) E dX6_output_30 (by decide) ?_
          refine j_istore_n E dX6_output_34 rfl (by decide) ?_
          refine j_iload_n E dX6_output_35 rfl rfl ?_
          refine j_if_eq (tgt := 43) E dX6_output_36 (by decide) (fun h36 => ?_) (fun h36 => ?_)
          · first
            | exact absurd h36 (by decide)
            | exact absurd (by decide) h36
            | (
                refine j_iconst (v := 3) E dX6_output_43 (by decide) ?_
                refine j_o ?_ (jX_ret (j_widen (by decide) (by decide) (j_iret E dX6_output_44 rfl rfl rfl)))
                simp [xOuO, c3, h12, h21, h26, h36]
              )
          · first
            | exact absurd h36 (by decide)
            | exact absurd (by decide) h36
            | (
                refine j_iconst (v := 1) E dX6_output_39 (by decide) ?_
                refine j_goto (tgt := 44) E dX6_output_40 (by decide) ?_
                refine j_o ?_ (jX_ret (j_widen (by decide) (by decide) (j_iret E dX6_output_44 rfl rfl rfl)))
                simp [xOuO, c3, h12, h21, h26, h36]
              )
    · refine j_iconst (v := 0) E dX6_output_15 (by decide) ?_
      refine j_o ?_ (jX_ret (j_widen (by decide) (by decide) (j_iret E dX6_output_16 rfl rfl rfl)))
      simp [xOuO, c3, h12]
  · exact j_o (by simp [xOuO, c3]) (j_xS_out (n := 2) E hT (k_X6_mustExist_no hT.2.1 (xIn_0 c3)) dX6_output_3 gX6_output_X6_mustExist rfl (by decide +kernel) ⟨rfl, rfl, by decide, by decide⟩ ⟨by decide, by decide⟩ rfl rfl (Nat.le_of_ble_eq_true rfl) (by decide) (by decide))

set_option maxHeartbeats 1600000 in
set_option maxRecDepth 100000 in
theorem k_X6_held {l : Launch} (hlt : l.stackTraces = false) {D : va_G} {cy : Nat → ClassId} {X : va_W} {G : pG} {M : pM} {a : Nat → Nat} {p : Int32} (hX : wX G a) : jKX l yX6_held wsX6_held ({ frames := 7, cells := 1, slots := 6, locals := 111 } : Room) D cy X G M [.ref (a 0), .int p] (xHeO a M p) 1 6 := by
  refine jKX_of hlt (own := RX6) (by decide) rfl rfl (Nat.le_of_ble_eq_true rfl) (fun C E hT hl hD hcy hG => ?_)
  subst hl; subst hD; subst hcy; subst hG
  have hinX4 : ∀ w ∈ u_ws RX4 TX4 5, w ∈ wsX6_held := by decide +kernel
  have hinX6 : ∀ w ∈ u_ws RX6 TX6 10, w ∈ wsX6_held := by decide +kernel
  have hX0 := hX
  obtain ⟨⟨hx1, hx2, hx3, hx4, hx5, hx6, hx7, hx8⟩, hRing, ⟨hz1, hz2, hz3, hz⟩, ⟨hu1, hu2, hu3, hu⟩, ⟨ho1, ho2, ho3⟩, hPad, hLog⟩ := hX
  have hRing0 := hRing
  obtain ⟨⟨hr1, hr2, hr3, hr4⟩, ⟨hp1, hp2, hp3⟩, ⟨hw1, hw2, hw3⟩, hpl⟩ := hRing
  have hLog0 := hLog
  obtain ⟨hg1, hg2, hg3, hv1, hv2, hv3⟩ := hLog
  have hPad0 := hPad
  obtain ⟨hP1, hP2, hP3, hT1, hT2, hT3⟩ := hPad
  refine j_iload_n E dX6_held_0 rfl rfl ?_
  refine j_aload_n E dX6_held_1 rfl rfl ?_
  refine j_getI (ci := 6) (k := 6) (Cn := RX6) (T := TX6) (N := 10) E dX6_held_2 hx1 hx2 rfl (by decide) hinX6 (by decide +kernel) rfl ?_
  refine j_bipush (v := 6) E dX6_held_5 (by decide) ?_
  refine j_min E dX6_held_7 (by decide +kernel) (by decide +kernel) (by decide +kernel) (by decide +kernel) (by decide) (Nat.le_of_ble_eq_true rfl) (by decide) (by decide) ?_
  by_cases c10 : xIn p (xMn (M.1 (a 0) 6) 6) = true
  · refine j_xS_ok0 (n := 2) E hT.2.2 (k_X6_mustExist_ok hT.2.1 (xIn_1 c10)) dX6_held_10 gX6_held_X6_mustExist rfl (by decide +kernel) ⟨rfl, rfl, by decide, by decide⟩ ⟨by decide, by decide⟩ rfl rfl (Nat.le_of_ble_eq_true rfl) ?_
    have hix := ix_lt (n := 6) (xIn_1 c10).1 (xMn_l (xIn_1 c10).2) (by decide)
    obtain ⟨q1, qR⟩ := hu p.toNatClampNeg hix.2
    obtain ⟨q2, q3, q4, q5, q6, q7⟩ := qR
    refine j_aload_n E dX6_held_13 rfl rfl ?_
    refine j_getP (ci := 6) (k := 2) (Cn := RX6) (T := TX6) (N := 10) E dX6_held_14 hx1 hx2 rfl (by decide) hinX6 (by decide +kernel) rfl hx5 ?_
    refine j_iload_n E dX6_held_17 rfl rfl ?_
    refine j_aldR E dX6_held_18 hu1 hu3 hix.1 hix.2 (by decide) hu2 q1 ?_
    refine j_getI (ci := 4) (k := 4) (Cn := RX4) (T := TX4) (N := 5) E dX6_held_19 q2 q3 rfl (by decide) hinX4 (by decide +kernel) rfl ?_
    refine j_o ?_ (jX_ret (j_widen (by decide) (by decide) (j_iret E dX6_held_22 rfl rfl rfl)))
    simp [xHeO, c10]
  · exact j_o (by simp [xHeO, c10]) (j_xS_out (n := 2) E hT (k_X6_mustExist_no hT.2.1 (xIn_0 c10)) dX6_held_10 gX6_held_X6_mustExist rfl (by decide +kernel) ⟨rfl, rfl, by decide, by decide⟩ ⟨by decide, by decide⟩ rfl rfl (Nat.le_of_ble_eq_true rfl) (by decide) (by decide))

set_option maxHeartbeats 1600000 in
set_option maxRecDepth 100000 in
theorem k_X6_log {l : Launch} (hlt : l.stackTraces = false) {D : va_G} {cy : Nat → ClassId} {X : va_W} {G : pG} {M : pM} {a : Nat → Nat} {p w : Int32} (hX : wX G a) : jKX l yX6_log wsX6_log ({ frames := 7, cells := 2, slots := 12, locals := 110 } : Room) D cy X G M [.ref (a 0), .int p, .int w] (xLoO a M p w) 2 12 := by
  refine jKX_of hlt (own := RX6) (by decide) rfl rfl (Nat.le_of_ble_eq_true rfl) (fun C E hT hl hD hcy hG => ?_)
  subst hl; subst hD; subst hcy; subst hG
  have hinX0 : ∀ w ∈ u_ws RX0 TX0 2, w ∈ wsX6_log := by decide +kernel
  have hinX6 : ∀ w ∈ u_ws RX6 TX6 10, w ∈ wsX6_log := by decide +kernel
  have hX0 := hX
  obtain ⟨⟨hx1, hx2, hx3, hx4, hx5, hx6, hx7, hx8⟩, hRing, ⟨hz1, hz2, hz3, hz⟩, ⟨hu1, hu2, hu3, hu⟩, ⟨ho1, ho2, ho3⟩, hPad, hLog⟩ := hX
  have hRing0 := hRing
  obtain ⟨⟨hr1, hr2, hr3, hr4⟩, ⟨hp1, hp2, hp3⟩, ⟨hw1, hw2, hw3⟩, hpl⟩ := hRing
  have hLog0 := hLog
  obtain ⟨hg1, hg2, hg3, hv1, hv2, hv3⟩ := hLog
  have hPad0 := hPad
  obtain ⟨hP1, hP2, hP3, hT1, hT2, hT3⟩ := hPad
  refine j_iload_n E dX6_log_0 rfl rfl ?_
  refine j_if_lt (tgt := 24) E dX6_log_1 (by decide) (fun h1 => ?_) (fun h1 => ?_)
  · refine j_iconst (v := 0) E dX6_log_24 (by decide) ?_
    first
      | exact j_o (by simp [xLoO, xMn, h1]) (j_xS_out (n := 1) E hT (k_X6_mustBeAllowed_no hT.2.1 rfl) dX6_log_25 gX6_log_X6_mustBeAllowed rfl (by decide +kernel) ⟨rfl, rfl, by decide, by decide⟩ ⟨by decide, by decide⟩ rfl rfl (Nat.le_of_ble_eq_true rfl) (by decide) (by decide))
      | (
          refine j_xS_ok0 (n := 1) E hT.2.2 (k_X6_mustBeAllowed_ok hT.2.1 (by decide)) dX6_log_25 gX6_log_X6_mustBeAllowed rfl (by decide +kernel) ⟨rfl, rfl, by decide, by decide⟩ ⟨by decide, by decide⟩ rfl rfl (Nat.le_of_ble_eq_true rfl) ?_
          refine j_iload_n E dX6_log_28 rfl rfl ?_
          refine j_if_lt (tgt := 41) E dX6_log_29 (by decide) (fun h29 => ?_) (fun h29 => ?_)
          · refine j_iconst (v := 0) E dX6_log_41 (by decide) ?_
            first
              | exact j_o (by simp [xLoO, xMn, h1, h29]) (j_xS_out (n := 1) E hT (k_X6_mustBeAllowed_no hT.2.1 rfl) dX6_log_42 gX6_log_X6_mustBeAllowed rfl (by decide +kernel) ⟨rfl, rfl, by decide, by decide⟩ ⟨by decide, by decide⟩ rfl rfl (Nat.le_of_ble_eq_true rfl) (by decide) (by decide))
              | (
                  refine j_xS_ok0 (n := 1) E hT.2.2 (k_X6_mustBeAllowed_ok hT.2.1 (by decide)) dX6_log_42 gX6_log_X6_mustBeAllowed rfl (by decide +kernel) ⟨rfl, rfl, by decide, by decide⟩ ⟨by decide, by decide⟩ rfl rfl (Nat.le_of_ble_eq_true rfl) ?_
                  have hi1 := ix_lt (n := 16) h1 (xMn_l (Int32.not_le.mp h17)) (by decide)
                  have hi2 := ix_of (n := 3) h29 h34 (by decide)
                  have hi3 : p * 3 + w = nI (p.toNatClampNeg * 3 + w.toNatClampNeg) := by
                    rw [← nI_add, ← pk_mul, ← hi1.1, ← hi2.1]; rfl
                  refine j_aload_n E dX6_log_45 rfl rfl ?_
                  refine j_getP (ci := 6) (k := 5) (Cn := RX6) (T := TX6) (N := 10) E dX6_log_46 hx1 hx2 rfl (by decide) hinX6 (by decide +kernel) rfl hx8 ?_
                  refine j_getP (ci := 0) (k := 0) (Cn := RX0) (T := TX0) (N := 2) E dX6_log_49 hg1 hg2 rfl (by decide) hinX0 (by decide +kernel) rfl hg3 ?_
                  refine j_iload_n E dX6_log_52 rfl rfl ?_
                  refine j_iconst (v := 3) E dX6_log_53 (by decide) ?_
                  refine j_imul E dX6_log_54 ?_
                  refine j_iload_n E dX6_log_55 rfl rfl ?_
                  refine j_iadd E dX6_log_56 ?_
                  refine j_iald E dX6_log_57 hv1 hv3 hi3 (show p.toNatClampNeg * 3 + w.toNatClampNeg < 48 by have := hi1.2; have := hi2.2; omega) (by decide) hv2 ?_
                  refine j_o ?_ (jX_ret (j_widen (by decide) (by decide) (j_iret E dX6_log_58 rfl rfl rfl)))
                  simp [xLoO, xMn, h1, h29]
                )
          · refine j_iload_n E dX6_log_32 rfl rfl ?_
            refine j_iconst (v := 3) E dX6_log_33 (by decide) ?_
            refine j_icmp_ge (tgt := 41) E dX6_log_34 (by decide) (fun h34 => ?_) (fun h34 => ?_)
            · refine j_iconst (v := 0) E dX6_log_41 (by decide) ?_
              first
                | exact j_o (by simp [xLoO, xMn, h1, h29, h34]) (j_xS_out (n := 1) E hT (k_X6_mustBeAllowed_no hT.2.1 rfl) dX6_log_42 gX6_log_X6_mustBeAllowed rfl (by decide +kernel) ⟨rfl, rfl, by decide, by decide⟩ ⟨by decide, by decide⟩ rfl rfl (Nat.le_of_ble_eq_true rfl) (by decide) (by decide))
                | (
                    refine j_xS_ok0 (n := 1) E hT.2.2 (k_X6_mustBeAllowed_ok hT.2.1 (by decide)) dX6_log_42 gX6_log_X6_mustBeAllowed rfl (by decide +kernel) ⟨rfl, rfl, by decide, by decide⟩ ⟨by decide, by decide⟩ rfl rfl (Nat.le_of_ble_eq_true rfl) ?_
                    have hi1 := ix_lt (n := 16) h1 (xMn_l (Int32.not_le.mp h17)) (by decide)
                    have hi2 := ix_of (n := 3) h29 h34 (by decide)
                    have hi3 : p * 3 + w = nI (p.toNatClampNeg * 3 + w.toNatClampNeg) := by
                      rw [← nI_add, ← pk_mul, ← hi1.1, ← hi2.1]; rfl
                    refine j_aload_n E dX6_log_45 rfl rfl ?_
                    refine j_getP (ci := 6) (k := 5) (Cn := RX6) (T := TX6) (N := 10) E dX6_log_46 hx1 hx2 rfl (by decide) hinX6 (by decide +kernel) rfl hx8 ?_
                    refine j_getP (ci := 0) (k := 0) (Cn := RX0) (T := TX0) (N := 2) E dX6_log_49 hg1 hg2 rfl (by decide) hinX0 (by decide +kernel) rfl hg3 ?_
                    refine j_iload_n E dX6_log_52 rfl rfl ?_
                    refine j_iconst (v := 3) E dX6_log_53 (by decide) ?_
                    refine j_imul E dX6_log_54 ?_
                    refine j_iload_n E dX6_log_55 rfl rfl ?_
                    refine j_iadd E dX6_log_56 ?_
                    refine j_iald E dX6_log_57 hv1 hv3 hi3 (show p.toNatClampNeg * 3 + w.toNatClampNeg < 48 by have := hi1.2; have := hi2.2; omega) (by decide) hv2 ?_
                    refine j_o ?_ (jX_ret (j_widen (by decide) (by decide) (j_iret E dX6_log_58 rfl rfl rfl)))
                    simp [xLoO, xMn, h1, h29, h34]
                  )
            · refine j_iconst (v := 1) E dX6_log_37 (by decide) ?_
              refine j_goto (tgt := 42) E dX6_log_38 (by decide) ?_
              first
                | exact j_o (by simp [xLoO, xMn, h1, h29, h34]) (j_xS_out (n := 1) E hT (k_X6_mustBeAllowed_no hT.2.1 rfl) dX6_log_42 gX6_log_X6_mustBeAllowed rfl (by decide +kernel) ⟨rfl, rfl, by decide, by decide⟩ ⟨by decide, by decide⟩ rfl rfl (Nat.le_of_ble_eq_true rfl) (by decide) (by decide))
                | (
                    refine j_xS_ok0 (n := 1) E hT.2.2 (k_X6_mustBeAllowed_ok hT.2.1 (by decide)) dX6_log_42 gX6_log_X6_mustBeAllowed rfl (by decide +kernel) ⟨rfl, rfl, by decide, by decide⟩ ⟨by decide, by decide⟩ rfl rfl (Nat.le_of_ble_eq_true rfl) ?_
                    have hi1 := ix_lt (n := 16) h1 (xMn_l (Int32.not_le.mp h17)) (by decide)
                    have hi2 := ix_of (n := 3) h29 h34 (by decide)
                    have hi3 : p * 3 + w = nI (p.toNatClampNeg * 3 + w.toNatClampNeg) := by
                      rw [← nI_add, ← pk_mul, ← hi1.1, ← hi2.1]; rfl
                    refine j_aload_n E dX6_log_45 rfl rfl ?_
                    refine j_getP (ci := 6) (k := 5) (Cn := RX6) (T := TX6) (N := 10) E dX6_log_46 hx1 hx2 rfl (by decide) hinX6 (by decide +kernel) rfl hx8 ?_
                    refine j_getP (ci := 0) (k := 0) (Cn := RX0) (T := TX0) (N := 2) E dX6_log_49 hg1 hg2 rfl (by decide) hinX0 (by decide +kernel) rfl hg3 ?_
                    refine j_iload_n E dX6_log_52 rfl rfl ?_
                    refine j_iconst (v := 3) E dX6_log_53 (by decide) ?_
                    refine j_imul E dX6_log_54 ?_
                    refine j_iload_n E dX6_log_55 rfl rfl ?_
                    refine j_iadd E dX6_log_56 ?_
                    refine j_iald E dX6_log_57 hv1 hv3 hi3 (show p.toNatClampNeg * 3 + w.toNatClampNeg < 48 by have := hi1.2; have := hi2.2; omega) (by decide) hv2 ?_
                    refine j_o ?_ (jX_ret (j_widen (by decide) (by decide) (j_iret E dX6_log_58 rfl rfl rfl)))
                    simp [xLoO, xMn, h1, h29, h34]
                  )
        )
  · refine j_iload_n E dX6_log_4 rfl rfl ?_
    refine j_aload_n E dX6_log_5 rfl rfl ?_
    refine j_getP (ci := 6) (k := 5) (Cn := RX6) (T := TX6) (N := 10) E dX6_log_6 hx1 hx2 rfl (by decide) hinX6 (by decide +kernel) rfl hx8 ?_
    refine j_getI (ci := 0) (k := 1) (Cn := RX0) (T := TX0) (N := 2) E dX6_log_9 hg1 hg2 rfl (by decide) hinX0 (by decide +kernel) rfl ?_
    refine j_bipush (v := 16) E dX6_log_12 (by decide) ?_
    refine j_min E dX6_log_14 (by decide +kernel) (by decide +kernel) (by decide +kernel) (by decide +kernel) (by decide) (Nat.le_of_ble_eq_true rfl) (by decide) (by decide) ?_
    refine j_icmp_ge (tgt := 24) E dX6_log_17 (by decide) (fun h17 => ?_) (fun h17 => ?_)
    · refine j_iconst (v := 0) E dX6_log_24 (by decide) ?_
      first
        | exact j_o (by simp [xLoO, xMn, h1, h17]) (j_xS_out (n := 1) E hT (k_X6_mustBeAllowed_no hT.2.1 rfl) dX6_log_25 gX6_log_X6_mustBeAllowed rfl (by decide +kernel) ⟨rfl, rfl, by decide, by decide⟩ ⟨by decide, by decide⟩ rfl rfl (Nat.le_of_ble_eq_true rfl) (by decide) (by decide))
        | (
            refine j_xS_ok0 (n := 1) E hT.2.2 (k_X6_mustBeAllowed_ok hT.2.1 (by decide)) dX6_log_25 gX6_log_X6_mustBeAllowed rfl (by decide +kernel) ⟨rfl, rfl, by decide, by decide⟩ ⟨by decide, by decide⟩ rfl rfl (Nat.le_of_ble_eq_true rfl) ?_
            refine j_iload_n E dX6_log_28 rfl rfl ?_
            refine j_if_lt (tgt := 41) E dX6_log_29 (by decide) (fun h29 => ?_) (fun h29 => ?_)
            · refine j_iconst (v := 0) E dX6_log_41 (by decide) ?_
              first
                | exact j_o (by simp [xLoO, xMn, h1, h17, h29]) (j_xS_out (n := 1) E hT (k_X6_mustBeAllowed_no hT.2.1 rfl) dX6_log_42 gX6_log_X6_mustBeAllowed rfl (by decide +kernel) ⟨rfl, rfl, by decide, by decide⟩ ⟨by decide, by decide⟩ rfl rfl (Nat.le_of_ble_eq_true rfl) (by decide) (by decide))
                | (
                    refine j_xS_ok0 (n := 1) E hT.2.2 (k_X6_mustBeAllowed_ok hT.2.1 (by decide)) dX6_log_42 gX6_log_X6_mustBeAllowed rfl (by decide +kernel) ⟨rfl, rfl, by decide, by decide⟩ ⟨by decide, by decide⟩ rfl rfl (Nat.le_of_ble_eq_true rfl) ?_
                    have hi1 := ix_lt (n := 16) h1 (xMn_l (Int32.not_le.mp h17)) (by decide)
                    have hi2 := ix_of (n := 3) h29 h34 (by decide)
                    have hi3 : p * 3 + w = nI (p.toNatClampNeg * 3 + w.toNatClampNeg) := by
                      rw [← nI_add, ← pk_mul, ← hi1.1, ← hi2.1]; rfl
                    refine j_aload_n E dX6_log_45 rfl rfl ?_
                    refine j_getP (ci := 6) (k := 5) (Cn := RX6) (T := TX6) (N := 10) E dX6_log_46 hx1 hx2 rfl (by decide) hinX6 (by decide +kernel) rfl hx8 ?_
                    refine j_getP (ci := 0) (k := 0) (Cn := RX0) (T := TX0) (N := 2) E dX6_log_49 hg1 hg2 rfl (by decide) hinX0 (by decide +kernel) rfl hg3 ?_
                    refine j_iload_n E dX6_log_52 rfl rfl ?_
                    refine j_iconst (v := 3) E dX6_log_53 (by decide) ?_
                    refine j_imul E dX6_log_54 ?_
                    refine j_iload_n E dX6_log_55 rfl rfl ?_
                    refine j_iadd E dX6_log_56 ?_
                    refine j_iald E dX6_log_57 hv1 hv3 hi3 (show p.toNatClampNeg * 3 + w.toNatClampNeg < 48 by have := hi1.2; have := hi2.2; omega) (by decide) hv2 ?_
                    refine j_o ?_ (jX_ret (j_widen (by decide) (by decide) (j_iret E dX6_log_58 rfl rfl rfl)))
                    simp [xLoO, xMn, h1, h17, h29]
                  )
            · refine j_iload_n E dX6_log_32 rfl rfl ?_
              refine j_iconst (v := 3) E dX6_log_33 (by decide) ?_
              refine j_icmp_ge (tgt := 41) E dX6_log_34 (by decide) (fun h34 => ?_) (fun h34 => ?_)
              · refine j_iconst (v := 0) E dX6_log_41 (by decide) ?_
                first
                  | exact j_o (by simp [xLoO, xMn, h1, h17, h29, h34]) (j_xS_out (n := 1) E hT (k_X6_mustBeAllowed_no hT.2.1 rfl) dX6_log_42 gX6_log_X6_mustBeAllowed rfl (by decide +kernel) ⟨rfl, rfl, by decide, by decide⟩ ⟨by decide, by decide⟩ rfl rfl (Nat.le_of_ble_eq_true rfl) (by decide) (by decide))
                  | (
                      refine j_xS_ok0 (n := 1) E hT.2.2 (k_X6_mustBeAllowed_ok hT.2.1 (by decide)) dX6_log_42 gX6_log_X6_mustBeAllowed rfl (by decide +kernel) ⟨rfl, rfl, by decide, by decide⟩ ⟨by decide, by decide⟩ rfl rfl (Nat.le_of_ble_eq_true rfl) ?_
                      have hi1 := ix_lt (n := 16) h1 (xMn_l (Int32.not_le.mp h17)) (by decide)
                      have hi2 := ix_of (n := 3) h29 h34 (by decide)
                      have hi3 : p * 3 + w = nI (p.toNatClampNeg * 3 + w.toNatClampNeg) := by
                        rw [← nI_add, ← pk_mul, ← hi1.1, ← hi2.1]; rfl
                      refine j_aload_n E dX6_log_45 rfl rfl ?_
                      refine j_getP (ci := 6) (k := 5) (Cn := RX6) (T := TX6) (N := 10) E dX6_log_46 hx1 hx2 rfl (by decide) hinX6 (by decide +kernel) rfl hx8 ?_
                      refine j_getP (ci := 0) (k := 0) (Cn := RX0) (T := TX0) (N := 2) E dX6_log_49 hg1 hg2 rfl (by decide) hinX0 (by decide +kernel) rfl hg3 ?_
                      refine j_iload_n E dX6_log_52 rfl rfl ?_
                      refine j_iconst (v := 3) E dX6_log_53 (by decide) ?_
                      refine j_imul E dX6_log_54 ?_
                      refine j_iload_n E dX6_log_55 rfl rfl ?_
                      refine j_iadd E dX6_log_56 ?_
                      refine j_iald E dX6_log_57 hv1 hv3 hi3 (show p.toNatClampNeg * 3 + w.toNatClampNeg < 48 by have := hi1.2; have := hi2.2; omega) (by decide) hv2 ?_
                      refine j_o ?_ (jX_ret (j_widen (by decide) (by decide) (j_iret E dX6_log_58 rfl rfl rfl)))
                      simp [xLoO, xMn, h1, h17, h29, h34]
                    )
              · refine j_iconst (v := 1) E dX6_log_37 (by decide) ?_
                refine j_goto (tgt := 42) E dX6_log_38 (by decide) ?_
                first
                  | exact j_o (by simp [xLoO, xMn, h1, h17, h29, h34]) (j_xS_out (n := 1) E hT (k_X6_mustBeAllowed_no hT.2.1 rfl) dX6_log_42 gX6_log_X6_mustBeAllowed rfl (by decide +kernel) ⟨rfl, rfl, by decide, by decide⟩ ⟨by decide, by decide⟩ rfl rfl (Nat.le_of_ble_eq_true rfl) (by decide) (by decide))
                  | (
                      refine j_xS_ok0 (n := 1) E hT.2.2 (k_X6_mustBeAllowed_ok hT.2.1 (by decide)) dX6_log_42 gX6_log_X6_mustBeAllowed rfl (by decide +kernel) ⟨rfl, rfl, by decide, by decide⟩ ⟨by decide, by decide⟩ rfl rfl (Nat.le_of_ble_eq_true rfl) ?_
                      have hi1 := ix_lt (n := 16) h1 (xMn_l (Int32.not_le.mp h17)) (by decide)
                      have hi2 := ix_of (n := 3) h29 h34 (by decide)
                      have hi3 : p * 3 + w = nI (p.toNatClampNeg * 3 + w.toNatClampNeg) := by
                        rw [← nI_add, ← pk_mul, ← hi1.1, ← hi2.1]; rfl
                      refine j_aload_n E dX6_log_45 rfl rfl ?_
                      refine j_getP (ci := 6) (k := 5) (Cn := RX6) (T := TX6) (N := 10) E dX6_log_46 hx1 hx2 rfl (by decide) hinX6 (by decide +kernel) rfl hx8 ?_
                      refine j_getP (ci := 0) (k := 0) (Cn := RX0) (T := TX0) (N := 2) E dX6_log_49 hg1 hg2 rfl (by decide) hinX0 (by decide +kernel) rfl hg3 ?_
                      refine j_iload_n E dX6_log_52 rfl rfl ?_
                      refine j_iconst (v := 3) E dX6_log_53 (by decide) ?_
                      refine j_imul E dX6_log_54 ?_
                      refine j_iload_n E dX6_log_55 rfl rfl ?_
                      refine j_iadd E dX6_log_56 ?_
                      refine j_iald E dX6_log_57 hv1 hv3 hi3 (show p.toNatClampNeg * 3 + w.toNatClampNeg < 48 by have := hi1.2; have := hi2.2; omega) (by decide) hv2 ?_
                      refine j_o ?_ (jX_ret (j_widen (by decide) (by decide) (j_iret E dX6_log_58 rfl rfl rfl)))
                      simp [xLoO, xMn, h1, h17, h29, h34]
                    )
          )
    · refine j_iconst (v := 1) E dX6_log_20 (by decide) ?_
      refine j_goto (tgt := 25) E dX6_log_21 (by decide) ?_
      first
        | exact j_o (by simp [xLoO, xMn, h1, h17]) (j_xS_out (n := 1) E hT (k_X6_mustBeAllowed_no hT.2.1 rfl) dX6_log_25 gX6_log_X6_mustBeAllowed rfl (by decide +kernel) ⟨rfl, rfl, by decide, by decide⟩ ⟨by decide, by decide⟩ rfl rfl (Nat.le_of_ble_eq_true rfl) (by decide) (by decide))
        | (
            refine j_xS_ok0 (n := 1) E hT.2.2 (k_X6_mustBeAllowed_ok hT.2.1 (by decide)) dX6_log_25 gX6_log_X6_mustBeAllowed rfl (by decide +kernel) ⟨rfl, rfl, by decide, by decide⟩ ⟨by decide, by decide⟩ rfl rfl (Nat.le_of_ble_eq_true rfl) ?_
            refine j_iload_n E dX6_log_28 rfl rfl ?_
            refine j_if_lt (tgt := 41) E dX6_log_29 (by decide) (fun h29 => ?_) (fun h29 => ?_)
            · refine j_iconst (v := 0) E dX6_log_41 (by decide) ?_
              first
                | exact j_o (by simp [xLoO, xMn, h1, h17, h29]) (j_xS_out (n := 1) E hT (k_X6_mustBeAllowed_no hT.2.1 rfl) dX6_log_42 gX6_log_X6_mustBeAllowed rfl (by decide +kernel) ⟨rfl, rfl, by decide, by decide⟩ ⟨by decide, by decide⟩ rfl rfl (Nat.le_of_ble_eq_true rfl) (by decide) (by decide))
                | (
                    refine j_xS_ok0 (n := 1) E hT.2.2 (k_X6_mustBeAllowed_ok hT.2.1 (by decide)) dX6_log_42 gX6_log_X6_mustBeAllowed rfl (by decide +kernel) ⟨rfl, rfl, by decide, by decide⟩ ⟨by decide, by decide⟩ rfl rfl (Nat.le_of_ble_eq_true rfl) ?_
                    have hi1 := ix_lt (n := 16) h1 (xMn_l (Int32.not_le.mp h17)) (by decide)
                    have hi2 := ix_of (n := 3) h29 h34 (by decide)
                    have hi3 : p * 3 + w = nI (p.toNatClampNeg * 3 + w.toNatClampNeg) := by
                      rw [← nI_add, ← pk_mul, ← hi1.1, ← hi2.1]; rfl
                    refine j_aload_n E dX6_log_45 rfl rfl ?_
                    refine j_getP (ci := 6) (k := 5) (Cn := RX6) (T := TX6) (N := 10) E dX6_log_46 hx1 hx2 rfl (by decide) hinX6 (by decide +kernel) rfl hx8 ?_
                    refine j_getP (ci := 0) (k := 0) (Cn := RX0) (T := TX0) (N := 2) E dX6_log_49 hg1 hg2 rfl (by decide) hinX0 (by decide +kernel) rfl hg3 ?_
                    refine j_iload_n E dX6_log_52 rfl rfl ?_
                    refine j_iconst (v := 3) E dX6_log_53 (by decide) ?_
                    refine j_imul E dX6_log_54 ?_
                    refine j_iload_n E dX6_log_55 rfl rfl ?_
                    refine j_iadd E dX6_log_56 ?_
                    refine j_iald E dX6_log_57 hv1 hv3 hi3 (show p.toNatClampNeg * 3 + w.toNatClampNeg < 48 by have := hi1.2; have := hi2.2; omega) (by decide) hv2 ?_
                    refine j_o ?_ (jX_ret (j_widen (by decide) (by decide) (j_iret E dX6_log_58 rfl rfl rfl)))
                    simp [xLoO, xMn, h1, h17, h29]
                  )
            · refine j_iload_n E dX6_log_32 rfl rfl ?_
              refine j_iconst (v := 3) E dX6_log_33 (by decide) ?_
              refine j_icmp_ge (tgt := 41) E dX6_log_34 (by decide) (fun h34 => ?_) (fun h34 => ?_)
              · refine j_iconst (v := 0) E dX6_log_41 (by decide) ?_
                first
                  | exact j_o (by simp [xLoO, xMn, h1, h17, h29, h34]) (j_xS_out (n := 1) E hT (k_X6_mustBeAllowed_no hT.2.1 rfl) dX6_log_42 gX6_log_X6_mustBeAllowed rfl (by decide +kernel) ⟨rfl, rfl, by decide, by decide⟩ ⟨by decide, by decide⟩ rfl rfl (Nat.le_of_ble_eq_true rfl) (by decide) (by decide))
                  | (
                      refine j_xS_ok0 (n := 1) E hT.2.2 (k_X6_mustBeAllowed_ok hT.2.1 (by decide)) dX6_log_42 gX6_log_X6_mustBeAllowed rfl (by decide +kernel) ⟨rfl, rfl, by decide, by decide⟩ ⟨by decide, by decide⟩ rfl rfl (Nat.le_of_ble_eq_true rfl) ?_
                      have hi1 := ix_lt (n := 16) h1 (xMn_l (Int32.not_le.mp h17)) (by decide)
                      have hi2 := ix_of (n := 3) h29 h34 (by decide)
                      have hi3 : p * 3 + w = nI (p.toNatClampNeg * 3 + w.toNatClampNeg) := by
                        rw [← nI_add, ← pk_mul, ← hi1.1, ← hi2.1]; rfl
                      refine j_aload_n E dX6_log_45 rfl rfl ?_
                      refine j_getP (ci := 6) (k := 5) (Cn := RX6) (T := TX6) (N := 10) E dX6_log_46 hx1 hx2 rfl (by decide) hinX6 (by decide +kernel) rfl hx8 ?_
                      refine j_getP (ci := 0) (k := 0) (Cn := RX0) (T := TX0) (N := 2) E dX6_log_49 hg1 hg2 rfl (by decide) hinX0 (by decide +kernel) rfl hg3 ?_
                      refine j_iload_n E dX6_log_52 rfl rfl ?_
                      refine j_iconst (v := 3) E dX6_log_53 (by decide) ?_
                      refine j_imul E dX6_log_54 ?_
                      refine j_iload_n E dX6_log_55 rfl rfl ?_
                      refine j_iadd E dX6_log_56 ?_
                      refine j_iald E dX6_log_57 hv1 hv3 hi3 (show p.toNatClampNeg * 3 + w.toNatClampNeg < 48 by have := hi1.2; have := hi2.2; omega) (by decide) hv2 ?_
                      refine j_o ?_ (jX_ret (j_widen (by decide) (by decide) (j_iret E dX6_log_58 rfl rfl rfl)))
                      simp [xLoO, xMn, h1, h17, h29, h34]
                    )
              · refine j_iconst (v := 1) E dX6_log_37 (by decide) ?_
                refine j_goto (tgt := 42) E dX6_log_38 (by decide) ?_
                first
                  | exact j_o (by simp [xLoO, xMn, h1, h17, h29, h34]) (j_xS_out (n := 1) E hT (k_X6_mustBeAllowed_no hT.2.1 rfl) dX6_log_42 gX6_log_X6_mustBeAllowed rfl (by decide +kernel) ⟨rfl, rfl, by decide, by decide⟩ ⟨by decide, by decide⟩ rfl rfl (Nat.le_of_ble_eq_true rfl) (by decide) (by decide))
                  | (
                      refine j_xS_ok0 (n := 1) E hT.2.2 (k_X6_mustBeAllowed_ok hT.2.1 (by decide)) dX6_log_42 gX6_log_X6_mustBeAllowed rfl (by decide +kernel) ⟨rfl, rfl, by decide, by decide⟩ ⟨by decide, by decide⟩ rfl rfl (Nat.le_of_ble_eq_true rfl) ?_
                      have hi1 := ix_lt (n := 16) h1 (xMn_l (Int32.not_le.mp h17)) (by decide)
                      have hi2 := ix_of (n := 3) h29 h34 (by decide)
                      have hi3 : p * 3 + w = nI (p.toNatClampNeg * 3 + w.toNatClampNeg) := by
                        rw [← nI_add, ← pk_mul, ← hi1.1, ← hi2.1]; rfl
                      refine j_aload_n E dX6_log_45 rfl rfl ?_
                      refine j_getP (ci := 6) (k := 5) (Cn := RX6) (T := TX6) (N := 10) E dX6_log_46 hx1 hx2 rfl (by decide) hinX6 (by decide +kernel) rfl hx8 ?_
                      refine j_getP (ci := 0) (k := 0) (Cn := RX0) (T := TX0) (N := 2) E dX6_log_49 hg1 hg2 rfl (by decide) hinX0 (by decide +kernel) rfl hg3 ?_
                      refine j_iload_n E dX6_log_52 rfl rfl ?_
                      refine j_iconst (v := 3) E dX6_log_53 (by decide) ?_
                      refine j_imul E dX6_log_54 ?_
                      refine j_iload_n E dX6_log_55 rfl rfl ?_
                      refine j_iadd E dX6_log_56 ?_
                      refine j_iald E dX6_log_57 hv1 hv3 hi3 (show p.toNatClampNeg * 3 + w.toNatClampNeg < 48 by have := hi1.2; have := hi2.2; omega) (by decide) hv2 ?_
                      refine j_o ?_ (jX_ret (j_widen (by decide) (by decide) (j_iret E dX6_log_58 rfl rfl rfl)))
                      simp [xLoO, xMn, h1, h17, h29, h34]
                    )
          )

set_option maxHeartbeats 1600000 in
set_option maxRecDepth 100000 in
theorem k_X6_count {l : Launch} (hlt : l.stackTraces = false) {D : va_G} {cy : Nat → ClassId} {X : va_W} {G : pG} {M : pM} {a : Nat → Nat} {w : Int32} (hX : wX G a) : jKX l yX6_count wsX6_count ({ frames := 6, cells := 1, slots := 6, locals := 90 } : Room) D cy X G M [.ref (a 0), .int w] (xCoO a M w) 1 6 := by
  refine jKX_of hlt (own := RX6) (by decide) rfl rfl (Nat.le_of_ble_eq_true rfl) (fun C E hT hl hD hcy hG => ?_)
  subst hl; subst hD; subst hcy; subst hG
  have hinX6 : ∀ w ∈ u_ws RX6 TX6 10, w ∈ wsX6_count := by decide +kernel
  have hinX1 : ∀ w ∈ u_ws RX1 TX1 3, w ∈ wsX6_count := by decide +kernel
  have hX0 := hX
  obtain ⟨⟨hx1, hx2, hx3, hx4, hx5, hx6, hx7, hx8⟩, hRing, ⟨hz1, hz2, hz3, hz⟩, ⟨hu1, hu2, hu3, hu⟩, ⟨ho1, ho2, ho3⟩, hPad, hLog⟩ := hX
  have hRing0 := hRing
  obtain ⟨⟨hr1, hr2, hr3, hr4⟩, ⟨hp1, hp2, hp3⟩, ⟨hw1, hw2, hw3⟩, hpl⟩ := hRing
  have hLog0 := hLog
  obtain ⟨hg1, hg2, hg3, hv1, hv2, hv3⟩ := hLog
  have hPad0 := hPad
  obtain ⟨hP1, hP2, hP3, hT1, hT2, hT3⟩ := hPad
  refine j_iload_n E dX6_count_0 rfl rfl ?_
  refine j_table (lo := 0) (hi := 5) (tgt := 81) E dX6_count_1 (by decide) (by decide) (fun h => ?_) (fun k h1 h2 e => ?_)
  · have n0 : ¬ w = 0 := by rintro rfl; rcases h with h | h <;> exact absurd h (by decide)
    have n1 : ¬ w = 1 := by rintro rfl; rcases h with h | h <;> exact absurd h (by decide)
    have n2 : ¬ w = 2 := by rintro rfl; rcases h with h | h <;> exact absurd h (by decide)
    have n3 : ¬ w = 3 := by rintro rfl; rcases h with h | h <;> exact absurd h (by decide)
    have n4 : ¬ w = 4 := by rintro rfl; rcases h with h | h <;> exact absurd h (by decide)
    have n5 : ¬ w = 5 := by rintro rfl; rcases h with h | h <;> exact absurd h (by decide)
    exact j_o (by simp [xCoO, n0, n1, n2, n3, n4, n5]) (j_throw (cls := xIAE) (names := ["java/lang/RuntimeException", "java/lang/Exception"]) E hT (by decide +kernel) (by decide +kernel) (by decide +kernel) (by decide +kernel) hT.2.2.2.2.2.1 (by decide +kernel) (by decide +kernel) (by decide +kernel) dX6_count_81 dX6_count_84 dX6_count_85 dX6_count_87 dX6_count_90 (by decide) (Nat.le_of_ble_eq_true rfl) (by decide) (by decide) (by decide) (by decide))
  · obtain rfl | rfl | rfl | rfl | rfl | rfl : k = 0 ∨ k = 1 ∨ k = 2 ∨ k = 3 ∨ k = 4 ∨ k = 5 := by omega
    · refine j_tabIn (off := 39) (tgt := 40) E dX6_count_1 (by rw [e]; decide) (by rw [e]; decide) (by rw [e]; rfl) (by decide) ?_
      refine j_aload_n E dX6_count_40 rfl rfl ?_
      refine j_getI (ci := 6) (k := 7) (Cn := RX6) (T := TX6) (N := 10) E dX6_count_41 hx1 hx2 rfl (by decide) hinX6 (by decide +kernel) rfl ?_
      refine j_o ?_ (jX_ret (j_widen (by decide) (by decide) (j_iret E dX6_count_44 rfl rfl rfl)))
      simp [xCoO, show w = 0 from e]
    · refine j_tabIn (off := 44) (tgt := 45) E dX6_count_1 (by rw [e]; decide) (by rw [e]; decide) (by rw [e]; rfl) (by decide) ?_
      refine j_aload_n E dX6_count_45 rfl rfl ?_
      refine j_getI (ci := 6) (k := 6) (Cn := RX6) (T := TX6) (N := 10) E dX6_count_46 hx1 hx2 rfl (by decide) hinX6 (by decide +kernel) rfl ?_
      refine j_o ?_ (jX_ret (j_widen (by decide) (by decide) (j_iret E dX6_count_49 rfl rfl rfl)))
      simp [xCoO, show w = 1 from e]
    · refine j_tabIn (off := 49) (tgt := 50) E dX6_count_1 (by rw [e]; decide) (by rw [e]; decide) (by rw [e]; rfl) (by decide) ?_
      refine j_aload_n E dX6_count_50 rfl rfl ?_
      refine j_getI (ci := 6) (k := 8) (Cn := RX6) (T := TX6) (N := 10) E dX6_count_51 hx1 hx2 rfl (by decide) hinX6 (by decide +kernel) rfl ?_
      refine j_o ?_ (jX_ret (j_widen (by decide) (by decide) (j_iret E dX6_count_54 rfl rfl rfl)))
      simp [xCoO, show w = 2 from e]
    · refine j_tabIn (off := 54) (tgt := 55) E dX6_count_1 (by rw [e]; decide) (by rw [e]; decide) (by rw [e]; rfl) (by decide) ?_
      refine j_aload_n E dX6_count_55 rfl rfl ?_
      refine j_getI (ci := 6) (k := 9) (Cn := RX6) (T := TX6) (N := 10) E dX6_count_56 hx1 hx2 rfl (by decide) hinX6 (by decide +kernel) rfl ?_
      refine j_if_eq (tgt := 66) E dX6_count_59 (by decide) (fun h59 => ?_) (fun h59 => ?_)
      · refine j_iconst (v := 0) E dX6_count_66 (by decide) ?_
        refine j_o ?_ (jX_ret (j_widen (by decide) (by decide) (j_iret E dX6_count_67 rfl rfl rfl)))
        simp [xCoO, show w = 3 from e, h59]
      · refine j_iconst (v := 1) E dX6_count_62 (by decide) ?_
        refine j_goto (tgt := 67) E dX6_count_63 (by decide) ?_
        refine j_o ?_ (jX_ret (j_widen (by decide) (by decide) (j_iret E dX6_count_67 rfl rfl rfl)))
        simp [xCoO, show w = 3 from e, h59]
    · refine j_tabIn (off := 67) (tgt := 68) E dX6_count_1 (by rw [e]; decide) (by rw [e]; decide) (by rw [e]; rfl) (by decide) ?_
      refine j_aload_n E dX6_count_68 rfl rfl ?_
      refine j_getP (ci := 6) (k := 4) (Cn := RX6) (T := TX6) (N := 10) E dX6_count_69 hx1 hx2 rfl (by decide) hinX6 (by decide +kernel) rfl hx7 ?_
      refine j_getI (ci := 1) (k := 1) (Cn := RX1) (T := TX1) (N := 3) E dX6_count_72 hP1 hP2 rfl (by decide) hinX1 (by decide +kernel) rfl ?_
      refine j_o ?_ (jX_ret (j_widen (by decide) (by decide) (j_iret E dX6_count_75 rfl rfl rfl)))
      simp [xCoO, show w = 4 from e]
    · refine j_tabIn (off := 75) (tgt := 76) E dX6_count_1 (by rw [e]; decide) (by rw [e]; decide) (by rw [e]; rfl) (by decide) ?_
      refine j_aload_n E dX6_count_76 rfl rfl ?_
      refine j_callV1 (ci := 6) (n := 0) E (k_X6_faults hX0) dX6_count_77 gX6_count_X6_faults rfl (by decide +kernel) ⟨rfl, rfl, by decide, by decide⟩ ⟨by decide, by decide⟩ hx1 hx2 rfl rfl rfl (Nat.le_of_ble_eq_true rfl) rfl ?_
      refine j_o ?_ (jX_ret (j_widen (by decide) (by decide) (j_iret E dX6_count_80 rfl rfl rfl)))
      simp [xCoO, show w = 5 from e]

